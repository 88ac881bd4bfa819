/-! CONTRACTS (printed by wip/pm/cts.py) -/
section CT56
set_option maxRecDepth 8000 in
set_option maxHeartbeats 20000000 in
theorem ct_245 {X : pm_X} {d : Nat} {h : pm_H}  (hd : 9 ≤ d)  (hb : (hs_fI h 97 19).toInt = 0) (hk : tk_ok h) (hnf : (hs_fI h 97 23).toInt ≤ (hs_fI h 97 14).toInt) (hOD : odp (hs_aI h 127) (hs_aI h 108) (hs_aI h 109) (hs_fI h 97 21).toInt (hs_fI h 97 23).toInt) : ty_M X ty_Wro d 245 [.ref 97] h (fun h1 v => v = none ∧ tk_ok h1 ∧ (hs_fI h 97 14).toInt ≤ (hs_fI h1 97 14).toInt ∧ ((hs_fI h1 97 19).toInt = 0 ∨ (hs_fI h1 97 19).toInt = 1) ∧ (hs_fI h1 97 23).toInt ≤ (hs_fI h1 97 14).toInt ∧ ((hs_fI h1 97 19).toInt = 0 → (hs_fI h 97 14).toInt + 1 ≤ (hs_fI h1 97 14).toInt ∧ odp (hs_aI h1 127) (hs_aI h1 108) (hs_aI h1 109) (hs_fI h1 97 21).toInt (hs_fI h1 97 23).toInt)) := by
  intro J H hJ
  obtain ⟨d, rfl⟩ : ∃ e, d = e + 1 := ⟨d - 1, by omega⟩
  have I := H.1 h hJ
  refine hq_M.enter (q := (⟨"TrainBearersModel", "readOrder", "()V"⟩, _, 4, none, 11, 1, pm_c245)) rfl rfl ?_
  show hq_W X d 11 false (none) pm_c245 (0, [some (.ref 97), none, none, none], [], h) (fun h' v => J h' ∧ (fun h1 v => v = none ∧ tk_ok h1 ∧ (hs_fI h 97 14).toInt ≤ (hs_fI h1 97 14).toInt ∧ ((hs_fI h1 97 19).toInt = 0 ∨ (hs_fI h1 97 19).toInt = 1) ∧ (hs_fI h1 97 23).toInt ≤ (hs_fI h1 97 14).toInt ∧ ((hs_fI h1 97 19).toInt = 0 → (hs_fI h 97 14).toInt + 1 ≤ (hs_fI h1 97 14).toInt ∧ odp (hs_aI h1 127) (hs_aI h1 108) (hs_aI h1 109) (hs_fI h1 97 21).toInt (hs_fI h1 97 23).toInt)) h' v)
  obtain ⟨q1, eq1⟩ : ∃ q : Int32, q.toInt = (hs_fI h 97 13).toInt := ⟨_, rfl⟩
  have aq1 : 0 ≤ (hs_fI h 97 13).toInt := (I.2.1 97 13 (by decide)).1
  have bq1 : (hs_fI h 97 13).toInt ≤ 400 := (I.2.1 97 13 (by decide)).2
  obtain ⟨q2, eq2⟩ : ∃ q : Int32, q.toInt = (hs_fI h 97 14).toInt := ⟨_, rfl⟩
  have aq2 : 0 ≤ (hs_fI h 97 14).toInt := (I.2.1 97 14 (by decide)).1
  have bq2 : (hs_fI h 97 14).toInt ≤ 400 := (I.2.1 97 14 (by decide)).2
  obtain ⟨q3, eq3⟩ : ∃ q : Int32, q.toInt = (hs_fI h 97 15).toInt := ⟨_, rfl⟩
  have aq3 : 0 ≤ (hs_fI h 97 15).toInt := (I.2.1 97 15 (by decide)).1
  have bq3 : (hs_fI h 97 15).toInt ≤ 400 := (I.2.1 97 15 (by decide)).2
  obtain ⟨q4, eq4⟩ : ∃ q : Int32, q.toInt = (hs_fI h 97 16).toInt := ⟨_, rfl⟩
  have aq4 := nm_lo q4
  have bq4 := nm_hi q4
  obtain ⟨q5, eq5⟩ : ∃ q : Int32, q.toInt = (hs_fI h 97 19).toInt := ⟨_, rfl⟩
  have aq5 : 0 ≤ q5.toInt ∧ q5.toInt ≤ 1 := by omega
  obtain ⟨q6, eq6⟩ : ∃ q : Int32, q.toInt = (hs_fI h 97 21).toInt := ⟨_, rfl⟩
  have aq6 : 0 ≤ (hs_fI h 97 21).toInt := (I.2.1 97 21 (by decide)).1
  have bq6 : (hs_fI h 97 21).toInt ≤ 12 := (I.2.1 97 21 (by decide)).2
  obtain ⟨q7, eq7⟩ : ∃ q : Int32, q.toInt = (hs_fI h 97 23).toInt := ⟨_, rfl⟩
  have aq7 : 0 ≤ (hs_fI h 97 23).toInt := (I.2.1 97 23 (by decide)).1
  have bq7 : (hs_fI h 97 23).toInt ≤ 400 := (I.2.1 97 23 (by decide)).2
  obtain ⟨q8, eq8⟩ : ∃ q : Int32, q.toInt = (hs_fI h 97 26).toInt := ⟨_, rfl⟩
  have aq8 : 0 ≤ (hs_fI h 97 26).toInt := (I.2.1 97 26 (by decide)).1
  have bq8 : (hs_fI h 97 26).toInt ≤ 50 := (I.2.1 97 26 (by decide)).2
  obtain ⟨q9, eq9⟩ : ∃ q : Int64, q.toInt = (hs_fL h 97 17).toInt := ⟨_, rfl⟩
  have aq9 := nm_llo q9
  have bq9 := nm_lhi q9
  have t1 := hk.1
  have t2 := hk.2.1
  refine hq_p rfl rfl (ty_ge (n := -1) nk_im1 (fun z10 ez10 => ?_))
  refine hq_p (ls' := [some (.ref 97), some (.int z10), none, none]) rfl rfl ?_
  refine hq_p rfl rfl (ty_ge (n := 0) nk_i0 (fun z11 ez11 => ?_))
  refine hq_p (ls' := [some (.ref 97), some (.int z10), some (.int z11), none]) rfl rfl ?_
  have L4_n26 : ∀ n26 : Nat, ∀ (y22 : Int32) (y23 : Int32), (4 - y23.toInt).toNat = n26 → -1 ≤ y22.toInt → y22.toInt ≤ 3 → 0 ≤ y23.toInt → y23.toInt ≤ 4 → (y22.toInt ≠ -1 → (hs_fI h 97 16).toInt = 1) → hq_W X d 11 false (none) pm_c245 (4, [some (.ref 97), some (.int y22), some (.int y23), none], [], h) (fun h' v => J h' ∧ (fun h1 v => v = none ∧ tk_ok h1 ∧ (hs_fI h 97 14).toInt ≤ (hs_fI h1 97 14).toInt ∧ ((hs_fI h1 97 19).toInt = 0 ∨ (hs_fI h1 97 19).toInt = 1) ∧ (hs_fI h1 97 23).toInt ≤ (hs_fI h1 97 14).toInt ∧ ((hs_fI h1 97 19).toInt = 0 → (hs_fI h 97 14).toInt + 1 ≤ (hs_fI h1 97 14).toInt ∧ odp (hs_aI h1 127) (hs_aI h1 108) (hs_aI h1 109) (hs_fI h1 97 21).toInt (hs_fI h1 97 23).toInt)) h' v) := by
    intro n26
    induction n26 using Nat.strongRecOn with
    | ind n26 ihn26 =>
      intro y22 y23 mn26 ay22 by22 ay23 by23 x0n26
      refine hq_p rfl rfl ?_
      refine hq_p rfl rfl (ty_ge (n := 4) nk_i4 (fun z27 ez27 => ?_))
      refine ty_ige rfl (fun c28 => ?_) (fun c28 => ?_)
      · refine hq_p rfl rfl ?_
        refine hq_p rfl rfl ?_
        refine hq_p rfl rfl (ty_ge (n := -1) nk_im1 (fun z29 ez29 => ?_))
        refine ty_ieq rfl (fun c30 => ?_) (fun c30 => ?_)
        · refine hq_p rfl rfl (ty_ge (n := 0) nk_i0 (fun z31 ez31 => ?_))
          refine ty_callm 0 [(0, 97, 13), (0, 97, 21), (0, 97, 23), (0, 97, 26), (3, 127, 0), (3, 108, 0), (3, 109, 0)] (W := ty_Wro) H hJ rfl (fun _ => rfl) rfl rfl rfl (hq_pre_o I.1 (x := 97) (ci := 11) rfl (by decide) rfl rfl rfl rfl) (fun a k w => by unfold ty_Wo at w; unfold ty_Wro; omega) (by unfold ty_Wo ty_Wro; omega) (ct_175w (x1 := z31) (by omega) (by omega) (by omega) hk) ⟨⟨rfl, show ¬ ty_Wo 97 13 by unfold ty_Wo; omega⟩, ⟨rfl, show ¬ ty_Wo 97 21 by unfold ty_Wo; omega⟩, ⟨rfl, show ¬ ty_Wo 97 23 by unfold ty_Wo; omega⟩, ⟨rfl, show ¬ ty_Wo 97 26 by unfold ty_Wo; omega⟩, ⟨rfl, fun k => show ¬ ty_Wo 127 k by unfold ty_Wo; omega⟩, ⟨rfl, fun k => show ¬ ty_Wo 108 k by unfold ty_Wo; omega⟩, ⟨rfl, fun k => show ¬ ty_Wo 109 k by unfold ty_Wo; omega⟩, trivial⟩ (fun h33 _ Jh33 gh33 P32 => ?_)
          obtain ⟨gh33_0, gh33_1, gh33_2, gh33_3, gh33_4, gh33_5, gh33_6, _⟩ := gh33
          have gh33_0 : (hs_fI h33 97 13).toInt = (hs_fI h 97 13).toInt := gh33_0
          have gh33_1 : (hs_fI h33 97 21).toInt = (hs_fI h 97 21).toInt := gh33_1
          have gh33_2 : (hs_fI h33 97 23).toInt = (hs_fI h 97 23).toInt := gh33_2
          have gh33_3 : (hs_fI h33 97 26).toInt = (hs_fI h 97 26).toInt := gh33_3
          have gh33_4 : hs_aI h33 127 = hs_aI h 127 := gh33_4
          have ugh33_4 : hs_aI h33 127 = (hs_aI h 127) := gh33_4.trans rfl
          have gh33_5 : hs_aI h33 108 = hs_aI h 108 := gh33_5
          have ugh33_5 : hs_aI h33 108 = (hs_aI h 108) := gh33_5.trans rfl
          have gh33_6 : hs_aI h33 109 = hs_aI h 109 := gh33_6
          have ugh33_6 : hs_aI h33 109 = (hs_aI h 109) := gh33_6.trans rfl
          have Ih33 := H.1 h33 Jh33
          obtain ⟨rq34, kq34, fq34⟩ := P32
          subst rq34
          have t1kq34 := kq34.1
          have t2kq34 := kq34.2.1
          obtain ⟨q35, eq35⟩ : ∃ q : Int32, q.toInt = (hs_fI h33 97 14).toInt := ⟨_, rfl⟩
          have aq35 : 0 ≤ (hs_fI h33 97 14).toInt := (Ih33.2.1 97 14 (by decide)).1
          have bq35 : (hs_fI h33 97 14).toInt ≤ 400 := (Ih33.2.1 97 14 (by decide)).2
          obtain ⟨q36, eq36⟩ : ∃ q : Int32, q.toInt = (hs_fI h33 97 15).toInt := ⟨_, rfl⟩
          have aq36 : 0 ≤ (hs_fI h33 97 15).toInt := (Ih33.2.1 97 15 (by decide)).1
          have bq36 : (hs_fI h33 97 15).toInt ≤ 400 := (Ih33.2.1 97 15 (by decide)).2
          obtain ⟨q37, eq37⟩ : ∃ q : Int32, q.toInt = (hs_fI h33 97 16).toInt := ⟨_, rfl⟩
          have aq37 := nm_lo q37
          have bq37 := nm_hi q37
          obtain ⟨q38, eq38⟩ : ∃ q : Int32, q.toInt = (hs_fI h33 97 19).toInt := ⟨_, rfl⟩
          have aq38 : 0 ≤ q38.toInt ∧ q38.toInt ≤ 1 := by omega
          obtain ⟨q39, eq39⟩ : ∃ q : Int64, q.toInt = (hs_fL h33 97 17).toInt := ⟨_, rfl⟩
          have aq39 := nm_llo q39
          have bq39 := nm_lhi q39
          refine hq_p rfl rfl ?_
          refine ty_gB Ih33 rfl rfl (by decide) (by decide) rfl (fun z40 ez40 az40 bz40 => ?_)
          refine ty_zeq rfl (fun c41 => ?_) (fun c41 => ?_)
          · exfalso; omega
          · clear c41
            exact hq_W.ret rfl rfl rfl ⟨Jh33, rfl, kq34, by omega, by omega, by omega, (fun q => by exfalso; omega)⟩
        · replace c30 : y22.toInt ≠ z29.toInt := by omega
          refine hq_p rfl rfl ?_
          refine ty_gI I rfl rfl (by decide) (by decide) rfl rfl (fun z43 ez43 az43 bz43 => ?_)
          refine hq_p rfl rfl (ty_ge (n := 12) nk_b12 (fun z44 ez44 => ?_))
          refine ty_ige rfl (fun c45 => ?_) (fun c45 => ?_)
          · refine hq_p rfl rfl (ty_ge (n := 0) nk_i0 (fun z46 ez46 => ?_))
            refine ty_callm 0 [(0, 97, 13), (0, 97, 21), (0, 97, 23), (0, 97, 26), (3, 127, 0), (3, 108, 0), (3, 109, 0)] (W := ty_Wro) H hJ rfl (fun _ => rfl) rfl rfl rfl (hq_pre_o I.1 (x := 97) (ci := 11) rfl (by decide) rfl rfl rfl rfl) (fun a k w => by unfold ty_Wo at w; unfold ty_Wro; omega) (by unfold ty_Wo ty_Wro; omega) (ct_175w (x1 := z46) (by omega) (by omega) (by omega) hk) ⟨⟨rfl, show ¬ ty_Wo 97 13 by unfold ty_Wo; omega⟩, ⟨rfl, show ¬ ty_Wo 97 21 by unfold ty_Wo; omega⟩, ⟨rfl, show ¬ ty_Wo 97 23 by unfold ty_Wo; omega⟩, ⟨rfl, show ¬ ty_Wo 97 26 by unfold ty_Wo; omega⟩, ⟨rfl, fun k => show ¬ ty_Wo 127 k by unfold ty_Wo; omega⟩, ⟨rfl, fun k => show ¬ ty_Wo 108 k by unfold ty_Wo; omega⟩, ⟨rfl, fun k => show ¬ ty_Wo 109 k by unfold ty_Wo; omega⟩, trivial⟩ (fun h48 _ Jh48 gh48 P47 => ?_)
            obtain ⟨gh48_0, gh48_1, gh48_2, gh48_3, gh48_4, gh48_5, gh48_6, _⟩ := gh48
            have gh48_0 : (hs_fI h48 97 13).toInt = (hs_fI h 97 13).toInt := gh48_0
            have gh48_1 : (hs_fI h48 97 21).toInt = (hs_fI h 97 21).toInt := gh48_1
            have gh48_2 : (hs_fI h48 97 23).toInt = (hs_fI h 97 23).toInt := gh48_2
            have gh48_3 : (hs_fI h48 97 26).toInt = (hs_fI h 97 26).toInt := gh48_3
            have gh48_4 : hs_aI h48 127 = hs_aI h 127 := gh48_4
            have ugh48_4 : hs_aI h48 127 = (hs_aI h 127) := gh48_4.trans rfl
            have gh48_5 : hs_aI h48 108 = hs_aI h 108 := gh48_5
            have ugh48_5 : hs_aI h48 108 = (hs_aI h 108) := gh48_5.trans rfl
            have gh48_6 : hs_aI h48 109 = hs_aI h 109 := gh48_6
            have ugh48_6 : hs_aI h48 109 = (hs_aI h 109) := gh48_6.trans rfl
            have Ih48 := H.1 h48 Jh48
            obtain ⟨rq49, kq49, fq49⟩ := P47
            subst rq49
            have t1kq49 := kq49.1
            have t2kq49 := kq49.2.1
            obtain ⟨q50, eq50⟩ : ∃ q : Int32, q.toInt = (hs_fI h48 97 14).toInt := ⟨_, rfl⟩
            have aq50 : 0 ≤ (hs_fI h48 97 14).toInt := (Ih48.2.1 97 14 (by decide)).1
            have bq50 : (hs_fI h48 97 14).toInt ≤ 400 := (Ih48.2.1 97 14 (by decide)).2
            obtain ⟨q51, eq51⟩ : ∃ q : Int32, q.toInt = (hs_fI h48 97 15).toInt := ⟨_, rfl⟩
            have aq51 : 0 ≤ (hs_fI h48 97 15).toInt := (Ih48.2.1 97 15 (by decide)).1
            have bq51 : (hs_fI h48 97 15).toInt ≤ 400 := (Ih48.2.1 97 15 (by decide)).2
            obtain ⟨q52, eq52⟩ : ∃ q : Int32, q.toInt = (hs_fI h48 97 16).toInt := ⟨_, rfl⟩
            have aq52 := nm_lo q52
            have bq52 := nm_hi q52
            obtain ⟨q53, eq53⟩ : ∃ q : Int32, q.toInt = (hs_fI h48 97 19).toInt := ⟨_, rfl⟩
            have aq53 : 0 ≤ q53.toInt ∧ q53.toInt ≤ 1 := by omega
            obtain ⟨q54, eq54⟩ : ∃ q : Int64, q.toInt = (hs_fL h48 97 17).toInt := ⟨_, rfl⟩
            have aq54 := nm_llo q54
            have bq54 := nm_lhi q54
            refine hq_p rfl rfl ?_
            refine ty_gB Ih48 rfl rfl (by decide) (by decide) rfl (fun z55 ez55 az55 bz55 => ?_)
            refine ty_zeq rfl (fun c56 => ?_) (fun c56 => ?_)
            · exfalso; omega
            · clear c56
              exact hq_W.ret rfl rfl rfl ⟨Jh48, rfl, kq49, by omega, by omega, by omega, (fun q => by exfalso; omega)⟩
          · refine hq_p rfl rfl (ty_ge (n := 1) nk_i1 (fun z58 ez58 => ?_))
            refine hq_p rfl rfl ?_
            refine ty_callm 0 [(0, 97, 13), (0, 97, 21), (0, 97, 23), (0, 97, 26), (3, 127, 0), (3, 108, 0), (3, 109, 0)] (W := ty_Wro) H hJ rfl (fun _ => rfl) rfl rfl rfl (hq_pre_o I.1 (x := 97) (ci := 11) rfl (by decide) rfl rfl rfl rfl) (fun a k w => by unfold ty_Wo at w; unfold ty_Wro; omega) (by unfold ty_Wo ty_Wro; omega) (ct_175w (x1 := z58) (by omega) (by omega) (by omega) hk) ⟨⟨rfl, show ¬ ty_Wo 97 13 by unfold ty_Wo; omega⟩, ⟨rfl, show ¬ ty_Wo 97 21 by unfold ty_Wo; omega⟩, ⟨rfl, show ¬ ty_Wo 97 23 by unfold ty_Wo; omega⟩, ⟨rfl, show ¬ ty_Wo 97 26 by unfold ty_Wo; omega⟩, ⟨rfl, fun k => show ¬ ty_Wo 127 k by unfold ty_Wo; omega⟩, ⟨rfl, fun k => show ¬ ty_Wo 108 k by unfold ty_Wo; omega⟩, ⟨rfl, fun k => show ¬ ty_Wo 109 k by unfold ty_Wo; omega⟩, trivial⟩ (fun h60 _ Jh60 gh60 P59 => ?_)
            obtain ⟨gh60_0, gh60_1, gh60_2, gh60_3, gh60_4, gh60_5, gh60_6, _⟩ := gh60
            have gh60_0 : (hs_fI h60 97 13).toInt = (hs_fI h 97 13).toInt := gh60_0
            have gh60_1 : (hs_fI h60 97 21).toInt = (hs_fI h 97 21).toInt := gh60_1
            have gh60_2 : (hs_fI h60 97 23).toInt = (hs_fI h 97 23).toInt := gh60_2
            have gh60_3 : (hs_fI h60 97 26).toInt = (hs_fI h 97 26).toInt := gh60_3
            have gh60_4 : hs_aI h60 127 = hs_aI h 127 := gh60_4
            have ugh60_4 : hs_aI h60 127 = (hs_aI h 127) := gh60_4.trans rfl
            have gh60_5 : hs_aI h60 108 = hs_aI h 108 := gh60_5
            have ugh60_5 : hs_aI h60 108 = (hs_aI h 108) := gh60_5.trans rfl
            have gh60_6 : hs_aI h60 109 = hs_aI h 109 := gh60_6
            have ugh60_6 : hs_aI h60 109 = (hs_aI h 109) := gh60_6.trans rfl
            have Ih60 := H.1 h60 Jh60
            obtain ⟨rq61, kq61, fq61⟩ := P59
            subst rq61
            have t1kq61 := kq61.1
            have t2kq61 := kq61.2.1
            obtain ⟨q62, eq62⟩ : ∃ q : Int32, q.toInt = (hs_fI h60 97 14).toInt := ⟨_, rfl⟩
            have aq62 : 0 ≤ (hs_fI h60 97 14).toInt := (Ih60.2.1 97 14 (by decide)).1
            have bq62 : (hs_fI h60 97 14).toInt ≤ 400 := (Ih60.2.1 97 14 (by decide)).2
            obtain ⟨q63, eq63⟩ : ∃ q : Int32, q.toInt = (hs_fI h60 97 15).toInt := ⟨_, rfl⟩
            have aq63 : 0 ≤ (hs_fI h60 97 15).toInt := (Ih60.2.1 97 15 (by decide)).1
            have bq63 : (hs_fI h60 97 15).toInt ≤ 400 := (Ih60.2.1 97 15 (by decide)).2
            obtain ⟨q64, eq64⟩ : ∃ q : Int32, q.toInt = (hs_fI h60 97 16).toInt := ⟨_, rfl⟩
            have aq64 := nm_lo q64
            have bq64 := nm_hi q64
            obtain ⟨q65, eq65⟩ : ∃ q : Int32, q.toInt = (hs_fI h60 97 19).toInt := ⟨_, rfl⟩
            have aq65 : 0 ≤ q65.toInt ∧ q65.toInt ≤ 1 := by omega
            obtain ⟨q66, eq66⟩ : ∃ q : Int64, q.toInt = (hs_fL h60 97 17).toInt := ⟨_, rfl⟩
            have aq66 := nm_llo q66
            have bq66 := nm_lhi q66
            refine hq_p rfl rfl ?_
            refine ty_gB Ih60 rfl rfl (by decide) (by decide) rfl (fun z67 ez67 az67 bz67 => ?_)
            refine ty_zeq rfl (fun c68 => ?_) (fun c68 => ?_)
            · have t3 := hk.2.2.1 (by omega)
              have gF : (hs_fI h 97 14).toInt + 1 ≤ (hs_fI h60 97 14).toInt := by omega
              clear fq61
              refine hq_p rfl rfl (ty_ge (n := 8) nk_b8 (fun z69 ez69 => ?_))
              refine hq_p rfl rfl ?_
              refine ty_gI Ih60 rfl rfl (by decide) (by decide) rfl rfl (fun z70 ez70 az70 bz70 => ?_)
              refine hq_p rfl rfl (ty_ge (n := 8 * z70.toInt) (nm_cmul ez69 (by omega) (by omega)) (fun z71 ez71 => ?_))
              refine hq_p (ls' := [some (.ref 97), some (.int y22), some (.int z71), none]) rfl rfl ?_
              refine hq_p rfl rfl ?_
              refine hq_p rfl rfl ?_
              refine ty_gI Ih60 rfl rfl (by decide) (by decide) rfl rfl (fun z72 ez72 az72 bz72 => ?_)
              refine hq_p rfl rfl (ty_ge (n := 1) nk_i1 (fun z73 ez73 => ?_))
              refine hq_p rfl rfl (ty_ge (n := z72.toInt + z73.toInt) (nm_add (by omega) (by omega)) (fun z74 ez74 => ?_))
              refine ty_pI (W := ty_Wro) H Jh60 rfl rfl (by decide) rfl rfl (by unfold ty_Wro; omega) rfl (by omega) (by omega) (fun h75 eh75 Jh75 => ?_)
              have wh75 : (hs_fI h75 97 21).toInt = z74.toInt := by rw [eh75]; exact congrArg Int32.toInt (ty_fI_eq Ih60.1 rfl (by decide) rfl)
              have vh75_127 : hs_aI h75 127 = (hs_aI h 127) := by rw [eh75]; exact (hs_aI_ne (by decide)).trans ugh60_4
              have vh75_108 : hs_aI h75 108 = (hs_aI h 108) := by rw [eh75]; exact (hs_aI_ne (by decide)).trans ugh60_5
              have vh75_109 : hs_aI h75 109 = (hs_aI h 109) := by rw [eh75]; exact (hs_aI_ne (by decide)).trans ugh60_6
              have Ih75 := H.1 h75 Jh75
              refine hq_p rfl rfl (ty_ge (n := 0) nk_i0 (fun z76 ez76 => ?_))
              refine hq_p (ls' := [some (.ref 97), some (.int y22), some (.int z71), some (.int z76)]) rfl rfl ?_
              have r77 : (hs_fI h75 97 13).toInt = (hs_fI h60 97 13).toInt := by rw [eh75]; exact congrArg Int32.toInt (ty_fI_sF (by decide))
              have r78 : (hs_fI h75 97 14).toInt = (hs_fI h60 97 14).toInt := by rw [eh75]; exact congrArg Int32.toInt (ty_fI_sF (by decide))
              have r79 : (hs_fI h75 97 15).toInt = (hs_fI h60 97 15).toInt := by rw [eh75]; exact congrArg Int32.toInt (ty_fI_sF (by decide))
              have r80 : (hs_fI h75 97 16).toInt = (hs_fI h60 97 16).toInt := by rw [eh75]; exact congrArg Int32.toInt (ty_fI_sF (by decide))
              have r81 : (hs_fI h75 97 19).toInt = (hs_fI h60 97 19).toInt := by rw [eh75]; exact congrArg Int32.toInt (ty_fI_sF (by decide))
              have r82 : (hs_fI h75 97 23).toInt = (hs_fI h60 97 23).toInt := by rw [eh75]; exact congrArg Int32.toInt (ty_fI_sF (by decide))
              have r83 : (hs_fI h75 97 26).toInt = (hs_fI h60 97 26).toInt := by rw [eh75]; exact congrArg Int32.toInt (ty_fI_sF (by decide))
              have r84 : (hs_fL h75 97 17).toInt = (hs_fL h60 97 17).toInt := by rw [eh75]; exact congrArg Int64.toInt (ty_fL_sF (by decide))
              have L85_n107 : ∀ n107 : Nat, ∀ (y103 : Int32) (h104 : pm_H), (8 - y103.toInt).toNat = n107 → 0 ≤ y103.toInt → y103.toInt ≤ 8 → (∀ j, j < 8 * (hs_fI h 97 21).toInt.toNat → hs_aI h104 127 j = hs_aI h 127 j) → (∀ m : Nat, (m : Int) < y103.toInt → (hs_aI h104 127 (8 * (hs_fI h 97 21).toInt.toNat + m)).toInt = 0) → hs_aI h104 108 = hs_aI h 108 → hs_aI h104 109 = hs_aI h 109 → (hs_fI h104 97 13).toInt = (hs_fI h75 97 13).toInt → (hs_fI h104 97 14).toInt = (hs_fI h75 97 14).toInt → (hs_fI h104 97 15).toInt = (hs_fI h75 97 15).toInt → (hs_fI h104 97 16).toInt = (hs_fI h75 97 16).toInt → (hs_fI h104 97 19).toInt = (hs_fI h75 97 19).toInt → (hs_fI h104 97 21).toInt = (hs_fI h75 97 21).toInt → (hs_fI h104 97 23).toInt = (hs_fI h75 97 23).toInt → (hs_fI h104 97 26).toInt = (hs_fI h75 97 26).toInt → (hs_fL h104 97 17).toInt = (hs_fL h75 97 17).toInt → J h104 → hq_W X d 11 false (none) pm_c245 (85, [some (.ref 97), some (.int y22), some (.int z71), some (.int y103)], [], h104) (fun h' v => J h' ∧ (fun h1 v => v = none ∧ tk_ok h1 ∧ (hs_fI h 97 14).toInt ≤ (hs_fI h1 97 14).toInt ∧ ((hs_fI h1 97 19).toInt = 0 ∨ (hs_fI h1 97 19).toInt = 1) ∧ (hs_fI h1 97 23).toInt ≤ (hs_fI h1 97 14).toInt ∧ ((hs_fI h1 97 19).toInt = 0 → (hs_fI h 97 14).toInt + 1 ≤ (hs_fI h1 97 14).toInt ∧ odp (hs_aI h1 127) (hs_aI h1 108) (hs_aI h1 109) (hs_fI h1 97 21).toInt (hs_fI h1 97 23).toInt)) h' v) := by
                intro n107
                induction n107 using Nat.strongRecOn with
                | ind n107 ihn107 =>
                  intro y103 h104 mn107 ay103 by103 x0n107 x1n107 x2n107 x3n107 x4n107 x5n107 x6n107 x7n107 x8n107 x9n107 x10n107 x11n107 x12n107 Jh104
                  have Ih104 := H.1 h104 Jh104
                  refine hq_p rfl rfl ?_
                  refine hq_p rfl rfl (ty_ge (n := 8) nk_b8 (fun z108 ez108 => ?_))
                  refine ty_ige rfl (fun c109 => ?_) (fun c109 => ?_)
                  · have k110 : tk_ok h104 := tk_same kq61 (by omega) (by omega) (by omega) (by omega) (by omega)
                    have r0 : ro (hs_aI h 127) (hs_aI h 108) (hs_aI h 109) (hs_fI h 97 21).toInt.toNat (hs_fI h 97 23).toInt ((hs_fI h104 97 19).toInt = 0) (hs_aI h104 127) (hs_aI h104 108) (hs_aI h104 109) (hs_fI h104 97 23).toInt := by rw [x2n107, x3n107]; exact ro_0 (by omega) (by omega) (fun j hj => congrArg Int32.toInt (x0n107 j hj)) (fun m m0 m1 => x1n107 m (by omega))
                    refine hq_p rfl rfl ?_
                    refine hq_gR Ih104.1 rfl rfl (by decide) (by decide) rfl ?_
                    refine hq_p rfl rfl ?_
                    refine hq_p rfl rfl ?_
                    refine ty_aS (W := ty_Wro) H Jh104 rfl rfl (by decide) (by omega) (by omega) (fun i e => by unfold ty_Wro; omega) (fun _ _ => ty_eg rfl) (by omega) (by omega) (fun e1 e2 w => by omega) (fun h111 eh111 Jh111 => ?_)
                    have vh111_127 : hs_aI h111 127 = (upd (hs_aI h104 127) z71.toInt.toNat y22) := by rw [eh111, hs_aI_sA]
                    have vh111_108 : hs_aI h111 108 = (hs_aI h104 108) := by rw [eh111]; exact (hs_aI_ne (by decide)).trans rfl
                    have vh111_109 : hs_aI h111 109 = (hs_aI h104 109) := by rw [eh111]; exact (hs_aI_ne (by decide)).trans rfl
                    have Ih111 := H.1 h111 Jh111
                    have K113 : ∀ (h112 : pm_H), (ro (hs_aI h 127) (hs_aI h 108) (hs_aI h 109) (hs_fI h 97 21).toInt.toNat (hs_fI h 97 23).toInt ((hs_fI h112 97 19).toInt = 0) (hs_aI h112 127) (hs_aI h112 108) (hs_aI h112 109) (hs_fI h112 97 23).toInt) → (tk_ok h112) → ((hs_fI h 97 14).toInt + 1 ≤ (hs_fI h112 97 14).toInt) → ((hs_fI h112 97 23).toInt ≤ (hs_fI h112 97 14).toInt) → ((hs_fI h112 97 19).toInt = 0 ∨ (hs_fI h112 97 19).toInt = 1) → ((hs_fI h112 97 21).toInt = (hs_fI h 97 21).toInt + 1) → ((hs_fI h112 97 13).toInt = (hs_fI h 97 13).toInt) → J h112 → hq_W X d 11 false (none) pm_c245 (125, [some (.ref 97), some (.int y22), some (.int z71), some (.int y103)], [], h112) (fun h' v => J h' ∧ (fun h1 v => v = none ∧ tk_ok h1 ∧ (hs_fI h 97 14).toInt ≤ (hs_fI h1 97 14).toInt ∧ ((hs_fI h1 97 19).toInt = 0 ∨ (hs_fI h1 97 19).toInt = 1) ∧ (hs_fI h1 97 23).toInt ≤ (hs_fI h1 97 14).toInt ∧ ((hs_fI h1 97 19).toInt = 0 → (hs_fI h 97 14).toInt + 1 ≤ (hs_fI h1 97 14).toInt ∧ odp (hs_aI h1 127) (hs_aI h1 108) (hs_aI h1 109) (hs_fI h1 97 21).toInt (hs_fI h1 97 23).toInt)) h' v) := by
                      intro h112 j0K113 j1K113 j2K113 j3K113 j4K113 j5K113 j6K113 Jh112
                      have Ih112 := H.1 h112 Jh112
                      have K115 : ∀ (h114 : pm_H), (ro (hs_aI h 127) (hs_aI h 108) (hs_aI h 109) (hs_fI h 97 21).toInt.toNat (hs_fI h 97 23).toInt ((hs_fI h114 97 19).toInt = 0) (hs_aI h114 127) (hs_aI h114 108) (hs_aI h114 109) (hs_fI h114 97 23).toInt) → (tk_ok h114) → ((hs_fI h 97 14).toInt + 1 ≤ (hs_fI h114 97 14).toInt) → ((hs_fI h114 97 23).toInt ≤ (hs_fI h114 97 14).toInt) → ((hs_fI h114 97 19).toInt = 0 ∨ (hs_fI h114 97 19).toInt = 1) → ((hs_fI h114 97 21).toInt = (hs_fI h 97 21).toInt + 1) → ((hs_fI h114 97 13).toInt = (hs_fI h 97 13).toInt) → J h114 → hq_W X d 11 false (none) pm_c245 (154, [some (.ref 97), some (.int y22), some (.int z71), some (.int y103)], [], h114) (fun h' v => J h' ∧ (fun h1 v => v = none ∧ tk_ok h1 ∧ (hs_fI h 97 14).toInt ≤ (hs_fI h1 97 14).toInt ∧ ((hs_fI h1 97 19).toInt = 0 ∨ (hs_fI h1 97 19).toInt = 1) ∧ (hs_fI h1 97 23).toInt ≤ (hs_fI h1 97 14).toInt ∧ ((hs_fI h1 97 19).toInt = 0 → (hs_fI h 97 14).toInt + 1 ≤ (hs_fI h1 97 14).toInt ∧ odp (hs_aI h1 127) (hs_aI h1 108) (hs_aI h1 109) (hs_fI h1 97 21).toInt (hs_fI h1 97 23).toInt)) h' v) := by
                        intro h114 j0K115 j1K115 j2K115 j3K115 j4K115 j5K115 j6K115 Jh114
                        have Ih114 := H.1 h114 Jh114
                        have w1h114 := j1K115.1
                        have w2h114 := j1K115.2.1
                        obtain ⟨q116, eq116⟩ : ∃ q : Int32, q.toInt = (hs_fI h114 97 13).toInt := ⟨_, rfl⟩
                        have aq116 : 0 ≤ (hs_fI h114 97 13).toInt := (Ih114.2.1 97 13 (by decide)).1
                        have bq116 : (hs_fI h114 97 13).toInt ≤ 400 := (Ih114.2.1 97 13 (by decide)).2
                        obtain ⟨q117, eq117⟩ : ∃ q : Int32, q.toInt = (hs_fI h114 97 14).toInt := ⟨_, rfl⟩
                        have aq117 : 0 ≤ (hs_fI h114 97 14).toInt := (Ih114.2.1 97 14 (by decide)).1
                        have bq117 : (hs_fI h114 97 14).toInt ≤ 400 := (Ih114.2.1 97 14 (by decide)).2
                        obtain ⟨q118, eq118⟩ : ∃ q : Int32, q.toInt = (hs_fI h114 97 15).toInt := ⟨_, rfl⟩
                        have aq118 : 0 ≤ (hs_fI h114 97 15).toInt := (Ih114.2.1 97 15 (by decide)).1
                        have bq118 : (hs_fI h114 97 15).toInt ≤ 400 := (Ih114.2.1 97 15 (by decide)).2
                        obtain ⟨q119, eq119⟩ : ∃ q : Int32, q.toInt = (hs_fI h114 97 16).toInt := ⟨_, rfl⟩
                        have aq119 := nm_lo q119
                        have bq119 := nm_hi q119
                        obtain ⟨q120, eq120⟩ : ∃ q : Int32, q.toInt = (hs_fI h114 97 19).toInt := ⟨_, rfl⟩
                        have aq120 : 0 ≤ q120.toInt ∧ q120.toInt ≤ 1 := by omega
                        obtain ⟨q121, eq121⟩ : ∃ q : Int32, q.toInt = (hs_fI h114 97 21).toInt := ⟨_, rfl⟩
                        have aq121 : 0 ≤ (hs_fI h114 97 21).toInt := (Ih114.2.1 97 21 (by decide)).1
                        have bq121 : (hs_fI h114 97 21).toInt ≤ 12 := (Ih114.2.1 97 21 (by decide)).2
                        obtain ⟨q122, eq122⟩ : ∃ q : Int32, q.toInt = (hs_fI h114 97 23).toInt := ⟨_, rfl⟩
                        have aq122 : 0 ≤ (hs_fI h114 97 23).toInt := (Ih114.2.1 97 23 (by decide)).1
                        have bq122 : (hs_fI h114 97 23).toInt ≤ 400 := (Ih114.2.1 97 23 (by decide)).2
                        obtain ⟨q123, eq123⟩ : ∃ q : Int64, q.toInt = (hs_fL h114 97 17).toInt := ⟨_, rfl⟩
                        have aq123 := nm_llo q123
                        have bq123 := nm_lhi q123
                        refine hq_p rfl rfl ?_
                        refine hq_gR Ih114.1 rfl rfl (by decide) (by decide) rfl ?_
                        refine hq_p rfl rfl ?_
                        refine hq_p rfl rfl (ty_ge (n := 7) nk_b7 (fun z124 ez124 => ?_))
                        refine hq_p rfl rfl (ty_ge (n := z71.toInt + z124.toInt) (nm_add (by omega) (by omega)) (fun z125 ez125 => ?_))
                        refine hq_p rfl rfl (ty_ge (n := 1) nk_i1 (fun z126 ez126 => ?_))
                        refine ty_aS (W := ty_Wro) H Jh114 rfl rfl (by decide) (by omega) (by omega) (fun i e => by unfold ty_Wro; omega) (fun _ _ => ty_eg rfl) (by omega) (by omega) (fun e1 e2 w => by omega) (fun h127 eh127 Jh127 => ?_)
                        have vh127_127 : hs_aI h127 127 = (upd (hs_aI h114 127) z125.toInt.toNat z126) := by rw [eh127, hs_aI_sA]
                        have vh127_108 : hs_aI h127 108 = (hs_aI h114 108) := by rw [eh127]; exact (hs_aI_ne (by decide)).trans rfl
                        have vh127_109 : hs_aI h127 109 = (hs_aI h114 109) := by rw [eh127]; exact (hs_aI_ne (by decide)).trans rfl
                        have Ih127 := H.1 h127 Jh127
                        have K129 : ∀ (h128 : pm_H), (ro (hs_aI h 127) (hs_aI h 108) (hs_aI h 109) (hs_fI h 97 21).toInt.toNat (hs_fI h 97 23).toInt ((hs_fI h128 97 19).toInt = 0) (hs_aI h128 127) (hs_aI h128 108) (hs_aI h128 109) (hs_fI h128 97 23).toInt) → (tk_ok h128) → ((hs_fI h 97 14).toInt + 1 ≤ (hs_fI h128 97 14).toInt) → ((hs_fI h128 97 23).toInt ≤ (hs_fI h128 97 14).toInt) → ((hs_fI h128 97 19).toInt = 0 ∨ (hs_fI h128 97 19).toInt = 1) → ((hs_fI h128 97 21).toInt = (hs_fI h 97 21).toInt + 1) → ((hs_fI h128 97 13).toInt = (hs_fI h 97 13).toInt) → J h128 → hq_W X d 11 false (none) pm_c245 (202, [some (.ref 97), some (.int y22), some (.int z71), some (.int y103)], [], h128) (fun h' v => J h' ∧ (fun h1 v => v = none ∧ tk_ok h1 ∧ (hs_fI h 97 14).toInt ≤ (hs_fI h1 97 14).toInt ∧ ((hs_fI h1 97 19).toInt = 0 ∨ (hs_fI h1 97 19).toInt = 1) ∧ (hs_fI h1 97 23).toInt ≤ (hs_fI h1 97 14).toInt ∧ ((hs_fI h1 97 19).toInt = 0 → (hs_fI h 97 14).toInt + 1 ≤ (hs_fI h1 97 14).toInt ∧ odp (hs_aI h1 127) (hs_aI h1 108) (hs_aI h1 109) (hs_fI h1 97 21).toInt (hs_fI h1 97 23).toInt)) h' v) := by
                          intro h128 j0K129 j1K129 j2K129 j3K129 j4K129 j5K129 j6K129 Jh128
                          have Ih128 := H.1 h128 Jh128
                          have w1h128 := j1K129.1
                          have w2h128 := j1K129.2.1
                          obtain ⟨q130, eq130⟩ : ∃ q : Int32, q.toInt = (hs_fI h128 97 13).toInt := ⟨_, rfl⟩
                          have aq130 : 0 ≤ (hs_fI h128 97 13).toInt := (Ih128.2.1 97 13 (by decide)).1
                          have bq130 : (hs_fI h128 97 13).toInt ≤ 400 := (Ih128.2.1 97 13 (by decide)).2
                          obtain ⟨q131, eq131⟩ : ∃ q : Int32, q.toInt = (hs_fI h128 97 14).toInt := ⟨_, rfl⟩
                          have aq131 : 0 ≤ (hs_fI h128 97 14).toInt := (Ih128.2.1 97 14 (by decide)).1
                          have bq131 : (hs_fI h128 97 14).toInt ≤ 400 := (Ih128.2.1 97 14 (by decide)).2
                          obtain ⟨q132, eq132⟩ : ∃ q : Int32, q.toInt = (hs_fI h128 97 15).toInt := ⟨_, rfl⟩
                          have aq132 : 0 ≤ (hs_fI h128 97 15).toInt := (Ih128.2.1 97 15 (by decide)).1
                          have bq132 : (hs_fI h128 97 15).toInt ≤ 400 := (Ih128.2.1 97 15 (by decide)).2
                          obtain ⟨q133, eq133⟩ : ∃ q : Int32, q.toInt = (hs_fI h128 97 16).toInt := ⟨_, rfl⟩
                          have aq133 := nm_lo q133
                          have bq133 := nm_hi q133
                          obtain ⟨q134, eq134⟩ : ∃ q : Int32, q.toInt = (hs_fI h128 97 19).toInt := ⟨_, rfl⟩
                          have aq134 : 0 ≤ q134.toInt ∧ q134.toInt ≤ 1 := by omega
                          obtain ⟨q135, eq135⟩ : ∃ q : Int32, q.toInt = (hs_fI h128 97 21).toInt := ⟨_, rfl⟩
                          have aq135 : 0 ≤ (hs_fI h128 97 21).toInt := (Ih128.2.1 97 21 (by decide)).1
                          have bq135 : (hs_fI h128 97 21).toInt ≤ 12 := (Ih128.2.1 97 21 (by decide)).2
                          obtain ⟨q136, eq136⟩ : ∃ q : Int32, q.toInt = (hs_fI h128 97 23).toInt := ⟨_, rfl⟩
                          have aq136 : 0 ≤ (hs_fI h128 97 23).toInt := (Ih128.2.1 97 23 (by decide)).1
                          have bq136 : (hs_fI h128 97 23).toInt ≤ 400 := (Ih128.2.1 97 23 (by decide)).2
                          obtain ⟨q137, eq137⟩ : ∃ q : Int64, q.toInt = (hs_fL h128 97 17).toInt := ⟨_, rfl⟩
                          have aq137 := nm_llo q137
                          have bq137 := nm_lhi q137
                          refine hq_p rfl rfl ?_
                          refine hq_gR Ih128.1 rfl rfl (by decide) (by decide) rfl ?_
                          refine hq_p rfl rfl ?_
                          refine hq_p rfl rfl (ty_ge (n := 5) nk_i5 (fun z138 ez138 => ?_))
                          refine hq_p rfl rfl (ty_ge (n := z71.toInt + z138.toInt) (nm_add (by omega) (by omega)) (fun z139 ez139 => ?_))
                          refine hq_p rfl rfl ?_
                          refine ty_gI Ih128 rfl rfl (by decide) (by decide) rfl rfl (fun z140 ez140 az140 bz140 => ?_)
                          refine ty_aS (W := ty_Wro) H Jh128 rfl rfl (by decide) (by omega) (by omega) (fun i e => by unfold ty_Wro; omega) (fun _ _ => ty_eg rfl) (by omega) (by omega) (fun e1 e2 w => by omega) (fun h141 eh141 Jh141 => ?_)
                          have vh141_127 : hs_aI h141 127 = (upd (hs_aI h128 127) z139.toInt.toNat z140) := by rw [eh141, hs_aI_sA]
                          have vh141_108 : hs_aI h141 108 = (hs_aI h128 108) := by rw [eh141]; exact (hs_aI_ne (by decide)).trans rfl
                          have vh141_109 : hs_aI h141 109 = (hs_aI h128 109) := by rw [eh141]; exact (hs_aI_ne (by decide)).trans rfl
                          have Ih141 := H.1 h141 Jh141
                          refine hq_p rfl rfl ?_
                          have r143 : (hs_fI h141 97 19).toInt = (hs_fI h128 97 19).toInt := by rw [eh141]; exact congrArg Int32.toInt (ty_fI_ne (by omega))
                          refine ty_gB Ih141 rfl rfl (by decide) (by decide) rfl (fun z142 ez142 az142 bz142 => ?_)
                          refine ty_zne rfl (fun c144 => ?_) (fun c144 => ?_)
                          · replace c144 : 1 ≤ z142.toInt ∧ z142.toInt ≤ 1 := by omega
                            refine hq_p rfl rfl ?_
                            refine hq_gR Ih141.1 rfl rfl (by decide) (by decide) rfl ?_
                            refine hq_p rfl rfl ?_
                            refine hq_p rfl rfl (ty_ge (n := 6) nk_b6 (fun z145 ez145 => ?_))
                            refine hq_p rfl rfl (ty_ge (n := z71.toInt + z145.toInt) (nm_add (by omega) (by omega)) (fun z146 ez146 => ?_))
                            refine hq_p rfl rfl ?_
                            have r148 : (hs_fI h141 97 23).toInt = (hs_fI h128 97 23).toInt := by rw [eh141]; exact congrArg Int32.toInt (ty_fI_ne (by omega))
                            refine ty_gI Ih141 rfl rfl (by decide) (by decide) rfl rfl (fun z147 ez147 az147 bz147 => ?_)
                            refine ty_aS (W := ty_Wro) H Jh141 rfl rfl (by decide) (by omega) (by omega) (fun i e => by unfold ty_Wro; omega) (fun _ _ => ty_eg rfl) (by omega) (by omega) (fun e1 e2 w => by omega) (fun h149 eh149 Jh149 => ?_)
                            have vh149_127 : hs_aI h149 127 = (upd (upd (hs_aI h128 127) z139.toInt.toNat z140) z146.toInt.toNat z147) := by rw [eh149, hs_aI_sA, vh141_127]
                            have vh149_108 : hs_aI h149 108 = (hs_aI h128 108) := by rw [eh149]; exact (hs_aI_ne (by decide)).trans vh141_108
                            have vh149_109 : hs_aI h149 109 = (hs_aI h128 109) := by rw [eh149]; exact (hs_aI_ne (by decide)).trans vh141_109
                            have Ih149 := H.1 h149 Jh149
                            have r150 : (hs_fI h141 97 13).toInt = (hs_fI h128 97 13).toInt := by rw [eh141]; exact congrArg Int32.toInt (ty_fI_ne (by omega))
                            have r151 : (hs_fI h149 97 13).toInt = (hs_fI h141 97 13).toInt := by rw [eh149]; exact congrArg Int32.toInt (ty_fI_ne (by omega))
                            have r152 : (hs_fI h141 97 14).toInt = (hs_fI h128 97 14).toInt := by rw [eh141]; exact congrArg Int32.toInt (ty_fI_ne (by omega))
                            have r153 : (hs_fI h149 97 14).toInt = (hs_fI h141 97 14).toInt := by rw [eh149]; exact congrArg Int32.toInt (ty_fI_ne (by omega))
                            have r154 : (hs_fI h141 97 15).toInt = (hs_fI h128 97 15).toInt := by rw [eh141]; exact congrArg Int32.toInt (ty_fI_ne (by omega))
                            have r155 : (hs_fI h149 97 15).toInt = (hs_fI h141 97 15).toInt := by rw [eh149]; exact congrArg Int32.toInt (ty_fI_ne (by omega))
                            have r156 : (hs_fI h141 97 16).toInt = (hs_fI h128 97 16).toInt := by rw [eh141]; exact congrArg Int32.toInt (ty_fI_ne (by omega))
                            have r157 : (hs_fI h149 97 16).toInt = (hs_fI h141 97 16).toInt := by rw [eh149]; exact congrArg Int32.toInt (ty_fI_ne (by omega))
                            have r158 : (hs_fI h149 97 19).toInt = (hs_fI h141 97 19).toInt := by rw [eh149]; exact congrArg Int32.toInt (ty_fI_ne (by omega))
                            have r159 : (hs_fI h141 97 21).toInt = (hs_fI h128 97 21).toInt := by rw [eh141]; exact congrArg Int32.toInt (ty_fI_ne (by omega))
                            have r160 : (hs_fI h149 97 21).toInt = (hs_fI h141 97 21).toInt := by rw [eh149]; exact congrArg Int32.toInt (ty_fI_ne (by omega))
                            have r161 : (hs_fI h149 97 23).toInt = (hs_fI h141 97 23).toInt := by rw [eh149]; exact congrArg Int32.toInt (ty_fI_ne (by omega))
                            have r162 : (hs_fL h141 97 17).toInt = (hs_fL h128 97 17).toInt := by rw [eh141]; exact congrArg Int64.toInt (ty_fL_ne (by omega))
                            have r163 : (hs_fL h149 97 17).toInt = (hs_fL h141 97 17).toInt := by rw [eh149]; exact congrArg Int64.toInt (ty_fL_ne (by omega))
                            have k164 : tk_ok h149 := tk_same j1K129 (by omega) (by omega) (by omega) (by omega) (by omega)
                            have rf : ro (hs_aI h 127) (hs_aI h 108) (hs_aI h 109) (hs_fI h 97 21).toInt.toNat (hs_fI h 97 23).toInt ((hs_fI h149 97 19).toInt = 0) (hs_aI h149 127) (hs_aI h149 108) (hs_aI h149 109) (hs_fI h149 97 23).toInt := by rw [vh149_127, vh149_108, vh149_109, show (hs_fI h149 97 23).toInt = (hs_fI h141 97 23).toInt by omega]; exact ro_sum j0K129 (by omega) (by omega) (by omega) (by omega) (by omega) (by omega) (fun q => ⟨by omega, cw_nil (by omega), fun k _ => ⟨rfl, rfl⟩⟩)
                            have fin : (hs_fI h149 97 19).toInt = 0 → (hs_fI h 97 14).toInt + 1 ≤ (hs_fI h149 97 14).toInt ∧ odp (hs_aI h149 127) (hs_aI h149 108) (hs_aI h149 109) (hs_fI h149 97 21).toInt (hs_fI h149 97 23).toInt := fun q => ⟨by omega, odp_s (c := (hs_fI h 97 21).toInt.toNat) hOD (by omega) rf.2.1 (rf.2.2 q).1 rf.1 (by omega) (rf.2.2 q).2⟩
                            exact hq_W.ret rfl rfl rfl ⟨Jh149, rfl, k164, by omega, by omega, by omega, fin⟩
                          · refine hq_p rfl rfl ?_
                            refine hq_p rfl rfl (ty_gle (n := 294) (by decide) (fun z165 ez165 => ?_))
                            refine ty_callp 0 Ih141 rfl (fun _ => rfl) rfl rfl rfl (hq_pre_o Ih141.1 (x := 97) (ci := 11) rfl (by decide) rfl rfl rfl rfl) (ct_173w (x1 := z165) (by omega)) (fun _ P166 => ?_)
                            obtain ⟨z167, rfl, az167, bz167, iz167⟩ := P166
                            refine ty_zeq rfl (fun c168 => ?_) (fun c168 => ?_)
                            · clear iz167
                              refine hq_p rfl rfl ?_
                              refine hq_gR Ih141.1 rfl rfl (by decide) (by decide) rfl ?_
                              refine hq_p rfl rfl ?_
                              refine hq_p rfl rfl (ty_ge (n := 6) nk_b6 (fun z169 ez169 => ?_))
                              refine hq_p rfl rfl (ty_ge (n := z71.toInt + z169.toInt) (nm_add (by omega) (by omega)) (fun z170 ez170 => ?_))
                              refine hq_p rfl rfl ?_
                              have r172 : (hs_fI h141 97 23).toInt = (hs_fI h128 97 23).toInt := by rw [eh141]; exact congrArg Int32.toInt (ty_fI_ne (by omega))
                              refine ty_gI Ih141 rfl rfl (by decide) (by decide) rfl rfl (fun z171 ez171 az171 bz171 => ?_)
                              refine ty_aS (W := ty_Wro) H Jh141 rfl rfl (by decide) (by omega) (by omega) (fun i e => by unfold ty_Wro; omega) (fun _ _ => ty_eg rfl) (by omega) (by omega) (fun e1 e2 w => by omega) (fun h173 eh173 Jh173 => ?_)
                              have vh173_127 : hs_aI h173 127 = (upd (upd (hs_aI h128 127) z139.toInt.toNat z140) z170.toInt.toNat z171) := by rw [eh173, hs_aI_sA, vh141_127]
                              have vh173_108 : hs_aI h173 108 = (hs_aI h128 108) := by rw [eh173]; exact (hs_aI_ne (by decide)).trans vh141_108
                              have vh173_109 : hs_aI h173 109 = (hs_aI h128 109) := by rw [eh173]; exact (hs_aI_ne (by decide)).trans vh141_109
                              have Ih173 := H.1 h173 Jh173
                              have r174 : (hs_fI h141 97 13).toInt = (hs_fI h128 97 13).toInt := by rw [eh141]; exact congrArg Int32.toInt (ty_fI_ne (by omega))
                              have r175 : (hs_fI h173 97 13).toInt = (hs_fI h141 97 13).toInt := by rw [eh173]; exact congrArg Int32.toInt (ty_fI_ne (by omega))
                              have r176 : (hs_fI h141 97 14).toInt = (hs_fI h128 97 14).toInt := by rw [eh141]; exact congrArg Int32.toInt (ty_fI_ne (by omega))
                              have r177 : (hs_fI h173 97 14).toInt = (hs_fI h141 97 14).toInt := by rw [eh173]; exact congrArg Int32.toInt (ty_fI_ne (by omega))
                              have r178 : (hs_fI h141 97 15).toInt = (hs_fI h128 97 15).toInt := by rw [eh141]; exact congrArg Int32.toInt (ty_fI_ne (by omega))
                              have r179 : (hs_fI h173 97 15).toInt = (hs_fI h141 97 15).toInt := by rw [eh173]; exact congrArg Int32.toInt (ty_fI_ne (by omega))
                              have r180 : (hs_fI h141 97 16).toInt = (hs_fI h128 97 16).toInt := by rw [eh141]; exact congrArg Int32.toInt (ty_fI_ne (by omega))
                              have r181 : (hs_fI h173 97 16).toInt = (hs_fI h141 97 16).toInt := by rw [eh173]; exact congrArg Int32.toInt (ty_fI_ne (by omega))
                              have r182 : (hs_fI h173 97 19).toInt = (hs_fI h141 97 19).toInt := by rw [eh173]; exact congrArg Int32.toInt (ty_fI_ne (by omega))
                              have r183 : (hs_fI h141 97 21).toInt = (hs_fI h128 97 21).toInt := by rw [eh141]; exact congrArg Int32.toInt (ty_fI_ne (by omega))
                              have r184 : (hs_fI h173 97 21).toInt = (hs_fI h141 97 21).toInt := by rw [eh173]; exact congrArg Int32.toInt (ty_fI_ne (by omega))
                              have r185 : (hs_fI h173 97 23).toInt = (hs_fI h141 97 23).toInt := by rw [eh173]; exact congrArg Int32.toInt (ty_fI_ne (by omega))
                              have r186 : (hs_fL h141 97 17).toInt = (hs_fL h128 97 17).toInt := by rw [eh141]; exact congrArg Int64.toInt (ty_fL_ne (by omega))
                              have r187 : (hs_fL h173 97 17).toInt = (hs_fL h141 97 17).toInt := by rw [eh173]; exact congrArg Int64.toInt (ty_fL_ne (by omega))
                              have k188 : tk_ok h173 := tk_same j1K129 (by omega) (by omega) (by omega) (by omega) (by omega)
                              have rf : ro (hs_aI h 127) (hs_aI h 108) (hs_aI h 109) (hs_fI h 97 21).toInt.toNat (hs_fI h 97 23).toInt ((hs_fI h173 97 19).toInt = 0) (hs_aI h173 127) (hs_aI h173 108) (hs_aI h173 109) (hs_fI h173 97 23).toInt := by rw [vh173_127, vh173_108, vh173_109, show (hs_fI h173 97 23).toInt = (hs_fI h141 97 23).toInt by omega]; exact ro_sum j0K129 (by omega) (by omega) (by omega) (by omega) (by omega) (by omega) (fun q => ⟨by omega, cw_nil (by omega), fun k _ => ⟨rfl, rfl⟩⟩)
                              have fin : (hs_fI h173 97 19).toInt = 0 → (hs_fI h 97 14).toInt + 1 ≤ (hs_fI h173 97 14).toInt ∧ odp (hs_aI h173 127) (hs_aI h173 108) (hs_aI h173 109) (hs_fI h173 97 21).toInt (hs_fI h173 97 23).toInt := fun q => ⟨by omega, odp_s (c := (hs_fI h 97 21).toInt.toNat) hOD (by omega) rf.2.1 (rf.2.2 q).1 rf.1 (by omega) (rf.2.2 q).2⟩
                              exact hq_W.ret rfl rfl rfl ⟨Jh173, rfl, k188, by omega, by omega, by omega, fin⟩
                            · replace c168 : 1 ≤ z167.toInt ∧ z167.toInt ≤ 1 := by omega
                              have f189 := iz167 (by omega)
                              clear iz167
                              refine hq_p rfl rfl ?_
                              have r190 : (hs_fI h141 97 13).toInt = (hs_fI h128 97 13).toInt := by rw [eh141]; exact congrArg Int32.toInt (ty_fI_ne (by omega))
                              have r191 : (hs_fI h141 97 14).toInt = (hs_fI h128 97 14).toInt := by rw [eh141]; exact congrArg Int32.toInt (ty_fI_ne (by omega))
                              have r192 : (hs_fI h141 97 15).toInt = (hs_fI h128 97 15).toInt := by rw [eh141]; exact congrArg Int32.toInt (ty_fI_ne (by omega))
                              have r193 : (hs_fI h141 97 16).toInt = (hs_fI h128 97 16).toInt := by rw [eh141]; exact congrArg Int32.toInt (ty_fI_ne (by omega))
                              have r194 : (hs_fI h141 97 21).toInt = (hs_fI h128 97 21).toInt := by rw [eh141]; exact congrArg Int32.toInt (ty_fI_ne (by omega))
                              have r195 : (hs_fI h141 97 23).toInt = (hs_fI h128 97 23).toInt := by rw [eh141]; exact congrArg Int32.toInt (ty_fI_ne (by omega))
                              have r196 : (hs_fL h141 97 17).toInt = (hs_fL h128 97 17).toInt := by rw [eh141]; exact congrArg Int64.toInt (ty_fL_ne (by omega))
                              have k197 : tk_ok h141 := tk_same j1K129 (by omega) (by omega) (by omega) (by omega) (by omega)
                              refine ty_callm 0 [(0, 97, 13), (0, 97, 19), (0, 97, 21), (0, 97, 23), (3, 127, 0), (3, 108, 0), (3, 109, 0)] (W := ty_Wro) H Jh141 rfl (fun _ => rfl) rfl rfl rfl (hq_pre_o Ih141.1 (x := 97) (ci := 11) rfl (by decide) rfl rfl rfl rfl) (fun a k w => by unfold ty_Wn at w; unfold ty_Wro; omega) (by unfold ty_Wn ty_Wro; omega) (ct_172w (by omega) (by omega)) ⟨⟨rfl, show ¬ ty_Wn 97 13 by unfold ty_Wn; omega⟩, ⟨rfl, show ¬ ty_Wn 97 19 by unfold ty_Wn; omega⟩, ⟨rfl, show ¬ ty_Wn 97 21 by unfold ty_Wn; omega⟩, ⟨rfl, show ¬ ty_Wn 97 23 by unfold ty_Wn; omega⟩, ⟨rfl, fun k => show ¬ ty_Wn 127 k by unfold ty_Wn; omega⟩, ⟨rfl, fun k => show ¬ ty_Wn 108 k by unfold ty_Wn; omega⟩, ⟨rfl, fun k => show ¬ ty_Wn 109 k by unfold ty_Wn; omega⟩, trivial⟩ (fun h199 _ Jh199 gh199 P198 => ?_)
                              obtain ⟨gh199_0, gh199_1, gh199_2, gh199_3, gh199_4, gh199_5, gh199_6, _⟩ := gh199
                              have gh199_0 : (hs_fI h199 97 13).toInt = (hs_fI h141 97 13).toInt := gh199_0
                              have gh199_1 : (hs_fI h199 97 19).toInt = (hs_fI h141 97 19).toInt := gh199_1
                              have gh199_2 : (hs_fI h199 97 21).toInt = (hs_fI h141 97 21).toInt := gh199_2
                              have gh199_3 : (hs_fI h199 97 23).toInt = (hs_fI h141 97 23).toInt := gh199_3
                              have gh199_4 : hs_aI h199 127 = hs_aI h141 127 := gh199_4
                              have ugh199_4 : hs_aI h199 127 = (upd (hs_aI h128 127) z139.toInt.toNat z140) := gh199_4.trans vh141_127
                              have gh199_5 : hs_aI h199 108 = hs_aI h141 108 := gh199_5
                              have ugh199_5 : hs_aI h199 108 = (hs_aI h128 108) := gh199_5.trans vh141_108
                              have gh199_6 : hs_aI h199 109 = hs_aI h141 109 := gh199_6
                              have ugh199_6 : hs_aI h199 109 = (hs_aI h128 109) := gh199_6.trans vh141_109
                              have Ih199 := H.1 h199 Jh199
                              obtain ⟨rq200, fq200, kq200⟩ := P198
                              subst rq200
                              have t1kq200 := kq200.1
                              have t2kq200 := kq200.2.1
                              obtain ⟨q201, eq201⟩ : ∃ q : Int32, q.toInt = (hs_fI h199 97 14).toInt := ⟨_, rfl⟩
                              have aq201 : 0 ≤ (hs_fI h199 97 14).toInt := (Ih199.2.1 97 14 (by decide)).1
                              have bq201 : (hs_fI h199 97 14).toInt ≤ 400 := (Ih199.2.1 97 14 (by decide)).2
                              obtain ⟨q202, eq202⟩ : ∃ q : Int32, q.toInt = (hs_fI h199 97 15).toInt := ⟨_, rfl⟩
                              have aq202 : 0 ≤ (hs_fI h199 97 15).toInt := (Ih199.2.1 97 15 (by decide)).1
                              have bq202 : (hs_fI h199 97 15).toInt ≤ 400 := (Ih199.2.1 97 15 (by decide)).2
                              obtain ⟨q203, eq203⟩ : ∃ q : Int32, q.toInt = (hs_fI h199 97 16).toInt := ⟨_, rfl⟩
                              have aq203 := nm_lo q203
                              have bq203 := nm_hi q203
                              obtain ⟨q204, eq204⟩ : ∃ q : Int64, q.toInt = (hs_fL h199 97 17).toInt := ⟨_, rfl⟩
                              have aq204 := nm_llo q204
                              have bq204 := nm_lhi q204
                              refine hq_p rfl rfl ?_
                              refine hq_p rfl rfl (ty_ge (n := 1) nk_i1 (fun z205 ez205 => ?_))
                              refine ty_callm 0 [(0, 97, 13), (0, 97, 21), (3, 127, 0)] (W := ty_Wro) H Jh199 rfl (fun _ => rfl) rfl rfl rfl (hq_pre_o Ih199.1 (x := 97) (ci := 11) rfl (by decide) rfl rfl rfl rfl) (fun a k w => by unfold ty_Wps at w; unfold ty_Wro; omega) (by unfold ty_Wps ty_Wro; omega) (ct_192 (x1 := z205) (by omega) (by omega) (by omega) (by omega) kq200 (by omega)) ⟨⟨rfl, show ¬ ty_Wps 97 13 by unfold ty_Wps; omega⟩, ⟨rfl, show ¬ ty_Wps 97 21 by unfold ty_Wps; omega⟩, ⟨rfl, fun k => show ¬ ty_Wps 127 k by unfold ty_Wps; omega⟩, trivial⟩ (fun h208 _ Jh208 gh208 P207 => ?_)
                              obtain ⟨gh208_0, gh208_1, gh208_2, _⟩ := gh208
                              have gh208_0 : (hs_fI h208 97 13).toInt = (hs_fI h199 97 13).toInt := gh208_0
                              have gh208_1 : (hs_fI h208 97 21).toInt = (hs_fI h199 97 21).toInt := gh208_1
                              have gh208_2 : hs_aI h208 127 = hs_aI h199 127 := gh208_2
                              have ugh208_2 : hs_aI h208 127 = (upd (hs_aI h128 127) z139.toInt.toNat z140) := gh208_2.trans ugh199_4
                              have Ih208 := H.1 h208 Jh208
                              obtain ⟨rq209, kq209, fq209, oq209, nq209, mq209, cq209⟩ := P207
                              subst rq209
                              obtain ⟨q210, eq210⟩ : ∃ q : Int32, q.toInt = (hs_fI h208 97 14).toInt := ⟨_, rfl⟩
                              have aq210 : 0 ≤ (hs_fI h208 97 14).toInt := (Ih208.2.1 97 14 (by decide)).1
                              have bq210 : (hs_fI h208 97 14).toInt ≤ 400 := (Ih208.2.1 97 14 (by decide)).2
                              obtain ⟨q211, eq211⟩ : ∃ q : Int32, q.toInt = (hs_fI h208 97 15).toInt := ⟨_, rfl⟩
                              have aq211 : 0 ≤ (hs_fI h208 97 15).toInt := (Ih208.2.1 97 15 (by decide)).1
                              have bq211 : (hs_fI h208 97 15).toInt ≤ 400 := (Ih208.2.1 97 15 (by decide)).2
                              obtain ⟨q212, eq212⟩ : ∃ q : Int32, q.toInt = (hs_fI h208 97 16).toInt := ⟨_, rfl⟩
                              have aq212 := nm_lo q212
                              have bq212 := nm_hi q212
                              obtain ⟨q213, eq213⟩ : ∃ q : Int32, q.toInt = (hs_fI h208 97 19).toInt := ⟨_, rfl⟩
                              have aq213 : 0 ≤ q213.toInt ∧ q213.toInt ≤ 1 := by omega
                              obtain ⟨q214, eq214⟩ : ∃ q : Int32, q.toInt = (hs_fI h208 97 23).toInt := ⟨_, rfl⟩
                              have aq214 : 0 ≤ (hs_fI h208 97 23).toInt := (Ih208.2.1 97 23 (by decide)).1
                              have bq214 : (hs_fI h208 97 23).toInt ≤ 400 := (Ih208.2.1 97 23 (by decide)).2
                              obtain ⟨q215, eq215⟩ : ∃ q : Int32, q.toInt = (hs_fI h208 97 29).toInt := ⟨_, rfl⟩
                              have aq215 : 0 ≤ (hs_fI h208 97 29).toInt := (Ih208.2.1 97 29 (by decide)).1
                              have bq215 : (hs_fI h208 97 29).toInt ≤ 400 := (Ih208.2.1 97 29 (by decide)).2
                              obtain ⟨q216, eq216⟩ : ∃ q : Int32, q.toInt = (hs_fI h208 97 30).toInt := ⟨_, rfl⟩
                              have aq216 : 0 ≤ (hs_fI h208 97 30).toInt := (Ih208.2.1 97 30 (by decide)).1
                              have bq216 : (hs_fI h208 97 30).toInt ≤ 8 := (Ih208.2.1 97 30 (by decide)).2
                              obtain ⟨q217, eq217⟩ : ∃ q : Int64, q.toInt = (hs_fL h208 97 17).toInt := ⟨_, rfl⟩
                              have aq217 := nm_llo q217
                              have bq217 := nm_lhi q217
                              have t1kq209 := kq209.1
                              have t2kq209 := kq209.2.1
                              refine hq_p rfl rfl ?_
                              refine hq_gR Ih208.1 rfl rfl (by decide) (by decide) rfl ?_
                              refine hq_p rfl rfl ?_
                              refine hq_p rfl rfl (ty_ge (n := 6) nk_b6 (fun z218 ez218 => ?_))
                              refine hq_p rfl rfl (ty_ge (n := z71.toInt + z218.toInt) (nm_add (by omega) (by omega)) (fun z219 ez219 => ?_))
                              refine hq_p rfl rfl ?_
                              refine ty_gI Ih208 rfl rfl (by decide) (by decide) rfl rfl (fun z220 ez220 az220 bz220 => ?_)
                              refine ty_aS (W := ty_Wro) H Jh208 rfl rfl (by decide) (by omega) (by omega) (fun i e => by unfold ty_Wro; omega) (fun _ _ => ty_eg rfl) (by omega) (by omega) (fun e1 e2 w => by omega) (fun h221 eh221 Jh221 => ?_)
                              have vh221_127 : hs_aI h221 127 = (upd (upd (hs_aI h128 127) z139.toInt.toNat z140) z219.toInt.toNat z220) := by rw [eh221, hs_aI_sA, ugh208_2]
                              have vh221_108 : hs_aI h221 108 = (hs_aI h208 108) := by rw [eh221]; exact (hs_aI_ne (by decide)).trans rfl
                              have vh221_109 : hs_aI h221 109 = (hs_aI h208 109) := by rw [eh221]; exact (hs_aI_ne (by decide)).trans rfl
                              have Ih221 := H.1 h221 Jh221
                              have r222 : (hs_fI h221 97 13).toInt = (hs_fI h208 97 13).toInt := by rw [eh221]; exact congrArg Int32.toInt (ty_fI_ne (by omega))
                              have r223 : (hs_fI h221 97 14).toInt = (hs_fI h208 97 14).toInt := by rw [eh221]; exact congrArg Int32.toInt (ty_fI_ne (by omega))
                              have r224 : (hs_fI h221 97 15).toInt = (hs_fI h208 97 15).toInt := by rw [eh221]; exact congrArg Int32.toInt (ty_fI_ne (by omega))
                              have r225 : (hs_fI h221 97 16).toInt = (hs_fI h208 97 16).toInt := by rw [eh221]; exact congrArg Int32.toInt (ty_fI_ne (by omega))
                              have r226 : (hs_fI h221 97 19).toInt = (hs_fI h208 97 19).toInt := by rw [eh221]; exact congrArg Int32.toInt (ty_fI_ne (by omega))
                              have r227 : (hs_fI h221 97 21).toInt = (hs_fI h208 97 21).toInt := by rw [eh221]; exact congrArg Int32.toInt (ty_fI_ne (by omega))
                              have r228 : (hs_fI h221 97 23).toInt = (hs_fI h208 97 23).toInt := by rw [eh221]; exact congrArg Int32.toInt (ty_fI_ne (by omega))
                              have r229 : (hs_fI h221 97 29).toInt = (hs_fI h208 97 29).toInt := by rw [eh221]; exact congrArg Int32.toInt (ty_fI_ne (by omega))
                              have r230 : (hs_fI h221 97 30).toInt = (hs_fI h208 97 30).toInt := by rw [eh221]; exact congrArg Int32.toInt (ty_fI_ne (by omega))
                              have r231 : (hs_fL h221 97 17).toInt = (hs_fL h208 97 17).toInt := by rw [eh221]; exact congrArg Int64.toInt (ty_fL_ne (by omega))
                              have k232 : tk_ok h221 := tk_same kq209 (by omega) (by omega) (by omega) (by omega) (by omega)
                              have rf : ro (hs_aI h 127) (hs_aI h 108) (hs_aI h 109) (hs_fI h 97 21).toInt.toNat (hs_fI h 97 23).toInt ((hs_fI h221 97 19).toInt = 0) (hs_aI h221 127) (hs_aI h221 108) (hs_aI h221 109) (hs_fI h221 97 23).toInt := by rw [vh221_127, vh221_108, vh221_109, show (hs_fI h221 97 23).toInt = (hs_fI h208 97 23).toInt by omega]; exact ro_sum j0K129 (by omega) (by omega) (by omega) (by omega) (by omega) (by omega) (fun q => by have c := cq209 (by omega); rw [ugh199_5, ugh199_6, show (hs_fI h199 97 23).toInt = (hs_fI h128 97 23).toInt by omega] at c; exact ⟨by omega, c.1, fun k hk => c.2 k (by omega)⟩)
                              have fin : (hs_fI h221 97 19).toInt = 0 → (hs_fI h 97 14).toInt + 1 ≤ (hs_fI h221 97 14).toInt ∧ odp (hs_aI h221 127) (hs_aI h221 108) (hs_aI h221 109) (hs_fI h221 97 21).toInt (hs_fI h221 97 23).toInt := fun q => ⟨by omega, odp_s (c := (hs_fI h 97 21).toInt.toNat) hOD (by omega) rf.2.1 (rf.2.2 q).1 rf.1 (by omega) (rf.2.2 q).2⟩
                              exact hq_W.ret rfl rfl rfl ⟨Jh221, rfl, k232, by omega, by omega, by omega, fin⟩
                        have r233 : (hs_fI h127 97 13).toInt = (hs_fI h114 97 13).toInt := by rw [eh127]; exact congrArg Int32.toInt (ty_fI_ne (by omega))
                        have r234 : (hs_fI h127 97 14).toInt = (hs_fI h114 97 14).toInt := by rw [eh127]; exact congrArg Int32.toInt (ty_fI_ne (by omega))
                        have r235 : (hs_fI h127 97 15).toInt = (hs_fI h114 97 15).toInt := by rw [eh127]; exact congrArg Int32.toInt (ty_fI_ne (by omega))
                        have r236 : (hs_fI h127 97 16).toInt = (hs_fI h114 97 16).toInt := by rw [eh127]; exact congrArg Int32.toInt (ty_fI_ne (by omega))
                        have r237 : (hs_fI h127 97 19).toInt = (hs_fI h114 97 19).toInt := by rw [eh127]; exact congrArg Int32.toInt (ty_fI_ne (by omega))
                        have r238 : (hs_fI h127 97 21).toInt = (hs_fI h114 97 21).toInt := by rw [eh127]; exact congrArg Int32.toInt (ty_fI_ne (by omega))
                        have r239 : (hs_fI h127 97 23).toInt = (hs_fI h114 97 23).toInt := by rw [eh127]; exact congrArg Int32.toInt (ty_fI_ne (by omega))
                        have r240 : (hs_fL h127 97 17).toInt = (hs_fL h114 97 17).toInt := by rw [eh127]; exact congrArg Int64.toInt (ty_fL_ne (by omega))
                        have r241 : ro (hs_aI h 127) (hs_aI h 108) (hs_aI h 109) (hs_fI h 97 21).toInt.toNat (hs_fI h 97 23).toInt ((hs_fI h127 97 19).toInt = 0) (hs_aI h127 127) (hs_aI h127 108) (hs_aI h127 109) (hs_fI h127 97 23).toInt := by rw [vh127_127, vh127_108, vh127_109, show (hs_fI h127 97 23).toInt = (hs_fI h114 97 23).toInt by omega]; exact ro_w j0K115 (fun q => by omega) (Or.inl ⟨by omega, fun _ => by omega⟩)
                        have k242 : tk_ok h127 := tk_same j1K115 (by omega) (by omega) (by omega) (by omega) (by omega)
                        refine hq_p rfl rfl ?_
                        refine ty_gB Ih127 rfl rfl (by decide) (by decide) rfl (fun z243 ez243 az243 bz243 => ?_)
                        refine ty_zne rfl (fun c244 => ?_) (fun c244 => ?_)
                        · replace c244 : 1 ≤ z243.toInt ∧ z243.toInt ≤ 1 := by omega
                          exact K129 h127 r241 k242 (by omega) (by omega) (by omega) (by omega) (by omega) Jh127
                        · refine hq_p rfl rfl ?_
                          refine hq_p rfl rfl (ty_gle (n := 21279923) (by decide) (fun z246 ez246 => ?_))
                          refine ty_callp 0 Ih127 rfl (fun _ => rfl) rfl rfl rfl (hq_pre_o Ih127.1 (x := 97) (ci := 11) rfl (by decide) rfl rfl rfl rfl) (ct_173w (x1 := z246) (by omega)) (fun _ P247 => ?_)
                          obtain ⟨z248, rfl, az248, bz248, iz248⟩ := P247
                          refine ty_zeq rfl (fun c249 => ?_) (fun c249 => ?_)
                          · clear iz248
                            exact K129 h127 r241 k242 (by omega) (by omega) (by omega) (by omega) (by omega) Jh127
                          · replace c249 : 1 ≤ z248.toInt ∧ z248.toInt ≤ 1 := by omega
                            have f251 := iz248 (by omega)
                            clear iz248
                            refine hq_p rfl rfl ?_
                            refine ty_callm 0 [(0, 97, 13), (0, 97, 19), (0, 97, 21), (0, 97, 23), (3, 127, 0), (3, 108, 0), (3, 109, 0)] (W := ty_Wro) H Jh127 rfl (fun _ => rfl) rfl rfl rfl (hq_pre_o Ih127.1 (x := 97) (ci := 11) rfl (by decide) rfl rfl rfl rfl) (fun a k w => by unfold ty_Wn at w; unfold ty_Wro; omega) (by unfold ty_Wn ty_Wro; omega) (ct_172w (by omega) (by omega)) ⟨⟨rfl, show ¬ ty_Wn 97 13 by unfold ty_Wn; omega⟩, ⟨rfl, show ¬ ty_Wn 97 19 by unfold ty_Wn; omega⟩, ⟨rfl, show ¬ ty_Wn 97 21 by unfold ty_Wn; omega⟩, ⟨rfl, show ¬ ty_Wn 97 23 by unfold ty_Wn; omega⟩, ⟨rfl, fun k => show ¬ ty_Wn 127 k by unfold ty_Wn; omega⟩, ⟨rfl, fun k => show ¬ ty_Wn 108 k by unfold ty_Wn; omega⟩, ⟨rfl, fun k => show ¬ ty_Wn 109 k by unfold ty_Wn; omega⟩, trivial⟩ (fun h254 _ Jh254 gh254 P253 => ?_)
                            obtain ⟨gh254_0, gh254_1, gh254_2, gh254_3, gh254_4, gh254_5, gh254_6, _⟩ := gh254
                            have gh254_0 : (hs_fI h254 97 13).toInt = (hs_fI h127 97 13).toInt := gh254_0
                            have gh254_1 : (hs_fI h254 97 19).toInt = (hs_fI h127 97 19).toInt := gh254_1
                            have gh254_2 : (hs_fI h254 97 21).toInt = (hs_fI h127 97 21).toInt := gh254_2
                            have gh254_3 : (hs_fI h254 97 23).toInt = (hs_fI h127 97 23).toInt := gh254_3
                            have gh254_4 : hs_aI h254 127 = hs_aI h127 127 := gh254_4
                            have ugh254_4 : hs_aI h254 127 = (hs_aI h127 127) := gh254_4.trans rfl
                            have gh254_5 : hs_aI h254 108 = hs_aI h127 108 := gh254_5
                            have ugh254_5 : hs_aI h254 108 = (hs_aI h127 108) := gh254_5.trans rfl
                            have gh254_6 : hs_aI h254 109 = hs_aI h127 109 := gh254_6
                            have ugh254_6 : hs_aI h254 109 = (hs_aI h127 109) := gh254_6.trans rfl
                            have Ih254 := H.1 h254 Jh254
                            obtain ⟨rq255, fq255, kq255⟩ := P253
                            subst rq255
                            have t1kq255 := kq255.1
                            have t2kq255 := kq255.2.1
                            obtain ⟨q256, eq256⟩ : ∃ q : Int32, q.toInt = (hs_fI h254 97 14).toInt := ⟨_, rfl⟩
                            have aq256 : 0 ≤ (hs_fI h254 97 14).toInt := (Ih254.2.1 97 14 (by decide)).1
                            have bq256 : (hs_fI h254 97 14).toInt ≤ 400 := (Ih254.2.1 97 14 (by decide)).2
                            obtain ⟨q257, eq257⟩ : ∃ q : Int32, q.toInt = (hs_fI h254 97 15).toInt := ⟨_, rfl⟩
                            have aq257 : 0 ≤ (hs_fI h254 97 15).toInt := (Ih254.2.1 97 15 (by decide)).1
                            have bq257 : (hs_fI h254 97 15).toInt ≤ 400 := (Ih254.2.1 97 15 (by decide)).2
                            obtain ⟨q258, eq258⟩ : ∃ q : Int32, q.toInt = (hs_fI h254 97 16).toInt := ⟨_, rfl⟩
                            have aq258 := nm_lo q258
                            have bq258 := nm_hi q258
                            obtain ⟨q259, eq259⟩ : ∃ q : Int64, q.toInt = (hs_fL h254 97 17).toInt := ⟨_, rfl⟩
                            have aq259 := nm_llo q259
                            have bq259 := nm_lhi q259
                            refine hq_p rfl rfl ?_
                            refine hq_gR Ih254.1 rfl rfl (by decide) (by decide) rfl ?_
                            refine hq_p rfl rfl ?_
                            refine hq_p rfl rfl (ty_ge (n := 7) nk_b7 (fun z260 ez260 => ?_))
                            refine hq_p rfl rfl (ty_ge (n := z71.toInt + z260.toInt) (nm_add (by omega) (by omega)) (fun z261 ez261 => ?_))
                            refine hq_p rfl rfl ?_
                            refine hq_p rfl rfl (ty_gle (n := 1) (by decide) (fun z262 ez262 => ?_))
                            refine hq_p rfl rfl (ty_gle (n := 20) (by decide) (fun z263 ez263 => ?_))
                            refine ty_callm 0 [(0, 97, 13), (0, 97, 21), (0, 97, 23), (3, 127, 0), (3, 108, 0), (3, 109, 0)] (W := ty_Wro) H Jh254 rfl (fun _ => rfl) rfl rfl rfl (hq_pre_o Ih254.1 (x := 97) (ci := 11) rfl (by decide) rfl rfl rfl rfl) (fun a k w => by unfold ty_Wo at w; unfold ty_Wro; omega) (by unfold ty_Wo ty_Wro; omega) (ct_176 (x1 := z262) (x2 := z263) (by omega) (by omega) (by omega) (by omega) kq255) ⟨⟨rfl, show ¬ ty_Wo 97 13 by unfold ty_Wo; omega⟩, ⟨rfl, show ¬ ty_Wo 97 21 by unfold ty_Wo; omega⟩, ⟨rfl, show ¬ ty_Wo 97 23 by unfold ty_Wo; omega⟩, ⟨rfl, fun k => show ¬ ty_Wo 127 k by unfold ty_Wo; omega⟩, ⟨rfl, fun k => show ¬ ty_Wo 108 k by unfold ty_Wo; omega⟩, ⟨rfl, fun k => show ¬ ty_Wo 109 k by unfold ty_Wo; omega⟩, trivial⟩ (fun h266 _ Jh266 gh266 P265 => ?_)
                            obtain ⟨gh266_0, gh266_1, gh266_2, gh266_3, gh266_4, gh266_5, _⟩ := gh266
                            have gh266_0 : (hs_fI h266 97 13).toInt = (hs_fI h254 97 13).toInt := gh266_0
                            have gh266_1 : (hs_fI h266 97 21).toInt = (hs_fI h254 97 21).toInt := gh266_1
                            have gh266_2 : (hs_fI h266 97 23).toInt = (hs_fI h254 97 23).toInt := gh266_2
                            have gh266_3 : hs_aI h266 127 = hs_aI h254 127 := gh266_3
                            have ugh266_3 : hs_aI h266 127 = (hs_aI h127 127) := gh266_3.trans ugh254_4
                            have gh266_4 : hs_aI h266 108 = hs_aI h254 108 := gh266_4
                            have ugh266_4 : hs_aI h266 108 = (hs_aI h127 108) := gh266_4.trans ugh254_5
                            have gh266_5 : hs_aI h266 109 = hs_aI h254 109 := gh266_5
                            have ugh266_5 : hs_aI h266 109 = (hs_aI h127 109) := gh266_5.trans ugh254_6
                            have Ih266 := H.1 h266 Jh266
                            obtain ⟨⟨z267, rfl, iz267⟩, kz267, fz267, oz267⟩ := P265
                            have az267 := nm_lo z267
                            have bz267 := nm_hi z267
                            obtain ⟨q268, eq268⟩ : ∃ q : Int32, q.toInt = (hs_fI h266 97 14).toInt := ⟨_, rfl⟩
                            have aq268 : 0 ≤ (hs_fI h266 97 14).toInt := (Ih266.2.1 97 14 (by decide)).1
                            have bq268 : (hs_fI h266 97 14).toInt ≤ 400 := (Ih266.2.1 97 14 (by decide)).2
                            obtain ⟨q269, eq269⟩ : ∃ q : Int32, q.toInt = (hs_fI h266 97 15).toInt := ⟨_, rfl⟩
                            have aq269 : 0 ≤ (hs_fI h266 97 15).toInt := (Ih266.2.1 97 15 (by decide)).1
                            have bq269 : (hs_fI h266 97 15).toInt ≤ 400 := (Ih266.2.1 97 15 (by decide)).2
                            obtain ⟨q270, eq270⟩ : ∃ q : Int32, q.toInt = (hs_fI h266 97 16).toInt := ⟨_, rfl⟩
                            have aq270 := nm_lo q270
                            have bq270 := nm_hi q270
                            obtain ⟨q271, eq271⟩ : ∃ q : Int32, q.toInt = (hs_fI h266 97 19).toInt := ⟨_, rfl⟩
                            have aq271 : 0 ≤ q271.toInt ∧ q271.toInt ≤ 1 := by omega
                            obtain ⟨q272, eq272⟩ : ∃ q : Int64, q.toInt = (hs_fL h266 97 17).toInt := ⟨_, rfl⟩
                            have aq272 := nm_llo q272
                            have bq272 := nm_lhi q272
                            have t1kz267 := kz267.1
                            have t2kz267 := kz267.2.1
                            refine ty_aS (W := ty_Wro) H Jh266 rfl rfl (by decide) (by omega) (by omega) (fun i e => by unfold ty_Wro; omega) (fun _ _ => ty_eg rfl) (by omega) (by omega) (fun e1 e2 w => by omega) (fun h273 eh273 Jh273 => ?_)
                            have vh273_127 : hs_aI h273 127 = (upd (hs_aI h127 127) z261.toInt.toNat z267) := by rw [eh273, hs_aI_sA, ugh266_3]
                            have vh273_108 : hs_aI h273 108 = (hs_aI h127 108) := by rw [eh273]; exact (hs_aI_ne (by decide)).trans ugh266_4
                            have vh273_109 : hs_aI h273 109 = (hs_aI h127 109) := by rw [eh273]; exact (hs_aI_ne (by decide)).trans ugh266_5
                            have Ih273 := H.1 h273 Jh273
                            have r274 : (hs_fI h273 97 13).toInt = (hs_fI h266 97 13).toInt := by rw [eh273]; exact congrArg Int32.toInt (ty_fI_ne (by omega))
                            have r275 : (hs_fI h273 97 14).toInt = (hs_fI h266 97 14).toInt := by rw [eh273]; exact congrArg Int32.toInt (ty_fI_ne (by omega))
                            have r276 : (hs_fI h273 97 15).toInt = (hs_fI h266 97 15).toInt := by rw [eh273]; exact congrArg Int32.toInt (ty_fI_ne (by omega))
                            have r277 : (hs_fI h273 97 16).toInt = (hs_fI h266 97 16).toInt := by rw [eh273]; exact congrArg Int32.toInt (ty_fI_ne (by omega))
                            have r278 : (hs_fI h273 97 19).toInt = (hs_fI h266 97 19).toInt := by rw [eh273]; exact congrArg Int32.toInt (ty_fI_ne (by omega))
                            have r279 : (hs_fI h273 97 21).toInt = (hs_fI h266 97 21).toInt := by rw [eh273]; exact congrArg Int32.toInt (ty_fI_ne (by omega))
                            have r280 : (hs_fI h273 97 23).toInt = (hs_fI h266 97 23).toInt := by rw [eh273]; exact congrArg Int32.toInt (ty_fI_ne (by omega))
                            have r281 : (hs_fL h273 97 17).toInt = (hs_fL h266 97 17).toInt := by rw [eh273]; exact congrArg Int64.toInt (ty_fL_ne (by omega))
                            have k282 : tk_ok h273 := tk_same kz267 (by omega) (by omega) (by omega) (by omega) (by omega)
                            have r283 : ro (hs_aI h 127) (hs_aI h 108) (hs_aI h 109) (hs_fI h 97 21).toInt.toNat (hs_fI h 97 23).toInt ((hs_fI h273 97 19).toInt = 0) (hs_aI h273 127) (hs_aI h273 108) (hs_aI h273 109) (hs_fI h273 97 23).toInt := by rw [vh273_127, vh273_108, vh273_109, show (hs_fI h273 97 23).toInt = (hs_fI h127 97 23).toInt by omega]; exact ro_w r241 (fun q => by omega) (Or.inl ⟨by omega, fun q => by have r := iz267 (by omega); omega⟩)
                            exact K129 h273 r283 k282 (by omega) (by omega) (by omega) (by omega) (by omega) Jh273
                      have w1h112 := j1K113.1
                      have w2h112 := j1K113.2.1
                      obtain ⟨q285, eq285⟩ : ∃ q : Int32, q.toInt = (hs_fI h112 97 13).toInt := ⟨_, rfl⟩
                      have aq285 : 0 ≤ (hs_fI h112 97 13).toInt := (Ih112.2.1 97 13 (by decide)).1
                      have bq285 : (hs_fI h112 97 13).toInt ≤ 400 := (Ih112.2.1 97 13 (by decide)).2
                      obtain ⟨q286, eq286⟩ : ∃ q : Int32, q.toInt = (hs_fI h112 97 14).toInt := ⟨_, rfl⟩
                      have aq286 : 0 ≤ (hs_fI h112 97 14).toInt := (Ih112.2.1 97 14 (by decide)).1
                      have bq286 : (hs_fI h112 97 14).toInt ≤ 400 := (Ih112.2.1 97 14 (by decide)).2
                      obtain ⟨q287, eq287⟩ : ∃ q : Int32, q.toInt = (hs_fI h112 97 15).toInt := ⟨_, rfl⟩
                      have aq287 : 0 ≤ (hs_fI h112 97 15).toInt := (Ih112.2.1 97 15 (by decide)).1
                      have bq287 : (hs_fI h112 97 15).toInt ≤ 400 := (Ih112.2.1 97 15 (by decide)).2
                      obtain ⟨q288, eq288⟩ : ∃ q : Int32, q.toInt = (hs_fI h112 97 16).toInt := ⟨_, rfl⟩
                      have aq288 := nm_lo q288
                      have bq288 := nm_hi q288
                      obtain ⟨q289, eq289⟩ : ∃ q : Int32, q.toInt = (hs_fI h112 97 19).toInt := ⟨_, rfl⟩
                      have aq289 : 0 ≤ q289.toInt ∧ q289.toInt ≤ 1 := by omega
                      obtain ⟨q290, eq290⟩ : ∃ q : Int32, q.toInt = (hs_fI h112 97 21).toInt := ⟨_, rfl⟩
                      have aq290 : 0 ≤ (hs_fI h112 97 21).toInt := (Ih112.2.1 97 21 (by decide)).1
                      have bq290 : (hs_fI h112 97 21).toInt ≤ 12 := (Ih112.2.1 97 21 (by decide)).2
                      obtain ⟨q291, eq291⟩ : ∃ q : Int32, q.toInt = (hs_fI h112 97 23).toInt := ⟨_, rfl⟩
                      have aq291 : 0 ≤ (hs_fI h112 97 23).toInt := (Ih112.2.1 97 23 (by decide)).1
                      have bq291 : (hs_fI h112 97 23).toInt ≤ 400 := (Ih112.2.1 97 23 (by decide)).2
                      obtain ⟨q292, eq292⟩ : ∃ q : Int64, q.toInt = (hs_fL h112 97 17).toInt := ⟨_, rfl⟩
                      have aq292 := nm_llo q292
                      have bq292 := nm_lhi q292
                      refine hq_p rfl rfl ?_
                      refine ty_zne rfl (fun c293 => ?_) (fun c293 => ?_)
                      · replace c293 : 1 ≤ y22.toInt ∧ y22.toInt ≤ 3 := by omega
                        exact K115 h112 j0K113 j1K113 (by omega) (by omega) (by omega) (by omega) (by omega) Jh112
                      · refine hq_p rfl rfl ?_
                        refine ty_gB Ih112 rfl rfl (by decide) (by decide) rfl (fun z295 ez295 az295 bz295 => ?_)
                        refine ty_zne rfl (fun c296 => ?_) (fun c296 => ?_)
                        · replace c296 : 1 ≤ z295.toInt ∧ z295.toInt ≤ 1 := by omega
                          refine hq_p rfl rfl ?_
                          refine hq_p rfl rfl ?_
                          refine hq_p rfl rfl (ty_ge (n := 3) nk_i3 (fun z297 ez297 => ?_))
                          refine hq_p rfl rfl (ty_ge (n := z71.toInt + z297.toInt) (nm_add (by omega) (by omega)) (fun z298 ez298 => ?_))
                          refine ty_callm 0 [(0, 97, 13), (0, 97, 21)] (W := ty_Wro) H Jh112 rfl (fun _ => rfl) rfl rfl rfl (hq_pre_o Ih112.1 (x := 97) (ci := 11) rfl (by decide) rfl rfl rfl rfl) (fun a k w => by unfold ty_Wrs at w; unfold ty_Wro; omega) (by unfold ty_Wrs ty_Wro; omega) (ct_244 (x1 := z298) (by omega) (by omega) (by omega) (by omega) j1K113 (by omega) (by omega) j0K113) ⟨⟨rfl, show ¬ ty_Wrs 97 13 by unfold ty_Wrs; omega⟩, ⟨rfl, show ¬ ty_Wrs 97 21 by unfold ty_Wrs; omega⟩, trivial⟩ (fun h301 _ Jh301 gh301 P300 => ?_)
                          obtain ⟨gh301_0, gh301_1, _⟩ := gh301
                          have gh301_0 : (hs_fI h301 97 13).toInt = (hs_fI h112 97 13).toInt := gh301_0
                          have gh301_1 : (hs_fI h301 97 21).toInt = (hs_fI h112 97 21).toInt := gh301_1
                          have Ih301 := H.1 h301 Jh301
                          obtain ⟨rq302, kq302, fq302, oq302, nq302, cq302⟩ := P300
                          subst rq302
                          obtain ⟨q303, eq303⟩ : ∃ q : Int32, q.toInt = (hs_fI h301 97 14).toInt := ⟨_, rfl⟩
                          have aq303 : 0 ≤ (hs_fI h301 97 14).toInt := (Ih301.2.1 97 14 (by decide)).1
                          have bq303 : (hs_fI h301 97 14).toInt ≤ 400 := (Ih301.2.1 97 14 (by decide)).2
                          obtain ⟨q304, eq304⟩ : ∃ q : Int32, q.toInt = (hs_fI h301 97 15).toInt := ⟨_, rfl⟩
                          have aq304 : 0 ≤ (hs_fI h301 97 15).toInt := (Ih301.2.1 97 15 (by decide)).1
                          have bq304 : (hs_fI h301 97 15).toInt ≤ 400 := (Ih301.2.1 97 15 (by decide)).2
                          obtain ⟨q305, eq305⟩ : ∃ q : Int32, q.toInt = (hs_fI h301 97 16).toInt := ⟨_, rfl⟩
                          have aq305 := nm_lo q305
                          have bq305 := nm_hi q305
                          obtain ⟨q306, eq306⟩ : ∃ q : Int32, q.toInt = (hs_fI h301 97 19).toInt := ⟨_, rfl⟩
                          have aq306 : 0 ≤ q306.toInt ∧ q306.toInt ≤ 1 := by omega
                          obtain ⟨q307, eq307⟩ : ∃ q : Int32, q.toInt = (hs_fI h301 97 23).toInt := ⟨_, rfl⟩
                          have aq307 : 0 ≤ (hs_fI h301 97 23).toInt := (Ih301.2.1 97 23 (by decide)).1
                          have bq307 : (hs_fI h301 97 23).toInt ≤ 400 := (Ih301.2.1 97 23 (by decide)).2
                          obtain ⟨q308, eq308⟩ : ∃ q : Int64, q.toInt = (hs_fL h301 97 17).toInt := ⟨_, rfl⟩
                          have aq308 := nm_llo q308
                          have bq308 := nm_lhi q308
                          have t1kq302 := kq302.1
                          have t2kq302 := kq302.2.1
                          exact K115 h301 cq302 kq302 (by omega) (by omega) (by omega) (by omega) (by omega) Jh301
                        · refine hq_p rfl rfl ?_
                          refine hq_p rfl rfl ?_
                          refine hq_p rfl rfl (ty_gle (n := 52) (by decide) (fun z310 ez310 => ?_))
                          refine ty_callp 0 Ih112 rfl (fun _ => rfl) rfl rfl rfl (hq_pre_o Ih112.1 (x := 97) (ci := 11) rfl (by decide) rfl rfl rfl rfl) (ct_173w (x1 := z310) (by omega)) (fun _ P311 => ?_)
                          obtain ⟨z312, rfl, az312, bz312, iz312⟩ := P311
                          refine ty_callm 0 [(0, 97, 13), (0, 97, 21), (0, 97, 23), (3, 127, 0), (3, 108, 0), (3, 109, 0)] (W := ty_Wro) H Jh112 rfl (fun _ => rfl) rfl rfl rfl (hq_pre_o Ih112.1 (x := 97) (ci := 11) rfl (by decide) rfl rfl rfl rfl) (fun a k w => by unfold ty_Wo at w; unfold ty_Wro; omega) (by unfold ty_Wo ty_Wro; omega) (ct_175w (x1 := z312) (by omega) (by omega) (by omega) j1K113) ⟨⟨rfl, show ¬ ty_Wo 97 13 by unfold ty_Wo; omega⟩, ⟨rfl, show ¬ ty_Wo 97 21 by unfold ty_Wo; omega⟩, ⟨rfl, show ¬ ty_Wo 97 23 by unfold ty_Wo; omega⟩, ⟨rfl, fun k => show ¬ ty_Wo 127 k by unfold ty_Wo; omega⟩, ⟨rfl, fun k => show ¬ ty_Wo 108 k by unfold ty_Wo; omega⟩, ⟨rfl, fun k => show ¬ ty_Wo 109 k by unfold ty_Wo; omega⟩, trivial⟩ (fun h314 _ Jh314 gh314 P313 => ?_)
                          obtain ⟨gh314_0, gh314_1, gh314_2, gh314_3, gh314_4, gh314_5, _⟩ := gh314
                          have gh314_0 : (hs_fI h314 97 13).toInt = (hs_fI h112 97 13).toInt := gh314_0
                          have gh314_1 : (hs_fI h314 97 21).toInt = (hs_fI h112 97 21).toInt := gh314_1
                          have gh314_2 : (hs_fI h314 97 23).toInt = (hs_fI h112 97 23).toInt := gh314_2
                          have gh314_3 : hs_aI h314 127 = hs_aI h112 127 := gh314_3
                          have ugh314_3 : hs_aI h314 127 = (hs_aI h112 127) := gh314_3.trans rfl
                          have gh314_4 : hs_aI h314 108 = hs_aI h112 108 := gh314_4
                          have ugh314_4 : hs_aI h314 108 = (hs_aI h112 108) := gh314_4.trans rfl
                          have gh314_5 : hs_aI h314 109 = hs_aI h112 109 := gh314_5
                          have ugh314_5 : hs_aI h314 109 = (hs_aI h112 109) := gh314_5.trans rfl
                          have Ih314 := H.1 h314 Jh314
                          obtain ⟨rq315, kq315, fq315⟩ := P313
                          subst rq315
                          have t1kq315 := kq315.1
                          have t2kq315 := kq315.2.1
                          obtain ⟨q316, eq316⟩ : ∃ q : Int32, q.toInt = (hs_fI h314 97 14).toInt := ⟨_, rfl⟩
                          have aq316 : 0 ≤ (hs_fI h314 97 14).toInt := (Ih314.2.1 97 14 (by decide)).1
                          have bq316 : (hs_fI h314 97 14).toInt ≤ 400 := (Ih314.2.1 97 14 (by decide)).2
                          obtain ⟨q317, eq317⟩ : ∃ q : Int32, q.toInt = (hs_fI h314 97 15).toInt := ⟨_, rfl⟩
                          have aq317 : 0 ≤ (hs_fI h314 97 15).toInt := (Ih314.2.1 97 15 (by decide)).1
                          have bq317 : (hs_fI h314 97 15).toInt ≤ 400 := (Ih314.2.1 97 15 (by decide)).2
                          obtain ⟨q318, eq318⟩ : ∃ q : Int32, q.toInt = (hs_fI h314 97 16).toInt := ⟨_, rfl⟩
                          have aq318 := nm_lo q318
                          have bq318 := nm_hi q318
                          obtain ⟨q319, eq319⟩ : ∃ q : Int32, q.toInt = (hs_fI h314 97 19).toInt := ⟨_, rfl⟩
                          have aq319 : 0 ≤ q319.toInt ∧ q319.toInt ≤ 1 := by omega
                          obtain ⟨q320, eq320⟩ : ∃ q : Int64, q.toInt = (hs_fL h314 97 17).toInt := ⟨_, rfl⟩
                          have aq320 := nm_llo q320
                          have bq320 := nm_lhi q320
                          refine hq_p rfl rfl ?_
                          refine hq_p rfl rfl ?_
                          refine hq_p rfl rfl (ty_ge (n := 3) nk_i3 (fun z321 ez321 => ?_))
                          refine hq_p rfl rfl (ty_ge (n := z71.toInt + z321.toInt) (nm_add (by omega) (by omega)) (fun z322 ez322 => ?_))
                          have r324 : ro (hs_aI h 127) (hs_aI h 108) (hs_aI h 109) (hs_fI h 97 21).toInt.toNat (hs_fI h 97 23).toInt ((hs_fI h314 97 19).toInt = 0) (hs_aI h314 127) (hs_aI h314 108) (hs_aI h314 109) (hs_fI h314 97 23).toInt := ro_g j0K113 (fun q => by omega) ugh314_3 ugh314_4 ugh314_5 (by omega)
                          refine ty_callm 0 [(0, 97, 13), (0, 97, 21)] (W := ty_Wro) H Jh314 rfl (fun _ => rfl) rfl rfl rfl (hq_pre_o Ih314.1 (x := 97) (ci := 11) rfl (by decide) rfl rfl rfl rfl) (fun a k w => by unfold ty_Wrs at w; unfold ty_Wro; omega) (by unfold ty_Wrs ty_Wro; omega) (ct_244 (x1 := z322) (by omega) (by omega) (by omega) (by omega) kq315 (by omega) (by omega) r324) ⟨⟨rfl, show ¬ ty_Wrs 97 13 by unfold ty_Wrs; omega⟩, ⟨rfl, show ¬ ty_Wrs 97 21 by unfold ty_Wrs; omega⟩, trivial⟩ (fun h326 _ Jh326 gh326 P325 => ?_)
                          obtain ⟨gh326_0, gh326_1, _⟩ := gh326
                          have gh326_0 : (hs_fI h326 97 13).toInt = (hs_fI h314 97 13).toInt := gh326_0
                          have gh326_1 : (hs_fI h326 97 21).toInt = (hs_fI h314 97 21).toInt := gh326_1
                          have Ih326 := H.1 h326 Jh326
                          obtain ⟨rq327, kq327, fq327, oq327, nq327, cq327⟩ := P325
                          subst rq327
                          obtain ⟨q328, eq328⟩ : ∃ q : Int32, q.toInt = (hs_fI h326 97 14).toInt := ⟨_, rfl⟩
                          have aq328 : 0 ≤ (hs_fI h326 97 14).toInt := (Ih326.2.1 97 14 (by decide)).1
                          have bq328 : (hs_fI h326 97 14).toInt ≤ 400 := (Ih326.2.1 97 14 (by decide)).2
                          obtain ⟨q329, eq329⟩ : ∃ q : Int32, q.toInt = (hs_fI h326 97 15).toInt := ⟨_, rfl⟩
                          have aq329 : 0 ≤ (hs_fI h326 97 15).toInt := (Ih326.2.1 97 15 (by decide)).1
                          have bq329 : (hs_fI h326 97 15).toInt ≤ 400 := (Ih326.2.1 97 15 (by decide)).2
                          obtain ⟨q330, eq330⟩ : ∃ q : Int32, q.toInt = (hs_fI h326 97 16).toInt := ⟨_, rfl⟩
                          have aq330 := nm_lo q330
                          have bq330 := nm_hi q330
                          obtain ⟨q331, eq331⟩ : ∃ q : Int32, q.toInt = (hs_fI h326 97 19).toInt := ⟨_, rfl⟩
                          have aq331 : 0 ≤ q331.toInt ∧ q331.toInt ≤ 1 := by omega
                          obtain ⟨q332, eq332⟩ : ∃ q : Int32, q.toInt = (hs_fI h326 97 23).toInt := ⟨_, rfl⟩
                          have aq332 : 0 ≤ (hs_fI h326 97 23).toInt := (Ih326.2.1 97 23 (by decide)).1
                          have bq332 : (hs_fI h326 97 23).toInt ≤ 400 := (Ih326.2.1 97 23 (by decide)).2
                          obtain ⟨q333, eq333⟩ : ∃ q : Int64, q.toInt = (hs_fL h326 97 17).toInt := ⟨_, rfl⟩
                          have aq333 := nm_llo q333
                          have bq333 := nm_lhi q333
                          have t1kq327 := kq327.1
                          have t2kq327 := kq327.2.1
                          exact K115 h326 cq327 kq327 (by omega) (by omega) (by omega) (by omega) (by omega) Jh326
                    have r335 : (hs_fI h111 97 13).toInt = (hs_fI h104 97 13).toInt := by rw [eh111]; exact congrArg Int32.toInt (ty_fI_ne (by omega))
                    have r336 : (hs_fI h111 97 14).toInt = (hs_fI h104 97 14).toInt := by rw [eh111]; exact congrArg Int32.toInt (ty_fI_ne (by omega))
                    have r337 : (hs_fI h111 97 15).toInt = (hs_fI h104 97 15).toInt := by rw [eh111]; exact congrArg Int32.toInt (ty_fI_ne (by omega))
                    have r338 : (hs_fI h111 97 16).toInt = (hs_fI h104 97 16).toInt := by rw [eh111]; exact congrArg Int32.toInt (ty_fI_ne (by omega))
                    have r339 : (hs_fI h111 97 19).toInt = (hs_fI h104 97 19).toInt := by rw [eh111]; exact congrArg Int32.toInt (ty_fI_ne (by omega))
                    have r340 : (hs_fI h111 97 21).toInt = (hs_fI h104 97 21).toInt := by rw [eh111]; exact congrArg Int32.toInt (ty_fI_ne (by omega))
                    have r341 : (hs_fI h111 97 23).toInt = (hs_fI h104 97 23).toInt := by rw [eh111]; exact congrArg Int32.toInt (ty_fI_ne (by omega))
                    have r342 : (hs_fI h111 97 26).toInt = (hs_fI h104 97 26).toInt := by rw [eh111]; exact congrArg Int32.toInt (ty_fI_ne (by omega))
                    have r343 : (hs_fL h111 97 17).toInt = (hs_fL h104 97 17).toInt := by rw [eh111]; exact congrArg Int64.toInt (ty_fL_ne (by omega))
                    have r344 : ro (hs_aI h 127) (hs_aI h 108) (hs_aI h 109) (hs_fI h 97 21).toInt.toNat (hs_fI h 97 23).toInt ((hs_fI h111 97 19).toInt = 0) (hs_aI h111 127) (hs_aI h111 108) (hs_aI h111 109) (hs_fI h111 97 23).toInt := by rw [vh111_127, vh111_108, vh111_109, show (hs_fI h111 97 23).toInt = (hs_fI h104 97 23).toInt by omega]; exact ro_w r0 (fun q => by omega) (Or.inr (by omega))
                    have k345 : tk_ok h111 := tk_same k110 (by omega) (by omega) (by omega) (by omega) (by omega)
                    refine hq_p rfl rfl ?_
                    refine hq_p rfl rfl (ty_ge (n := 3) nk_i3 (fun z346 ez346 => ?_))
                    refine ty_ieq rfl (fun c347 => ?_) (fun c347 => ?_)
                    · exact K113 h111 r344 k345 (by omega) (by omega) (by omega) (by omega) (by omega) Jh111
                    · replace c347 : 0 ≤ y22.toInt ∧ y22.toInt ≤ 2 := by omega
                      refine hq_p rfl rfl ?_
                      refine hq_p rfl rfl ?_
                      refine hq_p rfl rfl (ty_ge (n := 1) nk_i1 (fun z349 ez349 => ?_))
                      refine hq_p rfl rfl (ty_ge (n := z71.toInt + z349.toInt) (nm_add (by omega) (by omega)) (fun z350 ez350 => ?_))
                      refine ty_callm 0 [(0, 97, 13), (0, 97, 21)] (W := ty_Wro) H Jh111 rfl (fun _ => rfl) rfl rfl rfl (hq_pre_o Ih111.1 (x := 97) (ci := 11) rfl (by decide) rfl rfl rfl rfl) (fun a k w => by unfold ty_Wrs at w; unfold ty_Wro; omega) (by unfold ty_Wrs ty_Wro; omega) (ct_244 (x1 := z350) (by omega) (by omega) (by omega) (by omega) k345 (by omega) (by omega) r344) ⟨⟨rfl, show ¬ ty_Wrs 97 13 by unfold ty_Wrs; omega⟩, ⟨rfl, show ¬ ty_Wrs 97 21 by unfold ty_Wrs; omega⟩, trivial⟩ (fun h353 _ Jh353 gh353 P352 => ?_)
                      obtain ⟨gh353_0, gh353_1, _⟩ := gh353
                      have gh353_0 : (hs_fI h353 97 13).toInt = (hs_fI h111 97 13).toInt := gh353_0
                      have gh353_1 : (hs_fI h353 97 21).toInt = (hs_fI h111 97 21).toInt := gh353_1
                      have Ih353 := H.1 h353 Jh353
                      obtain ⟨rq354, kq354, fq354, oq354, nq354, cq354⟩ := P352
                      subst rq354
                      obtain ⟨q355, eq355⟩ : ∃ q : Int32, q.toInt = (hs_fI h353 97 14).toInt := ⟨_, rfl⟩
                      have aq355 : 0 ≤ (hs_fI h353 97 14).toInt := (Ih353.2.1 97 14 (by decide)).1
                      have bq355 : (hs_fI h353 97 14).toInt ≤ 400 := (Ih353.2.1 97 14 (by decide)).2
                      obtain ⟨q356, eq356⟩ : ∃ q : Int32, q.toInt = (hs_fI h353 97 15).toInt := ⟨_, rfl⟩
                      have aq356 : 0 ≤ (hs_fI h353 97 15).toInt := (Ih353.2.1 97 15 (by decide)).1
                      have bq356 : (hs_fI h353 97 15).toInt ≤ 400 := (Ih353.2.1 97 15 (by decide)).2
                      obtain ⟨q357, eq357⟩ : ∃ q : Int32, q.toInt = (hs_fI h353 97 16).toInt := ⟨_, rfl⟩
                      have aq357 := nm_lo q357
                      have bq357 := nm_hi q357
                      obtain ⟨q358, eq358⟩ : ∃ q : Int32, q.toInt = (hs_fI h353 97 19).toInt := ⟨_, rfl⟩
                      have aq358 : 0 ≤ q358.toInt ∧ q358.toInt ≤ 1 := by omega
                      obtain ⟨q359, eq359⟩ : ∃ q : Int32, q.toInt = (hs_fI h353 97 23).toInt := ⟨_, rfl⟩
                      have aq359 : 0 ≤ (hs_fI h353 97 23).toInt := (Ih353.2.1 97 23 (by decide)).1
                      have bq359 : (hs_fI h353 97 23).toInt ≤ 400 := (Ih353.2.1 97 23 (by decide)).2
                      obtain ⟨q360, eq360⟩ : ∃ q : Int64, q.toInt = (hs_fL h353 97 17).toInt := ⟨_, rfl⟩
                      have aq360 := nm_llo q360
                      have bq360 := nm_lhi q360
                      have t1kq354 := kq354.1
                      have t2kq354 := kq354.2.1
                      exact K113 h353 cq354 kq354 (by omega) (by omega) (by omega) (by omega) (by omega) Jh353
                  · refine hq_p rfl rfl ?_
                    refine hq_gR Ih104.1 rfl rfl (by decide) (by decide) rfl ?_
                    refine hq_p rfl rfl ?_
                    refine hq_p rfl rfl ?_
                    refine hq_p rfl rfl (ty_ge (n := z71.toInt + y103.toInt) (nm_add (by omega) (by omega)) (fun z362 ez362 => ?_))
                    refine hq_p rfl rfl (ty_ge (n := 0) nk_i0 (fun z363 ez363 => ?_))
                    refine ty_aS (W := ty_Wro) H Jh104 rfl rfl (by decide) (by omega) (by omega) (fun i e => by unfold ty_Wro; omega) (fun _ _ => ty_eg rfl) (by omega) (by omega) (fun e1 e2 w => by omega) (fun h364 eh364 Jh364 => ?_)
                    have Ih364 := H.1 h364 Jh364
                    refine ty_inc (ls' := fun z365 => [some (.ref 97), some (.int y22), some (.int z71), some (.int z365)]) rfl rfl (fun _ => rfl) (nm_addc nk_i1 (by omega) (by omega)) (fun z365 ez365 => ?_)
                    refine hq_p rfl rfl ?_
                    have r366 : (hs_fI h364 97 13).toInt = (hs_fI h104 97 13).toInt := by rw [eh364]; exact congrArg Int32.toInt (ty_fI_ne (by omega))
                    have r367 : (hs_fI h364 97 14).toInt = (hs_fI h104 97 14).toInt := by rw [eh364]; exact congrArg Int32.toInt (ty_fI_ne (by omega))
                    have r368 : (hs_fI h364 97 15).toInt = (hs_fI h104 97 15).toInt := by rw [eh364]; exact congrArg Int32.toInt (ty_fI_ne (by omega))
                    have r369 : (hs_fI h364 97 16).toInt = (hs_fI h104 97 16).toInt := by rw [eh364]; exact congrArg Int32.toInt (ty_fI_ne (by omega))
                    have r370 : (hs_fI h364 97 19).toInt = (hs_fI h104 97 19).toInt := by rw [eh364]; exact congrArg Int32.toInt (ty_fI_ne (by omega))
                    have r371 : (hs_fI h364 97 21).toInt = (hs_fI h104 97 21).toInt := by rw [eh364]; exact congrArg Int32.toInt (ty_fI_ne (by omega))
                    have r372 : (hs_fI h364 97 23).toInt = (hs_fI h104 97 23).toInt := by rw [eh364]; exact congrArg Int32.toInt (ty_fI_ne (by omega))
                    have r373 : (hs_fI h364 97 26).toInt = (hs_fI h104 97 26).toInt := by rw [eh364]; exact congrArg Int32.toInt (ty_fI_ne (by omega))
                    have r374 : (hs_fL h364 97 17).toInt = (hs_fL h104 97 17).toInt := by rw [eh364]; exact congrArg Int64.toInt (ty_fL_ne (by omega))
                    exact ihn107 ((8 - z365.toInt).toNat) (by omega) z365 h364 rfl (by omega) (by omega) (fun j hj => by rw [eh364, ty_aI_sA (by omega)]; exact x0n107 j hj) (fun m hm => if e : 8 * (hs_fI h 97 21).toInt.toNat + m = z362.toInt.toNat then (by rw [eh364, ty_aI_eq e]; omega) else (by rw [eh364, ty_aI_sA e]; exact x1n107 m (by omega))) (by rw [eh364]; exact (hs_aI_ne (by decide)).trans x2n107) (by rw [eh364]; exact (hs_aI_ne (by decide)).trans x3n107) (by omega) (by omega) (by omega) (by omega) (by omega) (by omega) (by omega) (by omega) (by omega) Jh364
              exact L85_n107 _ z76 h75 rfl (by omega) (by omega) (fun j hj => by rw [vh75_127]) (fun m hm => by exfalso; omega) vh75_108 vh75_109 (by omega) (by omega) (by omega) (by omega) (by omega) (by omega) (by omega) (by omega) (by omega) Jh75
            · replace c68 : 1 ≤ z67.toInt ∧ z67.toInt ≤ 1 := by omega
              exact hq_W.ret rfl rfl rfl ⟨Jh60, rfl, kq61, by omega, by omega, by omega, (fun q => by exfalso; omega)⟩
      · refine hq_p rfl rfl ?_
        refine hq_p rfl rfl ?_
        refine hq_gR I.1 rfl rfl (by decide) (by decide) rfl ?_
        refine hq_p rfl rfl ?_
        refine ty_lL I rfl rfl (by decide) (by omega) (by omega) (fun z376 ez376 az376 bz376 => ?_)
        refine ty_callp 0 I rfl (fun _ => rfl) rfl rfl rfl (hq_pre_o I.1 (x := 97) (ci := 11) rfl (by decide) rfl rfl rfl rfl) (ct_173w (x1 := z376) (by omega)) (fun _ P377 => ?_)
        obtain ⟨z378, rfl, az378, bz378, iz378⟩ := P377
        refine ty_zeq rfl (fun c379 => ?_) (fun c379 => ?_)
        · clear iz378
          refine hq_p rfl rfl ?_
          refine hq_p (ls' := [some (.ref 97), some (.int y22), some (.int y23), none]) rfl rfl ?_
          refine ty_inc (ls' := fun z380 => [some (.ref 97), some (.int y22), some (.int z380), none]) rfl rfl (fun _ => rfl) (nm_addc nk_i1 (by omega) (by omega)) (fun z380 ez380 => ?_)
          refine hq_p rfl rfl ?_
          exact ihn26 ((4 - z380.toInt).toNat) (by omega) y22 z380 rfl (by omega) (by omega) (by omega) (by omega) (by omega)
        · replace c379 : 1 ≤ z378.toInt ∧ z378.toInt ≤ 1 := by omega
          have f381 := iz378 (by omega)
          clear iz378
          refine hq_p rfl rfl ?_
          refine hq_p rfl rfl ?_
          refine hq_p (ls' := [some (.ref 97), some (.int y23), some (.int y23), none]) rfl rfl ?_
          refine ty_inc (ls' := fun z382 => [some (.ref 97), some (.int y23), some (.int z382), none]) rfl rfl (fun _ => rfl) (nm_addc nk_i1 (by omega) (by omega)) (fun z382 ez382 => ?_)
          refine hq_p rfl rfl ?_
          exact ihn26 ((4 - z382.toInt).toNat) (by omega) y23 z382 rfl (by omega) (by omega) (by omega) (by omega) (by omega)
  exact L4_n26 _ z10 z11 rfl (by omega) (by omega) (by omega) (by omega) (by omega)
end CT56
