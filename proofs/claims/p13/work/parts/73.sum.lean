/-! CONTRACTS (printed by wip/pm/cts.py) -/
section CT50
theorem ps_b1 {x : Int} (h0 : 20 ≤ x) (h1 : x < 28) : ps_b x = 1 := by
  unfold ps_b
  rw [if_pos ⟨h0, h1⟩]
theorem pq_nb {A0 : Nat → Int32} {m z : Int} (h : pq_in A0 m z) (hz : z = -1) : ∀ j : Nat, (j : Int) < m → pt A0 j < 31 := by
  rcases h with ⟨_, q⟩ | ⟨b, _, _, q, _⟩
  · exact q
  · omega
set_option maxRecDepth 8000 in
set_option maxHeartbeats 20000000 in
theorem ct_190 {X : pm_X} {d : Nat} {h : pm_H} {x1 : Int32} {op0 ar0 : Nat → Int} {s : Nat} (hd : 4 ≤ d) (ax1 : 0 ≤ x1.toInt) (bx1 : x1.toInt ≤ 1) (hb : (hs_fI h 97 19).toInt = 0) (hk : tk_ok h) (hz : pz op0 ar0 s 1 h) : ty_M X ty_Wps d 190 [.ref 97, .int x1] h (fun h1 v => ∃ z : Int32, v = some (.int z) ∧ (1 ≤ z.toInt ∧ z.toInt ≤ 4) ∧ tk_ok h1 ∧ (hs_fI h 97 14).toInt ≤ (hs_fI h1 97 14).toInt ∧ ((hs_fI h1 97 19).toInt = 0 ∨ (hs_fI h1 97 19).toInt = 1) ∧ ((hs_fI h1 97 19).toInt = 0 → ((hs_fI h 97 14).toInt + 1 ≤ (hs_fI h1 97 14).toInt ∨ z.toInt = 2 ∨ z.toInt = 4)) ∧ tz op0 ar0 s z.toInt h1) := by
  intro J H hJ
  obtain ⟨d, rfl⟩ : ∃ e, d = e + 1 := ⟨d - 1, by omega⟩
  have I := H.1 h hJ
  refine hq_M.enter (q := (⟨"TrainBearersModel", "behindSum", "(Z)I"⟩, _, 4, some .int, 11, 2, pm_c190)) rfl rfl ?_
  show hq_W X d 11 false (some .int) pm_c190 (0, [some (.ref 97), some (.int x1), none, none], [], h) (fun h' v => J h' ∧ (fun h1 v => ∃ z : Int32, v = some (.int z) ∧ (1 ≤ z.toInt ∧ z.toInt ≤ 4) ∧ tk_ok h1 ∧ (hs_fI h 97 14).toInt ≤ (hs_fI h1 97 14).toInt ∧ ((hs_fI h1 97 19).toInt = 0 ∨ (hs_fI h1 97 19).toInt = 1) ∧ ((hs_fI h1 97 19).toInt = 0 → ((hs_fI h 97 14).toInt + 1 ≤ (hs_fI h1 97 14).toInt ∨ z.toInt = 2 ∨ z.toInt = 4)) ∧ tz op0 ar0 s z.toInt h1) h' v)
  obtain ⟨q1, eq1⟩ : ∃ q : Int32, q.toInt = (hs_fI h 97 13).toInt := ⟨_, rfl⟩
  have aq1 : 0 ≤ (hs_fI h 97 13).toInt := (I.2.1 97 13 (by decide)).1
  have bq1 : (hs_fI h 97 13).toInt ≤ 400 := (I.2.1 97 13 (by decide)).2
  obtain ⟨q2, eq2⟩ : ∃ q : Int32, q.toInt = (hs_fI h 97 14).toInt := ⟨_, rfl⟩
  have aq2 : 0 ≤ (hs_fI h 97 14).toInt := (I.2.1 97 14 (by decide)).1
  have bq2 : (hs_fI h 97 14).toInt ≤ 400 := (I.2.1 97 14 (by decide)).2
  obtain ⟨q3, eq3⟩ : ∃ q : Int32, q.toInt = (hs_fI h 97 15).toInt := ⟨_, rfl⟩
  have aq3 : 0 ≤ (hs_fI h 97 15).toInt := (I.2.1 97 15 (by decide)).1
  have bq3 : (hs_fI h 97 15).toInt ≤ 400 := (I.2.1 97 15 (by decide)).2
  obtain ⟨q4, eq4⟩ : ∃ q : Int32, q.toInt = (hs_fI h 97 16).toInt := ⟨_, rfl⟩
  have aq4 := nm_lo q4
  have bq4 := nm_hi q4
  obtain ⟨q5, eq5⟩ : ∃ q : Int32, q.toInt = (hs_fI h 97 19).toInt := ⟨_, rfl⟩
  have aq5 : 0 ≤ q5.toInt ∧ q5.toInt ≤ 1 := by omega
  obtain ⟨q6, eq6⟩ : ∃ q : Int32, q.toInt = (hs_fI h 97 23).toInt := ⟨_, rfl⟩
  have aq6 : 0 ≤ (hs_fI h 97 23).toInt := (I.2.1 97 23 (by decide)).1
  have bq6 : (hs_fI h 97 23).toInt ≤ 400 := (I.2.1 97 23 (by decide)).2
  obtain ⟨q7, eq7⟩ : ∃ q : Int32, q.toInt = (hs_fI h 97 26).toInt := ⟨_, rfl⟩
  have aq7 : 0 ≤ (hs_fI h 97 26).toInt := (I.2.1 97 26 (by decide)).1
  have bq7 : (hs_fI h 97 26).toInt ≤ 50 := (I.2.1 97 26 (by decide)).2
  obtain ⟨q8, eq8⟩ : ∃ q : Int32, q.toInt = (hs_fI h 97 29).toInt := ⟨_, rfl⟩
  have aq8 : 0 ≤ (hs_fI h 97 29).toInt := (I.2.1 97 29 (by decide)).1
  have bq8 : (hs_fI h 97 29).toInt ≤ 400 := (I.2.1 97 29 (by decide)).2
  obtain ⟨q9, eq9⟩ : ∃ q : Int32, q.toInt = (hs_fI h 97 30).toInt := ⟨_, rfl⟩
  have aq9 : 0 ≤ (hs_fI h 97 30).toInt := (I.2.1 97 30 (by decide)).1
  have bq9 : (hs_fI h 97 30).toInt ≤ 8 := (I.2.1 97 30 (by decide)).2
  obtain ⟨q10, eq10⟩ : ∃ q : Int64, q.toInt = (hs_fL h 97 17).toInt := ⟨_, rfl⟩
  have aq10 := nm_llo q10
  have bq10 := nm_lhi q10
  have t1 := hk.1
  have t2 := hk.2.1
  have z3 : (hs_fI h 97 23).toInt + (hs_fI h 97 29).toInt ≤ (hs_fI h 97 14).toInt := hz.2.2.1
  have z2 : (s : Int) ≤ (hs_fI h 97 23).toInt := hz.2.1
  refine hq_p rfl rfl ?_
  refine hq_p rfl rfl (ty_ge (n := 43) nk_b43 (fun z11 ez11 => ?_))
  refine ty_callp 0 I rfl (fun _ => rfl) rfl rfl rfl (hq_pre_o I.1 (x := 97) (ci := 11) rfl (by decide) rfl rfl rfl rfl) (ct_174w (x1 := z11) (by omega)) (fun _ P12 => ?_)
  obtain ⟨z13, rfl, az13, bz13, iz13⟩ := P12
  refine ty_zeq rfl (fun c14 => ?_) (fun c14 => ?_)
  · clear iz13
    refine hq_p rfl rfl ?_
    refine hq_p rfl rfl (ty_ge (n := 45) nk_b45 (fun z15 ez15 => ?_))
    refine ty_callp 0 I rfl (fun _ => rfl) rfl rfl rfl (hq_pre_o I.1 (x := 97) (ci := 11) rfl (by decide) rfl rfl rfl rfl) (ct_174w (x1 := z15) (by omega)) (fun _ P16 => ?_)
    obtain ⟨z17, rfl, az17, bz17, iz17⟩ := P16
    refine ty_zeq rfl (fun c18 => ?_) (fun c18 => ?_)
    · clear iz17
      refine hq_p rfl rfl ?_
      refine hq_p rfl rfl (ty_ge (n := 42) nk_b42 (fun z19 ez19 => ?_))
      refine ty_callp 0 I rfl (fun _ => rfl) rfl rfl rfl (hq_pre_o I.1 (x := 97) (ci := 11) rfl (by decide) rfl rfl rfl rfl) (ct_174w (x1 := z19) (by omega)) (fun _ P20 => ?_)
      obtain ⟨z21, rfl, az21, bz21, iz21⟩ := P20
      refine ty_zeq rfl (fun c22 => ?_) (fun c22 => ?_)
      · clear iz21
        refine hq_p rfl rfl ?_
        refine hq_p rfl rfl (ty_ge (n := 47) nk_b47 (fun z23 ez23 => ?_))
        refine ty_callp 0 I rfl (fun _ => rfl) rfl rfl rfl (hq_pre_o I.1 (x := 97) (ci := 11) rfl (by decide) rfl rfl rfl rfl) (ct_174w (x1 := z23) (by omega)) (fun _ P24 => ?_)
        obtain ⟨z25, rfl, az25, bz25, iz25⟩ := P24
        refine ty_zeq rfl (fun c26 => ?_) (fun c26 => ?_)
        · clear iz25
          refine hq_p rfl rfl ?_
          refine hq_p rfl rfl (ty_ge (n := 37) nk_b37 (fun z27 ez27 => ?_))
          refine ty_callp 0 I rfl (fun _ => rfl) rfl rfl rfl (hq_pre_o I.1 (x := 97) (ci := 11) rfl (by decide) rfl rfl rfl rfl) (ct_174w (x1 := z27) (by omega)) (fun _ P28 => ?_)
          obtain ⟨z29, rfl, az29, bz29, iz29⟩ := P28
          refine ty_zeq rfl (fun c30 => ?_) (fun c30 => ?_)
          · clear iz29
            refine hq_p rfl rfl (ty_ge (n := -1) nk_im1 (fun z31 ez31 => ?_))
            refine hq_p (ls' := [some (.ref 97), some (.int x1), some (.int z31), none]) rfl rfl ?_
            refine hq_p rfl rfl ?_
            refine hq_p rfl rfl (ty_ge (n := -1) nk_im1 (fun z32 ez32 => ?_))
            refine ty_ieq rfl (fun c33 => ?_) (fun c33 => ?_)
            · refine hq_p rfl rfl ?_
              refine ty_callp 0 I rfl (fun _ => rfl) rfl rfl rfl (hq_pre_o I.1 (x := 97) (ci := 11) rfl (by decide) rfl rfl rfl rfl) (ct_182e (by omega)) (fun _ P34 => ?_)
              obtain ⟨z35, rfl, fz35⟩ := P34
              have az35 := nm_lo z35
              have bz35 := nm_hi z35
              refine hq_p (ls' := [some (.ref 97), some (.int x1), some (.int z31), some (.int z35)]) rfl rfl ?_
              refine hq_p rfl rfl ?_
              refine hq_p rfl rfl (ty_ge (n := 32) nk_b32 (fun z36 ez36 => ?_))
              refine ty_ine rfl (fun c37 => ?_) (fun c37 => ?_)
              · replace c37 : z35.toInt ≠ z36.toInt := by omega
                refine hq_p rfl rfl ?_
                refine hq_p rfl rfl (ty_ge (n := -1) nk_im1 (fun z38 ez38 => ?_))
                refine ty_ine rfl (fun c39 => ?_) (fun c39 => ?_)
                · replace c39 : z35.toInt ≠ z38.toInt := by omega
                  refine hq_p rfl rfl ?_
                  refine ty_callp 0 I rfl (fun _ => rfl) rfl rfl rfl (hq_pre_o I.1 (x := 97) (ci := 11) rfl (by decide) rfl rfl rfl rfl) (ct_183 (by omega)) (fun _ P40 => ?_)
                  obtain ⟨z41, rfl, az41, bz41⟩ := P40
                  refine ty_zeq rfl (fun c42 => ?_) (fun c42 => ?_)
                  · refine hq_p rfl rfl ?_
                    refine hq_p rfl rfl (ty_ge (n := 60) nk_b60 (fun z43 ez43 => ?_))
                    refine ty_callp 0 I rfl (fun _ => rfl) rfl rfl rfl (hq_pre_o I.1 (x := 97) (ci := 11) rfl (by decide) rfl rfl rfl rfl) (ct_174w (x1 := z43) (by omega)) (fun _ P44 => ?_)
                    obtain ⟨z45, rfl, az45, bz45, iz45⟩ := P44
                    refine ty_zeq rfl (fun c46 => ?_) (fun c46 => ?_)
                    · clear iz45
                      refine hq_p rfl rfl ?_
                      refine hq_p rfl rfl (ty_ge (n := 62) nk_b62 (fun z47 ez47 => ?_))
                      refine ty_callp 0 I rfl (fun _ => rfl) rfl rfl rfl (hq_pre_o I.1 (x := 97) (ci := 11) rfl (by decide) rfl rfl rfl rfl) (ct_174w (x1 := z47) (by omega)) (fun _ P48 => ?_)
                      obtain ⟨z49, rfl, az49, bz49, iz49⟩ := P48
                      refine ty_zeq rfl (fun c50 => ?_) (fun c50 => ?_)
                      · clear iz49
                        refine hq_p rfl rfl (ty_ge (n := 27) nk_b27 (fun z51 ez51 => ?_))
                        refine hq_p (ls' := [some (.ref 97), some (.int x1), some (.int z51), some (.int z35)]) rfl rfl ?_
                        refine hq_p rfl rfl ?_
                        refine hq_p rfl rfl ?_
                        refine hq_p rfl rfl (ty_ge (n := 27) nk_b27 (fun z52 ez52 => ?_))
                        refine ty_ine rfl (fun c53 => ?_) (fun c53 => ?_)
                        · exfalso; omega
                        · refine hq_p rfl rfl ?_
                          refine hq_p rfl rfl (ty_ge (n := 61) nk_b61 (fun z54 ez54 => ?_))
                          refine ty_callp 0 I rfl (fun _ => rfl) rfl rfl rfl (hq_pre_o I.1 (x := 97) (ci := 11) rfl (by decide) rfl rfl rfl rfl) (ct_174w (x1 := z54) (by omega)) (fun _ P55 => ?_)
                          obtain ⟨z56, rfl, az56, bz56, iz56⟩ := P55
                          refine ty_zeq rfl (fun c57 => ?_) (fun c57 => ?_)
                          · clear iz56
                            refine hq_p rfl rfl (ty_ge (n := 0) nk_i0 (fun z58 ez58 => ?_))
                            refine ty_callm 0 [(0, 97, 13), (0, 97, 23), (0, 97, 26), (0, 97, 29), (0, 97, 30), (3, 108, 0), (3, 109, 0), (3, 110, 0), (3, 111, 0)] (W := ty_Wps) H hJ rfl (fun _ => rfl) rfl rfl rfl (hq_pre_o I.1 (x := 97) (ci := 11) rfl (by decide) rfl rfl rfl rfl) (fun a k w => by unfold ty_Wo at w; unfold ty_Wps; omega) (by unfold ty_Wo ty_Wps; omega) (ct_175w (x1 := z58) (by omega) (by omega) (by omega) hk) ⟨⟨rfl, show ¬ ty_Wo 97 13 by unfold ty_Wo; omega⟩, ⟨rfl, show ¬ ty_Wo 97 23 by unfold ty_Wo; omega⟩, ⟨rfl, show ¬ ty_Wo 97 26 by unfold ty_Wo; omega⟩, ⟨rfl, show ¬ ty_Wo 97 29 by unfold ty_Wo; omega⟩, ⟨rfl, show ¬ ty_Wo 97 30 by unfold ty_Wo; omega⟩, ⟨rfl, fun k => show ¬ ty_Wo 108 k by unfold ty_Wo; omega⟩, ⟨rfl, fun k => show ¬ ty_Wo 109 k by unfold ty_Wo; omega⟩, ⟨rfl, fun k => show ¬ ty_Wo 110 k by unfold ty_Wo; omega⟩, ⟨rfl, fun k => show ¬ ty_Wo 111 k by unfold ty_Wo; omega⟩, trivial⟩ (fun h60 _ Jh60 gh60 P59 => ?_)
                            obtain ⟨gh60_0, gh60_1, gh60_2, gh60_3, gh60_4, gh60_5, gh60_6, gh60_7, gh60_8, _⟩ := gh60
                            have gh60_0 : (hs_fI h60 97 13).toInt = (hs_fI h 97 13).toInt := gh60_0
                            have gh60_1 : (hs_fI h60 97 23).toInt = (hs_fI h 97 23).toInt := gh60_1
                            have gh60_2 : (hs_fI h60 97 26).toInt = (hs_fI h 97 26).toInt := gh60_2
                            have gh60_3 : (hs_fI h60 97 29).toInt = (hs_fI h 97 29).toInt := gh60_3
                            have gh60_4 : (hs_fI h60 97 30).toInt = (hs_fI h 97 30).toInt := gh60_4
                            have gh60_5 : hs_aI h60 108 = hs_aI h 108 := gh60_5
                            have ugh60_5 : hs_aI h60 108 = (hs_aI h 108) := gh60_5.trans rfl
                            have gh60_6 : hs_aI h60 109 = hs_aI h 109 := gh60_6
                            have ugh60_6 : hs_aI h60 109 = (hs_aI h 109) := gh60_6.trans rfl
                            have gh60_7 : hs_aI h60 110 = hs_aI h 110 := gh60_7
                            have ugh60_7 : hs_aI h60 110 = (hs_aI h 110) := gh60_7.trans rfl
                            have gh60_8 : hs_aI h60 111 = hs_aI h 111 := gh60_8
                            have ugh60_8 : hs_aI h60 111 = (hs_aI h 111) := gh60_8.trans rfl
                            have Ih60 := H.1 h60 Jh60
                            obtain ⟨rq61, kq61, fq61⟩ := P59
                            subst rq61
                            have t1kq61 := kq61.1
                            have t2kq61 := kq61.2.1
                            obtain ⟨q62, eq62⟩ : ∃ q : Int32, q.toInt = (hs_fI h60 97 14).toInt := ⟨_, rfl⟩
                            have aq62 : 0 ≤ (hs_fI h60 97 14).toInt := (Ih60.2.1 97 14 (by decide)).1
                            have bq62 : (hs_fI h60 97 14).toInt ≤ 400 := (Ih60.2.1 97 14 (by decide)).2
                            obtain ⟨q63, eq63⟩ : ∃ q : Int32, q.toInt = (hs_fI h60 97 15).toInt := ⟨_, rfl⟩
                            have aq63 : 0 ≤ (hs_fI h60 97 15).toInt := (Ih60.2.1 97 15 (by decide)).1
                            have bq63 : (hs_fI h60 97 15).toInt ≤ 400 := (Ih60.2.1 97 15 (by decide)).2
                            obtain ⟨q64, eq64⟩ : ∃ q : Int32, q.toInt = (hs_fI h60 97 16).toInt := ⟨_, rfl⟩
                            have aq64 := nm_lo q64
                            have bq64 := nm_hi q64
                            obtain ⟨q65, eq65⟩ : ∃ q : Int32, q.toInt = (hs_fI h60 97 19).toInt := ⟨_, rfl⟩
                            have aq65 : 0 ≤ q65.toInt ∧ q65.toInt ≤ 1 := by omega
                            obtain ⟨q66, eq66⟩ : ∃ q : Int64, q.toInt = (hs_fL h60 97 17).toInt := ⟨_, rfl⟩
                            have aq66 := nm_llo q66
                            have bq66 := nm_lhi q66
                            refine hq_p rfl rfl ?_
                            refine ty_gB Ih60 rfl rfl (by decide) (by decide) rfl (fun z67 ez67 az67 bz67 => ?_)
                            refine ty_zne rfl (fun c68 => ?_) (fun c68 => ?_)
                            · clear c68
                              refine hq_p rfl rfl (ty_ge (n := 1) nk_i1 (fun z69 ez69 => ?_))
                              have zf : pz op0 ar0 s 0 h60 := by
                                show pq ((hs_fI h60 97 19).toInt = 0) (hs_aI h60 108) (hs_aI h60 109) (hs_aI h60 110) (hs_aI h60 111) op0 ar0 s (hs_fI h60 97 23).toInt (hs_fI h60 97 29).toInt (hs_fI h60 97 30).toInt (hs_fI h60 97 14).toInt 0
                                rw [ugh60_5, ugh60_6, ugh60_7, ugh60_8, show (hs_fI h60 97 23).toInt = (hs_fI h 97 23).toInt by omega, show (hs_fI h60 97 29).toInt = (hs_fI h 97 29).toInt by omega, show (hs_fI h60 97 30).toInt = (hs_fI h 97 30).toInt by omega]
                                exact pq_g hz (fun q => by exfalso; omega) (by omega)
                              exact hq_W.ret rfl rfl rfl ⟨Jh60, _, rfl, by omega, kq61, by omega, by omega, (fun q => by omega), ⟨by rw [if_pos (by omega)]; exact zf, fun _ => ⟨fun q => by exfalso; omega, fun q => by exfalso; omega⟩⟩⟩
                            · exfalso; omega
                          · replace c57 : 1 ≤ z56.toInt ∧ z56.toInt ≤ 1 := by omega
                            have f71 := iz56 (by omega)
                            clear iz56
                            refine hq_p rfl rfl (ty_ge (n := 1) nk_i1 (fun z72 ez72 => ?_))
                            refine hq_p rfl rfl ?_
                            refine ty_callm 0 [(0, 97, 13), (0, 97, 23), (0, 97, 26), (0, 97, 29), (0, 97, 30), (3, 108, 0), (3, 109, 0), (3, 110, 0), (3, 111, 0)] (W := ty_Wps) H hJ rfl (fun _ => rfl) rfl rfl rfl (hq_pre_o I.1 (x := 97) (ci := 11) rfl (by decide) rfl rfl rfl rfl) (fun a k w => by unfold ty_Wo at w; unfold ty_Wps; omega) (by unfold ty_Wo ty_Wps; omega) (ct_175w (x1 := z72) (by omega) (by omega) (by omega) hk) ⟨⟨rfl, show ¬ ty_Wo 97 13 by unfold ty_Wo; omega⟩, ⟨rfl, show ¬ ty_Wo 97 23 by unfold ty_Wo; omega⟩, ⟨rfl, show ¬ ty_Wo 97 26 by unfold ty_Wo; omega⟩, ⟨rfl, show ¬ ty_Wo 97 29 by unfold ty_Wo; omega⟩, ⟨rfl, show ¬ ty_Wo 97 30 by unfold ty_Wo; omega⟩, ⟨rfl, fun k => show ¬ ty_Wo 108 k by unfold ty_Wo; omega⟩, ⟨rfl, fun k => show ¬ ty_Wo 109 k by unfold ty_Wo; omega⟩, ⟨rfl, fun k => show ¬ ty_Wo 110 k by unfold ty_Wo; omega⟩, ⟨rfl, fun k => show ¬ ty_Wo 111 k by unfold ty_Wo; omega⟩, trivial⟩ (fun h74 _ Jh74 gh74 P73 => ?_)
                            obtain ⟨gh74_0, gh74_1, gh74_2, gh74_3, gh74_4, gh74_5, gh74_6, gh74_7, gh74_8, _⟩ := gh74
                            have gh74_0 : (hs_fI h74 97 13).toInt = (hs_fI h 97 13).toInt := gh74_0
                            have gh74_1 : (hs_fI h74 97 23).toInt = (hs_fI h 97 23).toInt := gh74_1
                            have gh74_2 : (hs_fI h74 97 26).toInt = (hs_fI h 97 26).toInt := gh74_2
                            have gh74_3 : (hs_fI h74 97 29).toInt = (hs_fI h 97 29).toInt := gh74_3
                            have gh74_4 : (hs_fI h74 97 30).toInt = (hs_fI h 97 30).toInt := gh74_4
                            have gh74_5 : hs_aI h74 108 = hs_aI h 108 := gh74_5
                            have ugh74_5 : hs_aI h74 108 = (hs_aI h 108) := gh74_5.trans rfl
                            have gh74_6 : hs_aI h74 109 = hs_aI h 109 := gh74_6
                            have ugh74_6 : hs_aI h74 109 = (hs_aI h 109) := gh74_6.trans rfl
                            have gh74_7 : hs_aI h74 110 = hs_aI h 110 := gh74_7
                            have ugh74_7 : hs_aI h74 110 = (hs_aI h 110) := gh74_7.trans rfl
                            have gh74_8 : hs_aI h74 111 = hs_aI h 111 := gh74_8
                            have ugh74_8 : hs_aI h74 111 = (hs_aI h 111) := gh74_8.trans rfl
                            have Ih74 := H.1 h74 Jh74
                            obtain ⟨rq75, kq75, fq75⟩ := P73
                            subst rq75
                            have t1kq75 := kq75.1
                            have t2kq75 := kq75.2.1
                            obtain ⟨q76, eq76⟩ : ∃ q : Int32, q.toInt = (hs_fI h74 97 14).toInt := ⟨_, rfl⟩
                            have aq76 : 0 ≤ (hs_fI h74 97 14).toInt := (Ih74.2.1 97 14 (by decide)).1
                            have bq76 : (hs_fI h74 97 14).toInt ≤ 400 := (Ih74.2.1 97 14 (by decide)).2
                            obtain ⟨q77, eq77⟩ : ∃ q : Int32, q.toInt = (hs_fI h74 97 15).toInt := ⟨_, rfl⟩
                            have aq77 : 0 ≤ (hs_fI h74 97 15).toInt := (Ih74.2.1 97 15 (by decide)).1
                            have bq77 : (hs_fI h74 97 15).toInt ≤ 400 := (Ih74.2.1 97 15 (by decide)).2
                            obtain ⟨q78, eq78⟩ : ∃ q : Int32, q.toInt = (hs_fI h74 97 16).toInt := ⟨_, rfl⟩
                            have aq78 := nm_lo q78
                            have bq78 := nm_hi q78
                            obtain ⟨q79, eq79⟩ : ∃ q : Int32, q.toInt = (hs_fI h74 97 19).toInt := ⟨_, rfl⟩
                            have aq79 : 0 ≤ q79.toInt ∧ q79.toInt ≤ 1 := by omega
                            obtain ⟨q80, eq80⟩ : ∃ q : Int64, q.toInt = (hs_fL h74 97 17).toInt := ⟨_, rfl⟩
                            have aq80 := nm_llo q80
                            have bq80 := nm_lhi q80
                            refine hq_p rfl rfl ?_
                            refine ty_gB Ih74 rfl rfl (by decide) (by decide) rfl (fun z81 ez81 az81 bz81 => ?_)
                            refine ty_zne rfl (fun c82 => ?_) (fun c82 => ?_)
                            · replace c82 : 1 ≤ z81.toInt ∧ z81.toInt ≤ 1 := by omega
                              refine hq_p rfl rfl (ty_ge (n := 1) nk_i1 (fun z83 ez83 => ?_))
                              have zf : pz op0 ar0 s 0 h74 := by
                                show pq ((hs_fI h74 97 19).toInt = 0) (hs_aI h74 108) (hs_aI h74 109) (hs_aI h74 110) (hs_aI h74 111) op0 ar0 s (hs_fI h74 97 23).toInt (hs_fI h74 97 29).toInt (hs_fI h74 97 30).toInt (hs_fI h74 97 14).toInt 0
                                rw [ugh74_5, ugh74_6, ugh74_7, ugh74_8, show (hs_fI h74 97 23).toInt = (hs_fI h 97 23).toInt by omega, show (hs_fI h74 97 29).toInt = (hs_fI h 97 29).toInt by omega, show (hs_fI h74 97 30).toInt = (hs_fI h 97 30).toInt by omega]
                                exact pq_g hz (fun q => by exfalso; omega) (by omega)
                              exact hq_W.ret rfl rfl rfl ⟨Jh74, _, rfl, by omega, kq75, by omega, by omega, (fun q => by omega), ⟨by rw [if_pos (by omega)]; exact zf, fun _ => ⟨fun q => by exfalso; omega, fun q => by exfalso; omega⟩⟩⟩
                            · refine hq_p rfl rfl ?_
                              refine hq_p rfl rfl (ty_ge (n := 5) nk_i5 (fun z85 ez85 => ?_))
                              have t3 := hk.2.2.1 (by omega)
                              have gF : (hs_fI h 97 14).toInt + 1 ≤ (hs_fI h74 97 14).toInt := by omega
                              clear fq75
                              have zm : pq ((hs_fI h74 97 19).toInt = 0) (hs_aI h74 108) (hs_aI h74 109) (hs_aI h74 110) (hs_aI h74 111) op0 ar0 s (hs_fI h74 97 23).toInt (hs_fI h74 97 29).toInt (hs_fI h74 97 30).toInt (hs_fI h 97 14).toInt 1 := by rw [ugh74_5, ugh74_6, ugh74_7, ugh74_8, show (hs_fI h74 97 23).toInt = (hs_fI h 97 23).toInt by omega, show (hs_fI h74 97 29).toInt = (hs_fI h 97 29).toInt by omega, show (hs_fI h74 97 30).toInt = (hs_fI h 97 30).toInt by omega]; exact pq_g (g' := (hs_fI h74 97 19).toInt = 0) hz (fun _ => ⟨hb, rfl⟩) (Int.le_refl _)
                              refine ty_callm 0 [(0, 97, 13), (0, 97, 14), (0, 97, 15), (0, 97, 16), (0, 97, 19), (0, 97, 26), (0, 97, 30), (2, 97, 17), (3, 110, 0), (3, 111, 0)] (W := ty_Wps) H Jh74 rfl (fun _ => rfl) rfl rfl rfl (hq_pre_o Ih74.1 (x := 97) (ci := 11) rfl (by decide) rfl rfl rfl rfl) (fun a k w => by unfold ty_Wse at w; unfold ty_Wps; omega) (by unfold ty_Wse ty_Wps; omega) (ct_181 (x1 := z85) (by omega) (by omega) (by omega) zm (by omega)) ⟨⟨rfl, show ¬ ty_Wse 97 13 by unfold ty_Wse; omega⟩, ⟨rfl, show ¬ ty_Wse 97 14 by unfold ty_Wse; omega⟩, ⟨rfl, show ¬ ty_Wse 97 15 by unfold ty_Wse; omega⟩, ⟨rfl, show ¬ ty_Wse 97 16 by unfold ty_Wse; omega⟩, ⟨rfl, show ¬ ty_Wse 97 19 by unfold ty_Wse; omega⟩, ⟨rfl, show ¬ ty_Wse 97 26 by unfold ty_Wse; omega⟩, ⟨rfl, show ¬ ty_Wse 97 30 by unfold ty_Wse; omega⟩, ⟨rfl, show ¬ ty_Wse 97 17 by unfold ty_Wse; omega⟩, ⟨rfl, fun k => show ¬ ty_Wse 110 k by unfold ty_Wse; omega⟩, ⟨rfl, fun k => show ¬ ty_Wse 111 k by unfold ty_Wse; omega⟩, trivial⟩ (fun h87 _ Jh87 gh87 P86 => ?_)
                              obtain ⟨gh87_0, gh87_1, gh87_2, gh87_3, gh87_4, gh87_5, gh87_6, gh87_7, gh87_8, gh87_9, _⟩ := gh87
                              have gh87_0 : (hs_fI h87 97 13).toInt = (hs_fI h74 97 13).toInt := gh87_0
                              have gh87_1 : (hs_fI h87 97 14).toInt = (hs_fI h74 97 14).toInt := gh87_1
                              have gh87_2 : (hs_fI h87 97 15).toInt = (hs_fI h74 97 15).toInt := gh87_2
                              have gh87_3 : (hs_fI h87 97 16).toInt = (hs_fI h74 97 16).toInt := gh87_3
                              have gh87_4 : (hs_fI h87 97 19).toInt = (hs_fI h74 97 19).toInt := gh87_4
                              have gh87_5 : (hs_fI h87 97 26).toInt = (hs_fI h74 97 26).toInt := gh87_5
                              have gh87_6 : (hs_fI h87 97 30).toInt = (hs_fI h74 97 30).toInt := gh87_6
                              have gh87_7 : (hs_fL h87 97 17).toInt = (hs_fL h74 97 17).toInt := gh87_7
                              have gh87_8 : hs_aI h87 110 = hs_aI h74 110 := gh87_8
                              have ugh87_8 : hs_aI h87 110 = (hs_aI h 110) := gh87_8.trans ugh74_7
                              have gh87_9 : hs_aI h87 111 = hs_aI h74 111 := gh87_9
                              have ugh87_9 : hs_aI h87 111 = (hs_aI h 111) := gh87_9.trans ugh74_8
                              have Ih87 := H.1 h87 Jh87
                              obtain ⟨rq88, zq88, stq88, lq88⟩ := P86
                              subst rq88
                              obtain ⟨q89, eq89⟩ : ∃ q : Int32, q.toInt = (hs_fI h87 97 23).toInt := ⟨_, rfl⟩
                              have aq89 : 0 ≤ (hs_fI h87 97 23).toInt := (Ih87.2.1 97 23 (by decide)).1
                              have bq89 : (hs_fI h87 97 23).toInt ≤ 400 := (Ih87.2.1 97 23 (by decide)).2
                              obtain ⟨q90, eq90⟩ : ∃ q : Int32, q.toInt = (hs_fI h87 97 29).toInt := ⟨_, rfl⟩
                              have aq90 : 0 ≤ (hs_fI h87 97 29).toInt := (Ih87.2.1 97 29 (by decide)).1
                              have bq90 : (hs_fI h87 97 29).toInt ≤ 400 := (Ih87.2.1 97 29 (by decide)).2
                              rw [ugh74_7, ugh74_8] at zq88
                              rw [ugh74_7] at stq88
                              have y3q88 := zq88.2.2.1
                              have y2q88 := zq88.2.1
                              have y1q88 := zq88.1
                              refine hq_p rfl rfl ?_
                              refine hq_p rfl rfl ?_
                              refine hq_p rfl rfl (ty_ge (n := 0) nk_i0 (fun z91 ez91 => ?_))
                              refine ty_callm 0 [(0, 97, 13), (0, 97, 14), (0, 97, 15), (0, 97, 16), (0, 97, 19), (0, 97, 23), (0, 97, 26), (0, 97, 30), (2, 97, 17), (3, 108, 0), (3, 109, 0)] (W := ty_Wps) H Jh87 rfl (fun _ => rfl) rfl rfl rfl (hq_pre_o Ih87.1 (x := 97) (ci := 11) rfl (by decide) rfl rfl rfl rfl) (fun a k w => by unfold ty_Wi at w; unfold ty_Wps; omega) (by unfold ty_Wi ty_Wps; omega) (ct_179 (x1 := z51) (x2 := z91) (by omega) (by omega) (by omega)) ⟨⟨rfl, show ¬ ty_Wi 97 13 by unfold ty_Wi; omega⟩, ⟨rfl, show ¬ ty_Wi 97 14 by unfold ty_Wi; omega⟩, ⟨rfl, show ¬ ty_Wi 97 15 by unfold ty_Wi; omega⟩, ⟨rfl, show ¬ ty_Wi 97 16 by unfold ty_Wi; omega⟩, ⟨rfl, show ¬ ty_Wi 97 19 by unfold ty_Wi; omega⟩, ⟨rfl, show ¬ ty_Wi 97 23 by unfold ty_Wi; omega⟩, ⟨rfl, show ¬ ty_Wi 97 26 by unfold ty_Wi; omega⟩, ⟨rfl, show ¬ ty_Wi 97 30 by unfold ty_Wi; omega⟩, ⟨rfl, show ¬ ty_Wi 97 17 by unfold ty_Wi; omega⟩, ⟨rfl, fun k => show ¬ ty_Wi 108 k by unfold ty_Wi; omega⟩, ⟨rfl, fun k => show ¬ ty_Wi 109 k by unfold ty_Wi; omega⟩, trivial⟩ (fun h93 _ Jh93 gh93 P92 => ?_)
                              obtain ⟨gh93_0, gh93_1, gh93_2, gh93_3, gh93_4, gh93_5, gh93_6, gh93_7, gh93_8, gh93_9, gh93_10, _⟩ := gh93
                              have gh93_0 : (hs_fI h93 97 13).toInt = (hs_fI h87 97 13).toInt := gh93_0
                              have gh93_1 : (hs_fI h93 97 14).toInt = (hs_fI h87 97 14).toInt := gh93_1
                              have gh93_2 : (hs_fI h93 97 15).toInt = (hs_fI h87 97 15).toInt := gh93_2
                              have gh93_3 : (hs_fI h93 97 16).toInt = (hs_fI h87 97 16).toInt := gh93_3
                              have gh93_4 : (hs_fI h93 97 19).toInt = (hs_fI h87 97 19).toInt := gh93_4
                              have gh93_5 : (hs_fI h93 97 23).toInt = (hs_fI h87 97 23).toInt := gh93_5
                              have gh93_6 : (hs_fI h93 97 26).toInt = (hs_fI h87 97 26).toInt := gh93_6
                              have gh93_7 : (hs_fI h93 97 30).toInt = (hs_fI h87 97 30).toInt := gh93_7
                              have gh93_8 : (hs_fL h93 97 17).toInt = (hs_fL h87 97 17).toInt := gh93_8
                              have gh93_9 : hs_aI h93 108 = hs_aI h87 108 := gh93_9
                              have ugh93_9 : hs_aI h93 108 = (hs_aI h87 108) := gh93_9.trans rfl
                              have gh93_10 : hs_aI h93 109 = hs_aI h87 109 := gh93_10
                              have ugh93_10 : hs_aI h93 109 = (hs_aI h87 109) := gh93_10.trans rfl
                              have Ih93 := H.1 h93 Jh93
                              obtain ⟨rq94, nq94, xq94, yq94⟩ := P92
                              subst rq94
                              obtain ⟨q95, eq95⟩ : ∃ q : Int32, q.toInt = (hs_fI h93 97 29).toInt := ⟨_, rfl⟩
                              have aq95 : 0 ≤ (hs_fI h93 97 29).toInt := (Ih93.2.1 97 29 (by decide)).1
                              have bq95 : (hs_fI h93 97 29).toInt ≤ 400 := (Ih93.2.1 97 29 (by decide)).2
                              have wq94110 : hs_aI h93 110 = (upd (hs_aI h 110) (hs_fI h87 97 29).toInt.toNat z51) := by rw [xq94, ugh87_8, show (hs_fI h87 97 29).toInt.toNat = (hs_fI h87 97 29).toInt.toNat by omega]
                              have wq94111 : hs_aI h93 111 = (upd (hs_aI h 111) (hs_fI h87 97 29).toInt.toNat z91) := by rw [yq94, ugh87_9, show (hs_fI h87 97 29).toInt.toNat = (hs_fI h87 97 29).toInt.toNat by omega]
                              refine hq_p rfl rfl (ty_ge (n := 1) nk_i1 (fun z96 ez96 => ?_))
                              have k97 : tk_ok h93 := tk_same kq75 (by omega) (by omega) (by omega) (by omega) (by omega)
                              have zf : pz op0 ar0 s 0 h93 := by
                                show pq ((hs_fI h93 97 19).toInt = 0) (hs_aI h93 108) (hs_aI h93 109) (hs_aI h93 110) (hs_aI h93 111) op0 ar0 s (hs_fI h93 97 23).toInt (hs_fI h93 97 29).toInt (hs_fI h93 97 30).toInt (hs_fI h93 97 14).toInt 0
                                rw [ugh93_9, ugh93_10, wq94110, wq94111, show (hs_fI h93 97 23).toInt = (hs_fI h87 97 23).toInt by omega, show (hs_fI h93 97 29).toInt = (hs_fI h87 97 29).toInt + 1 by omega, show (hs_fI h93 97 30).toInt = (hs_fI h74 97 30).toInt by omega]
                                exact pq_push (pq_g (g' := (hs_fI h93 97 19).toInt = 0) zq88 (fun _ => ⟨by omega, rfl⟩) (Int.le_refl _)) (by omega) (by omega) (fun _ => by rw [ps_b1 (by omega) (by omega)]; rfl) (by omega) (by rw [if_neg (by omega)]; omega) (Or.inr (Or.inr (ps_nsl (pq_nsq (pq_20 hz) fz35 (by omega)) (by omega))))
                              exact hq_W.ret rfl rfl rfl ⟨Jh93, _, rfl, by omega, k97, by omega, by omega, (fun q => by omega), ⟨by rw [if_pos (by omega)]; exact zf, fun _ => ⟨fun q => by exfalso; omega, fun q => by exfalso; omega⟩⟩⟩
                      · replace c50 : 1 ≤ z49.toInt ∧ z49.toInt ≤ 1 := by omega
                        have f98 := iz49 (by omega)
                        clear iz49
                        refine hq_p rfl rfl (ty_ge (n := 26) nk_b26 (fun z99 ez99 => ?_))
                        refine hq_p rfl rfl ?_
                        refine hq_p (ls' := [some (.ref 97), some (.int x1), some (.int z99), some (.int z35)]) rfl rfl ?_
                        refine hq_p rfl rfl ?_
                        refine hq_p rfl rfl ?_
                        refine hq_p rfl rfl (ty_ge (n := 27) nk_b27 (fun z100 ez100 => ?_))
                        refine ty_ine rfl (fun c101 => ?_) (fun c101 => ?_)
                        · clear c101
                          refine hq_p rfl rfl (ty_ge (n := 1) nk_i1 (fun z102 ez102 => ?_))
                          refine hq_p rfl rfl ?_
                          refine ty_callm 0 [(0, 97, 13), (0, 97, 23), (0, 97, 26), (0, 97, 29), (0, 97, 30), (3, 108, 0), (3, 109, 0), (3, 110, 0), (3, 111, 0)] (W := ty_Wps) H hJ rfl (fun _ => rfl) rfl rfl rfl (hq_pre_o I.1 (x := 97) (ci := 11) rfl (by decide) rfl rfl rfl rfl) (fun a k w => by unfold ty_Wo at w; unfold ty_Wps; omega) (by unfold ty_Wo ty_Wps; omega) (ct_175w (x1 := z102) (by omega) (by omega) (by omega) hk) ⟨⟨rfl, show ¬ ty_Wo 97 13 by unfold ty_Wo; omega⟩, ⟨rfl, show ¬ ty_Wo 97 23 by unfold ty_Wo; omega⟩, ⟨rfl, show ¬ ty_Wo 97 26 by unfold ty_Wo; omega⟩, ⟨rfl, show ¬ ty_Wo 97 29 by unfold ty_Wo; omega⟩, ⟨rfl, show ¬ ty_Wo 97 30 by unfold ty_Wo; omega⟩, ⟨rfl, fun k => show ¬ ty_Wo 108 k by unfold ty_Wo; omega⟩, ⟨rfl, fun k => show ¬ ty_Wo 109 k by unfold ty_Wo; omega⟩, ⟨rfl, fun k => show ¬ ty_Wo 110 k by unfold ty_Wo; omega⟩, ⟨rfl, fun k => show ¬ ty_Wo 111 k by unfold ty_Wo; omega⟩, trivial⟩ (fun h104 _ Jh104 gh104 P103 => ?_)
                          obtain ⟨gh104_0, gh104_1, gh104_2, gh104_3, gh104_4, gh104_5, gh104_6, gh104_7, gh104_8, _⟩ := gh104
                          have gh104_0 : (hs_fI h104 97 13).toInt = (hs_fI h 97 13).toInt := gh104_0
                          have gh104_1 : (hs_fI h104 97 23).toInt = (hs_fI h 97 23).toInt := gh104_1
                          have gh104_2 : (hs_fI h104 97 26).toInt = (hs_fI h 97 26).toInt := gh104_2
                          have gh104_3 : (hs_fI h104 97 29).toInt = (hs_fI h 97 29).toInt := gh104_3
                          have gh104_4 : (hs_fI h104 97 30).toInt = (hs_fI h 97 30).toInt := gh104_4
                          have gh104_5 : hs_aI h104 108 = hs_aI h 108 := gh104_5
                          have ugh104_5 : hs_aI h104 108 = (hs_aI h 108) := gh104_5.trans rfl
                          have gh104_6 : hs_aI h104 109 = hs_aI h 109 := gh104_6
                          have ugh104_6 : hs_aI h104 109 = (hs_aI h 109) := gh104_6.trans rfl
                          have gh104_7 : hs_aI h104 110 = hs_aI h 110 := gh104_7
                          have ugh104_7 : hs_aI h104 110 = (hs_aI h 110) := gh104_7.trans rfl
                          have gh104_8 : hs_aI h104 111 = hs_aI h 111 := gh104_8
                          have ugh104_8 : hs_aI h104 111 = (hs_aI h 111) := gh104_8.trans rfl
                          have Ih104 := H.1 h104 Jh104
                          obtain ⟨rq105, kq105, fq105⟩ := P103
                          subst rq105
                          have t1kq105 := kq105.1
                          have t2kq105 := kq105.2.1
                          obtain ⟨q106, eq106⟩ : ∃ q : Int32, q.toInt = (hs_fI h104 97 14).toInt := ⟨_, rfl⟩
                          have aq106 : 0 ≤ (hs_fI h104 97 14).toInt := (Ih104.2.1 97 14 (by decide)).1
                          have bq106 : (hs_fI h104 97 14).toInt ≤ 400 := (Ih104.2.1 97 14 (by decide)).2
                          obtain ⟨q107, eq107⟩ : ∃ q : Int32, q.toInt = (hs_fI h104 97 15).toInt := ⟨_, rfl⟩
                          have aq107 : 0 ≤ (hs_fI h104 97 15).toInt := (Ih104.2.1 97 15 (by decide)).1
                          have bq107 : (hs_fI h104 97 15).toInt ≤ 400 := (Ih104.2.1 97 15 (by decide)).2
                          obtain ⟨q108, eq108⟩ : ∃ q : Int32, q.toInt = (hs_fI h104 97 16).toInt := ⟨_, rfl⟩
                          have aq108 := nm_lo q108
                          have bq108 := nm_hi q108
                          obtain ⟨q109, eq109⟩ : ∃ q : Int32, q.toInt = (hs_fI h104 97 19).toInt := ⟨_, rfl⟩
                          have aq109 : 0 ≤ q109.toInt ∧ q109.toInt ≤ 1 := by omega
                          obtain ⟨q110, eq110⟩ : ∃ q : Int64, q.toInt = (hs_fL h104 97 17).toInt := ⟨_, rfl⟩
                          have aq110 := nm_llo q110
                          have bq110 := nm_lhi q110
                          refine hq_p rfl rfl ?_
                          refine ty_gB Ih104 rfl rfl (by decide) (by decide) rfl (fun z111 ez111 az111 bz111 => ?_)
                          refine ty_zne rfl (fun c112 => ?_) (fun c112 => ?_)
                          · replace c112 : 1 ≤ z111.toInt ∧ z111.toInt ≤ 1 := by omega
                            refine hq_p rfl rfl (ty_ge (n := 1) nk_i1 (fun z113 ez113 => ?_))
                            have zf : pz op0 ar0 s 0 h104 := by
                              show pq ((hs_fI h104 97 19).toInt = 0) (hs_aI h104 108) (hs_aI h104 109) (hs_aI h104 110) (hs_aI h104 111) op0 ar0 s (hs_fI h104 97 23).toInt (hs_fI h104 97 29).toInt (hs_fI h104 97 30).toInt (hs_fI h104 97 14).toInt 0
                              rw [ugh104_5, ugh104_6, ugh104_7, ugh104_8, show (hs_fI h104 97 23).toInt = (hs_fI h 97 23).toInt by omega, show (hs_fI h104 97 29).toInt = (hs_fI h 97 29).toInt by omega, show (hs_fI h104 97 30).toInt = (hs_fI h 97 30).toInt by omega]
                              exact pq_g hz (fun q => by exfalso; omega) (by omega)
                            exact hq_W.ret rfl rfl rfl ⟨Jh104, _, rfl, by omega, kq105, by omega, by omega, (fun q => by omega), ⟨by rw [if_pos (by omega)]; exact zf, fun _ => ⟨fun q => by exfalso; omega, fun q => by exfalso; omega⟩⟩⟩
                          · refine hq_p rfl rfl ?_
                            refine hq_p rfl rfl (ty_ge (n := 5) nk_i5 (fun z115 ez115 => ?_))
                            have t3 := hk.2.2.1 (by omega)
                            have gF : (hs_fI h 97 14).toInt + 1 ≤ (hs_fI h104 97 14).toInt := by omega
                            clear fq105
                            have zm : pq ((hs_fI h104 97 19).toInt = 0) (hs_aI h104 108) (hs_aI h104 109) (hs_aI h104 110) (hs_aI h104 111) op0 ar0 s (hs_fI h104 97 23).toInt (hs_fI h104 97 29).toInt (hs_fI h104 97 30).toInt (hs_fI h 97 14).toInt 1 := by rw [ugh104_5, ugh104_6, ugh104_7, ugh104_8, show (hs_fI h104 97 23).toInt = (hs_fI h 97 23).toInt by omega, show (hs_fI h104 97 29).toInt = (hs_fI h 97 29).toInt by omega, show (hs_fI h104 97 30).toInt = (hs_fI h 97 30).toInt by omega]; exact pq_g (g' := (hs_fI h104 97 19).toInt = 0) hz (fun _ => ⟨hb, rfl⟩) (Int.le_refl _)
                            refine ty_callm 0 [(0, 97, 13), (0, 97, 14), (0, 97, 15), (0, 97, 16), (0, 97, 19), (0, 97, 26), (0, 97, 30), (2, 97, 17), (3, 110, 0), (3, 111, 0)] (W := ty_Wps) H Jh104 rfl (fun _ => rfl) rfl rfl rfl (hq_pre_o Ih104.1 (x := 97) (ci := 11) rfl (by decide) rfl rfl rfl rfl) (fun a k w => by unfold ty_Wse at w; unfold ty_Wps; omega) (by unfold ty_Wse ty_Wps; omega) (ct_181 (x1 := z115) (by omega) (by omega) (by omega) zm (by omega)) ⟨⟨rfl, show ¬ ty_Wse 97 13 by unfold ty_Wse; omega⟩, ⟨rfl, show ¬ ty_Wse 97 14 by unfold ty_Wse; omega⟩, ⟨rfl, show ¬ ty_Wse 97 15 by unfold ty_Wse; omega⟩, ⟨rfl, show ¬ ty_Wse 97 16 by unfold ty_Wse; omega⟩, ⟨rfl, show ¬ ty_Wse 97 19 by unfold ty_Wse; omega⟩, ⟨rfl, show ¬ ty_Wse 97 26 by unfold ty_Wse; omega⟩, ⟨rfl, show ¬ ty_Wse 97 30 by unfold ty_Wse; omega⟩, ⟨rfl, show ¬ ty_Wse 97 17 by unfold ty_Wse; omega⟩, ⟨rfl, fun k => show ¬ ty_Wse 110 k by unfold ty_Wse; omega⟩, ⟨rfl, fun k => show ¬ ty_Wse 111 k by unfold ty_Wse; omega⟩, trivial⟩ (fun h117 _ Jh117 gh117 P116 => ?_)
                            obtain ⟨gh117_0, gh117_1, gh117_2, gh117_3, gh117_4, gh117_5, gh117_6, gh117_7, gh117_8, gh117_9, _⟩ := gh117
                            have gh117_0 : (hs_fI h117 97 13).toInt = (hs_fI h104 97 13).toInt := gh117_0
                            have gh117_1 : (hs_fI h117 97 14).toInt = (hs_fI h104 97 14).toInt := gh117_1
                            have gh117_2 : (hs_fI h117 97 15).toInt = (hs_fI h104 97 15).toInt := gh117_2
                            have gh117_3 : (hs_fI h117 97 16).toInt = (hs_fI h104 97 16).toInt := gh117_3
                            have gh117_4 : (hs_fI h117 97 19).toInt = (hs_fI h104 97 19).toInt := gh117_4
                            have gh117_5 : (hs_fI h117 97 26).toInt = (hs_fI h104 97 26).toInt := gh117_5
                            have gh117_6 : (hs_fI h117 97 30).toInt = (hs_fI h104 97 30).toInt := gh117_6
                            have gh117_7 : (hs_fL h117 97 17).toInt = (hs_fL h104 97 17).toInt := gh117_7
                            have gh117_8 : hs_aI h117 110 = hs_aI h104 110 := gh117_8
                            have ugh117_8 : hs_aI h117 110 = (hs_aI h 110) := gh117_8.trans ugh104_7
                            have gh117_9 : hs_aI h117 111 = hs_aI h104 111 := gh117_9
                            have ugh117_9 : hs_aI h117 111 = (hs_aI h 111) := gh117_9.trans ugh104_8
                            have Ih117 := H.1 h117 Jh117
                            obtain ⟨rq118, zq118, stq118, lq118⟩ := P116
                            subst rq118
                            obtain ⟨q119, eq119⟩ : ∃ q : Int32, q.toInt = (hs_fI h117 97 23).toInt := ⟨_, rfl⟩
                            have aq119 : 0 ≤ (hs_fI h117 97 23).toInt := (Ih117.2.1 97 23 (by decide)).1
                            have bq119 : (hs_fI h117 97 23).toInt ≤ 400 := (Ih117.2.1 97 23 (by decide)).2
                            obtain ⟨q120, eq120⟩ : ∃ q : Int32, q.toInt = (hs_fI h117 97 29).toInt := ⟨_, rfl⟩
                            have aq120 : 0 ≤ (hs_fI h117 97 29).toInt := (Ih117.2.1 97 29 (by decide)).1
                            have bq120 : (hs_fI h117 97 29).toInt ≤ 400 := (Ih117.2.1 97 29 (by decide)).2
                            rw [ugh104_7, ugh104_8] at zq118
                            rw [ugh104_7] at stq118
                            have y3q118 := zq118.2.2.1
                            have y2q118 := zq118.2.1
                            have y1q118 := zq118.1
                            refine hq_p rfl rfl ?_
                            refine hq_p rfl rfl ?_
                            refine hq_p rfl rfl (ty_ge (n := 0) nk_i0 (fun z121 ez121 => ?_))
                            refine ty_callm 0 [(0, 97, 13), (0, 97, 14), (0, 97, 15), (0, 97, 16), (0, 97, 19), (0, 97, 23), (0, 97, 26), (0, 97, 30), (2, 97, 17), (3, 108, 0), (3, 109, 0)] (W := ty_Wps) H Jh117 rfl (fun _ => rfl) rfl rfl rfl (hq_pre_o Ih117.1 (x := 97) (ci := 11) rfl (by decide) rfl rfl rfl rfl) (fun a k w => by unfold ty_Wi at w; unfold ty_Wps; omega) (by unfold ty_Wi ty_Wps; omega) (ct_179 (x1 := z99) (x2 := z121) (by omega) (by omega) (by omega)) ⟨⟨rfl, show ¬ ty_Wi 97 13 by unfold ty_Wi; omega⟩, ⟨rfl, show ¬ ty_Wi 97 14 by unfold ty_Wi; omega⟩, ⟨rfl, show ¬ ty_Wi 97 15 by unfold ty_Wi; omega⟩, ⟨rfl, show ¬ ty_Wi 97 16 by unfold ty_Wi; omega⟩, ⟨rfl, show ¬ ty_Wi 97 19 by unfold ty_Wi; omega⟩, ⟨rfl, show ¬ ty_Wi 97 23 by unfold ty_Wi; omega⟩, ⟨rfl, show ¬ ty_Wi 97 26 by unfold ty_Wi; omega⟩, ⟨rfl, show ¬ ty_Wi 97 30 by unfold ty_Wi; omega⟩, ⟨rfl, show ¬ ty_Wi 97 17 by unfold ty_Wi; omega⟩, ⟨rfl, fun k => show ¬ ty_Wi 108 k by unfold ty_Wi; omega⟩, ⟨rfl, fun k => show ¬ ty_Wi 109 k by unfold ty_Wi; omega⟩, trivial⟩ (fun h123 _ Jh123 gh123 P122 => ?_)
                            obtain ⟨gh123_0, gh123_1, gh123_2, gh123_3, gh123_4, gh123_5, gh123_6, gh123_7, gh123_8, gh123_9, gh123_10, _⟩ := gh123
                            have gh123_0 : (hs_fI h123 97 13).toInt = (hs_fI h117 97 13).toInt := gh123_0
                            have gh123_1 : (hs_fI h123 97 14).toInt = (hs_fI h117 97 14).toInt := gh123_1
                            have gh123_2 : (hs_fI h123 97 15).toInt = (hs_fI h117 97 15).toInt := gh123_2
                            have gh123_3 : (hs_fI h123 97 16).toInt = (hs_fI h117 97 16).toInt := gh123_3
                            have gh123_4 : (hs_fI h123 97 19).toInt = (hs_fI h117 97 19).toInt := gh123_4
                            have gh123_5 : (hs_fI h123 97 23).toInt = (hs_fI h117 97 23).toInt := gh123_5
                            have gh123_6 : (hs_fI h123 97 26).toInt = (hs_fI h117 97 26).toInt := gh123_6
                            have gh123_7 : (hs_fI h123 97 30).toInt = (hs_fI h117 97 30).toInt := gh123_7
                            have gh123_8 : (hs_fL h123 97 17).toInt = (hs_fL h117 97 17).toInt := gh123_8
                            have gh123_9 : hs_aI h123 108 = hs_aI h117 108 := gh123_9
                            have ugh123_9 : hs_aI h123 108 = (hs_aI h117 108) := gh123_9.trans rfl
                            have gh123_10 : hs_aI h123 109 = hs_aI h117 109 := gh123_10
                            have ugh123_10 : hs_aI h123 109 = (hs_aI h117 109) := gh123_10.trans rfl
                            have Ih123 := H.1 h123 Jh123
                            obtain ⟨rq124, nq124, xq124, yq124⟩ := P122
                            subst rq124
                            obtain ⟨q125, eq125⟩ : ∃ q : Int32, q.toInt = (hs_fI h123 97 29).toInt := ⟨_, rfl⟩
                            have aq125 : 0 ≤ (hs_fI h123 97 29).toInt := (Ih123.2.1 97 29 (by decide)).1
                            have bq125 : (hs_fI h123 97 29).toInt ≤ 400 := (Ih123.2.1 97 29 (by decide)).2
                            have wq124110 : hs_aI h123 110 = (upd (hs_aI h 110) (hs_fI h117 97 29).toInt.toNat z99) := by rw [xq124, ugh117_8, show (hs_fI h117 97 29).toInt.toNat = (hs_fI h117 97 29).toInt.toNat by omega]
                            have wq124111 : hs_aI h123 111 = (upd (hs_aI h 111) (hs_fI h117 97 29).toInt.toNat z121) := by rw [yq124, ugh117_9, show (hs_fI h117 97 29).toInt.toNat = (hs_fI h117 97 29).toInt.toNat by omega]
                            refine hq_p rfl rfl (ty_ge (n := 1) nk_i1 (fun z126 ez126 => ?_))
                            have k127 : tk_ok h123 := tk_same kq105 (by omega) (by omega) (by omega) (by omega) (by omega)
                            have zf : pz op0 ar0 s 0 h123 := by
                              show pq ((hs_fI h123 97 19).toInt = 0) (hs_aI h123 108) (hs_aI h123 109) (hs_aI h123 110) (hs_aI h123 111) op0 ar0 s (hs_fI h123 97 23).toInt (hs_fI h123 97 29).toInt (hs_fI h123 97 30).toInt (hs_fI h123 97 14).toInt 0
                              rw [ugh123_9, ugh123_10, wq124110, wq124111, show (hs_fI h123 97 23).toInt = (hs_fI h117 97 23).toInt by omega, show (hs_fI h123 97 29).toInt = (hs_fI h117 97 29).toInt + 1 by omega, show (hs_fI h123 97 30).toInt = (hs_fI h104 97 30).toInt by omega]
                              exact pq_push (pq_g (g' := (hs_fI h123 97 19).toInt = 0) zq118 (fun _ => ⟨by omega, rfl⟩) (Int.le_refl _)) (by omega) (by omega) (fun _ => by rw [ps_b1 (by omega) (by omega)]; rfl) (by omega) (by rw [if_neg (by omega)]; omega) (Or.inr (Or.inr (ps_nsl (pq_nsq (pq_20 hz) fz35 (by omega)) (by omega))))
                            exact hq_W.ret rfl rfl rfl ⟨Jh123, _, rfl, by omega, k127, by omega, by omega, (fun q => by omega), ⟨by rw [if_pos (by omega)]; exact zf, fun _ => ⟨fun q => by exfalso; omega, fun q => by exfalso; omega⟩⟩⟩
                        · exfalso; omega
                    · replace c46 : 1 ≤ z45.toInt ∧ z45.toInt ≤ 1 := by omega
                      have f128 := iz45 (by omega)
                      clear iz45
                      refine hq_p rfl rfl (ty_ge (n := 25) nk_b25 (fun z129 ez129 => ?_))
                      refine hq_p rfl rfl ?_
                      refine hq_p (ls' := [some (.ref 97), some (.int x1), some (.int z129), some (.int z35)]) rfl rfl ?_
                      refine hq_p rfl rfl ?_
                      refine hq_p rfl rfl ?_
                      refine hq_p rfl rfl (ty_ge (n := 27) nk_b27 (fun z130 ez130 => ?_))
                      refine ty_ine rfl (fun c131 => ?_) (fun c131 => ?_)
                      · clear c131
                        refine hq_p rfl rfl (ty_ge (n := 1) nk_i1 (fun z132 ez132 => ?_))
                        refine hq_p rfl rfl ?_
                        refine ty_callm 0 [(0, 97, 13), (0, 97, 23), (0, 97, 26), (0, 97, 29), (0, 97, 30), (3, 108, 0), (3, 109, 0), (3, 110, 0), (3, 111, 0)] (W := ty_Wps) H hJ rfl (fun _ => rfl) rfl rfl rfl (hq_pre_o I.1 (x := 97) (ci := 11) rfl (by decide) rfl rfl rfl rfl) (fun a k w => by unfold ty_Wo at w; unfold ty_Wps; omega) (by unfold ty_Wo ty_Wps; omega) (ct_175w (x1 := z132) (by omega) (by omega) (by omega) hk) ⟨⟨rfl, show ¬ ty_Wo 97 13 by unfold ty_Wo; omega⟩, ⟨rfl, show ¬ ty_Wo 97 23 by unfold ty_Wo; omega⟩, ⟨rfl, show ¬ ty_Wo 97 26 by unfold ty_Wo; omega⟩, ⟨rfl, show ¬ ty_Wo 97 29 by unfold ty_Wo; omega⟩, ⟨rfl, show ¬ ty_Wo 97 30 by unfold ty_Wo; omega⟩, ⟨rfl, fun k => show ¬ ty_Wo 108 k by unfold ty_Wo; omega⟩, ⟨rfl, fun k => show ¬ ty_Wo 109 k by unfold ty_Wo; omega⟩, ⟨rfl, fun k => show ¬ ty_Wo 110 k by unfold ty_Wo; omega⟩, ⟨rfl, fun k => show ¬ ty_Wo 111 k by unfold ty_Wo; omega⟩, trivial⟩ (fun h134 _ Jh134 gh134 P133 => ?_)
                        obtain ⟨gh134_0, gh134_1, gh134_2, gh134_3, gh134_4, gh134_5, gh134_6, gh134_7, gh134_8, _⟩ := gh134
                        have gh134_0 : (hs_fI h134 97 13).toInt = (hs_fI h 97 13).toInt := gh134_0
                        have gh134_1 : (hs_fI h134 97 23).toInt = (hs_fI h 97 23).toInt := gh134_1
                        have gh134_2 : (hs_fI h134 97 26).toInt = (hs_fI h 97 26).toInt := gh134_2
                        have gh134_3 : (hs_fI h134 97 29).toInt = (hs_fI h 97 29).toInt := gh134_3
                        have gh134_4 : (hs_fI h134 97 30).toInt = (hs_fI h 97 30).toInt := gh134_4
                        have gh134_5 : hs_aI h134 108 = hs_aI h 108 := gh134_5
                        have ugh134_5 : hs_aI h134 108 = (hs_aI h 108) := gh134_5.trans rfl
                        have gh134_6 : hs_aI h134 109 = hs_aI h 109 := gh134_6
                        have ugh134_6 : hs_aI h134 109 = (hs_aI h 109) := gh134_6.trans rfl
                        have gh134_7 : hs_aI h134 110 = hs_aI h 110 := gh134_7
                        have ugh134_7 : hs_aI h134 110 = (hs_aI h 110) := gh134_7.trans rfl
                        have gh134_8 : hs_aI h134 111 = hs_aI h 111 := gh134_8
                        have ugh134_8 : hs_aI h134 111 = (hs_aI h 111) := gh134_8.trans rfl
                        have Ih134 := H.1 h134 Jh134
                        obtain ⟨rq135, kq135, fq135⟩ := P133
                        subst rq135
                        have t1kq135 := kq135.1
                        have t2kq135 := kq135.2.1
                        obtain ⟨q136, eq136⟩ : ∃ q : Int32, q.toInt = (hs_fI h134 97 14).toInt := ⟨_, rfl⟩
                        have aq136 : 0 ≤ (hs_fI h134 97 14).toInt := (Ih134.2.1 97 14 (by decide)).1
                        have bq136 : (hs_fI h134 97 14).toInt ≤ 400 := (Ih134.2.1 97 14 (by decide)).2
                        obtain ⟨q137, eq137⟩ : ∃ q : Int32, q.toInt = (hs_fI h134 97 15).toInt := ⟨_, rfl⟩
                        have aq137 : 0 ≤ (hs_fI h134 97 15).toInt := (Ih134.2.1 97 15 (by decide)).1
                        have bq137 : (hs_fI h134 97 15).toInt ≤ 400 := (Ih134.2.1 97 15 (by decide)).2
                        obtain ⟨q138, eq138⟩ : ∃ q : Int32, q.toInt = (hs_fI h134 97 16).toInt := ⟨_, rfl⟩
                        have aq138 := nm_lo q138
                        have bq138 := nm_hi q138
                        obtain ⟨q139, eq139⟩ : ∃ q : Int32, q.toInt = (hs_fI h134 97 19).toInt := ⟨_, rfl⟩
                        have aq139 : 0 ≤ q139.toInt ∧ q139.toInt ≤ 1 := by omega
                        obtain ⟨q140, eq140⟩ : ∃ q : Int64, q.toInt = (hs_fL h134 97 17).toInt := ⟨_, rfl⟩
                        have aq140 := nm_llo q140
                        have bq140 := nm_lhi q140
                        refine hq_p rfl rfl ?_
                        refine ty_gB Ih134 rfl rfl (by decide) (by decide) rfl (fun z141 ez141 az141 bz141 => ?_)
                        refine ty_zne rfl (fun c142 => ?_) (fun c142 => ?_)
                        · replace c142 : 1 ≤ z141.toInt ∧ z141.toInt ≤ 1 := by omega
                          refine hq_p rfl rfl (ty_ge (n := 1) nk_i1 (fun z143 ez143 => ?_))
                          have zf : pz op0 ar0 s 0 h134 := by
                            show pq ((hs_fI h134 97 19).toInt = 0) (hs_aI h134 108) (hs_aI h134 109) (hs_aI h134 110) (hs_aI h134 111) op0 ar0 s (hs_fI h134 97 23).toInt (hs_fI h134 97 29).toInt (hs_fI h134 97 30).toInt (hs_fI h134 97 14).toInt 0
                            rw [ugh134_5, ugh134_6, ugh134_7, ugh134_8, show (hs_fI h134 97 23).toInt = (hs_fI h 97 23).toInt by omega, show (hs_fI h134 97 29).toInt = (hs_fI h 97 29).toInt by omega, show (hs_fI h134 97 30).toInt = (hs_fI h 97 30).toInt by omega]
                            exact pq_g hz (fun q => by exfalso; omega) (by omega)
                          exact hq_W.ret rfl rfl rfl ⟨Jh134, _, rfl, by omega, kq135, by omega, by omega, (fun q => by omega), ⟨by rw [if_pos (by omega)]; exact zf, fun _ => ⟨fun q => by exfalso; omega, fun q => by exfalso; omega⟩⟩⟩
                        · refine hq_p rfl rfl ?_
                          refine hq_p rfl rfl (ty_ge (n := 5) nk_i5 (fun z145 ez145 => ?_))
                          have t3 := hk.2.2.1 (by omega)
                          have gF : (hs_fI h 97 14).toInt + 1 ≤ (hs_fI h134 97 14).toInt := by omega
                          clear fq135
                          have zm : pq ((hs_fI h134 97 19).toInt = 0) (hs_aI h134 108) (hs_aI h134 109) (hs_aI h134 110) (hs_aI h134 111) op0 ar0 s (hs_fI h134 97 23).toInt (hs_fI h134 97 29).toInt (hs_fI h134 97 30).toInt (hs_fI h 97 14).toInt 1 := by rw [ugh134_5, ugh134_6, ugh134_7, ugh134_8, show (hs_fI h134 97 23).toInt = (hs_fI h 97 23).toInt by omega, show (hs_fI h134 97 29).toInt = (hs_fI h 97 29).toInt by omega, show (hs_fI h134 97 30).toInt = (hs_fI h 97 30).toInt by omega]; exact pq_g (g' := (hs_fI h134 97 19).toInt = 0) hz (fun _ => ⟨hb, rfl⟩) (Int.le_refl _)
                          refine ty_callm 0 [(0, 97, 13), (0, 97, 14), (0, 97, 15), (0, 97, 16), (0, 97, 19), (0, 97, 26), (0, 97, 30), (2, 97, 17), (3, 110, 0), (3, 111, 0)] (W := ty_Wps) H Jh134 rfl (fun _ => rfl) rfl rfl rfl (hq_pre_o Ih134.1 (x := 97) (ci := 11) rfl (by decide) rfl rfl rfl rfl) (fun a k w => by unfold ty_Wse at w; unfold ty_Wps; omega) (by unfold ty_Wse ty_Wps; omega) (ct_181 (x1 := z145) (by omega) (by omega) (by omega) zm (by omega)) ⟨⟨rfl, show ¬ ty_Wse 97 13 by unfold ty_Wse; omega⟩, ⟨rfl, show ¬ ty_Wse 97 14 by unfold ty_Wse; omega⟩, ⟨rfl, show ¬ ty_Wse 97 15 by unfold ty_Wse; omega⟩, ⟨rfl, show ¬ ty_Wse 97 16 by unfold ty_Wse; omega⟩, ⟨rfl, show ¬ ty_Wse 97 19 by unfold ty_Wse; omega⟩, ⟨rfl, show ¬ ty_Wse 97 26 by unfold ty_Wse; omega⟩, ⟨rfl, show ¬ ty_Wse 97 30 by unfold ty_Wse; omega⟩, ⟨rfl, show ¬ ty_Wse 97 17 by unfold ty_Wse; omega⟩, ⟨rfl, fun k => show ¬ ty_Wse 110 k by unfold ty_Wse; omega⟩, ⟨rfl, fun k => show ¬ ty_Wse 111 k by unfold ty_Wse; omega⟩, trivial⟩ (fun h147 _ Jh147 gh147 P146 => ?_)
                          obtain ⟨gh147_0, gh147_1, gh147_2, gh147_3, gh147_4, gh147_5, gh147_6, gh147_7, gh147_8, gh147_9, _⟩ := gh147
                          have gh147_0 : (hs_fI h147 97 13).toInt = (hs_fI h134 97 13).toInt := gh147_0
                          have gh147_1 : (hs_fI h147 97 14).toInt = (hs_fI h134 97 14).toInt := gh147_1
                          have gh147_2 : (hs_fI h147 97 15).toInt = (hs_fI h134 97 15).toInt := gh147_2
                          have gh147_3 : (hs_fI h147 97 16).toInt = (hs_fI h134 97 16).toInt := gh147_3
                          have gh147_4 : (hs_fI h147 97 19).toInt = (hs_fI h134 97 19).toInt := gh147_4
                          have gh147_5 : (hs_fI h147 97 26).toInt = (hs_fI h134 97 26).toInt := gh147_5
                          have gh147_6 : (hs_fI h147 97 30).toInt = (hs_fI h134 97 30).toInt := gh147_6
                          have gh147_7 : (hs_fL h147 97 17).toInt = (hs_fL h134 97 17).toInt := gh147_7
                          have gh147_8 : hs_aI h147 110 = hs_aI h134 110 := gh147_8
                          have ugh147_8 : hs_aI h147 110 = (hs_aI h 110) := gh147_8.trans ugh134_7
                          have gh147_9 : hs_aI h147 111 = hs_aI h134 111 := gh147_9
                          have ugh147_9 : hs_aI h147 111 = (hs_aI h 111) := gh147_9.trans ugh134_8
                          have Ih147 := H.1 h147 Jh147
                          obtain ⟨rq148, zq148, stq148, lq148⟩ := P146
                          subst rq148
                          obtain ⟨q149, eq149⟩ : ∃ q : Int32, q.toInt = (hs_fI h147 97 23).toInt := ⟨_, rfl⟩
                          have aq149 : 0 ≤ (hs_fI h147 97 23).toInt := (Ih147.2.1 97 23 (by decide)).1
                          have bq149 : (hs_fI h147 97 23).toInt ≤ 400 := (Ih147.2.1 97 23 (by decide)).2
                          obtain ⟨q150, eq150⟩ : ∃ q : Int32, q.toInt = (hs_fI h147 97 29).toInt := ⟨_, rfl⟩
                          have aq150 : 0 ≤ (hs_fI h147 97 29).toInt := (Ih147.2.1 97 29 (by decide)).1
                          have bq150 : (hs_fI h147 97 29).toInt ≤ 400 := (Ih147.2.1 97 29 (by decide)).2
                          rw [ugh134_7, ugh134_8] at zq148
                          rw [ugh134_7] at stq148
                          have y3q148 := zq148.2.2.1
                          have y2q148 := zq148.2.1
                          have y1q148 := zq148.1
                          refine hq_p rfl rfl ?_
                          refine hq_p rfl rfl ?_
                          refine hq_p rfl rfl (ty_ge (n := 0) nk_i0 (fun z151 ez151 => ?_))
                          refine ty_callm 0 [(0, 97, 13), (0, 97, 14), (0, 97, 15), (0, 97, 16), (0, 97, 19), (0, 97, 23), (0, 97, 26), (0, 97, 30), (2, 97, 17), (3, 108, 0), (3, 109, 0)] (W := ty_Wps) H Jh147 rfl (fun _ => rfl) rfl rfl rfl (hq_pre_o Ih147.1 (x := 97) (ci := 11) rfl (by decide) rfl rfl rfl rfl) (fun a k w => by unfold ty_Wi at w; unfold ty_Wps; omega) (by unfold ty_Wi ty_Wps; omega) (ct_179 (x1 := z129) (x2 := z151) (by omega) (by omega) (by omega)) ⟨⟨rfl, show ¬ ty_Wi 97 13 by unfold ty_Wi; omega⟩, ⟨rfl, show ¬ ty_Wi 97 14 by unfold ty_Wi; omega⟩, ⟨rfl, show ¬ ty_Wi 97 15 by unfold ty_Wi; omega⟩, ⟨rfl, show ¬ ty_Wi 97 16 by unfold ty_Wi; omega⟩, ⟨rfl, show ¬ ty_Wi 97 19 by unfold ty_Wi; omega⟩, ⟨rfl, show ¬ ty_Wi 97 23 by unfold ty_Wi; omega⟩, ⟨rfl, show ¬ ty_Wi 97 26 by unfold ty_Wi; omega⟩, ⟨rfl, show ¬ ty_Wi 97 30 by unfold ty_Wi; omega⟩, ⟨rfl, show ¬ ty_Wi 97 17 by unfold ty_Wi; omega⟩, ⟨rfl, fun k => show ¬ ty_Wi 108 k by unfold ty_Wi; omega⟩, ⟨rfl, fun k => show ¬ ty_Wi 109 k by unfold ty_Wi; omega⟩, trivial⟩ (fun h153 _ Jh153 gh153 P152 => ?_)
                          obtain ⟨gh153_0, gh153_1, gh153_2, gh153_3, gh153_4, gh153_5, gh153_6, gh153_7, gh153_8, gh153_9, gh153_10, _⟩ := gh153
                          have gh153_0 : (hs_fI h153 97 13).toInt = (hs_fI h147 97 13).toInt := gh153_0
                          have gh153_1 : (hs_fI h153 97 14).toInt = (hs_fI h147 97 14).toInt := gh153_1
                          have gh153_2 : (hs_fI h153 97 15).toInt = (hs_fI h147 97 15).toInt := gh153_2
                          have gh153_3 : (hs_fI h153 97 16).toInt = (hs_fI h147 97 16).toInt := gh153_3
                          have gh153_4 : (hs_fI h153 97 19).toInt = (hs_fI h147 97 19).toInt := gh153_4
                          have gh153_5 : (hs_fI h153 97 23).toInt = (hs_fI h147 97 23).toInt := gh153_5
                          have gh153_6 : (hs_fI h153 97 26).toInt = (hs_fI h147 97 26).toInt := gh153_6
                          have gh153_7 : (hs_fI h153 97 30).toInt = (hs_fI h147 97 30).toInt := gh153_7
                          have gh153_8 : (hs_fL h153 97 17).toInt = (hs_fL h147 97 17).toInt := gh153_8
                          have gh153_9 : hs_aI h153 108 = hs_aI h147 108 := gh153_9
                          have ugh153_9 : hs_aI h153 108 = (hs_aI h147 108) := gh153_9.trans rfl
                          have gh153_10 : hs_aI h153 109 = hs_aI h147 109 := gh153_10
                          have ugh153_10 : hs_aI h153 109 = (hs_aI h147 109) := gh153_10.trans rfl
                          have Ih153 := H.1 h153 Jh153
                          obtain ⟨rq154, nq154, xq154, yq154⟩ := P152
                          subst rq154
                          obtain ⟨q155, eq155⟩ : ∃ q : Int32, q.toInt = (hs_fI h153 97 29).toInt := ⟨_, rfl⟩
                          have aq155 : 0 ≤ (hs_fI h153 97 29).toInt := (Ih153.2.1 97 29 (by decide)).1
                          have bq155 : (hs_fI h153 97 29).toInt ≤ 400 := (Ih153.2.1 97 29 (by decide)).2
                          have wq154110 : hs_aI h153 110 = (upd (hs_aI h 110) (hs_fI h147 97 29).toInt.toNat z129) := by rw [xq154, ugh147_8, show (hs_fI h147 97 29).toInt.toNat = (hs_fI h147 97 29).toInt.toNat by omega]
                          have wq154111 : hs_aI h153 111 = (upd (hs_aI h 111) (hs_fI h147 97 29).toInt.toNat z151) := by rw [yq154, ugh147_9, show (hs_fI h147 97 29).toInt.toNat = (hs_fI h147 97 29).toInt.toNat by omega]
                          refine hq_p rfl rfl (ty_ge (n := 1) nk_i1 (fun z156 ez156 => ?_))
                          have k157 : tk_ok h153 := tk_same kq135 (by omega) (by omega) (by omega) (by omega) (by omega)
                          have zf : pz op0 ar0 s 0 h153 := by
                            show pq ((hs_fI h153 97 19).toInt = 0) (hs_aI h153 108) (hs_aI h153 109) (hs_aI h153 110) (hs_aI h153 111) op0 ar0 s (hs_fI h153 97 23).toInt (hs_fI h153 97 29).toInt (hs_fI h153 97 30).toInt (hs_fI h153 97 14).toInt 0
                            rw [ugh153_9, ugh153_10, wq154110, wq154111, show (hs_fI h153 97 23).toInt = (hs_fI h147 97 23).toInt by omega, show (hs_fI h153 97 29).toInt = (hs_fI h147 97 29).toInt + 1 by omega, show (hs_fI h153 97 30).toInt = (hs_fI h134 97 30).toInt by omega]
                            exact pq_push (pq_g (g' := (hs_fI h153 97 19).toInt = 0) zq148 (fun _ => ⟨by omega, rfl⟩) (Int.le_refl _)) (by omega) (by omega) (fun _ => by rw [ps_b1 (by omega) (by omega)]; rfl) (by omega) (by rw [if_neg (by omega)]; omega) (Or.inr (Or.inr (ps_nsl (pq_nsq (pq_20 hz) fz35 (by omega)) (by omega))))
                          exact hq_W.ret rfl rfl rfl ⟨Jh153, _, rfl, by omega, k157, by omega, by omega, (fun q => by omega), ⟨by rw [if_pos (by omega)]; exact zf, fun _ => ⟨fun q => by exfalso; omega, fun q => by exfalso; omega⟩⟩⟩
                      · exfalso; omega
                  · replace c42 : 1 ≤ z41.toInt ∧ z41.toInt ≤ 1 := by omega
                    refine hq_p rfl rfl (ty_ge (n := 2) nk_i2 (fun z158 ez158 => ?_))
                    exact hq_W.ret rfl rfl rfl ⟨hJ, _, rfl, by omega, hk, by omega, by omega, (fun q => by omega), ⟨by rw [if_neg (by omega)]; exact hz, fun q => ⟨fun _ => (pq_nsq (pq_20 hz) fz35 (by omega)), fun q => by exfalso; omega⟩⟩⟩
                · refine hq_p rfl rfl ?_
                  refine ty_zne rfl (fun c159 => ?_) (fun c159 => ?_)
                  · replace c159 : 1 ≤ x1.toInt ∧ x1.toInt ≤ 1 := by omega
                    refine hq_p rfl rfl ?_
                    refine ty_callp 0 I rfl (fun _ => rfl) rfl rfl rfl (hq_pre_o I.1 (x := 97) (ci := 11) rfl (by decide) rfl rfl rfl rfl) (ct_183 (by omega)) (fun _ P160 => ?_)
                    obtain ⟨z161, rfl, az161, bz161⟩ := P160
                    refine ty_zeq rfl (fun c162 => ?_) (fun c162 => ?_)
                    · refine hq_p rfl rfl ?_
                      refine hq_p rfl rfl (ty_ge (n := 60) nk_b60 (fun z163 ez163 => ?_))
                      refine ty_callp 0 I rfl (fun _ => rfl) rfl rfl rfl (hq_pre_o I.1 (x := 97) (ci := 11) rfl (by decide) rfl rfl rfl rfl) (ct_174w (x1 := z163) (by omega)) (fun _ P164 => ?_)
                      obtain ⟨z165, rfl, az165, bz165, iz165⟩ := P164
                      refine ty_zeq rfl (fun c166 => ?_) (fun c166 => ?_)
                      · clear iz165
                        refine hq_p rfl rfl ?_
                        refine hq_p rfl rfl (ty_ge (n := 62) nk_b62 (fun z167 ez167 => ?_))
                        refine ty_callp 0 I rfl (fun _ => rfl) rfl rfl rfl (hq_pre_o I.1 (x := 97) (ci := 11) rfl (by decide) rfl rfl rfl rfl) (ct_174w (x1 := z167) (by omega)) (fun _ P168 => ?_)
                        obtain ⟨z169, rfl, az169, bz169, iz169⟩ := P168
                        refine ty_zeq rfl (fun c170 => ?_) (fun c170 => ?_)
                        · clear iz169
                          refine hq_p rfl rfl (ty_ge (n := 27) nk_b27 (fun z171 ez171 => ?_))
                          refine hq_p (ls' := [some (.ref 97), some (.int x1), some (.int z171), some (.int z35)]) rfl rfl ?_
                          refine hq_p rfl rfl ?_
                          refine hq_p rfl rfl ?_
                          refine hq_p rfl rfl (ty_ge (n := 27) nk_b27 (fun z172 ez172 => ?_))
                          refine ty_ine rfl (fun c173 => ?_) (fun c173 => ?_)
                          · exfalso; omega
                          · refine hq_p rfl rfl ?_
                            refine hq_p rfl rfl (ty_ge (n := 61) nk_b61 (fun z174 ez174 => ?_))
                            refine ty_callp 0 I rfl (fun _ => rfl) rfl rfl rfl (hq_pre_o I.1 (x := 97) (ci := 11) rfl (by decide) rfl rfl rfl rfl) (ct_174w (x1 := z174) (by omega)) (fun _ P175 => ?_)
                            obtain ⟨z176, rfl, az176, bz176, iz176⟩ := P175
                            refine ty_zeq rfl (fun c177 => ?_) (fun c177 => ?_)
                            · clear iz176
                              refine hq_p rfl rfl (ty_ge (n := 0) nk_i0 (fun z178 ez178 => ?_))
                              refine ty_callm 0 [(0, 97, 13), (0, 97, 23), (0, 97, 26), (0, 97, 29), (0, 97, 30), (3, 108, 0), (3, 109, 0), (3, 110, 0), (3, 111, 0)] (W := ty_Wps) H hJ rfl (fun _ => rfl) rfl rfl rfl (hq_pre_o I.1 (x := 97) (ci := 11) rfl (by decide) rfl rfl rfl rfl) (fun a k w => by unfold ty_Wo at w; unfold ty_Wps; omega) (by unfold ty_Wo ty_Wps; omega) (ct_175w (x1 := z178) (by omega) (by omega) (by omega) hk) ⟨⟨rfl, show ¬ ty_Wo 97 13 by unfold ty_Wo; omega⟩, ⟨rfl, show ¬ ty_Wo 97 23 by unfold ty_Wo; omega⟩, ⟨rfl, show ¬ ty_Wo 97 26 by unfold ty_Wo; omega⟩, ⟨rfl, show ¬ ty_Wo 97 29 by unfold ty_Wo; omega⟩, ⟨rfl, show ¬ ty_Wo 97 30 by unfold ty_Wo; omega⟩, ⟨rfl, fun k => show ¬ ty_Wo 108 k by unfold ty_Wo; omega⟩, ⟨rfl, fun k => show ¬ ty_Wo 109 k by unfold ty_Wo; omega⟩, ⟨rfl, fun k => show ¬ ty_Wo 110 k by unfold ty_Wo; omega⟩, ⟨rfl, fun k => show ¬ ty_Wo 111 k by unfold ty_Wo; omega⟩, trivial⟩ (fun h180 _ Jh180 gh180 P179 => ?_)
                              obtain ⟨gh180_0, gh180_1, gh180_2, gh180_3, gh180_4, gh180_5, gh180_6, gh180_7, gh180_8, _⟩ := gh180
                              have gh180_0 : (hs_fI h180 97 13).toInt = (hs_fI h 97 13).toInt := gh180_0
                              have gh180_1 : (hs_fI h180 97 23).toInt = (hs_fI h 97 23).toInt := gh180_1
                              have gh180_2 : (hs_fI h180 97 26).toInt = (hs_fI h 97 26).toInt := gh180_2
                              have gh180_3 : (hs_fI h180 97 29).toInt = (hs_fI h 97 29).toInt := gh180_3
                              have gh180_4 : (hs_fI h180 97 30).toInt = (hs_fI h 97 30).toInt := gh180_4
                              have gh180_5 : hs_aI h180 108 = hs_aI h 108 := gh180_5
                              have ugh180_5 : hs_aI h180 108 = (hs_aI h 108) := gh180_5.trans rfl
                              have gh180_6 : hs_aI h180 109 = hs_aI h 109 := gh180_6
                              have ugh180_6 : hs_aI h180 109 = (hs_aI h 109) := gh180_6.trans rfl
                              have gh180_7 : hs_aI h180 110 = hs_aI h 110 := gh180_7
                              have ugh180_7 : hs_aI h180 110 = (hs_aI h 110) := gh180_7.trans rfl
                              have gh180_8 : hs_aI h180 111 = hs_aI h 111 := gh180_8
                              have ugh180_8 : hs_aI h180 111 = (hs_aI h 111) := gh180_8.trans rfl
                              have Ih180 := H.1 h180 Jh180
                              obtain ⟨rq181, kq181, fq181⟩ := P179
                              subst rq181
                              have t1kq181 := kq181.1
                              have t2kq181 := kq181.2.1
                              obtain ⟨q182, eq182⟩ : ∃ q : Int32, q.toInt = (hs_fI h180 97 14).toInt := ⟨_, rfl⟩
                              have aq182 : 0 ≤ (hs_fI h180 97 14).toInt := (Ih180.2.1 97 14 (by decide)).1
                              have bq182 : (hs_fI h180 97 14).toInt ≤ 400 := (Ih180.2.1 97 14 (by decide)).2
                              obtain ⟨q183, eq183⟩ : ∃ q : Int32, q.toInt = (hs_fI h180 97 15).toInt := ⟨_, rfl⟩
                              have aq183 : 0 ≤ (hs_fI h180 97 15).toInt := (Ih180.2.1 97 15 (by decide)).1
                              have bq183 : (hs_fI h180 97 15).toInt ≤ 400 := (Ih180.2.1 97 15 (by decide)).2
                              obtain ⟨q184, eq184⟩ : ∃ q : Int32, q.toInt = (hs_fI h180 97 16).toInt := ⟨_, rfl⟩
                              have aq184 := nm_lo q184
                              have bq184 := nm_hi q184
                              obtain ⟨q185, eq185⟩ : ∃ q : Int32, q.toInt = (hs_fI h180 97 19).toInt := ⟨_, rfl⟩
                              have aq185 : 0 ≤ q185.toInt ∧ q185.toInt ≤ 1 := by omega
                              obtain ⟨q186, eq186⟩ : ∃ q : Int64, q.toInt = (hs_fL h180 97 17).toInt := ⟨_, rfl⟩
                              have aq186 := nm_llo q186
                              have bq186 := nm_lhi q186
                              refine hq_p rfl rfl ?_
                              refine ty_gB Ih180 rfl rfl (by decide) (by decide) rfl (fun z187 ez187 az187 bz187 => ?_)
                              refine ty_zne rfl (fun c188 => ?_) (fun c188 => ?_)
                              · clear c188
                                refine hq_p rfl rfl (ty_ge (n := 1) nk_i1 (fun z189 ez189 => ?_))
                                have zf : pz op0 ar0 s 0 h180 := by
                                  show pq ((hs_fI h180 97 19).toInt = 0) (hs_aI h180 108) (hs_aI h180 109) (hs_aI h180 110) (hs_aI h180 111) op0 ar0 s (hs_fI h180 97 23).toInt (hs_fI h180 97 29).toInt (hs_fI h180 97 30).toInt (hs_fI h180 97 14).toInt 0
                                  rw [ugh180_5, ugh180_6, ugh180_7, ugh180_8, show (hs_fI h180 97 23).toInt = (hs_fI h 97 23).toInt by omega, show (hs_fI h180 97 29).toInt = (hs_fI h 97 29).toInt by omega, show (hs_fI h180 97 30).toInt = (hs_fI h 97 30).toInt by omega]
                                  exact pq_g hz (fun q => by exfalso; omega) (by omega)
                                exact hq_W.ret rfl rfl rfl ⟨Jh180, _, rfl, by omega, kq181, by omega, by omega, (fun q => by omega), ⟨by rw [if_pos (by omega)]; exact zf, fun _ => ⟨fun q => by exfalso; omega, fun q => by exfalso; omega⟩⟩⟩
                              · exfalso; omega
                            · replace c177 : 1 ≤ z176.toInt ∧ z176.toInt ≤ 1 := by omega
                              have f191 := iz176 (by omega)
                              clear iz176
                              refine hq_p rfl rfl (ty_ge (n := 1) nk_i1 (fun z192 ez192 => ?_))
                              refine hq_p rfl rfl ?_
                              refine ty_callm 0 [(0, 97, 13), (0, 97, 23), (0, 97, 26), (0, 97, 29), (0, 97, 30), (3, 108, 0), (3, 109, 0), (3, 110, 0), (3, 111, 0)] (W := ty_Wps) H hJ rfl (fun _ => rfl) rfl rfl rfl (hq_pre_o I.1 (x := 97) (ci := 11) rfl (by decide) rfl rfl rfl rfl) (fun a k w => by unfold ty_Wo at w; unfold ty_Wps; omega) (by unfold ty_Wo ty_Wps; omega) (ct_175w (x1 := z192) (by omega) (by omega) (by omega) hk) ⟨⟨rfl, show ¬ ty_Wo 97 13 by unfold ty_Wo; omega⟩, ⟨rfl, show ¬ ty_Wo 97 23 by unfold ty_Wo; omega⟩, ⟨rfl, show ¬ ty_Wo 97 26 by unfold ty_Wo; omega⟩, ⟨rfl, show ¬ ty_Wo 97 29 by unfold ty_Wo; omega⟩, ⟨rfl, show ¬ ty_Wo 97 30 by unfold ty_Wo; omega⟩, ⟨rfl, fun k => show ¬ ty_Wo 108 k by unfold ty_Wo; omega⟩, ⟨rfl, fun k => show ¬ ty_Wo 109 k by unfold ty_Wo; omega⟩, ⟨rfl, fun k => show ¬ ty_Wo 110 k by unfold ty_Wo; omega⟩, ⟨rfl, fun k => show ¬ ty_Wo 111 k by unfold ty_Wo; omega⟩, trivial⟩ (fun h194 _ Jh194 gh194 P193 => ?_)
                              obtain ⟨gh194_0, gh194_1, gh194_2, gh194_3, gh194_4, gh194_5, gh194_6, gh194_7, gh194_8, _⟩ := gh194
                              have gh194_0 : (hs_fI h194 97 13).toInt = (hs_fI h 97 13).toInt := gh194_0
                              have gh194_1 : (hs_fI h194 97 23).toInt = (hs_fI h 97 23).toInt := gh194_1
                              have gh194_2 : (hs_fI h194 97 26).toInt = (hs_fI h 97 26).toInt := gh194_2
                              have gh194_3 : (hs_fI h194 97 29).toInt = (hs_fI h 97 29).toInt := gh194_3
                              have gh194_4 : (hs_fI h194 97 30).toInt = (hs_fI h 97 30).toInt := gh194_4
                              have gh194_5 : hs_aI h194 108 = hs_aI h 108 := gh194_5
                              have ugh194_5 : hs_aI h194 108 = (hs_aI h 108) := gh194_5.trans rfl
                              have gh194_6 : hs_aI h194 109 = hs_aI h 109 := gh194_6
                              have ugh194_6 : hs_aI h194 109 = (hs_aI h 109) := gh194_6.trans rfl
                              have gh194_7 : hs_aI h194 110 = hs_aI h 110 := gh194_7
                              have ugh194_7 : hs_aI h194 110 = (hs_aI h 110) := gh194_7.trans rfl
                              have gh194_8 : hs_aI h194 111 = hs_aI h 111 := gh194_8
                              have ugh194_8 : hs_aI h194 111 = (hs_aI h 111) := gh194_8.trans rfl
                              have Ih194 := H.1 h194 Jh194
                              obtain ⟨rq195, kq195, fq195⟩ := P193
                              subst rq195
                              have t1kq195 := kq195.1
                              have t2kq195 := kq195.2.1
                              obtain ⟨q196, eq196⟩ : ∃ q : Int32, q.toInt = (hs_fI h194 97 14).toInt := ⟨_, rfl⟩
                              have aq196 : 0 ≤ (hs_fI h194 97 14).toInt := (Ih194.2.1 97 14 (by decide)).1
                              have bq196 : (hs_fI h194 97 14).toInt ≤ 400 := (Ih194.2.1 97 14 (by decide)).2
                              obtain ⟨q197, eq197⟩ : ∃ q : Int32, q.toInt = (hs_fI h194 97 15).toInt := ⟨_, rfl⟩
                              have aq197 : 0 ≤ (hs_fI h194 97 15).toInt := (Ih194.2.1 97 15 (by decide)).1
                              have bq197 : (hs_fI h194 97 15).toInt ≤ 400 := (Ih194.2.1 97 15 (by decide)).2
                              obtain ⟨q198, eq198⟩ : ∃ q : Int32, q.toInt = (hs_fI h194 97 16).toInt := ⟨_, rfl⟩
                              have aq198 := nm_lo q198
                              have bq198 := nm_hi q198
                              obtain ⟨q199, eq199⟩ : ∃ q : Int32, q.toInt = (hs_fI h194 97 19).toInt := ⟨_, rfl⟩
                              have aq199 : 0 ≤ q199.toInt ∧ q199.toInt ≤ 1 := by omega
                              obtain ⟨q200, eq200⟩ : ∃ q : Int64, q.toInt = (hs_fL h194 97 17).toInt := ⟨_, rfl⟩
                              have aq200 := nm_llo q200
                              have bq200 := nm_lhi q200
                              refine hq_p rfl rfl ?_
                              refine ty_gB Ih194 rfl rfl (by decide) (by decide) rfl (fun z201 ez201 az201 bz201 => ?_)
                              refine ty_zne rfl (fun c202 => ?_) (fun c202 => ?_)
                              · replace c202 : 1 ≤ z201.toInt ∧ z201.toInt ≤ 1 := by omega
                                refine hq_p rfl rfl (ty_ge (n := 1) nk_i1 (fun z203 ez203 => ?_))
                                have zf : pz op0 ar0 s 0 h194 := by
                                  show pq ((hs_fI h194 97 19).toInt = 0) (hs_aI h194 108) (hs_aI h194 109) (hs_aI h194 110) (hs_aI h194 111) op0 ar0 s (hs_fI h194 97 23).toInt (hs_fI h194 97 29).toInt (hs_fI h194 97 30).toInt (hs_fI h194 97 14).toInt 0
                                  rw [ugh194_5, ugh194_6, ugh194_7, ugh194_8, show (hs_fI h194 97 23).toInt = (hs_fI h 97 23).toInt by omega, show (hs_fI h194 97 29).toInt = (hs_fI h 97 29).toInt by omega, show (hs_fI h194 97 30).toInt = (hs_fI h 97 30).toInt by omega]
                                  exact pq_g hz (fun q => by exfalso; omega) (by omega)
                                exact hq_W.ret rfl rfl rfl ⟨Jh194, _, rfl, by omega, kq195, by omega, by omega, (fun q => by omega), ⟨by rw [if_pos (by omega)]; exact zf, fun _ => ⟨fun q => by exfalso; omega, fun q => by exfalso; omega⟩⟩⟩
                              · refine hq_p rfl rfl ?_
                                refine hq_p rfl rfl (ty_ge (n := 5) nk_i5 (fun z205 ez205 => ?_))
                                have t3 := hk.2.2.1 (by omega)
                                have gF : (hs_fI h 97 14).toInt + 1 ≤ (hs_fI h194 97 14).toInt := by omega
                                clear fq195
                                have zm : pq ((hs_fI h194 97 19).toInt = 0) (hs_aI h194 108) (hs_aI h194 109) (hs_aI h194 110) (hs_aI h194 111) op0 ar0 s (hs_fI h194 97 23).toInt (hs_fI h194 97 29).toInt (hs_fI h194 97 30).toInt (hs_fI h 97 14).toInt 1 := by rw [ugh194_5, ugh194_6, ugh194_7, ugh194_8, show (hs_fI h194 97 23).toInt = (hs_fI h 97 23).toInt by omega, show (hs_fI h194 97 29).toInt = (hs_fI h 97 29).toInt by omega, show (hs_fI h194 97 30).toInt = (hs_fI h 97 30).toInt by omega]; exact pq_g (g' := (hs_fI h194 97 19).toInt = 0) hz (fun _ => ⟨hb, rfl⟩) (Int.le_refl _)
                                refine ty_callm 0 [(0, 97, 13), (0, 97, 14), (0, 97, 15), (0, 97, 16), (0, 97, 19), (0, 97, 26), (0, 97, 30), (2, 97, 17), (3, 110, 0), (3, 111, 0)] (W := ty_Wps) H Jh194 rfl (fun _ => rfl) rfl rfl rfl (hq_pre_o Ih194.1 (x := 97) (ci := 11) rfl (by decide) rfl rfl rfl rfl) (fun a k w => by unfold ty_Wse at w; unfold ty_Wps; omega) (by unfold ty_Wse ty_Wps; omega) (ct_181 (x1 := z205) (by omega) (by omega) (by omega) zm (by omega)) ⟨⟨rfl, show ¬ ty_Wse 97 13 by unfold ty_Wse; omega⟩, ⟨rfl, show ¬ ty_Wse 97 14 by unfold ty_Wse; omega⟩, ⟨rfl, show ¬ ty_Wse 97 15 by unfold ty_Wse; omega⟩, ⟨rfl, show ¬ ty_Wse 97 16 by unfold ty_Wse; omega⟩, ⟨rfl, show ¬ ty_Wse 97 19 by unfold ty_Wse; omega⟩, ⟨rfl, show ¬ ty_Wse 97 26 by unfold ty_Wse; omega⟩, ⟨rfl, show ¬ ty_Wse 97 30 by unfold ty_Wse; omega⟩, ⟨rfl, show ¬ ty_Wse 97 17 by unfold ty_Wse; omega⟩, ⟨rfl, fun k => show ¬ ty_Wse 110 k by unfold ty_Wse; omega⟩, ⟨rfl, fun k => show ¬ ty_Wse 111 k by unfold ty_Wse; omega⟩, trivial⟩ (fun h207 _ Jh207 gh207 P206 => ?_)
                                obtain ⟨gh207_0, gh207_1, gh207_2, gh207_3, gh207_4, gh207_5, gh207_6, gh207_7, gh207_8, gh207_9, _⟩ := gh207
                                have gh207_0 : (hs_fI h207 97 13).toInt = (hs_fI h194 97 13).toInt := gh207_0
                                have gh207_1 : (hs_fI h207 97 14).toInt = (hs_fI h194 97 14).toInt := gh207_1
                                have gh207_2 : (hs_fI h207 97 15).toInt = (hs_fI h194 97 15).toInt := gh207_2
                                have gh207_3 : (hs_fI h207 97 16).toInt = (hs_fI h194 97 16).toInt := gh207_3
                                have gh207_4 : (hs_fI h207 97 19).toInt = (hs_fI h194 97 19).toInt := gh207_4
                                have gh207_5 : (hs_fI h207 97 26).toInt = (hs_fI h194 97 26).toInt := gh207_5
                                have gh207_6 : (hs_fI h207 97 30).toInt = (hs_fI h194 97 30).toInt := gh207_6
                                have gh207_7 : (hs_fL h207 97 17).toInt = (hs_fL h194 97 17).toInt := gh207_7
                                have gh207_8 : hs_aI h207 110 = hs_aI h194 110 := gh207_8
                                have ugh207_8 : hs_aI h207 110 = (hs_aI h 110) := gh207_8.trans ugh194_7
                                have gh207_9 : hs_aI h207 111 = hs_aI h194 111 := gh207_9
                                have ugh207_9 : hs_aI h207 111 = (hs_aI h 111) := gh207_9.trans ugh194_8
                                have Ih207 := H.1 h207 Jh207
                                obtain ⟨rq208, zq208, stq208, lq208⟩ := P206
                                subst rq208
                                obtain ⟨q209, eq209⟩ : ∃ q : Int32, q.toInt = (hs_fI h207 97 23).toInt := ⟨_, rfl⟩
                                have aq209 : 0 ≤ (hs_fI h207 97 23).toInt := (Ih207.2.1 97 23 (by decide)).1
                                have bq209 : (hs_fI h207 97 23).toInt ≤ 400 := (Ih207.2.1 97 23 (by decide)).2
                                obtain ⟨q210, eq210⟩ : ∃ q : Int32, q.toInt = (hs_fI h207 97 29).toInt := ⟨_, rfl⟩
                                have aq210 : 0 ≤ (hs_fI h207 97 29).toInt := (Ih207.2.1 97 29 (by decide)).1
                                have bq210 : (hs_fI h207 97 29).toInt ≤ 400 := (Ih207.2.1 97 29 (by decide)).2
                                rw [ugh194_7, ugh194_8] at zq208
                                rw [ugh194_7] at stq208
                                have y3q208 := zq208.2.2.1
                                have y2q208 := zq208.2.1
                                have y1q208 := zq208.1
                                refine hq_p rfl rfl ?_
                                refine hq_p rfl rfl ?_
                                refine hq_p rfl rfl (ty_ge (n := 0) nk_i0 (fun z211 ez211 => ?_))
                                refine ty_callm 0 [(0, 97, 13), (0, 97, 14), (0, 97, 15), (0, 97, 16), (0, 97, 19), (0, 97, 23), (0, 97, 26), (0, 97, 30), (2, 97, 17), (3, 108, 0), (3, 109, 0)] (W := ty_Wps) H Jh207 rfl (fun _ => rfl) rfl rfl rfl (hq_pre_o Ih207.1 (x := 97) (ci := 11) rfl (by decide) rfl rfl rfl rfl) (fun a k w => by unfold ty_Wi at w; unfold ty_Wps; omega) (by unfold ty_Wi ty_Wps; omega) (ct_179 (x1 := z171) (x2 := z211) (by omega) (by omega) (by omega)) ⟨⟨rfl, show ¬ ty_Wi 97 13 by unfold ty_Wi; omega⟩, ⟨rfl, show ¬ ty_Wi 97 14 by unfold ty_Wi; omega⟩, ⟨rfl, show ¬ ty_Wi 97 15 by unfold ty_Wi; omega⟩, ⟨rfl, show ¬ ty_Wi 97 16 by unfold ty_Wi; omega⟩, ⟨rfl, show ¬ ty_Wi 97 19 by unfold ty_Wi; omega⟩, ⟨rfl, show ¬ ty_Wi 97 23 by unfold ty_Wi; omega⟩, ⟨rfl, show ¬ ty_Wi 97 26 by unfold ty_Wi; omega⟩, ⟨rfl, show ¬ ty_Wi 97 30 by unfold ty_Wi; omega⟩, ⟨rfl, show ¬ ty_Wi 97 17 by unfold ty_Wi; omega⟩, ⟨rfl, fun k => show ¬ ty_Wi 108 k by unfold ty_Wi; omega⟩, ⟨rfl, fun k => show ¬ ty_Wi 109 k by unfold ty_Wi; omega⟩, trivial⟩ (fun h213 _ Jh213 gh213 P212 => ?_)
                                obtain ⟨gh213_0, gh213_1, gh213_2, gh213_3, gh213_4, gh213_5, gh213_6, gh213_7, gh213_8, gh213_9, gh213_10, _⟩ := gh213
                                have gh213_0 : (hs_fI h213 97 13).toInt = (hs_fI h207 97 13).toInt := gh213_0
                                have gh213_1 : (hs_fI h213 97 14).toInt = (hs_fI h207 97 14).toInt := gh213_1
                                have gh213_2 : (hs_fI h213 97 15).toInt = (hs_fI h207 97 15).toInt := gh213_2
                                have gh213_3 : (hs_fI h213 97 16).toInt = (hs_fI h207 97 16).toInt := gh213_3
                                have gh213_4 : (hs_fI h213 97 19).toInt = (hs_fI h207 97 19).toInt := gh213_4
                                have gh213_5 : (hs_fI h213 97 23).toInt = (hs_fI h207 97 23).toInt := gh213_5
                                have gh213_6 : (hs_fI h213 97 26).toInt = (hs_fI h207 97 26).toInt := gh213_6
                                have gh213_7 : (hs_fI h213 97 30).toInt = (hs_fI h207 97 30).toInt := gh213_7
                                have gh213_8 : (hs_fL h213 97 17).toInt = (hs_fL h207 97 17).toInt := gh213_8
                                have gh213_9 : hs_aI h213 108 = hs_aI h207 108 := gh213_9
                                have ugh213_9 : hs_aI h213 108 = (hs_aI h207 108) := gh213_9.trans rfl
                                have gh213_10 : hs_aI h213 109 = hs_aI h207 109 := gh213_10
                                have ugh213_10 : hs_aI h213 109 = (hs_aI h207 109) := gh213_10.trans rfl
                                have Ih213 := H.1 h213 Jh213
                                obtain ⟨rq214, nq214, xq214, yq214⟩ := P212
                                subst rq214
                                obtain ⟨q215, eq215⟩ : ∃ q : Int32, q.toInt = (hs_fI h213 97 29).toInt := ⟨_, rfl⟩
                                have aq215 : 0 ≤ (hs_fI h213 97 29).toInt := (Ih213.2.1 97 29 (by decide)).1
                                have bq215 : (hs_fI h213 97 29).toInt ≤ 400 := (Ih213.2.1 97 29 (by decide)).2
                                have wq214110 : hs_aI h213 110 = (upd (hs_aI h 110) (hs_fI h207 97 29).toInt.toNat z171) := by rw [xq214, ugh207_8, show (hs_fI h207 97 29).toInt.toNat = (hs_fI h207 97 29).toInt.toNat by omega]
                                have wq214111 : hs_aI h213 111 = (upd (hs_aI h 111) (hs_fI h207 97 29).toInt.toNat z211) := by rw [yq214, ugh207_9, show (hs_fI h207 97 29).toInt.toNat = (hs_fI h207 97 29).toInt.toNat by omega]
                                refine hq_p rfl rfl (ty_ge (n := 1) nk_i1 (fun z216 ez216 => ?_))
                                have k217 : tk_ok h213 := tk_same kq195 (by omega) (by omega) (by omega) (by omega) (by omega)
                                have zf : pz op0 ar0 s 0 h213 := by
                                  show pq ((hs_fI h213 97 19).toInt = 0) (hs_aI h213 108) (hs_aI h213 109) (hs_aI h213 110) (hs_aI h213 111) op0 ar0 s (hs_fI h213 97 23).toInt (hs_fI h213 97 29).toInt (hs_fI h213 97 30).toInt (hs_fI h213 97 14).toInt 0
                                  rw [ugh213_9, ugh213_10, wq214110, wq214111, show (hs_fI h213 97 23).toInt = (hs_fI h207 97 23).toInt by omega, show (hs_fI h213 97 29).toInt = (hs_fI h207 97 29).toInt + 1 by omega, show (hs_fI h213 97 30).toInt = (hs_fI h194 97 30).toInt by omega]
                                  exact pq_push (pq_g (g' := (hs_fI h213 97 19).toInt = 0) zq208 (fun _ => ⟨by omega, rfl⟩) (Int.le_refl _)) (by omega) (by omega) (fun _ => by rw [ps_b1 (by omega) (by omega)]; rfl) (by omega) (by rw [if_neg (by omega)]; omega) (Or.inr (Or.inr (ps_nsl (pq_nsq (pq_20 hz) fz35 (by omega)) (by omega))))
                                exact hq_W.ret rfl rfl rfl ⟨Jh213, _, rfl, by omega, k217, by omega, by omega, (fun q => by omega), ⟨by rw [if_pos (by omega)]; exact zf, fun _ => ⟨fun q => by exfalso; omega, fun q => by exfalso; omega⟩⟩⟩
                        · replace c170 : 1 ≤ z169.toInt ∧ z169.toInt ≤ 1 := by omega
                          have f218 := iz169 (by omega)
                          clear iz169
                          refine hq_p rfl rfl (ty_ge (n := 26) nk_b26 (fun z219 ez219 => ?_))
                          refine hq_p rfl rfl ?_
                          refine hq_p (ls' := [some (.ref 97), some (.int x1), some (.int z219), some (.int z35)]) rfl rfl ?_
                          refine hq_p rfl rfl ?_
                          refine hq_p rfl rfl ?_
                          refine hq_p rfl rfl (ty_ge (n := 27) nk_b27 (fun z220 ez220 => ?_))
                          refine ty_ine rfl (fun c221 => ?_) (fun c221 => ?_)
                          · clear c221
                            refine hq_p rfl rfl (ty_ge (n := 1) nk_i1 (fun z222 ez222 => ?_))
                            refine hq_p rfl rfl ?_
                            refine ty_callm 0 [(0, 97, 13), (0, 97, 23), (0, 97, 26), (0, 97, 29), (0, 97, 30), (3, 108, 0), (3, 109, 0), (3, 110, 0), (3, 111, 0)] (W := ty_Wps) H hJ rfl (fun _ => rfl) rfl rfl rfl (hq_pre_o I.1 (x := 97) (ci := 11) rfl (by decide) rfl rfl rfl rfl) (fun a k w => by unfold ty_Wo at w; unfold ty_Wps; omega) (by unfold ty_Wo ty_Wps; omega) (ct_175w (x1 := z222) (by omega) (by omega) (by omega) hk) ⟨⟨rfl, show ¬ ty_Wo 97 13 by unfold ty_Wo; omega⟩, ⟨rfl, show ¬ ty_Wo 97 23 by unfold ty_Wo; omega⟩, ⟨rfl, show ¬ ty_Wo 97 26 by unfold ty_Wo; omega⟩, ⟨rfl, show ¬ ty_Wo 97 29 by unfold ty_Wo; omega⟩, ⟨rfl, show ¬ ty_Wo 97 30 by unfold ty_Wo; omega⟩, ⟨rfl, fun k => show ¬ ty_Wo 108 k by unfold ty_Wo; omega⟩, ⟨rfl, fun k => show ¬ ty_Wo 109 k by unfold ty_Wo; omega⟩, ⟨rfl, fun k => show ¬ ty_Wo 110 k by unfold ty_Wo; omega⟩, ⟨rfl, fun k => show ¬ ty_Wo 111 k by unfold ty_Wo; omega⟩, trivial⟩ (fun h224 _ Jh224 gh224 P223 => ?_)
                            obtain ⟨gh224_0, gh224_1, gh224_2, gh224_3, gh224_4, gh224_5, gh224_6, gh224_7, gh224_8, _⟩ := gh224
                            have gh224_0 : (hs_fI h224 97 13).toInt = (hs_fI h 97 13).toInt := gh224_0
                            have gh224_1 : (hs_fI h224 97 23).toInt = (hs_fI h 97 23).toInt := gh224_1
                            have gh224_2 : (hs_fI h224 97 26).toInt = (hs_fI h 97 26).toInt := gh224_2
                            have gh224_3 : (hs_fI h224 97 29).toInt = (hs_fI h 97 29).toInt := gh224_3
                            have gh224_4 : (hs_fI h224 97 30).toInt = (hs_fI h 97 30).toInt := gh224_4
                            have gh224_5 : hs_aI h224 108 = hs_aI h 108 := gh224_5
                            have ugh224_5 : hs_aI h224 108 = (hs_aI h 108) := gh224_5.trans rfl
                            have gh224_6 : hs_aI h224 109 = hs_aI h 109 := gh224_6
                            have ugh224_6 : hs_aI h224 109 = (hs_aI h 109) := gh224_6.trans rfl
                            have gh224_7 : hs_aI h224 110 = hs_aI h 110 := gh224_7
                            have ugh224_7 : hs_aI h224 110 = (hs_aI h 110) := gh224_7.trans rfl
                            have gh224_8 : hs_aI h224 111 = hs_aI h 111 := gh224_8
                            have ugh224_8 : hs_aI h224 111 = (hs_aI h 111) := gh224_8.trans rfl
                            have Ih224 := H.1 h224 Jh224
                            obtain ⟨rq225, kq225, fq225⟩ := P223
                            subst rq225
                            have t1kq225 := kq225.1
                            have t2kq225 := kq225.2.1
                            obtain ⟨q226, eq226⟩ : ∃ q : Int32, q.toInt = (hs_fI h224 97 14).toInt := ⟨_, rfl⟩
                            have aq226 : 0 ≤ (hs_fI h224 97 14).toInt := (Ih224.2.1 97 14 (by decide)).1
                            have bq226 : (hs_fI h224 97 14).toInt ≤ 400 := (Ih224.2.1 97 14 (by decide)).2
                            obtain ⟨q227, eq227⟩ : ∃ q : Int32, q.toInt = (hs_fI h224 97 15).toInt := ⟨_, rfl⟩
                            have aq227 : 0 ≤ (hs_fI h224 97 15).toInt := (Ih224.2.1 97 15 (by decide)).1
                            have bq227 : (hs_fI h224 97 15).toInt ≤ 400 := (Ih224.2.1 97 15 (by decide)).2
                            obtain ⟨q228, eq228⟩ : ∃ q : Int32, q.toInt = (hs_fI h224 97 16).toInt := ⟨_, rfl⟩
                            have aq228 := nm_lo q228
                            have bq228 := nm_hi q228
                            obtain ⟨q229, eq229⟩ : ∃ q : Int32, q.toInt = (hs_fI h224 97 19).toInt := ⟨_, rfl⟩
                            have aq229 : 0 ≤ q229.toInt ∧ q229.toInt ≤ 1 := by omega
                            obtain ⟨q230, eq230⟩ : ∃ q : Int64, q.toInt = (hs_fL h224 97 17).toInt := ⟨_, rfl⟩
                            have aq230 := nm_llo q230
                            have bq230 := nm_lhi q230
                            refine hq_p rfl rfl ?_
                            refine ty_gB Ih224 rfl rfl (by decide) (by decide) rfl (fun z231 ez231 az231 bz231 => ?_)
                            refine ty_zne rfl (fun c232 => ?_) (fun c232 => ?_)
                            · replace c232 : 1 ≤ z231.toInt ∧ z231.toInt ≤ 1 := by omega
                              refine hq_p rfl rfl (ty_ge (n := 1) nk_i1 (fun z233 ez233 => ?_))
                              have zf : pz op0 ar0 s 0 h224 := by
                                show pq ((hs_fI h224 97 19).toInt = 0) (hs_aI h224 108) (hs_aI h224 109) (hs_aI h224 110) (hs_aI h224 111) op0 ar0 s (hs_fI h224 97 23).toInt (hs_fI h224 97 29).toInt (hs_fI h224 97 30).toInt (hs_fI h224 97 14).toInt 0
                                rw [ugh224_5, ugh224_6, ugh224_7, ugh224_8, show (hs_fI h224 97 23).toInt = (hs_fI h 97 23).toInt by omega, show (hs_fI h224 97 29).toInt = (hs_fI h 97 29).toInt by omega, show (hs_fI h224 97 30).toInt = (hs_fI h 97 30).toInt by omega]
                                exact pq_g hz (fun q => by exfalso; omega) (by omega)
                              exact hq_W.ret rfl rfl rfl ⟨Jh224, _, rfl, by omega, kq225, by omega, by omega, (fun q => by omega), ⟨by rw [if_pos (by omega)]; exact zf, fun _ => ⟨fun q => by exfalso; omega, fun q => by exfalso; omega⟩⟩⟩
                            · refine hq_p rfl rfl ?_
                              refine hq_p rfl rfl (ty_ge (n := 5) nk_i5 (fun z235 ez235 => ?_))
                              have t3 := hk.2.2.1 (by omega)
                              have gF : (hs_fI h 97 14).toInt + 1 ≤ (hs_fI h224 97 14).toInt := by omega
                              clear fq225
                              have zm : pq ((hs_fI h224 97 19).toInt = 0) (hs_aI h224 108) (hs_aI h224 109) (hs_aI h224 110) (hs_aI h224 111) op0 ar0 s (hs_fI h224 97 23).toInt (hs_fI h224 97 29).toInt (hs_fI h224 97 30).toInt (hs_fI h 97 14).toInt 1 := by rw [ugh224_5, ugh224_6, ugh224_7, ugh224_8, show (hs_fI h224 97 23).toInt = (hs_fI h 97 23).toInt by omega, show (hs_fI h224 97 29).toInt = (hs_fI h 97 29).toInt by omega, show (hs_fI h224 97 30).toInt = (hs_fI h 97 30).toInt by omega]; exact pq_g (g' := (hs_fI h224 97 19).toInt = 0) hz (fun _ => ⟨hb, rfl⟩) (Int.le_refl _)
                              refine ty_callm 0 [(0, 97, 13), (0, 97, 14), (0, 97, 15), (0, 97, 16), (0, 97, 19), (0, 97, 26), (0, 97, 30), (2, 97, 17), (3, 110, 0), (3, 111, 0)] (W := ty_Wps) H Jh224 rfl (fun _ => rfl) rfl rfl rfl (hq_pre_o Ih224.1 (x := 97) (ci := 11) rfl (by decide) rfl rfl rfl rfl) (fun a k w => by unfold ty_Wse at w; unfold ty_Wps; omega) (by unfold ty_Wse ty_Wps; omega) (ct_181 (x1 := z235) (by omega) (by omega) (by omega) zm (by omega)) ⟨⟨rfl, show ¬ ty_Wse 97 13 by unfold ty_Wse; omega⟩, ⟨rfl, show ¬ ty_Wse 97 14 by unfold ty_Wse; omega⟩, ⟨rfl, show ¬ ty_Wse 97 15 by unfold ty_Wse; omega⟩, ⟨rfl, show ¬ ty_Wse 97 16 by unfold ty_Wse; omega⟩, ⟨rfl, show ¬ ty_Wse 97 19 by unfold ty_Wse; omega⟩, ⟨rfl, show ¬ ty_Wse 97 26 by unfold ty_Wse; omega⟩, ⟨rfl, show ¬ ty_Wse 97 30 by unfold ty_Wse; omega⟩, ⟨rfl, show ¬ ty_Wse 97 17 by unfold ty_Wse; omega⟩, ⟨rfl, fun k => show ¬ ty_Wse 110 k by unfold ty_Wse; omega⟩, ⟨rfl, fun k => show ¬ ty_Wse 111 k by unfold ty_Wse; omega⟩, trivial⟩ (fun h237 _ Jh237 gh237 P236 => ?_)
                              obtain ⟨gh237_0, gh237_1, gh237_2, gh237_3, gh237_4, gh237_5, gh237_6, gh237_7, gh237_8, gh237_9, _⟩ := gh237
                              have gh237_0 : (hs_fI h237 97 13).toInt = (hs_fI h224 97 13).toInt := gh237_0
                              have gh237_1 : (hs_fI h237 97 14).toInt = (hs_fI h224 97 14).toInt := gh237_1
                              have gh237_2 : (hs_fI h237 97 15).toInt = (hs_fI h224 97 15).toInt := gh237_2
                              have gh237_3 : (hs_fI h237 97 16).toInt = (hs_fI h224 97 16).toInt := gh237_3
                              have gh237_4 : (hs_fI h237 97 19).toInt = (hs_fI h224 97 19).toInt := gh237_4
                              have gh237_5 : (hs_fI h237 97 26).toInt = (hs_fI h224 97 26).toInt := gh237_5
                              have gh237_6 : (hs_fI h237 97 30).toInt = (hs_fI h224 97 30).toInt := gh237_6
                              have gh237_7 : (hs_fL h237 97 17).toInt = (hs_fL h224 97 17).toInt := gh237_7
                              have gh237_8 : hs_aI h237 110 = hs_aI h224 110 := gh237_8
                              have ugh237_8 : hs_aI h237 110 = (hs_aI h 110) := gh237_8.trans ugh224_7
                              have gh237_9 : hs_aI h237 111 = hs_aI h224 111 := gh237_9
                              have ugh237_9 : hs_aI h237 111 = (hs_aI h 111) := gh237_9.trans ugh224_8
                              have Ih237 := H.1 h237 Jh237
                              obtain ⟨rq238, zq238, stq238, lq238⟩ := P236
                              subst rq238
                              obtain ⟨q239, eq239⟩ : ∃ q : Int32, q.toInt = (hs_fI h237 97 23).toInt := ⟨_, rfl⟩
                              have aq239 : 0 ≤ (hs_fI h237 97 23).toInt := (Ih237.2.1 97 23 (by decide)).1
                              have bq239 : (hs_fI h237 97 23).toInt ≤ 400 := (Ih237.2.1 97 23 (by decide)).2
                              obtain ⟨q240, eq240⟩ : ∃ q : Int32, q.toInt = (hs_fI h237 97 29).toInt := ⟨_, rfl⟩
                              have aq240 : 0 ≤ (hs_fI h237 97 29).toInt := (Ih237.2.1 97 29 (by decide)).1
                              have bq240 : (hs_fI h237 97 29).toInt ≤ 400 := (Ih237.2.1 97 29 (by decide)).2
                              rw [ugh224_7, ugh224_8] at zq238
                              rw [ugh224_7] at stq238
                              have y3q238 := zq238.2.2.1
                              have y2q238 := zq238.2.1
                              have y1q238 := zq238.1
                              refine hq_p rfl rfl ?_
                              refine hq_p rfl rfl ?_
                              refine hq_p rfl rfl (ty_ge (n := 0) nk_i0 (fun z241 ez241 => ?_))
                              refine ty_callm 0 [(0, 97, 13), (0, 97, 14), (0, 97, 15), (0, 97, 16), (0, 97, 19), (0, 97, 23), (0, 97, 26), (0, 97, 30), (2, 97, 17), (3, 108, 0), (3, 109, 0)] (W := ty_Wps) H Jh237 rfl (fun _ => rfl) rfl rfl rfl (hq_pre_o Ih237.1 (x := 97) (ci := 11) rfl (by decide) rfl rfl rfl rfl) (fun a k w => by unfold ty_Wi at w; unfold ty_Wps; omega) (by unfold ty_Wi ty_Wps; omega) (ct_179 (x1 := z219) (x2 := z241) (by omega) (by omega) (by omega)) ⟨⟨rfl, show ¬ ty_Wi 97 13 by unfold ty_Wi; omega⟩, ⟨rfl, show ¬ ty_Wi 97 14 by unfold ty_Wi; omega⟩, ⟨rfl, show ¬ ty_Wi 97 15 by unfold ty_Wi; omega⟩, ⟨rfl, show ¬ ty_Wi 97 16 by unfold ty_Wi; omega⟩, ⟨rfl, show ¬ ty_Wi 97 19 by unfold ty_Wi; omega⟩, ⟨rfl, show ¬ ty_Wi 97 23 by unfold ty_Wi; omega⟩, ⟨rfl, show ¬ ty_Wi 97 26 by unfold ty_Wi; omega⟩, ⟨rfl, show ¬ ty_Wi 97 30 by unfold ty_Wi; omega⟩, ⟨rfl, show ¬ ty_Wi 97 17 by unfold ty_Wi; omega⟩, ⟨rfl, fun k => show ¬ ty_Wi 108 k by unfold ty_Wi; omega⟩, ⟨rfl, fun k => show ¬ ty_Wi 109 k by unfold ty_Wi; omega⟩, trivial⟩ (fun h243 _ Jh243 gh243 P242 => ?_)
                              obtain ⟨gh243_0, gh243_1, gh243_2, gh243_3, gh243_4, gh243_5, gh243_6, gh243_7, gh243_8, gh243_9, gh243_10, _⟩ := gh243
                              have gh243_0 : (hs_fI h243 97 13).toInt = (hs_fI h237 97 13).toInt := gh243_0
                              have gh243_1 : (hs_fI h243 97 14).toInt = (hs_fI h237 97 14).toInt := gh243_1
                              have gh243_2 : (hs_fI h243 97 15).toInt = (hs_fI h237 97 15).toInt := gh243_2
                              have gh243_3 : (hs_fI h243 97 16).toInt = (hs_fI h237 97 16).toInt := gh243_3
                              have gh243_4 : (hs_fI h243 97 19).toInt = (hs_fI h237 97 19).toInt := gh243_4
                              have gh243_5 : (hs_fI h243 97 23).toInt = (hs_fI h237 97 23).toInt := gh243_5
                              have gh243_6 : (hs_fI h243 97 26).toInt = (hs_fI h237 97 26).toInt := gh243_6
                              have gh243_7 : (hs_fI h243 97 30).toInt = (hs_fI h237 97 30).toInt := gh243_7
                              have gh243_8 : (hs_fL h243 97 17).toInt = (hs_fL h237 97 17).toInt := gh243_8
                              have gh243_9 : hs_aI h243 108 = hs_aI h237 108 := gh243_9
                              have ugh243_9 : hs_aI h243 108 = (hs_aI h237 108) := gh243_9.trans rfl
                              have gh243_10 : hs_aI h243 109 = hs_aI h237 109 := gh243_10
                              have ugh243_10 : hs_aI h243 109 = (hs_aI h237 109) := gh243_10.trans rfl
                              have Ih243 := H.1 h243 Jh243
                              obtain ⟨rq244, nq244, xq244, yq244⟩ := P242
                              subst rq244
                              obtain ⟨q245, eq245⟩ : ∃ q : Int32, q.toInt = (hs_fI h243 97 29).toInt := ⟨_, rfl⟩
                              have aq245 : 0 ≤ (hs_fI h243 97 29).toInt := (Ih243.2.1 97 29 (by decide)).1
                              have bq245 : (hs_fI h243 97 29).toInt ≤ 400 := (Ih243.2.1 97 29 (by decide)).2
                              have wq244110 : hs_aI h243 110 = (upd (hs_aI h 110) (hs_fI h237 97 29).toInt.toNat z219) := by rw [xq244, ugh237_8, show (hs_fI h237 97 29).toInt.toNat = (hs_fI h237 97 29).toInt.toNat by omega]
                              have wq244111 : hs_aI h243 111 = (upd (hs_aI h 111) (hs_fI h237 97 29).toInt.toNat z241) := by rw [yq244, ugh237_9, show (hs_fI h237 97 29).toInt.toNat = (hs_fI h237 97 29).toInt.toNat by omega]
                              refine hq_p rfl rfl (ty_ge (n := 1) nk_i1 (fun z246 ez246 => ?_))
                              have k247 : tk_ok h243 := tk_same kq225 (by omega) (by omega) (by omega) (by omega) (by omega)
                              have zf : pz op0 ar0 s 0 h243 := by
                                show pq ((hs_fI h243 97 19).toInt = 0) (hs_aI h243 108) (hs_aI h243 109) (hs_aI h243 110) (hs_aI h243 111) op0 ar0 s (hs_fI h243 97 23).toInt (hs_fI h243 97 29).toInt (hs_fI h243 97 30).toInt (hs_fI h243 97 14).toInt 0
                                rw [ugh243_9, ugh243_10, wq244110, wq244111, show (hs_fI h243 97 23).toInt = (hs_fI h237 97 23).toInt by omega, show (hs_fI h243 97 29).toInt = (hs_fI h237 97 29).toInt + 1 by omega, show (hs_fI h243 97 30).toInt = (hs_fI h224 97 30).toInt by omega]
                                exact pq_push (pq_g (g' := (hs_fI h243 97 19).toInt = 0) zq238 (fun _ => ⟨by omega, rfl⟩) (Int.le_refl _)) (by omega) (by omega) (fun _ => by rw [ps_b1 (by omega) (by omega)]; rfl) (by omega) (by rw [if_neg (by omega)]; omega) (Or.inr (Or.inr (ps_nsl (pq_nsq (pq_20 hz) fz35 (by omega)) (by omega))))
                              exact hq_W.ret rfl rfl rfl ⟨Jh243, _, rfl, by omega, k247, by omega, by omega, (fun q => by omega), ⟨by rw [if_pos (by omega)]; exact zf, fun _ => ⟨fun q => by exfalso; omega, fun q => by exfalso; omega⟩⟩⟩
                          · exfalso; omega
                      · replace c166 : 1 ≤ z165.toInt ∧ z165.toInt ≤ 1 := by omega
                        have f248 := iz165 (by omega)
                        clear iz165
                        refine hq_p rfl rfl (ty_ge (n := 25) nk_b25 (fun z249 ez249 => ?_))
                        refine hq_p rfl rfl ?_
                        refine hq_p (ls' := [some (.ref 97), some (.int x1), some (.int z249), some (.int z35)]) rfl rfl ?_
                        refine hq_p rfl rfl ?_
                        refine hq_p rfl rfl ?_
                        refine hq_p rfl rfl (ty_ge (n := 27) nk_b27 (fun z250 ez250 => ?_))
                        refine ty_ine rfl (fun c251 => ?_) (fun c251 => ?_)
                        · clear c251
                          refine hq_p rfl rfl (ty_ge (n := 1) nk_i1 (fun z252 ez252 => ?_))
                          refine hq_p rfl rfl ?_
                          refine ty_callm 0 [(0, 97, 13), (0, 97, 23), (0, 97, 26), (0, 97, 29), (0, 97, 30), (3, 108, 0), (3, 109, 0), (3, 110, 0), (3, 111, 0)] (W := ty_Wps) H hJ rfl (fun _ => rfl) rfl rfl rfl (hq_pre_o I.1 (x := 97) (ci := 11) rfl (by decide) rfl rfl rfl rfl) (fun a k w => by unfold ty_Wo at w; unfold ty_Wps; omega) (by unfold ty_Wo ty_Wps; omega) (ct_175w (x1 := z252) (by omega) (by omega) (by omega) hk) ⟨⟨rfl, show ¬ ty_Wo 97 13 by unfold ty_Wo; omega⟩, ⟨rfl, show ¬ ty_Wo 97 23 by unfold ty_Wo; omega⟩, ⟨rfl, show ¬ ty_Wo 97 26 by unfold ty_Wo; omega⟩, ⟨rfl, show ¬ ty_Wo 97 29 by unfold ty_Wo; omega⟩, ⟨rfl, show ¬ ty_Wo 97 30 by unfold ty_Wo; omega⟩, ⟨rfl, fun k => show ¬ ty_Wo 108 k by unfold ty_Wo; omega⟩, ⟨rfl, fun k => show ¬ ty_Wo 109 k by unfold ty_Wo; omega⟩, ⟨rfl, fun k => show ¬ ty_Wo 110 k by unfold ty_Wo; omega⟩, ⟨rfl, fun k => show ¬ ty_Wo 111 k by unfold ty_Wo; omega⟩, trivial⟩ (fun h254 _ Jh254 gh254 P253 => ?_)
                          obtain ⟨gh254_0, gh254_1, gh254_2, gh254_3, gh254_4, gh254_5, gh254_6, gh254_7, gh254_8, _⟩ := gh254
                          have gh254_0 : (hs_fI h254 97 13).toInt = (hs_fI h 97 13).toInt := gh254_0
                          have gh254_1 : (hs_fI h254 97 23).toInt = (hs_fI h 97 23).toInt := gh254_1
                          have gh254_2 : (hs_fI h254 97 26).toInt = (hs_fI h 97 26).toInt := gh254_2
                          have gh254_3 : (hs_fI h254 97 29).toInt = (hs_fI h 97 29).toInt := gh254_3
                          have gh254_4 : (hs_fI h254 97 30).toInt = (hs_fI h 97 30).toInt := gh254_4
                          have gh254_5 : hs_aI h254 108 = hs_aI h 108 := gh254_5
                          have ugh254_5 : hs_aI h254 108 = (hs_aI h 108) := gh254_5.trans rfl
                          have gh254_6 : hs_aI h254 109 = hs_aI h 109 := gh254_6
                          have ugh254_6 : hs_aI h254 109 = (hs_aI h 109) := gh254_6.trans rfl
                          have gh254_7 : hs_aI h254 110 = hs_aI h 110 := gh254_7
                          have ugh254_7 : hs_aI h254 110 = (hs_aI h 110) := gh254_7.trans rfl
                          have gh254_8 : hs_aI h254 111 = hs_aI h 111 := gh254_8
                          have ugh254_8 : hs_aI h254 111 = (hs_aI h 111) := gh254_8.trans rfl
                          have Ih254 := H.1 h254 Jh254
                          obtain ⟨rq255, kq255, fq255⟩ := P253
                          subst rq255
                          have t1kq255 := kq255.1
                          have t2kq255 := kq255.2.1
                          obtain ⟨q256, eq256⟩ : ∃ q : Int32, q.toInt = (hs_fI h254 97 14).toInt := ⟨_, rfl⟩
                          have aq256 : 0 ≤ (hs_fI h254 97 14).toInt := (Ih254.2.1 97 14 (by decide)).1
                          have bq256 : (hs_fI h254 97 14).toInt ≤ 400 := (Ih254.2.1 97 14 (by decide)).2
                          obtain ⟨q257, eq257⟩ : ∃ q : Int32, q.toInt = (hs_fI h254 97 15).toInt := ⟨_, rfl⟩
                          have aq257 : 0 ≤ (hs_fI h254 97 15).toInt := (Ih254.2.1 97 15 (by decide)).1
                          have bq257 : (hs_fI h254 97 15).toInt ≤ 400 := (Ih254.2.1 97 15 (by decide)).2
                          obtain ⟨q258, eq258⟩ : ∃ q : Int32, q.toInt = (hs_fI h254 97 16).toInt := ⟨_, rfl⟩
                          have aq258 := nm_lo q258
                          have bq258 := nm_hi q258
                          obtain ⟨q259, eq259⟩ : ∃ q : Int32, q.toInt = (hs_fI h254 97 19).toInt := ⟨_, rfl⟩
                          have aq259 : 0 ≤ q259.toInt ∧ q259.toInt ≤ 1 := by omega
                          obtain ⟨q260, eq260⟩ : ∃ q : Int64, q.toInt = (hs_fL h254 97 17).toInt := ⟨_, rfl⟩
                          have aq260 := nm_llo q260
                          have bq260 := nm_lhi q260
                          refine hq_p rfl rfl ?_
                          refine ty_gB Ih254 rfl rfl (by decide) (by decide) rfl (fun z261 ez261 az261 bz261 => ?_)
                          refine ty_zne rfl (fun c262 => ?_) (fun c262 => ?_)
                          · replace c262 : 1 ≤ z261.toInt ∧ z261.toInt ≤ 1 := by omega
                            refine hq_p rfl rfl (ty_ge (n := 1) nk_i1 (fun z263 ez263 => ?_))
                            have zf : pz op0 ar0 s 0 h254 := by
                              show pq ((hs_fI h254 97 19).toInt = 0) (hs_aI h254 108) (hs_aI h254 109) (hs_aI h254 110) (hs_aI h254 111) op0 ar0 s (hs_fI h254 97 23).toInt (hs_fI h254 97 29).toInt (hs_fI h254 97 30).toInt (hs_fI h254 97 14).toInt 0
                              rw [ugh254_5, ugh254_6, ugh254_7, ugh254_8, show (hs_fI h254 97 23).toInt = (hs_fI h 97 23).toInt by omega, show (hs_fI h254 97 29).toInt = (hs_fI h 97 29).toInt by omega, show (hs_fI h254 97 30).toInt = (hs_fI h 97 30).toInt by omega]
                              exact pq_g hz (fun q => by exfalso; omega) (by omega)
                            exact hq_W.ret rfl rfl rfl ⟨Jh254, _, rfl, by omega, kq255, by omega, by omega, (fun q => by omega), ⟨by rw [if_pos (by omega)]; exact zf, fun _ => ⟨fun q => by exfalso; omega, fun q => by exfalso; omega⟩⟩⟩
                          · refine hq_p rfl rfl ?_
                            refine hq_p rfl rfl (ty_ge (n := 5) nk_i5 (fun z265 ez265 => ?_))
                            have t3 := hk.2.2.1 (by omega)
                            have gF : (hs_fI h 97 14).toInt + 1 ≤ (hs_fI h254 97 14).toInt := by omega
                            clear fq255
                            have zm : pq ((hs_fI h254 97 19).toInt = 0) (hs_aI h254 108) (hs_aI h254 109) (hs_aI h254 110) (hs_aI h254 111) op0 ar0 s (hs_fI h254 97 23).toInt (hs_fI h254 97 29).toInt (hs_fI h254 97 30).toInt (hs_fI h 97 14).toInt 1 := by rw [ugh254_5, ugh254_6, ugh254_7, ugh254_8, show (hs_fI h254 97 23).toInt = (hs_fI h 97 23).toInt by omega, show (hs_fI h254 97 29).toInt = (hs_fI h 97 29).toInt by omega, show (hs_fI h254 97 30).toInt = (hs_fI h 97 30).toInt by omega]; exact pq_g (g' := (hs_fI h254 97 19).toInt = 0) hz (fun _ => ⟨hb, rfl⟩) (Int.le_refl _)
                            refine ty_callm 0 [(0, 97, 13), (0, 97, 14), (0, 97, 15), (0, 97, 16), (0, 97, 19), (0, 97, 26), (0, 97, 30), (2, 97, 17), (3, 110, 0), (3, 111, 0)] (W := ty_Wps) H Jh254 rfl (fun _ => rfl) rfl rfl rfl (hq_pre_o Ih254.1 (x := 97) (ci := 11) rfl (by decide) rfl rfl rfl rfl) (fun a k w => by unfold ty_Wse at w; unfold ty_Wps; omega) (by unfold ty_Wse ty_Wps; omega) (ct_181 (x1 := z265) (by omega) (by omega) (by omega) zm (by omega)) ⟨⟨rfl, show ¬ ty_Wse 97 13 by unfold ty_Wse; omega⟩, ⟨rfl, show ¬ ty_Wse 97 14 by unfold ty_Wse; omega⟩, ⟨rfl, show ¬ ty_Wse 97 15 by unfold ty_Wse; omega⟩, ⟨rfl, show ¬ ty_Wse 97 16 by unfold ty_Wse; omega⟩, ⟨rfl, show ¬ ty_Wse 97 19 by unfold ty_Wse; omega⟩, ⟨rfl, show ¬ ty_Wse 97 26 by unfold ty_Wse; omega⟩, ⟨rfl, show ¬ ty_Wse 97 30 by unfold ty_Wse; omega⟩, ⟨rfl, show ¬ ty_Wse 97 17 by unfold ty_Wse; omega⟩, ⟨rfl, fun k => show ¬ ty_Wse 110 k by unfold ty_Wse; omega⟩, ⟨rfl, fun k => show ¬ ty_Wse 111 k by unfold ty_Wse; omega⟩, trivial⟩ (fun h267 _ Jh267 gh267 P266 => ?_)
                            obtain ⟨gh267_0, gh267_1, gh267_2, gh267_3, gh267_4, gh267_5, gh267_6, gh267_7, gh267_8, gh267_9, _⟩ := gh267
                            have gh267_0 : (hs_fI h267 97 13).toInt = (hs_fI h254 97 13).toInt := gh267_0
                            have gh267_1 : (hs_fI h267 97 14).toInt = (hs_fI h254 97 14).toInt := gh267_1
                            have gh267_2 : (hs_fI h267 97 15).toInt = (hs_fI h254 97 15).toInt := gh267_2
                            have gh267_3 : (hs_fI h267 97 16).toInt = (hs_fI h254 97 16).toInt := gh267_3
                            have gh267_4 : (hs_fI h267 97 19).toInt = (hs_fI h254 97 19).toInt := gh267_4
                            have gh267_5 : (hs_fI h267 97 26).toInt = (hs_fI h254 97 26).toInt := gh267_5
                            have gh267_6 : (hs_fI h267 97 30).toInt = (hs_fI h254 97 30).toInt := gh267_6
                            have gh267_7 : (hs_fL h267 97 17).toInt = (hs_fL h254 97 17).toInt := gh267_7
                            have gh267_8 : hs_aI h267 110 = hs_aI h254 110 := gh267_8
                            have ugh267_8 : hs_aI h267 110 = (hs_aI h 110) := gh267_8.trans ugh254_7
                            have gh267_9 : hs_aI h267 111 = hs_aI h254 111 := gh267_9
                            have ugh267_9 : hs_aI h267 111 = (hs_aI h 111) := gh267_9.trans ugh254_8
                            have Ih267 := H.1 h267 Jh267
                            obtain ⟨rq268, zq268, stq268, lq268⟩ := P266
                            subst rq268
                            obtain ⟨q269, eq269⟩ : ∃ q : Int32, q.toInt = (hs_fI h267 97 23).toInt := ⟨_, rfl⟩
                            have aq269 : 0 ≤ (hs_fI h267 97 23).toInt := (Ih267.2.1 97 23 (by decide)).1
                            have bq269 : (hs_fI h267 97 23).toInt ≤ 400 := (Ih267.2.1 97 23 (by decide)).2
                            obtain ⟨q270, eq270⟩ : ∃ q : Int32, q.toInt = (hs_fI h267 97 29).toInt := ⟨_, rfl⟩
                            have aq270 : 0 ≤ (hs_fI h267 97 29).toInt := (Ih267.2.1 97 29 (by decide)).1
                            have bq270 : (hs_fI h267 97 29).toInt ≤ 400 := (Ih267.2.1 97 29 (by decide)).2
                            rw [ugh254_7, ugh254_8] at zq268
                            rw [ugh254_7] at stq268
                            have y3q268 := zq268.2.2.1
                            have y2q268 := zq268.2.1
                            have y1q268 := zq268.1
                            refine hq_p rfl rfl ?_
                            refine hq_p rfl rfl ?_
                            refine hq_p rfl rfl (ty_ge (n := 0) nk_i0 (fun z271 ez271 => ?_))
                            refine ty_callm 0 [(0, 97, 13), (0, 97, 14), (0, 97, 15), (0, 97, 16), (0, 97, 19), (0, 97, 23), (0, 97, 26), (0, 97, 30), (2, 97, 17), (3, 108, 0), (3, 109, 0)] (W := ty_Wps) H Jh267 rfl (fun _ => rfl) rfl rfl rfl (hq_pre_o Ih267.1 (x := 97) (ci := 11) rfl (by decide) rfl rfl rfl rfl) (fun a k w => by unfold ty_Wi at w; unfold ty_Wps; omega) (by unfold ty_Wi ty_Wps; omega) (ct_179 (x1 := z249) (x2 := z271) (by omega) (by omega) (by omega)) ⟨⟨rfl, show ¬ ty_Wi 97 13 by unfold ty_Wi; omega⟩, ⟨rfl, show ¬ ty_Wi 97 14 by unfold ty_Wi; omega⟩, ⟨rfl, show ¬ ty_Wi 97 15 by unfold ty_Wi; omega⟩, ⟨rfl, show ¬ ty_Wi 97 16 by unfold ty_Wi; omega⟩, ⟨rfl, show ¬ ty_Wi 97 19 by unfold ty_Wi; omega⟩, ⟨rfl, show ¬ ty_Wi 97 23 by unfold ty_Wi; omega⟩, ⟨rfl, show ¬ ty_Wi 97 26 by unfold ty_Wi; omega⟩, ⟨rfl, show ¬ ty_Wi 97 30 by unfold ty_Wi; omega⟩, ⟨rfl, show ¬ ty_Wi 97 17 by unfold ty_Wi; omega⟩, ⟨rfl, fun k => show ¬ ty_Wi 108 k by unfold ty_Wi; omega⟩, ⟨rfl, fun k => show ¬ ty_Wi 109 k by unfold ty_Wi; omega⟩, trivial⟩ (fun h273 _ Jh273 gh273 P272 => ?_)
                            obtain ⟨gh273_0, gh273_1, gh273_2, gh273_3, gh273_4, gh273_5, gh273_6, gh273_7, gh273_8, gh273_9, gh273_10, _⟩ := gh273
                            have gh273_0 : (hs_fI h273 97 13).toInt = (hs_fI h267 97 13).toInt := gh273_0
                            have gh273_1 : (hs_fI h273 97 14).toInt = (hs_fI h267 97 14).toInt := gh273_1
                            have gh273_2 : (hs_fI h273 97 15).toInt = (hs_fI h267 97 15).toInt := gh273_2
                            have gh273_3 : (hs_fI h273 97 16).toInt = (hs_fI h267 97 16).toInt := gh273_3
                            have gh273_4 : (hs_fI h273 97 19).toInt = (hs_fI h267 97 19).toInt := gh273_4
                            have gh273_5 : (hs_fI h273 97 23).toInt = (hs_fI h267 97 23).toInt := gh273_5
                            have gh273_6 : (hs_fI h273 97 26).toInt = (hs_fI h267 97 26).toInt := gh273_6
                            have gh273_7 : (hs_fI h273 97 30).toInt = (hs_fI h267 97 30).toInt := gh273_7
                            have gh273_8 : (hs_fL h273 97 17).toInt = (hs_fL h267 97 17).toInt := gh273_8
                            have gh273_9 : hs_aI h273 108 = hs_aI h267 108 := gh273_9
                            have ugh273_9 : hs_aI h273 108 = (hs_aI h267 108) := gh273_9.trans rfl
                            have gh273_10 : hs_aI h273 109 = hs_aI h267 109 := gh273_10
                            have ugh273_10 : hs_aI h273 109 = (hs_aI h267 109) := gh273_10.trans rfl
                            have Ih273 := H.1 h273 Jh273
                            obtain ⟨rq274, nq274, xq274, yq274⟩ := P272
                            subst rq274
                            obtain ⟨q275, eq275⟩ : ∃ q : Int32, q.toInt = (hs_fI h273 97 29).toInt := ⟨_, rfl⟩
                            have aq275 : 0 ≤ (hs_fI h273 97 29).toInt := (Ih273.2.1 97 29 (by decide)).1
                            have bq275 : (hs_fI h273 97 29).toInt ≤ 400 := (Ih273.2.1 97 29 (by decide)).2
                            have wq274110 : hs_aI h273 110 = (upd (hs_aI h 110) (hs_fI h267 97 29).toInt.toNat z249) := by rw [xq274, ugh267_8, show (hs_fI h267 97 29).toInt.toNat = (hs_fI h267 97 29).toInt.toNat by omega]
                            have wq274111 : hs_aI h273 111 = (upd (hs_aI h 111) (hs_fI h267 97 29).toInt.toNat z271) := by rw [yq274, ugh267_9, show (hs_fI h267 97 29).toInt.toNat = (hs_fI h267 97 29).toInt.toNat by omega]
                            refine hq_p rfl rfl (ty_ge (n := 1) nk_i1 (fun z276 ez276 => ?_))
                            have k277 : tk_ok h273 := tk_same kq255 (by omega) (by omega) (by omega) (by omega) (by omega)
                            have zf : pz op0 ar0 s 0 h273 := by
                              show pq ((hs_fI h273 97 19).toInt = 0) (hs_aI h273 108) (hs_aI h273 109) (hs_aI h273 110) (hs_aI h273 111) op0 ar0 s (hs_fI h273 97 23).toInt (hs_fI h273 97 29).toInt (hs_fI h273 97 30).toInt (hs_fI h273 97 14).toInt 0
                              rw [ugh273_9, ugh273_10, wq274110, wq274111, show (hs_fI h273 97 23).toInt = (hs_fI h267 97 23).toInt by omega, show (hs_fI h273 97 29).toInt = (hs_fI h267 97 29).toInt + 1 by omega, show (hs_fI h273 97 30).toInt = (hs_fI h254 97 30).toInt by omega]
                              exact pq_push (pq_g (g' := (hs_fI h273 97 19).toInt = 0) zq268 (fun _ => ⟨by omega, rfl⟩) (Int.le_refl _)) (by omega) (by omega) (fun _ => by rw [ps_b1 (by omega) (by omega)]; rfl) (by omega) (by rw [if_neg (by omega)]; omega) (Or.inr (Or.inr (ps_nsl (pq_nsq (pq_20 hz) fz35 (by omega)) (by omega))))
                            exact hq_W.ret rfl rfl rfl ⟨Jh273, _, rfl, by omega, k277, by omega, by omega, (fun q => by omega), ⟨by rw [if_pos (by omega)]; exact zf, fun _ => ⟨fun q => by exfalso; omega, fun q => by exfalso; omega⟩⟩⟩
                        · exfalso; omega
                    · replace c162 : 1 ≤ z161.toInt ∧ z161.toInt ≤ 1 := by omega
                      refine hq_p rfl rfl (ty_ge (n := 2) nk_i2 (fun z278 ez278 => ?_))
                      exact hq_W.ret rfl rfl rfl ⟨hJ, _, rfl, by omega, hk, by omega, by omega, (fun q => by omega), ⟨by rw [if_neg (by omega)]; exact hz, fun q => ⟨fun _ => (pq_nsq (pq_20 hz) fz35 (by omega)), fun q => by exfalso; omega⟩⟩⟩
                  · refine hq_p rfl rfl (ty_ge (n := 4) nk_i4 (fun z279 ez279 => ?_))
                    exact hq_W.ret rfl rfl rfl ⟨hJ, _, rfl, by omega, hk, by omega, by omega, (fun q => by omega), ⟨by rw [if_neg (by omega)]; exact hz, fun q => ⟨fun q => by exfalso; omega, fun _ => (pq_nb fz35 (by omega))⟩⟩⟩
              · refine hq_p rfl rfl ?_
                refine hq_p rfl rfl ?_
                refine hq_p rfl rfl (ty_ge (n := 93) nk_b93 (fun z280 ez280 => ?_))
                refine ty_callp 0 I rfl (fun _ => rfl) rfl rfl rfl (hq_pre_o I.1 (x := 97) (ci := 11) rfl (by decide) rfl rfl rfl rfl) (ct_174w (x1 := z280) (by omega)) (fun _ P281 => ?_)
                obtain ⟨z282, rfl, az282, bz282, iz282⟩ := P281
                refine ty_callm 0 [(0, 97, 13), (0, 97, 23), (0, 97, 26), (0, 97, 29), (0, 97, 30), (3, 108, 0), (3, 109, 0), (3, 110, 0), (3, 111, 0)] (W := ty_Wps) H hJ rfl (fun _ => rfl) rfl rfl rfl (hq_pre_o I.1 (x := 97) (ci := 11) rfl (by decide) rfl rfl rfl rfl) (fun a k w => by unfold ty_Wo at w; unfold ty_Wps; omega) (by unfold ty_Wo ty_Wps; omega) (ct_175w (x1 := z282) (by omega) (by omega) (by omega) hk) ⟨⟨rfl, show ¬ ty_Wo 97 13 by unfold ty_Wo; omega⟩, ⟨rfl, show ¬ ty_Wo 97 23 by unfold ty_Wo; omega⟩, ⟨rfl, show ¬ ty_Wo 97 26 by unfold ty_Wo; omega⟩, ⟨rfl, show ¬ ty_Wo 97 29 by unfold ty_Wo; omega⟩, ⟨rfl, show ¬ ty_Wo 97 30 by unfold ty_Wo; omega⟩, ⟨rfl, fun k => show ¬ ty_Wo 108 k by unfold ty_Wo; omega⟩, ⟨rfl, fun k => show ¬ ty_Wo 109 k by unfold ty_Wo; omega⟩, ⟨rfl, fun k => show ¬ ty_Wo 110 k by unfold ty_Wo; omega⟩, ⟨rfl, fun k => show ¬ ty_Wo 111 k by unfold ty_Wo; omega⟩, trivial⟩ (fun h284 _ Jh284 gh284 P283 => ?_)
                obtain ⟨gh284_0, gh284_1, gh284_2, gh284_3, gh284_4, gh284_5, gh284_6, gh284_7, gh284_8, _⟩ := gh284
                have gh284_0 : (hs_fI h284 97 13).toInt = (hs_fI h 97 13).toInt := gh284_0
                have gh284_1 : (hs_fI h284 97 23).toInt = (hs_fI h 97 23).toInt := gh284_1
                have gh284_2 : (hs_fI h284 97 26).toInt = (hs_fI h 97 26).toInt := gh284_2
                have gh284_3 : (hs_fI h284 97 29).toInt = (hs_fI h 97 29).toInt := gh284_3
                have gh284_4 : (hs_fI h284 97 30).toInt = (hs_fI h 97 30).toInt := gh284_4
                have gh284_5 : hs_aI h284 108 = hs_aI h 108 := gh284_5
                have ugh284_5 : hs_aI h284 108 = (hs_aI h 108) := gh284_5.trans rfl
                have gh284_6 : hs_aI h284 109 = hs_aI h 109 := gh284_6
                have ugh284_6 : hs_aI h284 109 = (hs_aI h 109) := gh284_6.trans rfl
                have gh284_7 : hs_aI h284 110 = hs_aI h 110 := gh284_7
                have ugh284_7 : hs_aI h284 110 = (hs_aI h 110) := gh284_7.trans rfl
                have gh284_8 : hs_aI h284 111 = hs_aI h 111 := gh284_8
                have ugh284_8 : hs_aI h284 111 = (hs_aI h 111) := gh284_8.trans rfl
                have Ih284 := H.1 h284 Jh284
                obtain ⟨rq285, kq285, fq285⟩ := P283
                subst rq285
                have t1kq285 := kq285.1
                have t2kq285 := kq285.2.1
                obtain ⟨q286, eq286⟩ : ∃ q : Int32, q.toInt = (hs_fI h284 97 14).toInt := ⟨_, rfl⟩
                have aq286 : 0 ≤ (hs_fI h284 97 14).toInt := (Ih284.2.1 97 14 (by decide)).1
                have bq286 : (hs_fI h284 97 14).toInt ≤ 400 := (Ih284.2.1 97 14 (by decide)).2
                obtain ⟨q287, eq287⟩ : ∃ q : Int32, q.toInt = (hs_fI h284 97 15).toInt := ⟨_, rfl⟩
                have aq287 : 0 ≤ (hs_fI h284 97 15).toInt := (Ih284.2.1 97 15 (by decide)).1
                have bq287 : (hs_fI h284 97 15).toInt ≤ 400 := (Ih284.2.1 97 15 (by decide)).2
                obtain ⟨q288, eq288⟩ : ∃ q : Int32, q.toInt = (hs_fI h284 97 16).toInt := ⟨_, rfl⟩
                have aq288 := nm_lo q288
                have bq288 := nm_hi q288
                obtain ⟨q289, eq289⟩ : ∃ q : Int32, q.toInt = (hs_fI h284 97 19).toInt := ⟨_, rfl⟩
                have aq289 : 0 ≤ q289.toInt ∧ q289.toInt ≤ 1 := by omega
                obtain ⟨q290, eq290⟩ : ∃ q : Int64, q.toInt = (hs_fL h284 97 17).toInt := ⟨_, rfl⟩
                have aq290 := nm_llo q290
                have bq290 := nm_lhi q290
                refine hq_p rfl rfl ?_
                refine ty_gB Ih284 rfl rfl (by decide) (by decide) rfl (fun z291 ez291 az291 bz291 => ?_)
                refine ty_zne rfl (fun c292 => ?_) (fun c292 => ?_)
                · replace c292 : 1 ≤ z291.toInt ∧ z291.toInt ≤ 1 := by omega
                  refine hq_p rfl rfl (ty_ge (n := 3) nk_i3 (fun z293 ez293 => ?_))
                  have zf : pz op0 ar0 s 1 h284 := by
                    show pq ((hs_fI h284 97 19).toInt = 0) (hs_aI h284 108) (hs_aI h284 109) (hs_aI h284 110) (hs_aI h284 111) op0 ar0 s (hs_fI h284 97 23).toInt (hs_fI h284 97 29).toInt (hs_fI h284 97 30).toInt (hs_fI h284 97 14).toInt 1
                    rw [ugh284_5, ugh284_6, ugh284_7, ugh284_8, show (hs_fI h284 97 23).toInt = (hs_fI h 97 23).toInt by omega, show (hs_fI h284 97 29).toInt = (hs_fI h 97 29).toInt by omega, show (hs_fI h284 97 30).toInt = (hs_fI h 97 30).toInt by omega]
                    exact pq_g hz (fun q => by exfalso; omega) (by omega)
                  exact hq_W.ret rfl rfl rfl ⟨Jh284, _, rfl, by omega, kq285, by omega, by omega, (fun q => by omega), ⟨by rw [if_neg (by omega)]; exact zf, fun _ => ⟨fun q => by exfalso; omega, fun q => by exfalso; omega⟩⟩⟩
                · refine hq_p rfl rfl ?_
                  refine hq_p rfl rfl (ty_ge (n := 5) nk_i5 (fun z295 ez295 => ?_))
                  have t3 := hk.2.2.1 (by omega)
                  have gF : (hs_fI h 97 14).toInt + 1 ≤ (hs_fI h284 97 14).toInt := by omega
                  clear fq285
                  clear iz282
                  have zm : pq ((hs_fI h284 97 19).toInt = 0) (hs_aI h284 108) (hs_aI h284 109) (hs_aI h284 110) (hs_aI h284 111) op0 ar0 s (hs_fI h284 97 23).toInt (hs_fI h284 97 29).toInt (hs_fI h284 97 30).toInt (hs_fI h 97 14).toInt 1 := by rw [ugh284_5, ugh284_6, ugh284_7, ugh284_8, show (hs_fI h284 97 23).toInt = (hs_fI h 97 23).toInt by omega, show (hs_fI h284 97 29).toInt = (hs_fI h 97 29).toInt by omega, show (hs_fI h284 97 30).toInt = (hs_fI h 97 30).toInt by omega]; exact pq_g (g' := (hs_fI h284 97 19).toInt = 0) hz (fun _ => ⟨hb, rfl⟩) (Int.le_refl _)
                  refine ty_callm 0 [(0, 97, 13), (0, 97, 14), (0, 97, 15), (0, 97, 16), (0, 97, 19), (0, 97, 26), (0, 97, 30), (2, 97, 17), (3, 110, 0), (3, 111, 0)] (W := ty_Wps) H Jh284 rfl (fun _ => rfl) rfl rfl rfl (hq_pre_o Ih284.1 (x := 97) (ci := 11) rfl (by decide) rfl rfl rfl rfl) (fun a k w => by unfold ty_Wse at w; unfold ty_Wps; omega) (by unfold ty_Wse ty_Wps; omega) (ct_181 (x1 := z295) (by omega) (by omega) (by omega) zm (by omega)) ⟨⟨rfl, show ¬ ty_Wse 97 13 by unfold ty_Wse; omega⟩, ⟨rfl, show ¬ ty_Wse 97 14 by unfold ty_Wse; omega⟩, ⟨rfl, show ¬ ty_Wse 97 15 by unfold ty_Wse; omega⟩, ⟨rfl, show ¬ ty_Wse 97 16 by unfold ty_Wse; omega⟩, ⟨rfl, show ¬ ty_Wse 97 19 by unfold ty_Wse; omega⟩, ⟨rfl, show ¬ ty_Wse 97 26 by unfold ty_Wse; omega⟩, ⟨rfl, show ¬ ty_Wse 97 30 by unfold ty_Wse; omega⟩, ⟨rfl, show ¬ ty_Wse 97 17 by unfold ty_Wse; omega⟩, ⟨rfl, fun k => show ¬ ty_Wse 110 k by unfold ty_Wse; omega⟩, ⟨rfl, fun k => show ¬ ty_Wse 111 k by unfold ty_Wse; omega⟩, trivial⟩ (fun h297 _ Jh297 gh297 P296 => ?_)
                  obtain ⟨gh297_0, gh297_1, gh297_2, gh297_3, gh297_4, gh297_5, gh297_6, gh297_7, gh297_8, gh297_9, _⟩ := gh297
                  have gh297_0 : (hs_fI h297 97 13).toInt = (hs_fI h284 97 13).toInt := gh297_0
                  have gh297_1 : (hs_fI h297 97 14).toInt = (hs_fI h284 97 14).toInt := gh297_1
                  have gh297_2 : (hs_fI h297 97 15).toInt = (hs_fI h284 97 15).toInt := gh297_2
                  have gh297_3 : (hs_fI h297 97 16).toInt = (hs_fI h284 97 16).toInt := gh297_3
                  have gh297_4 : (hs_fI h297 97 19).toInt = (hs_fI h284 97 19).toInt := gh297_4
                  have gh297_5 : (hs_fI h297 97 26).toInt = (hs_fI h284 97 26).toInt := gh297_5
                  have gh297_6 : (hs_fI h297 97 30).toInt = (hs_fI h284 97 30).toInt := gh297_6
                  have gh297_7 : (hs_fL h297 97 17).toInt = (hs_fL h284 97 17).toInt := gh297_7
                  have gh297_8 : hs_aI h297 110 = hs_aI h284 110 := gh297_8
                  have ugh297_8 : hs_aI h297 110 = (hs_aI h 110) := gh297_8.trans ugh284_7
                  have gh297_9 : hs_aI h297 111 = hs_aI h284 111 := gh297_9
                  have ugh297_9 : hs_aI h297 111 = (hs_aI h 111) := gh297_9.trans ugh284_8
                  have Ih297 := H.1 h297 Jh297
                  obtain ⟨rq298, zq298, stq298, lq298⟩ := P296
                  subst rq298
                  obtain ⟨q299, eq299⟩ : ∃ q : Int32, q.toInt = (hs_fI h297 97 23).toInt := ⟨_, rfl⟩
                  have aq299 : 0 ≤ (hs_fI h297 97 23).toInt := (Ih297.2.1 97 23 (by decide)).1
                  have bq299 : (hs_fI h297 97 23).toInt ≤ 400 := (Ih297.2.1 97 23 (by decide)).2
                  obtain ⟨q300, eq300⟩ : ∃ q : Int32, q.toInt = (hs_fI h297 97 29).toInt := ⟨_, rfl⟩
                  have aq300 : 0 ≤ (hs_fI h297 97 29).toInt := (Ih297.2.1 97 29 (by decide)).1
                  have bq300 : (hs_fI h297 97 29).toInt ≤ 400 := (Ih297.2.1 97 29 (by decide)).2
                  rw [ugh284_7, ugh284_8] at zq298
                  rw [ugh284_7] at stq298
                  have y3q298 := zq298.2.2.1
                  have y2q298 := zq298.2.1
                  have y1q298 := zq298.1
                  have st2 := stq298
                  rw [show z295.toInt = 5 by omega, show (hs_fI h284 97 29).toInt = (hs_fI h 97 29).toInt by omega] at st2
                  have sq := pq_sqr (pq_20 hz) fz35 (by omega) st2 (by omega) (by omega)
                  have sq1 := sq.1
                  have sq2 := sq.2
                  have pp := pq_pop zq298 (by omega) (by omega)
                  have pp1 := pp.1
                  refine hq_p rfl rfl ?_
                  refine hq_p rfl rfl ?_
                  refine ty_gI Ih297 rfl rfl (by decide) (by decide) rfl rfl (fun z301 ez301 az301 bz301 => ?_)
                  refine hq_p rfl rfl (ty_ge (n := 1) nk_i1 (fun z302 ez302 => ?_))
                  refine hq_p rfl rfl (ty_ge (n := z301.toInt - z302.toInt) (nm_sub (by omega) (by omega)) (fun z303 ez303 => ?_))
                  refine ty_pI (W := ty_Wps) H Jh297 rfl rfl (by decide) rfl rfl (by unfold ty_Wps; omega) rfl (by omega) (by omega) (fun h304 eh304 Jh304 => ?_)
                  have wh304 : (hs_fI h304 97 29).toInt = z303.toInt := by rw [eh304]; exact congrArg Int32.toInt (ty_fI_eq Ih297.1 rfl (by decide) rfl)
                  have vh304_110 : hs_aI h304 110 = (hs_aI h 110) := by rw [eh304]; exact (hs_aI_ne (by decide)).trans ugh297_8
                  have vh304_111 : hs_aI h304 111 = (hs_aI h 111) := by rw [eh304]; exact (hs_aI_ne (by decide)).trans ugh297_9
                  have vh304_108 : hs_aI h304 108 = (hs_aI h297 108) := by rw [eh304]; exact (hs_aI_ne (by decide)).trans rfl
                  have vh304_109 : hs_aI h304 109 = (hs_aI h297 109) := by rw [eh304]; exact (hs_aI_ne (by decide)).trans rfl
                  have Ih304 := H.1 h304 Jh304
                  refine hq_p rfl rfl ?_
                  refine hq_p rfl rfl ?_
                  have r306 : (hs_fI h304 97 30).toInt = (hs_fI h297 97 30).toInt := by rw [eh304]; exact congrArg Int32.toInt (ty_fI_sF (by decide))
                  refine ty_gI Ih304 rfl rfl (by decide) (by decide) rfl rfl (fun z305 ez305 az305 bz305 => ?_)
                  refine hq_p rfl rfl (ty_ge (n := 1) nk_i1 (fun z307 ez307 => ?_))
                  refine hq_p rfl rfl (ty_ge (n := z305.toInt - z307.toInt) (nm_sub (by omega) (by omega)) (fun z308 ez308 => ?_))
                  refine ty_pI (W := ty_Wps) H Jh304 rfl rfl (by decide) rfl rfl (by unfold ty_Wps; omega) rfl (by omega) (by omega) (fun h309 eh309 Jh309 => ?_)
                  have wh309 : (hs_fI h309 97 30).toInt = z308.toInt := by rw [eh309]; exact congrArg Int32.toInt (ty_fI_eq Ih304.1 rfl (by decide) rfl)
                  have vh309_110 : hs_aI h309 110 = (hs_aI h 110) := by rw [eh309]; exact (hs_aI_ne (by decide)).trans vh304_110
                  have vh309_111 : hs_aI h309 111 = (hs_aI h 111) := by rw [eh309]; exact (hs_aI_ne (by decide)).trans vh304_111
                  have vh309_108 : hs_aI h309 108 = (hs_aI h297 108) := by rw [eh309]; exact (hs_aI_ne (by decide)).trans vh304_108
                  have vh309_109 : hs_aI h309 109 = (hs_aI h297 109) := by rw [eh309]; exact (hs_aI_ne (by decide)).trans vh304_109
                  have Ih309 := H.1 h309 Jh309
                  refine hq_p rfl rfl (ty_ge (n := 3) nk_i3 (fun z310 ez310 => ?_))
                  have r311 : (hs_fI h304 97 13).toInt = (hs_fI h297 97 13).toInt := by rw [eh304]; exact congrArg Int32.toInt (ty_fI_sF (by decide))
                  have r312 : (hs_fI h309 97 13).toInt = (hs_fI h304 97 13).toInt := by rw [eh309]; exact congrArg Int32.toInt (ty_fI_sF (by decide))
                  have r313 : (hs_fI h304 97 14).toInt = (hs_fI h297 97 14).toInt := by rw [eh304]; exact congrArg Int32.toInt (ty_fI_sF (by decide))
                  have r314 : (hs_fI h309 97 14).toInt = (hs_fI h304 97 14).toInt := by rw [eh309]; exact congrArg Int32.toInt (ty_fI_sF (by decide))
                  have r315 : (hs_fI h304 97 15).toInt = (hs_fI h297 97 15).toInt := by rw [eh304]; exact congrArg Int32.toInt (ty_fI_sF (by decide))
                  have r316 : (hs_fI h309 97 15).toInt = (hs_fI h304 97 15).toInt := by rw [eh309]; exact congrArg Int32.toInt (ty_fI_sF (by decide))
                  have r317 : (hs_fI h304 97 16).toInt = (hs_fI h297 97 16).toInt := by rw [eh304]; exact congrArg Int32.toInt (ty_fI_sF (by decide))
                  have r318 : (hs_fI h309 97 16).toInt = (hs_fI h304 97 16).toInt := by rw [eh309]; exact congrArg Int32.toInt (ty_fI_sF (by decide))
                  have r319 : (hs_fI h304 97 19).toInt = (hs_fI h297 97 19).toInt := by rw [eh304]; exact congrArg Int32.toInt (ty_fI_sF (by decide))
                  have r320 : (hs_fI h309 97 19).toInt = (hs_fI h304 97 19).toInt := by rw [eh309]; exact congrArg Int32.toInt (ty_fI_sF (by decide))
                  have r321 : (hs_fI h304 97 23).toInt = (hs_fI h297 97 23).toInt := by rw [eh304]; exact congrArg Int32.toInt (ty_fI_sF (by decide))
                  have r322 : (hs_fI h309 97 23).toInt = (hs_fI h304 97 23).toInt := by rw [eh309]; exact congrArg Int32.toInt (ty_fI_sF (by decide))
                  have r323 : (hs_fI h304 97 26).toInt = (hs_fI h297 97 26).toInt := by rw [eh304]; exact congrArg Int32.toInt (ty_fI_sF (by decide))
                  have r324 : (hs_fI h309 97 26).toInt = (hs_fI h304 97 26).toInt := by rw [eh309]; exact congrArg Int32.toInt (ty_fI_sF (by decide))
                  have r325 : (hs_fI h309 97 29).toInt = (hs_fI h304 97 29).toInt := by rw [eh309]; exact congrArg Int32.toInt (ty_fI_sF (by decide))
                  have r326 : (hs_fL h304 97 17).toInt = (hs_fL h297 97 17).toInt := by rw [eh304]; exact congrArg Int64.toInt (ty_fL_sF (by decide))
                  have r327 : (hs_fL h309 97 17).toInt = (hs_fL h304 97 17).toInt := by rw [eh309]; exact congrArg Int64.toInt (ty_fL_sF (by decide))
                  have k328 : tk_ok h309 := tk_same kq285 (by omega) (by omega) (by omega) (by omega) (by omega)
                  have zf : pz op0 ar0 s 1 h309 := by
                    show pq ((hs_fI h309 97 19).toInt = 0) (hs_aI h309 108) (hs_aI h309 109) (hs_aI h309 110) (hs_aI h309 111) op0 ar0 s (hs_fI h309 97 23).toInt (hs_fI h309 97 29).toInt (hs_fI h309 97 30).toInt (hs_fI h309 97 14).toInt 1
                    rw [vh309_108, vh309_109, vh309_110, vh309_111, show (hs_fI h309 97 23).toInt = (hs_fI h297 97 23).toInt by omega, show (hs_fI h309 97 29).toInt = (hs_fI h297 97 29).toInt - 1 by omega, show (hs_fI h309 97 30).toInt = (hs_fI h284 97 30).toInt - 1 by omega]
                    exact pq_g pp.2 (fun _ => ⟨by omega, rfl⟩) (by omega)
                  exact hq_W.ret rfl rfl rfl ⟨Jh309, _, rfl, by omega, k328, by omega, by omega, (fun q => by omega), ⟨by rw [if_neg (by omega)]; exact zf, fun _ => ⟨fun q => by exfalso; omega, fun q => by exfalso; omega⟩⟩⟩
            · exfalso; omega
          · replace c30 : 1 ≤ z29.toInt ∧ z29.toInt ≤ 1 := by omega
            have f329 := iz29 (by omega)
            clear iz29
            refine hq_p rfl rfl (ty_ge (n := 24) nk_b24 (fun z330 ez330 => ?_))
            refine hq_p rfl rfl ?_
            refine hq_p (ls' := [some (.ref 97), some (.int x1), some (.int z330), none]) rfl rfl ?_
            refine hq_p rfl rfl ?_
            refine hq_p rfl rfl (ty_ge (n := -1) nk_im1 (fun z331 ez331 => ?_))
            refine ty_ieq rfl (fun c332 => ?_) (fun c332 => ?_)
            · exfalso; omega
            · clear c332
              refine hq_p rfl rfl ?_
              refine hq_p rfl rfl ?_
              refine ty_callp 1 I rfl (fun _ => rfl) rfl rfl rfl rfl (ct_180e (x0 := z330) (by omega)) (fun _ P333 => ?_)
              obtain ⟨z334, rfl, fz334⟩ := P333
              have rz334 : 0 ≤ z334.toInt ∧ z334.toInt ≤ 6 := by rw [fz334]; unfold ps_bd; repeat (first | omega | split)
              have t3 := hk.2.2.1 (by omega)
              have lz334 : 1 ≤ z334.toInt := by rw [fz334, show z330.toInt = 24 by omega]; decide
              refine ty_callm 0 [(0, 97, 13), (0, 97, 14), (0, 97, 15), (0, 97, 16), (0, 97, 19), (0, 97, 26), (0, 97, 30), (2, 97, 17), (3, 110, 0), (3, 111, 0)] (W := ty_Wps) H hJ rfl (fun _ => rfl) rfl rfl rfl (hq_pre_o I.1 (x := 97) (ci := 11) rfl (by decide) rfl rfl rfl rfl) (fun a k w => by unfold ty_Wse at w; unfold ty_Wps; omega) (by unfold ty_Wse ty_Wps; omega) (ct_181 (x1 := z334) (by omega) (by omega) (by omega) hz (by omega)) ⟨⟨rfl, show ¬ ty_Wse 97 13 by unfold ty_Wse; omega⟩, ⟨rfl, show ¬ ty_Wse 97 14 by unfold ty_Wse; omega⟩, ⟨rfl, show ¬ ty_Wse 97 15 by unfold ty_Wse; omega⟩, ⟨rfl, show ¬ ty_Wse 97 16 by unfold ty_Wse; omega⟩, ⟨rfl, show ¬ ty_Wse 97 19 by unfold ty_Wse; omega⟩, ⟨rfl, show ¬ ty_Wse 97 26 by unfold ty_Wse; omega⟩, ⟨rfl, show ¬ ty_Wse 97 30 by unfold ty_Wse; omega⟩, ⟨rfl, show ¬ ty_Wse 97 17 by unfold ty_Wse; omega⟩, ⟨rfl, fun k => show ¬ ty_Wse 110 k by unfold ty_Wse; omega⟩, ⟨rfl, fun k => show ¬ ty_Wse 111 k by unfold ty_Wse; omega⟩, trivial⟩ (fun h336 _ Jh336 gh336 P335 => ?_)
              obtain ⟨gh336_0, gh336_1, gh336_2, gh336_3, gh336_4, gh336_5, gh336_6, gh336_7, gh336_8, gh336_9, _⟩ := gh336
              have gh336_0 : (hs_fI h336 97 13).toInt = (hs_fI h 97 13).toInt := gh336_0
              have gh336_1 : (hs_fI h336 97 14).toInt = (hs_fI h 97 14).toInt := gh336_1
              have gh336_2 : (hs_fI h336 97 15).toInt = (hs_fI h 97 15).toInt := gh336_2
              have gh336_3 : (hs_fI h336 97 16).toInt = (hs_fI h 97 16).toInt := gh336_3
              have gh336_4 : (hs_fI h336 97 19).toInt = (hs_fI h 97 19).toInt := gh336_4
              have gh336_5 : (hs_fI h336 97 26).toInt = (hs_fI h 97 26).toInt := gh336_5
              have gh336_6 : (hs_fI h336 97 30).toInt = (hs_fI h 97 30).toInt := gh336_6
              have gh336_7 : (hs_fL h336 97 17).toInt = (hs_fL h 97 17).toInt := gh336_7
              have gh336_8 : hs_aI h336 110 = hs_aI h 110 := gh336_8
              have ugh336_8 : hs_aI h336 110 = (hs_aI h 110) := gh336_8.trans rfl
              have gh336_9 : hs_aI h336 111 = hs_aI h 111 := gh336_9
              have ugh336_9 : hs_aI h336 111 = (hs_aI h 111) := gh336_9.trans rfl
              have Ih336 := H.1 h336 Jh336
              obtain ⟨rq337, zq337, stq337, lq337⟩ := P335
              subst rq337
              obtain ⟨q338, eq338⟩ : ∃ q : Int32, q.toInt = (hs_fI h336 97 23).toInt := ⟨_, rfl⟩
              have aq338 : 0 ≤ (hs_fI h336 97 23).toInt := (Ih336.2.1 97 23 (by decide)).1
              have bq338 : (hs_fI h336 97 23).toInt ≤ 400 := (Ih336.2.1 97 23 (by decide)).2
              obtain ⟨q339, eq339⟩ : ∃ q : Int32, q.toInt = (hs_fI h336 97 29).toInt := ⟨_, rfl⟩
              have aq339 : 0 ≤ (hs_fI h336 97 29).toInt := (Ih336.2.1 97 29 (by decide)).1
              have bq339 : (hs_fI h336 97 29).toInt ≤ 400 := (Ih336.2.1 97 29 (by decide)).2
              have y3q337 := zq337.2.2.1
              have y2q337 := zq337.2.1
              have y1q337 := zq337.1
              refine hq_p rfl rfl ?_
              refine hq_p rfl rfl ?_
              refine hq_p rfl rfl (ty_ge (n := 0) nk_i0 (fun z340 ez340 => ?_))
              refine ty_callm 0 [(0, 97, 13), (0, 97, 14), (0, 97, 15), (0, 97, 16), (0, 97, 19), (0, 97, 23), (0, 97, 26), (0, 97, 30), (2, 97, 17), (3, 108, 0), (3, 109, 0)] (W := ty_Wps) H Jh336 rfl (fun _ => rfl) rfl rfl rfl (hq_pre_o Ih336.1 (x := 97) (ci := 11) rfl (by decide) rfl rfl rfl rfl) (fun a k w => by unfold ty_Wi at w; unfold ty_Wps; omega) (by unfold ty_Wi ty_Wps; omega) (ct_179 (x1 := z330) (x2 := z340) (by omega) (by omega) (by omega)) ⟨⟨rfl, show ¬ ty_Wi 97 13 by unfold ty_Wi; omega⟩, ⟨rfl, show ¬ ty_Wi 97 14 by unfold ty_Wi; omega⟩, ⟨rfl, show ¬ ty_Wi 97 15 by unfold ty_Wi; omega⟩, ⟨rfl, show ¬ ty_Wi 97 16 by unfold ty_Wi; omega⟩, ⟨rfl, show ¬ ty_Wi 97 19 by unfold ty_Wi; omega⟩, ⟨rfl, show ¬ ty_Wi 97 23 by unfold ty_Wi; omega⟩, ⟨rfl, show ¬ ty_Wi 97 26 by unfold ty_Wi; omega⟩, ⟨rfl, show ¬ ty_Wi 97 30 by unfold ty_Wi; omega⟩, ⟨rfl, show ¬ ty_Wi 97 17 by unfold ty_Wi; omega⟩, ⟨rfl, fun k => show ¬ ty_Wi 108 k by unfold ty_Wi; omega⟩, ⟨rfl, fun k => show ¬ ty_Wi 109 k by unfold ty_Wi; omega⟩, trivial⟩ (fun h342 _ Jh342 gh342 P341 => ?_)
              obtain ⟨gh342_0, gh342_1, gh342_2, gh342_3, gh342_4, gh342_5, gh342_6, gh342_7, gh342_8, gh342_9, gh342_10, _⟩ := gh342
              have gh342_0 : (hs_fI h342 97 13).toInt = (hs_fI h336 97 13).toInt := gh342_0
              have gh342_1 : (hs_fI h342 97 14).toInt = (hs_fI h336 97 14).toInt := gh342_1
              have gh342_2 : (hs_fI h342 97 15).toInt = (hs_fI h336 97 15).toInt := gh342_2
              have gh342_3 : (hs_fI h342 97 16).toInt = (hs_fI h336 97 16).toInt := gh342_3
              have gh342_4 : (hs_fI h342 97 19).toInt = (hs_fI h336 97 19).toInt := gh342_4
              have gh342_5 : (hs_fI h342 97 23).toInt = (hs_fI h336 97 23).toInt := gh342_5
              have gh342_6 : (hs_fI h342 97 26).toInt = (hs_fI h336 97 26).toInt := gh342_6
              have gh342_7 : (hs_fI h342 97 30).toInt = (hs_fI h336 97 30).toInt := gh342_7
              have gh342_8 : (hs_fL h342 97 17).toInt = (hs_fL h336 97 17).toInt := gh342_8
              have gh342_9 : hs_aI h342 108 = hs_aI h336 108 := gh342_9
              have ugh342_9 : hs_aI h342 108 = (hs_aI h336 108) := gh342_9.trans rfl
              have gh342_10 : hs_aI h342 109 = hs_aI h336 109 := gh342_10
              have ugh342_10 : hs_aI h342 109 = (hs_aI h336 109) := gh342_10.trans rfl
              have Ih342 := H.1 h342 Jh342
              obtain ⟨rq343, nq343, xq343, yq343⟩ := P341
              subst rq343
              obtain ⟨q344, eq344⟩ : ∃ q : Int32, q.toInt = (hs_fI h342 97 29).toInt := ⟨_, rfl⟩
              have aq344 : 0 ≤ (hs_fI h342 97 29).toInt := (Ih342.2.1 97 29 (by decide)).1
              have bq344 : (hs_fI h342 97 29).toInt ≤ 400 := (Ih342.2.1 97 29 (by decide)).2
              have wq343110 : hs_aI h342 110 = (upd (hs_aI h 110) (hs_fI h336 97 29).toInt.toNat z330) := by rw [xq343, ugh336_8, show (hs_fI h336 97 29).toInt.toNat = (hs_fI h336 97 29).toInt.toNat by omega]
              have wq343111 : hs_aI h342 111 = (upd (hs_aI h 111) (hs_fI h336 97 29).toInt.toNat z340) := by rw [yq343, ugh336_9, show (hs_fI h336 97 29).toInt.toNat = (hs_fI h336 97 29).toInt.toNat by omega]
              refine hq_p rfl rfl ?_
              refine ty_callm 0 [(0, 97, 13), (0, 97, 19), (0, 97, 23), (0, 97, 26), (0, 97, 29), (0, 97, 30), (3, 108, 0), (3, 109, 0), (3, 110, 0), (3, 111, 0)] (W := ty_Wps) H Jh342 rfl (fun _ => rfl) rfl rfl rfl (hq_pre_o Ih342.1 (x := 97) (ci := 11) rfl (by decide) rfl rfl rfl rfl) (fun a k w => by unfold ty_Wn at w; unfold ty_Wps; omega) (by unfold ty_Wn ty_Wps; omega) (ct_172w (by omega) (by omega)) ⟨⟨rfl, show ¬ ty_Wn 97 13 by unfold ty_Wn; omega⟩, ⟨rfl, show ¬ ty_Wn 97 19 by unfold ty_Wn; omega⟩, ⟨rfl, show ¬ ty_Wn 97 23 by unfold ty_Wn; omega⟩, ⟨rfl, show ¬ ty_Wn 97 26 by unfold ty_Wn; omega⟩, ⟨rfl, show ¬ ty_Wn 97 29 by unfold ty_Wn; omega⟩, ⟨rfl, show ¬ ty_Wn 97 30 by unfold ty_Wn; omega⟩, ⟨rfl, fun k => show ¬ ty_Wn 108 k by unfold ty_Wn; omega⟩, ⟨rfl, fun k => show ¬ ty_Wn 109 k by unfold ty_Wn; omega⟩, ⟨rfl, fun k => show ¬ ty_Wn 110 k by unfold ty_Wn; omega⟩, ⟨rfl, fun k => show ¬ ty_Wn 111 k by unfold ty_Wn; omega⟩, trivial⟩ (fun h346 _ Jh346 gh346 P345 => ?_)
              obtain ⟨gh346_0, gh346_1, gh346_2, gh346_3, gh346_4, gh346_5, gh346_6, gh346_7, gh346_8, gh346_9, _⟩ := gh346
              have gh346_0 : (hs_fI h346 97 13).toInt = (hs_fI h342 97 13).toInt := gh346_0
              have gh346_1 : (hs_fI h346 97 19).toInt = (hs_fI h342 97 19).toInt := gh346_1
              have gh346_2 : (hs_fI h346 97 23).toInt = (hs_fI h342 97 23).toInt := gh346_2
              have gh346_3 : (hs_fI h346 97 26).toInt = (hs_fI h342 97 26).toInt := gh346_3
              have gh346_4 : (hs_fI h346 97 29).toInt = (hs_fI h342 97 29).toInt := gh346_4
              have gh346_5 : (hs_fI h346 97 30).toInt = (hs_fI h342 97 30).toInt := gh346_5
              have gh346_6 : hs_aI h346 108 = hs_aI h342 108 := gh346_6
              have ugh346_6 : hs_aI h346 108 = (hs_aI h336 108) := gh346_6.trans ugh342_9
              have gh346_7 : hs_aI h346 109 = hs_aI h342 109 := gh346_7
              have ugh346_7 : hs_aI h346 109 = (hs_aI h336 109) := gh346_7.trans ugh342_10
              have gh346_8 : hs_aI h346 110 = hs_aI h342 110 := gh346_8
              have ugh346_8 : hs_aI h346 110 = (upd (hs_aI h 110) (hs_fI h336 97 29).toInt.toNat z330) := gh346_8.trans wq343110
              have gh346_9 : hs_aI h346 111 = hs_aI h342 111 := gh346_9
              have ugh346_9 : hs_aI h346 111 = (upd (hs_aI h 111) (hs_fI h336 97 29).toInt.toNat z340) := gh346_9.trans wq343111
              have Ih346 := H.1 h346 Jh346
              obtain ⟨rq347, fq347, kq347⟩ := P345
              subst rq347
              have t1kq347 := kq347.1
              have t2kq347 := kq347.2.1
              obtain ⟨q348, eq348⟩ : ∃ q : Int32, q.toInt = (hs_fI h346 97 14).toInt := ⟨_, rfl⟩
              have aq348 : 0 ≤ (hs_fI h346 97 14).toInt := (Ih346.2.1 97 14 (by decide)).1
              have bq348 : (hs_fI h346 97 14).toInt ≤ 400 := (Ih346.2.1 97 14 (by decide)).2
              obtain ⟨q349, eq349⟩ : ∃ q : Int32, q.toInt = (hs_fI h346 97 15).toInt := ⟨_, rfl⟩
              have aq349 : 0 ≤ (hs_fI h346 97 15).toInt := (Ih346.2.1 97 15 (by decide)).1
              have bq349 : (hs_fI h346 97 15).toInt ≤ 400 := (Ih346.2.1 97 15 (by decide)).2
              obtain ⟨q350, eq350⟩ : ∃ q : Int32, q.toInt = (hs_fI h346 97 16).toInt := ⟨_, rfl⟩
              have aq350 := nm_lo q350
              have bq350 := nm_hi q350
              obtain ⟨q351, eq351⟩ : ∃ q : Int64, q.toInt = (hs_fL h346 97 17).toInt := ⟨_, rfl⟩
              have aq351 := nm_llo q351
              have bq351 := nm_lhi q351
              refine hq_p rfl rfl (ty_ge (n := 1) nk_i1 (fun z352 ez352 => ?_))
              have zf : pz op0 ar0 s 0 h346 := by
                show pq ((hs_fI h346 97 19).toInt = 0) (hs_aI h346 108) (hs_aI h346 109) (hs_aI h346 110) (hs_aI h346 111) op0 ar0 s (hs_fI h346 97 23).toInt (hs_fI h346 97 29).toInt (hs_fI h346 97 30).toInt (hs_fI h346 97 14).toInt 0
                rw [ugh346_6, ugh346_7, ugh346_8, ugh346_9, show (hs_fI h346 97 23).toInt = (hs_fI h336 97 23).toInt by omega, show (hs_fI h346 97 29).toInt = (hs_fI h336 97 29).toInt + 1 by omega, show (hs_fI h346 97 30).toInt = (hs_fI h 97 30).toInt by omega]
                exact pq_push (pq_g (g' := (hs_fI h346 97 19).toInt = 0) zq337 (fun _ => ⟨by omega, rfl⟩) (Int.le_refl _)) (by omega) (by omega) (fun _ => by rw [ps_b1 (by omega) (by omega)]; rfl) (by omega) (by rw [if_neg (by omega)]; omega) (Or.inl ⟨by omega, by omega⟩)
              exact hq_W.ret rfl rfl rfl ⟨Jh346, _, rfl, by omega, kq347, by omega, by omega, (fun q => by omega), ⟨by rw [if_pos (by omega)]; exact zf, fun _ => ⟨fun q => by exfalso; omega, fun q => by exfalso; omega⟩⟩⟩
        · replace c26 : 1 ≤ z25.toInt ∧ z25.toInt ≤ 1 := by omega
          have f354 := iz25 (by omega)
          clear iz25
          refine hq_p rfl rfl (ty_ge (n := 23) nk_b23 (fun z355 ez355 => ?_))
          refine hq_p rfl rfl ?_
          refine hq_p (ls' := [some (.ref 97), some (.int x1), some (.int z355), none]) rfl rfl ?_
          refine hq_p rfl rfl ?_
          refine hq_p rfl rfl (ty_ge (n := -1) nk_im1 (fun z356 ez356 => ?_))
          refine ty_ieq rfl (fun c357 => ?_) (fun c357 => ?_)
          · exfalso; omega
          · clear c357
            refine hq_p rfl rfl ?_
            refine hq_p rfl rfl ?_
            refine ty_callp 1 I rfl (fun _ => rfl) rfl rfl rfl rfl (ct_180e (x0 := z355) (by omega)) (fun _ P358 => ?_)
            obtain ⟨z359, rfl, fz359⟩ := P358
            have rz359 : 0 ≤ z359.toInt ∧ z359.toInt ≤ 6 := by rw [fz359]; unfold ps_bd; repeat (first | omega | split)
            have t3 := hk.2.2.1 (by omega)
            have lz359 : 1 ≤ z359.toInt := by rw [fz359, show z355.toInt = 23 by omega]; decide
            refine ty_callm 0 [(0, 97, 13), (0, 97, 14), (0, 97, 15), (0, 97, 16), (0, 97, 19), (0, 97, 26), (0, 97, 30), (2, 97, 17), (3, 110, 0), (3, 111, 0)] (W := ty_Wps) H hJ rfl (fun _ => rfl) rfl rfl rfl (hq_pre_o I.1 (x := 97) (ci := 11) rfl (by decide) rfl rfl rfl rfl) (fun a k w => by unfold ty_Wse at w; unfold ty_Wps; omega) (by unfold ty_Wse ty_Wps; omega) (ct_181 (x1 := z359) (by omega) (by omega) (by omega) hz (by omega)) ⟨⟨rfl, show ¬ ty_Wse 97 13 by unfold ty_Wse; omega⟩, ⟨rfl, show ¬ ty_Wse 97 14 by unfold ty_Wse; omega⟩, ⟨rfl, show ¬ ty_Wse 97 15 by unfold ty_Wse; omega⟩, ⟨rfl, show ¬ ty_Wse 97 16 by unfold ty_Wse; omega⟩, ⟨rfl, show ¬ ty_Wse 97 19 by unfold ty_Wse; omega⟩, ⟨rfl, show ¬ ty_Wse 97 26 by unfold ty_Wse; omega⟩, ⟨rfl, show ¬ ty_Wse 97 30 by unfold ty_Wse; omega⟩, ⟨rfl, show ¬ ty_Wse 97 17 by unfold ty_Wse; omega⟩, ⟨rfl, fun k => show ¬ ty_Wse 110 k by unfold ty_Wse; omega⟩, ⟨rfl, fun k => show ¬ ty_Wse 111 k by unfold ty_Wse; omega⟩, trivial⟩ (fun h361 _ Jh361 gh361 P360 => ?_)
            obtain ⟨gh361_0, gh361_1, gh361_2, gh361_3, gh361_4, gh361_5, gh361_6, gh361_7, gh361_8, gh361_9, _⟩ := gh361
            have gh361_0 : (hs_fI h361 97 13).toInt = (hs_fI h 97 13).toInt := gh361_0
            have gh361_1 : (hs_fI h361 97 14).toInt = (hs_fI h 97 14).toInt := gh361_1
            have gh361_2 : (hs_fI h361 97 15).toInt = (hs_fI h 97 15).toInt := gh361_2
            have gh361_3 : (hs_fI h361 97 16).toInt = (hs_fI h 97 16).toInt := gh361_3
            have gh361_4 : (hs_fI h361 97 19).toInt = (hs_fI h 97 19).toInt := gh361_4
            have gh361_5 : (hs_fI h361 97 26).toInt = (hs_fI h 97 26).toInt := gh361_5
            have gh361_6 : (hs_fI h361 97 30).toInt = (hs_fI h 97 30).toInt := gh361_6
            have gh361_7 : (hs_fL h361 97 17).toInt = (hs_fL h 97 17).toInt := gh361_7
            have gh361_8 : hs_aI h361 110 = hs_aI h 110 := gh361_8
            have ugh361_8 : hs_aI h361 110 = (hs_aI h 110) := gh361_8.trans rfl
            have gh361_9 : hs_aI h361 111 = hs_aI h 111 := gh361_9
            have ugh361_9 : hs_aI h361 111 = (hs_aI h 111) := gh361_9.trans rfl
            have Ih361 := H.1 h361 Jh361
            obtain ⟨rq362, zq362, stq362, lq362⟩ := P360
            subst rq362
            obtain ⟨q363, eq363⟩ : ∃ q : Int32, q.toInt = (hs_fI h361 97 23).toInt := ⟨_, rfl⟩
            have aq363 : 0 ≤ (hs_fI h361 97 23).toInt := (Ih361.2.1 97 23 (by decide)).1
            have bq363 : (hs_fI h361 97 23).toInt ≤ 400 := (Ih361.2.1 97 23 (by decide)).2
            obtain ⟨q364, eq364⟩ : ∃ q : Int32, q.toInt = (hs_fI h361 97 29).toInt := ⟨_, rfl⟩
            have aq364 : 0 ≤ (hs_fI h361 97 29).toInt := (Ih361.2.1 97 29 (by decide)).1
            have bq364 : (hs_fI h361 97 29).toInt ≤ 400 := (Ih361.2.1 97 29 (by decide)).2
            have y3q362 := zq362.2.2.1
            have y2q362 := zq362.2.1
            have y1q362 := zq362.1
            refine hq_p rfl rfl ?_
            refine hq_p rfl rfl ?_
            refine hq_p rfl rfl (ty_ge (n := 0) nk_i0 (fun z365 ez365 => ?_))
            refine ty_callm 0 [(0, 97, 13), (0, 97, 14), (0, 97, 15), (0, 97, 16), (0, 97, 19), (0, 97, 23), (0, 97, 26), (0, 97, 30), (2, 97, 17), (3, 108, 0), (3, 109, 0)] (W := ty_Wps) H Jh361 rfl (fun _ => rfl) rfl rfl rfl (hq_pre_o Ih361.1 (x := 97) (ci := 11) rfl (by decide) rfl rfl rfl rfl) (fun a k w => by unfold ty_Wi at w; unfold ty_Wps; omega) (by unfold ty_Wi ty_Wps; omega) (ct_179 (x1 := z355) (x2 := z365) (by omega) (by omega) (by omega)) ⟨⟨rfl, show ¬ ty_Wi 97 13 by unfold ty_Wi; omega⟩, ⟨rfl, show ¬ ty_Wi 97 14 by unfold ty_Wi; omega⟩, ⟨rfl, show ¬ ty_Wi 97 15 by unfold ty_Wi; omega⟩, ⟨rfl, show ¬ ty_Wi 97 16 by unfold ty_Wi; omega⟩, ⟨rfl, show ¬ ty_Wi 97 19 by unfold ty_Wi; omega⟩, ⟨rfl, show ¬ ty_Wi 97 23 by unfold ty_Wi; omega⟩, ⟨rfl, show ¬ ty_Wi 97 26 by unfold ty_Wi; omega⟩, ⟨rfl, show ¬ ty_Wi 97 30 by unfold ty_Wi; omega⟩, ⟨rfl, show ¬ ty_Wi 97 17 by unfold ty_Wi; omega⟩, ⟨rfl, fun k => show ¬ ty_Wi 108 k by unfold ty_Wi; omega⟩, ⟨rfl, fun k => show ¬ ty_Wi 109 k by unfold ty_Wi; omega⟩, trivial⟩ (fun h367 _ Jh367 gh367 P366 => ?_)
            obtain ⟨gh367_0, gh367_1, gh367_2, gh367_3, gh367_4, gh367_5, gh367_6, gh367_7, gh367_8, gh367_9, gh367_10, _⟩ := gh367
            have gh367_0 : (hs_fI h367 97 13).toInt = (hs_fI h361 97 13).toInt := gh367_0
            have gh367_1 : (hs_fI h367 97 14).toInt = (hs_fI h361 97 14).toInt := gh367_1
            have gh367_2 : (hs_fI h367 97 15).toInt = (hs_fI h361 97 15).toInt := gh367_2
            have gh367_3 : (hs_fI h367 97 16).toInt = (hs_fI h361 97 16).toInt := gh367_3
            have gh367_4 : (hs_fI h367 97 19).toInt = (hs_fI h361 97 19).toInt := gh367_4
            have gh367_5 : (hs_fI h367 97 23).toInt = (hs_fI h361 97 23).toInt := gh367_5
            have gh367_6 : (hs_fI h367 97 26).toInt = (hs_fI h361 97 26).toInt := gh367_6
            have gh367_7 : (hs_fI h367 97 30).toInt = (hs_fI h361 97 30).toInt := gh367_7
            have gh367_8 : (hs_fL h367 97 17).toInt = (hs_fL h361 97 17).toInt := gh367_8
            have gh367_9 : hs_aI h367 108 = hs_aI h361 108 := gh367_9
            have ugh367_9 : hs_aI h367 108 = (hs_aI h361 108) := gh367_9.trans rfl
            have gh367_10 : hs_aI h367 109 = hs_aI h361 109 := gh367_10
            have ugh367_10 : hs_aI h367 109 = (hs_aI h361 109) := gh367_10.trans rfl
            have Ih367 := H.1 h367 Jh367
            obtain ⟨rq368, nq368, xq368, yq368⟩ := P366
            subst rq368
            obtain ⟨q369, eq369⟩ : ∃ q : Int32, q.toInt = (hs_fI h367 97 29).toInt := ⟨_, rfl⟩
            have aq369 : 0 ≤ (hs_fI h367 97 29).toInt := (Ih367.2.1 97 29 (by decide)).1
            have bq369 : (hs_fI h367 97 29).toInt ≤ 400 := (Ih367.2.1 97 29 (by decide)).2
            have wq368110 : hs_aI h367 110 = (upd (hs_aI h 110) (hs_fI h361 97 29).toInt.toNat z355) := by rw [xq368, ugh361_8, show (hs_fI h361 97 29).toInt.toNat = (hs_fI h361 97 29).toInt.toNat by omega]
            have wq368111 : hs_aI h367 111 = (upd (hs_aI h 111) (hs_fI h361 97 29).toInt.toNat z365) := by rw [yq368, ugh361_9, show (hs_fI h361 97 29).toInt.toNat = (hs_fI h361 97 29).toInt.toNat by omega]
            refine hq_p rfl rfl ?_
            refine ty_callm 0 [(0, 97, 13), (0, 97, 19), (0, 97, 23), (0, 97, 26), (0, 97, 29), (0, 97, 30), (3, 108, 0), (3, 109, 0), (3, 110, 0), (3, 111, 0)] (W := ty_Wps) H Jh367 rfl (fun _ => rfl) rfl rfl rfl (hq_pre_o Ih367.1 (x := 97) (ci := 11) rfl (by decide) rfl rfl rfl rfl) (fun a k w => by unfold ty_Wn at w; unfold ty_Wps; omega) (by unfold ty_Wn ty_Wps; omega) (ct_172w (by omega) (by omega)) ⟨⟨rfl, show ¬ ty_Wn 97 13 by unfold ty_Wn; omega⟩, ⟨rfl, show ¬ ty_Wn 97 19 by unfold ty_Wn; omega⟩, ⟨rfl, show ¬ ty_Wn 97 23 by unfold ty_Wn; omega⟩, ⟨rfl, show ¬ ty_Wn 97 26 by unfold ty_Wn; omega⟩, ⟨rfl, show ¬ ty_Wn 97 29 by unfold ty_Wn; omega⟩, ⟨rfl, show ¬ ty_Wn 97 30 by unfold ty_Wn; omega⟩, ⟨rfl, fun k => show ¬ ty_Wn 108 k by unfold ty_Wn; omega⟩, ⟨rfl, fun k => show ¬ ty_Wn 109 k by unfold ty_Wn; omega⟩, ⟨rfl, fun k => show ¬ ty_Wn 110 k by unfold ty_Wn; omega⟩, ⟨rfl, fun k => show ¬ ty_Wn 111 k by unfold ty_Wn; omega⟩, trivial⟩ (fun h371 _ Jh371 gh371 P370 => ?_)
            obtain ⟨gh371_0, gh371_1, gh371_2, gh371_3, gh371_4, gh371_5, gh371_6, gh371_7, gh371_8, gh371_9, _⟩ := gh371
            have gh371_0 : (hs_fI h371 97 13).toInt = (hs_fI h367 97 13).toInt := gh371_0
            have gh371_1 : (hs_fI h371 97 19).toInt = (hs_fI h367 97 19).toInt := gh371_1
            have gh371_2 : (hs_fI h371 97 23).toInt = (hs_fI h367 97 23).toInt := gh371_2
            have gh371_3 : (hs_fI h371 97 26).toInt = (hs_fI h367 97 26).toInt := gh371_3
            have gh371_4 : (hs_fI h371 97 29).toInt = (hs_fI h367 97 29).toInt := gh371_4
            have gh371_5 : (hs_fI h371 97 30).toInt = (hs_fI h367 97 30).toInt := gh371_5
            have gh371_6 : hs_aI h371 108 = hs_aI h367 108 := gh371_6
            have ugh371_6 : hs_aI h371 108 = (hs_aI h361 108) := gh371_6.trans ugh367_9
            have gh371_7 : hs_aI h371 109 = hs_aI h367 109 := gh371_7
            have ugh371_7 : hs_aI h371 109 = (hs_aI h361 109) := gh371_7.trans ugh367_10
            have gh371_8 : hs_aI h371 110 = hs_aI h367 110 := gh371_8
            have ugh371_8 : hs_aI h371 110 = (upd (hs_aI h 110) (hs_fI h361 97 29).toInt.toNat z355) := gh371_8.trans wq368110
            have gh371_9 : hs_aI h371 111 = hs_aI h367 111 := gh371_9
            have ugh371_9 : hs_aI h371 111 = (upd (hs_aI h 111) (hs_fI h361 97 29).toInt.toNat z365) := gh371_9.trans wq368111
            have Ih371 := H.1 h371 Jh371
            obtain ⟨rq372, fq372, kq372⟩ := P370
            subst rq372
            have t1kq372 := kq372.1
            have t2kq372 := kq372.2.1
            obtain ⟨q373, eq373⟩ : ∃ q : Int32, q.toInt = (hs_fI h371 97 14).toInt := ⟨_, rfl⟩
            have aq373 : 0 ≤ (hs_fI h371 97 14).toInt := (Ih371.2.1 97 14 (by decide)).1
            have bq373 : (hs_fI h371 97 14).toInt ≤ 400 := (Ih371.2.1 97 14 (by decide)).2
            obtain ⟨q374, eq374⟩ : ∃ q : Int32, q.toInt = (hs_fI h371 97 15).toInt := ⟨_, rfl⟩
            have aq374 : 0 ≤ (hs_fI h371 97 15).toInt := (Ih371.2.1 97 15 (by decide)).1
            have bq374 : (hs_fI h371 97 15).toInt ≤ 400 := (Ih371.2.1 97 15 (by decide)).2
            obtain ⟨q375, eq375⟩ : ∃ q : Int32, q.toInt = (hs_fI h371 97 16).toInt := ⟨_, rfl⟩
            have aq375 := nm_lo q375
            have bq375 := nm_hi q375
            obtain ⟨q376, eq376⟩ : ∃ q : Int64, q.toInt = (hs_fL h371 97 17).toInt := ⟨_, rfl⟩
            have aq376 := nm_llo q376
            have bq376 := nm_lhi q376
            refine hq_p rfl rfl (ty_ge (n := 1) nk_i1 (fun z377 ez377 => ?_))
            have zf : pz op0 ar0 s 0 h371 := by
              show pq ((hs_fI h371 97 19).toInt = 0) (hs_aI h371 108) (hs_aI h371 109) (hs_aI h371 110) (hs_aI h371 111) op0 ar0 s (hs_fI h371 97 23).toInt (hs_fI h371 97 29).toInt (hs_fI h371 97 30).toInt (hs_fI h371 97 14).toInt 0
              rw [ugh371_6, ugh371_7, ugh371_8, ugh371_9, show (hs_fI h371 97 23).toInt = (hs_fI h361 97 23).toInt by omega, show (hs_fI h371 97 29).toInt = (hs_fI h361 97 29).toInt + 1 by omega, show (hs_fI h371 97 30).toInt = (hs_fI h 97 30).toInt by omega]
              exact pq_push (pq_g (g' := (hs_fI h371 97 19).toInt = 0) zq362 (fun _ => ⟨by omega, rfl⟩) (Int.le_refl _)) (by omega) (by omega) (fun _ => by rw [ps_b1 (by omega) (by omega)]; rfl) (by omega) (by rw [if_neg (by omega)]; omega) (Or.inl ⟨by omega, by omega⟩)
            exact hq_W.ret rfl rfl rfl ⟨Jh371, _, rfl, by omega, kq372, by omega, by omega, (fun q => by omega), ⟨by rw [if_pos (by omega)]; exact zf, fun _ => ⟨fun q => by exfalso; omega, fun q => by exfalso; omega⟩⟩⟩
      · replace c22 : 1 ≤ z21.toInt ∧ z21.toInt ≤ 1 := by omega
        have f379 := iz21 (by omega)
        clear iz21
        refine hq_p rfl rfl (ty_ge (n := 22) nk_b22 (fun z380 ez380 => ?_))
        refine hq_p rfl rfl ?_
        refine hq_p (ls' := [some (.ref 97), some (.int x1), some (.int z380), none]) rfl rfl ?_
        refine hq_p rfl rfl ?_
        refine hq_p rfl rfl (ty_ge (n := -1) nk_im1 (fun z381 ez381 => ?_))
        refine ty_ieq rfl (fun c382 => ?_) (fun c382 => ?_)
        · exfalso; omega
        · clear c382
          refine hq_p rfl rfl ?_
          refine hq_p rfl rfl ?_
          refine ty_callp 1 I rfl (fun _ => rfl) rfl rfl rfl rfl (ct_180e (x0 := z380) (by omega)) (fun _ P383 => ?_)
          obtain ⟨z384, rfl, fz384⟩ := P383
          have rz384 : 0 ≤ z384.toInt ∧ z384.toInt ≤ 6 := by rw [fz384]; unfold ps_bd; repeat (first | omega | split)
          have t3 := hk.2.2.1 (by omega)
          have lz384 : 1 ≤ z384.toInt := by rw [fz384, show z380.toInt = 22 by omega]; decide
          refine ty_callm 0 [(0, 97, 13), (0, 97, 14), (0, 97, 15), (0, 97, 16), (0, 97, 19), (0, 97, 26), (0, 97, 30), (2, 97, 17), (3, 110, 0), (3, 111, 0)] (W := ty_Wps) H hJ rfl (fun _ => rfl) rfl rfl rfl (hq_pre_o I.1 (x := 97) (ci := 11) rfl (by decide) rfl rfl rfl rfl) (fun a k w => by unfold ty_Wse at w; unfold ty_Wps; omega) (by unfold ty_Wse ty_Wps; omega) (ct_181 (x1 := z384) (by omega) (by omega) (by omega) hz (by omega)) ⟨⟨rfl, show ¬ ty_Wse 97 13 by unfold ty_Wse; omega⟩, ⟨rfl, show ¬ ty_Wse 97 14 by unfold ty_Wse; omega⟩, ⟨rfl, show ¬ ty_Wse 97 15 by unfold ty_Wse; omega⟩, ⟨rfl, show ¬ ty_Wse 97 16 by unfold ty_Wse; omega⟩, ⟨rfl, show ¬ ty_Wse 97 19 by unfold ty_Wse; omega⟩, ⟨rfl, show ¬ ty_Wse 97 26 by unfold ty_Wse; omega⟩, ⟨rfl, show ¬ ty_Wse 97 30 by unfold ty_Wse; omega⟩, ⟨rfl, show ¬ ty_Wse 97 17 by unfold ty_Wse; omega⟩, ⟨rfl, fun k => show ¬ ty_Wse 110 k by unfold ty_Wse; omega⟩, ⟨rfl, fun k => show ¬ ty_Wse 111 k by unfold ty_Wse; omega⟩, trivial⟩ (fun h386 _ Jh386 gh386 P385 => ?_)
          obtain ⟨gh386_0, gh386_1, gh386_2, gh386_3, gh386_4, gh386_5, gh386_6, gh386_7, gh386_8, gh386_9, _⟩ := gh386
          have gh386_0 : (hs_fI h386 97 13).toInt = (hs_fI h 97 13).toInt := gh386_0
          have gh386_1 : (hs_fI h386 97 14).toInt = (hs_fI h 97 14).toInt := gh386_1
          have gh386_2 : (hs_fI h386 97 15).toInt = (hs_fI h 97 15).toInt := gh386_2
          have gh386_3 : (hs_fI h386 97 16).toInt = (hs_fI h 97 16).toInt := gh386_3
          have gh386_4 : (hs_fI h386 97 19).toInt = (hs_fI h 97 19).toInt := gh386_4
          have gh386_5 : (hs_fI h386 97 26).toInt = (hs_fI h 97 26).toInt := gh386_5
          have gh386_6 : (hs_fI h386 97 30).toInt = (hs_fI h 97 30).toInt := gh386_6
          have gh386_7 : (hs_fL h386 97 17).toInt = (hs_fL h 97 17).toInt := gh386_7
          have gh386_8 : hs_aI h386 110 = hs_aI h 110 := gh386_8
          have ugh386_8 : hs_aI h386 110 = (hs_aI h 110) := gh386_8.trans rfl
          have gh386_9 : hs_aI h386 111 = hs_aI h 111 := gh386_9
          have ugh386_9 : hs_aI h386 111 = (hs_aI h 111) := gh386_9.trans rfl
          have Ih386 := H.1 h386 Jh386
          obtain ⟨rq387, zq387, stq387, lq387⟩ := P385
          subst rq387
          obtain ⟨q388, eq388⟩ : ∃ q : Int32, q.toInt = (hs_fI h386 97 23).toInt := ⟨_, rfl⟩
          have aq388 : 0 ≤ (hs_fI h386 97 23).toInt := (Ih386.2.1 97 23 (by decide)).1
          have bq388 : (hs_fI h386 97 23).toInt ≤ 400 := (Ih386.2.1 97 23 (by decide)).2
          obtain ⟨q389, eq389⟩ : ∃ q : Int32, q.toInt = (hs_fI h386 97 29).toInt := ⟨_, rfl⟩
          have aq389 : 0 ≤ (hs_fI h386 97 29).toInt := (Ih386.2.1 97 29 (by decide)).1
          have bq389 : (hs_fI h386 97 29).toInt ≤ 400 := (Ih386.2.1 97 29 (by decide)).2
          have y3q387 := zq387.2.2.1
          have y2q387 := zq387.2.1
          have y1q387 := zq387.1
          refine hq_p rfl rfl ?_
          refine hq_p rfl rfl ?_
          refine hq_p rfl rfl (ty_ge (n := 0) nk_i0 (fun z390 ez390 => ?_))
          refine ty_callm 0 [(0, 97, 13), (0, 97, 14), (0, 97, 15), (0, 97, 16), (0, 97, 19), (0, 97, 23), (0, 97, 26), (0, 97, 30), (2, 97, 17), (3, 108, 0), (3, 109, 0)] (W := ty_Wps) H Jh386 rfl (fun _ => rfl) rfl rfl rfl (hq_pre_o Ih386.1 (x := 97) (ci := 11) rfl (by decide) rfl rfl rfl rfl) (fun a k w => by unfold ty_Wi at w; unfold ty_Wps; omega) (by unfold ty_Wi ty_Wps; omega) (ct_179 (x1 := z380) (x2 := z390) (by omega) (by omega) (by omega)) ⟨⟨rfl, show ¬ ty_Wi 97 13 by unfold ty_Wi; omega⟩, ⟨rfl, show ¬ ty_Wi 97 14 by unfold ty_Wi; omega⟩, ⟨rfl, show ¬ ty_Wi 97 15 by unfold ty_Wi; omega⟩, ⟨rfl, show ¬ ty_Wi 97 16 by unfold ty_Wi; omega⟩, ⟨rfl, show ¬ ty_Wi 97 19 by unfold ty_Wi; omega⟩, ⟨rfl, show ¬ ty_Wi 97 23 by unfold ty_Wi; omega⟩, ⟨rfl, show ¬ ty_Wi 97 26 by unfold ty_Wi; omega⟩, ⟨rfl, show ¬ ty_Wi 97 30 by unfold ty_Wi; omega⟩, ⟨rfl, show ¬ ty_Wi 97 17 by unfold ty_Wi; omega⟩, ⟨rfl, fun k => show ¬ ty_Wi 108 k by unfold ty_Wi; omega⟩, ⟨rfl, fun k => show ¬ ty_Wi 109 k by unfold ty_Wi; omega⟩, trivial⟩ (fun h392 _ Jh392 gh392 P391 => ?_)
          obtain ⟨gh392_0, gh392_1, gh392_2, gh392_3, gh392_4, gh392_5, gh392_6, gh392_7, gh392_8, gh392_9, gh392_10, _⟩ := gh392
          have gh392_0 : (hs_fI h392 97 13).toInt = (hs_fI h386 97 13).toInt := gh392_0
          have gh392_1 : (hs_fI h392 97 14).toInt = (hs_fI h386 97 14).toInt := gh392_1
          have gh392_2 : (hs_fI h392 97 15).toInt = (hs_fI h386 97 15).toInt := gh392_2
          have gh392_3 : (hs_fI h392 97 16).toInt = (hs_fI h386 97 16).toInt := gh392_3
          have gh392_4 : (hs_fI h392 97 19).toInt = (hs_fI h386 97 19).toInt := gh392_4
          have gh392_5 : (hs_fI h392 97 23).toInt = (hs_fI h386 97 23).toInt := gh392_5
          have gh392_6 : (hs_fI h392 97 26).toInt = (hs_fI h386 97 26).toInt := gh392_6
          have gh392_7 : (hs_fI h392 97 30).toInt = (hs_fI h386 97 30).toInt := gh392_7
          have gh392_8 : (hs_fL h392 97 17).toInt = (hs_fL h386 97 17).toInt := gh392_8
          have gh392_9 : hs_aI h392 108 = hs_aI h386 108 := gh392_9
          have ugh392_9 : hs_aI h392 108 = (hs_aI h386 108) := gh392_9.trans rfl
          have gh392_10 : hs_aI h392 109 = hs_aI h386 109 := gh392_10
          have ugh392_10 : hs_aI h392 109 = (hs_aI h386 109) := gh392_10.trans rfl
          have Ih392 := H.1 h392 Jh392
          obtain ⟨rq393, nq393, xq393, yq393⟩ := P391
          subst rq393
          obtain ⟨q394, eq394⟩ : ∃ q : Int32, q.toInt = (hs_fI h392 97 29).toInt := ⟨_, rfl⟩
          have aq394 : 0 ≤ (hs_fI h392 97 29).toInt := (Ih392.2.1 97 29 (by decide)).1
          have bq394 : (hs_fI h392 97 29).toInt ≤ 400 := (Ih392.2.1 97 29 (by decide)).2
          have wq393110 : hs_aI h392 110 = (upd (hs_aI h 110) (hs_fI h386 97 29).toInt.toNat z380) := by rw [xq393, ugh386_8, show (hs_fI h386 97 29).toInt.toNat = (hs_fI h386 97 29).toInt.toNat by omega]
          have wq393111 : hs_aI h392 111 = (upd (hs_aI h 111) (hs_fI h386 97 29).toInt.toNat z390) := by rw [yq393, ugh386_9, show (hs_fI h386 97 29).toInt.toNat = (hs_fI h386 97 29).toInt.toNat by omega]
          refine hq_p rfl rfl ?_
          refine ty_callm 0 [(0, 97, 13), (0, 97, 19), (0, 97, 23), (0, 97, 26), (0, 97, 29), (0, 97, 30), (3, 108, 0), (3, 109, 0), (3, 110, 0), (3, 111, 0)] (W := ty_Wps) H Jh392 rfl (fun _ => rfl) rfl rfl rfl (hq_pre_o Ih392.1 (x := 97) (ci := 11) rfl (by decide) rfl rfl rfl rfl) (fun a k w => by unfold ty_Wn at w; unfold ty_Wps; omega) (by unfold ty_Wn ty_Wps; omega) (ct_172w (by omega) (by omega)) ⟨⟨rfl, show ¬ ty_Wn 97 13 by unfold ty_Wn; omega⟩, ⟨rfl, show ¬ ty_Wn 97 19 by unfold ty_Wn; omega⟩, ⟨rfl, show ¬ ty_Wn 97 23 by unfold ty_Wn; omega⟩, ⟨rfl, show ¬ ty_Wn 97 26 by unfold ty_Wn; omega⟩, ⟨rfl, show ¬ ty_Wn 97 29 by unfold ty_Wn; omega⟩, ⟨rfl, show ¬ ty_Wn 97 30 by unfold ty_Wn; omega⟩, ⟨rfl, fun k => show ¬ ty_Wn 108 k by unfold ty_Wn; omega⟩, ⟨rfl, fun k => show ¬ ty_Wn 109 k by unfold ty_Wn; omega⟩, ⟨rfl, fun k => show ¬ ty_Wn 110 k by unfold ty_Wn; omega⟩, ⟨rfl, fun k => show ¬ ty_Wn 111 k by unfold ty_Wn; omega⟩, trivial⟩ (fun h396 _ Jh396 gh396 P395 => ?_)
          obtain ⟨gh396_0, gh396_1, gh396_2, gh396_3, gh396_4, gh396_5, gh396_6, gh396_7, gh396_8, gh396_9, _⟩ := gh396
          have gh396_0 : (hs_fI h396 97 13).toInt = (hs_fI h392 97 13).toInt := gh396_0
          have gh396_1 : (hs_fI h396 97 19).toInt = (hs_fI h392 97 19).toInt := gh396_1
          have gh396_2 : (hs_fI h396 97 23).toInt = (hs_fI h392 97 23).toInt := gh396_2
          have gh396_3 : (hs_fI h396 97 26).toInt = (hs_fI h392 97 26).toInt := gh396_3
          have gh396_4 : (hs_fI h396 97 29).toInt = (hs_fI h392 97 29).toInt := gh396_4
          have gh396_5 : (hs_fI h396 97 30).toInt = (hs_fI h392 97 30).toInt := gh396_5
          have gh396_6 : hs_aI h396 108 = hs_aI h392 108 := gh396_6
          have ugh396_6 : hs_aI h396 108 = (hs_aI h386 108) := gh396_6.trans ugh392_9
          have gh396_7 : hs_aI h396 109 = hs_aI h392 109 := gh396_7
          have ugh396_7 : hs_aI h396 109 = (hs_aI h386 109) := gh396_7.trans ugh392_10
          have gh396_8 : hs_aI h396 110 = hs_aI h392 110 := gh396_8
          have ugh396_8 : hs_aI h396 110 = (upd (hs_aI h 110) (hs_fI h386 97 29).toInt.toNat z380) := gh396_8.trans wq393110
          have gh396_9 : hs_aI h396 111 = hs_aI h392 111 := gh396_9
          have ugh396_9 : hs_aI h396 111 = (upd (hs_aI h 111) (hs_fI h386 97 29).toInt.toNat z390) := gh396_9.trans wq393111
          have Ih396 := H.1 h396 Jh396
          obtain ⟨rq397, fq397, kq397⟩ := P395
          subst rq397
          have t1kq397 := kq397.1
          have t2kq397 := kq397.2.1
          obtain ⟨q398, eq398⟩ : ∃ q : Int32, q.toInt = (hs_fI h396 97 14).toInt := ⟨_, rfl⟩
          have aq398 : 0 ≤ (hs_fI h396 97 14).toInt := (Ih396.2.1 97 14 (by decide)).1
          have bq398 : (hs_fI h396 97 14).toInt ≤ 400 := (Ih396.2.1 97 14 (by decide)).2
          obtain ⟨q399, eq399⟩ : ∃ q : Int32, q.toInt = (hs_fI h396 97 15).toInt := ⟨_, rfl⟩
          have aq399 : 0 ≤ (hs_fI h396 97 15).toInt := (Ih396.2.1 97 15 (by decide)).1
          have bq399 : (hs_fI h396 97 15).toInt ≤ 400 := (Ih396.2.1 97 15 (by decide)).2
          obtain ⟨q400, eq400⟩ : ∃ q : Int32, q.toInt = (hs_fI h396 97 16).toInt := ⟨_, rfl⟩
          have aq400 := nm_lo q400
          have bq400 := nm_hi q400
          obtain ⟨q401, eq401⟩ : ∃ q : Int64, q.toInt = (hs_fL h396 97 17).toInt := ⟨_, rfl⟩
          have aq401 := nm_llo q401
          have bq401 := nm_lhi q401
          refine hq_p rfl rfl (ty_ge (n := 1) nk_i1 (fun z402 ez402 => ?_))
          have zf : pz op0 ar0 s 0 h396 := by
            show pq ((hs_fI h396 97 19).toInt = 0) (hs_aI h396 108) (hs_aI h396 109) (hs_aI h396 110) (hs_aI h396 111) op0 ar0 s (hs_fI h396 97 23).toInt (hs_fI h396 97 29).toInt (hs_fI h396 97 30).toInt (hs_fI h396 97 14).toInt 0
            rw [ugh396_6, ugh396_7, ugh396_8, ugh396_9, show (hs_fI h396 97 23).toInt = (hs_fI h386 97 23).toInt by omega, show (hs_fI h396 97 29).toInt = (hs_fI h386 97 29).toInt + 1 by omega, show (hs_fI h396 97 30).toInt = (hs_fI h 97 30).toInt by omega]
            exact pq_push (pq_g (g' := (hs_fI h396 97 19).toInt = 0) zq387 (fun _ => ⟨by omega, rfl⟩) (Int.le_refl _)) (by omega) (by omega) (fun _ => by rw [ps_b1 (by omega) (by omega)]; rfl) (by omega) (by rw [if_neg (by omega)]; omega) (Or.inl ⟨by omega, by omega⟩)
          exact hq_W.ret rfl rfl rfl ⟨Jh396, _, rfl, by omega, kq397, by omega, by omega, (fun q => by omega), ⟨by rw [if_pos (by omega)]; exact zf, fun _ => ⟨fun q => by exfalso; omega, fun q => by exfalso; omega⟩⟩⟩
    · replace c18 : 1 ≤ z17.toInt ∧ z17.toInt ≤ 1 := by omega
      have f404 := iz17 (by omega)
      clear iz17
      refine hq_p rfl rfl (ty_ge (n := 21) nk_b21 (fun z405 ez405 => ?_))
      refine hq_p rfl rfl ?_
      refine hq_p (ls' := [some (.ref 97), some (.int x1), some (.int z405), none]) rfl rfl ?_
      refine hq_p rfl rfl ?_
      refine hq_p rfl rfl (ty_ge (n := -1) nk_im1 (fun z406 ez406 => ?_))
      refine ty_ieq rfl (fun c407 => ?_) (fun c407 => ?_)
      · exfalso; omega
      · clear c407
        refine hq_p rfl rfl ?_
        refine hq_p rfl rfl ?_
        refine ty_callp 1 I rfl (fun _ => rfl) rfl rfl rfl rfl (ct_180e (x0 := z405) (by omega)) (fun _ P408 => ?_)
        obtain ⟨z409, rfl, fz409⟩ := P408
        have rz409 : 0 ≤ z409.toInt ∧ z409.toInt ≤ 6 := by rw [fz409]; unfold ps_bd; repeat (first | omega | split)
        have t3 := hk.2.2.1 (by omega)
        have lz409 : 1 ≤ z409.toInt := by rw [fz409, show z405.toInt = 21 by omega]; decide
        refine ty_callm 0 [(0, 97, 13), (0, 97, 14), (0, 97, 15), (0, 97, 16), (0, 97, 19), (0, 97, 26), (0, 97, 30), (2, 97, 17), (3, 110, 0), (3, 111, 0)] (W := ty_Wps) H hJ rfl (fun _ => rfl) rfl rfl rfl (hq_pre_o I.1 (x := 97) (ci := 11) rfl (by decide) rfl rfl rfl rfl) (fun a k w => by unfold ty_Wse at w; unfold ty_Wps; omega) (by unfold ty_Wse ty_Wps; omega) (ct_181 (x1 := z409) (by omega) (by omega) (by omega) hz (by omega)) ⟨⟨rfl, show ¬ ty_Wse 97 13 by unfold ty_Wse; omega⟩, ⟨rfl, show ¬ ty_Wse 97 14 by unfold ty_Wse; omega⟩, ⟨rfl, show ¬ ty_Wse 97 15 by unfold ty_Wse; omega⟩, ⟨rfl, show ¬ ty_Wse 97 16 by unfold ty_Wse; omega⟩, ⟨rfl, show ¬ ty_Wse 97 19 by unfold ty_Wse; omega⟩, ⟨rfl, show ¬ ty_Wse 97 26 by unfold ty_Wse; omega⟩, ⟨rfl, show ¬ ty_Wse 97 30 by unfold ty_Wse; omega⟩, ⟨rfl, show ¬ ty_Wse 97 17 by unfold ty_Wse; omega⟩, ⟨rfl, fun k => show ¬ ty_Wse 110 k by unfold ty_Wse; omega⟩, ⟨rfl, fun k => show ¬ ty_Wse 111 k by unfold ty_Wse; omega⟩, trivial⟩ (fun h411 _ Jh411 gh411 P410 => ?_)
        obtain ⟨gh411_0, gh411_1, gh411_2, gh411_3, gh411_4, gh411_5, gh411_6, gh411_7, gh411_8, gh411_9, _⟩ := gh411
        have gh411_0 : (hs_fI h411 97 13).toInt = (hs_fI h 97 13).toInt := gh411_0
        have gh411_1 : (hs_fI h411 97 14).toInt = (hs_fI h 97 14).toInt := gh411_1
        have gh411_2 : (hs_fI h411 97 15).toInt = (hs_fI h 97 15).toInt := gh411_2
        have gh411_3 : (hs_fI h411 97 16).toInt = (hs_fI h 97 16).toInt := gh411_3
        have gh411_4 : (hs_fI h411 97 19).toInt = (hs_fI h 97 19).toInt := gh411_4
        have gh411_5 : (hs_fI h411 97 26).toInt = (hs_fI h 97 26).toInt := gh411_5
        have gh411_6 : (hs_fI h411 97 30).toInt = (hs_fI h 97 30).toInt := gh411_6
        have gh411_7 : (hs_fL h411 97 17).toInt = (hs_fL h 97 17).toInt := gh411_7
        have gh411_8 : hs_aI h411 110 = hs_aI h 110 := gh411_8
        have ugh411_8 : hs_aI h411 110 = (hs_aI h 110) := gh411_8.trans rfl
        have gh411_9 : hs_aI h411 111 = hs_aI h 111 := gh411_9
        have ugh411_9 : hs_aI h411 111 = (hs_aI h 111) := gh411_9.trans rfl
        have Ih411 := H.1 h411 Jh411
        obtain ⟨rq412, zq412, stq412, lq412⟩ := P410
        subst rq412
        obtain ⟨q413, eq413⟩ : ∃ q : Int32, q.toInt = (hs_fI h411 97 23).toInt := ⟨_, rfl⟩
        have aq413 : 0 ≤ (hs_fI h411 97 23).toInt := (Ih411.2.1 97 23 (by decide)).1
        have bq413 : (hs_fI h411 97 23).toInt ≤ 400 := (Ih411.2.1 97 23 (by decide)).2
        obtain ⟨q414, eq414⟩ : ∃ q : Int32, q.toInt = (hs_fI h411 97 29).toInt := ⟨_, rfl⟩
        have aq414 : 0 ≤ (hs_fI h411 97 29).toInt := (Ih411.2.1 97 29 (by decide)).1
        have bq414 : (hs_fI h411 97 29).toInt ≤ 400 := (Ih411.2.1 97 29 (by decide)).2
        have y3q412 := zq412.2.2.1
        have y2q412 := zq412.2.1
        have y1q412 := zq412.1
        refine hq_p rfl rfl ?_
        refine hq_p rfl rfl ?_
        refine hq_p rfl rfl (ty_ge (n := 0) nk_i0 (fun z415 ez415 => ?_))
        refine ty_callm 0 [(0, 97, 13), (0, 97, 14), (0, 97, 15), (0, 97, 16), (0, 97, 19), (0, 97, 23), (0, 97, 26), (0, 97, 30), (2, 97, 17), (3, 108, 0), (3, 109, 0)] (W := ty_Wps) H Jh411 rfl (fun _ => rfl) rfl rfl rfl (hq_pre_o Ih411.1 (x := 97) (ci := 11) rfl (by decide) rfl rfl rfl rfl) (fun a k w => by unfold ty_Wi at w; unfold ty_Wps; omega) (by unfold ty_Wi ty_Wps; omega) (ct_179 (x1 := z405) (x2 := z415) (by omega) (by omega) (by omega)) ⟨⟨rfl, show ¬ ty_Wi 97 13 by unfold ty_Wi; omega⟩, ⟨rfl, show ¬ ty_Wi 97 14 by unfold ty_Wi; omega⟩, ⟨rfl, show ¬ ty_Wi 97 15 by unfold ty_Wi; omega⟩, ⟨rfl, show ¬ ty_Wi 97 16 by unfold ty_Wi; omega⟩, ⟨rfl, show ¬ ty_Wi 97 19 by unfold ty_Wi; omega⟩, ⟨rfl, show ¬ ty_Wi 97 23 by unfold ty_Wi; omega⟩, ⟨rfl, show ¬ ty_Wi 97 26 by unfold ty_Wi; omega⟩, ⟨rfl, show ¬ ty_Wi 97 30 by unfold ty_Wi; omega⟩, ⟨rfl, show ¬ ty_Wi 97 17 by unfold ty_Wi; omega⟩, ⟨rfl, fun k => show ¬ ty_Wi 108 k by unfold ty_Wi; omega⟩, ⟨rfl, fun k => show ¬ ty_Wi 109 k by unfold ty_Wi; omega⟩, trivial⟩ (fun h417 _ Jh417 gh417 P416 => ?_)
        obtain ⟨gh417_0, gh417_1, gh417_2, gh417_3, gh417_4, gh417_5, gh417_6, gh417_7, gh417_8, gh417_9, gh417_10, _⟩ := gh417
        have gh417_0 : (hs_fI h417 97 13).toInt = (hs_fI h411 97 13).toInt := gh417_0
        have gh417_1 : (hs_fI h417 97 14).toInt = (hs_fI h411 97 14).toInt := gh417_1
        have gh417_2 : (hs_fI h417 97 15).toInt = (hs_fI h411 97 15).toInt := gh417_2
        have gh417_3 : (hs_fI h417 97 16).toInt = (hs_fI h411 97 16).toInt := gh417_3
        have gh417_4 : (hs_fI h417 97 19).toInt = (hs_fI h411 97 19).toInt := gh417_4
        have gh417_5 : (hs_fI h417 97 23).toInt = (hs_fI h411 97 23).toInt := gh417_5
        have gh417_6 : (hs_fI h417 97 26).toInt = (hs_fI h411 97 26).toInt := gh417_6
        have gh417_7 : (hs_fI h417 97 30).toInt = (hs_fI h411 97 30).toInt := gh417_7
        have gh417_8 : (hs_fL h417 97 17).toInt = (hs_fL h411 97 17).toInt := gh417_8
        have gh417_9 : hs_aI h417 108 = hs_aI h411 108 := gh417_9
        have ugh417_9 : hs_aI h417 108 = (hs_aI h411 108) := gh417_9.trans rfl
        have gh417_10 : hs_aI h417 109 = hs_aI h411 109 := gh417_10
        have ugh417_10 : hs_aI h417 109 = (hs_aI h411 109) := gh417_10.trans rfl
        have Ih417 := H.1 h417 Jh417
        obtain ⟨rq418, nq418, xq418, yq418⟩ := P416
        subst rq418
        obtain ⟨q419, eq419⟩ : ∃ q : Int32, q.toInt = (hs_fI h417 97 29).toInt := ⟨_, rfl⟩
        have aq419 : 0 ≤ (hs_fI h417 97 29).toInt := (Ih417.2.1 97 29 (by decide)).1
        have bq419 : (hs_fI h417 97 29).toInt ≤ 400 := (Ih417.2.1 97 29 (by decide)).2
        have wq418110 : hs_aI h417 110 = (upd (hs_aI h 110) (hs_fI h411 97 29).toInt.toNat z405) := by rw [xq418, ugh411_8, show (hs_fI h411 97 29).toInt.toNat = (hs_fI h411 97 29).toInt.toNat by omega]
        have wq418111 : hs_aI h417 111 = (upd (hs_aI h 111) (hs_fI h411 97 29).toInt.toNat z415) := by rw [yq418, ugh411_9, show (hs_fI h411 97 29).toInt.toNat = (hs_fI h411 97 29).toInt.toNat by omega]
        refine hq_p rfl rfl ?_
        refine ty_callm 0 [(0, 97, 13), (0, 97, 19), (0, 97, 23), (0, 97, 26), (0, 97, 29), (0, 97, 30), (3, 108, 0), (3, 109, 0), (3, 110, 0), (3, 111, 0)] (W := ty_Wps) H Jh417 rfl (fun _ => rfl) rfl rfl rfl (hq_pre_o Ih417.1 (x := 97) (ci := 11) rfl (by decide) rfl rfl rfl rfl) (fun a k w => by unfold ty_Wn at w; unfold ty_Wps; omega) (by unfold ty_Wn ty_Wps; omega) (ct_172w (by omega) (by omega)) ⟨⟨rfl, show ¬ ty_Wn 97 13 by unfold ty_Wn; omega⟩, ⟨rfl, show ¬ ty_Wn 97 19 by unfold ty_Wn; omega⟩, ⟨rfl, show ¬ ty_Wn 97 23 by unfold ty_Wn; omega⟩, ⟨rfl, show ¬ ty_Wn 97 26 by unfold ty_Wn; omega⟩, ⟨rfl, show ¬ ty_Wn 97 29 by unfold ty_Wn; omega⟩, ⟨rfl, show ¬ ty_Wn 97 30 by unfold ty_Wn; omega⟩, ⟨rfl, fun k => show ¬ ty_Wn 108 k by unfold ty_Wn; omega⟩, ⟨rfl, fun k => show ¬ ty_Wn 109 k by unfold ty_Wn; omega⟩, ⟨rfl, fun k => show ¬ ty_Wn 110 k by unfold ty_Wn; omega⟩, ⟨rfl, fun k => show ¬ ty_Wn 111 k by unfold ty_Wn; omega⟩, trivial⟩ (fun h421 _ Jh421 gh421 P420 => ?_)
        obtain ⟨gh421_0, gh421_1, gh421_2, gh421_3, gh421_4, gh421_5, gh421_6, gh421_7, gh421_8, gh421_9, _⟩ := gh421
        have gh421_0 : (hs_fI h421 97 13).toInt = (hs_fI h417 97 13).toInt := gh421_0
        have gh421_1 : (hs_fI h421 97 19).toInt = (hs_fI h417 97 19).toInt := gh421_1
        have gh421_2 : (hs_fI h421 97 23).toInt = (hs_fI h417 97 23).toInt := gh421_2
        have gh421_3 : (hs_fI h421 97 26).toInt = (hs_fI h417 97 26).toInt := gh421_3
        have gh421_4 : (hs_fI h421 97 29).toInt = (hs_fI h417 97 29).toInt := gh421_4
        have gh421_5 : (hs_fI h421 97 30).toInt = (hs_fI h417 97 30).toInt := gh421_5
        have gh421_6 : hs_aI h421 108 = hs_aI h417 108 := gh421_6
        have ugh421_6 : hs_aI h421 108 = (hs_aI h411 108) := gh421_6.trans ugh417_9
        have gh421_7 : hs_aI h421 109 = hs_aI h417 109 := gh421_7
        have ugh421_7 : hs_aI h421 109 = (hs_aI h411 109) := gh421_7.trans ugh417_10
        have gh421_8 : hs_aI h421 110 = hs_aI h417 110 := gh421_8
        have ugh421_8 : hs_aI h421 110 = (upd (hs_aI h 110) (hs_fI h411 97 29).toInt.toNat z405) := gh421_8.trans wq418110
        have gh421_9 : hs_aI h421 111 = hs_aI h417 111 := gh421_9
        have ugh421_9 : hs_aI h421 111 = (upd (hs_aI h 111) (hs_fI h411 97 29).toInt.toNat z415) := gh421_9.trans wq418111
        have Ih421 := H.1 h421 Jh421
        obtain ⟨rq422, fq422, kq422⟩ := P420
        subst rq422
        have t1kq422 := kq422.1
        have t2kq422 := kq422.2.1
        obtain ⟨q423, eq423⟩ : ∃ q : Int32, q.toInt = (hs_fI h421 97 14).toInt := ⟨_, rfl⟩
        have aq423 : 0 ≤ (hs_fI h421 97 14).toInt := (Ih421.2.1 97 14 (by decide)).1
        have bq423 : (hs_fI h421 97 14).toInt ≤ 400 := (Ih421.2.1 97 14 (by decide)).2
        obtain ⟨q424, eq424⟩ : ∃ q : Int32, q.toInt = (hs_fI h421 97 15).toInt := ⟨_, rfl⟩
        have aq424 : 0 ≤ (hs_fI h421 97 15).toInt := (Ih421.2.1 97 15 (by decide)).1
        have bq424 : (hs_fI h421 97 15).toInt ≤ 400 := (Ih421.2.1 97 15 (by decide)).2
        obtain ⟨q425, eq425⟩ : ∃ q : Int32, q.toInt = (hs_fI h421 97 16).toInt := ⟨_, rfl⟩
        have aq425 := nm_lo q425
        have bq425 := nm_hi q425
        obtain ⟨q426, eq426⟩ : ∃ q : Int64, q.toInt = (hs_fL h421 97 17).toInt := ⟨_, rfl⟩
        have aq426 := nm_llo q426
        have bq426 := nm_lhi q426
        refine hq_p rfl rfl (ty_ge (n := 1) nk_i1 (fun z427 ez427 => ?_))
        have zf : pz op0 ar0 s 0 h421 := by
          show pq ((hs_fI h421 97 19).toInt = 0) (hs_aI h421 108) (hs_aI h421 109) (hs_aI h421 110) (hs_aI h421 111) op0 ar0 s (hs_fI h421 97 23).toInt (hs_fI h421 97 29).toInt (hs_fI h421 97 30).toInt (hs_fI h421 97 14).toInt 0
          rw [ugh421_6, ugh421_7, ugh421_8, ugh421_9, show (hs_fI h421 97 23).toInt = (hs_fI h411 97 23).toInt by omega, show (hs_fI h421 97 29).toInt = (hs_fI h411 97 29).toInt + 1 by omega, show (hs_fI h421 97 30).toInt = (hs_fI h 97 30).toInt by omega]
          exact pq_push (pq_g (g' := (hs_fI h421 97 19).toInt = 0) zq412 (fun _ => ⟨by omega, rfl⟩) (Int.le_refl _)) (by omega) (by omega) (fun _ => by rw [ps_b1 (by omega) (by omega)]; rfl) (by omega) (by rw [if_neg (by omega)]; omega) (Or.inl ⟨by omega, by omega⟩)
        exact hq_W.ret rfl rfl rfl ⟨Jh421, _, rfl, by omega, kq422, by omega, by omega, (fun q => by omega), ⟨by rw [if_pos (by omega)]; exact zf, fun _ => ⟨fun q => by exfalso; omega, fun q => by exfalso; omega⟩⟩⟩
  · replace c14 : 1 ≤ z13.toInt ∧ z13.toInt ≤ 1 := by omega
    have f429 := iz13 (by omega)
    clear iz13
    refine hq_p rfl rfl (ty_ge (n := 20) nk_b20 (fun z430 ez430 => ?_))
    refine hq_p rfl rfl ?_
    refine hq_p (ls' := [some (.ref 97), some (.int x1), some (.int z430), none]) rfl rfl ?_
    refine hq_p rfl rfl ?_
    refine hq_p rfl rfl (ty_ge (n := -1) nk_im1 (fun z431 ez431 => ?_))
    refine ty_ieq rfl (fun c432 => ?_) (fun c432 => ?_)
    · exfalso; omega
    · clear c432
      refine hq_p rfl rfl ?_
      refine hq_p rfl rfl ?_
      refine ty_callp 1 I rfl (fun _ => rfl) rfl rfl rfl rfl (ct_180e (x0 := z430) (by omega)) (fun _ P433 => ?_)
      obtain ⟨z434, rfl, fz434⟩ := P433
      have rz434 : 0 ≤ z434.toInt ∧ z434.toInt ≤ 6 := by rw [fz434]; unfold ps_bd; repeat (first | omega | split)
      have t3 := hk.2.2.1 (by omega)
      have lz434 : 1 ≤ z434.toInt := by rw [fz434, show z430.toInt = 20 by omega]; decide
      refine ty_callm 0 [(0, 97, 13), (0, 97, 14), (0, 97, 15), (0, 97, 16), (0, 97, 19), (0, 97, 26), (0, 97, 30), (2, 97, 17), (3, 110, 0), (3, 111, 0)] (W := ty_Wps) H hJ rfl (fun _ => rfl) rfl rfl rfl (hq_pre_o I.1 (x := 97) (ci := 11) rfl (by decide) rfl rfl rfl rfl) (fun a k w => by unfold ty_Wse at w; unfold ty_Wps; omega) (by unfold ty_Wse ty_Wps; omega) (ct_181 (x1 := z434) (by omega) (by omega) (by omega) hz (by omega)) ⟨⟨rfl, show ¬ ty_Wse 97 13 by unfold ty_Wse; omega⟩, ⟨rfl, show ¬ ty_Wse 97 14 by unfold ty_Wse; omega⟩, ⟨rfl, show ¬ ty_Wse 97 15 by unfold ty_Wse; omega⟩, ⟨rfl, show ¬ ty_Wse 97 16 by unfold ty_Wse; omega⟩, ⟨rfl, show ¬ ty_Wse 97 19 by unfold ty_Wse; omega⟩, ⟨rfl, show ¬ ty_Wse 97 26 by unfold ty_Wse; omega⟩, ⟨rfl, show ¬ ty_Wse 97 30 by unfold ty_Wse; omega⟩, ⟨rfl, show ¬ ty_Wse 97 17 by unfold ty_Wse; omega⟩, ⟨rfl, fun k => show ¬ ty_Wse 110 k by unfold ty_Wse; omega⟩, ⟨rfl, fun k => show ¬ ty_Wse 111 k by unfold ty_Wse; omega⟩, trivial⟩ (fun h436 _ Jh436 gh436 P435 => ?_)
      obtain ⟨gh436_0, gh436_1, gh436_2, gh436_3, gh436_4, gh436_5, gh436_6, gh436_7, gh436_8, gh436_9, _⟩ := gh436
      have gh436_0 : (hs_fI h436 97 13).toInt = (hs_fI h 97 13).toInt := gh436_0
      have gh436_1 : (hs_fI h436 97 14).toInt = (hs_fI h 97 14).toInt := gh436_1
      have gh436_2 : (hs_fI h436 97 15).toInt = (hs_fI h 97 15).toInt := gh436_2
      have gh436_3 : (hs_fI h436 97 16).toInt = (hs_fI h 97 16).toInt := gh436_3
      have gh436_4 : (hs_fI h436 97 19).toInt = (hs_fI h 97 19).toInt := gh436_4
      have gh436_5 : (hs_fI h436 97 26).toInt = (hs_fI h 97 26).toInt := gh436_5
      have gh436_6 : (hs_fI h436 97 30).toInt = (hs_fI h 97 30).toInt := gh436_6
      have gh436_7 : (hs_fL h436 97 17).toInt = (hs_fL h 97 17).toInt := gh436_7
      have gh436_8 : hs_aI h436 110 = hs_aI h 110 := gh436_8
      have ugh436_8 : hs_aI h436 110 = (hs_aI h 110) := gh436_8.trans rfl
      have gh436_9 : hs_aI h436 111 = hs_aI h 111 := gh436_9
      have ugh436_9 : hs_aI h436 111 = (hs_aI h 111) := gh436_9.trans rfl
      have Ih436 := H.1 h436 Jh436
      obtain ⟨rq437, zq437, stq437, lq437⟩ := P435
      subst rq437
      obtain ⟨q438, eq438⟩ : ∃ q : Int32, q.toInt = (hs_fI h436 97 23).toInt := ⟨_, rfl⟩
      have aq438 : 0 ≤ (hs_fI h436 97 23).toInt := (Ih436.2.1 97 23 (by decide)).1
      have bq438 : (hs_fI h436 97 23).toInt ≤ 400 := (Ih436.2.1 97 23 (by decide)).2
      obtain ⟨q439, eq439⟩ : ∃ q : Int32, q.toInt = (hs_fI h436 97 29).toInt := ⟨_, rfl⟩
      have aq439 : 0 ≤ (hs_fI h436 97 29).toInt := (Ih436.2.1 97 29 (by decide)).1
      have bq439 : (hs_fI h436 97 29).toInt ≤ 400 := (Ih436.2.1 97 29 (by decide)).2
      have y3q437 := zq437.2.2.1
      have y2q437 := zq437.2.1
      have y1q437 := zq437.1
      refine hq_p rfl rfl ?_
      refine hq_p rfl rfl ?_
      refine hq_p rfl rfl (ty_ge (n := 0) nk_i0 (fun z440 ez440 => ?_))
      refine ty_callm 0 [(0, 97, 13), (0, 97, 14), (0, 97, 15), (0, 97, 16), (0, 97, 19), (0, 97, 23), (0, 97, 26), (0, 97, 30), (2, 97, 17), (3, 108, 0), (3, 109, 0)] (W := ty_Wps) H Jh436 rfl (fun _ => rfl) rfl rfl rfl (hq_pre_o Ih436.1 (x := 97) (ci := 11) rfl (by decide) rfl rfl rfl rfl) (fun a k w => by unfold ty_Wi at w; unfold ty_Wps; omega) (by unfold ty_Wi ty_Wps; omega) (ct_179 (x1 := z430) (x2 := z440) (by omega) (by omega) (by omega)) ⟨⟨rfl, show ¬ ty_Wi 97 13 by unfold ty_Wi; omega⟩, ⟨rfl, show ¬ ty_Wi 97 14 by unfold ty_Wi; omega⟩, ⟨rfl, show ¬ ty_Wi 97 15 by unfold ty_Wi; omega⟩, ⟨rfl, show ¬ ty_Wi 97 16 by unfold ty_Wi; omega⟩, ⟨rfl, show ¬ ty_Wi 97 19 by unfold ty_Wi; omega⟩, ⟨rfl, show ¬ ty_Wi 97 23 by unfold ty_Wi; omega⟩, ⟨rfl, show ¬ ty_Wi 97 26 by unfold ty_Wi; omega⟩, ⟨rfl, show ¬ ty_Wi 97 30 by unfold ty_Wi; omega⟩, ⟨rfl, show ¬ ty_Wi 97 17 by unfold ty_Wi; omega⟩, ⟨rfl, fun k => show ¬ ty_Wi 108 k by unfold ty_Wi; omega⟩, ⟨rfl, fun k => show ¬ ty_Wi 109 k by unfold ty_Wi; omega⟩, trivial⟩ (fun h442 _ Jh442 gh442 P441 => ?_)
      obtain ⟨gh442_0, gh442_1, gh442_2, gh442_3, gh442_4, gh442_5, gh442_6, gh442_7, gh442_8, gh442_9, gh442_10, _⟩ := gh442
      have gh442_0 : (hs_fI h442 97 13).toInt = (hs_fI h436 97 13).toInt := gh442_0
      have gh442_1 : (hs_fI h442 97 14).toInt = (hs_fI h436 97 14).toInt := gh442_1
      have gh442_2 : (hs_fI h442 97 15).toInt = (hs_fI h436 97 15).toInt := gh442_2
      have gh442_3 : (hs_fI h442 97 16).toInt = (hs_fI h436 97 16).toInt := gh442_3
      have gh442_4 : (hs_fI h442 97 19).toInt = (hs_fI h436 97 19).toInt := gh442_4
      have gh442_5 : (hs_fI h442 97 23).toInt = (hs_fI h436 97 23).toInt := gh442_5
      have gh442_6 : (hs_fI h442 97 26).toInt = (hs_fI h436 97 26).toInt := gh442_6
      have gh442_7 : (hs_fI h442 97 30).toInt = (hs_fI h436 97 30).toInt := gh442_7
      have gh442_8 : (hs_fL h442 97 17).toInt = (hs_fL h436 97 17).toInt := gh442_8
      have gh442_9 : hs_aI h442 108 = hs_aI h436 108 := gh442_9
      have ugh442_9 : hs_aI h442 108 = (hs_aI h436 108) := gh442_9.trans rfl
      have gh442_10 : hs_aI h442 109 = hs_aI h436 109 := gh442_10
      have ugh442_10 : hs_aI h442 109 = (hs_aI h436 109) := gh442_10.trans rfl
      have Ih442 := H.1 h442 Jh442
      obtain ⟨rq443, nq443, xq443, yq443⟩ := P441
      subst rq443
      obtain ⟨q444, eq444⟩ : ∃ q : Int32, q.toInt = (hs_fI h442 97 29).toInt := ⟨_, rfl⟩
      have aq444 : 0 ≤ (hs_fI h442 97 29).toInt := (Ih442.2.1 97 29 (by decide)).1
      have bq444 : (hs_fI h442 97 29).toInt ≤ 400 := (Ih442.2.1 97 29 (by decide)).2
      have wq443110 : hs_aI h442 110 = (upd (hs_aI h 110) (hs_fI h436 97 29).toInt.toNat z430) := by rw [xq443, ugh436_8, show (hs_fI h436 97 29).toInt.toNat = (hs_fI h436 97 29).toInt.toNat by omega]
      have wq443111 : hs_aI h442 111 = (upd (hs_aI h 111) (hs_fI h436 97 29).toInt.toNat z440) := by rw [yq443, ugh436_9, show (hs_fI h436 97 29).toInt.toNat = (hs_fI h436 97 29).toInt.toNat by omega]
      refine hq_p rfl rfl ?_
      refine ty_callm 0 [(0, 97, 13), (0, 97, 19), (0, 97, 23), (0, 97, 26), (0, 97, 29), (0, 97, 30), (3, 108, 0), (3, 109, 0), (3, 110, 0), (3, 111, 0)] (W := ty_Wps) H Jh442 rfl (fun _ => rfl) rfl rfl rfl (hq_pre_o Ih442.1 (x := 97) (ci := 11) rfl (by decide) rfl rfl rfl rfl) (fun a k w => by unfold ty_Wn at w; unfold ty_Wps; omega) (by unfold ty_Wn ty_Wps; omega) (ct_172w (by omega) (by omega)) ⟨⟨rfl, show ¬ ty_Wn 97 13 by unfold ty_Wn; omega⟩, ⟨rfl, show ¬ ty_Wn 97 19 by unfold ty_Wn; omega⟩, ⟨rfl, show ¬ ty_Wn 97 23 by unfold ty_Wn; omega⟩, ⟨rfl, show ¬ ty_Wn 97 26 by unfold ty_Wn; omega⟩, ⟨rfl, show ¬ ty_Wn 97 29 by unfold ty_Wn; omega⟩, ⟨rfl, show ¬ ty_Wn 97 30 by unfold ty_Wn; omega⟩, ⟨rfl, fun k => show ¬ ty_Wn 108 k by unfold ty_Wn; omega⟩, ⟨rfl, fun k => show ¬ ty_Wn 109 k by unfold ty_Wn; omega⟩, ⟨rfl, fun k => show ¬ ty_Wn 110 k by unfold ty_Wn; omega⟩, ⟨rfl, fun k => show ¬ ty_Wn 111 k by unfold ty_Wn; omega⟩, trivial⟩ (fun h446 _ Jh446 gh446 P445 => ?_)
      obtain ⟨gh446_0, gh446_1, gh446_2, gh446_3, gh446_4, gh446_5, gh446_6, gh446_7, gh446_8, gh446_9, _⟩ := gh446
      have gh446_0 : (hs_fI h446 97 13).toInt = (hs_fI h442 97 13).toInt := gh446_0
      have gh446_1 : (hs_fI h446 97 19).toInt = (hs_fI h442 97 19).toInt := gh446_1
      have gh446_2 : (hs_fI h446 97 23).toInt = (hs_fI h442 97 23).toInt := gh446_2
      have gh446_3 : (hs_fI h446 97 26).toInt = (hs_fI h442 97 26).toInt := gh446_3
      have gh446_4 : (hs_fI h446 97 29).toInt = (hs_fI h442 97 29).toInt := gh446_4
      have gh446_5 : (hs_fI h446 97 30).toInt = (hs_fI h442 97 30).toInt := gh446_5
      have gh446_6 : hs_aI h446 108 = hs_aI h442 108 := gh446_6
      have ugh446_6 : hs_aI h446 108 = (hs_aI h436 108) := gh446_6.trans ugh442_9
      have gh446_7 : hs_aI h446 109 = hs_aI h442 109 := gh446_7
      have ugh446_7 : hs_aI h446 109 = (hs_aI h436 109) := gh446_7.trans ugh442_10
      have gh446_8 : hs_aI h446 110 = hs_aI h442 110 := gh446_8
      have ugh446_8 : hs_aI h446 110 = (upd (hs_aI h 110) (hs_fI h436 97 29).toInt.toNat z430) := gh446_8.trans wq443110
      have gh446_9 : hs_aI h446 111 = hs_aI h442 111 := gh446_9
      have ugh446_9 : hs_aI h446 111 = (upd (hs_aI h 111) (hs_fI h436 97 29).toInt.toNat z440) := gh446_9.trans wq443111
      have Ih446 := H.1 h446 Jh446
      obtain ⟨rq447, fq447, kq447⟩ := P445
      subst rq447
      have t1kq447 := kq447.1
      have t2kq447 := kq447.2.1
      obtain ⟨q448, eq448⟩ : ∃ q : Int32, q.toInt = (hs_fI h446 97 14).toInt := ⟨_, rfl⟩
      have aq448 : 0 ≤ (hs_fI h446 97 14).toInt := (Ih446.2.1 97 14 (by decide)).1
      have bq448 : (hs_fI h446 97 14).toInt ≤ 400 := (Ih446.2.1 97 14 (by decide)).2
      obtain ⟨q449, eq449⟩ : ∃ q : Int32, q.toInt = (hs_fI h446 97 15).toInt := ⟨_, rfl⟩
      have aq449 : 0 ≤ (hs_fI h446 97 15).toInt := (Ih446.2.1 97 15 (by decide)).1
      have bq449 : (hs_fI h446 97 15).toInt ≤ 400 := (Ih446.2.1 97 15 (by decide)).2
      obtain ⟨q450, eq450⟩ : ∃ q : Int32, q.toInt = (hs_fI h446 97 16).toInt := ⟨_, rfl⟩
      have aq450 := nm_lo q450
      have bq450 := nm_hi q450
      obtain ⟨q451, eq451⟩ : ∃ q : Int64, q.toInt = (hs_fL h446 97 17).toInt := ⟨_, rfl⟩
      have aq451 := nm_llo q451
      have bq451 := nm_lhi q451
      refine hq_p rfl rfl (ty_ge (n := 1) nk_i1 (fun z452 ez452 => ?_))
      have zf : pz op0 ar0 s 0 h446 := by
        show pq ((hs_fI h446 97 19).toInt = 0) (hs_aI h446 108) (hs_aI h446 109) (hs_aI h446 110) (hs_aI h446 111) op0 ar0 s (hs_fI h446 97 23).toInt (hs_fI h446 97 29).toInt (hs_fI h446 97 30).toInt (hs_fI h446 97 14).toInt 0
        rw [ugh446_6, ugh446_7, ugh446_8, ugh446_9, show (hs_fI h446 97 23).toInt = (hs_fI h436 97 23).toInt by omega, show (hs_fI h446 97 29).toInt = (hs_fI h436 97 29).toInt + 1 by omega, show (hs_fI h446 97 30).toInt = (hs_fI h 97 30).toInt by omega]
        exact pq_push (pq_g (g' := (hs_fI h446 97 19).toInt = 0) zq437 (fun _ => ⟨by omega, rfl⟩) (Int.le_refl _)) (by omega) (by omega) (fun _ => by rw [ps_b1 (by omega) (by omega)]; rfl) (by omega) (by rw [if_neg (by omega)]; omega) (Or.inl ⟨by omega, by omega⟩)
      exact hq_W.ret rfl rfl rfl ⟨Jh446, _, rfl, by omega, kq447, by omega, by omega, (fun q => by omega), ⟨by rw [if_pos (by omega)]; exact zf, fun _ => ⟨fun q => by exfalso; omega, fun q => by exfalso; omega⟩⟩⟩
end CT50
