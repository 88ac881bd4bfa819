/-! CONTRACTS (printed by wip/pm/cts.py) -/
section CT48
theorem ct_187 {X : pm_X} {d : Nat} {h : pm_H} {x1 : Int32} {x2 : Int32} {x3 : Int32} {op0 ar0 : Nat → Int} {s : Nat} (hd : 4 ≤ d) (ax1 : 0 ≤ x1.toInt) (bx1 : x1.toInt ≤ 1) (ax2 : 0 ≤ x2.toInt) (bx2 : x2.toInt ≤ 12) (hb : (hs_fI h 97 19).toInt = 0) (hk : tk_ok h) (hs1 : x1.toInt ≠ 0 → (hs_fI h 97 16).toInt ≠ 0) (hz : pz op0 ar0 s 0 h) : ty_M X ty_Wps d 187 [.ref 97, .int x1, .int x2, .int x3] h (fun h1 v => v = none ∧ tk_ok h1 ∧ (hs_fI h 97 14).toInt ≤ (hs_fI h1 97 14).toInt ∧ ((hs_fI h1 97 19).toInt = 0 ∨ (hs_fI h1 97 19).toInt = 1) ∧ ((hs_fI h1 97 19).toInt = 0 → (hs_fI h 97 14).toInt + 1 ≤ (hs_fI h1 97 14).toInt) ∧ pz op0 ar0 s 1 h1 ∧ ((hs_fI h1 97 19).toInt = 0 → (hs_fI h1 97 23).toInt = (hs_fI h 97 23).toInt + 1 ∧ hs_aI h1 108 = upd (hs_aI h 108) (hs_fI h 97 23).toInt.toNat x2)) := by
  intro J H hJ
  obtain ⟨d, rfl⟩ : ∃ e, d = e + 1 := ⟨d - 1, by omega⟩
  have I := H.1 h hJ
  have ax3 := nm_lo x3
  have bx3 := nm_hi x3
  refine hq_M.enter (q := (⟨"TrainBearersModel", "leaf", "(ZII)V"⟩, _, 4, none, 11, 4, pm_c187)) rfl rfl ?_
  show hq_W X d 11 false (none) pm_c187 (0, [some (.ref 97), some (.int x1), some (.int x2), some (.int x3)], [], h) (fun h' v => J h' ∧ (fun h1 v => v = none ∧ tk_ok h1 ∧ (hs_fI h 97 14).toInt ≤ (hs_fI h1 97 14).toInt ∧ ((hs_fI h1 97 19).toInt = 0 ∨ (hs_fI h1 97 19).toInt = 1) ∧ ((hs_fI h1 97 19).toInt = 0 → (hs_fI h 97 14).toInt + 1 ≤ (hs_fI h1 97 14).toInt) ∧ pz op0 ar0 s 1 h1 ∧ ((hs_fI h1 97 19).toInt = 0 → (hs_fI h1 97 23).toInt = (hs_fI h 97 23).toInt + 1 ∧ hs_aI h1 108 = upd (hs_aI h 108) (hs_fI h 97 23).toInt.toNat x2)) h' v)
  obtain ⟨q1, eq1⟩ : ∃ q : Int32, q.toInt = (hs_fI h 97 13).toInt := ⟨_, rfl⟩
  have aq1 : 0 ≤ (hs_fI h 97 13).toInt := (I.2.1 97 13 (by decide)).1
  have bq1 : (hs_fI h 97 13).toInt ≤ 400 := (I.2.1 97 13 (by decide)).2
  obtain ⟨q2, eq2⟩ : ∃ q : Int32, q.toInt = (hs_fI h 97 14).toInt := ⟨_, rfl⟩
  have aq2 : 0 ≤ (hs_fI h 97 14).toInt := (I.2.1 97 14 (by decide)).1
  have bq2 : (hs_fI h 97 14).toInt ≤ 400 := (I.2.1 97 14 (by decide)).2
  obtain ⟨q3, eq3⟩ : ∃ q : Int32, q.toInt = (hs_fI h 97 15).toInt := ⟨_, rfl⟩
  have aq3 : 0 ≤ (hs_fI h 97 15).toInt := (I.2.1 97 15 (by decide)).1
  have bq3 : (hs_fI h 97 15).toInt ≤ 400 := (I.2.1 97 15 (by decide)).2
  obtain ⟨q4, eq4⟩ : ∃ q : Int32, q.toInt = (hs_fI h 97 16).toInt := ⟨_, rfl⟩
  have aq4 := nm_lo q4
  have bq4 := nm_hi q4
  obtain ⟨q5, eq5⟩ : ∃ q : Int32, q.toInt = (hs_fI h 97 19).toInt := ⟨_, rfl⟩
  have aq5 : 0 ≤ q5.toInt ∧ q5.toInt ≤ 1 := by omega
  obtain ⟨q6, eq6⟩ : ∃ q : Int32, q.toInt = (hs_fI h 97 23).toInt := ⟨_, rfl⟩
  have aq6 : 0 ≤ (hs_fI h 97 23).toInt := (I.2.1 97 23 (by decide)).1
  have bq6 : (hs_fI h 97 23).toInt ≤ 400 := (I.2.1 97 23 (by decide)).2
  obtain ⟨q7, eq7⟩ : ∃ q : Int32, q.toInt = (hs_fI h 97 26).toInt := ⟨_, rfl⟩
  have aq7 : 0 ≤ (hs_fI h 97 26).toInt := (I.2.1 97 26 (by decide)).1
  have bq7 : (hs_fI h 97 26).toInt ≤ 50 := (I.2.1 97 26 (by decide)).2
  obtain ⟨q8, eq8⟩ : ∃ q : Int32, q.toInt = (hs_fI h 97 29).toInt := ⟨_, rfl⟩
  have aq8 : 0 ≤ (hs_fI h 97 29).toInt := (I.2.1 97 29 (by decide)).1
  have bq8 : (hs_fI h 97 29).toInt ≤ 400 := (I.2.1 97 29 (by decide)).2
  obtain ⟨q9, eq9⟩ : ∃ q : Int32, q.toInt = (hs_fI h 97 30).toInt := ⟨_, rfl⟩
  have aq9 : 0 ≤ (hs_fI h 97 30).toInt := (I.2.1 97 30 (by decide)).1
  have bq9 : (hs_fI h 97 30).toInt ≤ 8 := (I.2.1 97 30 (by decide)).2
  obtain ⟨q10, eq10⟩ : ∃ q : Int64, q.toInt = (hs_fL h 97 17).toInt := ⟨_, rfl⟩
  have aq10 := nm_llo q10
  have bq10 := nm_lhi q10
  have t1 := hk.1
  have t2 := hk.2.1
  have t3 := hk.2.2.1
  have z3 : (hs_fI h 97 23).toInt + (hs_fI h 97 29).toInt ≤ (hs_fI h 97 14).toInt := hz.2.2.1
  have z2 : (s : Int) ≤ (hs_fI h 97 23).toInt := hz.2.1
  refine hq_p rfl rfl ?_
  refine hq_p rfl rfl ?_
  refine ty_zeq rfl (fun c11 => ?_) (fun c11 => ?_)
  · refine hq_p rfl rfl (ty_ge (n := 0) nk_i0 (fun z12 ez12 => ?_))
    refine ty_callm 0 [(0, 97, 13), (0, 97, 23), (0, 97, 26), (0, 97, 29), (0, 97, 30), (3, 108, 0), (3, 109, 0), (3, 110, 0), (3, 111, 0)] (W := ty_Wps) H hJ rfl (fun _ => rfl) rfl rfl rfl (hq_pre_o I.1 (x := 97) (ci := 11) rfl (by decide) rfl rfl rfl rfl) (fun a k w => by unfold ty_Wo at w; unfold ty_Wps; omega) (by unfold ty_Wo ty_Wps; omega) (ct_175w (x1 := z12) (by omega) (by omega) (by omega) hk) ⟨⟨rfl, show ¬ ty_Wo 97 13 by unfold ty_Wo; omega⟩, ⟨rfl, show ¬ ty_Wo 97 23 by unfold ty_Wo; omega⟩, ⟨rfl, show ¬ ty_Wo 97 26 by unfold ty_Wo; omega⟩, ⟨rfl, show ¬ ty_Wo 97 29 by unfold ty_Wo; omega⟩, ⟨rfl, show ¬ ty_Wo 97 30 by unfold ty_Wo; omega⟩, ⟨rfl, fun k => show ¬ ty_Wo 108 k by unfold ty_Wo; omega⟩, ⟨rfl, fun k => show ¬ ty_Wo 109 k by unfold ty_Wo; omega⟩, ⟨rfl, fun k => show ¬ ty_Wo 110 k by unfold ty_Wo; omega⟩, ⟨rfl, fun k => show ¬ ty_Wo 111 k by unfold ty_Wo; omega⟩, trivial⟩ (fun h14 _ Jh14 gh14 P13 => ?_)
    obtain ⟨gh14_0, gh14_1, gh14_2, gh14_3, gh14_4, gh14_5, gh14_6, gh14_7, gh14_8, _⟩ := gh14
    have gh14_0 : (hs_fI h14 97 13).toInt = (hs_fI h 97 13).toInt := gh14_0
    have gh14_1 : (hs_fI h14 97 23).toInt = (hs_fI h 97 23).toInt := gh14_1
    have gh14_2 : (hs_fI h14 97 26).toInt = (hs_fI h 97 26).toInt := gh14_2
    have gh14_3 : (hs_fI h14 97 29).toInt = (hs_fI h 97 29).toInt := gh14_3
    have gh14_4 : (hs_fI h14 97 30).toInt = (hs_fI h 97 30).toInt := gh14_4
    have gh14_5 : hs_aI h14 108 = hs_aI h 108 := gh14_5
    have ugh14_5 : hs_aI h14 108 = (hs_aI h 108) := gh14_5.trans rfl
    have gh14_6 : hs_aI h14 109 = hs_aI h 109 := gh14_6
    have ugh14_6 : hs_aI h14 109 = (hs_aI h 109) := gh14_6.trans rfl
    have gh14_7 : hs_aI h14 110 = hs_aI h 110 := gh14_7
    have ugh14_7 : hs_aI h14 110 = (hs_aI h 110) := gh14_7.trans rfl
    have gh14_8 : hs_aI h14 111 = hs_aI h 111 := gh14_8
    have ugh14_8 : hs_aI h14 111 = (hs_aI h 111) := gh14_8.trans rfl
    have Ih14 := H.1 h14 Jh14
    obtain ⟨rq15, kq15, fq15⟩ := P13
    subst rq15
    have t1kq15 := kq15.1
    have t2kq15 := kq15.2.1
    have t3kq15 := kq15.2.2.1
    obtain ⟨q16, eq16⟩ : ∃ q : Int32, q.toInt = (hs_fI h14 97 14).toInt := ⟨_, rfl⟩
    have aq16 : 0 ≤ (hs_fI h14 97 14).toInt := (Ih14.2.1 97 14 (by decide)).1
    have bq16 : (hs_fI h14 97 14).toInt ≤ 400 := (Ih14.2.1 97 14 (by decide)).2
    obtain ⟨q17, eq17⟩ : ∃ q : Int32, q.toInt = (hs_fI h14 97 15).toInt := ⟨_, rfl⟩
    have aq17 : 0 ≤ (hs_fI h14 97 15).toInt := (Ih14.2.1 97 15 (by decide)).1
    have bq17 : (hs_fI h14 97 15).toInt ≤ 400 := (Ih14.2.1 97 15 (by decide)).2
    obtain ⟨q18, eq18⟩ : ∃ q : Int32, q.toInt = (hs_fI h14 97 16).toInt := ⟨_, rfl⟩
    have aq18 := nm_lo q18
    have bq18 := nm_hi q18
    obtain ⟨q19, eq19⟩ : ∃ q : Int32, q.toInt = (hs_fI h14 97 19).toInt := ⟨_, rfl⟩
    have aq19 : 0 ≤ q19.toInt ∧ q19.toInt ≤ 1 := by omega
    obtain ⟨q20, eq20⟩ : ∃ q : Int64, q.toInt = (hs_fL h14 97 17).toInt := ⟨_, rfl⟩
    have aq20 := nm_llo q20
    have bq20 := nm_lhi q20
    refine hq_p rfl rfl ?_
    refine ty_gB Ih14 rfl rfl (by decide) (by decide) rfl (fun z21 ez21 az21 bz21 => ?_)
    refine ty_zne rfl (fun c22 => ?_) (fun c22 => ?_)
    · clear c22
      have zf : pz op0 ar0 s 1 h14 := by
        show pq ((hs_fI h14 97 19).toInt = 0) (hs_aI h14 108) (hs_aI h14 109) (hs_aI h14 110) (hs_aI h14 111) op0 ar0 s (hs_fI h14 97 23).toInt (hs_fI h14 97 29).toInt (hs_fI h14 97 30).toInt (hs_fI h14 97 14).toInt 1
        rw [ugh14_5, ugh14_6, ugh14_7, ugh14_8, show (hs_fI h14 97 23).toInt = (hs_fI h 97 23).toInt by omega, show (hs_fI h14 97 29).toInt = (hs_fI h 97 29).toInt by omega, show (hs_fI h14 97 30).toInt = (hs_fI h 97 30).toInt by omega]
        exact pq_g hz (fun q => by exfalso; omega) (by omega)
      exact hq_W.ret rfl rfl rfl ⟨Jh14, rfl, kq15, by omega, by omega, by omega, zf, fun q => by exfalso; omega⟩
    · exfalso; omega
  · replace c11 : 1 ≤ x1.toInt ∧ x1.toInt ≤ 1 := by omega
    refine hq_p rfl rfl ?_
    refine ty_gI I rfl rfl (by decide) (by decide) rfl rfl (fun z24 ez24 az24 bz24 => ?_)
    refine hq_p rfl rfl (ty_ge (n := 50) nk_b50 (fun z25 ez25 => ?_))
    refine ty_ige rfl (fun c26 => ?_) (fun c26 => ?_)
    · refine hq_p rfl rfl (ty_ge (n := 0) nk_i0 (fun z27 ez27 => ?_))
      refine ty_callm 0 [(0, 97, 13), (0, 97, 23), (0, 97, 26), (0, 97, 29), (0, 97, 30), (3, 108, 0), (3, 109, 0), (3, 110, 0), (3, 111, 0)] (W := ty_Wps) H hJ rfl (fun _ => rfl) rfl rfl rfl (hq_pre_o I.1 (x := 97) (ci := 11) rfl (by decide) rfl rfl rfl rfl) (fun a k w => by unfold ty_Wo at w; unfold ty_Wps; omega) (by unfold ty_Wo ty_Wps; omega) (ct_175w (x1 := z27) (by omega) (by omega) (by omega) hk) ⟨⟨rfl, show ¬ ty_Wo 97 13 by unfold ty_Wo; omega⟩, ⟨rfl, show ¬ ty_Wo 97 23 by unfold ty_Wo; omega⟩, ⟨rfl, show ¬ ty_Wo 97 26 by unfold ty_Wo; omega⟩, ⟨rfl, show ¬ ty_Wo 97 29 by unfold ty_Wo; omega⟩, ⟨rfl, show ¬ ty_Wo 97 30 by unfold ty_Wo; omega⟩, ⟨rfl, fun k => show ¬ ty_Wo 108 k by unfold ty_Wo; omega⟩, ⟨rfl, fun k => show ¬ ty_Wo 109 k by unfold ty_Wo; omega⟩, ⟨rfl, fun k => show ¬ ty_Wo 110 k by unfold ty_Wo; omega⟩, ⟨rfl, fun k => show ¬ ty_Wo 111 k by unfold ty_Wo; omega⟩, trivial⟩ (fun h29 _ Jh29 gh29 P28 => ?_)
      obtain ⟨gh29_0, gh29_1, gh29_2, gh29_3, gh29_4, gh29_5, gh29_6, gh29_7, gh29_8, _⟩ := gh29
      have gh29_0 : (hs_fI h29 97 13).toInt = (hs_fI h 97 13).toInt := gh29_0
      have gh29_1 : (hs_fI h29 97 23).toInt = (hs_fI h 97 23).toInt := gh29_1
      have gh29_2 : (hs_fI h29 97 26).toInt = (hs_fI h 97 26).toInt := gh29_2
      have gh29_3 : (hs_fI h29 97 29).toInt = (hs_fI h 97 29).toInt := gh29_3
      have gh29_4 : (hs_fI h29 97 30).toInt = (hs_fI h 97 30).toInt := gh29_4
      have gh29_5 : hs_aI h29 108 = hs_aI h 108 := gh29_5
      have ugh29_5 : hs_aI h29 108 = (hs_aI h 108) := gh29_5.trans rfl
      have gh29_6 : hs_aI h29 109 = hs_aI h 109 := gh29_6
      have ugh29_6 : hs_aI h29 109 = (hs_aI h 109) := gh29_6.trans rfl
      have gh29_7 : hs_aI h29 110 = hs_aI h 110 := gh29_7
      have ugh29_7 : hs_aI h29 110 = (hs_aI h 110) := gh29_7.trans rfl
      have gh29_8 : hs_aI h29 111 = hs_aI h 111 := gh29_8
      have ugh29_8 : hs_aI h29 111 = (hs_aI h 111) := gh29_8.trans rfl
      have Ih29 := H.1 h29 Jh29
      obtain ⟨rq30, kq30, fq30⟩ := P28
      subst rq30
      have t1kq30 := kq30.1
      have t2kq30 := kq30.2.1
      have t3kq30 := kq30.2.2.1
      obtain ⟨q31, eq31⟩ : ∃ q : Int32, q.toInt = (hs_fI h29 97 14).toInt := ⟨_, rfl⟩
      have aq31 : 0 ≤ (hs_fI h29 97 14).toInt := (Ih29.2.1 97 14 (by decide)).1
      have bq31 : (hs_fI h29 97 14).toInt ≤ 400 := (Ih29.2.1 97 14 (by decide)).2
      obtain ⟨q32, eq32⟩ : ∃ q : Int32, q.toInt = (hs_fI h29 97 15).toInt := ⟨_, rfl⟩
      have aq32 : 0 ≤ (hs_fI h29 97 15).toInt := (Ih29.2.1 97 15 (by decide)).1
      have bq32 : (hs_fI h29 97 15).toInt ≤ 400 := (Ih29.2.1 97 15 (by decide)).2
      obtain ⟨q33, eq33⟩ : ∃ q : Int32, q.toInt = (hs_fI h29 97 16).toInt := ⟨_, rfl⟩
      have aq33 := nm_lo q33
      have bq33 := nm_hi q33
      obtain ⟨q34, eq34⟩ : ∃ q : Int32, q.toInt = (hs_fI h29 97 19).toInt := ⟨_, rfl⟩
      have aq34 : 0 ≤ q34.toInt ∧ q34.toInt ≤ 1 := by omega
      obtain ⟨q35, eq35⟩ : ∃ q : Int64, q.toInt = (hs_fL h29 97 17).toInt := ⟨_, rfl⟩
      have aq35 := nm_llo q35
      have bq35 := nm_lhi q35
      refine hq_p rfl rfl ?_
      refine ty_gB Ih29 rfl rfl (by decide) (by decide) rfl (fun z36 ez36 az36 bz36 => ?_)
      refine ty_zne rfl (fun c37 => ?_) (fun c37 => ?_)
      · clear c37
        have zf : pz op0 ar0 s 1 h29 := by
          show pq ((hs_fI h29 97 19).toInt = 0) (hs_aI h29 108) (hs_aI h29 109) (hs_aI h29 110) (hs_aI h29 111) op0 ar0 s (hs_fI h29 97 23).toInt (hs_fI h29 97 29).toInt (hs_fI h29 97 30).toInt (hs_fI h29 97 14).toInt 1
          rw [ugh29_5, ugh29_6, ugh29_7, ugh29_8, show (hs_fI h29 97 23).toInt = (hs_fI h 97 23).toInt by omega, show (hs_fI h29 97 29).toInt = (hs_fI h 97 29).toInt by omega, show (hs_fI h29 97 30).toInt = (hs_fI h 97 30).toInt by omega]
          exact pq_g hz (fun q => by exfalso; omega) (by omega)
        exact hq_W.ret rfl rfl rfl ⟨Jh29, rfl, kq30, by omega, by omega, by omega, zf, fun q => by exfalso; omega⟩
      · exfalso; omega
    · refine hq_p rfl rfl (ty_ge (n := 1) nk_i1 (fun z39 ez39 => ?_))
      refine hq_p rfl rfl ?_
      refine ty_callm 0 [(0, 97, 13), (0, 97, 23), (0, 97, 26), (0, 97, 29), (0, 97, 30), (3, 108, 0), (3, 109, 0), (3, 110, 0), (3, 111, 0)] (W := ty_Wps) H hJ rfl (fun _ => rfl) rfl rfl rfl (hq_pre_o I.1 (x := 97) (ci := 11) rfl (by decide) rfl rfl rfl rfl) (fun a k w => by unfold ty_Wo at w; unfold ty_Wps; omega) (by unfold ty_Wo ty_Wps; omega) (ct_175w (x1 := z39) (by omega) (by omega) (by omega) hk) ⟨⟨rfl, show ¬ ty_Wo 97 13 by unfold ty_Wo; omega⟩, ⟨rfl, show ¬ ty_Wo 97 23 by unfold ty_Wo; omega⟩, ⟨rfl, show ¬ ty_Wo 97 26 by unfold ty_Wo; omega⟩, ⟨rfl, show ¬ ty_Wo 97 29 by unfold ty_Wo; omega⟩, ⟨rfl, show ¬ ty_Wo 97 30 by unfold ty_Wo; omega⟩, ⟨rfl, fun k => show ¬ ty_Wo 108 k by unfold ty_Wo; omega⟩, ⟨rfl, fun k => show ¬ ty_Wo 109 k by unfold ty_Wo; omega⟩, ⟨rfl, fun k => show ¬ ty_Wo 110 k by unfold ty_Wo; omega⟩, ⟨rfl, fun k => show ¬ ty_Wo 111 k by unfold ty_Wo; omega⟩, trivial⟩ (fun h41 _ Jh41 gh41 P40 => ?_)
      obtain ⟨gh41_0, gh41_1, gh41_2, gh41_3, gh41_4, gh41_5, gh41_6, gh41_7, gh41_8, _⟩ := gh41
      have gh41_0 : (hs_fI h41 97 13).toInt = (hs_fI h 97 13).toInt := gh41_0
      have gh41_1 : (hs_fI h41 97 23).toInt = (hs_fI h 97 23).toInt := gh41_1
      have gh41_2 : (hs_fI h41 97 26).toInt = (hs_fI h 97 26).toInt := gh41_2
      have gh41_3 : (hs_fI h41 97 29).toInt = (hs_fI h 97 29).toInt := gh41_3
      have gh41_4 : (hs_fI h41 97 30).toInt = (hs_fI h 97 30).toInt := gh41_4
      have gh41_5 : hs_aI h41 108 = hs_aI h 108 := gh41_5
      have ugh41_5 : hs_aI h41 108 = (hs_aI h 108) := gh41_5.trans rfl
      have gh41_6 : hs_aI h41 109 = hs_aI h 109 := gh41_6
      have ugh41_6 : hs_aI h41 109 = (hs_aI h 109) := gh41_6.trans rfl
      have gh41_7 : hs_aI h41 110 = hs_aI h 110 := gh41_7
      have ugh41_7 : hs_aI h41 110 = (hs_aI h 110) := gh41_7.trans rfl
      have gh41_8 : hs_aI h41 111 = hs_aI h 111 := gh41_8
      have ugh41_8 : hs_aI h41 111 = (hs_aI h 111) := gh41_8.trans rfl
      have Ih41 := H.1 h41 Jh41
      obtain ⟨rq42, kq42, fq42⟩ := P40
      subst rq42
      have t1kq42 := kq42.1
      have t2kq42 := kq42.2.1
      have t3kq42 := kq42.2.2.1
      obtain ⟨q43, eq43⟩ : ∃ q : Int32, q.toInt = (hs_fI h41 97 14).toInt := ⟨_, rfl⟩
      have aq43 : 0 ≤ (hs_fI h41 97 14).toInt := (Ih41.2.1 97 14 (by decide)).1
      have bq43 : (hs_fI h41 97 14).toInt ≤ 400 := (Ih41.2.1 97 14 (by decide)).2
      obtain ⟨q44, eq44⟩ : ∃ q : Int32, q.toInt = (hs_fI h41 97 15).toInt := ⟨_, rfl⟩
      have aq44 : 0 ≤ (hs_fI h41 97 15).toInt := (Ih41.2.1 97 15 (by decide)).1
      have bq44 : (hs_fI h41 97 15).toInt ≤ 400 := (Ih41.2.1 97 15 (by decide)).2
      obtain ⟨q45, eq45⟩ : ∃ q : Int32, q.toInt = (hs_fI h41 97 16).toInt := ⟨_, rfl⟩
      have aq45 := nm_lo q45
      have bq45 := nm_hi q45
      obtain ⟨q46, eq46⟩ : ∃ q : Int32, q.toInt = (hs_fI h41 97 19).toInt := ⟨_, rfl⟩
      have aq46 : 0 ≤ q46.toInt ∧ q46.toInt ≤ 1 := by omega
      obtain ⟨q47, eq47⟩ : ∃ q : Int64, q.toInt = (hs_fL h41 97 17).toInt := ⟨_, rfl⟩
      have aq47 := nm_llo q47
      have bq47 := nm_lhi q47
      refine hq_p rfl rfl ?_
      refine ty_gB Ih41 rfl rfl (by decide) (by decide) rfl (fun z48 ez48 az48 bz48 => ?_)
      refine ty_zne rfl (fun c49 => ?_) (fun c49 => ?_)
      · replace c49 : 1 ≤ z48.toInt ∧ z48.toInt ≤ 1 := by omega
        have zf : pz op0 ar0 s 1 h41 := by
          show pq ((hs_fI h41 97 19).toInt = 0) (hs_aI h41 108) (hs_aI h41 109) (hs_aI h41 110) (hs_aI h41 111) op0 ar0 s (hs_fI h41 97 23).toInt (hs_fI h41 97 29).toInt (hs_fI h41 97 30).toInt (hs_fI h41 97 14).toInt 1
          rw [ugh41_5, ugh41_6, ugh41_7, ugh41_8, show (hs_fI h41 97 23).toInt = (hs_fI h 97 23).toInt by omega, show (hs_fI h41 97 29).toInt = (hs_fI h 97 29).toInt by omega, show (hs_fI h41 97 30).toInt = (hs_fI h 97 30).toInt by omega]
          exact pq_g hz (fun q => by exfalso; omega) (by omega)
        exact hq_W.ret rfl rfl rfl ⟨Jh41, rfl, kq42, by omega, by omega, by omega, zf, fun q => by exfalso; omega⟩
      · refine hq_p rfl rfl ?_
        refine hq_p rfl rfl ?_
        refine hq_p rfl rfl ?_
        refine ty_callm 0 [(0, 97, 13), (0, 97, 14), (0, 97, 15), (0, 97, 16), (0, 97, 19), (0, 97, 26), (0, 97, 29), (0, 97, 30), (2, 97, 17), (3, 110, 0), (3, 111, 0)] (W := ty_Wps) H Jh41 rfl (fun _ => rfl) rfl rfl rfl (hq_pre_o Ih41.1 (x := 97) (ci := 11) rfl (by decide) rfl rfl rfl rfl) (fun a k w => by unfold ty_We at w; unfold ty_Wps; omega) (by unfold ty_We ty_Wps; omega) (ct_178 (x1 := x2) (x2 := x3) (by omega) (by omega) (by omega)) ⟨⟨rfl, show ¬ ty_We 97 13 by unfold ty_We; omega⟩, ⟨rfl, show ¬ ty_We 97 14 by unfold ty_We; omega⟩, ⟨rfl, show ¬ ty_We 97 15 by unfold ty_We; omega⟩, ⟨rfl, show ¬ ty_We 97 16 by unfold ty_We; omega⟩, ⟨rfl, show ¬ ty_We 97 19 by unfold ty_We; omega⟩, ⟨rfl, show ¬ ty_We 97 26 by unfold ty_We; omega⟩, ⟨rfl, show ¬ ty_We 97 29 by unfold ty_We; omega⟩, ⟨rfl, show ¬ ty_We 97 30 by unfold ty_We; omega⟩, ⟨rfl, show ¬ ty_We 97 17 by unfold ty_We; omega⟩, ⟨rfl, fun k => show ¬ ty_We 110 k by unfold ty_We; omega⟩, ⟨rfl, fun k => show ¬ ty_We 111 k by unfold ty_We; omega⟩, trivial⟩ (fun h52 _ Jh52 gh52 P51 => ?_)
        obtain ⟨gh52_0, gh52_1, gh52_2, gh52_3, gh52_4, gh52_5, gh52_6, gh52_7, gh52_8, gh52_9, gh52_10, _⟩ := gh52
        have gh52_0 : (hs_fI h52 97 13).toInt = (hs_fI h41 97 13).toInt := gh52_0
        have gh52_1 : (hs_fI h52 97 14).toInt = (hs_fI h41 97 14).toInt := gh52_1
        have gh52_2 : (hs_fI h52 97 15).toInt = (hs_fI h41 97 15).toInt := gh52_2
        have gh52_3 : (hs_fI h52 97 16).toInt = (hs_fI h41 97 16).toInt := gh52_3
        have gh52_4 : (hs_fI h52 97 19).toInt = (hs_fI h41 97 19).toInt := gh52_4
        have gh52_5 : (hs_fI h52 97 26).toInt = (hs_fI h41 97 26).toInt := gh52_5
        have gh52_6 : (hs_fI h52 97 29).toInt = (hs_fI h41 97 29).toInt := gh52_6
        have gh52_7 : (hs_fI h52 97 30).toInt = (hs_fI h41 97 30).toInt := gh52_7
        have gh52_8 : (hs_fL h52 97 17).toInt = (hs_fL h41 97 17).toInt := gh52_8
        have gh52_9 : hs_aI h52 110 = hs_aI h41 110 := gh52_9
        have ugh52_9 : hs_aI h52 110 = (hs_aI h 110) := gh52_9.trans ugh41_7
        have gh52_10 : hs_aI h52 111 = hs_aI h41 111 := gh52_10
        have ugh52_10 : hs_aI h52 111 = (hs_aI h 111) := gh52_10.trans ugh41_8
        have Ih52 := H.1 h52 Jh52
        obtain ⟨rq53, nq53, xq53, yq53⟩ := P51
        subst rq53
        obtain ⟨q54, eq54⟩ : ∃ q : Int32, q.toInt = (hs_fI h52 97 23).toInt := ⟨_, rfl⟩
        have aq54 : 0 ≤ (hs_fI h52 97 23).toInt := (Ih52.2.1 97 23 (by decide)).1
        have bq54 : (hs_fI h52 97 23).toInt ≤ 400 := (Ih52.2.1 97 23 (by decide)).2
        have wq53108 : hs_aI h52 108 = (upd (hs_aI h 108) (hs_fI h 97 23).toInt.toNat x2) := by rw [xq53, ugh41_5, show (hs_fI h41 97 23).toInt.toNat = (hs_fI h 97 23).toInt.toNat by omega]
        have wq53109 : hs_aI h52 109 = (upd (hs_aI h 109) (hs_fI h 97 23).toInt.toNat x3) := by rw [yq53, ugh41_6, show (hs_fI h41 97 23).toInt.toNat = (hs_fI h 97 23).toInt.toNat by omega]
        refine hq_p rfl rfl ?_
        refine hq_p rfl rfl ?_
        refine ty_gI Ih52 rfl rfl (by decide) (by decide) rfl rfl (fun z55 ez55 az55 bz55 => ?_)
        refine hq_p rfl rfl (ty_ge (n := 1) nk_i1 (fun z56 ez56 => ?_))
        refine hq_p rfl rfl (ty_ge (n := z55.toInt + z56.toInt) (nm_add (by omega) (by omega)) (fun z57 ez57 => ?_))
        refine ty_pI (W := ty_Wps) H Jh52 rfl rfl (by decide) rfl rfl (by unfold ty_Wps; omega) rfl (by omega) (by omega) (fun h58 eh58 Jh58 => ?_)
        have wh58 : (hs_fI h58 97 26).toInt = z57.toInt := by rw [eh58]; exact congrArg Int32.toInt (ty_fI_eq Ih52.1 rfl (by decide) rfl)
        have vh58_110 : hs_aI h58 110 = (hs_aI h 110) := by rw [eh58]; exact (hs_aI_ne (by decide)).trans ugh52_9
        have vh58_111 : hs_aI h58 111 = (hs_aI h 111) := by rw [eh58]; exact (hs_aI_ne (by decide)).trans ugh52_10
        have vh58_108 : hs_aI h58 108 = (upd (hs_aI h 108) (hs_fI h 97 23).toInt.toNat x2) := by rw [eh58]; exact (hs_aI_ne (by decide)).trans wq53108
        have vh58_109 : hs_aI h58 109 = (upd (hs_aI h 109) (hs_fI h 97 23).toInt.toNat x3) := by rw [eh58]; exact (hs_aI_ne (by decide)).trans wq53109
        have Ih58 := H.1 h58 Jh58
        have r59 : (hs_fI h58 97 13).toInt = (hs_fI h52 97 13).toInt := by rw [eh58]; exact congrArg Int32.toInt (ty_fI_sF (by decide))
        have r60 : (hs_fI h58 97 14).toInt = (hs_fI h52 97 14).toInt := by rw [eh58]; exact congrArg Int32.toInt (ty_fI_sF (by decide))
        have r61 : (hs_fI h58 97 15).toInt = (hs_fI h52 97 15).toInt := by rw [eh58]; exact congrArg Int32.toInt (ty_fI_sF (by decide))
        have r62 : (hs_fI h58 97 16).toInt = (hs_fI h52 97 16).toInt := by rw [eh58]; exact congrArg Int32.toInt (ty_fI_sF (by decide))
        have r63 : (hs_fI h58 97 19).toInt = (hs_fI h52 97 19).toInt := by rw [eh58]; exact congrArg Int32.toInt (ty_fI_sF (by decide))
        have r64 : (hs_fI h58 97 23).toInt = (hs_fI h52 97 23).toInt := by rw [eh58]; exact congrArg Int32.toInt (ty_fI_sF (by decide))
        have r65 : (hs_fI h58 97 29).toInt = (hs_fI h52 97 29).toInt := by rw [eh58]; exact congrArg Int32.toInt (ty_fI_sF (by decide))
        have r66 : (hs_fI h58 97 30).toInt = (hs_fI h52 97 30).toInt := by rw [eh58]; exact congrArg Int32.toInt (ty_fI_sF (by decide))
        have r67 : (hs_fL h58 97 17).toInt = (hs_fL h52 97 17).toInt := by rw [eh58]; exact congrArg Int64.toInt (ty_fL_sF (by decide))
        have k68 : tk_ok h58 := tk_same kq42 (by omega) (by omega) (by omega) (by omega) (by omega)
        have zf : pz op0 ar0 s 1 h58 := by
          show pq ((hs_fI h58 97 19).toInt = 0) (hs_aI h58 108) (hs_aI h58 109) (hs_aI h58 110) (hs_aI h58 111) op0 ar0 s (hs_fI h58 97 23).toInt (hs_fI h58 97 29).toInt (hs_fI h58 97 30).toInt (hs_fI h58 97 14).toInt 1
          rw [vh58_108, vh58_109, vh58_110, vh58_111, show (hs_fI h58 97 23).toInt = (hs_fI h 97 23).toInt + 1 by omega, show (hs_fI h58 97 29).toInt = (hs_fI h 97 29).toInt by omega, show (hs_fI h58 97 30).toInt = (hs_fI h 97 30).toInt by omega]
          exact pq_leaf (pq_g (g' := (hs_fI h58 97 19).toInt = 0) hz (fun _ => ⟨hb, rfl⟩) (Int.le_refl _)) (by omega) (by omega) (by omega)
        exact hq_W.ret rfl rfl rfl ⟨Jh58, rfl, k68, by omega, by omega, by omega, zf, fun _ => ⟨by omega, vh58_108⟩⟩
theorem ct_176 {X : pm_X} {d : Nat} {h : pm_H} {x1 : Int64} {x2 : Int64} (hd : 4 ≤ d)  (hx0 : 0 ≤ x1.toInt) (hx1 : x2.toInt ≤ 1000) (hb : (hs_fI h 97 19).toInt = 0) (hk : tk_ok h) : ty_M X ty_Wo d 176 [.ref 97, .long x1, .long x2] h (fun h1 v => (∃ z : Int32, v = some (.int z) ∧ ((hs_fI h1 97 19).toInt = 0 → x1.toInt ≤ z.toInt ∧ z.toInt ≤ x2.toInt)) ∧ tk_ok h1 ∧ (hs_fI h 97 14).toInt ≤ (hs_fI h1 97 14).toInt ∧ ((hs_fI h1 97 19).toInt = 0 ∨ (hs_fI h1 97 19).toInt = 1)) := by
  intro J H hJ
  obtain ⟨d, rfl⟩ : ∃ e, d = e + 1 := ⟨d - 1, by omega⟩
  have I := H.1 h hJ
  have ax1 := nm_llo x1
  have bx1 := nm_lhi x1
  have ax2 := nm_llo x2
  have bx2 := nm_lhi x2
  refine hq_M.enter (q := (⟨"TrainBearersModel", "number", "(JJ)I"⟩, _, 6, some .int, 11, 3, pm_c176)) rfl rfl ?_
  show hq_W X d 11 false (some .int) pm_c176 (0, [some (.ref 97), some (.long x1), none, some (.long x2), none, none], [], h) (fun h' v => J h' ∧ (fun h1 v => (∃ z : Int32, v = some (.int z) ∧ ((hs_fI h1 97 19).toInt = 0 → x1.toInt ≤ z.toInt ∧ z.toInt ≤ x2.toInt)) ∧ tk_ok h1 ∧ (hs_fI h 97 14).toInt ≤ (hs_fI h1 97 14).toInt ∧ ((hs_fI h1 97 19).toInt = 0 ∨ (hs_fI h1 97 19).toInt = 1)) h' v)
  obtain ⟨q1, eq1⟩ : ∃ q : Int32, q.toInt = (hs_fI h 97 13).toInt := ⟨_, rfl⟩
  have aq1 : 0 ≤ (hs_fI h 97 13).toInt := (I.2.1 97 13 (by decide)).1
  have bq1 : (hs_fI h 97 13).toInt ≤ 400 := (I.2.1 97 13 (by decide)).2
  obtain ⟨q2, eq2⟩ : ∃ q : Int32, q.toInt = (hs_fI h 97 14).toInt := ⟨_, rfl⟩
  have aq2 : 0 ≤ (hs_fI h 97 14).toInt := (I.2.1 97 14 (by decide)).1
  have bq2 : (hs_fI h 97 14).toInt ≤ 400 := (I.2.1 97 14 (by decide)).2
  obtain ⟨q3, eq3⟩ : ∃ q : Int32, q.toInt = (hs_fI h 97 15).toInt := ⟨_, rfl⟩
  have aq3 : 0 ≤ (hs_fI h 97 15).toInt := (I.2.1 97 15 (by decide)).1
  have bq3 : (hs_fI h 97 15).toInt ≤ 400 := (I.2.1 97 15 (by decide)).2
  obtain ⟨q4, eq4⟩ : ∃ q : Int32, q.toInt = (hs_fI h 97 16).toInt := ⟨_, rfl⟩
  have aq4 := nm_lo q4
  have bq4 := nm_hi q4
  obtain ⟨q5, eq5⟩ : ∃ q : Int32, q.toInt = (hs_fI h 97 19).toInt := ⟨_, rfl⟩
  have aq5 : 0 ≤ q5.toInt ∧ q5.toInt ≤ 1 := by omega
  obtain ⟨q6, eq6⟩ : ∃ q : Int32, q.toInt = (hs_fI h 97 23).toInt := ⟨_, rfl⟩
  have aq6 : 0 ≤ (hs_fI h 97 23).toInt := (I.2.1 97 23 (by decide)).1
  have bq6 : (hs_fI h 97 23).toInt ≤ 400 := (I.2.1 97 23 (by decide)).2
  obtain ⟨q7, eq7⟩ : ∃ q : Int32, q.toInt = (hs_fI h 97 26).toInt := ⟨_, rfl⟩
  have aq7 : 0 ≤ (hs_fI h 97 26).toInt := (I.2.1 97 26 (by decide)).1
  have bq7 : (hs_fI h 97 26).toInt ≤ 50 := (I.2.1 97 26 (by decide)).2
  obtain ⟨q8, eq8⟩ : ∃ q : Int32, q.toInt = (hs_fI h 97 29).toInt := ⟨_, rfl⟩
  have aq8 : 0 ≤ (hs_fI h 97 29).toInt := (I.2.1 97 29 (by decide)).1
  have bq8 : (hs_fI h 97 29).toInt ≤ 400 := (I.2.1 97 29 (by decide)).2
  obtain ⟨q9, eq9⟩ : ∃ q : Int32, q.toInt = (hs_fI h 97 30).toInt := ⟨_, rfl⟩
  have aq9 : 0 ≤ (hs_fI h 97 30).toInt := (I.2.1 97 30 (by decide)).1
  have bq9 : (hs_fI h 97 30).toInt ≤ 8 := (I.2.1 97 30 (by decide)).2
  obtain ⟨q10, eq10⟩ : ∃ q : Int64, q.toInt = (hs_fL h 97 17).toInt := ⟨_, rfl⟩
  have aq10 := nm_llo q10
  have bq10 := nm_lhi q10
  have t1 := hk.1
  have t2 := hk.2.1
  have t3 := hk.2.2.1
  refine hq_p rfl rfl ?_
  refine ty_gL I rfl rfl (by decide) (by decide) rfl rfl (fun z11 ez11 az11 bz11 => ?_)
  refine hq_p rfl rfl (ty_ge rfl (fun z12 ez12 => ?_))
  have kz12 : 0 ≤ z11.toInt → z11.toInt ≤ 1000 → z12.toInt = z11.toInt := fun _ _ => by rw [ez12]; exact nm_l2i (by omega) (by omega)
  clear ez12
  have az12 := nm_lo z12
  have bz12 := nm_hi z12
  refine hq_p (ls' := [some (.ref 97), some (.long x1), none, some (.long x2), none, some (.int z12)]) rfl rfl ?_
  refine hq_p rfl rfl ?_
  refine hq_p rfl rfl ?_
  refine ty_gI I rfl rfl (by decide) (by decide) rfl rfl (fun z13 ez13 az13 bz13 => ?_)
  refine hq_p rfl rfl (ty_ge (n := 2) nk_i2 (fun z14 ez14 => ?_))
  refine ty_ine rfl (fun c15 => ?_) (fun c15 => ?_)
  · clear c15
    refine hq_p rfl rfl (ty_ge (n := 0) nk_i0 (fun z16 ez16 => ?_))
    refine ty_callm 0 [(0, 97, 13), (0, 97, 23), (0, 97, 26), (0, 97, 29), (0, 97, 30), (3, 108, 0), (3, 109, 0), (3, 110, 0), (3, 111, 0)] (W := ty_Wo) H hJ rfl (fun _ => rfl) rfl rfl rfl (hq_pre_o I.1 (x := 97) (ci := 11) rfl (by decide) rfl rfl rfl rfl) (fun _ _ w => w) (fun _ w => w) (ct_175w (x1 := z16) (by omega) (by omega) (by omega) hk) ⟨⟨rfl, show ¬ ty_Wo 97 13 by unfold ty_Wo; omega⟩, ⟨rfl, show ¬ ty_Wo 97 23 by unfold ty_Wo; omega⟩, ⟨rfl, show ¬ ty_Wo 97 26 by unfold ty_Wo; omega⟩, ⟨rfl, show ¬ ty_Wo 97 29 by unfold ty_Wo; omega⟩, ⟨rfl, show ¬ ty_Wo 97 30 by unfold ty_Wo; omega⟩, ⟨rfl, fun k => show ¬ ty_Wo 108 k by unfold ty_Wo; omega⟩, ⟨rfl, fun k => show ¬ ty_Wo 109 k by unfold ty_Wo; omega⟩, ⟨rfl, fun k => show ¬ ty_Wo 110 k by unfold ty_Wo; omega⟩, ⟨rfl, fun k => show ¬ ty_Wo 111 k by unfold ty_Wo; omega⟩, trivial⟩ (fun h18 _ Jh18 gh18 P17 => ?_)
    obtain ⟨gh18_0, gh18_1, gh18_2, gh18_3, gh18_4, gh18_5, gh18_6, gh18_7, gh18_8, _⟩ := gh18
    have gh18_0 : (hs_fI h18 97 13).toInt = (hs_fI h 97 13).toInt := gh18_0
    have gh18_1 : (hs_fI h18 97 23).toInt = (hs_fI h 97 23).toInt := gh18_1
    have gh18_2 : (hs_fI h18 97 26).toInt = (hs_fI h 97 26).toInt := gh18_2
    have gh18_3 : (hs_fI h18 97 29).toInt = (hs_fI h 97 29).toInt := gh18_3
    have gh18_4 : (hs_fI h18 97 30).toInt = (hs_fI h 97 30).toInt := gh18_4
    have gh18_5 : hs_aI h18 108 = hs_aI h 108 := gh18_5
    have ugh18_5 : hs_aI h18 108 = (hs_aI h 108) := gh18_5.trans rfl
    have gh18_6 : hs_aI h18 109 = hs_aI h 109 := gh18_6
    have ugh18_6 : hs_aI h18 109 = (hs_aI h 109) := gh18_6.trans rfl
    have gh18_7 : hs_aI h18 110 = hs_aI h 110 := gh18_7
    have ugh18_7 : hs_aI h18 110 = (hs_aI h 110) := gh18_7.trans rfl
    have gh18_8 : hs_aI h18 111 = hs_aI h 111 := gh18_8
    have ugh18_8 : hs_aI h18 111 = (hs_aI h 111) := gh18_8.trans rfl
    have Ih18 := H.1 h18 Jh18
    obtain ⟨rq19, kq19, fq19⟩ := P17
    subst rq19
    have t1kq19 := kq19.1
    have t2kq19 := kq19.2.1
    have t3kq19 := kq19.2.2.1
    obtain ⟨q20, eq20⟩ : ∃ q : Int32, q.toInt = (hs_fI h18 97 14).toInt := ⟨_, rfl⟩
    have aq20 : 0 ≤ (hs_fI h18 97 14).toInt := (Ih18.2.1 97 14 (by decide)).1
    have bq20 : (hs_fI h18 97 14).toInt ≤ 400 := (Ih18.2.1 97 14 (by decide)).2
    obtain ⟨q21, eq21⟩ : ∃ q : Int32, q.toInt = (hs_fI h18 97 15).toInt := ⟨_, rfl⟩
    have aq21 : 0 ≤ (hs_fI h18 97 15).toInt := (Ih18.2.1 97 15 (by decide)).1
    have bq21 : (hs_fI h18 97 15).toInt ≤ 400 := (Ih18.2.1 97 15 (by decide)).2
    obtain ⟨q22, eq22⟩ : ∃ q : Int32, q.toInt = (hs_fI h18 97 16).toInt := ⟨_, rfl⟩
    have aq22 := nm_lo q22
    have bq22 := nm_hi q22
    obtain ⟨q23, eq23⟩ : ∃ q : Int32, q.toInt = (hs_fI h18 97 19).toInt := ⟨_, rfl⟩
    have aq23 : 0 ≤ q23.toInt ∧ q23.toInt ≤ 1 := by omega
    obtain ⟨q24, eq24⟩ : ∃ q : Int64, q.toInt = (hs_fL h18 97 17).toInt := ⟨_, rfl⟩
    have aq24 := nm_llo q24
    have bq24 := nm_lhi q24
    refine hq_p rfl rfl ?_
    exact hq_W.ret rfl rfl rfl ⟨Jh18, ⟨_, rfl, fun q => by exfalso; omega⟩, kq19, by omega, by omega⟩
  · refine hq_p rfl rfl ?_
    refine ty_gL I rfl rfl (by decide) (by decide) rfl rfl (fun z26 ez26 az26 bz26 => ?_)
    refine hq_p rfl rfl ?_
    refine hq_p rfl rfl ?_
    refine ty_callp 1 I rfl (fun _ => rfl) rfl rfl rfl rfl (ct_136 (x0 := z26) (x1 := x1) (x2 := x2) (by omega)) (fun _ P27 => ?_)
    obtain ⟨z28, rfl, az28, bz28, iz28⟩ := P27
    refine ty_zeq rfl (fun c29 => ?_) (fun c29 => ?_)
    · clear iz28
      refine hq_p rfl rfl (ty_ge (n := 0) nk_i0 (fun z30 ez30 => ?_))
      refine ty_callm 0 [(0, 97, 13), (0, 97, 23), (0, 97, 26), (0, 97, 29), (0, 97, 30), (3, 108, 0), (3, 109, 0), (3, 110, 0), (3, 111, 0)] (W := ty_Wo) H hJ rfl (fun _ => rfl) rfl rfl rfl (hq_pre_o I.1 (x := 97) (ci := 11) rfl (by decide) rfl rfl rfl rfl) (fun _ _ w => w) (fun _ w => w) (ct_175w (x1 := z30) (by omega) (by omega) (by omega) hk) ⟨⟨rfl, show ¬ ty_Wo 97 13 by unfold ty_Wo; omega⟩, ⟨rfl, show ¬ ty_Wo 97 23 by unfold ty_Wo; omega⟩, ⟨rfl, show ¬ ty_Wo 97 26 by unfold ty_Wo; omega⟩, ⟨rfl, show ¬ ty_Wo 97 29 by unfold ty_Wo; omega⟩, ⟨rfl, show ¬ ty_Wo 97 30 by unfold ty_Wo; omega⟩, ⟨rfl, fun k => show ¬ ty_Wo 108 k by unfold ty_Wo; omega⟩, ⟨rfl, fun k => show ¬ ty_Wo 109 k by unfold ty_Wo; omega⟩, ⟨rfl, fun k => show ¬ ty_Wo 110 k by unfold ty_Wo; omega⟩, ⟨rfl, fun k => show ¬ ty_Wo 111 k by unfold ty_Wo; omega⟩, trivial⟩ (fun h32 _ Jh32 gh32 P31 => ?_)
      obtain ⟨gh32_0, gh32_1, gh32_2, gh32_3, gh32_4, gh32_5, gh32_6, gh32_7, gh32_8, _⟩ := gh32
      have gh32_0 : (hs_fI h32 97 13).toInt = (hs_fI h 97 13).toInt := gh32_0
      have gh32_1 : (hs_fI h32 97 23).toInt = (hs_fI h 97 23).toInt := gh32_1
      have gh32_2 : (hs_fI h32 97 26).toInt = (hs_fI h 97 26).toInt := gh32_2
      have gh32_3 : (hs_fI h32 97 29).toInt = (hs_fI h 97 29).toInt := gh32_3
      have gh32_4 : (hs_fI h32 97 30).toInt = (hs_fI h 97 30).toInt := gh32_4
      have gh32_5 : hs_aI h32 108 = hs_aI h 108 := gh32_5
      have ugh32_5 : hs_aI h32 108 = (hs_aI h 108) := gh32_5.trans rfl
      have gh32_6 : hs_aI h32 109 = hs_aI h 109 := gh32_6
      have ugh32_6 : hs_aI h32 109 = (hs_aI h 109) := gh32_6.trans rfl
      have gh32_7 : hs_aI h32 110 = hs_aI h 110 := gh32_7
      have ugh32_7 : hs_aI h32 110 = (hs_aI h 110) := gh32_7.trans rfl
      have gh32_8 : hs_aI h32 111 = hs_aI h 111 := gh32_8
      have ugh32_8 : hs_aI h32 111 = (hs_aI h 111) := gh32_8.trans rfl
      have Ih32 := H.1 h32 Jh32
      obtain ⟨rq33, kq33, fq33⟩ := P31
      subst rq33
      have t1kq33 := kq33.1
      have t2kq33 := kq33.2.1
      have t3kq33 := kq33.2.2.1
      obtain ⟨q34, eq34⟩ : ∃ q : Int32, q.toInt = (hs_fI h32 97 14).toInt := ⟨_, rfl⟩
      have aq34 : 0 ≤ (hs_fI h32 97 14).toInt := (Ih32.2.1 97 14 (by decide)).1
      have bq34 : (hs_fI h32 97 14).toInt ≤ 400 := (Ih32.2.1 97 14 (by decide)).2
      obtain ⟨q35, eq35⟩ : ∃ q : Int32, q.toInt = (hs_fI h32 97 15).toInt := ⟨_, rfl⟩
      have aq35 : 0 ≤ (hs_fI h32 97 15).toInt := (Ih32.2.1 97 15 (by decide)).1
      have bq35 : (hs_fI h32 97 15).toInt ≤ 400 := (Ih32.2.1 97 15 (by decide)).2
      obtain ⟨q36, eq36⟩ : ∃ q : Int32, q.toInt = (hs_fI h32 97 16).toInt := ⟨_, rfl⟩
      have aq36 := nm_lo q36
      have bq36 := nm_hi q36
      obtain ⟨q37, eq37⟩ : ∃ q : Int32, q.toInt = (hs_fI h32 97 19).toInt := ⟨_, rfl⟩
      have aq37 : 0 ≤ q37.toInt ∧ q37.toInt ≤ 1 := by omega
      obtain ⟨q38, eq38⟩ : ∃ q : Int64, q.toInt = (hs_fL h32 97 17).toInt := ⟨_, rfl⟩
      have aq38 := nm_llo q38
      have bq38 := nm_lhi q38
      refine hq_p rfl rfl ?_
      exact hq_W.ret rfl rfl rfl ⟨Jh32, ⟨_, rfl, fun q => by exfalso; omega⟩, kq33, by omega, by omega⟩
    · replace c29 : 1 ≤ z28.toInt ∧ z28.toInt ≤ 1 := by omega
      have f40 := iz28 (by omega)
      clear iz28
      refine hq_p rfl rfl (ty_ge (n := 1) nk_i1 (fun z41 ez41 => ?_))
      refine hq_p rfl rfl ?_
      refine ty_callm 0 [(0, 97, 13), (0, 97, 23), (0, 97, 26), (0, 97, 29), (0, 97, 30), (3, 108, 0), (3, 109, 0), (3, 110, 0), (3, 111, 0)] (W := ty_Wo) H hJ rfl (fun _ => rfl) rfl rfl rfl (hq_pre_o I.1 (x := 97) (ci := 11) rfl (by decide) rfl rfl rfl rfl) (fun _ _ w => w) (fun _ w => w) (ct_175w (x1 := z41) (by omega) (by omega) (by omega) hk) ⟨⟨rfl, show ¬ ty_Wo 97 13 by unfold ty_Wo; omega⟩, ⟨rfl, show ¬ ty_Wo 97 23 by unfold ty_Wo; omega⟩, ⟨rfl, show ¬ ty_Wo 97 26 by unfold ty_Wo; omega⟩, ⟨rfl, show ¬ ty_Wo 97 29 by unfold ty_Wo; omega⟩, ⟨rfl, show ¬ ty_Wo 97 30 by unfold ty_Wo; omega⟩, ⟨rfl, fun k => show ¬ ty_Wo 108 k by unfold ty_Wo; omega⟩, ⟨rfl, fun k => show ¬ ty_Wo 109 k by unfold ty_Wo; omega⟩, ⟨rfl, fun k => show ¬ ty_Wo 110 k by unfold ty_Wo; omega⟩, ⟨rfl, fun k => show ¬ ty_Wo 111 k by unfold ty_Wo; omega⟩, trivial⟩ (fun h43 _ Jh43 gh43 P42 => ?_)
      obtain ⟨gh43_0, gh43_1, gh43_2, gh43_3, gh43_4, gh43_5, gh43_6, gh43_7, gh43_8, _⟩ := gh43
      have gh43_0 : (hs_fI h43 97 13).toInt = (hs_fI h 97 13).toInt := gh43_0
      have gh43_1 : (hs_fI h43 97 23).toInt = (hs_fI h 97 23).toInt := gh43_1
      have gh43_2 : (hs_fI h43 97 26).toInt = (hs_fI h 97 26).toInt := gh43_2
      have gh43_3 : (hs_fI h43 97 29).toInt = (hs_fI h 97 29).toInt := gh43_3
      have gh43_4 : (hs_fI h43 97 30).toInt = (hs_fI h 97 30).toInt := gh43_4
      have gh43_5 : hs_aI h43 108 = hs_aI h 108 := gh43_5
      have ugh43_5 : hs_aI h43 108 = (hs_aI h 108) := gh43_5.trans rfl
      have gh43_6 : hs_aI h43 109 = hs_aI h 109 := gh43_6
      have ugh43_6 : hs_aI h43 109 = (hs_aI h 109) := gh43_6.trans rfl
      have gh43_7 : hs_aI h43 110 = hs_aI h 110 := gh43_7
      have ugh43_7 : hs_aI h43 110 = (hs_aI h 110) := gh43_7.trans rfl
      have gh43_8 : hs_aI h43 111 = hs_aI h 111 := gh43_8
      have ugh43_8 : hs_aI h43 111 = (hs_aI h 111) := gh43_8.trans rfl
      have Ih43 := H.1 h43 Jh43
      obtain ⟨rq44, kq44, fq44⟩ := P42
      subst rq44
      have t1kq44 := kq44.1
      have t2kq44 := kq44.2.1
      have t3kq44 := kq44.2.2.1
      obtain ⟨q45, eq45⟩ : ∃ q : Int32, q.toInt = (hs_fI h43 97 14).toInt := ⟨_, rfl⟩
      have aq45 : 0 ≤ (hs_fI h43 97 14).toInt := (Ih43.2.1 97 14 (by decide)).1
      have bq45 : (hs_fI h43 97 14).toInt ≤ 400 := (Ih43.2.1 97 14 (by decide)).2
      obtain ⟨q46, eq46⟩ : ∃ q : Int32, q.toInt = (hs_fI h43 97 15).toInt := ⟨_, rfl⟩
      have aq46 : 0 ≤ (hs_fI h43 97 15).toInt := (Ih43.2.1 97 15 (by decide)).1
      have bq46 : (hs_fI h43 97 15).toInt ≤ 400 := (Ih43.2.1 97 15 (by decide)).2
      obtain ⟨q47, eq47⟩ : ∃ q : Int32, q.toInt = (hs_fI h43 97 16).toInt := ⟨_, rfl⟩
      have aq47 := nm_lo q47
      have bq47 := nm_hi q47
      obtain ⟨q48, eq48⟩ : ∃ q : Int32, q.toInt = (hs_fI h43 97 19).toInt := ⟨_, rfl⟩
      have aq48 : 0 ≤ q48.toInt ∧ q48.toInt ≤ 1 := by omega
      obtain ⟨q49, eq49⟩ : ∃ q : Int64, q.toInt = (hs_fL h43 97 17).toInt := ⟨_, rfl⟩
      have aq49 := nm_llo q49
      have bq49 := nm_lhi q49
      refine hq_p rfl rfl ?_
      exact hq_W.ret rfl rfl rfl ⟨Jh43, ⟨_, rfl, fun q => by omega⟩, kq44, by omega, by omega⟩
theorem ct_184w {X : pm_X} {d : Nat} {h : pm_H}  (hd : 2 ≤ d)  : ty_M X ty_W0 d 184 [.ref 97] h (fun _ v => ∃ z : Int32, v = some (.int z) ∧ -1 ≤ z.toInt ∧ z.toInt ≤ 10 ∧ z.toInt ≠ 0 ∧ (z.toInt ≠ -1 → (hs_fI h 97 16).toInt = 1)) := by
  intro J H hJ
  obtain ⟨d, rfl⟩ : ∃ e, d = e + 1 := ⟨d - 1, by omega⟩
  have I := H.1 h hJ
  refine hq_M.enter (q := (⟨"TrainBearersModel", "partAt", "()I"⟩, _, 3, some .int, 11, 1, pm_c184)) rfl rfl ?_
  show hq_W X d 11 false (some .int) pm_c184 (0, [some (.ref 97), none, none], [], h) (fun h' v => J h' ∧ (fun _ v => ∃ z : Int32, v = some (.int z) ∧ -1 ≤ z.toInt ∧ z.toInt ≤ 10 ∧ z.toInt ≠ 0 ∧ (z.toInt ≠ -1 → (hs_fI h 97 16).toInt = 1)) h' v)
  refine hq_p rfl rfl (ty_ge (n := -1) nk_im1 (fun z1 ez1 => ?_))
  refine hq_p (ls' := [some (.ref 97), some (.int z1), none]) rfl rfl ?_
  refine hq_p rfl rfl (ty_ge (n := 0) nk_i0 (fun z2 ez2 => ?_))
  refine hq_p (ls' := [some (.ref 97), some (.int z1), some (.int z2)]) rfl rfl ?_
  have L4_n29 : ∀ n29 : Nat, ∀ (y25 : Int32) (y26 : Int32), (10 - y26.toInt).toNat = n29 → -1 ≤ y25.toInt → y25.toInt ≤ 10 → 0 ≤ y26.toInt → y26.toInt ≤ 10 → (y25.toInt = -1 ∨ 1 ≤ y25.toInt) → (y25.toInt ≠ -1 → (hs_fI h 97 16).toInt = 1) → hq_W X d 11 false (some .int) pm_c184 (4, [some (.ref 97), some (.int y25), some (.int y26)], [], h) (fun h' v => J h' ∧ (fun _ v => ∃ z : Int32, v = some (.int z) ∧ -1 ≤ z.toInt ∧ z.toInt ≤ 10 ∧ z.toInt ≠ 0 ∧ (z.toInt ≠ -1 → (hs_fI h 97 16).toInt = 1)) h' v) := by
    intro n29
    induction n29 using Nat.strongRecOn with
    | ind n29 ihn29 =>
      intro y25 y26 mn29 ay25 by25 ay26 by26 x0n29 x1n29
      refine hq_p rfl rfl ?_
      refine hq_p rfl rfl (ty_ge (n := 10) nk_b10 (fun z30 ez30 => ?_))
      refine ty_ige rfl (fun c31 => ?_) (fun c31 => ?_)
      · refine hq_p rfl rfl ?_
        exact hq_W.ret rfl rfl rfl ⟨hJ, _, rfl, by omega, by omega, by omega, fun q => by omega⟩
      · refine hq_p rfl rfl ?_
        refine hq_p rfl rfl ?_
        refine hq_gR I.1 rfl rfl (by decide) (by decide) rfl ?_
        refine hq_p rfl rfl ?_
        refine ty_lL I rfl rfl (by decide) (by omega) (by omega) (fun z32 ez32 az32 bz32 => ?_)
        refine ty_callp 0 I rfl (fun _ => rfl) rfl rfl rfl (hq_pre_o I.1 (x := 97) (ci := 11) rfl (by decide) rfl rfl rfl rfl) (ct_173w (x1 := z32) (by omega)) (fun _ P33 => ?_)
        obtain ⟨z34, rfl, az34, bz34, iz34⟩ := P33
        refine ty_zeq rfl (fun c35 => ?_) (fun c35 => ?_)
        · refine hq_p rfl rfl ?_
          refine hq_p (ls' := [some (.ref 97), some (.int y25), some (.int y26)]) rfl rfl ?_
          refine ty_inc (ls' := fun z36 => [some (.ref 97), some (.int y25), some (.int z36)]) rfl rfl (fun _ => rfl) (nm_addc nk_i1 (by omega) (by omega)) (fun z36 ez36 => ?_)
          refine hq_p rfl rfl ?_
          exact ihn29 ((10 - z36.toInt).toNat) (by omega) y25 z36 rfl (by omega) (by omega) (by omega) (by omega) (by omega) (by omega)
        · replace c35 : 1 ≤ z34.toInt ∧ z34.toInt ≤ 1 := by omega
          refine hq_p rfl rfl ?_
          refine hq_p rfl rfl (ty_ge (n := 1) nk_i1 (fun z37 ez37 => ?_))
          refine hq_p rfl rfl (ty_ge (n := y26.toInt + z37.toInt) (nm_add (by omega) (by omega)) (fun z38 ez38 => ?_))
          refine hq_p rfl rfl ?_
          refine hq_p (ls' := [some (.ref 97), some (.int z38), some (.int y26)]) rfl rfl ?_
          refine ty_inc (ls' := fun z39 => [some (.ref 97), some (.int z38), some (.int z39)]) rfl rfl (fun _ => rfl) (nm_addc nk_i1 (by omega) (by omega)) (fun z39 ez39 => ?_)
          refine hq_p rfl rfl ?_
          exact ihn29 ((10 - z39.toInt).toNat) (by omega) z38 z39 rfl (by omega) (by omega) (by omega) (by omega) (by omega) (by omega)
  exact L4_n29 _ z1 z2 rfl (by omega) (by omega) (by omega) (by omega) (by omega) (by omega)
theorem ct_185w {X : pm_X} {d : Nat} {h : pm_H}  (hd : 2 ≤ d)  : ty_M X ty_W0 d 185 [.ref 97] h (fun _ v => ∃ z : Int32, v = some (.int z) ∧ -1 ≤ z.toInt ∧ z.toInt ≤ 7 ∧ z.toInt ≠ 0 ∧ (z.toInt ≠ -1 → (hs_fI h 97 16).toInt = 1)) := by
  intro J H hJ
  obtain ⟨d, rfl⟩ : ∃ e, d = e + 1 := ⟨d - 1, by omega⟩
  have I := H.1 h hJ
  refine hq_M.enter (q := (⟨"TrainBearersModel", "orderPartAt", "()I"⟩, _, 3, some .int, 11, 1, pm_c185)) rfl rfl ?_
  show hq_W X d 11 false (some .int) pm_c185 (0, [some (.ref 97), none, none], [], h) (fun h' v => J h' ∧ (fun _ v => ∃ z : Int32, v = some (.int z) ∧ -1 ≤ z.toInt ∧ z.toInt ≤ 7 ∧ z.toInt ≠ 0 ∧ (z.toInt ≠ -1 → (hs_fI h 97 16).toInt = 1)) h' v)
  refine hq_p rfl rfl (ty_ge (n := -1) nk_im1 (fun z1 ez1 => ?_))
  refine hq_p (ls' := [some (.ref 97), some (.int z1), none]) rfl rfl ?_
  refine hq_p rfl rfl (ty_ge (n := 0) nk_i0 (fun z2 ez2 => ?_))
  refine hq_p (ls' := [some (.ref 97), some (.int z1), some (.int z2)]) rfl rfl ?_
  have L4_n23 : ∀ n23 : Nat, ∀ (y19 : Int32) (y20 : Int32), (7 - y20.toInt).toNat = n23 → -1 ≤ y19.toInt → y19.toInt ≤ 7 → 0 ≤ y20.toInt → y20.toInt ≤ 7 → (y19.toInt = -1 ∨ 1 ≤ y19.toInt) → (y19.toInt ≠ -1 → (hs_fI h 97 16).toInt = 1) → hq_W X d 11 false (some .int) pm_c185 (4, [some (.ref 97), some (.int y19), some (.int y20)], [], h) (fun h' v => J h' ∧ (fun _ v => ∃ z : Int32, v = some (.int z) ∧ -1 ≤ z.toInt ∧ z.toInt ≤ 7 ∧ z.toInt ≠ 0 ∧ (z.toInt ≠ -1 → (hs_fI h 97 16).toInt = 1)) h' v) := by
    intro n23
    induction n23 using Nat.strongRecOn with
    | ind n23 ihn23 =>
      intro y19 y20 mn23 ay19 by19 ay20 by20 x0n23 x1n23
      refine hq_p rfl rfl ?_
      refine hq_p rfl rfl (ty_ge (n := 7) nk_b7 (fun z24 ez24 => ?_))
      refine ty_ige rfl (fun c25 => ?_) (fun c25 => ?_)
      · refine hq_p rfl rfl ?_
        exact hq_W.ret rfl rfl rfl ⟨hJ, _, rfl, by omega, by omega, by omega, fun q => by omega⟩
      · refine hq_p rfl rfl ?_
        refine hq_p rfl rfl ?_
        refine hq_gR I.1 rfl rfl (by decide) (by decide) rfl ?_
        refine hq_p rfl rfl ?_
        refine ty_lL I rfl rfl (by decide) (by omega) (by omega) (fun z26 ez26 az26 bz26 => ?_)
        refine ty_callp 0 I rfl (fun _ => rfl) rfl rfl rfl (hq_pre_o I.1 (x := 97) (ci := 11) rfl (by decide) rfl rfl rfl rfl) (ct_173w (x1 := z26) (by omega)) (fun _ P27 => ?_)
        obtain ⟨z28, rfl, az28, bz28, iz28⟩ := P27
        refine ty_zeq rfl (fun c29 => ?_) (fun c29 => ?_)
        · refine hq_p rfl rfl ?_
          refine hq_p (ls' := [some (.ref 97), some (.int y19), some (.int y20)]) rfl rfl ?_
          refine ty_inc (ls' := fun z30 => [some (.ref 97), some (.int y19), some (.int z30)]) rfl rfl (fun _ => rfl) (nm_addc nk_i1 (by omega) (by omega)) (fun z30 ez30 => ?_)
          refine hq_p rfl rfl ?_
          exact ihn23 ((7 - z30.toInt).toNat) (by omega) y19 z30 rfl (by omega) (by omega) (by omega) (by omega) (by omega) (by omega)
        · replace c29 : 1 ≤ z28.toInt ∧ z28.toInt ≤ 1 := by omega
          refine hq_p rfl rfl ?_
          refine hq_p rfl rfl (ty_ge (n := 1) nk_i1 (fun z31 ez31 => ?_))
          refine hq_p rfl rfl (ty_ge (n := y20.toInt + z31.toInt) (nm_add (by omega) (by omega)) (fun z32 ez32 => ?_))
          refine hq_p rfl rfl ?_
          refine hq_p (ls' := [some (.ref 97), some (.int z32), some (.int y20)]) rfl rfl ?_
          refine ty_inc (ls' := fun z33 => [some (.ref 97), some (.int z32), some (.int z33)]) rfl rfl (fun _ => rfl) (nm_addc nk_i1 (by omega) (by omega)) (fun z33 ez33 => ?_)
          refine hq_p rfl rfl ?_
          exact ihn23 ((7 - z33.toInt).toNat) (by omega) z32 z33 rfl (by omega) (by omega) (by omega) (by omega) (by omega) (by omega)
  exact L4_n23 _ z1 z2 rfl (by omega) (by omega) (by omega) (by omega) (by omega) (by omega)
end CT48
