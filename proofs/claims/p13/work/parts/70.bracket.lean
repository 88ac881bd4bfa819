/-! CONTRACTS (printed by wip/pm/cts.py) -/
section CT47
/-- the parser -/
def ty_Wps (a k : Nat) : Prop := (a = 97 ∧ (k = 14 ∨ k = 15 ∨ k = 16 ∨ k = 17 ∨ k = 18 ∨ k = 19 ∨ k = 23 ∨ k = 26 ∨ k = 29 ∨ k = 30)) ∨ a = 108 ∨ a = 109 ∨ a = 110 ∨ a = 111
theorem ct_186 {X : pm_X} {d : Nat} {h : pm_H} {x1 : Int32} {op0 ar0 : Nat → Int} {s : Nat} (hd : 4 ≤ d) (ax1 : 31 ≤ x1.toInt) (bx1 : x1.toInt ≤ 32) (hb : (hs_fI h 97 19).toInt = 0) (hk : tk_ok h) (hso : (hs_fI h 97 16).toInt ≠ 0) (hz : pz op0 ar0 s 0 h) (hns : x1.toInt = 31 → ns h) : ty_M X ty_Wps d 186 [.ref 97, .int x1] h (fun h1 v => v = none ∧ tk_ok h1 ∧ (hs_fI h 97 14).toInt ≤ (hs_fI h1 97 14).toInt ∧ ((hs_fI h1 97 19).toInt = 0 ∨ (hs_fI h1 97 19).toInt = 1) ∧ ((hs_fI h1 97 19).toInt = 0 → (hs_fI h 97 14).toInt + 1 ≤ (hs_fI h1 97 14).toInt) ∧ pz op0 ar0 s 0 h1 ∧ ((hs_fI h1 97 19).toInt = 0 → ns h → x1.toInt = 31 → ns h1)) := by
  intro J H hJ
  obtain ⟨d, rfl⟩ : ∃ e, d = e + 1 := ⟨d - 1, by omega⟩
  have I := H.1 h hJ
  refine hq_M.enter (q := (⟨"TrainBearersModel", "openBracket", "(I)V"⟩, _, 2, none, 11, 2, pm_c186)) rfl rfl ?_
  show hq_W X d 11 false (none) pm_c186 (0, [some (.ref 97), some (.int x1)], [], h) (fun h' v => J h' ∧ (fun h1 v => v = none ∧ tk_ok h1 ∧ (hs_fI h 97 14).toInt ≤ (hs_fI h1 97 14).toInt ∧ ((hs_fI h1 97 19).toInt = 0 ∨ (hs_fI h1 97 19).toInt = 1) ∧ ((hs_fI h1 97 19).toInt = 0 → (hs_fI h 97 14).toInt + 1 ≤ (hs_fI h1 97 14).toInt) ∧ pz op0 ar0 s 0 h1 ∧ ((hs_fI h1 97 19).toInt = 0 → ns h → x1.toInt = 31 → ns h1)) h' v)
  obtain ⟨q1, eq1⟩ : ∃ q : Int32, q.toInt = (hs_fI h 97 13).toInt := ⟨_, rfl⟩
  have aq1 : 0 ≤ (hs_fI h 97 13).toInt := (I.2.1 97 13 (by decide)).1
  have bq1 : (hs_fI h 97 13).toInt ≤ 400 := (I.2.1 97 13 (by decide)).2
  obtain ⟨q2, eq2⟩ : ∃ q : Int32, q.toInt = (hs_fI h 97 14).toInt := ⟨_, rfl⟩
  have aq2 : 0 ≤ (hs_fI h 97 14).toInt := (I.2.1 97 14 (by decide)).1
  have bq2 : (hs_fI h 97 14).toInt ≤ 400 := (I.2.1 97 14 (by decide)).2
  obtain ⟨q3, eq3⟩ : ∃ q : Int32, q.toInt = (hs_fI h 97 15).toInt := ⟨_, rfl⟩
  have aq3 : 0 ≤ (hs_fI h 97 15).toInt := (I.2.1 97 15 (by decide)).1
  have bq3 : (hs_fI h 97 15).toInt ≤ 400 := (I.2.1 97 15 (by decide)).2
  obtain ⟨q4, eq4⟩ : ∃ q : Int32, q.toInt = (hs_fI h 97 16).toInt := ⟨_, rfl⟩
  have aq4 := nm_lo q4
  have bq4 := nm_hi q4
  obtain ⟨q5, eq5⟩ : ∃ q : Int32, q.toInt = (hs_fI h 97 19).toInt := ⟨_, rfl⟩
  have aq5 : 0 ≤ q5.toInt ∧ q5.toInt ≤ 1 := by omega
  obtain ⟨q6, eq6⟩ : ∃ q : Int32, q.toInt = (hs_fI h 97 23).toInt := ⟨_, rfl⟩
  have aq6 : 0 ≤ (hs_fI h 97 23).toInt := (I.2.1 97 23 (by decide)).1
  have bq6 : (hs_fI h 97 23).toInt ≤ 400 := (I.2.1 97 23 (by decide)).2
  obtain ⟨q7, eq7⟩ : ∃ q : Int32, q.toInt = (hs_fI h 97 26).toInt := ⟨_, rfl⟩
  have aq7 : 0 ≤ (hs_fI h 97 26).toInt := (I.2.1 97 26 (by decide)).1
  have bq7 : (hs_fI h 97 26).toInt ≤ 50 := (I.2.1 97 26 (by decide)).2
  obtain ⟨q8, eq8⟩ : ∃ q : Int32, q.toInt = (hs_fI h 97 29).toInt := ⟨_, rfl⟩
  have aq8 : 0 ≤ (hs_fI h 97 29).toInt := (I.2.1 97 29 (by decide)).1
  have bq8 : (hs_fI h 97 29).toInt ≤ 400 := (I.2.1 97 29 (by decide)).2
  obtain ⟨q9, eq9⟩ : ∃ q : Int32, q.toInt = (hs_fI h 97 30).toInt := ⟨_, rfl⟩
  have aq9 : 0 ≤ (hs_fI h 97 30).toInt := (I.2.1 97 30 (by decide)).1
  have bq9 : (hs_fI h 97 30).toInt ≤ 8 := (I.2.1 97 30 (by decide)).2
  obtain ⟨q10, eq10⟩ : ∃ q : Int64, q.toInt = (hs_fL h 97 17).toInt := ⟨_, rfl⟩
  have aq10 := nm_llo q10
  have bq10 := nm_lhi q10
  have t1 := hk.1
  have t2 := hk.2.1
  have t3 := hk.2.2.1
  have z3 : (hs_fI h 97 23).toInt + (hs_fI h 97 29).toInt ≤ (hs_fI h 97 14).toInt := hz.2.2.1
  have z2 : (s : Int) ≤ (hs_fI h 97 23).toInt := hz.2.1
  have hxx : x1.toInt = 31 ∨ x1.toInt = 32 := by omega
  refine hq_p rfl rfl ?_
  refine hq_p rfl rfl ?_
  refine ty_gI I rfl rfl (by decide) (by decide) rfl rfl (fun z11 ez11 az11 bz11 => ?_)
  refine hq_p rfl rfl (ty_ge (n := 8) nk_b8 (fun z12 ez12 => ?_))
  refine ty_ige rfl (fun c13 => ?_) (fun c13 => ?_)
  · refine hq_p rfl rfl (ty_ge (n := 0) nk_i0 (fun z14 ez14 => ?_))
    refine ty_callm 0 [(0, 97, 13), (0, 97, 23), (0, 97, 26), (0, 97, 29), (0, 97, 30), (3, 108, 0), (3, 109, 0), (3, 110, 0), (3, 111, 0)] (W := ty_Wps) H hJ rfl (fun _ => rfl) rfl rfl rfl (hq_pre_o I.1 (x := 97) (ci := 11) rfl (by decide) rfl rfl rfl rfl) (fun a k w => by unfold ty_Wo at w; unfold ty_Wps; omega) (by unfold ty_Wo ty_Wps; omega) (ct_175w (x1 := z14) (by omega) (by omega) (by omega) hk) ⟨⟨rfl, show ¬ ty_Wo 97 13 by unfold ty_Wo; omega⟩, ⟨rfl, show ¬ ty_Wo 97 23 by unfold ty_Wo; omega⟩, ⟨rfl, show ¬ ty_Wo 97 26 by unfold ty_Wo; omega⟩, ⟨rfl, show ¬ ty_Wo 97 29 by unfold ty_Wo; omega⟩, ⟨rfl, show ¬ ty_Wo 97 30 by unfold ty_Wo; omega⟩, ⟨rfl, fun k => show ¬ ty_Wo 108 k by unfold ty_Wo; omega⟩, ⟨rfl, fun k => show ¬ ty_Wo 109 k by unfold ty_Wo; omega⟩, ⟨rfl, fun k => show ¬ ty_Wo 110 k by unfold ty_Wo; omega⟩, ⟨rfl, fun k => show ¬ ty_Wo 111 k by unfold ty_Wo; omega⟩, trivial⟩ (fun h16 _ Jh16 gh16 P15 => ?_)
    obtain ⟨gh16_0, gh16_1, gh16_2, gh16_3, gh16_4, gh16_5, gh16_6, gh16_7, gh16_8, _⟩ := gh16
    have gh16_0 : (hs_fI h16 97 13).toInt = (hs_fI h 97 13).toInt := gh16_0
    have gh16_1 : (hs_fI h16 97 23).toInt = (hs_fI h 97 23).toInt := gh16_1
    have gh16_2 : (hs_fI h16 97 26).toInt = (hs_fI h 97 26).toInt := gh16_2
    have gh16_3 : (hs_fI h16 97 29).toInt = (hs_fI h 97 29).toInt := gh16_3
    have gh16_4 : (hs_fI h16 97 30).toInt = (hs_fI h 97 30).toInt := gh16_4
    have gh16_5 : hs_aI h16 108 = hs_aI h 108 := gh16_5
    have ugh16_5 : hs_aI h16 108 = (hs_aI h 108) := gh16_5.trans rfl
    have gh16_6 : hs_aI h16 109 = hs_aI h 109 := gh16_6
    have ugh16_6 : hs_aI h16 109 = (hs_aI h 109) := gh16_6.trans rfl
    have gh16_7 : hs_aI h16 110 = hs_aI h 110 := gh16_7
    have ugh16_7 : hs_aI h16 110 = (hs_aI h 110) := gh16_7.trans rfl
    have gh16_8 : hs_aI h16 111 = hs_aI h 111 := gh16_8
    have ugh16_8 : hs_aI h16 111 = (hs_aI h 111) := gh16_8.trans rfl
    have Ih16 := H.1 h16 Jh16
    obtain ⟨rq17, kq17, fq17⟩ := P15
    subst rq17
    have t1kq17 := kq17.1
    have t2kq17 := kq17.2.1
    have t3kq17 := kq17.2.2.1
    obtain ⟨q18, eq18⟩ : ∃ q : Int32, q.toInt = (hs_fI h16 97 14).toInt := ⟨_, rfl⟩
    have aq18 : 0 ≤ (hs_fI h16 97 14).toInt := (Ih16.2.1 97 14 (by decide)).1
    have bq18 : (hs_fI h16 97 14).toInt ≤ 400 := (Ih16.2.1 97 14 (by decide)).2
    obtain ⟨q19, eq19⟩ : ∃ q : Int32, q.toInt = (hs_fI h16 97 15).toInt := ⟨_, rfl⟩
    have aq19 : 0 ≤ (hs_fI h16 97 15).toInt := (Ih16.2.1 97 15 (by decide)).1
    have bq19 : (hs_fI h16 97 15).toInt ≤ 400 := (Ih16.2.1 97 15 (by decide)).2
    obtain ⟨q20, eq20⟩ : ∃ q : Int32, q.toInt = (hs_fI h16 97 16).toInt := ⟨_, rfl⟩
    have aq20 := nm_lo q20
    have bq20 := nm_hi q20
    obtain ⟨q21, eq21⟩ : ∃ q : Int32, q.toInt = (hs_fI h16 97 19).toInt := ⟨_, rfl⟩
    have aq21 : 0 ≤ q21.toInt ∧ q21.toInt ≤ 1 := by omega
    obtain ⟨q22, eq22⟩ : ∃ q : Int64, q.toInt = (hs_fL h16 97 17).toInt := ⟨_, rfl⟩
    have aq22 := nm_llo q22
    have bq22 := nm_lhi q22
    refine hq_p rfl rfl ?_
    refine ty_gB Ih16 rfl rfl (by decide) (by decide) rfl (fun z23 ez23 az23 bz23 => ?_)
    refine ty_zne rfl (fun c24 => ?_) (fun c24 => ?_)
    · clear c24
      have zf : pz op0 ar0 s 0 h16 := by
        show pq ((hs_fI h16 97 19).toInt = 0) (hs_aI h16 108) (hs_aI h16 109) (hs_aI h16 110) (hs_aI h16 111) op0 ar0 s (hs_fI h16 97 23).toInt (hs_fI h16 97 29).toInt (hs_fI h16 97 30).toInt (hs_fI h16 97 14).toInt 0
        rw [ugh16_5, ugh16_6, ugh16_7, ugh16_8, show (hs_fI h16 97 23).toInt = (hs_fI h 97 23).toInt by omega, show (hs_fI h16 97 29).toInt = (hs_fI h 97 29).toInt by omega, show (hs_fI h16 97 30).toInt = (hs_fI h 97 30).toInt by omega]
        exact pq_g hz (fun q => by exfalso; omega) (by omega)
      exact hq_W.ret rfl rfl rfl ⟨Jh16, rfl, kq17, by omega, by omega, by omega, zf, fun q => by exfalso; omega⟩
    · exfalso; omega
  · refine hq_p rfl rfl (ty_ge (n := 1) nk_i1 (fun z26 ez26 => ?_))
    refine hq_p rfl rfl ?_
    refine ty_callm 0 [(0, 97, 13), (0, 97, 23), (0, 97, 26), (0, 97, 29), (0, 97, 30), (3, 108, 0), (3, 109, 0), (3, 110, 0), (3, 111, 0)] (W := ty_Wps) H hJ rfl (fun _ => rfl) rfl rfl rfl (hq_pre_o I.1 (x := 97) (ci := 11) rfl (by decide) rfl rfl rfl rfl) (fun a k w => by unfold ty_Wo at w; unfold ty_Wps; omega) (by unfold ty_Wo ty_Wps; omega) (ct_175w (x1 := z26) (by omega) (by omega) (by omega) hk) ⟨⟨rfl, show ¬ ty_Wo 97 13 by unfold ty_Wo; omega⟩, ⟨rfl, show ¬ ty_Wo 97 23 by unfold ty_Wo; omega⟩, ⟨rfl, show ¬ ty_Wo 97 26 by unfold ty_Wo; omega⟩, ⟨rfl, show ¬ ty_Wo 97 29 by unfold ty_Wo; omega⟩, ⟨rfl, show ¬ ty_Wo 97 30 by unfold ty_Wo; omega⟩, ⟨rfl, fun k => show ¬ ty_Wo 108 k by unfold ty_Wo; omega⟩, ⟨rfl, fun k => show ¬ ty_Wo 109 k by unfold ty_Wo; omega⟩, ⟨rfl, fun k => show ¬ ty_Wo 110 k by unfold ty_Wo; omega⟩, ⟨rfl, fun k => show ¬ ty_Wo 111 k by unfold ty_Wo; omega⟩, trivial⟩ (fun h28 _ Jh28 gh28 P27 => ?_)
    obtain ⟨gh28_0, gh28_1, gh28_2, gh28_3, gh28_4, gh28_5, gh28_6, gh28_7, gh28_8, _⟩ := gh28
    have gh28_0 : (hs_fI h28 97 13).toInt = (hs_fI h 97 13).toInt := gh28_0
    have gh28_1 : (hs_fI h28 97 23).toInt = (hs_fI h 97 23).toInt := gh28_1
    have gh28_2 : (hs_fI h28 97 26).toInt = (hs_fI h 97 26).toInt := gh28_2
    have gh28_3 : (hs_fI h28 97 29).toInt = (hs_fI h 97 29).toInt := gh28_3
    have gh28_4 : (hs_fI h28 97 30).toInt = (hs_fI h 97 30).toInt := gh28_4
    have gh28_5 : hs_aI h28 108 = hs_aI h 108 := gh28_5
    have ugh28_5 : hs_aI h28 108 = (hs_aI h 108) := gh28_5.trans rfl
    have gh28_6 : hs_aI h28 109 = hs_aI h 109 := gh28_6
    have ugh28_6 : hs_aI h28 109 = (hs_aI h 109) := gh28_6.trans rfl
    have gh28_7 : hs_aI h28 110 = hs_aI h 110 := gh28_7
    have ugh28_7 : hs_aI h28 110 = (hs_aI h 110) := gh28_7.trans rfl
    have gh28_8 : hs_aI h28 111 = hs_aI h 111 := gh28_8
    have ugh28_8 : hs_aI h28 111 = (hs_aI h 111) := gh28_8.trans rfl
    have Ih28 := H.1 h28 Jh28
    obtain ⟨rq29, kq29, fq29⟩ := P27
    subst rq29
    have t1kq29 := kq29.1
    have t2kq29 := kq29.2.1
    have t3kq29 := kq29.2.2.1
    obtain ⟨q30, eq30⟩ : ∃ q : Int32, q.toInt = (hs_fI h28 97 14).toInt := ⟨_, rfl⟩
    have aq30 : 0 ≤ (hs_fI h28 97 14).toInt := (Ih28.2.1 97 14 (by decide)).1
    have bq30 : (hs_fI h28 97 14).toInt ≤ 400 := (Ih28.2.1 97 14 (by decide)).2
    obtain ⟨q31, eq31⟩ : ∃ q : Int32, q.toInt = (hs_fI h28 97 15).toInt := ⟨_, rfl⟩
    have aq31 : 0 ≤ (hs_fI h28 97 15).toInt := (Ih28.2.1 97 15 (by decide)).1
    have bq31 : (hs_fI h28 97 15).toInt ≤ 400 := (Ih28.2.1 97 15 (by decide)).2
    obtain ⟨q32, eq32⟩ : ∃ q : Int32, q.toInt = (hs_fI h28 97 16).toInt := ⟨_, rfl⟩
    have aq32 := nm_lo q32
    have bq32 := nm_hi q32
    obtain ⟨q33, eq33⟩ : ∃ q : Int32, q.toInt = (hs_fI h28 97 19).toInt := ⟨_, rfl⟩
    have aq33 : 0 ≤ q33.toInt ∧ q33.toInt ≤ 1 := by omega
    obtain ⟨q34, eq34⟩ : ∃ q : Int64, q.toInt = (hs_fL h28 97 17).toInt := ⟨_, rfl⟩
    have aq34 := nm_llo q34
    have bq34 := nm_lhi q34
    refine hq_p rfl rfl ?_
    refine ty_gB Ih28 rfl rfl (by decide) (by decide) rfl (fun z35 ez35 az35 bz35 => ?_)
    refine ty_zne rfl (fun c36 => ?_) (fun c36 => ?_)
    · replace c36 : 1 ≤ z35.toInt ∧ z35.toInt ≤ 1 := by omega
      have zf : pz op0 ar0 s 0 h28 := by
        show pq ((hs_fI h28 97 19).toInt = 0) (hs_aI h28 108) (hs_aI h28 109) (hs_aI h28 110) (hs_aI h28 111) op0 ar0 s (hs_fI h28 97 23).toInt (hs_fI h28 97 29).toInt (hs_fI h28 97 30).toInt (hs_fI h28 97 14).toInt 0
        rw [ugh28_5, ugh28_6, ugh28_7, ugh28_8, show (hs_fI h28 97 23).toInt = (hs_fI h 97 23).toInt by omega, show (hs_fI h28 97 29).toInt = (hs_fI h 97 29).toInt by omega, show (hs_fI h28 97 30).toInt = (hs_fI h 97 30).toInt by omega]
        exact pq_g hz (fun q => by exfalso; omega) (by omega)
      exact hq_W.ret rfl rfl rfl ⟨Jh28, rfl, kq29, by omega, by omega, by omega, zf, fun q => by exfalso; omega⟩
    · refine hq_p rfl rfl ?_
      refine hq_p rfl rfl ?_
      refine ty_gI Ih28 rfl rfl (by decide) (by decide) rfl rfl (fun z38 ez38 az38 bz38 => ?_)
      refine hq_p rfl rfl (ty_ge (n := 1) nk_i1 (fun z39 ez39 => ?_))
      refine hq_p rfl rfl (ty_ge (n := z38.toInt + z39.toInt) (nm_add (by omega) (by omega)) (fun z40 ez40 => ?_))
      refine ty_pI (W := ty_Wps) H Jh28 rfl rfl (by decide) rfl rfl (by unfold ty_Wps; omega) rfl (by omega) (by omega) (fun h41 eh41 Jh41 => ?_)
      have wh41 : (hs_fI h41 97 30).toInt = z40.toInt := by rw [eh41]; exact congrArg Int32.toInt (ty_fI_eq Ih28.1 rfl (by decide) rfl)
      have vh41_108 : hs_aI h41 108 = (hs_aI h 108) := by rw [eh41]; exact (hs_aI_ne (by decide)).trans ugh28_5
      have vh41_109 : hs_aI h41 109 = (hs_aI h 109) := by rw [eh41]; exact (hs_aI_ne (by decide)).trans ugh28_6
      have vh41_110 : hs_aI h41 110 = (hs_aI h 110) := by rw [eh41]; exact (hs_aI_ne (by decide)).trans ugh28_7
      have vh41_111 : hs_aI h41 111 = (hs_aI h 111) := by rw [eh41]; exact (hs_aI_ne (by decide)).trans ugh28_8
      have Ih41 := H.1 h41 Jh41
      refine hq_p rfl rfl ?_
      refine hq_p rfl rfl ?_
      refine hq_p rfl rfl (ty_ge (n := 0) nk_i0 (fun z42 ez42 => ?_))
      have r43 : (hs_fI h41 97 13).toInt = (hs_fI h28 97 13).toInt := by rw [eh41]; exact congrArg Int32.toInt (ty_fI_sF (by decide))
      have r44 : (hs_fI h41 97 14).toInt = (hs_fI h28 97 14).toInt := by rw [eh41]; exact congrArg Int32.toInt (ty_fI_sF (by decide))
      have r45 : (hs_fI h41 97 15).toInt = (hs_fI h28 97 15).toInt := by rw [eh41]; exact congrArg Int32.toInt (ty_fI_sF (by decide))
      have r46 : (hs_fI h41 97 16).toInt = (hs_fI h28 97 16).toInt := by rw [eh41]; exact congrArg Int32.toInt (ty_fI_sF (by decide))
      have r47 : (hs_fI h41 97 19).toInt = (hs_fI h28 97 19).toInt := by rw [eh41]; exact congrArg Int32.toInt (ty_fI_sF (by decide))
      have r48 : (hs_fI h41 97 23).toInt = (hs_fI h28 97 23).toInt := by rw [eh41]; exact congrArg Int32.toInt (ty_fI_sF (by decide))
      have r49 : (hs_fI h41 97 26).toInt = (hs_fI h28 97 26).toInt := by rw [eh41]; exact congrArg Int32.toInt (ty_fI_sF (by decide))
      have r50 : (hs_fI h41 97 29).toInt = (hs_fI h28 97 29).toInt := by rw [eh41]; exact congrArg Int32.toInt (ty_fI_sF (by decide))
      have r51 : (hs_fL h41 97 17).toInt = (hs_fL h28 97 17).toInt := by rw [eh41]; exact congrArg Int64.toInt (ty_fL_sF (by decide))
      refine ty_callm 0 [(0, 97, 13), (0, 97, 14), (0, 97, 15), (0, 97, 16), (0, 97, 19), (0, 97, 23), (0, 97, 26), (0, 97, 30), (2, 97, 17), (3, 108, 0), (3, 109, 0)] (W := ty_Wps) H Jh41 rfl (fun _ => rfl) rfl rfl rfl (hq_pre_o Ih41.1 (x := 97) (ci := 11) rfl (by decide) rfl rfl rfl rfl) (fun a k w => by unfold ty_Wi at w; unfold ty_Wps; omega) (by unfold ty_Wi ty_Wps; omega) (ct_179 (x1 := x1) (x2 := z42) (by omega) (by omega) (by omega)) ⟨⟨rfl, show ¬ ty_Wi 97 13 by unfold ty_Wi; omega⟩, ⟨rfl, show ¬ ty_Wi 97 14 by unfold ty_Wi; omega⟩, ⟨rfl, show ¬ ty_Wi 97 15 by unfold ty_Wi; omega⟩, ⟨rfl, show ¬ ty_Wi 97 16 by unfold ty_Wi; omega⟩, ⟨rfl, show ¬ ty_Wi 97 19 by unfold ty_Wi; omega⟩, ⟨rfl, show ¬ ty_Wi 97 23 by unfold ty_Wi; omega⟩, ⟨rfl, show ¬ ty_Wi 97 26 by unfold ty_Wi; omega⟩, ⟨rfl, show ¬ ty_Wi 97 30 by unfold ty_Wi; omega⟩, ⟨rfl, show ¬ ty_Wi 97 17 by unfold ty_Wi; omega⟩, ⟨rfl, fun k => show ¬ ty_Wi 108 k by unfold ty_Wi; omega⟩, ⟨rfl, fun k => show ¬ ty_Wi 109 k by unfold ty_Wi; omega⟩, trivial⟩ (fun h53 _ Jh53 gh53 P52 => ?_)
      obtain ⟨gh53_0, gh53_1, gh53_2, gh53_3, gh53_4, gh53_5, gh53_6, gh53_7, gh53_8, gh53_9, gh53_10, _⟩ := gh53
      have gh53_0 : (hs_fI h53 97 13).toInt = (hs_fI h41 97 13).toInt := gh53_0
      have gh53_1 : (hs_fI h53 97 14).toInt = (hs_fI h41 97 14).toInt := gh53_1
      have gh53_2 : (hs_fI h53 97 15).toInt = (hs_fI h41 97 15).toInt := gh53_2
      have gh53_3 : (hs_fI h53 97 16).toInt = (hs_fI h41 97 16).toInt := gh53_3
      have gh53_4 : (hs_fI h53 97 19).toInt = (hs_fI h41 97 19).toInt := gh53_4
      have gh53_5 : (hs_fI h53 97 23).toInt = (hs_fI h41 97 23).toInt := gh53_5
      have gh53_6 : (hs_fI h53 97 26).toInt = (hs_fI h41 97 26).toInt := gh53_6
      have gh53_7 : (hs_fI h53 97 30).toInt = (hs_fI h41 97 30).toInt := gh53_7
      have gh53_8 : (hs_fL h53 97 17).toInt = (hs_fL h41 97 17).toInt := gh53_8
      have gh53_9 : hs_aI h53 108 = hs_aI h41 108 := gh53_9
      have ugh53_9 : hs_aI h53 108 = (hs_aI h 108) := gh53_9.trans vh41_108
      have gh53_10 : hs_aI h53 109 = hs_aI h41 109 := gh53_10
      have ugh53_10 : hs_aI h53 109 = (hs_aI h 109) := gh53_10.trans vh41_109
      have Ih53 := H.1 h53 Jh53
      obtain ⟨rq54, nq54, xq54, yq54⟩ := P52
      subst rq54
      obtain ⟨q55, eq55⟩ : ∃ q : Int32, q.toInt = (hs_fI h53 97 29).toInt := ⟨_, rfl⟩
      have aq55 : 0 ≤ (hs_fI h53 97 29).toInt := (Ih53.2.1 97 29 (by decide)).1
      have bq55 : (hs_fI h53 97 29).toInt ≤ 400 := (Ih53.2.1 97 29 (by decide)).2
      have wq54110 : hs_aI h53 110 = (upd (hs_aI h 110) (hs_fI h 97 29).toInt.toNat x1) := by rw [xq54, vh41_110, show (hs_fI h41 97 29).toInt.toNat = (hs_fI h 97 29).toInt.toNat by omega]
      have wq54111 : hs_aI h53 111 = (upd (hs_aI h 111) (hs_fI h 97 29).toInt.toNat z42) := by rw [yq54, vh41_111, show (hs_fI h41 97 29).toInt.toNat = (hs_fI h 97 29).toInt.toNat by omega]
      have k56 : tk_ok h53 := tk_same kq29 (by omega) (by omega) (by omega) (by omega) (by omega)
      have zf : pz op0 ar0 s 0 h53 := by
        show pq ((hs_fI h53 97 19).toInt = 0) (hs_aI h53 108) (hs_aI h53 109) (hs_aI h53 110) (hs_aI h53 111) op0 ar0 s (hs_fI h53 97 23).toInt (hs_fI h53 97 29).toInt (hs_fI h53 97 30).toInt (hs_fI h53 97 14).toInt 0
        rw [ugh53_9, ugh53_10, wq54110, wq54111, show (hs_fI h53 97 23).toInt = (hs_fI h 97 23).toInt by omega, show (hs_fI h53 97 29).toInt = (hs_fI h 97 29).toInt + 1 by omega, show (hs_fI h53 97 30).toInt = (hs_fI h 97 30).toInt + 1 by omega]
        exact pq_push (pq_g (g' := (hs_fI h53 97 19).toInt = 0) hz (fun _ => ⟨hb, rfl⟩) (Int.le_refl _)) (by omega) (by omega) (fun _ => by rw [ps_b0 (by omega)]; rfl) (by omega) (by rw [if_pos (by omega)]) (by rcases hxx with q | q; exact Or.inr (Or.inr (hns q)); exact Or.inr (Or.inl q))
      exact hq_W.ret rfl rfl rfl ⟨Jh53, rfl, k56, by omega, by omega, by omega, zf, fun _ q e => (by show ps_ns (pt (hs_aI h53 110)) (hs_fI h53 97 29).toInt.toNat; rw [wq54110, show (hs_fI h53 97 29).toInt = (hs_fI h 97 29).toInt + 1 by omega]; exact ps_nsu q (by omega) (by omega))⟩
end CT47
