/-! CONTRACTS (printed by wip/pm/cts.py) -/
section CT51
set_option maxHeartbeats 20000000 in
theorem ct_191 {X : pm_X} {d : Nat} {h : pm_H}  {op0 ar0 : Nat → Int} {s : Nat} (hd : 4 ≤ d)  (hb : (hs_fI h 97 19).toInt = 0) (hk : tk_ok h) (hz : pz op0 ar0 s 1 h) (hn0 : ns h) : ty_M X ty_Wps d 191 [.ref 97] h (fun h1 v => ∃ z : Int32, v = some (.int z) ∧ (z.toInt = 0 ∨ z.toInt = 2 ∨ z.toInt = 4) ∧ tk_ok h1 ∧ (hs_fI h 97 14).toInt ≤ (hs_fI h1 97 14).toInt ∧ ((hs_fI h1 97 19).toInt = 0 ∨ (hs_fI h1 97 19).toInt = 1) ∧ ((hs_fI h1 97 19).toInt = 0 → ((hs_fI h 97 14).toInt + 1 ≤ (hs_fI h1 97 14).toInt ∨ z.toInt = 4)) ∧ tz op0 ar0 s z.toInt h1) := by
  intro J H hJ
  obtain ⟨d, rfl⟩ : ∃ e, d = e + 1 := ⟨d - 1, by omega⟩
  have I := H.1 h hJ
  refine hq_M.enter (q := (⟨"TrainBearersModel", "behindTest", "()I"⟩, _, 2, some .int, 11, 1, pm_c191)) rfl rfl ?_
  show hq_W X d 11 false (some .int) pm_c191 (0, [some (.ref 97), none], [], h) (fun h' v => J h' ∧ (fun h1 v => ∃ z : Int32, v = some (.int z) ∧ (z.toInt = 0 ∨ z.toInt = 2 ∨ z.toInt = 4) ∧ tk_ok h1 ∧ (hs_fI h 97 14).toInt ≤ (hs_fI h1 97 14).toInt ∧ ((hs_fI h1 97 19).toInt = 0 ∨ (hs_fI h1 97 19).toInt = 1) ∧ ((hs_fI h1 97 19).toInt = 0 → ((hs_fI h 97 14).toInt + 1 ≤ (hs_fI h1 97 14).toInt ∨ z.toInt = 4)) ∧ tz op0 ar0 s z.toInt h1) h' v)
  obtain ⟨q1, eq1⟩ : ∃ q : Int32, q.toInt = (hs_fI h 97 13).toInt := ⟨_, rfl⟩
  have aq1 : 0 ≤ (hs_fI h 97 13).toInt := (I.2.1 97 13 (by decide)).1
  have bq1 : (hs_fI h 97 13).toInt ≤ 400 := (I.2.1 97 13 (by decide)).2
  obtain ⟨q2, eq2⟩ : ∃ q : Int32, q.toInt = (hs_fI h 97 14).toInt := ⟨_, rfl⟩
  have aq2 : 0 ≤ (hs_fI h 97 14).toInt := (I.2.1 97 14 (by decide)).1
  have bq2 : (hs_fI h 97 14).toInt ≤ 400 := (I.2.1 97 14 (by decide)).2
  obtain ⟨q3, eq3⟩ : ∃ q : Int32, q.toInt = (hs_fI h 97 15).toInt := ⟨_, rfl⟩
  have aq3 : 0 ≤ (hs_fI h 97 15).toInt := (I.2.1 97 15 (by decide)).1
  have bq3 : (hs_fI h 97 15).toInt ≤ 400 := (I.2.1 97 15 (by decide)).2
  obtain ⟨q4, eq4⟩ : ∃ q : Int32, q.toInt = (hs_fI h 97 16).toInt := ⟨_, rfl⟩
  have aq4 := nm_lo q4
  have bq4 := nm_hi q4
  obtain ⟨q5, eq5⟩ : ∃ q : Int32, q.toInt = (hs_fI h 97 19).toInt := ⟨_, rfl⟩
  have aq5 : 0 ≤ q5.toInt ∧ q5.toInt ≤ 1 := by omega
  obtain ⟨q6, eq6⟩ : ∃ q : Int32, q.toInt = (hs_fI h 97 23).toInt := ⟨_, rfl⟩
  have aq6 : 0 ≤ (hs_fI h 97 23).toInt := (I.2.1 97 23 (by decide)).1
  have bq6 : (hs_fI h 97 23).toInt ≤ 400 := (I.2.1 97 23 (by decide)).2
  obtain ⟨q7, eq7⟩ : ∃ q : Int32, q.toInt = (hs_fI h 97 26).toInt := ⟨_, rfl⟩
  have aq7 : 0 ≤ (hs_fI h 97 26).toInt := (I.2.1 97 26 (by decide)).1
  have bq7 : (hs_fI h 97 26).toInt ≤ 50 := (I.2.1 97 26 (by decide)).2
  obtain ⟨q8, eq8⟩ : ∃ q : Int32, q.toInt = (hs_fI h 97 29).toInt := ⟨_, rfl⟩
  have aq8 : 0 ≤ (hs_fI h 97 29).toInt := (I.2.1 97 29 (by decide)).1
  have bq8 : (hs_fI h 97 29).toInt ≤ 400 := (I.2.1 97 29 (by decide)).2
  obtain ⟨q9, eq9⟩ : ∃ q : Int32, q.toInt = (hs_fI h 97 30).toInt := ⟨_, rfl⟩
  have aq9 : 0 ≤ (hs_fI h 97 30).toInt := (I.2.1 97 30 (by decide)).1
  have bq9 : (hs_fI h 97 30).toInt ≤ 8 := (I.2.1 97 30 (by decide)).2
  obtain ⟨q10, eq10⟩ : ∃ q : Int64, q.toInt = (hs_fL h 97 17).toInt := ⟨_, rfl⟩
  have aq10 := nm_llo q10
  have bq10 := nm_lhi q10
  have t1 := hk.1
  have t2 := hk.2.1
  have z3 : (hs_fI h 97 23).toInt + (hs_fI h 97 29).toInt ≤ (hs_fI h 97 14).toInt := hz.2.2.1
  have z2 : (s : Int) ≤ (hs_fI h 97 23).toInt := hz.2.1
  refine hq_p rfl rfl ?_
  refine hq_p rfl rfl (ty_gle (n := 1476) (by decide) (fun z11 ez11 => ?_))
  refine ty_callp 0 I rfl (fun _ => rfl) rfl rfl rfl (hq_pre_o I.1 (x := 97) (ci := 11) rfl (by decide) rfl rfl rfl rfl) (ct_173w (x1 := z11) (by omega)) (fun _ P12 => ?_)
  obtain ⟨z13, rfl, az13, bz13, iz13⟩ := P12
  refine hq_p (ls' := [some (.ref 97), some (.int z13)]) rfl rfl ?_
  refine hq_p rfl rfl ?_
  refine ty_zne rfl (fun c14 => ?_) (fun c14 => ?_)
  · replace c14 : 1 ≤ z13.toInt ∧ z13.toInt ≤ 1 := by omega
    have f15 := iz13 (by omega)
    clear iz13
    have t5 : (hs_fI h 97 14).toInt + 2 ≤ (hs_fI h 97 15).toInt := by have q := hk.2.2.2 (by omega); omega
    refine hq_p rfl rfl ?_
    refine hq_p rfl rfl ?_
    refine ty_zeq rfl (fun c16 => ?_) (fun c16 => ?_)
    · exfalso; omega
    · clear c16
      refine hq_p rfl rfl (ty_ge (n := 2) nk_i2 (fun z17 ez17 => ?_))
      refine hq_p rfl rfl ?_
      refine ty_callm 0 [(0, 97, 13), (0, 97, 14), (0, 97, 15), (0, 97, 16), (0, 97, 19), (0, 97, 26), (0, 97, 30), (2, 97, 17), (3, 110, 0), (3, 111, 0)] (W := ty_Wps) H hJ rfl (fun _ => rfl) rfl rfl rfl (hq_pre_o I.1 (x := 97) (ci := 11) rfl (by decide) rfl rfl rfl rfl) (fun a k w => by unfold ty_Wse at w; unfold ty_Wps; omega) (by unfold ty_Wse ty_Wps; omega) (ct_181 (x1 := z17) (by omega) (by omega) (by omega) hz (by omega)) ⟨⟨rfl, show ¬ ty_Wse 97 13 by unfold ty_Wse; omega⟩, ⟨rfl, show ¬ ty_Wse 97 14 by unfold ty_Wse; omega⟩, ⟨rfl, show ¬ ty_Wse 97 15 by unfold ty_Wse; omega⟩, ⟨rfl, show ¬ ty_Wse 97 16 by unfold ty_Wse; omega⟩, ⟨rfl, show ¬ ty_Wse 97 19 by unfold ty_Wse; omega⟩, ⟨rfl, show ¬ ty_Wse 97 26 by unfold ty_Wse; omega⟩, ⟨rfl, show ¬ ty_Wse 97 30 by unfold ty_Wse; omega⟩, ⟨rfl, show ¬ ty_Wse 97 17 by unfold ty_Wse; omega⟩, ⟨rfl, fun k => show ¬ ty_Wse 110 k by unfold ty_Wse; omega⟩, ⟨rfl, fun k => show ¬ ty_Wse 111 k by unfold ty_Wse; omega⟩, trivial⟩ (fun h19 _ Jh19 gh19 P18 => ?_)
      obtain ⟨gh19_0, gh19_1, gh19_2, gh19_3, gh19_4, gh19_5, gh19_6, gh19_7, gh19_8, gh19_9, _⟩ := gh19
      have gh19_0 : (hs_fI h19 97 13).toInt = (hs_fI h 97 13).toInt := gh19_0
      have gh19_1 : (hs_fI h19 97 14).toInt = (hs_fI h 97 14).toInt := gh19_1
      have gh19_2 : (hs_fI h19 97 15).toInt = (hs_fI h 97 15).toInt := gh19_2
      have gh19_3 : (hs_fI h19 97 16).toInt = (hs_fI h 97 16).toInt := gh19_3
      have gh19_4 : (hs_fI h19 97 19).toInt = (hs_fI h 97 19).toInt := gh19_4
      have gh19_5 : (hs_fI h19 97 26).toInt = (hs_fI h 97 26).toInt := gh19_5
      have gh19_6 : (hs_fI h19 97 30).toInt = (hs_fI h 97 30).toInt := gh19_6
      have gh19_7 : (hs_fL h19 97 17).toInt = (hs_fL h 97 17).toInt := gh19_7
      have gh19_8 : hs_aI h19 110 = hs_aI h 110 := gh19_8
      have ugh19_8 : hs_aI h19 110 = (hs_aI h 110) := gh19_8.trans rfl
      have gh19_9 : hs_aI h19 111 = hs_aI h 111 := gh19_9
      have ugh19_9 : hs_aI h19 111 = (hs_aI h 111) := gh19_9.trans rfl
      have Ih19 := H.1 h19 Jh19
      obtain ⟨rq20, zq20, stq20, lq20⟩ := P18
      subst rq20
      obtain ⟨q21, eq21⟩ : ∃ q : Int32, q.toInt = (hs_fI h19 97 23).toInt := ⟨_, rfl⟩
      have aq21 : 0 ≤ (hs_fI h19 97 23).toInt := (Ih19.2.1 97 23 (by decide)).1
      have bq21 : (hs_fI h19 97 23).toInt ≤ 400 := (Ih19.2.1 97 23 (by decide)).2
      obtain ⟨q22, eq22⟩ : ∃ q : Int32, q.toInt = (hs_fI h19 97 29).toInt := ⟨_, rfl⟩
      have aq22 : 0 ≤ (hs_fI h19 97 29).toInt := (Ih19.2.1 97 29 (by decide)).1
      have bq22 : (hs_fI h19 97 29).toInt ≤ 400 := (Ih19.2.1 97 29 (by decide)).2
      have y3q20 := zq20.2.2.1
      have y2q20 := zq20.2.1
      have y1q20 := zq20.1
      refine hq_p rfl rfl ?_
      refine hq_p rfl rfl ?_
      refine ty_zeq rfl (fun c23 => ?_) (fun c23 => ?_)
      · exfalso; omega
      · clear c23
        refine hq_p rfl rfl (ty_ge (n := 29) nk_b29 (fun z24 ez24 => ?_))
        refine hq_p rfl rfl ?_
        refine hq_p rfl rfl ?_
        refine ty_gI Ih19 rfl rfl (by decide) (by decide) rfl rfl (fun z25 ez25 az25 bz25 => ?_)
        refine ty_callm 0 [(0, 97, 13), (0, 97, 14), (0, 97, 15), (0, 97, 16), (0, 97, 19), (0, 97, 23), (0, 97, 26), (0, 97, 30), (2, 97, 17), (3, 108, 0), (3, 109, 0)] (W := ty_Wps) H Jh19 rfl (fun _ => rfl) rfl rfl rfl (hq_pre_o Ih19.1 (x := 97) (ci := 11) rfl (by decide) rfl rfl rfl rfl) (fun a k w => by unfold ty_Wi at w; unfold ty_Wps; omega) (by unfold ty_Wi ty_Wps; omega) (ct_179 (x1 := z24) (x2 := z25) (by omega) (by omega) (by omega)) ⟨⟨rfl, show ¬ ty_Wi 97 13 by unfold ty_Wi; omega⟩, ⟨rfl, show ¬ ty_Wi 97 14 by unfold ty_Wi; omega⟩, ⟨rfl, show ¬ ty_Wi 97 15 by unfold ty_Wi; omega⟩, ⟨rfl, show ¬ ty_Wi 97 16 by unfold ty_Wi; omega⟩, ⟨rfl, show ¬ ty_Wi 97 19 by unfold ty_Wi; omega⟩, ⟨rfl, show ¬ ty_Wi 97 23 by unfold ty_Wi; omega⟩, ⟨rfl, show ¬ ty_Wi 97 26 by unfold ty_Wi; omega⟩, ⟨rfl, show ¬ ty_Wi 97 30 by unfold ty_Wi; omega⟩, ⟨rfl, show ¬ ty_Wi 97 17 by unfold ty_Wi; omega⟩, ⟨rfl, fun k => show ¬ ty_Wi 108 k by unfold ty_Wi; omega⟩, ⟨rfl, fun k => show ¬ ty_Wi 109 k by unfold ty_Wi; omega⟩, trivial⟩ (fun h27 _ Jh27 gh27 P26 => ?_)
        obtain ⟨gh27_0, gh27_1, gh27_2, gh27_3, gh27_4, gh27_5, gh27_6, gh27_7, gh27_8, gh27_9, gh27_10, _⟩ := gh27
        have gh27_0 : (hs_fI h27 97 13).toInt = (hs_fI h19 97 13).toInt := gh27_0
        have gh27_1 : (hs_fI h27 97 14).toInt = (hs_fI h19 97 14).toInt := gh27_1
        have gh27_2 : (hs_fI h27 97 15).toInt = (hs_fI h19 97 15).toInt := gh27_2
        have gh27_3 : (hs_fI h27 97 16).toInt = (hs_fI h19 97 16).toInt := gh27_3
        have gh27_4 : (hs_fI h27 97 19).toInt = (hs_fI h19 97 19).toInt := gh27_4
        have gh27_5 : (hs_fI h27 97 23).toInt = (hs_fI h19 97 23).toInt := gh27_5
        have gh27_6 : (hs_fI h27 97 26).toInt = (hs_fI h19 97 26).toInt := gh27_6
        have gh27_7 : (hs_fI h27 97 30).toInt = (hs_fI h19 97 30).toInt := gh27_7
        have gh27_8 : (hs_fL h27 97 17).toInt = (hs_fL h19 97 17).toInt := gh27_8
        have gh27_9 : hs_aI h27 108 = hs_aI h19 108 := gh27_9
        have ugh27_9 : hs_aI h27 108 = (hs_aI h19 108) := gh27_9.trans rfl
        have gh27_10 : hs_aI h27 109 = hs_aI h19 109 := gh27_10
        have ugh27_10 : hs_aI h27 109 = (hs_aI h19 109) := gh27_10.trans rfl
        have Ih27 := H.1 h27 Jh27
        obtain ⟨rq28, nq28, xq28, yq28⟩ := P26
        subst rq28
        obtain ⟨q29, eq29⟩ : ∃ q : Int32, q.toInt = (hs_fI h27 97 29).toInt := ⟨_, rfl⟩
        have aq29 : 0 ≤ (hs_fI h27 97 29).toInt := (Ih27.2.1 97 29 (by decide)).1
        have bq29 : (hs_fI h27 97 29).toInt ≤ 400 := (Ih27.2.1 97 29 (by decide)).2
        have wq28110 : hs_aI h27 110 = (upd (hs_aI h 110) (hs_fI h19 97 29).toInt.toNat z24) := by rw [xq28, ugh19_8, show (hs_fI h19 97 29).toInt.toNat = (hs_fI h19 97 29).toInt.toNat by omega]
        have wq28111 : hs_aI h27 111 = (upd (hs_aI h 111) (hs_fI h19 97 29).toInt.toNat z25) := by rw [yq28, ugh19_9, show (hs_fI h19 97 29).toInt.toNat = (hs_fI h19 97 29).toInt.toNat by omega]
        refine hq_p rfl rfl ?_
        refine hq_p rfl rfl ?_
        refine ty_zeq rfl (fun c30 => ?_) (fun c30 => ?_)
        · exfalso; omega
        · clear c30
          refine hq_p rfl rfl (ty_ge (n := 29) nk_b29 (fun z31 ez31 => ?_))
          refine hq_p rfl rfl ?_
          refine hq_p rfl rfl (ty_ge (n := 0) nk_i0 (fun z32 ez32 => ?_))
          refine ty_callm 0 [(0, 97, 13), (0, 97, 14), (0, 97, 15), (0, 97, 16), (0, 97, 19), (0, 97, 26), (0, 97, 29), (0, 97, 30), (2, 97, 17), (3, 110, 0), (3, 111, 0)] (W := ty_Wps) H Jh27 rfl (fun _ => rfl) rfl rfl rfl (hq_pre_o Ih27.1 (x := 97) (ci := 11) rfl (by decide) rfl rfl rfl rfl) (fun a k w => by unfold ty_We at w; unfold ty_Wps; omega) (by unfold ty_We ty_Wps; omega) (ct_178 (x1 := z31) (x2 := z32) (by omega) (by omega) (by omega)) ⟨⟨rfl, show ¬ ty_We 97 13 by unfold ty_We; omega⟩, ⟨rfl, show ¬ ty_We 97 14 by unfold ty_We; omega⟩, ⟨rfl, show ¬ ty_We 97 15 by unfold ty_We; omega⟩, ⟨rfl, show ¬ ty_We 97 16 by unfold ty_We; omega⟩, ⟨rfl, show ¬ ty_We 97 19 by unfold ty_We; omega⟩, ⟨rfl, show ¬ ty_We 97 26 by unfold ty_We; omega⟩, ⟨rfl, show ¬ ty_We 97 29 by unfold ty_We; omega⟩, ⟨rfl, show ¬ ty_We 97 30 by unfold ty_We; omega⟩, ⟨rfl, show ¬ ty_We 97 17 by unfold ty_We; omega⟩, ⟨rfl, fun k => show ¬ ty_We 110 k by unfold ty_We; omega⟩, ⟨rfl, fun k => show ¬ ty_We 111 k by unfold ty_We; omega⟩, trivial⟩ (fun h34 _ Jh34 gh34 P33 => ?_)
          obtain ⟨gh34_0, gh34_1, gh34_2, gh34_3, gh34_4, gh34_5, gh34_6, gh34_7, gh34_8, gh34_9, gh34_10, _⟩ := gh34
          have gh34_0 : (hs_fI h34 97 13).toInt = (hs_fI h27 97 13).toInt := gh34_0
          have gh34_1 : (hs_fI h34 97 14).toInt = (hs_fI h27 97 14).toInt := gh34_1
          have gh34_2 : (hs_fI h34 97 15).toInt = (hs_fI h27 97 15).toInt := gh34_2
          have gh34_3 : (hs_fI h34 97 16).toInt = (hs_fI h27 97 16).toInt := gh34_3
          have gh34_4 : (hs_fI h34 97 19).toInt = (hs_fI h27 97 19).toInt := gh34_4
          have gh34_5 : (hs_fI h34 97 26).toInt = (hs_fI h27 97 26).toInt := gh34_5
          have gh34_6 : (hs_fI h34 97 29).toInt = (hs_fI h27 97 29).toInt := gh34_6
          have gh34_7 : (hs_fI h34 97 30).toInt = (hs_fI h27 97 30).toInt := gh34_7
          have gh34_8 : (hs_fL h34 97 17).toInt = (hs_fL h27 97 17).toInt := gh34_8
          have gh34_9 : hs_aI h34 110 = hs_aI h27 110 := gh34_9
          have ugh34_9 : hs_aI h34 110 = (upd (hs_aI h 110) (hs_fI h19 97 29).toInt.toNat z24) := gh34_9.trans wq28110
          have gh34_10 : hs_aI h34 111 = hs_aI h27 111 := gh34_10
          have ugh34_10 : hs_aI h34 111 = (upd (hs_aI h 111) (hs_fI h19 97 29).toInt.toNat z25) := gh34_10.trans wq28111
          have Ih34 := H.1 h34 Jh34
          obtain ⟨rq35, nq35, xq35, yq35⟩ := P33
          subst rq35
          obtain ⟨q36, eq36⟩ : ∃ q : Int32, q.toInt = (hs_fI h34 97 23).toInt := ⟨_, rfl⟩
          have aq36 : 0 ≤ (hs_fI h34 97 23).toInt := (Ih34.2.1 97 23 (by decide)).1
          have bq36 : (hs_fI h34 97 23).toInt ≤ 400 := (Ih34.2.1 97 23 (by decide)).2
          have wq35108 : hs_aI h34 108 = (upd (hs_aI h19 108) (hs_fI h19 97 23).toInt.toNat z31) := by rw [xq35, ugh27_9, show (hs_fI h27 97 23).toInt.toNat = (hs_fI h19 97 23).toInt.toNat by omega]
          have wq35109 : hs_aI h34 109 = (upd (hs_aI h19 109) (hs_fI h19 97 23).toInt.toNat z32) := by rw [yq35, ugh27_10, show (hs_fI h27 97 23).toInt.toNat = (hs_fI h19 97 23).toInt.toNat by omega]
          refine hq_p rfl rfl ?_
          refine ty_callm 0 [(0, 97, 13), (0, 97, 19), (0, 97, 23), (0, 97, 26), (0, 97, 29), (0, 97, 30), (3, 108, 0), (3, 109, 0), (3, 110, 0), (3, 111, 0)] (W := ty_Wps) H Jh34 rfl (fun _ => rfl) rfl rfl rfl (hq_pre_o Ih34.1 (x := 97) (ci := 11) rfl (by decide) rfl rfl rfl rfl) (fun a k w => by unfold ty_Wn at w; unfold ty_Wps; omega) (by unfold ty_Wn ty_Wps; omega) (ct_172w (by omega) (by omega)) ⟨⟨rfl, show ¬ ty_Wn 97 13 by unfold ty_Wn; omega⟩, ⟨rfl, show ¬ ty_Wn 97 19 by unfold ty_Wn; omega⟩, ⟨rfl, show ¬ ty_Wn 97 23 by unfold ty_Wn; omega⟩, ⟨rfl, show ¬ ty_Wn 97 26 by unfold ty_Wn; omega⟩, ⟨rfl, show ¬ ty_Wn 97 29 by unfold ty_Wn; omega⟩, ⟨rfl, show ¬ ty_Wn 97 30 by unfold ty_Wn; omega⟩, ⟨rfl, fun k => show ¬ ty_Wn 108 k by unfold ty_Wn; omega⟩, ⟨rfl, fun k => show ¬ ty_Wn 109 k by unfold ty_Wn; omega⟩, ⟨rfl, fun k => show ¬ ty_Wn 110 k by unfold ty_Wn; omega⟩, ⟨rfl, fun k => show ¬ ty_Wn 111 k by unfold ty_Wn; omega⟩, trivial⟩ (fun h38 _ Jh38 gh38 P37 => ?_)
          obtain ⟨gh38_0, gh38_1, gh38_2, gh38_3, gh38_4, gh38_5, gh38_6, gh38_7, gh38_8, gh38_9, _⟩ := gh38
          have gh38_0 : (hs_fI h38 97 13).toInt = (hs_fI h34 97 13).toInt := gh38_0
          have gh38_1 : (hs_fI h38 97 19).toInt = (hs_fI h34 97 19).toInt := gh38_1
          have gh38_2 : (hs_fI h38 97 23).toInt = (hs_fI h34 97 23).toInt := gh38_2
          have gh38_3 : (hs_fI h38 97 26).toInt = (hs_fI h34 97 26).toInt := gh38_3
          have gh38_4 : (hs_fI h38 97 29).toInt = (hs_fI h34 97 29).toInt := gh38_4
          have gh38_5 : (hs_fI h38 97 30).toInt = (hs_fI h34 97 30).toInt := gh38_5
          have gh38_6 : hs_aI h38 108 = hs_aI h34 108 := gh38_6
          have ugh38_6 : hs_aI h38 108 = (upd (hs_aI h19 108) (hs_fI h19 97 23).toInt.toNat z31) := gh38_6.trans wq35108
          have gh38_7 : hs_aI h38 109 = hs_aI h34 109 := gh38_7
          have ugh38_7 : hs_aI h38 109 = (upd (hs_aI h19 109) (hs_fI h19 97 23).toInt.toNat z32) := gh38_7.trans wq35109
          have gh38_8 : hs_aI h38 110 = hs_aI h34 110 := gh38_8
          have ugh38_8 : hs_aI h38 110 = (upd (hs_aI h 110) (hs_fI h19 97 29).toInt.toNat z24) := gh38_8.trans ugh34_9
          have gh38_9 : hs_aI h38 111 = hs_aI h34 111 := gh38_9
          have ugh38_9 : hs_aI h38 111 = (upd (hs_aI h 111) (hs_fI h19 97 29).toInt.toNat z25) := gh38_9.trans ugh34_10
          have Ih38 := H.1 h38 Jh38
          obtain ⟨rq39, fq39, kq39⟩ := P37
          subst rq39
          have t1kq39 := kq39.1
          have t2kq39 := kq39.2.1
          obtain ⟨q40, eq40⟩ : ∃ q : Int32, q.toInt = (hs_fI h38 97 14).toInt := ⟨_, rfl⟩
          have aq40 : 0 ≤ (hs_fI h38 97 14).toInt := (Ih38.2.1 97 14 (by decide)).1
          have bq40 : (hs_fI h38 97 14).toInt ≤ 400 := (Ih38.2.1 97 14 (by decide)).2
          obtain ⟨q41, eq41⟩ : ∃ q : Int32, q.toInt = (hs_fI h38 97 15).toInt := ⟨_, rfl⟩
          have aq41 : 0 ≤ (hs_fI h38 97 15).toInt := (Ih38.2.1 97 15 (by decide)).1
          have bq41 : (hs_fI h38 97 15).toInt ≤ 400 := (Ih38.2.1 97 15 (by decide)).2
          obtain ⟨q42, eq42⟩ : ∃ q : Int32, q.toInt = (hs_fI h38 97 16).toInt := ⟨_, rfl⟩
          have aq42 := nm_lo q42
          have bq42 := nm_hi q42
          obtain ⟨q43, eq43⟩ : ∃ q : Int64, q.toInt = (hs_fL h38 97 17).toInt := ⟨_, rfl⟩
          have aq43 := nm_llo q43
          have bq43 := nm_lhi q43
          refine hq_p rfl rfl (ty_ge (n := 0) nk_i0 (fun z44 ez44 => ?_))
          have zf : pz op0 ar0 s 0 h38 := by
            show pq ((hs_fI h38 97 19).toInt = 0) (hs_aI h38 108) (hs_aI h38 109) (hs_aI h38 110) (hs_aI h38 111) op0 ar0 s (hs_fI h38 97 23).toInt (hs_fI h38 97 29).toInt (hs_fI h38 97 30).toInt (hs_fI h38 97 14).toInt 0
            rw [ugh38_6, ugh38_7, ugh38_8, ugh38_9, show (hs_fI h38 97 23).toInt = (hs_fI h19 97 23).toInt + 1 by omega, show (hs_fI h38 97 29).toInt = (hs_fI h19 97 29).toInt + 1 by omega, show (hs_fI h38 97 30).toInt = (hs_fI h 97 30).toInt by omega]
            exact pq_and (pq_g (g' := (hs_fI h38 97 19).toInt = 0) zq20 (fun _ => ⟨by omega, rfl⟩) (Int.le_refl _)) (by omega) (by omega) (by omega) (by omega) (by omega) (by omega) (ps_nsl hn0 (by omega))
          exact hq_W.ret rfl rfl rfl ⟨Jh38, _, rfl, by omega, kq39, by omega, by omega, (fun q => by omega), ⟨by rw [if_pos (by omega)]; exact zf, fun q => ⟨fun _ => (by show ps_ns (pt (hs_aI h38 110)) (hs_fI h38 97 29).toInt.toNat; rw [ugh38_8, show (hs_fI h38 97 29).toInt = (hs_fI h19 97 29).toInt + 1 by omega]; exact ps_nsu (ps_nsl hn0 (by omega)) (by omega) (by omega)), fun q => by exfalso; omega⟩⟩⟩
  · clear iz13
    refine hq_p rfl rfl ?_
    refine hq_p rfl rfl (ty_gle (n := 498) (by decide) (fun z46 ez46 => ?_))
    refine ty_callp 0 I rfl (fun _ => rfl) rfl rfl rfl (hq_pre_o I.1 (x := 97) (ci := 11) rfl (by decide) rfl rfl rfl rfl) (ct_173w (x1 := z46) (by omega)) (fun _ P47 => ?_)
    obtain ⟨z48, rfl, az48, bz48, iz48⟩ := P47
    refine ty_zeq rfl (fun c49 => ?_) (fun c49 => ?_)
    · clear iz48
      refine hq_p rfl rfl ?_
      refine ty_callp 0 I rfl (fun _ => rfl) rfl rfl rfl (hq_pre_o I.1 (x := 97) (ci := 11) rfl (by decide) rfl rfl rfl rfl) (ct_182e (by omega)) (fun _ P50 => ?_)
      obtain ⟨z51, rfl, fz51⟩ := P50
      have az51 := nm_lo z51
      have bz51 := nm_hi z51
      refine hq_p rfl rfl (ty_ge (n := -1) nk_im1 (fun z52 ez52 => ?_))
      refine ty_ine rfl (fun c53 => ?_) (fun c53 => ?_)
      · replace c53 : z51.toInt ≠ z52.toInt := by omega
        refine hq_p rfl rfl ?_
        refine hq_p rfl rfl ?_
        refine hq_p rfl rfl (ty_ge (n := 41) nk_b41 (fun z54 ez54 => ?_))
        refine ty_callp 0 I rfl (fun _ => rfl) rfl rfl rfl (hq_pre_o I.1 (x := 97) (ci := 11) rfl (by decide) rfl rfl rfl rfl) (ct_174w (x1 := z54) (by omega)) (fun _ P55 => ?_)
        obtain ⟨z56, rfl, az56, bz56, iz56⟩ := P55
        refine ty_callm 0 [(0, 97, 13), (0, 97, 23), (0, 97, 26), (0, 97, 29), (0, 97, 30), (3, 108, 0), (3, 109, 0), (3, 110, 0), (3, 111, 0)] (W := ty_Wps) H hJ rfl (fun _ => rfl) rfl rfl rfl (hq_pre_o I.1 (x := 97) (ci := 11) rfl (by decide) rfl rfl rfl rfl) (fun a k w => by unfold ty_Wo at w; unfold ty_Wps; omega) (by unfold ty_Wo ty_Wps; omega) (ct_175w (x1 := z56) (by omega) (by omega) (by omega) hk) ⟨⟨rfl, show ¬ ty_Wo 97 13 by unfold ty_Wo; omega⟩, ⟨rfl, show ¬ ty_Wo 97 23 by unfold ty_Wo; omega⟩, ⟨rfl, show ¬ ty_Wo 97 26 by unfold ty_Wo; omega⟩, ⟨rfl, show ¬ ty_Wo 97 29 by unfold ty_Wo; omega⟩, ⟨rfl, show ¬ ty_Wo 97 30 by unfold ty_Wo; omega⟩, ⟨rfl, fun k => show ¬ ty_Wo 108 k by unfold ty_Wo; omega⟩, ⟨rfl, fun k => show ¬ ty_Wo 109 k by unfold ty_Wo; omega⟩, ⟨rfl, fun k => show ¬ ty_Wo 110 k by unfold ty_Wo; omega⟩, ⟨rfl, fun k => show ¬ ty_Wo 111 k by unfold ty_Wo; omega⟩, trivial⟩ (fun h58 _ Jh58 gh58 P57 => ?_)
        obtain ⟨gh58_0, gh58_1, gh58_2, gh58_3, gh58_4, gh58_5, gh58_6, gh58_7, gh58_8, _⟩ := gh58
        have gh58_0 : (hs_fI h58 97 13).toInt = (hs_fI h 97 13).toInt := gh58_0
        have gh58_1 : (hs_fI h58 97 23).toInt = (hs_fI h 97 23).toInt := gh58_1
        have gh58_2 : (hs_fI h58 97 26).toInt = (hs_fI h 97 26).toInt := gh58_2
        have gh58_3 : (hs_fI h58 97 29).toInt = (hs_fI h 97 29).toInt := gh58_3
        have gh58_4 : (hs_fI h58 97 30).toInt = (hs_fI h 97 30).toInt := gh58_4
        have gh58_5 : hs_aI h58 108 = hs_aI h 108 := gh58_5
        have ugh58_5 : hs_aI h58 108 = (hs_aI h 108) := gh58_5.trans rfl
        have gh58_6 : hs_aI h58 109 = hs_aI h 109 := gh58_6
        have ugh58_6 : hs_aI h58 109 = (hs_aI h 109) := gh58_6.trans rfl
        have gh58_7 : hs_aI h58 110 = hs_aI h 110 := gh58_7
        have ugh58_7 : hs_aI h58 110 = (hs_aI h 110) := gh58_7.trans rfl
        have gh58_8 : hs_aI h58 111 = hs_aI h 111 := gh58_8
        have ugh58_8 : hs_aI h58 111 = (hs_aI h 111) := gh58_8.trans rfl
        have Ih58 := H.1 h58 Jh58
        obtain ⟨rq59, kq59, fq59⟩ := P57
        subst rq59
        have t1kq59 := kq59.1
        have t2kq59 := kq59.2.1
        obtain ⟨q60, eq60⟩ : ∃ q : Int32, q.toInt = (hs_fI h58 97 14).toInt := ⟨_, rfl⟩
        have aq60 : 0 ≤ (hs_fI h58 97 14).toInt := (Ih58.2.1 97 14 (by decide)).1
        have bq60 : (hs_fI h58 97 14).toInt ≤ 400 := (Ih58.2.1 97 14 (by decide)).2
        obtain ⟨q61, eq61⟩ : ∃ q : Int32, q.toInt = (hs_fI h58 97 15).toInt := ⟨_, rfl⟩
        have aq61 : 0 ≤ (hs_fI h58 97 15).toInt := (Ih58.2.1 97 15 (by decide)).1
        have bq61 : (hs_fI h58 97 15).toInt ≤ 400 := (Ih58.2.1 97 15 (by decide)).2
        obtain ⟨q62, eq62⟩ : ∃ q : Int32, q.toInt = (hs_fI h58 97 16).toInt := ⟨_, rfl⟩
        have aq62 := nm_lo q62
        have bq62 := nm_hi q62
        obtain ⟨q63, eq63⟩ : ∃ q : Int32, q.toInt = (hs_fI h58 97 19).toInt := ⟨_, rfl⟩
        have aq63 : 0 ≤ q63.toInt ∧ q63.toInt ≤ 1 := by omega
        obtain ⟨q64, eq64⟩ : ∃ q : Int64, q.toInt = (hs_fL h58 97 17).toInt := ⟨_, rfl⟩
        have aq64 := nm_llo q64
        have bq64 := nm_lhi q64
        refine hq_p rfl rfl ?_
        refine ty_gB Ih58 rfl rfl (by decide) (by decide) rfl (fun z65 ez65 az65 bz65 => ?_)
        refine ty_zne rfl (fun c66 => ?_) (fun c66 => ?_)
        · replace c66 : 1 ≤ z65.toInt ∧ z65.toInt ≤ 1 := by omega
          refine hq_p rfl rfl (ty_ge (n := 2) nk_i2 (fun z67 ez67 => ?_))
          have zf : pz op0 ar0 s 1 h58 := by
            show pq ((hs_fI h58 97 19).toInt = 0) (hs_aI h58 108) (hs_aI h58 109) (hs_aI h58 110) (hs_aI h58 111) op0 ar0 s (hs_fI h58 97 23).toInt (hs_fI h58 97 29).toInt (hs_fI h58 97 30).toInt (hs_fI h58 97 14).toInt 1
            rw [ugh58_5, ugh58_6, ugh58_7, ugh58_8, show (hs_fI h58 97 23).toInt = (hs_fI h 97 23).toInt by omega, show (hs_fI h58 97 29).toInt = (hs_fI h 97 29).toInt by omega, show (hs_fI h58 97 30).toInt = (hs_fI h 97 30).toInt by omega]
            exact pq_g hz (fun q => by exfalso; omega) (by omega)
          exact hq_W.ret rfl rfl rfl ⟨Jh58, _, rfl, by omega, kq59, by omega, by omega, (fun q => by omega), ⟨by rw [if_neg (by omega)]; exact zf, fun q => ⟨fun _ => (by exfalso; omega), fun q => by exfalso; omega⟩⟩⟩
        · refine hq_p rfl rfl ?_
          refine hq_p rfl rfl (ty_ge (n := 1) nk_i1 (fun z69 ez69 => ?_))
          have t3 := hk.2.2.1 (by omega)
          have gF : (hs_fI h 97 14).toInt + 1 ≤ (hs_fI h58 97 14).toInt := by omega
          clear fq59
          clear iz56
          have zm : pq ((hs_fI h58 97 19).toInt = 0) (hs_aI h58 108) (hs_aI h58 109) (hs_aI h58 110) (hs_aI h58 111) op0 ar0 s (hs_fI h58 97 23).toInt (hs_fI h58 97 29).toInt (hs_fI h58 97 30).toInt (hs_fI h 97 14).toInt 1 := by rw [ugh58_5, ugh58_6, ugh58_7, ugh58_8, show (hs_fI h58 97 23).toInt = (hs_fI h 97 23).toInt by omega, show (hs_fI h58 97 29).toInt = (hs_fI h 97 29).toInt by omega, show (hs_fI h58 97 30).toInt = (hs_fI h 97 30).toInt by omega]; exact pq_g (g' := (hs_fI h58 97 19).toInt = 0) hz (fun _ => ⟨hb, rfl⟩) (Int.le_refl _)
          refine ty_callm 0 [(0, 97, 13), (0, 97, 14), (0, 97, 15), (0, 97, 16), (0, 97, 19), (0, 97, 26), (0, 97, 30), (2, 97, 17), (3, 110, 0), (3, 111, 0)] (W := ty_Wps) H Jh58 rfl (fun _ => rfl) rfl rfl rfl (hq_pre_o Ih58.1 (x := 97) (ci := 11) rfl (by decide) rfl rfl rfl rfl) (fun a k w => by unfold ty_Wse at w; unfold ty_Wps; omega) (by unfold ty_Wse ty_Wps; omega) (ct_181 (x1 := z69) (by omega) (by omega) (by omega) zm (by omega)) ⟨⟨rfl, show ¬ ty_Wse 97 13 by unfold ty_Wse; omega⟩, ⟨rfl, show ¬ ty_Wse 97 14 by unfold ty_Wse; omega⟩, ⟨rfl, show ¬ ty_Wse 97 15 by unfold ty_Wse; omega⟩, ⟨rfl, show ¬ ty_Wse 97 16 by unfold ty_Wse; omega⟩, ⟨rfl, show ¬ ty_Wse 97 19 by unfold ty_Wse; omega⟩, ⟨rfl, show ¬ ty_Wse 97 26 by unfold ty_Wse; omega⟩, ⟨rfl, show ¬ ty_Wse 97 30 by unfold ty_Wse; omega⟩, ⟨rfl, show ¬ ty_Wse 97 17 by unfold ty_Wse; omega⟩, ⟨rfl, fun k => show ¬ ty_Wse 110 k by unfold ty_Wse; omega⟩, ⟨rfl, fun k => show ¬ ty_Wse 111 k by unfold ty_Wse; omega⟩, trivial⟩ (fun h71 _ Jh71 gh71 P70 => ?_)
          obtain ⟨gh71_0, gh71_1, gh71_2, gh71_3, gh71_4, gh71_5, gh71_6, gh71_7, gh71_8, gh71_9, _⟩ := gh71
          have gh71_0 : (hs_fI h71 97 13).toInt = (hs_fI h58 97 13).toInt := gh71_0
          have gh71_1 : (hs_fI h71 97 14).toInt = (hs_fI h58 97 14).toInt := gh71_1
          have gh71_2 : (hs_fI h71 97 15).toInt = (hs_fI h58 97 15).toInt := gh71_2
          have gh71_3 : (hs_fI h71 97 16).toInt = (hs_fI h58 97 16).toInt := gh71_3
          have gh71_4 : (hs_fI h71 97 19).toInt = (hs_fI h58 97 19).toInt := gh71_4
          have gh71_5 : (hs_fI h71 97 26).toInt = (hs_fI h58 97 26).toInt := gh71_5
          have gh71_6 : (hs_fI h71 97 30).toInt = (hs_fI h58 97 30).toInt := gh71_6
          have gh71_7 : (hs_fL h71 97 17).toInt = (hs_fL h58 97 17).toInt := gh71_7
          have gh71_8 : hs_aI h71 110 = hs_aI h58 110 := gh71_8
          have ugh71_8 : hs_aI h71 110 = (hs_aI h 110) := gh71_8.trans ugh58_7
          have gh71_9 : hs_aI h71 111 = hs_aI h58 111 := gh71_9
          have ugh71_9 : hs_aI h71 111 = (hs_aI h 111) := gh71_9.trans ugh58_8
          have Ih71 := H.1 h71 Jh71
          obtain ⟨rq72, zq72, stq72, lq72⟩ := P70
          subst rq72
          obtain ⟨q73, eq73⟩ : ∃ q : Int32, q.toInt = (hs_fI h71 97 23).toInt := ⟨_, rfl⟩
          have aq73 : 0 ≤ (hs_fI h71 97 23).toInt := (Ih71.2.1 97 23 (by decide)).1
          have bq73 : (hs_fI h71 97 23).toInt ≤ 400 := (Ih71.2.1 97 23 (by decide)).2
          obtain ⟨q74, eq74⟩ : ∃ q : Int32, q.toInt = (hs_fI h71 97 29).toInt := ⟨_, rfl⟩
          have aq74 : 0 ≤ (hs_fI h71 97 29).toInt := (Ih71.2.1 97 29 (by decide)).1
          have bq74 : (hs_fI h71 97 29).toInt ≤ 400 := (Ih71.2.1 97 29 (by decide)).2
          rw [ugh58_7, ugh58_8] at zq72
          rw [ugh58_7] at stq72
          have y3q72 := zq72.2.2.1
          have y2q72 := zq72.2.1
          have y1q72 := zq72.1
          have st2 := stq72
          rw [show z69.toInt = 1 by omega, show (hs_fI h58 97 29).toInt = (hs_fI h 97 29).toInt by omega] at st2
          have sq := pq_rnd fz51 (by omega) st2 (by omega)
          have sq1 := sq.1
          have sq2 := sq.2
          have pp := pq_pop zq72 (by omega) (by omega)
          have pp1 := pp.1
          refine hq_p rfl rfl ?_
          refine hq_p rfl rfl ?_
          refine ty_gI Ih71 rfl rfl (by decide) (by decide) rfl rfl (fun z75 ez75 az75 bz75 => ?_)
          refine hq_p rfl rfl (ty_ge (n := 1) nk_i1 (fun z76 ez76 => ?_))
          refine hq_p rfl rfl (ty_ge (n := z75.toInt - z76.toInt) (nm_sub (by omega) (by omega)) (fun z77 ez77 => ?_))
          refine ty_pI (W := ty_Wps) H Jh71 rfl rfl (by decide) rfl rfl (by unfold ty_Wps; omega) rfl (by omega) (by omega) (fun h78 eh78 Jh78 => ?_)
          have wh78 : (hs_fI h78 97 29).toInt = z77.toInt := by rw [eh78]; exact congrArg Int32.toInt (ty_fI_eq Ih71.1 rfl (by decide) rfl)
          have vh78_110 : hs_aI h78 110 = (hs_aI h 110) := by rw [eh78]; exact (hs_aI_ne (by decide)).trans ugh71_8
          have vh78_111 : hs_aI h78 111 = (hs_aI h 111) := by rw [eh78]; exact (hs_aI_ne (by decide)).trans ugh71_9
          have vh78_108 : hs_aI h78 108 = (hs_aI h71 108) := by rw [eh78]; exact (hs_aI_ne (by decide)).trans rfl
          have vh78_109 : hs_aI h78 109 = (hs_aI h71 109) := by rw [eh78]; exact (hs_aI_ne (by decide)).trans rfl
          have Ih78 := H.1 h78 Jh78
          refine hq_p rfl rfl ?_
          refine hq_p rfl rfl ?_
          have r80 : (hs_fI h78 97 30).toInt = (hs_fI h71 97 30).toInt := by rw [eh78]; exact congrArg Int32.toInt (ty_fI_sF (by decide))
          refine ty_gI Ih78 rfl rfl (by decide) (by decide) rfl rfl (fun z79 ez79 az79 bz79 => ?_)
          refine hq_p rfl rfl (ty_ge (n := 1) nk_i1 (fun z81 ez81 => ?_))
          refine hq_p rfl rfl (ty_ge (n := z79.toInt - z81.toInt) (nm_sub (by omega) (by omega)) (fun z82 ez82 => ?_))
          refine ty_pI (W := ty_Wps) H Jh78 rfl rfl (by decide) rfl rfl (by unfold ty_Wps; omega) rfl (by omega) (by omega) (fun h83 eh83 Jh83 => ?_)
          have wh83 : (hs_fI h83 97 30).toInt = z82.toInt := by rw [eh83]; exact congrArg Int32.toInt (ty_fI_eq Ih78.1 rfl (by decide) rfl)
          have vh83_110 : hs_aI h83 110 = (hs_aI h 110) := by rw [eh83]; exact (hs_aI_ne (by decide)).trans vh78_110
          have vh83_111 : hs_aI h83 111 = (hs_aI h 111) := by rw [eh83]; exact (hs_aI_ne (by decide)).trans vh78_111
          have vh83_108 : hs_aI h83 108 = (hs_aI h71 108) := by rw [eh83]; exact (hs_aI_ne (by decide)).trans vh78_108
          have vh83_109 : hs_aI h83 109 = (hs_aI h71 109) := by rw [eh83]; exact (hs_aI_ne (by decide)).trans vh78_109
          have Ih83 := H.1 h83 Jh83
          refine hq_p rfl rfl (ty_ge (n := 2) nk_i2 (fun z84 ez84 => ?_))
          have r85 : (hs_fI h78 97 13).toInt = (hs_fI h71 97 13).toInt := by rw [eh78]; exact congrArg Int32.toInt (ty_fI_sF (by decide))
          have r86 : (hs_fI h83 97 13).toInt = (hs_fI h78 97 13).toInt := by rw [eh83]; exact congrArg Int32.toInt (ty_fI_sF (by decide))
          have r87 : (hs_fI h78 97 14).toInt = (hs_fI h71 97 14).toInt := by rw [eh78]; exact congrArg Int32.toInt (ty_fI_sF (by decide))
          have r88 : (hs_fI h83 97 14).toInt = (hs_fI h78 97 14).toInt := by rw [eh83]; exact congrArg Int32.toInt (ty_fI_sF (by decide))
          have r89 : (hs_fI h78 97 15).toInt = (hs_fI h71 97 15).toInt := by rw [eh78]; exact congrArg Int32.toInt (ty_fI_sF (by decide))
          have r90 : (hs_fI h83 97 15).toInt = (hs_fI h78 97 15).toInt := by rw [eh83]; exact congrArg Int32.toInt (ty_fI_sF (by decide))
          have r91 : (hs_fI h78 97 16).toInt = (hs_fI h71 97 16).toInt := by rw [eh78]; exact congrArg Int32.toInt (ty_fI_sF (by decide))
          have r92 : (hs_fI h83 97 16).toInt = (hs_fI h78 97 16).toInt := by rw [eh83]; exact congrArg Int32.toInt (ty_fI_sF (by decide))
          have r93 : (hs_fI h78 97 19).toInt = (hs_fI h71 97 19).toInt := by rw [eh78]; exact congrArg Int32.toInt (ty_fI_sF (by decide))
          have r94 : (hs_fI h83 97 19).toInt = (hs_fI h78 97 19).toInt := by rw [eh83]; exact congrArg Int32.toInt (ty_fI_sF (by decide))
          have r95 : (hs_fI h78 97 23).toInt = (hs_fI h71 97 23).toInt := by rw [eh78]; exact congrArg Int32.toInt (ty_fI_sF (by decide))
          have r96 : (hs_fI h83 97 23).toInt = (hs_fI h78 97 23).toInt := by rw [eh83]; exact congrArg Int32.toInt (ty_fI_sF (by decide))
          have r97 : (hs_fI h78 97 26).toInt = (hs_fI h71 97 26).toInt := by rw [eh78]; exact congrArg Int32.toInt (ty_fI_sF (by decide))
          have r98 : (hs_fI h83 97 26).toInt = (hs_fI h78 97 26).toInt := by rw [eh83]; exact congrArg Int32.toInt (ty_fI_sF (by decide))
          have r99 : (hs_fI h83 97 29).toInt = (hs_fI h78 97 29).toInt := by rw [eh83]; exact congrArg Int32.toInt (ty_fI_sF (by decide))
          have r100 : (hs_fL h78 97 17).toInt = (hs_fL h71 97 17).toInt := by rw [eh78]; exact congrArg Int64.toInt (ty_fL_sF (by decide))
          have r101 : (hs_fL h83 97 17).toInt = (hs_fL h78 97 17).toInt := by rw [eh83]; exact congrArg Int64.toInt (ty_fL_sF (by decide))
          have k102 : tk_ok h83 := tk_same kq59 (by omega) (by omega) (by omega) (by omega) (by omega)
          have zf : pz op0 ar0 s 1 h83 := by
            show pq ((hs_fI h83 97 19).toInt = 0) (hs_aI h83 108) (hs_aI h83 109) (hs_aI h83 110) (hs_aI h83 111) op0 ar0 s (hs_fI h83 97 23).toInt (hs_fI h83 97 29).toInt (hs_fI h83 97 30).toInt (hs_fI h83 97 14).toInt 1
            rw [vh83_108, vh83_109, vh83_110, vh83_111, show (hs_fI h83 97 23).toInt = (hs_fI h71 97 23).toInt by omega, show (hs_fI h83 97 29).toInt = (hs_fI h71 97 29).toInt - 1 by omega, show (hs_fI h83 97 30).toInt = (hs_fI h58 97 30).toInt - 1 by omega]
            exact pq_g pp.2 (fun _ => ⟨by omega, rfl⟩) (by omega)
          exact hq_W.ret rfl rfl rfl ⟨Jh83, _, rfl, by omega, k102, by omega, by omega, (fun q => by omega), ⟨by rw [if_neg (by omega)]; exact zf, fun q => ⟨fun _ => (by show ps_ns (pt (hs_aI h83 110)) (hs_fI h83 97 29).toInt.toNat; rw [vh83_110]; exact ps_nsl hn0 (by omega)), fun q => by exfalso; omega⟩⟩⟩
      · refine hq_p rfl rfl (ty_ge (n := 4) nk_i4 (fun z103 ez103 => ?_))
        exact hq_W.ret rfl rfl rfl ⟨hJ, _, rfl, by omega, hk, by omega, by omega, (fun q => by omega), ⟨by rw [if_neg (by omega)]; exact hz, fun q => ⟨fun q => by exfalso; omega, fun _ => (pq_nb fz51 (by omega))⟩⟩⟩
    · replace c49 : 1 ≤ z48.toInt ∧ z48.toInt ≤ 1 := by omega
      have f104 := iz48 (by omega)
      clear iz48
      have t5 : (hs_fI h 97 14).toInt + 2 ≤ (hs_fI h 97 15).toInt := by have q := hk.2.2.2 (by omega); omega
      refine hq_p rfl rfl ?_
      refine hq_p rfl rfl ?_
      refine ty_zeq rfl (fun c105 => ?_) (fun c105 => ?_)
      · refine hq_p rfl rfl (ty_ge (n := 1) nk_i1 (fun z106 ez106 => ?_))
        refine ty_callm 0 [(0, 97, 13), (0, 97, 14), (0, 97, 15), (0, 97, 16), (0, 97, 19), (0, 97, 26), (0, 97, 30), (2, 97, 17), (3, 110, 0), (3, 111, 0)] (W := ty_Wps) H hJ rfl (fun _ => rfl) rfl rfl rfl (hq_pre_o I.1 (x := 97) (ci := 11) rfl (by decide) rfl rfl rfl rfl) (fun a k w => by unfold ty_Wse at w; unfold ty_Wps; omega) (by unfold ty_Wse ty_Wps; omega) (ct_181 (x1 := z106) (by omega) (by omega) (by omega) hz (by omega)) ⟨⟨rfl, show ¬ ty_Wse 97 13 by unfold ty_Wse; omega⟩, ⟨rfl, show ¬ ty_Wse 97 14 by unfold ty_Wse; omega⟩, ⟨rfl, show ¬ ty_Wse 97 15 by unfold ty_Wse; omega⟩, ⟨rfl, show ¬ ty_Wse 97 16 by unfold ty_Wse; omega⟩, ⟨rfl, show ¬ ty_Wse 97 19 by unfold ty_Wse; omega⟩, ⟨rfl, show ¬ ty_Wse 97 26 by unfold ty_Wse; omega⟩, ⟨rfl, show ¬ ty_Wse 97 30 by unfold ty_Wse; omega⟩, ⟨rfl, show ¬ ty_Wse 97 17 by unfold ty_Wse; omega⟩, ⟨rfl, fun k => show ¬ ty_Wse 110 k by unfold ty_Wse; omega⟩, ⟨rfl, fun k => show ¬ ty_Wse 111 k by unfold ty_Wse; omega⟩, trivial⟩ (fun h108 _ Jh108 gh108 P107 => ?_)
        obtain ⟨gh108_0, gh108_1, gh108_2, gh108_3, gh108_4, gh108_5, gh108_6, gh108_7, gh108_8, gh108_9, _⟩ := gh108
        have gh108_0 : (hs_fI h108 97 13).toInt = (hs_fI h 97 13).toInt := gh108_0
        have gh108_1 : (hs_fI h108 97 14).toInt = (hs_fI h 97 14).toInt := gh108_1
        have gh108_2 : (hs_fI h108 97 15).toInt = (hs_fI h 97 15).toInt := gh108_2
        have gh108_3 : (hs_fI h108 97 16).toInt = (hs_fI h 97 16).toInt := gh108_3
        have gh108_4 : (hs_fI h108 97 19).toInt = (hs_fI h 97 19).toInt := gh108_4
        have gh108_5 : (hs_fI h108 97 26).toInt = (hs_fI h 97 26).toInt := gh108_5
        have gh108_6 : (hs_fI h108 97 30).toInt = (hs_fI h 97 30).toInt := gh108_6
        have gh108_7 : (hs_fL h108 97 17).toInt = (hs_fL h 97 17).toInt := gh108_7
        have gh108_8 : hs_aI h108 110 = hs_aI h 110 := gh108_8
        have ugh108_8 : hs_aI h108 110 = (hs_aI h 110) := gh108_8.trans rfl
        have gh108_9 : hs_aI h108 111 = hs_aI h 111 := gh108_9
        have ugh108_9 : hs_aI h108 111 = (hs_aI h 111) := gh108_9.trans rfl
        have Ih108 := H.1 h108 Jh108
        obtain ⟨rq109, zq109, stq109, lq109⟩ := P107
        subst rq109
        obtain ⟨q110, eq110⟩ : ∃ q : Int32, q.toInt = (hs_fI h108 97 23).toInt := ⟨_, rfl⟩
        have aq110 : 0 ≤ (hs_fI h108 97 23).toInt := (Ih108.2.1 97 23 (by decide)).1
        have bq110 : (hs_fI h108 97 23).toInt ≤ 400 := (Ih108.2.1 97 23 (by decide)).2
        obtain ⟨q111, eq111⟩ : ∃ q : Int32, q.toInt = (hs_fI h108 97 29).toInt := ⟨_, rfl⟩
        have aq111 : 0 ≤ (hs_fI h108 97 29).toInt := (Ih108.2.1 97 29 (by decide)).1
        have bq111 : (hs_fI h108 97 29).toInt ≤ 400 := (Ih108.2.1 97 29 (by decide)).2
        have y3q109 := zq109.2.2.1
        have y2q109 := zq109.2.1
        have y1q109 := zq109.1
        refine hq_p rfl rfl ?_
        refine hq_p rfl rfl ?_
        refine ty_zeq rfl (fun c112 => ?_) (fun c112 => ?_)
        · refine hq_p rfl rfl (ty_ge (n := 30) nk_b30 (fun z113 ez113 => ?_))
          refine hq_p rfl rfl ?_
          refine ty_gI Ih108 rfl rfl (by decide) (by decide) rfl rfl (fun z114 ez114 az114 bz114 => ?_)
          refine ty_callm 0 [(0, 97, 13), (0, 97, 14), (0, 97, 15), (0, 97, 16), (0, 97, 19), (0, 97, 23), (0, 97, 26), (0, 97, 30), (2, 97, 17), (3, 108, 0), (3, 109, 0)] (W := ty_Wps) H Jh108 rfl (fun _ => rfl) rfl rfl rfl (hq_pre_o Ih108.1 (x := 97) (ci := 11) rfl (by decide) rfl rfl rfl rfl) (fun a k w => by unfold ty_Wi at w; unfold ty_Wps; omega) (by unfold ty_Wi ty_Wps; omega) (ct_179 (x1 := z113) (x2 := z114) (by omega) (by omega) (by omega)) ⟨⟨rfl, show ¬ ty_Wi 97 13 by unfold ty_Wi; omega⟩, ⟨rfl, show ¬ ty_Wi 97 14 by unfold ty_Wi; omega⟩, ⟨rfl, show ¬ ty_Wi 97 15 by unfold ty_Wi; omega⟩, ⟨rfl, show ¬ ty_Wi 97 16 by unfold ty_Wi; omega⟩, ⟨rfl, show ¬ ty_Wi 97 19 by unfold ty_Wi; omega⟩, ⟨rfl, show ¬ ty_Wi 97 23 by unfold ty_Wi; omega⟩, ⟨rfl, show ¬ ty_Wi 97 26 by unfold ty_Wi; omega⟩, ⟨rfl, show ¬ ty_Wi 97 30 by unfold ty_Wi; omega⟩, ⟨rfl, show ¬ ty_Wi 97 17 by unfold ty_Wi; omega⟩, ⟨rfl, fun k => show ¬ ty_Wi 108 k by unfold ty_Wi; omega⟩, ⟨rfl, fun k => show ¬ ty_Wi 109 k by unfold ty_Wi; omega⟩, trivial⟩ (fun h116 _ Jh116 gh116 P115 => ?_)
          obtain ⟨gh116_0, gh116_1, gh116_2, gh116_3, gh116_4, gh116_5, gh116_6, gh116_7, gh116_8, gh116_9, gh116_10, _⟩ := gh116
          have gh116_0 : (hs_fI h116 97 13).toInt = (hs_fI h108 97 13).toInt := gh116_0
          have gh116_1 : (hs_fI h116 97 14).toInt = (hs_fI h108 97 14).toInt := gh116_1
          have gh116_2 : (hs_fI h116 97 15).toInt = (hs_fI h108 97 15).toInt := gh116_2
          have gh116_3 : (hs_fI h116 97 16).toInt = (hs_fI h108 97 16).toInt := gh116_3
          have gh116_4 : (hs_fI h116 97 19).toInt = (hs_fI h108 97 19).toInt := gh116_4
          have gh116_5 : (hs_fI h116 97 23).toInt = (hs_fI h108 97 23).toInt := gh116_5
          have gh116_6 : (hs_fI h116 97 26).toInt = (hs_fI h108 97 26).toInt := gh116_6
          have gh116_7 : (hs_fI h116 97 30).toInt = (hs_fI h108 97 30).toInt := gh116_7
          have gh116_8 : (hs_fL h116 97 17).toInt = (hs_fL h108 97 17).toInt := gh116_8
          have gh116_9 : hs_aI h116 108 = hs_aI h108 108 := gh116_9
          have ugh116_9 : hs_aI h116 108 = (hs_aI h108 108) := gh116_9.trans rfl
          have gh116_10 : hs_aI h116 109 = hs_aI h108 109 := gh116_10
          have ugh116_10 : hs_aI h116 109 = (hs_aI h108 109) := gh116_10.trans rfl
          have Ih116 := H.1 h116 Jh116
          obtain ⟨rq117, nq117, xq117, yq117⟩ := P115
          subst rq117
          obtain ⟨q118, eq118⟩ : ∃ q : Int32, q.toInt = (hs_fI h116 97 29).toInt := ⟨_, rfl⟩
          have aq118 : 0 ≤ (hs_fI h116 97 29).toInt := (Ih116.2.1 97 29 (by decide)).1
          have bq118 : (hs_fI h116 97 29).toInt ≤ 400 := (Ih116.2.1 97 29 (by decide)).2
          have wq117110 : hs_aI h116 110 = (upd (hs_aI h 110) (hs_fI h108 97 29).toInt.toNat z113) := by rw [xq117, ugh108_8, show (hs_fI h108 97 29).toInt.toNat = (hs_fI h108 97 29).toInt.toNat by omega]
          have wq117111 : hs_aI h116 111 = (upd (hs_aI h 111) (hs_fI h108 97 29).toInt.toNat z114) := by rw [yq117, ugh108_9, show (hs_fI h108 97 29).toInt.toNat = (hs_fI h108 97 29).toInt.toNat by omega]
          refine hq_p rfl rfl ?_
          refine hq_p rfl rfl ?_
          refine ty_zeq rfl (fun c119 => ?_) (fun c119 => ?_)
          · refine hq_p rfl rfl (ty_ge (n := 30) nk_b30 (fun z120 ez120 => ?_))
            refine hq_p rfl rfl (ty_ge (n := 0) nk_i0 (fun z121 ez121 => ?_))
            refine ty_callm 0 [(0, 97, 13), (0, 97, 14), (0, 97, 15), (0, 97, 16), (0, 97, 19), (0, 97, 26), (0, 97, 29), (0, 97, 30), (2, 97, 17), (3, 110, 0), (3, 111, 0)] (W := ty_Wps) H Jh116 rfl (fun _ => rfl) rfl rfl rfl (hq_pre_o Ih116.1 (x := 97) (ci := 11) rfl (by decide) rfl rfl rfl rfl) (fun a k w => by unfold ty_We at w; unfold ty_Wps; omega) (by unfold ty_We ty_Wps; omega) (ct_178 (x1 := z120) (x2 := z121) (by omega) (by omega) (by omega)) ⟨⟨rfl, show ¬ ty_We 97 13 by unfold ty_We; omega⟩, ⟨rfl, show ¬ ty_We 97 14 by unfold ty_We; omega⟩, ⟨rfl, show ¬ ty_We 97 15 by unfold ty_We; omega⟩, ⟨rfl, show ¬ ty_We 97 16 by unfold ty_We; omega⟩, ⟨rfl, show ¬ ty_We 97 19 by unfold ty_We; omega⟩, ⟨rfl, show ¬ ty_We 97 26 by unfold ty_We; omega⟩, ⟨rfl, show ¬ ty_We 97 29 by unfold ty_We; omega⟩, ⟨rfl, show ¬ ty_We 97 30 by unfold ty_We; omega⟩, ⟨rfl, show ¬ ty_We 97 17 by unfold ty_We; omega⟩, ⟨rfl, fun k => show ¬ ty_We 110 k by unfold ty_We; omega⟩, ⟨rfl, fun k => show ¬ ty_We 111 k by unfold ty_We; omega⟩, trivial⟩ (fun h123 _ Jh123 gh123 P122 => ?_)
            obtain ⟨gh123_0, gh123_1, gh123_2, gh123_3, gh123_4, gh123_5, gh123_6, gh123_7, gh123_8, gh123_9, gh123_10, _⟩ := gh123
            have gh123_0 : (hs_fI h123 97 13).toInt = (hs_fI h116 97 13).toInt := gh123_0
            have gh123_1 : (hs_fI h123 97 14).toInt = (hs_fI h116 97 14).toInt := gh123_1
            have gh123_2 : (hs_fI h123 97 15).toInt = (hs_fI h116 97 15).toInt := gh123_2
            have gh123_3 : (hs_fI h123 97 16).toInt = (hs_fI h116 97 16).toInt := gh123_3
            have gh123_4 : (hs_fI h123 97 19).toInt = (hs_fI h116 97 19).toInt := gh123_4
            have gh123_5 : (hs_fI h123 97 26).toInt = (hs_fI h116 97 26).toInt := gh123_5
            have gh123_6 : (hs_fI h123 97 29).toInt = (hs_fI h116 97 29).toInt := gh123_6
            have gh123_7 : (hs_fI h123 97 30).toInt = (hs_fI h116 97 30).toInt := gh123_7
            have gh123_8 : (hs_fL h123 97 17).toInt = (hs_fL h116 97 17).toInt := gh123_8
            have gh123_9 : hs_aI h123 110 = hs_aI h116 110 := gh123_9
            have ugh123_9 : hs_aI h123 110 = (upd (hs_aI h 110) (hs_fI h108 97 29).toInt.toNat z113) := gh123_9.trans wq117110
            have gh123_10 : hs_aI h123 111 = hs_aI h116 111 := gh123_10
            have ugh123_10 : hs_aI h123 111 = (upd (hs_aI h 111) (hs_fI h108 97 29).toInt.toNat z114) := gh123_10.trans wq117111
            have Ih123 := H.1 h123 Jh123
            obtain ⟨rq124, nq124, xq124, yq124⟩ := P122
            subst rq124
            obtain ⟨q125, eq125⟩ : ∃ q : Int32, q.toInt = (hs_fI h123 97 23).toInt := ⟨_, rfl⟩
            have aq125 : 0 ≤ (hs_fI h123 97 23).toInt := (Ih123.2.1 97 23 (by decide)).1
            have bq125 : (hs_fI h123 97 23).toInt ≤ 400 := (Ih123.2.1 97 23 (by decide)).2
            have wq124108 : hs_aI h123 108 = (upd (hs_aI h108 108) (hs_fI h108 97 23).toInt.toNat z120) := by rw [xq124, ugh116_9, show (hs_fI h116 97 23).toInt.toNat = (hs_fI h108 97 23).toInt.toNat by omega]
            have wq124109 : hs_aI h123 109 = (upd (hs_aI h108 109) (hs_fI h108 97 23).toInt.toNat z121) := by rw [yq124, ugh116_10, show (hs_fI h116 97 23).toInt.toNat = (hs_fI h108 97 23).toInt.toNat by omega]
            refine hq_p rfl rfl ?_
            refine ty_callm 0 [(0, 97, 13), (0, 97, 19), (0, 97, 23), (0, 97, 26), (0, 97, 29), (0, 97, 30), (3, 108, 0), (3, 109, 0), (3, 110, 0), (3, 111, 0)] (W := ty_Wps) H Jh123 rfl (fun _ => rfl) rfl rfl rfl (hq_pre_o Ih123.1 (x := 97) (ci := 11) rfl (by decide) rfl rfl rfl rfl) (fun a k w => by unfold ty_Wn at w; unfold ty_Wps; omega) (by unfold ty_Wn ty_Wps; omega) (ct_172w (by omega) (by omega)) ⟨⟨rfl, show ¬ ty_Wn 97 13 by unfold ty_Wn; omega⟩, ⟨rfl, show ¬ ty_Wn 97 19 by unfold ty_Wn; omega⟩, ⟨rfl, show ¬ ty_Wn 97 23 by unfold ty_Wn; omega⟩, ⟨rfl, show ¬ ty_Wn 97 26 by unfold ty_Wn; omega⟩, ⟨rfl, show ¬ ty_Wn 97 29 by unfold ty_Wn; omega⟩, ⟨rfl, show ¬ ty_Wn 97 30 by unfold ty_Wn; omega⟩, ⟨rfl, fun k => show ¬ ty_Wn 108 k by unfold ty_Wn; omega⟩, ⟨rfl, fun k => show ¬ ty_Wn 109 k by unfold ty_Wn; omega⟩, ⟨rfl, fun k => show ¬ ty_Wn 110 k by unfold ty_Wn; omega⟩, ⟨rfl, fun k => show ¬ ty_Wn 111 k by unfold ty_Wn; omega⟩, trivial⟩ (fun h127 _ Jh127 gh127 P126 => ?_)
            obtain ⟨gh127_0, gh127_1, gh127_2, gh127_3, gh127_4, gh127_5, gh127_6, gh127_7, gh127_8, gh127_9, _⟩ := gh127
            have gh127_0 : (hs_fI h127 97 13).toInt = (hs_fI h123 97 13).toInt := gh127_0
            have gh127_1 : (hs_fI h127 97 19).toInt = (hs_fI h123 97 19).toInt := gh127_1
            have gh127_2 : (hs_fI h127 97 23).toInt = (hs_fI h123 97 23).toInt := gh127_2
            have gh127_3 : (hs_fI h127 97 26).toInt = (hs_fI h123 97 26).toInt := gh127_3
            have gh127_4 : (hs_fI h127 97 29).toInt = (hs_fI h123 97 29).toInt := gh127_4
            have gh127_5 : (hs_fI h127 97 30).toInt = (hs_fI h123 97 30).toInt := gh127_5
            have gh127_6 : hs_aI h127 108 = hs_aI h123 108 := gh127_6
            have ugh127_6 : hs_aI h127 108 = (upd (hs_aI h108 108) (hs_fI h108 97 23).toInt.toNat z120) := gh127_6.trans wq124108
            have gh127_7 : hs_aI h127 109 = hs_aI h123 109 := gh127_7
            have ugh127_7 : hs_aI h127 109 = (upd (hs_aI h108 109) (hs_fI h108 97 23).toInt.toNat z121) := gh127_7.trans wq124109
            have gh127_8 : hs_aI h127 110 = hs_aI h123 110 := gh127_8
            have ugh127_8 : hs_aI h127 110 = (upd (hs_aI h 110) (hs_fI h108 97 29).toInt.toNat z113) := gh127_8.trans ugh123_9
            have gh127_9 : hs_aI h127 111 = hs_aI h123 111 := gh127_9
            have ugh127_9 : hs_aI h127 111 = (upd (hs_aI h 111) (hs_fI h108 97 29).toInt.toNat z114) := gh127_9.trans ugh123_10
            have Ih127 := H.1 h127 Jh127
            obtain ⟨rq128, fq128, kq128⟩ := P126
            subst rq128
            have t1kq128 := kq128.1
            have t2kq128 := kq128.2.1
            obtain ⟨q129, eq129⟩ : ∃ q : Int32, q.toInt = (hs_fI h127 97 14).toInt := ⟨_, rfl⟩
            have aq129 : 0 ≤ (hs_fI h127 97 14).toInt := (Ih127.2.1 97 14 (by decide)).1
            have bq129 : (hs_fI h127 97 14).toInt ≤ 400 := (Ih127.2.1 97 14 (by decide)).2
            obtain ⟨q130, eq130⟩ : ∃ q : Int32, q.toInt = (hs_fI h127 97 15).toInt := ⟨_, rfl⟩
            have aq130 : 0 ≤ (hs_fI h127 97 15).toInt := (Ih127.2.1 97 15 (by decide)).1
            have bq130 : (hs_fI h127 97 15).toInt ≤ 400 := (Ih127.2.1 97 15 (by decide)).2
            obtain ⟨q131, eq131⟩ : ∃ q : Int32, q.toInt = (hs_fI h127 97 16).toInt := ⟨_, rfl⟩
            have aq131 := nm_lo q131
            have bq131 := nm_hi q131
            obtain ⟨q132, eq132⟩ : ∃ q : Int64, q.toInt = (hs_fL h127 97 17).toInt := ⟨_, rfl⟩
            have aq132 := nm_llo q132
            have bq132 := nm_lhi q132
            refine hq_p rfl rfl (ty_ge (n := 0) nk_i0 (fun z133 ez133 => ?_))
            have zf : pz op0 ar0 s 0 h127 := by
              show pq ((hs_fI h127 97 19).toInt = 0) (hs_aI h127 108) (hs_aI h127 109) (hs_aI h127 110) (hs_aI h127 111) op0 ar0 s (hs_fI h127 97 23).toInt (hs_fI h127 97 29).toInt (hs_fI h127 97 30).toInt (hs_fI h127 97 14).toInt 0
              rw [ugh127_6, ugh127_7, ugh127_8, ugh127_9, show (hs_fI h127 97 23).toInt = (hs_fI h108 97 23).toInt + 1 by omega, show (hs_fI h127 97 29).toInt = (hs_fI h108 97 29).toInt + 1 by omega, show (hs_fI h127 97 30).toInt = (hs_fI h 97 30).toInt by omega]
              exact pq_and (pq_g (g' := (hs_fI h127 97 19).toInt = 0) zq109 (fun _ => ⟨by omega, rfl⟩) (Int.le_refl _)) (by omega) (by omega) (by omega) (by omega) (by omega) (by omega) (ps_nsl hn0 (by omega))
            exact hq_W.ret rfl rfl rfl ⟨Jh127, _, rfl, by omega, kq128, by omega, by omega, (fun q => by omega), ⟨by rw [if_pos (by omega)]; exact zf, fun q => ⟨fun _ => (by show ps_ns (pt (hs_aI h127 110)) (hs_fI h127 97 29).toInt.toNat; rw [ugh127_8, show (hs_fI h127 97 29).toInt = (hs_fI h108 97 29).toInt + 1 by omega]; exact ps_nsu (ps_nsl hn0 (by omega)) (by omega) (by omega)), fun q => by exfalso; omega⟩⟩⟩
          · exfalso; omega
        · exfalso; omega
      · exfalso; omega
end CT51
