/-! CONTRACTS (printed by wip/pm/cts.py) -/
section CT49
set_option maxHeartbeats 20000000 in
theorem ct_188 {X : pm_X} {d : Nat} {h : pm_H}  {op0 ar0 : Nat → Int} {s : Nat} (hd : 5 ≤ d)  (hb : (hs_fI h 97 19).toInt = 0) (hk : tk_ok h) (hz : pz op0 ar0 s 0 h) : ty_M X ty_Wps d 188 [.ref 97] h (fun h1 v => ∃ z : Int32, v = some (.int z) ∧ (z.toInt = 1 ∨ z.toInt = 3) ∧ tk_ok h1 ∧ (hs_fI h 97 14).toInt ≤ (hs_fI h1 97 14).toInt ∧ ((hs_fI h1 97 19).toInt = 0 ∨ (hs_fI h1 97 19).toInt = 1) ∧ ((hs_fI h1 97 19).toInt = 0 → (hs_fI h 97 14).toInt + 1 ≤ (hs_fI h1 97 14).toInt) ∧ tz op0 ar0 s z.toInt h1) := by
  intro J H hJ
  obtain ⟨d, rfl⟩ : ∃ e, d = e + 1 := ⟨d - 1, by omega⟩
  have I := H.1 h hJ
  refine hq_M.enter (q := (⟨"TrainBearersModel", "readPart", "()I"⟩, _, 4, some .int, 11, 1, pm_c188)) rfl rfl ?_
  show hq_W X d 11 false (some .int) pm_c188 (0, [some (.ref 97), none, none, none], [], h) (fun h' v => J h' ∧ (fun h1 v => ∃ z : Int32, v = some (.int z) ∧ (z.toInt = 1 ∨ z.toInt = 3) ∧ tk_ok h1 ∧ (hs_fI h 97 14).toInt ≤ (hs_fI h1 97 14).toInt ∧ ((hs_fI h1 97 19).toInt = 0 ∨ (hs_fI h1 97 19).toInt = 1) ∧ ((hs_fI h1 97 19).toInt = 0 → (hs_fI h 97 14).toInt + 1 ≤ (hs_fI h1 97 14).toInt) ∧ tz op0 ar0 s z.toInt h1) h' v)
  obtain ⟨q1, eq1⟩ : ∃ q : Int32, q.toInt = (hs_fI h 97 13).toInt := ⟨_, rfl⟩
  have aq1 : 0 ≤ (hs_fI h 97 13).toInt := (I.2.1 97 13 (by decide)).1
  have bq1 : (hs_fI h 97 13).toInt ≤ 400 := (I.2.1 97 13 (by decide)).2
  obtain ⟨q2, eq2⟩ : ∃ q : Int32, q.toInt = (hs_fI h 97 14).toInt := ⟨_, rfl⟩
  have aq2 : 0 ≤ (hs_fI h 97 14).toInt := (I.2.1 97 14 (by decide)).1
  have bq2 : (hs_fI h 97 14).toInt ≤ 400 := (I.2.1 97 14 (by decide)).2
  obtain ⟨q3, eq3⟩ : ∃ q : Int32, q.toInt = (hs_fI h 97 15).toInt := ⟨_, rfl⟩
  have aq3 : 0 ≤ (hs_fI h 97 15).toInt := (I.2.1 97 15 (by decide)).1
  have bq3 : (hs_fI h 97 15).toInt ≤ 400 := (I.2.1 97 15 (by decide)).2
  obtain ⟨q4, eq4⟩ : ∃ q : Int32, q.toInt = (hs_fI h 97 16).toInt := ⟨_, rfl⟩
  have aq4 := nm_lo q4
  have bq4 := nm_hi q4
  obtain ⟨q5, eq5⟩ : ∃ q : Int32, q.toInt = (hs_fI h 97 19).toInt := ⟨_, rfl⟩
  have aq5 : 0 ≤ q5.toInt ∧ q5.toInt ≤ 1 := by omega
  obtain ⟨q6, eq6⟩ : ∃ q : Int32, q.toInt = (hs_fI h 97 23).toInt := ⟨_, rfl⟩
  have aq6 : 0 ≤ (hs_fI h 97 23).toInt := (I.2.1 97 23 (by decide)).1
  have bq6 : (hs_fI h 97 23).toInt ≤ 400 := (I.2.1 97 23 (by decide)).2
  obtain ⟨q7, eq7⟩ : ∃ q : Int32, q.toInt = (hs_fI h 97 26).toInt := ⟨_, rfl⟩
  have aq7 : 0 ≤ (hs_fI h 97 26).toInt := (I.2.1 97 26 (by decide)).1
  have bq7 : (hs_fI h 97 26).toInt ≤ 50 := (I.2.1 97 26 (by decide)).2
  obtain ⟨q8, eq8⟩ : ∃ q : Int32, q.toInt = (hs_fI h 97 29).toInt := ⟨_, rfl⟩
  have aq8 : 0 ≤ (hs_fI h 97 29).toInt := (I.2.1 97 29 (by decide)).1
  have bq8 : (hs_fI h 97 29).toInt ≤ 400 := (I.2.1 97 29 (by decide)).2
  obtain ⟨q9, eq9⟩ : ∃ q : Int32, q.toInt = (hs_fI h 97 30).toInt := ⟨_, rfl⟩
  have aq9 : 0 ≤ (hs_fI h 97 30).toInt := (I.2.1 97 30 (by decide)).1
  have bq9 : (hs_fI h 97 30).toInt ≤ 8 := (I.2.1 97 30 (by decide)).2
  obtain ⟨q10, eq10⟩ : ∃ q : Int64, q.toInt = (hs_fL h 97 17).toInt := ⟨_, rfl⟩
  have aq10 := nm_llo q10
  have bq10 := nm_lhi q10
  have t1 := hk.1
  have t2 := hk.2.1
  have t3 := hk.2.2.1
  have z3 : (hs_fI h 97 23).toInt + (hs_fI h 97 29).toInt ≤ (hs_fI h 97 14).toInt := hz.2.2.1
  have z2 : (s : Int) ≤ (hs_fI h 97 23).toInt := hz.2.1
  refine hq_p rfl rfl ?_
  refine hq_p rfl rfl (ty_ge (n := 91) nk_b91 (fun z11 ez11 => ?_))
  refine ty_callp 0 I rfl (fun _ => rfl) rfl rfl rfl (hq_pre_o I.1 (x := 97) (ci := 11) rfl (by decide) rfl rfl rfl rfl) (ct_174w (x1 := z11) (by omega)) (fun _ P12 => ?_)
  obtain ⟨z13, rfl, az13, bz13, iz13⟩ := P12
  refine ty_zeq rfl (fun c14 => ?_) (fun c14 => ?_)
  · refine hq_p rfl rfl ?_
    refine ty_gB I rfl rfl (by decide) (by decide) rfl (fun z15 ez15 az15 bz15 => ?_)
    refine ty_zeq rfl (fun c16 => ?_) (fun c16 => ?_)
    · refine hq_p rfl rfl ?_
      refine ty_callp 0 I rfl (fun _ => rfl) rfl rfl rfl (hq_pre_o I.1 (x := 97) (ci := 11) rfl (by decide) rfl rfl rfl rfl) (ct_184w (by omega)) (fun _ P17 => ?_)
      obtain ⟨z18, rfl, az18, bz18, cz18, iz18⟩ := P17
      refine hq_p (ls' := [some (.ref 97), some (.int z18), none, none]) rfl rfl ?_
      refine hq_p rfl rfl ?_
      refine ty_gI I rfl rfl (by decide) (by decide) rfl rfl (fun z19 ez19 az19 bz19 => ?_)
      refine hq_p rfl rfl (ty_ge (n := 2) nk_i2 (fun z20 ez20 => ?_))
      refine ty_ine rfl (fun c21 => ?_) (fun c21 => ?_)
      · clear c21
        refine hq_p rfl rfl (ty_ge (n := 0) nk_i0 (fun z22 ez22 => ?_))
        refine hq_p (ls' := [some (.ref 97), some (.int z18), some (.int z22), none]) rfl rfl ?_
        refine hq_p rfl rfl ?_
        refine hq_p rfl rfl ?_
        refine hq_p rfl rfl (ty_ge (n := -1) nk_im1 (fun z23 ez23 => ?_))
        refine ty_ine rfl (fun c24 => ?_) (fun c24 => ?_)
        · replace c24 : 0 ≤ z18.toInt ∧ z18.toInt ≤ 10 := by omega
          refine hq_p rfl rfl (ty_ge (n := 1) nk_i1 (fun z25 ez25 => ?_))
          refine hq_p rfl rfl ?_
          refine hq_p rfl rfl ?_
          refine hq_p rfl rfl (ty_ge (n := -1) nk_im1 (fun z26 ez26 => ?_))
          refine ty_ine rfl (fun c27 => ?_) (fun c27 => ?_)
          · clear c27
            refine hq_p rfl rfl ?_
            refine hq_p rfl rfl ?_
            refine ty_zeq rfl (fun c28 => ?_) (fun c28 => ?_)
            · refine hq_p rfl rfl (ty_ge (n := 0) nk_i0 (fun z29 ez29 => ?_))
              refine ty_callm 0 [(0, 97, 13), (0, 97, 20)] (W := ty_Wps) H hJ rfl (fun _ => rfl) rfl rfl rfl (hq_pre_o I.1 (x := 97) (ci := 11) rfl (by decide) rfl rfl rfl rfl) (fun _ _ w => w) (fun _ w => w) (ct_187 (x1 := z25) (x2 := z18) (x3 := z29) (by omega) (by omega) (by omega) (by omega) (by omega) (by omega) hk (fun q => by omega) hz) ⟨⟨rfl, show ¬ ty_Wps 97 13 by unfold ty_Wps; omega⟩, ⟨rfl, show ¬ ty_Wps 97 20 by unfold ty_Wps; omega⟩, trivial⟩ (fun h31 _ Jh31 gh31 P30 => ?_)
              obtain ⟨gh31_0, gh31_1, _⟩ := gh31
              have gh31_0 : (hs_fI h31 97 13).toInt = (hs_fI h 97 13).toInt := gh31_0
              have gh31_1 : (hs_fI h31 97 20).toInt = (hs_fI h 97 20).toInt := gh31_1
              have Ih31 := H.1 h31 Jh31
              obtain ⟨rq32, kq32, fq32, oq32, pq32, zq32, nq32⟩ := P30
              subst rq32
              obtain ⟨q33, eq33⟩ : ∃ q : Int32, q.toInt = (hs_fI h31 97 14).toInt := ⟨_, rfl⟩
              have aq33 : 0 ≤ (hs_fI h31 97 14).toInt := (Ih31.2.1 97 14 (by decide)).1
              have bq33 : (hs_fI h31 97 14).toInt ≤ 400 := (Ih31.2.1 97 14 (by decide)).2
              obtain ⟨q34, eq34⟩ : ∃ q : Int32, q.toInt = (hs_fI h31 97 15).toInt := ⟨_, rfl⟩
              have aq34 : 0 ≤ (hs_fI h31 97 15).toInt := (Ih31.2.1 97 15 (by decide)).1
              have bq34 : (hs_fI h31 97 15).toInt ≤ 400 := (Ih31.2.1 97 15 (by decide)).2
              obtain ⟨q35, eq35⟩ : ∃ q : Int32, q.toInt = (hs_fI h31 97 16).toInt := ⟨_, rfl⟩
              have aq35 := nm_lo q35
              have bq35 := nm_hi q35
              obtain ⟨q36, eq36⟩ : ∃ q : Int32, q.toInt = (hs_fI h31 97 19).toInt := ⟨_, rfl⟩
              have aq36 : 0 ≤ q36.toInt ∧ q36.toInt ≤ 1 := by omega
              obtain ⟨q37, eq37⟩ : ∃ q : Int32, q.toInt = (hs_fI h31 97 23).toInt := ⟨_, rfl⟩
              have aq37 : 0 ≤ (hs_fI h31 97 23).toInt := (Ih31.2.1 97 23 (by decide)).1
              have bq37 : (hs_fI h31 97 23).toInt ≤ 400 := (Ih31.2.1 97 23 (by decide)).2
              obtain ⟨q38, eq38⟩ : ∃ q : Int32, q.toInt = (hs_fI h31 97 29).toInt := ⟨_, rfl⟩
              have aq38 : 0 ≤ (hs_fI h31 97 29).toInt := (Ih31.2.1 97 29 (by decide)).1
              have bq38 : (hs_fI h31 97 29).toInt ≤ 400 := (Ih31.2.1 97 29 (by decide)).2
              obtain ⟨q39, eq39⟩ : ∃ q : Int32, q.toInt = (hs_fI h31 97 30).toInt := ⟨_, rfl⟩
              have aq39 : 0 ≤ (hs_fI h31 97 30).toInt := (Ih31.2.1 97 30 (by decide)).1
              have bq39 : (hs_fI h31 97 30).toInt ≤ 8 := (Ih31.2.1 97 30 (by decide)).2
              obtain ⟨q40, eq40⟩ : ∃ q : Int64, q.toInt = (hs_fL h31 97 17).toInt := ⟨_, rfl⟩
              have aq40 := nm_llo q40
              have bq40 := nm_lhi q40
              have t1kq32 := kq32.1
              have t2kq32 := kq32.2.1
              have t3kq32 := kq32.2.2.1
              refine hq_p rfl rfl ?_
              refine ty_gB Ih31 rfl rfl (by decide) (by decide) rfl (fun z41 ez41 az41 bz41 => ?_)
              refine ty_zeq rfl (fun c42 => ?_) (fun c42 => ?_)
              · refine hq_p rfl rfl (ty_ge (n := 3) nk_i3 (fun z43 ez43 => ?_))
                exact hq_W.ret rfl rfl rfl ⟨Jh31, _, rfl, by omega, kq32, by omega, by omega, (fun q => by omega), ⟨by rw [if_neg (by omega)]; exact zq32, fun _ => ⟨fun q => by exfalso; omega, fun q => by exfalso; omega⟩⟩⟩
              · exfalso; omega
            · exfalso; omega
          · exfalso; omega
        · refine hq_p rfl rfl ?_
          refine ty_zeq rfl (fun c45 => ?_) (fun c45 => ?_)
          · refine hq_p rfl rfl (ty_ge (n := 0) nk_i0 (fun z46 ez46 => ?_))
            refine hq_p rfl rfl ?_
            refine hq_p rfl rfl (ty_ge (n := -1) nk_im1 (fun z47 ez47 => ?_))
            refine ty_ine rfl (fun c48 => ?_) (fun c48 => ?_)
            · exfalso; omega
            · refine hq_p rfl rfl (ty_ge (n := 0) nk_i0 (fun z49 ez49 => ?_))
              refine hq_p rfl rfl ?_
              refine hq_p rfl rfl ?_
              refine ty_zeq rfl (fun c50 => ?_) (fun c50 => ?_)
              · refine hq_p rfl rfl (ty_ge (n := 0) nk_i0 (fun z51 ez51 => ?_))
                refine ty_callm 0 [(0, 97, 13), (0, 97, 20)] (W := ty_Wps) H hJ rfl (fun _ => rfl) rfl rfl rfl (hq_pre_o I.1 (x := 97) (ci := 11) rfl (by decide) rfl rfl rfl rfl) (fun _ _ w => w) (fun _ w => w) (ct_187 (x1 := z46) (x2 := z49) (x3 := z51) (by omega) (by omega) (by omega) (by omega) (by omega) (by omega) hk (fun q => by omega) hz) ⟨⟨rfl, show ¬ ty_Wps 97 13 by unfold ty_Wps; omega⟩, ⟨rfl, show ¬ ty_Wps 97 20 by unfold ty_Wps; omega⟩, trivial⟩ (fun h53 _ Jh53 gh53 P52 => ?_)
                obtain ⟨gh53_0, gh53_1, _⟩ := gh53
                have gh53_0 : (hs_fI h53 97 13).toInt = (hs_fI h 97 13).toInt := gh53_0
                have gh53_1 : (hs_fI h53 97 20).toInt = (hs_fI h 97 20).toInt := gh53_1
                have Ih53 := H.1 h53 Jh53
                obtain ⟨rq54, kq54, fq54, oq54, pq54, zq54, nq54⟩ := P52
                subst rq54
                obtain ⟨q55, eq55⟩ : ∃ q : Int32, q.toInt = (hs_fI h53 97 14).toInt := ⟨_, rfl⟩
                have aq55 : 0 ≤ (hs_fI h53 97 14).toInt := (Ih53.2.1 97 14 (by decide)).1
                have bq55 : (hs_fI h53 97 14).toInt ≤ 400 := (Ih53.2.1 97 14 (by decide)).2
                obtain ⟨q56, eq56⟩ : ∃ q : Int32, q.toInt = (hs_fI h53 97 15).toInt := ⟨_, rfl⟩
                have aq56 : 0 ≤ (hs_fI h53 97 15).toInt := (Ih53.2.1 97 15 (by decide)).1
                have bq56 : (hs_fI h53 97 15).toInt ≤ 400 := (Ih53.2.1 97 15 (by decide)).2
                obtain ⟨q57, eq57⟩ : ∃ q : Int32, q.toInt = (hs_fI h53 97 16).toInt := ⟨_, rfl⟩
                have aq57 := nm_lo q57
                have bq57 := nm_hi q57
                obtain ⟨q58, eq58⟩ : ∃ q : Int32, q.toInt = (hs_fI h53 97 19).toInt := ⟨_, rfl⟩
                have aq58 : 0 ≤ q58.toInt ∧ q58.toInt ≤ 1 := by omega
                obtain ⟨q59, eq59⟩ : ∃ q : Int32, q.toInt = (hs_fI h53 97 23).toInt := ⟨_, rfl⟩
                have aq59 : 0 ≤ (hs_fI h53 97 23).toInt := (Ih53.2.1 97 23 (by decide)).1
                have bq59 : (hs_fI h53 97 23).toInt ≤ 400 := (Ih53.2.1 97 23 (by decide)).2
                obtain ⟨q60, eq60⟩ : ∃ q : Int32, q.toInt = (hs_fI h53 97 29).toInt := ⟨_, rfl⟩
                have aq60 : 0 ≤ (hs_fI h53 97 29).toInt := (Ih53.2.1 97 29 (by decide)).1
                have bq60 : (hs_fI h53 97 29).toInt ≤ 400 := (Ih53.2.1 97 29 (by decide)).2
                obtain ⟨q61, eq61⟩ : ∃ q : Int32, q.toInt = (hs_fI h53 97 30).toInt := ⟨_, rfl⟩
                have aq61 : 0 ≤ (hs_fI h53 97 30).toInt := (Ih53.2.1 97 30 (by decide)).1
                have bq61 : (hs_fI h53 97 30).toInt ≤ 8 := (Ih53.2.1 97 30 (by decide)).2
                obtain ⟨q62, eq62⟩ : ∃ q : Int64, q.toInt = (hs_fL h53 97 17).toInt := ⟨_, rfl⟩
                have aq62 := nm_llo q62
                have bq62 := nm_lhi q62
                have t1kq54 := kq54.1
                have t2kq54 := kq54.2.1
                have t3kq54 := kq54.2.2.1
                refine hq_p rfl rfl ?_
                refine ty_gB Ih53 rfl rfl (by decide) (by decide) rfl (fun z63 ez63 az63 bz63 => ?_)
                refine ty_zeq rfl (fun c64 => ?_) (fun c64 => ?_)
                · refine hq_p rfl rfl (ty_ge (n := 3) nk_i3 (fun z65 ez65 => ?_))
                  exact hq_W.ret rfl rfl rfl ⟨Jh53, _, rfl, by omega, kq54, by omega, by omega, (fun q => by omega), ⟨by rw [if_neg (by omega)]; exact zq54, fun _ => ⟨fun q => by exfalso; omega, fun q => by exfalso; omega⟩⟩⟩
                · exfalso; omega
              · exfalso; omega
          · exfalso; omega
      · refine hq_p rfl rfl ?_
        refine ty_gL I rfl rfl (by decide) (by decide) rfl rfl (fun z67 ez67 az67 bz67 => ?_)
        refine hq_p rfl rfl (ty_gle (n := 1000) (by decide) (fun z68 ez68 => ?_))
        refine hq_p rfl rfl (ty_gc (fun z69 ez69 => ?_))
        refine ty_zgt rfl (fun c70 => ?_) (fun c70 => ?_)
        · replace ez69 : z67.toInt > z68.toInt := by omega
          clear c70
          refine hq_p rfl rfl (ty_ge (n := 0) nk_i0 (fun z71 ez71 => ?_))
          refine hq_p (ls' := [some (.ref 97), some (.int z18), some (.int z71), none]) rfl rfl ?_
          refine hq_p rfl rfl ?_
          refine hq_p rfl rfl ?_
          refine hq_p rfl rfl (ty_ge (n := -1) nk_im1 (fun z72 ez72 => ?_))
          refine ty_ine rfl (fun c73 => ?_) (fun c73 => ?_)
          · replace c73 : 0 ≤ z18.toInt ∧ z18.toInt ≤ 10 := by omega
            refine hq_p rfl rfl (ty_ge (n := 1) nk_i1 (fun z74 ez74 => ?_))
            refine hq_p rfl rfl ?_
            refine hq_p rfl rfl ?_
            refine hq_p rfl rfl (ty_ge (n := -1) nk_im1 (fun z75 ez75 => ?_))
            refine ty_ine rfl (fun c76 => ?_) (fun c76 => ?_)
            · clear c76
              refine hq_p rfl rfl ?_
              refine hq_p rfl rfl ?_
              refine ty_zeq rfl (fun c77 => ?_) (fun c77 => ?_)
              · refine hq_p rfl rfl (ty_ge (n := 0) nk_i0 (fun z78 ez78 => ?_))
                refine ty_callm 0 [(0, 97, 13), (0, 97, 20)] (W := ty_Wps) H hJ rfl (fun _ => rfl) rfl rfl rfl (hq_pre_o I.1 (x := 97) (ci := 11) rfl (by decide) rfl rfl rfl rfl) (fun _ _ w => w) (fun _ w => w) (ct_187 (x1 := z74) (x2 := z18) (x3 := z78) (by omega) (by omega) (by omega) (by omega) (by omega) (by omega) hk (fun q => by omega) hz) ⟨⟨rfl, show ¬ ty_Wps 97 13 by unfold ty_Wps; omega⟩, ⟨rfl, show ¬ ty_Wps 97 20 by unfold ty_Wps; omega⟩, trivial⟩ (fun h80 _ Jh80 gh80 P79 => ?_)
                obtain ⟨gh80_0, gh80_1, _⟩ := gh80
                have gh80_0 : (hs_fI h80 97 13).toInt = (hs_fI h 97 13).toInt := gh80_0
                have gh80_1 : (hs_fI h80 97 20).toInt = (hs_fI h 97 20).toInt := gh80_1
                have Ih80 := H.1 h80 Jh80
                obtain ⟨rq81, kq81, fq81, oq81, pq81, zq81, nq81⟩ := P79
                subst rq81
                obtain ⟨q82, eq82⟩ : ∃ q : Int32, q.toInt = (hs_fI h80 97 14).toInt := ⟨_, rfl⟩
                have aq82 : 0 ≤ (hs_fI h80 97 14).toInt := (Ih80.2.1 97 14 (by decide)).1
                have bq82 : (hs_fI h80 97 14).toInt ≤ 400 := (Ih80.2.1 97 14 (by decide)).2
                obtain ⟨q83, eq83⟩ : ∃ q : Int32, q.toInt = (hs_fI h80 97 15).toInt := ⟨_, rfl⟩
                have aq83 : 0 ≤ (hs_fI h80 97 15).toInt := (Ih80.2.1 97 15 (by decide)).1
                have bq83 : (hs_fI h80 97 15).toInt ≤ 400 := (Ih80.2.1 97 15 (by decide)).2
                obtain ⟨q84, eq84⟩ : ∃ q : Int32, q.toInt = (hs_fI h80 97 16).toInt := ⟨_, rfl⟩
                have aq84 := nm_lo q84
                have bq84 := nm_hi q84
                obtain ⟨q85, eq85⟩ : ∃ q : Int32, q.toInt = (hs_fI h80 97 19).toInt := ⟨_, rfl⟩
                have aq85 : 0 ≤ q85.toInt ∧ q85.toInt ≤ 1 := by omega
                obtain ⟨q86, eq86⟩ : ∃ q : Int32, q.toInt = (hs_fI h80 97 23).toInt := ⟨_, rfl⟩
                have aq86 : 0 ≤ (hs_fI h80 97 23).toInt := (Ih80.2.1 97 23 (by decide)).1
                have bq86 : (hs_fI h80 97 23).toInt ≤ 400 := (Ih80.2.1 97 23 (by decide)).2
                obtain ⟨q87, eq87⟩ : ∃ q : Int32, q.toInt = (hs_fI h80 97 29).toInt := ⟨_, rfl⟩
                have aq87 : 0 ≤ (hs_fI h80 97 29).toInt := (Ih80.2.1 97 29 (by decide)).1
                have bq87 : (hs_fI h80 97 29).toInt ≤ 400 := (Ih80.2.1 97 29 (by decide)).2
                obtain ⟨q88, eq88⟩ : ∃ q : Int32, q.toInt = (hs_fI h80 97 30).toInt := ⟨_, rfl⟩
                have aq88 : 0 ≤ (hs_fI h80 97 30).toInt := (Ih80.2.1 97 30 (by decide)).1
                have bq88 : (hs_fI h80 97 30).toInt ≤ 8 := (Ih80.2.1 97 30 (by decide)).2
                obtain ⟨q89, eq89⟩ : ∃ q : Int64, q.toInt = (hs_fL h80 97 17).toInt := ⟨_, rfl⟩
                have aq89 := nm_llo q89
                have bq89 := nm_lhi q89
                have t1kq81 := kq81.1
                have t2kq81 := kq81.2.1
                have t3kq81 := kq81.2.2.1
                refine hq_p rfl rfl ?_
                refine ty_gB Ih80 rfl rfl (by decide) (by decide) rfl (fun z90 ez90 az90 bz90 => ?_)
                refine ty_zeq rfl (fun c91 => ?_) (fun c91 => ?_)
                · refine hq_p rfl rfl (ty_ge (n := 3) nk_i3 (fun z92 ez92 => ?_))
                  exact hq_W.ret rfl rfl rfl ⟨Jh80, _, rfl, by omega, kq81, by omega, by omega, (fun q => by omega), ⟨by rw [if_neg (by omega)]; exact zq81, fun _ => ⟨fun q => by exfalso; omega, fun q => by exfalso; omega⟩⟩⟩
                · exfalso; omega
              · exfalso; omega
            · exfalso; omega
          · refine hq_p rfl rfl ?_
            refine ty_zeq rfl (fun c94 => ?_) (fun c94 => ?_)
            · refine hq_p rfl rfl (ty_ge (n := 0) nk_i0 (fun z95 ez95 => ?_))
              refine hq_p rfl rfl ?_
              refine hq_p rfl rfl (ty_ge (n := -1) nk_im1 (fun z96 ez96 => ?_))
              refine ty_ine rfl (fun c97 => ?_) (fun c97 => ?_)
              · exfalso; omega
              · refine hq_p rfl rfl (ty_ge (n := 0) nk_i0 (fun z98 ez98 => ?_))
                refine hq_p rfl rfl ?_
                refine hq_p rfl rfl ?_
                refine ty_zeq rfl (fun c99 => ?_) (fun c99 => ?_)
                · refine hq_p rfl rfl (ty_ge (n := 0) nk_i0 (fun z100 ez100 => ?_))
                  refine ty_callm 0 [(0, 97, 13), (0, 97, 20)] (W := ty_Wps) H hJ rfl (fun _ => rfl) rfl rfl rfl (hq_pre_o I.1 (x := 97) (ci := 11) rfl (by decide) rfl rfl rfl rfl) (fun _ _ w => w) (fun _ w => w) (ct_187 (x1 := z95) (x2 := z98) (x3 := z100) (by omega) (by omega) (by omega) (by omega) (by omega) (by omega) hk (fun q => by omega) hz) ⟨⟨rfl, show ¬ ty_Wps 97 13 by unfold ty_Wps; omega⟩, ⟨rfl, show ¬ ty_Wps 97 20 by unfold ty_Wps; omega⟩, trivial⟩ (fun h102 _ Jh102 gh102 P101 => ?_)
                  obtain ⟨gh102_0, gh102_1, _⟩ := gh102
                  have gh102_0 : (hs_fI h102 97 13).toInt = (hs_fI h 97 13).toInt := gh102_0
                  have gh102_1 : (hs_fI h102 97 20).toInt = (hs_fI h 97 20).toInt := gh102_1
                  have Ih102 := H.1 h102 Jh102
                  obtain ⟨rq103, kq103, fq103, oq103, pq103, zq103, nq103⟩ := P101
                  subst rq103
                  obtain ⟨q104, eq104⟩ : ∃ q : Int32, q.toInt = (hs_fI h102 97 14).toInt := ⟨_, rfl⟩
                  have aq104 : 0 ≤ (hs_fI h102 97 14).toInt := (Ih102.2.1 97 14 (by decide)).1
                  have bq104 : (hs_fI h102 97 14).toInt ≤ 400 := (Ih102.2.1 97 14 (by decide)).2
                  obtain ⟨q105, eq105⟩ : ∃ q : Int32, q.toInt = (hs_fI h102 97 15).toInt := ⟨_, rfl⟩
                  have aq105 : 0 ≤ (hs_fI h102 97 15).toInt := (Ih102.2.1 97 15 (by decide)).1
                  have bq105 : (hs_fI h102 97 15).toInt ≤ 400 := (Ih102.2.1 97 15 (by decide)).2
                  obtain ⟨q106, eq106⟩ : ∃ q : Int32, q.toInt = (hs_fI h102 97 16).toInt := ⟨_, rfl⟩
                  have aq106 := nm_lo q106
                  have bq106 := nm_hi q106
                  obtain ⟨q107, eq107⟩ : ∃ q : Int32, q.toInt = (hs_fI h102 97 19).toInt := ⟨_, rfl⟩
                  have aq107 : 0 ≤ q107.toInt ∧ q107.toInt ≤ 1 := by omega
                  obtain ⟨q108, eq108⟩ : ∃ q : Int32, q.toInt = (hs_fI h102 97 23).toInt := ⟨_, rfl⟩
                  have aq108 : 0 ≤ (hs_fI h102 97 23).toInt := (Ih102.2.1 97 23 (by decide)).1
                  have bq108 : (hs_fI h102 97 23).toInt ≤ 400 := (Ih102.2.1 97 23 (by decide)).2
                  obtain ⟨q109, eq109⟩ : ∃ q : Int32, q.toInt = (hs_fI h102 97 29).toInt := ⟨_, rfl⟩
                  have aq109 : 0 ≤ (hs_fI h102 97 29).toInt := (Ih102.2.1 97 29 (by decide)).1
                  have bq109 : (hs_fI h102 97 29).toInt ≤ 400 := (Ih102.2.1 97 29 (by decide)).2
                  obtain ⟨q110, eq110⟩ : ∃ q : Int32, q.toInt = (hs_fI h102 97 30).toInt := ⟨_, rfl⟩
                  have aq110 : 0 ≤ (hs_fI h102 97 30).toInt := (Ih102.2.1 97 30 (by decide)).1
                  have bq110 : (hs_fI h102 97 30).toInt ≤ 8 := (Ih102.2.1 97 30 (by decide)).2
                  obtain ⟨q111, eq111⟩ : ∃ q : Int64, q.toInt = (hs_fL h102 97 17).toInt := ⟨_, rfl⟩
                  have aq111 := nm_llo q111
                  have bq111 := nm_lhi q111
                  have t1kq103 := kq103.1
                  have t2kq103 := kq103.2.1
                  have t3kq103 := kq103.2.2.1
                  refine hq_p rfl rfl ?_
                  refine ty_gB Ih102 rfl rfl (by decide) (by decide) rfl (fun z112 ez112 az112 bz112 => ?_)
                  refine ty_zeq rfl (fun c113 => ?_) (fun c113 => ?_)
                  · refine hq_p rfl rfl (ty_ge (n := 3) nk_i3 (fun z114 ez114 => ?_))
                    exact hq_W.ret rfl rfl rfl ⟨Jh102, _, rfl, by omega, kq103, by omega, by omega, (fun q => by omega), ⟨by rw [if_neg (by omega)]; exact zq103, fun _ => ⟨fun q => by exfalso; omega, fun q => by exfalso; omega⟩⟩⟩
                  · exfalso; omega
                · exfalso; omega
            · exfalso; omega
        · replace ez69 : z67.toInt ≤ z68.toInt := by omega
          clear c70
          refine hq_p rfl rfl (ty_ge (n := 1) nk_i1 (fun z116 ez116 => ?_))
          refine hq_p rfl rfl ?_
          refine hq_p (ls' := [some (.ref 97), some (.int z18), some (.int z116), none]) rfl rfl ?_
          refine hq_p rfl rfl ?_
          refine hq_p rfl rfl ?_
          refine hq_p rfl rfl (ty_ge (n := -1) nk_im1 (fun z117 ez117 => ?_))
          refine ty_ine rfl (fun c118 => ?_) (fun c118 => ?_)
          · replace c118 : 0 ≤ z18.toInt ∧ z18.toInt ≤ 10 := by omega
            refine hq_p rfl rfl (ty_ge (n := 1) nk_i1 (fun z119 ez119 => ?_))
            refine hq_p rfl rfl ?_
            refine hq_p rfl rfl ?_
            refine hq_p rfl rfl (ty_ge (n := -1) nk_im1 (fun z120 ez120 => ?_))
            refine ty_ine rfl (fun c121 => ?_) (fun c121 => ?_)
            · clear c121
              refine hq_p rfl rfl ?_
              refine hq_p rfl rfl ?_
              refine ty_zeq rfl (fun c122 => ?_) (fun c122 => ?_)
              · exfalso; omega
              · clear c122
                refine hq_p rfl rfl ?_
                refine ty_gL I rfl rfl (by decide) (by decide) rfl rfl (fun z123 ez123 az123 bz123 => ?_)
                refine hq_p rfl rfl (ty_ga (fun z124 az124 bz124 => ?_))
                refine hq_p rfl rfl ?_
                refine ty_callm 0 [(0, 97, 13), (0, 97, 20)] (W := ty_Wps) H hJ rfl (fun _ => rfl) rfl rfl rfl (hq_pre_o I.1 (x := 97) (ci := 11) rfl (by decide) rfl rfl rfl rfl) (fun _ _ w => w) (fun _ w => w) (ct_187 (x1 := z119) (x2 := z18) (x3 := z124) (by omega) (by omega) (by omega) (by omega) (by omega) (by omega) hk (fun q => by omega) hz) ⟨⟨rfl, show ¬ ty_Wps 97 13 by unfold ty_Wps; omega⟩, ⟨rfl, show ¬ ty_Wps 97 20 by unfold ty_Wps; omega⟩, trivial⟩ (fun h126 _ Jh126 gh126 P125 => ?_)
                obtain ⟨gh126_0, gh126_1, _⟩ := gh126
                have gh126_0 : (hs_fI h126 97 13).toInt = (hs_fI h 97 13).toInt := gh126_0
                have gh126_1 : (hs_fI h126 97 20).toInt = (hs_fI h 97 20).toInt := gh126_1
                have Ih126 := H.1 h126 Jh126
                obtain ⟨rq127, kq127, fq127, oq127, pq127, zq127, nq127⟩ := P125
                subst rq127
                obtain ⟨q128, eq128⟩ : ∃ q : Int32, q.toInt = (hs_fI h126 97 14).toInt := ⟨_, rfl⟩
                have aq128 : 0 ≤ (hs_fI h126 97 14).toInt := (Ih126.2.1 97 14 (by decide)).1
                have bq128 : (hs_fI h126 97 14).toInt ≤ 400 := (Ih126.2.1 97 14 (by decide)).2
                obtain ⟨q129, eq129⟩ : ∃ q : Int32, q.toInt = (hs_fI h126 97 15).toInt := ⟨_, rfl⟩
                have aq129 : 0 ≤ (hs_fI h126 97 15).toInt := (Ih126.2.1 97 15 (by decide)).1
                have bq129 : (hs_fI h126 97 15).toInt ≤ 400 := (Ih126.2.1 97 15 (by decide)).2
                obtain ⟨q130, eq130⟩ : ∃ q : Int32, q.toInt = (hs_fI h126 97 16).toInt := ⟨_, rfl⟩
                have aq130 := nm_lo q130
                have bq130 := nm_hi q130
                obtain ⟨q131, eq131⟩ : ∃ q : Int32, q.toInt = (hs_fI h126 97 19).toInt := ⟨_, rfl⟩
                have aq131 : 0 ≤ q131.toInt ∧ q131.toInt ≤ 1 := by omega
                obtain ⟨q132, eq132⟩ : ∃ q : Int32, q.toInt = (hs_fI h126 97 23).toInt := ⟨_, rfl⟩
                have aq132 : 0 ≤ (hs_fI h126 97 23).toInt := (Ih126.2.1 97 23 (by decide)).1
                have bq132 : (hs_fI h126 97 23).toInt ≤ 400 := (Ih126.2.1 97 23 (by decide)).2
                obtain ⟨q133, eq133⟩ : ∃ q : Int32, q.toInt = (hs_fI h126 97 29).toInt := ⟨_, rfl⟩
                have aq133 : 0 ≤ (hs_fI h126 97 29).toInt := (Ih126.2.1 97 29 (by decide)).1
                have bq133 : (hs_fI h126 97 29).toInt ≤ 400 := (Ih126.2.1 97 29 (by decide)).2
                obtain ⟨q134, eq134⟩ : ∃ q : Int32, q.toInt = (hs_fI h126 97 30).toInt := ⟨_, rfl⟩
                have aq134 : 0 ≤ (hs_fI h126 97 30).toInt := (Ih126.2.1 97 30 (by decide)).1
                have bq134 : (hs_fI h126 97 30).toInt ≤ 8 := (Ih126.2.1 97 30 (by decide)).2
                obtain ⟨q135, eq135⟩ : ∃ q : Int64, q.toInt = (hs_fL h126 97 17).toInt := ⟨_, rfl⟩
                have aq135 := nm_llo q135
                have bq135 := nm_lhi q135
                have t1kq127 := kq127.1
                have t2kq127 := kq127.2.1
                have t3kq127 := kq127.2.2.1
                refine hq_p rfl rfl ?_
                refine ty_gB Ih126 rfl rfl (by decide) (by decide) rfl (fun z136 ez136 az136 bz136 => ?_)
                refine ty_zeq rfl (fun c137 => ?_) (fun c137 => ?_)
                · refine hq_p rfl rfl (ty_ge (n := 3) nk_i3 (fun z138 ez138 => ?_))
                  exact hq_W.ret rfl rfl rfl ⟨Jh126, _, rfl, by omega, kq127, by omega, by omega, (fun q => by omega), ⟨by rw [if_neg (by omega)]; exact zq127, fun _ => ⟨fun q => by exfalso; omega, fun q => by exfalso; omega⟩⟩⟩
                · exfalso; omega
            · exfalso; omega
          · refine hq_p rfl rfl ?_
            refine ty_zeq rfl (fun c140 => ?_) (fun c140 => ?_)
            · exfalso; omega
            · clear c140
              refine hq_p rfl rfl (ty_ge (n := 1) nk_i1 (fun z141 ez141 => ?_))
              refine hq_p rfl rfl ?_
              refine hq_p rfl rfl ?_
              refine hq_p rfl rfl (ty_ge (n := -1) nk_im1 (fun z142 ez142 => ?_))
              refine ty_ine rfl (fun c143 => ?_) (fun c143 => ?_)
              · exfalso; omega
              · refine hq_p rfl rfl (ty_ge (n := 0) nk_i0 (fun z144 ez144 => ?_))
                refine hq_p rfl rfl ?_
                refine hq_p rfl rfl ?_
                refine ty_zeq rfl (fun c145 => ?_) (fun c145 => ?_)
                · exfalso; omega
                · clear c145
                  refine hq_p rfl rfl ?_
                  refine ty_gL I rfl rfl (by decide) (by decide) rfl rfl (fun z146 ez146 az146 bz146 => ?_)
                  refine hq_p rfl rfl (ty_ga (fun z147 az147 bz147 => ?_))
                  refine hq_p rfl rfl ?_
                  refine ty_callm 0 [(0, 97, 13), (0, 97, 20)] (W := ty_Wps) H hJ rfl (fun _ => rfl) rfl rfl rfl (hq_pre_o I.1 (x := 97) (ci := 11) rfl (by decide) rfl rfl rfl rfl) (fun _ _ w => w) (fun _ w => w) (ct_187 (x1 := z141) (x2 := z144) (x3 := z147) (by omega) (by omega) (by omega) (by omega) (by omega) (by omega) hk (fun q => by omega) hz) ⟨⟨rfl, show ¬ ty_Wps 97 13 by unfold ty_Wps; omega⟩, ⟨rfl, show ¬ ty_Wps 97 20 by unfold ty_Wps; omega⟩, trivial⟩ (fun h149 _ Jh149 gh149 P148 => ?_)
                  obtain ⟨gh149_0, gh149_1, _⟩ := gh149
                  have gh149_0 : (hs_fI h149 97 13).toInt = (hs_fI h 97 13).toInt := gh149_0
                  have gh149_1 : (hs_fI h149 97 20).toInt = (hs_fI h 97 20).toInt := gh149_1
                  have Ih149 := H.1 h149 Jh149
                  obtain ⟨rq150, kq150, fq150, oq150, pq150, zq150, nq150⟩ := P148
                  subst rq150
                  obtain ⟨q151, eq151⟩ : ∃ q : Int32, q.toInt = (hs_fI h149 97 14).toInt := ⟨_, rfl⟩
                  have aq151 : 0 ≤ (hs_fI h149 97 14).toInt := (Ih149.2.1 97 14 (by decide)).1
                  have bq151 : (hs_fI h149 97 14).toInt ≤ 400 := (Ih149.2.1 97 14 (by decide)).2
                  obtain ⟨q152, eq152⟩ : ∃ q : Int32, q.toInt = (hs_fI h149 97 15).toInt := ⟨_, rfl⟩
                  have aq152 : 0 ≤ (hs_fI h149 97 15).toInt := (Ih149.2.1 97 15 (by decide)).1
                  have bq152 : (hs_fI h149 97 15).toInt ≤ 400 := (Ih149.2.1 97 15 (by decide)).2
                  obtain ⟨q153, eq153⟩ : ∃ q : Int32, q.toInt = (hs_fI h149 97 16).toInt := ⟨_, rfl⟩
                  have aq153 := nm_lo q153
                  have bq153 := nm_hi q153
                  obtain ⟨q154, eq154⟩ : ∃ q : Int32, q.toInt = (hs_fI h149 97 19).toInt := ⟨_, rfl⟩
                  have aq154 : 0 ≤ q154.toInt ∧ q154.toInt ≤ 1 := by omega
                  obtain ⟨q155, eq155⟩ : ∃ q : Int32, q.toInt = (hs_fI h149 97 23).toInt := ⟨_, rfl⟩
                  have aq155 : 0 ≤ (hs_fI h149 97 23).toInt := (Ih149.2.1 97 23 (by decide)).1
                  have bq155 : (hs_fI h149 97 23).toInt ≤ 400 := (Ih149.2.1 97 23 (by decide)).2
                  obtain ⟨q156, eq156⟩ : ∃ q : Int32, q.toInt = (hs_fI h149 97 29).toInt := ⟨_, rfl⟩
                  have aq156 : 0 ≤ (hs_fI h149 97 29).toInt := (Ih149.2.1 97 29 (by decide)).1
                  have bq156 : (hs_fI h149 97 29).toInt ≤ 400 := (Ih149.2.1 97 29 (by decide)).2
                  obtain ⟨q157, eq157⟩ : ∃ q : Int32, q.toInt = (hs_fI h149 97 30).toInt := ⟨_, rfl⟩
                  have aq157 : 0 ≤ (hs_fI h149 97 30).toInt := (Ih149.2.1 97 30 (by decide)).1
                  have bq157 : (hs_fI h149 97 30).toInt ≤ 8 := (Ih149.2.1 97 30 (by decide)).2
                  obtain ⟨q158, eq158⟩ : ∃ q : Int64, q.toInt = (hs_fL h149 97 17).toInt := ⟨_, rfl⟩
                  have aq158 := nm_llo q158
                  have bq158 := nm_lhi q158
                  have t1kq150 := kq150.1
                  have t2kq150 := kq150.2.1
                  have t3kq150 := kq150.2.2.1
                  refine hq_p rfl rfl ?_
                  refine ty_gB Ih149 rfl rfl (by decide) (by decide) rfl (fun z159 ez159 az159 bz159 => ?_)
                  refine ty_zeq rfl (fun c160 => ?_) (fun c160 => ?_)
                  · refine hq_p rfl rfl (ty_ge (n := 3) nk_i3 (fun z161 ez161 => ?_))
                    exact hq_W.ret rfl rfl rfl ⟨Jh149, _, rfl, by omega, kq150, by omega, by omega, (fun q => by omega), ⟨by rw [if_neg (by omega)]; exact zq150, fun _ => ⟨fun q => by exfalso; omega, fun q => by exfalso; omega⟩⟩⟩
                  · exfalso; omega
    · replace c16 : 1 ≤ z15.toInt ∧ z15.toInt ≤ 1 := by omega
      refine hq_p rfl rfl ?_
      refine ty_callp 0 I rfl (fun _ => rfl) rfl rfl rfl (hq_pre_o I.1 (x := 97) (ci := 11) rfl (by decide) rfl rfl rfl rfl) (ct_185w (by omega)) (fun _ P163 => ?_)
      obtain ⟨z164, rfl, az164, bz164, cz164, iz164⟩ := P163
      refine hq_p rfl rfl ?_
      refine hq_p (ls' := [some (.ref 97), some (.int z164), none, none]) rfl rfl ?_
      refine hq_p rfl rfl ?_
      refine ty_gI I rfl rfl (by decide) (by decide) rfl rfl (fun z165 ez165 az165 bz165 => ?_)
      refine hq_p rfl rfl (ty_ge (n := 2) nk_i2 (fun z166 ez166 => ?_))
      refine ty_ine rfl (fun c167 => ?_) (fun c167 => ?_)
      · clear c167
        refine hq_p rfl rfl (ty_ge (n := 0) nk_i0 (fun z168 ez168 => ?_))
        refine hq_p (ls' := [some (.ref 97), some (.int z164), some (.int z168), none]) rfl rfl ?_
        refine hq_p rfl rfl ?_
        refine hq_p rfl rfl ?_
        refine hq_p rfl rfl (ty_ge (n := -1) nk_im1 (fun z169 ez169 => ?_))
        refine ty_ine rfl (fun c170 => ?_) (fun c170 => ?_)
        · replace c170 : 0 ≤ z164.toInt ∧ z164.toInt ≤ 7 := by omega
          refine hq_p rfl rfl (ty_ge (n := 1) nk_i1 (fun z171 ez171 => ?_))
          refine hq_p rfl rfl ?_
          refine hq_p rfl rfl ?_
          refine hq_p rfl rfl (ty_ge (n := -1) nk_im1 (fun z172 ez172 => ?_))
          refine ty_ine rfl (fun c173 => ?_) (fun c173 => ?_)
          · clear c173
            refine hq_p rfl rfl ?_
            refine hq_p rfl rfl ?_
            refine ty_zeq rfl (fun c174 => ?_) (fun c174 => ?_)
            · refine hq_p rfl rfl (ty_ge (n := 0) nk_i0 (fun z175 ez175 => ?_))
              refine ty_callm 0 [(0, 97, 13), (0, 97, 20)] (W := ty_Wps) H hJ rfl (fun _ => rfl) rfl rfl rfl (hq_pre_o I.1 (x := 97) (ci := 11) rfl (by decide) rfl rfl rfl rfl) (fun _ _ w => w) (fun _ w => w) (ct_187 (x1 := z171) (x2 := z164) (x3 := z175) (by omega) (by omega) (by omega) (by omega) (by omega) (by omega) hk (fun q => by omega) hz) ⟨⟨rfl, show ¬ ty_Wps 97 13 by unfold ty_Wps; omega⟩, ⟨rfl, show ¬ ty_Wps 97 20 by unfold ty_Wps; omega⟩, trivial⟩ (fun h177 _ Jh177 gh177 P176 => ?_)
              obtain ⟨gh177_0, gh177_1, _⟩ := gh177
              have gh177_0 : (hs_fI h177 97 13).toInt = (hs_fI h 97 13).toInt := gh177_0
              have gh177_1 : (hs_fI h177 97 20).toInt = (hs_fI h 97 20).toInt := gh177_1
              have Ih177 := H.1 h177 Jh177
              obtain ⟨rq178, kq178, fq178, oq178, pq178, zq178, nq178⟩ := P176
              subst rq178
              obtain ⟨q179, eq179⟩ : ∃ q : Int32, q.toInt = (hs_fI h177 97 14).toInt := ⟨_, rfl⟩
              have aq179 : 0 ≤ (hs_fI h177 97 14).toInt := (Ih177.2.1 97 14 (by decide)).1
              have bq179 : (hs_fI h177 97 14).toInt ≤ 400 := (Ih177.2.1 97 14 (by decide)).2
              obtain ⟨q180, eq180⟩ : ∃ q : Int32, q.toInt = (hs_fI h177 97 15).toInt := ⟨_, rfl⟩
              have aq180 : 0 ≤ (hs_fI h177 97 15).toInt := (Ih177.2.1 97 15 (by decide)).1
              have bq180 : (hs_fI h177 97 15).toInt ≤ 400 := (Ih177.2.1 97 15 (by decide)).2
              obtain ⟨q181, eq181⟩ : ∃ q : Int32, q.toInt = (hs_fI h177 97 16).toInt := ⟨_, rfl⟩
              have aq181 := nm_lo q181
              have bq181 := nm_hi q181
              obtain ⟨q182, eq182⟩ : ∃ q : Int32, q.toInt = (hs_fI h177 97 19).toInt := ⟨_, rfl⟩
              have aq182 : 0 ≤ q182.toInt ∧ q182.toInt ≤ 1 := by omega
              obtain ⟨q183, eq183⟩ : ∃ q : Int32, q.toInt = (hs_fI h177 97 23).toInt := ⟨_, rfl⟩
              have aq183 : 0 ≤ (hs_fI h177 97 23).toInt := (Ih177.2.1 97 23 (by decide)).1
              have bq183 : (hs_fI h177 97 23).toInt ≤ 400 := (Ih177.2.1 97 23 (by decide)).2
              obtain ⟨q184, eq184⟩ : ∃ q : Int32, q.toInt = (hs_fI h177 97 29).toInt := ⟨_, rfl⟩
              have aq184 : 0 ≤ (hs_fI h177 97 29).toInt := (Ih177.2.1 97 29 (by decide)).1
              have bq184 : (hs_fI h177 97 29).toInt ≤ 400 := (Ih177.2.1 97 29 (by decide)).2
              obtain ⟨q185, eq185⟩ : ∃ q : Int32, q.toInt = (hs_fI h177 97 30).toInt := ⟨_, rfl⟩
              have aq185 : 0 ≤ (hs_fI h177 97 30).toInt := (Ih177.2.1 97 30 (by decide)).1
              have bq185 : (hs_fI h177 97 30).toInt ≤ 8 := (Ih177.2.1 97 30 (by decide)).2
              obtain ⟨q186, eq186⟩ : ∃ q : Int64, q.toInt = (hs_fL h177 97 17).toInt := ⟨_, rfl⟩
              have aq186 := nm_llo q186
              have bq186 := nm_lhi q186
              have t1kq178 := kq178.1
              have t2kq178 := kq178.2.1
              have t3kq178 := kq178.2.2.1
              refine hq_p rfl rfl ?_
              refine ty_gB Ih177 rfl rfl (by decide) (by decide) rfl (fun z187 ez187 az187 bz187 => ?_)
              refine ty_zeq rfl (fun c188 => ?_) (fun c188 => ?_)
              · exfalso; omega
              · clear c188
                refine hq_p rfl rfl ?_
                refine hq_p rfl rfl (ty_ge (n := 6) nk_b6 (fun z189 ez189 => ?_))
                refine ty_ilt rfl (fun c190 => ?_) (fun c190 => ?_)
                · refine hq_p rfl rfl (ty_ge (n := 3) nk_i3 (fun z191 ez191 => ?_))
                  exact hq_W.ret rfl rfl rfl ⟨Jh177, _, rfl, by omega, kq178, by omega, by omega, (fun q => by omega), ⟨by rw [if_neg (by omega)]; exact zq178, fun _ => ⟨fun q => by exfalso; omega, fun q => by exfalso; omega⟩⟩⟩
                · refine hq_p rfl rfl ?_
                  refine ty_gB Ih177 rfl rfl (by decide) (by decide) rfl (fun z193 ez193 az193 bz193 => ?_)
                  refine ty_zne rfl (fun c194 => ?_) (fun c194 => ?_)
                  · replace c194 : 1 ≤ z193.toInt ∧ z193.toInt ≤ 1 := by omega
                    refine hq_p rfl rfl (ty_ge (n := 3) nk_i3 (fun z195 ez195 => ?_))
                    exact hq_W.ret rfl rfl rfl ⟨Jh177, _, rfl, by omega, kq178, by omega, by omega, (fun q => by omega), ⟨by rw [if_neg (by omega)]; exact zq178, fun _ => ⟨fun q => by exfalso; omega, fun q => by exfalso; omega⟩⟩⟩
                  · have l1 := nq178 (by omega)
                    have l10 := l1.1
                    refine hq_p rfl rfl ?_
                    refine ty_gI Ih177 rfl rfl (by decide) (by decide) rfl rfl (fun z197 ez197 az197 bz197 => ?_)
                    refine hq_p rfl rfl (ty_ge (n := 1) nk_i1 (fun z198 ez198 => ?_))
                    refine hq_p rfl rfl (ty_ge (n := z197.toInt - z198.toInt) (nm_sub (by omega) (by omega)) (fun z199 ez199 => ?_))
                    refine hq_p (ls' := [some (.ref 97), some (.int z164), some (.int z168), some (.int z199)]) rfl rfl ?_
                    refine hq_p rfl rfl ?_
                    refine hq_gR Ih177.1 rfl rfl (by decide) (by decide) rfl ?_
                    refine hq_p rfl rfl ?_
                    refine hq_p rfl rfl ?_
                    refine hq_p rfl rfl (ty_gle (n := 0) (by decide) (fun z200 ez200 => ?_))
                    refine hq_p rfl rfl (ty_gle (n := 7) (by decide) (fun z201 ez201 => ?_))
                    refine ty_callm 0 [(0, 97, 13), (0, 97, 20), (0, 97, 23), (0, 97, 29), (0, 97, 30), (3, 108, 0), (3, 109, 0), (3, 110, 0), (3, 111, 0)] (W := ty_Wps) H Jh177 rfl (fun _ => rfl) rfl rfl rfl (hq_pre_o Ih177.1 (x := 97) (ci := 11) rfl (by decide) rfl rfl rfl rfl) (fun a k w => by unfold ty_Wo at w; unfold ty_Wps; omega) (by unfold ty_Wo ty_Wps; omega) (ct_176 (x1 := z200) (x2 := z201) (by omega) (by omega) (by omega) (by omega) kq178) ⟨⟨rfl, show ¬ ty_Wo 97 13 by unfold ty_Wo; omega⟩, ⟨rfl, show ¬ ty_Wo 97 20 by unfold ty_Wo; omega⟩, ⟨rfl, show ¬ ty_Wo 97 23 by unfold ty_Wo; omega⟩, ⟨rfl, show ¬ ty_Wo 97 29 by unfold ty_Wo; omega⟩, ⟨rfl, show ¬ ty_Wo 97 30 by unfold ty_Wo; omega⟩, ⟨rfl, fun k => show ¬ ty_Wo 108 k by unfold ty_Wo; omega⟩, ⟨rfl, fun k => show ¬ ty_Wo 109 k by unfold ty_Wo; omega⟩, ⟨rfl, fun k => show ¬ ty_Wo 110 k by unfold ty_Wo; omega⟩, ⟨rfl, fun k => show ¬ ty_Wo 111 k by unfold ty_Wo; omega⟩, trivial⟩ (fun h203 _ Jh203 gh203 P202 => ?_)
                    obtain ⟨gh203_0, gh203_1, gh203_2, gh203_3, gh203_4, gh203_5, gh203_6, gh203_7, gh203_8, _⟩ := gh203
                    have gh203_0 : (hs_fI h203 97 13).toInt = (hs_fI h177 97 13).toInt := gh203_0
                    have gh203_1 : (hs_fI h203 97 20).toInt = (hs_fI h177 97 20).toInt := gh203_1
                    have gh203_2 : (hs_fI h203 97 23).toInt = (hs_fI h177 97 23).toInt := gh203_2
                    have gh203_3 : (hs_fI h203 97 29).toInt = (hs_fI h177 97 29).toInt := gh203_3
                    have gh203_4 : (hs_fI h203 97 30).toInt = (hs_fI h177 97 30).toInt := gh203_4
                    have gh203_5 : hs_aI h203 108 = hs_aI h177 108 := gh203_5
                    have ugh203_5 : hs_aI h203 108 = (hs_aI h177 108) := gh203_5.trans rfl
                    have gh203_6 : hs_aI h203 109 = hs_aI h177 109 := gh203_6
                    have ugh203_6 : hs_aI h203 109 = (hs_aI h177 109) := gh203_6.trans rfl
                    have gh203_7 : hs_aI h203 110 = hs_aI h177 110 := gh203_7
                    have ugh203_7 : hs_aI h203 110 = (hs_aI h177 110) := gh203_7.trans rfl
                    have gh203_8 : hs_aI h203 111 = hs_aI h177 111 := gh203_8
                    have ugh203_8 : hs_aI h203 111 = (hs_aI h177 111) := gh203_8.trans rfl
                    have Ih203 := H.1 h203 Jh203
                    obtain ⟨⟨z204, rfl, iz204⟩, kz204, fz204, oz204⟩ := P202
                    have az204 := nm_lo z204
                    have bz204 := nm_hi z204
                    obtain ⟨q205, eq205⟩ : ∃ q : Int32, q.toInt = (hs_fI h203 97 14).toInt := ⟨_, rfl⟩
                    have aq205 : 0 ≤ (hs_fI h203 97 14).toInt := (Ih203.2.1 97 14 (by decide)).1
                    have bq205 : (hs_fI h203 97 14).toInt ≤ 400 := (Ih203.2.1 97 14 (by decide)).2
                    obtain ⟨q206, eq206⟩ : ∃ q : Int32, q.toInt = (hs_fI h203 97 15).toInt := ⟨_, rfl⟩
                    have aq206 : 0 ≤ (hs_fI h203 97 15).toInt := (Ih203.2.1 97 15 (by decide)).1
                    have bq206 : (hs_fI h203 97 15).toInt ≤ 400 := (Ih203.2.1 97 15 (by decide)).2
                    obtain ⟨q207, eq207⟩ : ∃ q : Int32, q.toInt = (hs_fI h203 97 16).toInt := ⟨_, rfl⟩
                    have aq207 := nm_lo q207
                    have bq207 := nm_hi q207
                    obtain ⟨q208, eq208⟩ : ∃ q : Int32, q.toInt = (hs_fI h203 97 19).toInt := ⟨_, rfl⟩
                    have aq208 : 0 ≤ q208.toInt ∧ q208.toInt ≤ 1 := by omega
                    obtain ⟨q209, eq209⟩ : ∃ q : Int64, q.toInt = (hs_fL h203 97 17).toInt := ⟨_, rfl⟩
                    have aq209 := nm_llo q209
                    have bq209 := nm_lhi q209
                    have t1kz204 := kz204.1
                    have t2kz204 := kz204.2.1
                    have t3kz204 := kz204.2.2.1
                    refine ty_aS (W := ty_Wps) H Jh203 rfl rfl (by decide) (by omega) (by omega) (fun i e => by unfold ty_Wps; omega) (fun _ _ => ty_eg rfl) (by omega) (by omega) (fun e1 e2 w => by omega) (fun h210 eh210 Jh210 => ?_)
                    have vh210_108 : hs_aI h210 108 = (hs_aI h177 108) := by rw [eh210]; exact (hs_aI_ne (by decide)).trans ugh203_5
                    have vh210_109 : hs_aI h210 109 = (upd (hs_aI h177 109) z199.toInt.toNat z204) := by rw [eh210, hs_aI_sA, ugh203_6]
                    have vh210_110 : hs_aI h210 110 = (hs_aI h177 110) := by rw [eh210]; exact (hs_aI_ne (by decide)).trans ugh203_7
                    have vh210_111 : hs_aI h210 111 = (hs_aI h177 111) := by rw [eh210]; exact (hs_aI_ne (by decide)).trans ugh203_8
                    have Ih210 := H.1 h210 Jh210
                    have r211 : (hs_fI h210 97 13).toInt = (hs_fI h203 97 13).toInt := by rw [eh210]; exact congrArg Int32.toInt (ty_fI_ne (by omega))
                    have r212 : (hs_fI h210 97 14).toInt = (hs_fI h203 97 14).toInt := by rw [eh210]; exact congrArg Int32.toInt (ty_fI_ne (by omega))
                    have r213 : (hs_fI h210 97 15).toInt = (hs_fI h203 97 15).toInt := by rw [eh210]; exact congrArg Int32.toInt (ty_fI_ne (by omega))
                    have r214 : (hs_fI h210 97 16).toInt = (hs_fI h203 97 16).toInt := by rw [eh210]; exact congrArg Int32.toInt (ty_fI_ne (by omega))
                    have r215 : (hs_fI h210 97 19).toInt = (hs_fI h203 97 19).toInt := by rw [eh210]; exact congrArg Int32.toInt (ty_fI_ne (by omega))
                    have r216 : (hs_fI h210 97 20).toInt = (hs_fI h203 97 20).toInt := by rw [eh210]; exact congrArg Int32.toInt (ty_fI_ne (by omega))
                    have r217 : (hs_fI h210 97 23).toInt = (hs_fI h203 97 23).toInt := by rw [eh210]; exact congrArg Int32.toInt (ty_fI_ne (by omega))
                    have r218 : (hs_fI h210 97 29).toInt = (hs_fI h203 97 29).toInt := by rw [eh210]; exact congrArg Int32.toInt (ty_fI_ne (by omega))
                    have r219 : (hs_fI h210 97 30).toInt = (hs_fI h203 97 30).toInt := by rw [eh210]; exact congrArg Int32.toInt (ty_fI_ne (by omega))
                    have r220 : (hs_fL h210 97 17).toInt = (hs_fL h203 97 17).toInt := by rw [eh210]; exact congrArg Int64.toInt (ty_fL_ne (by omega))
                    have k221 : tk_ok h210 := tk_same kz204 (by omega) (by omega) (by omega) (by omega) (by omega)
                    have op9 : pt (hs_aI h177 108) z199.toInt.toNat < 29 := by rw [l1.2, show z199.toInt.toNat = (hs_fI h 97 23).toInt.toNat by omega, pt_eq]; omega
                    have zg : pz op0 ar0 s 1 h210 := by
                      show pq ((hs_fI h210 97 19).toInt = 0) (hs_aI h210 108) (hs_aI h210 109) (hs_aI h210 110) (hs_aI h210 111) op0 ar0 s (hs_fI h210 97 23).toInt (hs_fI h210 97 29).toInt (hs_fI h210 97 30).toInt (hs_fI h210 97 14).toInt 1
                      rw [vh210_108, vh210_109, vh210_110, vh210_111, show (hs_fI h210 97 23).toInt = (hs_fI h177 97 23).toInt by omega, show (hs_fI h210 97 29).toInt = (hs_fI h177 97 29).toInt by omega, show (hs_fI h210 97 30).toInt = (hs_fI h177 97 30).toInt by omega]
                      exact pq_arg (pq_g (g' := (hs_fI h210 97 19).toInt = 0) zq178 (fun _ => ⟨by omega, rfl⟩) (by omega)) (by omega) op9
                    refine hq_p rfl rfl (ty_ge (n := 3) nk_i3 (fun z222 ez222 => ?_))
                    exact hq_W.ret rfl rfl rfl ⟨Jh210, _, rfl, by omega, k221, by omega, by omega, (fun q => by omega), ⟨by rw [if_neg (by omega)]; exact zg, fun _ => ⟨fun q => by exfalso; omega, fun q => by exfalso; omega⟩⟩⟩
            · exfalso; omega
          · exfalso; omega
        · refine hq_p rfl rfl ?_
          refine ty_zeq rfl (fun c224 => ?_) (fun c224 => ?_)
          · refine hq_p rfl rfl (ty_ge (n := 0) nk_i0 (fun z225 ez225 => ?_))
            refine hq_p rfl rfl ?_
            refine hq_p rfl rfl (ty_ge (n := -1) nk_im1 (fun z226 ez226 => ?_))
            refine ty_ine rfl (fun c227 => ?_) (fun c227 => ?_)
            · exfalso; omega
            · refine hq_p rfl rfl (ty_ge (n := 0) nk_i0 (fun z228 ez228 => ?_))
              refine hq_p rfl rfl ?_
              refine hq_p rfl rfl ?_
              refine ty_zeq rfl (fun c229 => ?_) (fun c229 => ?_)
              · refine hq_p rfl rfl (ty_ge (n := 0) nk_i0 (fun z230 ez230 => ?_))
                refine ty_callm 0 [(0, 97, 13), (0, 97, 20)] (W := ty_Wps) H hJ rfl (fun _ => rfl) rfl rfl rfl (hq_pre_o I.1 (x := 97) (ci := 11) rfl (by decide) rfl rfl rfl rfl) (fun _ _ w => w) (fun _ w => w) (ct_187 (x1 := z225) (x2 := z228) (x3 := z230) (by omega) (by omega) (by omega) (by omega) (by omega) (by omega) hk (fun q => by omega) hz) ⟨⟨rfl, show ¬ ty_Wps 97 13 by unfold ty_Wps; omega⟩, ⟨rfl, show ¬ ty_Wps 97 20 by unfold ty_Wps; omega⟩, trivial⟩ (fun h232 _ Jh232 gh232 P231 => ?_)
                obtain ⟨gh232_0, gh232_1, _⟩ := gh232
                have gh232_0 : (hs_fI h232 97 13).toInt = (hs_fI h 97 13).toInt := gh232_0
                have gh232_1 : (hs_fI h232 97 20).toInt = (hs_fI h 97 20).toInt := gh232_1
                have Ih232 := H.1 h232 Jh232
                obtain ⟨rq233, kq233, fq233, oq233, pq233, zq233, nq233⟩ := P231
                subst rq233
                obtain ⟨q234, eq234⟩ : ∃ q : Int32, q.toInt = (hs_fI h232 97 14).toInt := ⟨_, rfl⟩
                have aq234 : 0 ≤ (hs_fI h232 97 14).toInt := (Ih232.2.1 97 14 (by decide)).1
                have bq234 : (hs_fI h232 97 14).toInt ≤ 400 := (Ih232.2.1 97 14 (by decide)).2
                obtain ⟨q235, eq235⟩ : ∃ q : Int32, q.toInt = (hs_fI h232 97 15).toInt := ⟨_, rfl⟩
                have aq235 : 0 ≤ (hs_fI h232 97 15).toInt := (Ih232.2.1 97 15 (by decide)).1
                have bq235 : (hs_fI h232 97 15).toInt ≤ 400 := (Ih232.2.1 97 15 (by decide)).2
                obtain ⟨q236, eq236⟩ : ∃ q : Int32, q.toInt = (hs_fI h232 97 16).toInt := ⟨_, rfl⟩
                have aq236 := nm_lo q236
                have bq236 := nm_hi q236
                obtain ⟨q237, eq237⟩ : ∃ q : Int32, q.toInt = (hs_fI h232 97 19).toInt := ⟨_, rfl⟩
                have aq237 : 0 ≤ q237.toInt ∧ q237.toInt ≤ 1 := by omega
                obtain ⟨q238, eq238⟩ : ∃ q : Int32, q.toInt = (hs_fI h232 97 23).toInt := ⟨_, rfl⟩
                have aq238 : 0 ≤ (hs_fI h232 97 23).toInt := (Ih232.2.1 97 23 (by decide)).1
                have bq238 : (hs_fI h232 97 23).toInt ≤ 400 := (Ih232.2.1 97 23 (by decide)).2
                obtain ⟨q239, eq239⟩ : ∃ q : Int32, q.toInt = (hs_fI h232 97 29).toInt := ⟨_, rfl⟩
                have aq239 : 0 ≤ (hs_fI h232 97 29).toInt := (Ih232.2.1 97 29 (by decide)).1
                have bq239 : (hs_fI h232 97 29).toInt ≤ 400 := (Ih232.2.1 97 29 (by decide)).2
                obtain ⟨q240, eq240⟩ : ∃ q : Int32, q.toInt = (hs_fI h232 97 30).toInt := ⟨_, rfl⟩
                have aq240 : 0 ≤ (hs_fI h232 97 30).toInt := (Ih232.2.1 97 30 (by decide)).1
                have bq240 : (hs_fI h232 97 30).toInt ≤ 8 := (Ih232.2.1 97 30 (by decide)).2
                obtain ⟨q241, eq241⟩ : ∃ q : Int64, q.toInt = (hs_fL h232 97 17).toInt := ⟨_, rfl⟩
                have aq241 := nm_llo q241
                have bq241 := nm_lhi q241
                have t1kq233 := kq233.1
                have t2kq233 := kq233.2.1
                have t3kq233 := kq233.2.2.1
                refine hq_p rfl rfl ?_
                refine ty_gB Ih232 rfl rfl (by decide) (by decide) rfl (fun z242 ez242 az242 bz242 => ?_)
                refine ty_zeq rfl (fun c243 => ?_) (fun c243 => ?_)
                · exfalso; omega
                · clear c243
                  refine hq_p rfl rfl ?_
                  refine hq_p rfl rfl (ty_ge (n := 6) nk_b6 (fun z244 ez244 => ?_))
                  refine ty_ilt rfl (fun c245 => ?_) (fun c245 => ?_)
                  · refine hq_p rfl rfl (ty_ge (n := 3) nk_i3 (fun z246 ez246 => ?_))
                    exact hq_W.ret rfl rfl rfl ⟨Jh232, _, rfl, by omega, kq233, by omega, by omega, (fun q => by omega), ⟨by rw [if_neg (by omega)]; exact zq233, fun _ => ⟨fun q => by exfalso; omega, fun q => by exfalso; omega⟩⟩⟩
                  · exfalso; omega
              · exfalso; omega
          · exfalso; omega
      · refine hq_p rfl rfl ?_
        refine ty_gL I rfl rfl (by decide) (by decide) rfl rfl (fun z248 ez248 az248 bz248 => ?_)
        refine hq_p rfl rfl (ty_gle (n := 1000) (by decide) (fun z249 ez249 => ?_))
        refine hq_p rfl rfl (ty_gc (fun z250 ez250 => ?_))
        refine ty_zgt rfl (fun c251 => ?_) (fun c251 => ?_)
        · replace ez250 : z248.toInt > z249.toInt := by omega
          clear c251
          refine hq_p rfl rfl (ty_ge (n := 0) nk_i0 (fun z252 ez252 => ?_))
          refine hq_p (ls' := [some (.ref 97), some (.int z164), some (.int z252), none]) rfl rfl ?_
          refine hq_p rfl rfl ?_
          refine hq_p rfl rfl ?_
          refine hq_p rfl rfl (ty_ge (n := -1) nk_im1 (fun z253 ez253 => ?_))
          refine ty_ine rfl (fun c254 => ?_) (fun c254 => ?_)
          · replace c254 : 0 ≤ z164.toInt ∧ z164.toInt ≤ 7 := by omega
            refine hq_p rfl rfl (ty_ge (n := 1) nk_i1 (fun z255 ez255 => ?_))
            refine hq_p rfl rfl ?_
            refine hq_p rfl rfl ?_
            refine hq_p rfl rfl (ty_ge (n := -1) nk_im1 (fun z256 ez256 => ?_))
            refine ty_ine rfl (fun c257 => ?_) (fun c257 => ?_)
            · clear c257
              refine hq_p rfl rfl ?_
              refine hq_p rfl rfl ?_
              refine ty_zeq rfl (fun c258 => ?_) (fun c258 => ?_)
              · refine hq_p rfl rfl (ty_ge (n := 0) nk_i0 (fun z259 ez259 => ?_))
                refine ty_callm 0 [(0, 97, 13), (0, 97, 20)] (W := ty_Wps) H hJ rfl (fun _ => rfl) rfl rfl rfl (hq_pre_o I.1 (x := 97) (ci := 11) rfl (by decide) rfl rfl rfl rfl) (fun _ _ w => w) (fun _ w => w) (ct_187 (x1 := z255) (x2 := z164) (x3 := z259) (by omega) (by omega) (by omega) (by omega) (by omega) (by omega) hk (fun q => by omega) hz) ⟨⟨rfl, show ¬ ty_Wps 97 13 by unfold ty_Wps; omega⟩, ⟨rfl, show ¬ ty_Wps 97 20 by unfold ty_Wps; omega⟩, trivial⟩ (fun h261 _ Jh261 gh261 P260 => ?_)
                obtain ⟨gh261_0, gh261_1, _⟩ := gh261
                have gh261_0 : (hs_fI h261 97 13).toInt = (hs_fI h 97 13).toInt := gh261_0
                have gh261_1 : (hs_fI h261 97 20).toInt = (hs_fI h 97 20).toInt := gh261_1
                have Ih261 := H.1 h261 Jh261
                obtain ⟨rq262, kq262, fq262, oq262, pq262, zq262, nq262⟩ := P260
                subst rq262
                obtain ⟨q263, eq263⟩ : ∃ q : Int32, q.toInt = (hs_fI h261 97 14).toInt := ⟨_, rfl⟩
                have aq263 : 0 ≤ (hs_fI h261 97 14).toInt := (Ih261.2.1 97 14 (by decide)).1
                have bq263 : (hs_fI h261 97 14).toInt ≤ 400 := (Ih261.2.1 97 14 (by decide)).2
                obtain ⟨q264, eq264⟩ : ∃ q : Int32, q.toInt = (hs_fI h261 97 15).toInt := ⟨_, rfl⟩
                have aq264 : 0 ≤ (hs_fI h261 97 15).toInt := (Ih261.2.1 97 15 (by decide)).1
                have bq264 : (hs_fI h261 97 15).toInt ≤ 400 := (Ih261.2.1 97 15 (by decide)).2
                obtain ⟨q265, eq265⟩ : ∃ q : Int32, q.toInt = (hs_fI h261 97 16).toInt := ⟨_, rfl⟩
                have aq265 := nm_lo q265
                have bq265 := nm_hi q265
                obtain ⟨q266, eq266⟩ : ∃ q : Int32, q.toInt = (hs_fI h261 97 19).toInt := ⟨_, rfl⟩
                have aq266 : 0 ≤ q266.toInt ∧ q266.toInt ≤ 1 := by omega
                obtain ⟨q267, eq267⟩ : ∃ q : Int32, q.toInt = (hs_fI h261 97 23).toInt := ⟨_, rfl⟩
                have aq267 : 0 ≤ (hs_fI h261 97 23).toInt := (Ih261.2.1 97 23 (by decide)).1
                have bq267 : (hs_fI h261 97 23).toInt ≤ 400 := (Ih261.2.1 97 23 (by decide)).2
                obtain ⟨q268, eq268⟩ : ∃ q : Int32, q.toInt = (hs_fI h261 97 29).toInt := ⟨_, rfl⟩
                have aq268 : 0 ≤ (hs_fI h261 97 29).toInt := (Ih261.2.1 97 29 (by decide)).1
                have bq268 : (hs_fI h261 97 29).toInt ≤ 400 := (Ih261.2.1 97 29 (by decide)).2
                obtain ⟨q269, eq269⟩ : ∃ q : Int32, q.toInt = (hs_fI h261 97 30).toInt := ⟨_, rfl⟩
                have aq269 : 0 ≤ (hs_fI h261 97 30).toInt := (Ih261.2.1 97 30 (by decide)).1
                have bq269 : (hs_fI h261 97 30).toInt ≤ 8 := (Ih261.2.1 97 30 (by decide)).2
                obtain ⟨q270, eq270⟩ : ∃ q : Int64, q.toInt = (hs_fL h261 97 17).toInt := ⟨_, rfl⟩
                have aq270 := nm_llo q270
                have bq270 := nm_lhi q270
                have t1kq262 := kq262.1
                have t2kq262 := kq262.2.1
                have t3kq262 := kq262.2.2.1
                refine hq_p rfl rfl ?_
                refine ty_gB Ih261 rfl rfl (by decide) (by decide) rfl (fun z271 ez271 az271 bz271 => ?_)
                refine ty_zeq rfl (fun c272 => ?_) (fun c272 => ?_)
                · exfalso; omega
                · clear c272
                  refine hq_p rfl rfl ?_
                  refine hq_p rfl rfl (ty_ge (n := 6) nk_b6 (fun z273 ez273 => ?_))
                  refine ty_ilt rfl (fun c274 => ?_) (fun c274 => ?_)
                  · refine hq_p rfl rfl (ty_ge (n := 3) nk_i3 (fun z275 ez275 => ?_))
                    exact hq_W.ret rfl rfl rfl ⟨Jh261, _, rfl, by omega, kq262, by omega, by omega, (fun q => by omega), ⟨by rw [if_neg (by omega)]; exact zq262, fun _ => ⟨fun q => by exfalso; omega, fun q => by exfalso; omega⟩⟩⟩
                  · refine hq_p rfl rfl ?_
                    refine ty_gB Ih261 rfl rfl (by decide) (by decide) rfl (fun z277 ez277 az277 bz277 => ?_)
                    refine ty_zne rfl (fun c278 => ?_) (fun c278 => ?_)
                    · replace c278 : 1 ≤ z277.toInt ∧ z277.toInt ≤ 1 := by omega
                      refine hq_p rfl rfl (ty_ge (n := 3) nk_i3 (fun z279 ez279 => ?_))
                      exact hq_W.ret rfl rfl rfl ⟨Jh261, _, rfl, by omega, kq262, by omega, by omega, (fun q => by omega), ⟨by rw [if_neg (by omega)]; exact zq262, fun _ => ⟨fun q => by exfalso; omega, fun q => by exfalso; omega⟩⟩⟩
                    · have l1 := nq262 (by omega)
                      have l10 := l1.1
                      refine hq_p rfl rfl ?_
                      refine ty_gI Ih261 rfl rfl (by decide) (by decide) rfl rfl (fun z281 ez281 az281 bz281 => ?_)
                      refine hq_p rfl rfl (ty_ge (n := 1) nk_i1 (fun z282 ez282 => ?_))
                      refine hq_p rfl rfl (ty_ge (n := z281.toInt - z282.toInt) (nm_sub (by omega) (by omega)) (fun z283 ez283 => ?_))
                      refine hq_p (ls' := [some (.ref 97), some (.int z164), some (.int z252), some (.int z283)]) rfl rfl ?_
                      refine hq_p rfl rfl ?_
                      refine hq_gR Ih261.1 rfl rfl (by decide) (by decide) rfl ?_
                      refine hq_p rfl rfl ?_
                      refine hq_p rfl rfl ?_
                      refine hq_p rfl rfl (ty_gle (n := 0) (by decide) (fun z284 ez284 => ?_))
                      refine hq_p rfl rfl (ty_gle (n := 7) (by decide) (fun z285 ez285 => ?_))
                      refine ty_callm 0 [(0, 97, 13), (0, 97, 20), (0, 97, 23), (0, 97, 29), (0, 97, 30), (3, 108, 0), (3, 109, 0), (3, 110, 0), (3, 111, 0)] (W := ty_Wps) H Jh261 rfl (fun _ => rfl) rfl rfl rfl (hq_pre_o Ih261.1 (x := 97) (ci := 11) rfl (by decide) rfl rfl rfl rfl) (fun a k w => by unfold ty_Wo at w; unfold ty_Wps; omega) (by unfold ty_Wo ty_Wps; omega) (ct_176 (x1 := z284) (x2 := z285) (by omega) (by omega) (by omega) (by omega) kq262) ⟨⟨rfl, show ¬ ty_Wo 97 13 by unfold ty_Wo; omega⟩, ⟨rfl, show ¬ ty_Wo 97 20 by unfold ty_Wo; omega⟩, ⟨rfl, show ¬ ty_Wo 97 23 by unfold ty_Wo; omega⟩, ⟨rfl, show ¬ ty_Wo 97 29 by unfold ty_Wo; omega⟩, ⟨rfl, show ¬ ty_Wo 97 30 by unfold ty_Wo; omega⟩, ⟨rfl, fun k => show ¬ ty_Wo 108 k by unfold ty_Wo; omega⟩, ⟨rfl, fun k => show ¬ ty_Wo 109 k by unfold ty_Wo; omega⟩, ⟨rfl, fun k => show ¬ ty_Wo 110 k by unfold ty_Wo; omega⟩, ⟨rfl, fun k => show ¬ ty_Wo 111 k by unfold ty_Wo; omega⟩, trivial⟩ (fun h287 _ Jh287 gh287 P286 => ?_)
                      obtain ⟨gh287_0, gh287_1, gh287_2, gh287_3, gh287_4, gh287_5, gh287_6, gh287_7, gh287_8, _⟩ := gh287
                      have gh287_0 : (hs_fI h287 97 13).toInt = (hs_fI h261 97 13).toInt := gh287_0
                      have gh287_1 : (hs_fI h287 97 20).toInt = (hs_fI h261 97 20).toInt := gh287_1
                      have gh287_2 : (hs_fI h287 97 23).toInt = (hs_fI h261 97 23).toInt := gh287_2
                      have gh287_3 : (hs_fI h287 97 29).toInt = (hs_fI h261 97 29).toInt := gh287_3
                      have gh287_4 : (hs_fI h287 97 30).toInt = (hs_fI h261 97 30).toInt := gh287_4
                      have gh287_5 : hs_aI h287 108 = hs_aI h261 108 := gh287_5
                      have ugh287_5 : hs_aI h287 108 = (hs_aI h261 108) := gh287_5.trans rfl
                      have gh287_6 : hs_aI h287 109 = hs_aI h261 109 := gh287_6
                      have ugh287_6 : hs_aI h287 109 = (hs_aI h261 109) := gh287_6.trans rfl
                      have gh287_7 : hs_aI h287 110 = hs_aI h261 110 := gh287_7
                      have ugh287_7 : hs_aI h287 110 = (hs_aI h261 110) := gh287_7.trans rfl
                      have gh287_8 : hs_aI h287 111 = hs_aI h261 111 := gh287_8
                      have ugh287_8 : hs_aI h287 111 = (hs_aI h261 111) := gh287_8.trans rfl
                      have Ih287 := H.1 h287 Jh287
                      obtain ⟨⟨z288, rfl, iz288⟩, kz288, fz288, oz288⟩ := P286
                      have az288 := nm_lo z288
                      have bz288 := nm_hi z288
                      obtain ⟨q289, eq289⟩ : ∃ q : Int32, q.toInt = (hs_fI h287 97 14).toInt := ⟨_, rfl⟩
                      have aq289 : 0 ≤ (hs_fI h287 97 14).toInt := (Ih287.2.1 97 14 (by decide)).1
                      have bq289 : (hs_fI h287 97 14).toInt ≤ 400 := (Ih287.2.1 97 14 (by decide)).2
                      obtain ⟨q290, eq290⟩ : ∃ q : Int32, q.toInt = (hs_fI h287 97 15).toInt := ⟨_, rfl⟩
                      have aq290 : 0 ≤ (hs_fI h287 97 15).toInt := (Ih287.2.1 97 15 (by decide)).1
                      have bq290 : (hs_fI h287 97 15).toInt ≤ 400 := (Ih287.2.1 97 15 (by decide)).2
                      obtain ⟨q291, eq291⟩ : ∃ q : Int32, q.toInt = (hs_fI h287 97 16).toInt := ⟨_, rfl⟩
                      have aq291 := nm_lo q291
                      have bq291 := nm_hi q291
                      obtain ⟨q292, eq292⟩ : ∃ q : Int32, q.toInt = (hs_fI h287 97 19).toInt := ⟨_, rfl⟩
                      have aq292 : 0 ≤ q292.toInt ∧ q292.toInt ≤ 1 := by omega
                      obtain ⟨q293, eq293⟩ : ∃ q : Int64, q.toInt = (hs_fL h287 97 17).toInt := ⟨_, rfl⟩
                      have aq293 := nm_llo q293
                      have bq293 := nm_lhi q293
                      have t1kz288 := kz288.1
                      have t2kz288 := kz288.2.1
                      have t3kz288 := kz288.2.2.1
                      refine ty_aS (W := ty_Wps) H Jh287 rfl rfl (by decide) (by omega) (by omega) (fun i e => by unfold ty_Wps; omega) (fun _ _ => ty_eg rfl) (by omega) (by omega) (fun e1 e2 w => by omega) (fun h294 eh294 Jh294 => ?_)
                      have vh294_108 : hs_aI h294 108 = (hs_aI h261 108) := by rw [eh294]; exact (hs_aI_ne (by decide)).trans ugh287_5
                      have vh294_109 : hs_aI h294 109 = (upd (hs_aI h261 109) z283.toInt.toNat z288) := by rw [eh294, hs_aI_sA, ugh287_6]
                      have vh294_110 : hs_aI h294 110 = (hs_aI h261 110) := by rw [eh294]; exact (hs_aI_ne (by decide)).trans ugh287_7
                      have vh294_111 : hs_aI h294 111 = (hs_aI h261 111) := by rw [eh294]; exact (hs_aI_ne (by decide)).trans ugh287_8
                      have Ih294 := H.1 h294 Jh294
                      have r295 : (hs_fI h294 97 13).toInt = (hs_fI h287 97 13).toInt := by rw [eh294]; exact congrArg Int32.toInt (ty_fI_ne (by omega))
                      have r296 : (hs_fI h294 97 14).toInt = (hs_fI h287 97 14).toInt := by rw [eh294]; exact congrArg Int32.toInt (ty_fI_ne (by omega))
                      have r297 : (hs_fI h294 97 15).toInt = (hs_fI h287 97 15).toInt := by rw [eh294]; exact congrArg Int32.toInt (ty_fI_ne (by omega))
                      have r298 : (hs_fI h294 97 16).toInt = (hs_fI h287 97 16).toInt := by rw [eh294]; exact congrArg Int32.toInt (ty_fI_ne (by omega))
                      have r299 : (hs_fI h294 97 19).toInt = (hs_fI h287 97 19).toInt := by rw [eh294]; exact congrArg Int32.toInt (ty_fI_ne (by omega))
                      have r300 : (hs_fI h294 97 20).toInt = (hs_fI h287 97 20).toInt := by rw [eh294]; exact congrArg Int32.toInt (ty_fI_ne (by omega))
                      have r301 : (hs_fI h294 97 23).toInt = (hs_fI h287 97 23).toInt := by rw [eh294]; exact congrArg Int32.toInt (ty_fI_ne (by omega))
                      have r302 : (hs_fI h294 97 29).toInt = (hs_fI h287 97 29).toInt := by rw [eh294]; exact congrArg Int32.toInt (ty_fI_ne (by omega))
                      have r303 : (hs_fI h294 97 30).toInt = (hs_fI h287 97 30).toInt := by rw [eh294]; exact congrArg Int32.toInt (ty_fI_ne (by omega))
                      have r304 : (hs_fL h294 97 17).toInt = (hs_fL h287 97 17).toInt := by rw [eh294]; exact congrArg Int64.toInt (ty_fL_ne (by omega))
                      have k305 : tk_ok h294 := tk_same kz288 (by omega) (by omega) (by omega) (by omega) (by omega)
                      have op9 : pt (hs_aI h261 108) z283.toInt.toNat < 29 := by rw [l1.2, show z283.toInt.toNat = (hs_fI h 97 23).toInt.toNat by omega, pt_eq]; omega
                      have zg : pz op0 ar0 s 1 h294 := by
                        show pq ((hs_fI h294 97 19).toInt = 0) (hs_aI h294 108) (hs_aI h294 109) (hs_aI h294 110) (hs_aI h294 111) op0 ar0 s (hs_fI h294 97 23).toInt (hs_fI h294 97 29).toInt (hs_fI h294 97 30).toInt (hs_fI h294 97 14).toInt 1
                        rw [vh294_108, vh294_109, vh294_110, vh294_111, show (hs_fI h294 97 23).toInt = (hs_fI h261 97 23).toInt by omega, show (hs_fI h294 97 29).toInt = (hs_fI h261 97 29).toInt by omega, show (hs_fI h294 97 30).toInt = (hs_fI h261 97 30).toInt by omega]
                        exact pq_arg (pq_g (g' := (hs_fI h294 97 19).toInt = 0) zq262 (fun _ => ⟨by omega, rfl⟩) (by omega)) (by omega) op9
                      refine hq_p rfl rfl (ty_ge (n := 3) nk_i3 (fun z306 ez306 => ?_))
                      exact hq_W.ret rfl rfl rfl ⟨Jh294, _, rfl, by omega, k305, by omega, by omega, (fun q => by omega), ⟨by rw [if_neg (by omega)]; exact zg, fun _ => ⟨fun q => by exfalso; omega, fun q => by exfalso; omega⟩⟩⟩
              · exfalso; omega
            · exfalso; omega
          · refine hq_p rfl rfl ?_
            refine ty_zeq rfl (fun c308 => ?_) (fun c308 => ?_)
            · refine hq_p rfl rfl (ty_ge (n := 0) nk_i0 (fun z309 ez309 => ?_))
              refine hq_p rfl rfl ?_
              refine hq_p rfl rfl (ty_ge (n := -1) nk_im1 (fun z310 ez310 => ?_))
              refine ty_ine rfl (fun c311 => ?_) (fun c311 => ?_)
              · exfalso; omega
              · refine hq_p rfl rfl (ty_ge (n := 0) nk_i0 (fun z312 ez312 => ?_))
                refine hq_p rfl rfl ?_
                refine hq_p rfl rfl ?_
                refine ty_zeq rfl (fun c313 => ?_) (fun c313 => ?_)
                · refine hq_p rfl rfl (ty_ge (n := 0) nk_i0 (fun z314 ez314 => ?_))
                  refine ty_callm 0 [(0, 97, 13), (0, 97, 20)] (W := ty_Wps) H hJ rfl (fun _ => rfl) rfl rfl rfl (hq_pre_o I.1 (x := 97) (ci := 11) rfl (by decide) rfl rfl rfl rfl) (fun _ _ w => w) (fun _ w => w) (ct_187 (x1 := z309) (x2 := z312) (x3 := z314) (by omega) (by omega) (by omega) (by omega) (by omega) (by omega) hk (fun q => by omega) hz) ⟨⟨rfl, show ¬ ty_Wps 97 13 by unfold ty_Wps; omega⟩, ⟨rfl, show ¬ ty_Wps 97 20 by unfold ty_Wps; omega⟩, trivial⟩ (fun h316 _ Jh316 gh316 P315 => ?_)
                  obtain ⟨gh316_0, gh316_1, _⟩ := gh316
                  have gh316_0 : (hs_fI h316 97 13).toInt = (hs_fI h 97 13).toInt := gh316_0
                  have gh316_1 : (hs_fI h316 97 20).toInt = (hs_fI h 97 20).toInt := gh316_1
                  have Ih316 := H.1 h316 Jh316
                  obtain ⟨rq317, kq317, fq317, oq317, pq317, zq317, nq317⟩ := P315
                  subst rq317
                  obtain ⟨q318, eq318⟩ : ∃ q : Int32, q.toInt = (hs_fI h316 97 14).toInt := ⟨_, rfl⟩
                  have aq318 : 0 ≤ (hs_fI h316 97 14).toInt := (Ih316.2.1 97 14 (by decide)).1
                  have bq318 : (hs_fI h316 97 14).toInt ≤ 400 := (Ih316.2.1 97 14 (by decide)).2
                  obtain ⟨q319, eq319⟩ : ∃ q : Int32, q.toInt = (hs_fI h316 97 15).toInt := ⟨_, rfl⟩
                  have aq319 : 0 ≤ (hs_fI h316 97 15).toInt := (Ih316.2.1 97 15 (by decide)).1
                  have bq319 : (hs_fI h316 97 15).toInt ≤ 400 := (Ih316.2.1 97 15 (by decide)).2
                  obtain ⟨q320, eq320⟩ : ∃ q : Int32, q.toInt = (hs_fI h316 97 16).toInt := ⟨_, rfl⟩
                  have aq320 := nm_lo q320
                  have bq320 := nm_hi q320
                  obtain ⟨q321, eq321⟩ : ∃ q : Int32, q.toInt = (hs_fI h316 97 19).toInt := ⟨_, rfl⟩
                  have aq321 : 0 ≤ q321.toInt ∧ q321.toInt ≤ 1 := by omega
                  obtain ⟨q322, eq322⟩ : ∃ q : Int32, q.toInt = (hs_fI h316 97 23).toInt := ⟨_, rfl⟩
                  have aq322 : 0 ≤ (hs_fI h316 97 23).toInt := (Ih316.2.1 97 23 (by decide)).1
                  have bq322 : (hs_fI h316 97 23).toInt ≤ 400 := (Ih316.2.1 97 23 (by decide)).2
                  obtain ⟨q323, eq323⟩ : ∃ q : Int32, q.toInt = (hs_fI h316 97 29).toInt := ⟨_, rfl⟩
                  have aq323 : 0 ≤ (hs_fI h316 97 29).toInt := (Ih316.2.1 97 29 (by decide)).1
                  have bq323 : (hs_fI h316 97 29).toInt ≤ 400 := (Ih316.2.1 97 29 (by decide)).2
                  obtain ⟨q324, eq324⟩ : ∃ q : Int32, q.toInt = (hs_fI h316 97 30).toInt := ⟨_, rfl⟩
                  have aq324 : 0 ≤ (hs_fI h316 97 30).toInt := (Ih316.2.1 97 30 (by decide)).1
                  have bq324 : (hs_fI h316 97 30).toInt ≤ 8 := (Ih316.2.1 97 30 (by decide)).2
                  obtain ⟨q325, eq325⟩ : ∃ q : Int64, q.toInt = (hs_fL h316 97 17).toInt := ⟨_, rfl⟩
                  have aq325 := nm_llo q325
                  have bq325 := nm_lhi q325
                  have t1kq317 := kq317.1
                  have t2kq317 := kq317.2.1
                  have t3kq317 := kq317.2.2.1
                  refine hq_p rfl rfl ?_
                  refine ty_gB Ih316 rfl rfl (by decide) (by decide) rfl (fun z326 ez326 az326 bz326 => ?_)
                  refine ty_zeq rfl (fun c327 => ?_) (fun c327 => ?_)
                  · exfalso; omega
                  · clear c327
                    refine hq_p rfl rfl ?_
                    refine hq_p rfl rfl (ty_ge (n := 6) nk_b6 (fun z328 ez328 => ?_))
                    refine ty_ilt rfl (fun c329 => ?_) (fun c329 => ?_)
                    · refine hq_p rfl rfl (ty_ge (n := 3) nk_i3 (fun z330 ez330 => ?_))
                      exact hq_W.ret rfl rfl rfl ⟨Jh316, _, rfl, by omega, kq317, by omega, by omega, (fun q => by omega), ⟨by rw [if_neg (by omega)]; exact zq317, fun _ => ⟨fun q => by exfalso; omega, fun q => by exfalso; omega⟩⟩⟩
                    · exfalso; omega
                · exfalso; omega
            · exfalso; omega
        · replace ez250 : z248.toInt ≤ z249.toInt := by omega
          clear c251
          refine hq_p rfl rfl (ty_ge (n := 1) nk_i1 (fun z332 ez332 => ?_))
          refine hq_p rfl rfl ?_
          refine hq_p (ls' := [some (.ref 97), some (.int z164), some (.int z332), none]) rfl rfl ?_
          refine hq_p rfl rfl ?_
          refine hq_p rfl rfl ?_
          refine hq_p rfl rfl (ty_ge (n := -1) nk_im1 (fun z333 ez333 => ?_))
          refine ty_ine rfl (fun c334 => ?_) (fun c334 => ?_)
          · replace c334 : 0 ≤ z164.toInt ∧ z164.toInt ≤ 7 := by omega
            refine hq_p rfl rfl (ty_ge (n := 1) nk_i1 (fun z335 ez335 => ?_))
            refine hq_p rfl rfl ?_
            refine hq_p rfl rfl ?_
            refine hq_p rfl rfl (ty_ge (n := -1) nk_im1 (fun z336 ez336 => ?_))
            refine ty_ine rfl (fun c337 => ?_) (fun c337 => ?_)
            · clear c337
              refine hq_p rfl rfl ?_
              refine hq_p rfl rfl ?_
              refine ty_zeq rfl (fun c338 => ?_) (fun c338 => ?_)
              · exfalso; omega
              · clear c338
                refine hq_p rfl rfl ?_
                refine ty_gL I rfl rfl (by decide) (by decide) rfl rfl (fun z339 ez339 az339 bz339 => ?_)
                refine hq_p rfl rfl (ty_ga (fun z340 az340 bz340 => ?_))
                refine hq_p rfl rfl ?_
                refine ty_callm 0 [(0, 97, 13), (0, 97, 20)] (W := ty_Wps) H hJ rfl (fun _ => rfl) rfl rfl rfl (hq_pre_o I.1 (x := 97) (ci := 11) rfl (by decide) rfl rfl rfl rfl) (fun _ _ w => w) (fun _ w => w) (ct_187 (x1 := z335) (x2 := z164) (x3 := z340) (by omega) (by omega) (by omega) (by omega) (by omega) (by omega) hk (fun q => by omega) hz) ⟨⟨rfl, show ¬ ty_Wps 97 13 by unfold ty_Wps; omega⟩, ⟨rfl, show ¬ ty_Wps 97 20 by unfold ty_Wps; omega⟩, trivial⟩ (fun h342 _ Jh342 gh342 P341 => ?_)
                obtain ⟨gh342_0, gh342_1, _⟩ := gh342
                have gh342_0 : (hs_fI h342 97 13).toInt = (hs_fI h 97 13).toInt := gh342_0
                have gh342_1 : (hs_fI h342 97 20).toInt = (hs_fI h 97 20).toInt := gh342_1
                have Ih342 := H.1 h342 Jh342
                obtain ⟨rq343, kq343, fq343, oq343, pq343, zq343, nq343⟩ := P341
                subst rq343
                obtain ⟨q344, eq344⟩ : ∃ q : Int32, q.toInt = (hs_fI h342 97 14).toInt := ⟨_, rfl⟩
                have aq344 : 0 ≤ (hs_fI h342 97 14).toInt := (Ih342.2.1 97 14 (by decide)).1
                have bq344 : (hs_fI h342 97 14).toInt ≤ 400 := (Ih342.2.1 97 14 (by decide)).2
                obtain ⟨q345, eq345⟩ : ∃ q : Int32, q.toInt = (hs_fI h342 97 15).toInt := ⟨_, rfl⟩
                have aq345 : 0 ≤ (hs_fI h342 97 15).toInt := (Ih342.2.1 97 15 (by decide)).1
                have bq345 : (hs_fI h342 97 15).toInt ≤ 400 := (Ih342.2.1 97 15 (by decide)).2
                obtain ⟨q346, eq346⟩ : ∃ q : Int32, q.toInt = (hs_fI h342 97 16).toInt := ⟨_, rfl⟩
                have aq346 := nm_lo q346
                have bq346 := nm_hi q346
                obtain ⟨q347, eq347⟩ : ∃ q : Int32, q.toInt = (hs_fI h342 97 19).toInt := ⟨_, rfl⟩
                have aq347 : 0 ≤ q347.toInt ∧ q347.toInt ≤ 1 := by omega
                obtain ⟨q348, eq348⟩ : ∃ q : Int32, q.toInt = (hs_fI h342 97 23).toInt := ⟨_, rfl⟩
                have aq348 : 0 ≤ (hs_fI h342 97 23).toInt := (Ih342.2.1 97 23 (by decide)).1
                have bq348 : (hs_fI h342 97 23).toInt ≤ 400 := (Ih342.2.1 97 23 (by decide)).2
                obtain ⟨q349, eq349⟩ : ∃ q : Int32, q.toInt = (hs_fI h342 97 29).toInt := ⟨_, rfl⟩
                have aq349 : 0 ≤ (hs_fI h342 97 29).toInt := (Ih342.2.1 97 29 (by decide)).1
                have bq349 : (hs_fI h342 97 29).toInt ≤ 400 := (Ih342.2.1 97 29 (by decide)).2
                obtain ⟨q350, eq350⟩ : ∃ q : Int32, q.toInt = (hs_fI h342 97 30).toInt := ⟨_, rfl⟩
                have aq350 : 0 ≤ (hs_fI h342 97 30).toInt := (Ih342.2.1 97 30 (by decide)).1
                have bq350 : (hs_fI h342 97 30).toInt ≤ 8 := (Ih342.2.1 97 30 (by decide)).2
                obtain ⟨q351, eq351⟩ : ∃ q : Int64, q.toInt = (hs_fL h342 97 17).toInt := ⟨_, rfl⟩
                have aq351 := nm_llo q351
                have bq351 := nm_lhi q351
                have t1kq343 := kq343.1
                have t2kq343 := kq343.2.1
                have t3kq343 := kq343.2.2.1
                refine hq_p rfl rfl ?_
                refine ty_gB Ih342 rfl rfl (by decide) (by decide) rfl (fun z352 ez352 az352 bz352 => ?_)
                refine ty_zeq rfl (fun c353 => ?_) (fun c353 => ?_)
                · exfalso; omega
                · clear c353
                  refine hq_p rfl rfl ?_
                  refine hq_p rfl rfl (ty_ge (n := 6) nk_b6 (fun z354 ez354 => ?_))
                  refine ty_ilt rfl (fun c355 => ?_) (fun c355 => ?_)
                  · refine hq_p rfl rfl (ty_ge (n := 3) nk_i3 (fun z356 ez356 => ?_))
                    exact hq_W.ret rfl rfl rfl ⟨Jh342, _, rfl, by omega, kq343, by omega, by omega, (fun q => by omega), ⟨by rw [if_neg (by omega)]; exact zq343, fun _ => ⟨fun q => by exfalso; omega, fun q => by exfalso; omega⟩⟩⟩
                  · refine hq_p rfl rfl ?_
                    refine ty_gB Ih342 rfl rfl (by decide) (by decide) rfl (fun z358 ez358 az358 bz358 => ?_)
                    refine ty_zne rfl (fun c359 => ?_) (fun c359 => ?_)
                    · replace c359 : 1 ≤ z358.toInt ∧ z358.toInt ≤ 1 := by omega
                      refine hq_p rfl rfl (ty_ge (n := 3) nk_i3 (fun z360 ez360 => ?_))
                      exact hq_W.ret rfl rfl rfl ⟨Jh342, _, rfl, by omega, kq343, by omega, by omega, (fun q => by omega), ⟨by rw [if_neg (by omega)]; exact zq343, fun _ => ⟨fun q => by exfalso; omega, fun q => by exfalso; omega⟩⟩⟩
                    · have l1 := nq343 (by omega)
                      have l10 := l1.1
                      refine hq_p rfl rfl ?_
                      refine ty_gI Ih342 rfl rfl (by decide) (by decide) rfl rfl (fun z362 ez362 az362 bz362 => ?_)
                      refine hq_p rfl rfl (ty_ge (n := 1) nk_i1 (fun z363 ez363 => ?_))
                      refine hq_p rfl rfl (ty_ge (n := z362.toInt - z363.toInt) (nm_sub (by omega) (by omega)) (fun z364 ez364 => ?_))
                      refine hq_p (ls' := [some (.ref 97), some (.int z164), some (.int z332), some (.int z364)]) rfl rfl ?_
                      refine hq_p rfl rfl ?_
                      refine hq_gR Ih342.1 rfl rfl (by decide) (by decide) rfl ?_
                      refine hq_p rfl rfl ?_
                      refine hq_p rfl rfl ?_
                      refine hq_p rfl rfl (ty_gle (n := 0) (by decide) (fun z365 ez365 => ?_))
                      refine hq_p rfl rfl (ty_gle (n := 7) (by decide) (fun z366 ez366 => ?_))
                      refine ty_callm 0 [(0, 97, 13), (0, 97, 20), (0, 97, 23), (0, 97, 29), (0, 97, 30), (3, 108, 0), (3, 109, 0), (3, 110, 0), (3, 111, 0)] (W := ty_Wps) H Jh342 rfl (fun _ => rfl) rfl rfl rfl (hq_pre_o Ih342.1 (x := 97) (ci := 11) rfl (by decide) rfl rfl rfl rfl) (fun a k w => by unfold ty_Wo at w; unfold ty_Wps; omega) (by unfold ty_Wo ty_Wps; omega) (ct_176 (x1 := z365) (x2 := z366) (by omega) (by omega) (by omega) (by omega) kq343) ⟨⟨rfl, show ¬ ty_Wo 97 13 by unfold ty_Wo; omega⟩, ⟨rfl, show ¬ ty_Wo 97 20 by unfold ty_Wo; omega⟩, ⟨rfl, show ¬ ty_Wo 97 23 by unfold ty_Wo; omega⟩, ⟨rfl, show ¬ ty_Wo 97 29 by unfold ty_Wo; omega⟩, ⟨rfl, show ¬ ty_Wo 97 30 by unfold ty_Wo; omega⟩, ⟨rfl, fun k => show ¬ ty_Wo 108 k by unfold ty_Wo; omega⟩, ⟨rfl, fun k => show ¬ ty_Wo 109 k by unfold ty_Wo; omega⟩, ⟨rfl, fun k => show ¬ ty_Wo 110 k by unfold ty_Wo; omega⟩, ⟨rfl, fun k => show ¬ ty_Wo 111 k by unfold ty_Wo; omega⟩, trivial⟩ (fun h368 _ Jh368 gh368 P367 => ?_)
                      obtain ⟨gh368_0, gh368_1, gh368_2, gh368_3, gh368_4, gh368_5, gh368_6, gh368_7, gh368_8, _⟩ := gh368
                      have gh368_0 : (hs_fI h368 97 13).toInt = (hs_fI h342 97 13).toInt := gh368_0
                      have gh368_1 : (hs_fI h368 97 20).toInt = (hs_fI h342 97 20).toInt := gh368_1
                      have gh368_2 : (hs_fI h368 97 23).toInt = (hs_fI h342 97 23).toInt := gh368_2
                      have gh368_3 : (hs_fI h368 97 29).toInt = (hs_fI h342 97 29).toInt := gh368_3
                      have gh368_4 : (hs_fI h368 97 30).toInt = (hs_fI h342 97 30).toInt := gh368_4
                      have gh368_5 : hs_aI h368 108 = hs_aI h342 108 := gh368_5
                      have ugh368_5 : hs_aI h368 108 = (hs_aI h342 108) := gh368_5.trans rfl
                      have gh368_6 : hs_aI h368 109 = hs_aI h342 109 := gh368_6
                      have ugh368_6 : hs_aI h368 109 = (hs_aI h342 109) := gh368_6.trans rfl
                      have gh368_7 : hs_aI h368 110 = hs_aI h342 110 := gh368_7
                      have ugh368_7 : hs_aI h368 110 = (hs_aI h342 110) := gh368_7.trans rfl
                      have gh368_8 : hs_aI h368 111 = hs_aI h342 111 := gh368_8
                      have ugh368_8 : hs_aI h368 111 = (hs_aI h342 111) := gh368_8.trans rfl
                      have Ih368 := H.1 h368 Jh368
                      obtain ⟨⟨z369, rfl, iz369⟩, kz369, fz369, oz369⟩ := P367
                      have az369 := nm_lo z369
                      have bz369 := nm_hi z369
                      obtain ⟨q370, eq370⟩ : ∃ q : Int32, q.toInt = (hs_fI h368 97 14).toInt := ⟨_, rfl⟩
                      have aq370 : 0 ≤ (hs_fI h368 97 14).toInt := (Ih368.2.1 97 14 (by decide)).1
                      have bq370 : (hs_fI h368 97 14).toInt ≤ 400 := (Ih368.2.1 97 14 (by decide)).2
                      obtain ⟨q371, eq371⟩ : ∃ q : Int32, q.toInt = (hs_fI h368 97 15).toInt := ⟨_, rfl⟩
                      have aq371 : 0 ≤ (hs_fI h368 97 15).toInt := (Ih368.2.1 97 15 (by decide)).1
                      have bq371 : (hs_fI h368 97 15).toInt ≤ 400 := (Ih368.2.1 97 15 (by decide)).2
                      obtain ⟨q372, eq372⟩ : ∃ q : Int32, q.toInt = (hs_fI h368 97 16).toInt := ⟨_, rfl⟩
                      have aq372 := nm_lo q372
                      have bq372 := nm_hi q372
                      obtain ⟨q373, eq373⟩ : ∃ q : Int32, q.toInt = (hs_fI h368 97 19).toInt := ⟨_, rfl⟩
                      have aq373 : 0 ≤ q373.toInt ∧ q373.toInt ≤ 1 := by omega
                      obtain ⟨q374, eq374⟩ : ∃ q : Int64, q.toInt = (hs_fL h368 97 17).toInt := ⟨_, rfl⟩
                      have aq374 := nm_llo q374
                      have bq374 := nm_lhi q374
                      have t1kz369 := kz369.1
                      have t2kz369 := kz369.2.1
                      have t3kz369 := kz369.2.2.1
                      refine ty_aS (W := ty_Wps) H Jh368 rfl rfl (by decide) (by omega) (by omega) (fun i e => by unfold ty_Wps; omega) (fun _ _ => ty_eg rfl) (by omega) (by omega) (fun e1 e2 w => by omega) (fun h375 eh375 Jh375 => ?_)
                      have vh375_108 : hs_aI h375 108 = (hs_aI h342 108) := by rw [eh375]; exact (hs_aI_ne (by decide)).trans ugh368_5
                      have vh375_109 : hs_aI h375 109 = (upd (hs_aI h342 109) z364.toInt.toNat z369) := by rw [eh375, hs_aI_sA, ugh368_6]
                      have vh375_110 : hs_aI h375 110 = (hs_aI h342 110) := by rw [eh375]; exact (hs_aI_ne (by decide)).trans ugh368_7
                      have vh375_111 : hs_aI h375 111 = (hs_aI h342 111) := by rw [eh375]; exact (hs_aI_ne (by decide)).trans ugh368_8
                      have Ih375 := H.1 h375 Jh375
                      have r376 : (hs_fI h375 97 13).toInt = (hs_fI h368 97 13).toInt := by rw [eh375]; exact congrArg Int32.toInt (ty_fI_ne (by omega))
                      have r377 : (hs_fI h375 97 14).toInt = (hs_fI h368 97 14).toInt := by rw [eh375]; exact congrArg Int32.toInt (ty_fI_ne (by omega))
                      have r378 : (hs_fI h375 97 15).toInt = (hs_fI h368 97 15).toInt := by rw [eh375]; exact congrArg Int32.toInt (ty_fI_ne (by omega))
                      have r379 : (hs_fI h375 97 16).toInt = (hs_fI h368 97 16).toInt := by rw [eh375]; exact congrArg Int32.toInt (ty_fI_ne (by omega))
                      have r380 : (hs_fI h375 97 19).toInt = (hs_fI h368 97 19).toInt := by rw [eh375]; exact congrArg Int32.toInt (ty_fI_ne (by omega))
                      have r381 : (hs_fI h375 97 20).toInt = (hs_fI h368 97 20).toInt := by rw [eh375]; exact congrArg Int32.toInt (ty_fI_ne (by omega))
                      have r382 : (hs_fI h375 97 23).toInt = (hs_fI h368 97 23).toInt := by rw [eh375]; exact congrArg Int32.toInt (ty_fI_ne (by omega))
                      have r383 : (hs_fI h375 97 29).toInt = (hs_fI h368 97 29).toInt := by rw [eh375]; exact congrArg Int32.toInt (ty_fI_ne (by omega))
                      have r384 : (hs_fI h375 97 30).toInt = (hs_fI h368 97 30).toInt := by rw [eh375]; exact congrArg Int32.toInt (ty_fI_ne (by omega))
                      have r385 : (hs_fL h375 97 17).toInt = (hs_fL h368 97 17).toInt := by rw [eh375]; exact congrArg Int64.toInt (ty_fL_ne (by omega))
                      have k386 : tk_ok h375 := tk_same kz369 (by omega) (by omega) (by omega) (by omega) (by omega)
                      have op9 : pt (hs_aI h342 108) z364.toInt.toNat < 29 := by rw [l1.2, show z364.toInt.toNat = (hs_fI h 97 23).toInt.toNat by omega, pt_eq]; omega
                      have zg : pz op0 ar0 s 1 h375 := by
                        show pq ((hs_fI h375 97 19).toInt = 0) (hs_aI h375 108) (hs_aI h375 109) (hs_aI h375 110) (hs_aI h375 111) op0 ar0 s (hs_fI h375 97 23).toInt (hs_fI h375 97 29).toInt (hs_fI h375 97 30).toInt (hs_fI h375 97 14).toInt 1
                        rw [vh375_108, vh375_109, vh375_110, vh375_111, show (hs_fI h375 97 23).toInt = (hs_fI h342 97 23).toInt by omega, show (hs_fI h375 97 29).toInt = (hs_fI h342 97 29).toInt by omega, show (hs_fI h375 97 30).toInt = (hs_fI h342 97 30).toInt by omega]
                        exact pq_arg (pq_g (g' := (hs_fI h375 97 19).toInt = 0) zq343 (fun _ => ⟨by omega, rfl⟩) (by omega)) (by omega) op9
                      refine hq_p rfl rfl (ty_ge (n := 3) nk_i3 (fun z387 ez387 => ?_))
                      exact hq_W.ret rfl rfl rfl ⟨Jh375, _, rfl, by omega, k386, by omega, by omega, (fun q => by omega), ⟨by rw [if_neg (by omega)]; exact zg, fun _ => ⟨fun q => by exfalso; omega, fun q => by exfalso; omega⟩⟩⟩
            · exfalso; omega
          · refine hq_p rfl rfl ?_
            refine ty_zeq rfl (fun c389 => ?_) (fun c389 => ?_)
            · exfalso; omega
            · clear c389
              refine hq_p rfl rfl (ty_ge (n := 1) nk_i1 (fun z390 ez390 => ?_))
              refine hq_p rfl rfl ?_
              refine hq_p rfl rfl ?_
              refine hq_p rfl rfl (ty_ge (n := -1) nk_im1 (fun z391 ez391 => ?_))
              refine ty_ine rfl (fun c392 => ?_) (fun c392 => ?_)
              · exfalso; omega
              · refine hq_p rfl rfl (ty_ge (n := 0) nk_i0 (fun z393 ez393 => ?_))
                refine hq_p rfl rfl ?_
                refine hq_p rfl rfl ?_
                refine ty_zeq rfl (fun c394 => ?_) (fun c394 => ?_)
                · exfalso; omega
                · clear c394
                  refine hq_p rfl rfl ?_
                  refine ty_gL I rfl rfl (by decide) (by decide) rfl rfl (fun z395 ez395 az395 bz395 => ?_)
                  refine hq_p rfl rfl (ty_ga (fun z396 az396 bz396 => ?_))
                  refine hq_p rfl rfl ?_
                  refine ty_callm 0 [(0, 97, 13), (0, 97, 20)] (W := ty_Wps) H hJ rfl (fun _ => rfl) rfl rfl rfl (hq_pre_o I.1 (x := 97) (ci := 11) rfl (by decide) rfl rfl rfl rfl) (fun _ _ w => w) (fun _ w => w) (ct_187 (x1 := z390) (x2 := z393) (x3 := z396) (by omega) (by omega) (by omega) (by omega) (by omega) (by omega) hk (fun q => by omega) hz) ⟨⟨rfl, show ¬ ty_Wps 97 13 by unfold ty_Wps; omega⟩, ⟨rfl, show ¬ ty_Wps 97 20 by unfold ty_Wps; omega⟩, trivial⟩ (fun h398 _ Jh398 gh398 P397 => ?_)
                  obtain ⟨gh398_0, gh398_1, _⟩ := gh398
                  have gh398_0 : (hs_fI h398 97 13).toInt = (hs_fI h 97 13).toInt := gh398_0
                  have gh398_1 : (hs_fI h398 97 20).toInt = (hs_fI h 97 20).toInt := gh398_1
                  have Ih398 := H.1 h398 Jh398
                  obtain ⟨rq399, kq399, fq399, oq399, pq399, zq399, nq399⟩ := P397
                  subst rq399
                  obtain ⟨q400, eq400⟩ : ∃ q : Int32, q.toInt = (hs_fI h398 97 14).toInt := ⟨_, rfl⟩
                  have aq400 : 0 ≤ (hs_fI h398 97 14).toInt := (Ih398.2.1 97 14 (by decide)).1
                  have bq400 : (hs_fI h398 97 14).toInt ≤ 400 := (Ih398.2.1 97 14 (by decide)).2
                  obtain ⟨q401, eq401⟩ : ∃ q : Int32, q.toInt = (hs_fI h398 97 15).toInt := ⟨_, rfl⟩
                  have aq401 : 0 ≤ (hs_fI h398 97 15).toInt := (Ih398.2.1 97 15 (by decide)).1
                  have bq401 : (hs_fI h398 97 15).toInt ≤ 400 := (Ih398.2.1 97 15 (by decide)).2
                  obtain ⟨q402, eq402⟩ : ∃ q : Int32, q.toInt = (hs_fI h398 97 16).toInt := ⟨_, rfl⟩
                  have aq402 := nm_lo q402
                  have bq402 := nm_hi q402
                  obtain ⟨q403, eq403⟩ : ∃ q : Int32, q.toInt = (hs_fI h398 97 19).toInt := ⟨_, rfl⟩
                  have aq403 : 0 ≤ q403.toInt ∧ q403.toInt ≤ 1 := by omega
                  obtain ⟨q404, eq404⟩ : ∃ q : Int32, q.toInt = (hs_fI h398 97 23).toInt := ⟨_, rfl⟩
                  have aq404 : 0 ≤ (hs_fI h398 97 23).toInt := (Ih398.2.1 97 23 (by decide)).1
                  have bq404 : (hs_fI h398 97 23).toInt ≤ 400 := (Ih398.2.1 97 23 (by decide)).2
                  obtain ⟨q405, eq405⟩ : ∃ q : Int32, q.toInt = (hs_fI h398 97 29).toInt := ⟨_, rfl⟩
                  have aq405 : 0 ≤ (hs_fI h398 97 29).toInt := (Ih398.2.1 97 29 (by decide)).1
                  have bq405 : (hs_fI h398 97 29).toInt ≤ 400 := (Ih398.2.1 97 29 (by decide)).2
                  obtain ⟨q406, eq406⟩ : ∃ q : Int32, q.toInt = (hs_fI h398 97 30).toInt := ⟨_, rfl⟩
                  have aq406 : 0 ≤ (hs_fI h398 97 30).toInt := (Ih398.2.1 97 30 (by decide)).1
                  have bq406 : (hs_fI h398 97 30).toInt ≤ 8 := (Ih398.2.1 97 30 (by decide)).2
                  obtain ⟨q407, eq407⟩ : ∃ q : Int64, q.toInt = (hs_fL h398 97 17).toInt := ⟨_, rfl⟩
                  have aq407 := nm_llo q407
                  have bq407 := nm_lhi q407
                  have t1kq399 := kq399.1
                  have t2kq399 := kq399.2.1
                  have t3kq399 := kq399.2.2.1
                  refine hq_p rfl rfl ?_
                  refine ty_gB Ih398 rfl rfl (by decide) (by decide) rfl (fun z408 ez408 az408 bz408 => ?_)
                  refine ty_zeq rfl (fun c409 => ?_) (fun c409 => ?_)
                  · exfalso; omega
                  · clear c409
                    refine hq_p rfl rfl ?_
                    refine hq_p rfl rfl (ty_ge (n := 6) nk_b6 (fun z410 ez410 => ?_))
                    refine ty_ilt rfl (fun c411 => ?_) (fun c411 => ?_)
                    · refine hq_p rfl rfl (ty_ge (n := 3) nk_i3 (fun z412 ez412 => ?_))
                      exact hq_W.ret rfl rfl rfl ⟨Jh398, _, rfl, by omega, kq399, by omega, by omega, (fun q => by omega), ⟨by rw [if_neg (by omega)]; exact zq399, fun _ => ⟨fun q => by exfalso; omega, fun q => by exfalso; omega⟩⟩⟩
                    · exfalso; omega
  · replace c14 : 1 ≤ z13.toInt ∧ z13.toInt ≤ 1 := by omega
    refine hq_p rfl rfl ?_
    refine hq_p rfl rfl (ty_ge (n := 32) nk_b32 (fun z414 ez414 => ?_))
    refine ty_callm 0 [(0, 97, 13)] (W := ty_Wps) H hJ rfl (fun _ => rfl) rfl rfl rfl (hq_pre_o I.1 (x := 97) (ci := 11) rfl (by decide) rfl rfl rfl rfl) (fun _ _ w => w) (fun _ w => w) (ct_186 (x1 := z414) (by omega) (by omega) (by omega) (by omega) hk (by omega) hz (fun q => by exfalso; omega)) ⟨⟨rfl, show ¬ ty_Wps 97 13 by unfold ty_Wps; omega⟩, trivial⟩ (fun h416 _ Jh416 gh416 P415 => ?_)
    obtain ⟨gh416_0, _⟩ := gh416
    have gh416_0 : (hs_fI h416 97 13).toInt = (hs_fI h 97 13).toInt := gh416_0
    have Ih416 := H.1 h416 Jh416
    obtain ⟨rq417, kq417, fq417, oq417, pq417, zq417, nq417⟩ := P415
    subst rq417
    obtain ⟨q418, eq418⟩ : ∃ q : Int32, q.toInt = (hs_fI h416 97 14).toInt := ⟨_, rfl⟩
    have aq418 : 0 ≤ (hs_fI h416 97 14).toInt := (Ih416.2.1 97 14 (by decide)).1
    have bq418 : (hs_fI h416 97 14).toInt ≤ 400 := (Ih416.2.1 97 14 (by decide)).2
    obtain ⟨q419, eq419⟩ : ∃ q : Int32, q.toInt = (hs_fI h416 97 15).toInt := ⟨_, rfl⟩
    have aq419 : 0 ≤ (hs_fI h416 97 15).toInt := (Ih416.2.1 97 15 (by decide)).1
    have bq419 : (hs_fI h416 97 15).toInt ≤ 400 := (Ih416.2.1 97 15 (by decide)).2
    obtain ⟨q420, eq420⟩ : ∃ q : Int32, q.toInt = (hs_fI h416 97 16).toInt := ⟨_, rfl⟩
    have aq420 := nm_lo q420
    have bq420 := nm_hi q420
    obtain ⟨q421, eq421⟩ : ∃ q : Int32, q.toInt = (hs_fI h416 97 19).toInt := ⟨_, rfl⟩
    have aq421 : 0 ≤ q421.toInt ∧ q421.toInt ≤ 1 := by omega
    obtain ⟨q422, eq422⟩ : ∃ q : Int32, q.toInt = (hs_fI h416 97 23).toInt := ⟨_, rfl⟩
    have aq422 : 0 ≤ (hs_fI h416 97 23).toInt := (Ih416.2.1 97 23 (by decide)).1
    have bq422 : (hs_fI h416 97 23).toInt ≤ 400 := (Ih416.2.1 97 23 (by decide)).2
    obtain ⟨q423, eq423⟩ : ∃ q : Int32, q.toInt = (hs_fI h416 97 29).toInt := ⟨_, rfl⟩
    have aq423 : 0 ≤ (hs_fI h416 97 29).toInt := (Ih416.2.1 97 29 (by decide)).1
    have bq423 : (hs_fI h416 97 29).toInt ≤ 400 := (Ih416.2.1 97 29 (by decide)).2
    obtain ⟨q424, eq424⟩ : ∃ q : Int32, q.toInt = (hs_fI h416 97 30).toInt := ⟨_, rfl⟩
    have aq424 : 0 ≤ (hs_fI h416 97 30).toInt := (Ih416.2.1 97 30 (by decide)).1
    have bq424 : (hs_fI h416 97 30).toInt ≤ 8 := (Ih416.2.1 97 30 (by decide)).2
    obtain ⟨q425, eq425⟩ : ∃ q : Int64, q.toInt = (hs_fL h416 97 17).toInt := ⟨_, rfl⟩
    have aq425 := nm_llo q425
    have bq425 := nm_lhi q425
    have t1kq417 := kq417.1
    have t2kq417 := kq417.2.1
    have t3kq417 := kq417.2.2.1
    refine hq_p rfl rfl (ty_ge (n := 1) nk_i1 (fun z426 ez426 => ?_))
    exact hq_W.ret rfl rfl rfl ⟨Jh416, _, rfl, by omega, kq417, by omega, by omega, (fun q => by omega), ⟨by rw [if_pos (by omega)]; exact zq417, fun _ => ⟨fun q => by exfalso; omega, fun q => by exfalso; omega⟩⟩⟩
theorem ct_189 {X : pm_X} {d : Nat} {h : pm_H}  {op0 ar0 : Nat → Int} {s : Nat} (hd : 6 ≤ d)  (hb : (hs_fI h 97 19).toInt = 0) (hk : tk_ok h) (hz : pz op0 ar0 s 0 h) (hn0 : ns h) : ty_M X ty_Wps d 189 [.ref 97] h (fun h1 v => ∃ z : Int32, v = some (.int z) ∧ (z.toInt = 0 ∨ z.toInt = 1 ∨ z.toInt = 3) ∧ tk_ok h1 ∧ (hs_fI h 97 14).toInt ≤ (hs_fI h1 97 14).toInt ∧ ((hs_fI h1 97 19).toInt = 0 ∨ (hs_fI h1 97 19).toInt = 1) ∧ ((hs_fI h1 97 19).toInt = 0 → (hs_fI h 97 14).toInt + 1 ≤ (hs_fI h1 97 14).toInt) ∧ tz op0 ar0 s z.toInt h1) := by
  intro J H hJ
  obtain ⟨d, rfl⟩ : ∃ e, d = e + 1 := ⟨d - 1, by omega⟩
  have I := H.1 h hJ
  refine hq_M.enter (q := (⟨"TrainBearersModel", "readPlain", "()I"⟩, _, 1, some .int, 11, 1, pm_c189)) rfl rfl ?_
  show hq_W X d 11 false (some .int) pm_c189 (0, [some (.ref 97)], [], h) (fun h' v => J h' ∧ (fun h1 v => ∃ z : Int32, v = some (.int z) ∧ (z.toInt = 0 ∨ z.toInt = 1 ∨ z.toInt = 3) ∧ tk_ok h1 ∧ (hs_fI h 97 14).toInt ≤ (hs_fI h1 97 14).toInt ∧ ((hs_fI h1 97 19).toInt = 0 ∨ (hs_fI h1 97 19).toInt = 1) ∧ ((hs_fI h1 97 19).toInt = 0 → (hs_fI h 97 14).toInt + 1 ≤ (hs_fI h1 97 14).toInt) ∧ tz op0 ar0 s z.toInt h1) h' v)
  obtain ⟨q1, eq1⟩ : ∃ q : Int32, q.toInt = (hs_fI h 97 13).toInt := ⟨_, rfl⟩
  have aq1 : 0 ≤ (hs_fI h 97 13).toInt := (I.2.1 97 13 (by decide)).1
  have bq1 : (hs_fI h 97 13).toInt ≤ 400 := (I.2.1 97 13 (by decide)).2
  obtain ⟨q2, eq2⟩ : ∃ q : Int32, q.toInt = (hs_fI h 97 14).toInt := ⟨_, rfl⟩
  have aq2 : 0 ≤ (hs_fI h 97 14).toInt := (I.2.1 97 14 (by decide)).1
  have bq2 : (hs_fI h 97 14).toInt ≤ 400 := (I.2.1 97 14 (by decide)).2
  obtain ⟨q3, eq3⟩ : ∃ q : Int32, q.toInt = (hs_fI h 97 15).toInt := ⟨_, rfl⟩
  have aq3 : 0 ≤ (hs_fI h 97 15).toInt := (I.2.1 97 15 (by decide)).1
  have bq3 : (hs_fI h 97 15).toInt ≤ 400 := (I.2.1 97 15 (by decide)).2
  obtain ⟨q4, eq4⟩ : ∃ q : Int32, q.toInt = (hs_fI h 97 16).toInt := ⟨_, rfl⟩
  have aq4 := nm_lo q4
  have bq4 := nm_hi q4
  obtain ⟨q5, eq5⟩ : ∃ q : Int32, q.toInt = (hs_fI h 97 19).toInt := ⟨_, rfl⟩
  have aq5 : 0 ≤ q5.toInt ∧ q5.toInt ≤ 1 := by omega
  obtain ⟨q6, eq6⟩ : ∃ q : Int32, q.toInt = (hs_fI h 97 23).toInt := ⟨_, rfl⟩
  have aq6 : 0 ≤ (hs_fI h 97 23).toInt := (I.2.1 97 23 (by decide)).1
  have bq6 : (hs_fI h 97 23).toInt ≤ 400 := (I.2.1 97 23 (by decide)).2
  obtain ⟨q7, eq7⟩ : ∃ q : Int32, q.toInt = (hs_fI h 97 26).toInt := ⟨_, rfl⟩
  have aq7 : 0 ≤ (hs_fI h 97 26).toInt := (I.2.1 97 26 (by decide)).1
  have bq7 : (hs_fI h 97 26).toInt ≤ 50 := (I.2.1 97 26 (by decide)).2
  obtain ⟨q8, eq8⟩ : ∃ q : Int32, q.toInt = (hs_fI h 97 29).toInt := ⟨_, rfl⟩
  have aq8 : 0 ≤ (hs_fI h 97 29).toInt := (I.2.1 97 29 (by decide)).1
  have bq8 : (hs_fI h 97 29).toInt ≤ 400 := (I.2.1 97 29 (by decide)).2
  obtain ⟨q9, eq9⟩ : ∃ q : Int32, q.toInt = (hs_fI h 97 30).toInt := ⟨_, rfl⟩
  have aq9 : 0 ≤ (hs_fI h 97 30).toInt := (I.2.1 97 30 (by decide)).1
  have bq9 : (hs_fI h 97 30).toInt ≤ 8 := (I.2.1 97 30 (by decide)).2
  obtain ⟨q10, eq10⟩ : ∃ q : Int64, q.toInt = (hs_fL h 97 17).toInt := ⟨_, rfl⟩
  have aq10 := nm_llo q10
  have bq10 := nm_lhi q10
  have t1 := hk.1
  have t2 := hk.2.1
  have t3 := hk.2.2.1
  have z3 : (hs_fI h 97 23).toInt + (hs_fI h 97 29).toInt ≤ (hs_fI h 97 14).toInt := hz.2.2.1
  have z2 : (s : Int) ≤ (hs_fI h 97 23).toInt := hz.2.1
  refine hq_p rfl rfl ?_
  refine hq_p rfl rfl (ty_gle (n := 14836) (by decide) (fun z11 ez11 => ?_))
  refine ty_callp 0 I rfl (fun _ => rfl) rfl rfl rfl (hq_pre_o I.1 (x := 97) (ci := 11) rfl (by decide) rfl rfl rfl rfl) (ct_173w (x1 := z11) (by omega)) (fun _ P12 => ?_)
  obtain ⟨z13, rfl, az13, bz13, iz13⟩ := P12
  refine ty_zeq rfl (fun c14 => ?_) (fun c14 => ?_)
  · refine hq_p rfl rfl ?_
    refine hq_p rfl rfl (ty_ge (n := 40) nk_b40 (fun z15 ez15 => ?_))
    refine ty_callp 0 I rfl (fun _ => rfl) rfl rfl rfl (hq_pre_o I.1 (x := 97) (ci := 11) rfl (by decide) rfl rfl rfl rfl) (ct_174w (x1 := z15) (by omega)) (fun _ P16 => ?_)
    obtain ⟨z17, rfl, az17, bz17, iz17⟩ := P16
    refine ty_zeq rfl (fun c18 => ?_) (fun c18 => ?_)
    · refine hq_p rfl rfl ?_
      refine ty_callm 0 [(0, 97, 13)] (W := ty_Wps) H hJ rfl (fun _ => rfl) rfl rfl rfl (hq_pre_o I.1 (x := 97) (ci := 11) rfl (by decide) rfl rfl rfl rfl) (fun _ _ w => w) (fun _ w => w) (ct_188 (by omega) (by omega) hk hz) ⟨⟨rfl, show ¬ ty_Wps 97 13 by unfold ty_Wps; omega⟩, trivial⟩ (fun h20 _ Jh20 gh20 P19 => ?_)
      obtain ⟨gh20_0, _⟩ := gh20
      have gh20_0 : (hs_fI h20 97 13).toInt = (hs_fI h 97 13).toInt := gh20_0
      have Ih20 := H.1 h20 Jh20
      obtain ⟨z21, rfl, wz21, kz21, fz21, oz21, pz21, zz21⟩ := P19
      obtain ⟨q22, eq22⟩ : ∃ q : Int32, q.toInt = (hs_fI h20 97 14).toInt := ⟨_, rfl⟩
      have aq22 : 0 ≤ (hs_fI h20 97 14).toInt := (Ih20.2.1 97 14 (by decide)).1
      have bq22 : (hs_fI h20 97 14).toInt ≤ 400 := (Ih20.2.1 97 14 (by decide)).2
      obtain ⟨q23, eq23⟩ : ∃ q : Int32, q.toInt = (hs_fI h20 97 15).toInt := ⟨_, rfl⟩
      have aq23 : 0 ≤ (hs_fI h20 97 15).toInt := (Ih20.2.1 97 15 (by decide)).1
      have bq23 : (hs_fI h20 97 15).toInt ≤ 400 := (Ih20.2.1 97 15 (by decide)).2
      obtain ⟨q24, eq24⟩ : ∃ q : Int32, q.toInt = (hs_fI h20 97 16).toInt := ⟨_, rfl⟩
      have aq24 := nm_lo q24
      have bq24 := nm_hi q24
      obtain ⟨q25, eq25⟩ : ∃ q : Int32, q.toInt = (hs_fI h20 97 19).toInt := ⟨_, rfl⟩
      have aq25 : 0 ≤ q25.toInt ∧ q25.toInt ≤ 1 := by omega
      obtain ⟨q26, eq26⟩ : ∃ q : Int32, q.toInt = (hs_fI h20 97 23).toInt := ⟨_, rfl⟩
      have aq26 : 0 ≤ (hs_fI h20 97 23).toInt := (Ih20.2.1 97 23 (by decide)).1
      have bq26 : (hs_fI h20 97 23).toInt ≤ 400 := (Ih20.2.1 97 23 (by decide)).2
      obtain ⟨q27, eq27⟩ : ∃ q : Int32, q.toInt = (hs_fI h20 97 29).toInt := ⟨_, rfl⟩
      have aq27 : 0 ≤ (hs_fI h20 97 29).toInt := (Ih20.2.1 97 29 (by decide)).1
      have bq27 : (hs_fI h20 97 29).toInt ≤ 400 := (Ih20.2.1 97 29 (by decide)).2
      obtain ⟨q28, eq28⟩ : ∃ q : Int32, q.toInt = (hs_fI h20 97 30).toInt := ⟨_, rfl⟩
      have aq28 : 0 ≤ (hs_fI h20 97 30).toInt := (Ih20.2.1 97 30 (by decide)).1
      have bq28 : (hs_fI h20 97 30).toInt ≤ 8 := (Ih20.2.1 97 30 (by decide)).2
      obtain ⟨q29, eq29⟩ : ∃ q : Int64, q.toInt = (hs_fL h20 97 17).toInt := ⟨_, rfl⟩
      have aq29 := nm_llo q29
      have bq29 := nm_lhi q29
      have t1kz21 := kz21.1
      have t2kz21 := kz21.2.1
      have t3kz21 := kz21.2.2.1
      have vz21 : 1 ≤ z21.toInt ∧ z21.toInt ≤ 3 := by omega
      exact hq_W.ret rfl rfl rfl ⟨Jh20, _, rfl, by omega, kz21, by omega, by omega, (fun q => by omega), zz21⟩
    · replace c18 : 1 ≤ z17.toInt ∧ z17.toInt ≤ 1 := by omega
      refine hq_p rfl rfl ?_
      refine hq_p rfl rfl (ty_ge (n := 31) nk_b31 (fun z30 ez30 => ?_))
      refine ty_callm 0 [(0, 97, 13)] (W := ty_Wps) H hJ rfl (fun _ => rfl) rfl rfl rfl (hq_pre_o I.1 (x := 97) (ci := 11) rfl (by decide) rfl rfl rfl rfl) (fun _ _ w => w) (fun _ w => w) (ct_186 (x1 := z30) (by omega) (by omega) (by omega) (by omega) hk (by omega) hz (fun _ => hn0)) ⟨⟨rfl, show ¬ ty_Wps 97 13 by unfold ty_Wps; omega⟩, trivial⟩ (fun h32 _ Jh32 gh32 P31 => ?_)
      obtain ⟨gh32_0, _⟩ := gh32
      have gh32_0 : (hs_fI h32 97 13).toInt = (hs_fI h 97 13).toInt := gh32_0
      have Ih32 := H.1 h32 Jh32
      obtain ⟨rq33, kq33, fq33, oq33, pq33, zq33, nq33⟩ := P31
      subst rq33
      obtain ⟨q34, eq34⟩ : ∃ q : Int32, q.toInt = (hs_fI h32 97 14).toInt := ⟨_, rfl⟩
      have aq34 : 0 ≤ (hs_fI h32 97 14).toInt := (Ih32.2.1 97 14 (by decide)).1
      have bq34 : (hs_fI h32 97 14).toInt ≤ 400 := (Ih32.2.1 97 14 (by decide)).2
      obtain ⟨q35, eq35⟩ : ∃ q : Int32, q.toInt = (hs_fI h32 97 15).toInt := ⟨_, rfl⟩
      have aq35 : 0 ≤ (hs_fI h32 97 15).toInt := (Ih32.2.1 97 15 (by decide)).1
      have bq35 : (hs_fI h32 97 15).toInt ≤ 400 := (Ih32.2.1 97 15 (by decide)).2
      obtain ⟨q36, eq36⟩ : ∃ q : Int32, q.toInt = (hs_fI h32 97 16).toInt := ⟨_, rfl⟩
      have aq36 := nm_lo q36
      have bq36 := nm_hi q36
      obtain ⟨q37, eq37⟩ : ∃ q : Int32, q.toInt = (hs_fI h32 97 19).toInt := ⟨_, rfl⟩
      have aq37 : 0 ≤ q37.toInt ∧ q37.toInt ≤ 1 := by omega
      obtain ⟨q38, eq38⟩ : ∃ q : Int32, q.toInt = (hs_fI h32 97 23).toInt := ⟨_, rfl⟩
      have aq38 : 0 ≤ (hs_fI h32 97 23).toInt := (Ih32.2.1 97 23 (by decide)).1
      have bq38 : (hs_fI h32 97 23).toInt ≤ 400 := (Ih32.2.1 97 23 (by decide)).2
      obtain ⟨q39, eq39⟩ : ∃ q : Int32, q.toInt = (hs_fI h32 97 29).toInt := ⟨_, rfl⟩
      have aq39 : 0 ≤ (hs_fI h32 97 29).toInt := (Ih32.2.1 97 29 (by decide)).1
      have bq39 : (hs_fI h32 97 29).toInt ≤ 400 := (Ih32.2.1 97 29 (by decide)).2
      obtain ⟨q40, eq40⟩ : ∃ q : Int32, q.toInt = (hs_fI h32 97 30).toInt := ⟨_, rfl⟩
      have aq40 : 0 ≤ (hs_fI h32 97 30).toInt := (Ih32.2.1 97 30 (by decide)).1
      have bq40 : (hs_fI h32 97 30).toInt ≤ 8 := (Ih32.2.1 97 30 (by decide)).2
      obtain ⟨q41, eq41⟩ : ∃ q : Int64, q.toInt = (hs_fL h32 97 17).toInt := ⟨_, rfl⟩
      have aq41 := nm_llo q41
      have bq41 := nm_lhi q41
      have t1kq33 := kq33.1
      have t2kq33 := kq33.2.1
      have t3kq33 := kq33.2.2.1
      refine hq_p rfl rfl (ty_ge (n := 0) nk_i0 (fun z42 ez42 => ?_))
      exact hq_W.ret rfl rfl rfl ⟨Jh32, _, rfl, by omega, kq33, by omega, by omega, (fun q => by omega), ⟨by rw [if_pos (by omega)]; exact zq33, fun q => ⟨fun _ => (nq33 q hn0 (by omega)), fun q => by exfalso; omega⟩⟩⟩
  · replace c14 : 1 ≤ z13.toInt ∧ z13.toInt ≤ 1 := by omega
    refine hq_p rfl rfl ?_
    refine hq_p rfl rfl (ty_ge (n := 28) nk_b28 (fun z44 ez44 => ?_))
    refine hq_p rfl rfl (ty_ge (n := 0) nk_i0 (fun z45 ez45 => ?_))
    refine ty_callm 0 [(0, 97, 13), (0, 97, 14), (0, 97, 15), (0, 97, 16), (0, 97, 19), (0, 97, 23), (0, 97, 26), (0, 97, 30), (2, 97, 17), (3, 108, 0), (3, 109, 0)] (W := ty_Wps) H hJ rfl (fun _ => rfl) rfl rfl rfl (hq_pre_o I.1 (x := 97) (ci := 11) rfl (by decide) rfl rfl rfl rfl) (fun a k w => by unfold ty_Wi at w; unfold ty_Wps; omega) (by unfold ty_Wi ty_Wps; omega) (ct_179 (x1 := z44) (x2 := z45) (by omega) (by omega) (by omega)) ⟨⟨rfl, show ¬ ty_Wi 97 13 by unfold ty_Wi; omega⟩, ⟨rfl, show ¬ ty_Wi 97 14 by unfold ty_Wi; omega⟩, ⟨rfl, show ¬ ty_Wi 97 15 by unfold ty_Wi; omega⟩, ⟨rfl, show ¬ ty_Wi 97 16 by unfold ty_Wi; omega⟩, ⟨rfl, show ¬ ty_Wi 97 19 by unfold ty_Wi; omega⟩, ⟨rfl, show ¬ ty_Wi 97 23 by unfold ty_Wi; omega⟩, ⟨rfl, show ¬ ty_Wi 97 26 by unfold ty_Wi; omega⟩, ⟨rfl, show ¬ ty_Wi 97 30 by unfold ty_Wi; omega⟩, ⟨rfl, show ¬ ty_Wi 97 17 by unfold ty_Wi; omega⟩, ⟨rfl, fun k => show ¬ ty_Wi 108 k by unfold ty_Wi; omega⟩, ⟨rfl, fun k => show ¬ ty_Wi 109 k by unfold ty_Wi; omega⟩, trivial⟩ (fun h47 _ Jh47 gh47 P46 => ?_)
    obtain ⟨gh47_0, gh47_1, gh47_2, gh47_3, gh47_4, gh47_5, gh47_6, gh47_7, gh47_8, gh47_9, gh47_10, _⟩ := gh47
    have gh47_0 : (hs_fI h47 97 13).toInt = (hs_fI h 97 13).toInt := gh47_0
    have gh47_1 : (hs_fI h47 97 14).toInt = (hs_fI h 97 14).toInt := gh47_1
    have gh47_2 : (hs_fI h47 97 15).toInt = (hs_fI h 97 15).toInt := gh47_2
    have gh47_3 : (hs_fI h47 97 16).toInt = (hs_fI h 97 16).toInt := gh47_3
    have gh47_4 : (hs_fI h47 97 19).toInt = (hs_fI h 97 19).toInt := gh47_4
    have gh47_5 : (hs_fI h47 97 23).toInt = (hs_fI h 97 23).toInt := gh47_5
    have gh47_6 : (hs_fI h47 97 26).toInt = (hs_fI h 97 26).toInt := gh47_6
    have gh47_7 : (hs_fI h47 97 30).toInt = (hs_fI h 97 30).toInt := gh47_7
    have gh47_8 : (hs_fL h47 97 17).toInt = (hs_fL h 97 17).toInt := gh47_8
    have gh47_9 : hs_aI h47 108 = hs_aI h 108 := gh47_9
    have ugh47_9 : hs_aI h47 108 = (hs_aI h 108) := gh47_9.trans rfl
    have gh47_10 : hs_aI h47 109 = hs_aI h 109 := gh47_10
    have ugh47_10 : hs_aI h47 109 = (hs_aI h 109) := gh47_10.trans rfl
    have Ih47 := H.1 h47 Jh47
    obtain ⟨rq48, nq48, xq48, yq48⟩ := P46
    subst rq48
    obtain ⟨q49, eq49⟩ : ∃ q : Int32, q.toInt = (hs_fI h47 97 29).toInt := ⟨_, rfl⟩
    have aq49 : 0 ≤ (hs_fI h47 97 29).toInt := (Ih47.2.1 97 29 (by decide)).1
    have bq49 : (hs_fI h47 97 29).toInt ≤ 400 := (Ih47.2.1 97 29 (by decide)).2
    have wq48110 : hs_aI h47 110 = (upd (hs_aI h 110) (hs_fI h 97 29).toInt.toNat z44) := by rw [xq48, show (hs_fI h 97 29).toInt.toNat = (hs_fI h 97 29).toInt.toNat by omega]
    have wq48111 : hs_aI h47 111 = (upd (hs_aI h 111) (hs_fI h 97 29).toInt.toNat z45) := by rw [yq48, show (hs_fI h 97 29).toInt.toNat = (hs_fI h 97 29).toInt.toNat by omega]
    refine hq_p rfl rfl ?_
    refine ty_callm 0 [(0, 97, 13), (0, 97, 19), (0, 97, 23), (0, 97, 26), (0, 97, 29), (0, 97, 30), (3, 108, 0), (3, 109, 0), (3, 110, 0), (3, 111, 0)] (W := ty_Wps) H Jh47 rfl (fun _ => rfl) rfl rfl rfl (hq_pre_o Ih47.1 (x := 97) (ci := 11) rfl (by decide) rfl rfl rfl rfl) (fun a k w => by unfold ty_Wn at w; unfold ty_Wps; omega) (by unfold ty_Wn ty_Wps; omega) (ct_172w (by omega) (by omega)) ⟨⟨rfl, show ¬ ty_Wn 97 13 by unfold ty_Wn; omega⟩, ⟨rfl, show ¬ ty_Wn 97 19 by unfold ty_Wn; omega⟩, ⟨rfl, show ¬ ty_Wn 97 23 by unfold ty_Wn; omega⟩, ⟨rfl, show ¬ ty_Wn 97 26 by unfold ty_Wn; omega⟩, ⟨rfl, show ¬ ty_Wn 97 29 by unfold ty_Wn; omega⟩, ⟨rfl, show ¬ ty_Wn 97 30 by unfold ty_Wn; omega⟩, ⟨rfl, fun k => show ¬ ty_Wn 108 k by unfold ty_Wn; omega⟩, ⟨rfl, fun k => show ¬ ty_Wn 109 k by unfold ty_Wn; omega⟩, ⟨rfl, fun k => show ¬ ty_Wn 110 k by unfold ty_Wn; omega⟩, ⟨rfl, fun k => show ¬ ty_Wn 111 k by unfold ty_Wn; omega⟩, trivial⟩ (fun h51 _ Jh51 gh51 P50 => ?_)
    obtain ⟨gh51_0, gh51_1, gh51_2, gh51_3, gh51_4, gh51_5, gh51_6, gh51_7, gh51_8, gh51_9, _⟩ := gh51
    have gh51_0 : (hs_fI h51 97 13).toInt = (hs_fI h47 97 13).toInt := gh51_0
    have gh51_1 : (hs_fI h51 97 19).toInt = (hs_fI h47 97 19).toInt := gh51_1
    have gh51_2 : (hs_fI h51 97 23).toInt = (hs_fI h47 97 23).toInt := gh51_2
    have gh51_3 : (hs_fI h51 97 26).toInt = (hs_fI h47 97 26).toInt := gh51_3
    have gh51_4 : (hs_fI h51 97 29).toInt = (hs_fI h47 97 29).toInt := gh51_4
    have gh51_5 : (hs_fI h51 97 30).toInt = (hs_fI h47 97 30).toInt := gh51_5
    have gh51_6 : hs_aI h51 108 = hs_aI h47 108 := gh51_6
    have ugh51_6 : hs_aI h51 108 = (hs_aI h 108) := gh51_6.trans ugh47_9
    have gh51_7 : hs_aI h51 109 = hs_aI h47 109 := gh51_7
    have ugh51_7 : hs_aI h51 109 = (hs_aI h 109) := gh51_7.trans ugh47_10
    have gh51_8 : hs_aI h51 110 = hs_aI h47 110 := gh51_8
    have ugh51_8 : hs_aI h51 110 = (upd (hs_aI h 110) (hs_fI h 97 29).toInt.toNat z44) := gh51_8.trans wq48110
    have gh51_9 : hs_aI h51 111 = hs_aI h47 111 := gh51_9
    have ugh51_9 : hs_aI h51 111 = (upd (hs_aI h 111) (hs_fI h 97 29).toInt.toNat z45) := gh51_9.trans wq48111
    have Ih51 := H.1 h51 Jh51
    obtain ⟨rq52, fq52, kq52⟩ := P50
    subst rq52
    have t1kq52 := kq52.1
    have t2kq52 := kq52.2.1
    have t3kq52 := kq52.2.2.1
    obtain ⟨q53, eq53⟩ : ∃ q : Int32, q.toInt = (hs_fI h51 97 14).toInt := ⟨_, rfl⟩
    have aq53 : 0 ≤ (hs_fI h51 97 14).toInt := (Ih51.2.1 97 14 (by decide)).1
    have bq53 : (hs_fI h51 97 14).toInt ≤ 400 := (Ih51.2.1 97 14 (by decide)).2
    obtain ⟨q54, eq54⟩ : ∃ q : Int32, q.toInt = (hs_fI h51 97 15).toInt := ⟨_, rfl⟩
    have aq54 : 0 ≤ (hs_fI h51 97 15).toInt := (Ih51.2.1 97 15 (by decide)).1
    have bq54 : (hs_fI h51 97 15).toInt ≤ 400 := (Ih51.2.1 97 15 (by decide)).2
    obtain ⟨q55, eq55⟩ : ∃ q : Int32, q.toInt = (hs_fI h51 97 16).toInt := ⟨_, rfl⟩
    have aq55 := nm_lo q55
    have bq55 := nm_hi q55
    obtain ⟨q56, eq56⟩ : ∃ q : Int64, q.toInt = (hs_fL h51 97 17).toInt := ⟨_, rfl⟩
    have aq56 := nm_llo q56
    have bq56 := nm_lhi q56
    refine hq_p rfl rfl (ty_ge (n := 0) nk_i0 (fun z57 ez57 => ?_))
    have zf : pz op0 ar0 s 0 h51 := by
      show pq ((hs_fI h51 97 19).toInt = 0) (hs_aI h51 108) (hs_aI h51 109) (hs_aI h51 110) (hs_aI h51 111) op0 ar0 s (hs_fI h51 97 23).toInt (hs_fI h51 97 29).toInt (hs_fI h51 97 30).toInt (hs_fI h51 97 14).toInt 0
      rw [ugh51_6, ugh51_7, ugh51_8, ugh51_9, show (hs_fI h51 97 23).toInt = (hs_fI h 97 23).toInt by omega, show (hs_fI h51 97 29).toInt = (hs_fI h 97 29).toInt + 1 by omega, show (hs_fI h51 97 30).toInt = (hs_fI h 97 30).toInt by omega]
      exact pq_push (pq_g (g' := (hs_fI h51 97 19).toInt = 0) hz (fun _ => ⟨hb, rfl⟩) (Int.le_refl _)) (by omega) (by omega) (fun _ => by rw [ps_b0 (by omega)]; rfl) (by omega) (by rw [if_neg (by omega)]; omega) (Or.inr (Or.inr hn0))
    exact hq_W.ret rfl rfl rfl ⟨Jh51, _, rfl, by omega, kq52, by omega, by omega, (fun q => by omega), ⟨by rw [if_pos (by omega)]; exact zf, fun q => ⟨fun _ => (by show ps_ns (pt (hs_aI h51 110)) (hs_fI h51 97 29).toInt.toNat; rw [ugh51_8, show (hs_fI h51 97 29).toInt = (hs_fI h 97 29).toInt + 1 by omega]; exact ps_nsu hn0 (by omega) (by omega)), fun q => by exfalso; omega⟩⟩⟩
end CT49
