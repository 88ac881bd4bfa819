/-! CONTRACTS (printed by wip/pm/cts.py) -/
section CT55
def ty_Wrs (a k : Nat) : Prop := (a = 97 ∧ (k = 14 ∨ k = 15 ∨ k = 16 ∨ k = 17 ∨ k = 18 ∨ k = 19 ∨ k = 23 ∨ k = 26 ∨ k = 29 ∨ k = 30)) ∨ a = 108 ∨ a = 109 ∨ a = 110 ∨ a = 111 ∨ a = 127
def ty_Wro (a k : Nat) : Prop := (a = 97 ∧ (k = 14 ∨ k = 15 ∨ k = 16 ∨ k = 17 ∨ k = 18 ∨ k = 19 ∨ k = 21 ∨ k = 23 ∨ k = 26 ∨ k = 29 ∨ k = 30)) ∨ a = 108 ∨ a = 109 ∨ a = 110 ∨ a = 111 ∨ a = 127
theorem ct_244 {X : pm_X} {d : Nat} {h : pm_H} {x1 : Int32} {B7 B8 B9 : Nat → Int32} {c : Nat} {n0 : Int} (hd : 8 ≤ d) (ax1 : 1 ≤ x1.toInt) (bx1 : x1.toInt ≤ 91) (h01 : (hs_fI h 97 19).toInt = 0 ∨ (hs_fI h 97 19).toInt = 1) (hk : tk_ok h) (hnf : (hs_fI h 97 23).toInt ≤ (hs_fI h 97 14).toInt) (hat : x1.toInt = 8 * c + 1 ∨ x1.toInt = 8 * c + 3) (hro : ro B7 B8 B9 c n0 ((hs_fI h 97 19).toInt = 0) (hs_aI h 127) (hs_aI h 108) (hs_aI h 109) (hs_fI h 97 23).toInt) : ty_M X ty_Wrs d 244 [.ref 97, .int x1] h (fun h1 v => v = none ∧ tk_ok h1 ∧ (hs_fI h 97 14).toInt ≤ (hs_fI h1 97 14).toInt ∧ ((hs_fI h1 97 19).toInt = 0 ∨ (hs_fI h1 97 19).toInt = 1) ∧ (hs_fI h1 97 23).toInt ≤ (hs_fI h1 97 14).toInt ∧ ro B7 B8 B9 c n0 ((hs_fI h1 97 19).toInt = 0) (hs_aI h1 127) (hs_aI h1 108) (hs_aI h1 109) (hs_fI h1 97 23).toInt) := by
  intro J H hJ
  obtain ⟨d, rfl⟩ : ∃ e, d = e + 1 := ⟨d - 1, by omega⟩
  have I := H.1 h hJ
  refine hq_M.enter (q := (⟨"TrainBearersModel", "readSum", "(I)V"⟩, _, 2, none, 11, 2, pm_c244)) rfl rfl ?_
  show hq_W X d 11 false (none) pm_c244 (0, [some (.ref 97), some (.int x1)], [], h) (fun h' v => J h' ∧ (fun h1 v => v = none ∧ tk_ok h1 ∧ (hs_fI h 97 14).toInt ≤ (hs_fI h1 97 14).toInt ∧ ((hs_fI h1 97 19).toInt = 0 ∨ (hs_fI h1 97 19).toInt = 1) ∧ (hs_fI h1 97 23).toInt ≤ (hs_fI h1 97 14).toInt ∧ ro B7 B8 B9 c n0 ((hs_fI h1 97 19).toInt = 0) (hs_aI h1 127) (hs_aI h1 108) (hs_aI h1 109) (hs_fI h1 97 23).toInt) h' v)
  obtain ⟨q1, eq1⟩ : ∃ q : Int32, q.toInt = (hs_fI h 97 13).toInt := ⟨_, rfl⟩
  have aq1 : 0 ≤ (hs_fI h 97 13).toInt := (I.2.1 97 13 (by decide)).1
  have bq1 : (hs_fI h 97 13).toInt ≤ 400 := (I.2.1 97 13 (by decide)).2
  obtain ⟨q2, eq2⟩ : ∃ q : Int32, q.toInt = (hs_fI h 97 14).toInt := ⟨_, rfl⟩
  have aq2 : 0 ≤ (hs_fI h 97 14).toInt := (I.2.1 97 14 (by decide)).1
  have bq2 : (hs_fI h 97 14).toInt ≤ 400 := (I.2.1 97 14 (by decide)).2
  obtain ⟨q3, eq3⟩ : ∃ q : Int32, q.toInt = (hs_fI h 97 15).toInt := ⟨_, rfl⟩
  have aq3 : 0 ≤ (hs_fI h 97 15).toInt := (I.2.1 97 15 (by decide)).1
  have bq3 : (hs_fI h 97 15).toInt ≤ 400 := (I.2.1 97 15 (by decide)).2
  obtain ⟨q4, eq4⟩ : ∃ q : Int32, q.toInt = (hs_fI h 97 16).toInt := ⟨_, rfl⟩
  have aq4 := nm_lo q4
  have bq4 := nm_hi q4
  obtain ⟨q5, eq5⟩ : ∃ q : Int32, q.toInt = (hs_fI h 97 19).toInt := ⟨_, rfl⟩
  have aq5 : 0 ≤ q5.toInt ∧ q5.toInt ≤ 1 := by omega
  obtain ⟨q6, eq6⟩ : ∃ q : Int32, q.toInt = (hs_fI h 97 21).toInt := ⟨_, rfl⟩
  have aq6 : 0 ≤ (hs_fI h 97 21).toInt := (I.2.1 97 21 (by decide)).1
  have bq6 : (hs_fI h 97 21).toInt ≤ 12 := (I.2.1 97 21 (by decide)).2
  obtain ⟨q7, eq7⟩ : ∃ q : Int32, q.toInt = (hs_fI h 97 23).toInt := ⟨_, rfl⟩
  have aq7 : 0 ≤ (hs_fI h 97 23).toInt := (I.2.1 97 23 (by decide)).1
  have bq7 : (hs_fI h 97 23).toInt ≤ 400 := (I.2.1 97 23 (by decide)).2
  obtain ⟨q8, eq8⟩ : ∃ q : Int32, q.toInt = (hs_fI h 97 26).toInt := ⟨_, rfl⟩
  have aq8 : 0 ≤ (hs_fI h 97 26).toInt := (I.2.1 97 26 (by decide)).1
  have bq8 : (hs_fI h 97 26).toInt ≤ 50 := (I.2.1 97 26 (by decide)).2
  obtain ⟨q9, eq9⟩ : ∃ q : Int64, q.toInt = (hs_fL h 97 17).toInt := ⟨_, rfl⟩
  have aq9 := nm_llo q9
  have bq9 := nm_lhi q9
  have t1 := hk.1
  have t2 := hk.2.1
  refine hq_p rfl rfl ?_
  refine hq_gR I.1 rfl rfl (by decide) (by decide) rfl ?_
  refine hq_p rfl rfl ?_
  refine hq_p rfl rfl ?_
  refine ty_gI I rfl rfl (by decide) (by decide) rfl rfl (fun z10 ez10 az10 bz10 => ?_)
  refine ty_aS (W := ty_Wrs) H hJ rfl rfl (by decide) (by omega) (by omega) (fun i e => by unfold ty_Wrs; omega) (fun _ _ => ty_eg rfl) (by omega) (by omega) (fun e1 e2 w => by omega) (fun h11 eh11 Jh11 => ?_)
  have vh11_127 : hs_aI h11 127 = (upd (hs_aI h 127) x1.toInt.toNat z10) := by rw [eh11, hs_aI_sA]
  have vh11_108 : hs_aI h11 108 = (hs_aI h 108) := by rw [eh11]; exact (hs_aI_ne (by decide)).trans rfl
  have vh11_109 : hs_aI h11 109 = (hs_aI h 109) := by rw [eh11]; exact (hs_aI_ne (by decide)).trans rfl
  have Ih11 := H.1 h11 Jh11
  refine hq_p rfl rfl ?_
  have r13 : (hs_fI h11 97 19).toInt = (hs_fI h 97 19).toInt := by rw [eh11]; exact congrArg Int32.toInt (ty_fI_ne (by omega))
  refine ty_gB Ih11 rfl rfl (by decide) (by decide) rfl (fun z12 ez12 az12 bz12 => ?_)
  refine ty_zne rfl (fun c14 => ?_) (fun c14 => ?_)
  · replace c14 : 1 ≤ z12.toInt ∧ z12.toInt ≤ 1 := by omega
    refine hq_p rfl rfl ?_
    refine hq_gR Ih11.1 rfl rfl (by decide) (by decide) rfl ?_
    refine hq_p rfl rfl ?_
    refine hq_p rfl rfl (ty_ge (n := 1) nk_i1 (fun z15 ez15 => ?_))
    refine hq_p rfl rfl (ty_ge (n := x1.toInt + z15.toInt) (nm_add (by omega) (by omega)) (fun z16 ez16 => ?_))
    refine hq_p rfl rfl ?_
    have r18 : (hs_fI h11 97 23).toInt = (hs_fI h 97 23).toInt := by rw [eh11]; exact congrArg Int32.toInt (ty_fI_ne (by omega))
    refine ty_gI Ih11 rfl rfl (by decide) (by decide) rfl rfl (fun z17 ez17 az17 bz17 => ?_)
    refine ty_aS (W := ty_Wrs) H Jh11 rfl rfl (by decide) (by omega) (by omega) (fun i e => by unfold ty_Wrs; omega) (fun _ _ => ty_eg rfl) (by omega) (by omega) (fun e1 e2 w => by omega) (fun h19 eh19 Jh19 => ?_)
    have vh19_127 : hs_aI h19 127 = (upd (upd (hs_aI h 127) x1.toInt.toNat z10) z16.toInt.toNat z17) := by rw [eh19, hs_aI_sA, vh11_127]
    have vh19_108 : hs_aI h19 108 = (hs_aI h 108) := by rw [eh19]; exact (hs_aI_ne (by decide)).trans vh11_108
    have vh19_109 : hs_aI h19 109 = (hs_aI h 109) := by rw [eh19]; exact (hs_aI_ne (by decide)).trans vh11_109
    have Ih19 := H.1 h19 Jh19
    have r20 : (hs_fI h11 97 13).toInt = (hs_fI h 97 13).toInt := by rw [eh11]; exact congrArg Int32.toInt (ty_fI_ne (by omega))
    have r21 : (hs_fI h19 97 13).toInt = (hs_fI h11 97 13).toInt := by rw [eh19]; exact congrArg Int32.toInt (ty_fI_ne (by omega))
    have r22 : (hs_fI h11 97 14).toInt = (hs_fI h 97 14).toInt := by rw [eh11]; exact congrArg Int32.toInt (ty_fI_ne (by omega))
    have r23 : (hs_fI h19 97 14).toInt = (hs_fI h11 97 14).toInt := by rw [eh19]; exact congrArg Int32.toInt (ty_fI_ne (by omega))
    have r24 : (hs_fI h11 97 15).toInt = (hs_fI h 97 15).toInt := by rw [eh11]; exact congrArg Int32.toInt (ty_fI_ne (by omega))
    have r25 : (hs_fI h19 97 15).toInt = (hs_fI h11 97 15).toInt := by rw [eh19]; exact congrArg Int32.toInt (ty_fI_ne (by omega))
    have r26 : (hs_fI h11 97 16).toInt = (hs_fI h 97 16).toInt := by rw [eh11]; exact congrArg Int32.toInt (ty_fI_ne (by omega))
    have r27 : (hs_fI h19 97 16).toInt = (hs_fI h11 97 16).toInt := by rw [eh19]; exact congrArg Int32.toInt (ty_fI_ne (by omega))
    have r28 : (hs_fI h19 97 19).toInt = (hs_fI h11 97 19).toInt := by rw [eh19]; exact congrArg Int32.toInt (ty_fI_ne (by omega))
    have r29 : (hs_fI h11 97 21).toInt = (hs_fI h 97 21).toInt := by rw [eh11]; exact congrArg Int32.toInt (ty_fI_ne (by omega))
    have r30 : (hs_fI h19 97 21).toInt = (hs_fI h11 97 21).toInt := by rw [eh19]; exact congrArg Int32.toInt (ty_fI_ne (by omega))
    have r31 : (hs_fI h19 97 23).toInt = (hs_fI h11 97 23).toInt := by rw [eh19]; exact congrArg Int32.toInt (ty_fI_ne (by omega))
    have r32 : (hs_fI h11 97 26).toInt = (hs_fI h 97 26).toInt := by rw [eh11]; exact congrArg Int32.toInt (ty_fI_ne (by omega))
    have r33 : (hs_fI h19 97 26).toInt = (hs_fI h11 97 26).toInt := by rw [eh19]; exact congrArg Int32.toInt (ty_fI_ne (by omega))
    have r34 : (hs_fL h11 97 17).toInt = (hs_fL h 97 17).toInt := by rw [eh11]; exact congrArg Int64.toInt (ty_fL_ne (by omega))
    have r35 : (hs_fL h19 97 17).toInt = (hs_fL h11 97 17).toInt := by rw [eh19]; exact congrArg Int64.toInt (ty_fL_ne (by omega))
    have k36 : tk_ok h19 := tk_same hk (by omega) (by omega) (by omega) (by omega) (by omega)
    have rf : ro B7 B8 B9 c n0 ((hs_fI h19 97 19).toInt = 0) (hs_aI h19 127) (hs_aI h19 108) (hs_aI h19 109) (hs_fI h19 97 23).toInt := by rw [vh19_127, vh19_108, vh19_109, show (hs_fI h19 97 23).toInt = (hs_fI h11 97 23).toInt by omega]; exact ro_sum hro (by omega) (by omega) (by omega) (by omega) (by omega) (by omega) (fun q => by exfalso; omega)
    exact hq_W.ret rfl rfl rfl ⟨Jh19, rfl, k36, by omega, by omega, by omega, rf⟩
  · refine hq_p rfl rfl ?_
    refine hq_p rfl rfl (ty_ge (n := 0) nk_i0 (fun z37 ez37 => ?_))
    have r38 : (hs_fI h11 97 13).toInt = (hs_fI h 97 13).toInt := by rw [eh11]; exact congrArg Int32.toInt (ty_fI_ne (by omega))
    have r39 : (hs_fI h11 97 14).toInt = (hs_fI h 97 14).toInt := by rw [eh11]; exact congrArg Int32.toInt (ty_fI_ne (by omega))
    have r40 : (hs_fI h11 97 15).toInt = (hs_fI h 97 15).toInt := by rw [eh11]; exact congrArg Int32.toInt (ty_fI_ne (by omega))
    have r41 : (hs_fI h11 97 16).toInt = (hs_fI h 97 16).toInt := by rw [eh11]; exact congrArg Int32.toInt (ty_fI_ne (by omega))
    have r42 : (hs_fI h11 97 21).toInt = (hs_fI h 97 21).toInt := by rw [eh11]; exact congrArg Int32.toInt (ty_fI_ne (by omega))
    have r43 : (hs_fI h11 97 23).toInt = (hs_fI h 97 23).toInt := by rw [eh11]; exact congrArg Int32.toInt (ty_fI_ne (by omega))
    have r44 : (hs_fI h11 97 26).toInt = (hs_fI h 97 26).toInt := by rw [eh11]; exact congrArg Int32.toInt (ty_fI_ne (by omega))
    have r45 : (hs_fL h11 97 17).toInt = (hs_fL h 97 17).toInt := by rw [eh11]; exact congrArg Int64.toInt (ty_fL_ne (by omega))
    have k46 : tk_ok h11 := tk_same hk (by omega) (by omega) (by omega) (by omega) (by omega)
    refine ty_callm 0 [(0, 97, 13), (0, 97, 21), (3, 127, 0)] (W := ty_Wrs) H Jh11 rfl (fun _ => rfl) rfl rfl rfl (hq_pre_o Ih11.1 (x := 97) (ci := 11) rfl (by decide) rfl rfl rfl rfl) (fun a k w => by unfold ty_Wps at w; unfold ty_Wrs; omega) (by unfold ty_Wps ty_Wrs; omega) (ct_192 (x1 := z37) (by omega) (by omega) (by omega) (by omega) k46 (by omega)) ⟨⟨rfl, show ¬ ty_Wps 97 13 by unfold ty_Wps; omega⟩, ⟨rfl, show ¬ ty_Wps 97 21 by unfold ty_Wps; omega⟩, ⟨rfl, fun k => show ¬ ty_Wps 127 k by unfold ty_Wps; omega⟩, trivial⟩ (fun h48 _ Jh48 gh48 P47 => ?_)
    obtain ⟨gh48_0, gh48_1, gh48_2, _⟩ := gh48
    have gh48_0 : (hs_fI h48 97 13).toInt = (hs_fI h11 97 13).toInt := gh48_0
    have gh48_1 : (hs_fI h48 97 21).toInt = (hs_fI h11 97 21).toInt := gh48_1
    have gh48_2 : hs_aI h48 127 = hs_aI h11 127 := gh48_2
    have ugh48_2 : hs_aI h48 127 = (upd (hs_aI h 127) x1.toInt.toNat z10) := gh48_2.trans vh11_127
    have Ih48 := H.1 h48 Jh48
    obtain ⟨rq49, kq49, fq49, oq49, nq49, mq49, cq49⟩ := P47
    subst rq49
    obtain ⟨q50, eq50⟩ : ∃ q : Int32, q.toInt = (hs_fI h48 97 14).toInt := ⟨_, rfl⟩
    have aq50 : 0 ≤ (hs_fI h48 97 14).toInt := (Ih48.2.1 97 14 (by decide)).1
    have bq50 : (hs_fI h48 97 14).toInt ≤ 400 := (Ih48.2.1 97 14 (by decide)).2
    obtain ⟨q51, eq51⟩ : ∃ q : Int32, q.toInt = (hs_fI h48 97 15).toInt := ⟨_, rfl⟩
    have aq51 : 0 ≤ (hs_fI h48 97 15).toInt := (Ih48.2.1 97 15 (by decide)).1
    have bq51 : (hs_fI h48 97 15).toInt ≤ 400 := (Ih48.2.1 97 15 (by decide)).2
    obtain ⟨q52, eq52⟩ : ∃ q : Int32, q.toInt = (hs_fI h48 97 16).toInt := ⟨_, rfl⟩
    have aq52 := nm_lo q52
    have bq52 := nm_hi q52
    obtain ⟨q53, eq53⟩ : ∃ q : Int32, q.toInt = (hs_fI h48 97 19).toInt := ⟨_, rfl⟩
    have aq53 : 0 ≤ q53.toInt ∧ q53.toInt ≤ 1 := by omega
    obtain ⟨q54, eq54⟩ : ∃ q : Int32, q.toInt = (hs_fI h48 97 23).toInt := ⟨_, rfl⟩
    have aq54 : 0 ≤ (hs_fI h48 97 23).toInt := (Ih48.2.1 97 23 (by decide)).1
    have bq54 : (hs_fI h48 97 23).toInt ≤ 400 := (Ih48.2.1 97 23 (by decide)).2
    obtain ⟨q55, eq55⟩ : ∃ q : Int32, q.toInt = (hs_fI h48 97 29).toInt := ⟨_, rfl⟩
    have aq55 : 0 ≤ (hs_fI h48 97 29).toInt := (Ih48.2.1 97 29 (by decide)).1
    have bq55 : (hs_fI h48 97 29).toInt ≤ 400 := (Ih48.2.1 97 29 (by decide)).2
    obtain ⟨q56, eq56⟩ : ∃ q : Int32, q.toInt = (hs_fI h48 97 30).toInt := ⟨_, rfl⟩
    have aq56 : 0 ≤ (hs_fI h48 97 30).toInt := (Ih48.2.1 97 30 (by decide)).1
    have bq56 : (hs_fI h48 97 30).toInt ≤ 8 := (Ih48.2.1 97 30 (by decide)).2
    obtain ⟨q57, eq57⟩ : ∃ q : Int64, q.toInt = (hs_fL h48 97 17).toInt := ⟨_, rfl⟩
    have aq57 := nm_llo q57
    have bq57 := nm_lhi q57
    have t1kq49 := kq49.1
    have t2kq49 := kq49.2.1
    refine hq_p rfl rfl ?_
    refine hq_gR Ih48.1 rfl rfl (by decide) (by decide) rfl ?_
    refine hq_p rfl rfl ?_
    refine hq_p rfl rfl (ty_ge (n := 1) nk_i1 (fun z58 ez58 => ?_))
    refine hq_p rfl rfl (ty_ge (n := x1.toInt + z58.toInt) (nm_add (by omega) (by omega)) (fun z59 ez59 => ?_))
    refine hq_p rfl rfl ?_
    refine ty_gI Ih48 rfl rfl (by decide) (by decide) rfl rfl (fun z60 ez60 az60 bz60 => ?_)
    refine ty_aS (W := ty_Wrs) H Jh48 rfl rfl (by decide) (by omega) (by omega) (fun i e => by unfold ty_Wrs; omega) (fun _ _ => ty_eg rfl) (by omega) (by omega) (fun e1 e2 w => by omega) (fun h61 eh61 Jh61 => ?_)
    have vh61_127 : hs_aI h61 127 = (upd (upd (hs_aI h 127) x1.toInt.toNat z10) z59.toInt.toNat z60) := by rw [eh61, hs_aI_sA, ugh48_2]
    have vh61_108 : hs_aI h61 108 = (hs_aI h48 108) := by rw [eh61]; exact (hs_aI_ne (by decide)).trans rfl
    have vh61_109 : hs_aI h61 109 = (hs_aI h48 109) := by rw [eh61]; exact (hs_aI_ne (by decide)).trans rfl
    have Ih61 := H.1 h61 Jh61
    have r62 : (hs_fI h61 97 13).toInt = (hs_fI h48 97 13).toInt := by rw [eh61]; exact congrArg Int32.toInt (ty_fI_ne (by omega))
    have r63 : (hs_fI h61 97 14).toInt = (hs_fI h48 97 14).toInt := by rw [eh61]; exact congrArg Int32.toInt (ty_fI_ne (by omega))
    have r64 : (hs_fI h61 97 15).toInt = (hs_fI h48 97 15).toInt := by rw [eh61]; exact congrArg Int32.toInt (ty_fI_ne (by omega))
    have r65 : (hs_fI h61 97 16).toInt = (hs_fI h48 97 16).toInt := by rw [eh61]; exact congrArg Int32.toInt (ty_fI_ne (by omega))
    have r66 : (hs_fI h61 97 19).toInt = (hs_fI h48 97 19).toInt := by rw [eh61]; exact congrArg Int32.toInt (ty_fI_ne (by omega))
    have r67 : (hs_fI h61 97 21).toInt = (hs_fI h48 97 21).toInt := by rw [eh61]; exact congrArg Int32.toInt (ty_fI_ne (by omega))
    have r68 : (hs_fI h61 97 23).toInt = (hs_fI h48 97 23).toInt := by rw [eh61]; exact congrArg Int32.toInt (ty_fI_ne (by omega))
    have r69 : (hs_fI h61 97 29).toInt = (hs_fI h48 97 29).toInt := by rw [eh61]; exact congrArg Int32.toInt (ty_fI_ne (by omega))
    have r70 : (hs_fI h61 97 30).toInt = (hs_fI h48 97 30).toInt := by rw [eh61]; exact congrArg Int32.toInt (ty_fI_ne (by omega))
    have r71 : (hs_fL h61 97 17).toInt = (hs_fL h48 97 17).toInt := by rw [eh61]; exact congrArg Int64.toInt (ty_fL_ne (by omega))
    have k72 : tk_ok h61 := tk_same kq49 (by omega) (by omega) (by omega) (by omega) (by omega)
    have rf : ro B7 B8 B9 c n0 ((hs_fI h61 97 19).toInt = 0) (hs_aI h61 127) (hs_aI h61 108) (hs_aI h61 109) (hs_fI h61 97 23).toInt := by rw [vh61_127, vh61_108, vh61_109, show (hs_fI h61 97 23).toInt = (hs_fI h48 97 23).toInt by omega]; exact ro_sum hro (by omega) (by omega) (by omega) (by omega) (by omega) (by omega) (fun q => by have c := cq49 (by omega); rw [vh11_108, vh11_109, show (hs_fI h11 97 23).toInt = (hs_fI h 97 23).toInt by omega] at c; exact ⟨by omega, c.1, fun k hk => c.2 k (by omega)⟩)
    exact hq_W.ret rfl rfl rfl ⟨Jh61, rfl, k72, by omega, by omega, by omega, rf⟩
end CT55
