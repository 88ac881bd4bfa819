/-! CONTRACTS (printed by wip/pm/cts.py) -/
section CT52
set_option maxHeartbeats 20000000 in
theorem ct_192 {X : pm_X} {d : Nat} {h : pm_H} {x1 : Int32} (hd : 7 ≤ d) (ax1 : 0 ≤ x1.toInt) (bx1 : x1.toInt ≤ 1) (hb : (hs_fI h 97 19).toInt = 0) (hk : tk_ok h) (hnf : (hs_fI h 97 23).toInt ≤ (hs_fI h 97 14).toInt) : ty_M X ty_Wps d 192 [.ref 97, .int x1] h (fun h1 v => v = none ∧ tk_ok h1 ∧ (hs_fI h 97 14).toInt ≤ (hs_fI h1 97 14).toInt ∧ ((hs_fI h1 97 19).toInt = 0 ∨ (hs_fI h1 97 19).toInt = 1) ∧ (hs_fI h 97 23).toInt ≤ (hs_fI h1 97 23).toInt ∧ (hs_fI h1 97 23).toInt ≤ (hs_fI h1 97 14).toInt ∧ ((hs_fI h1 97 19).toInt = 0 → ty_cw (pt (hs_aI h1 108)) (pt (hs_aI h1 109)) (hs_fI h 97 23).toInt (hs_fI h1 97 23).toInt ∧ ∀ k, k < (hs_fI h 97 23).toInt.toNat → pt (hs_aI h1 108) k = pt (hs_aI h 108) k ∧ pt (hs_aI h1 109) k = pt (hs_aI h 109) k)) := by
  intro J H hJ
  obtain ⟨d, rfl⟩ : ∃ e, d = e + 1 := ⟨d - 1, by omega⟩
  have I := H.1 h hJ
  refine hq_M.enter (q := (⟨"TrainBearersModel", "readExpression", "(Z)V"⟩, _, 3, none, 11, 2, pm_c192)) rfl rfl ?_
  show hq_W X d 11 false (none) pm_c192 (0, [some (.ref 97), some (.int x1), none], [], h) (fun h' v => J h' ∧ (fun h1 v => v = none ∧ tk_ok h1 ∧ (hs_fI h 97 14).toInt ≤ (hs_fI h1 97 14).toInt ∧ ((hs_fI h1 97 19).toInt = 0 ∨ (hs_fI h1 97 19).toInt = 1) ∧ (hs_fI h 97 23).toInt ≤ (hs_fI h1 97 23).toInt ∧ (hs_fI h1 97 23).toInt ≤ (hs_fI h1 97 14).toInt ∧ ((hs_fI h1 97 19).toInt = 0 → ty_cw (pt (hs_aI h1 108)) (pt (hs_aI h1 109)) (hs_fI h 97 23).toInt (hs_fI h1 97 23).toInt ∧ ∀ k, k < (hs_fI h 97 23).toInt.toNat → pt (hs_aI h1 108) k = pt (hs_aI h 108) k ∧ pt (hs_aI h1 109) k = pt (hs_aI h 109) k)) h' v)
  obtain ⟨q1, eq1⟩ : ∃ q : Int32, q.toInt = (hs_fI h 97 13).toInt := ⟨_, rfl⟩
  have aq1 : 0 ≤ (hs_fI h 97 13).toInt := (I.2.1 97 13 (by decide)).1
  have bq1 : (hs_fI h 97 13).toInt ≤ 400 := (I.2.1 97 13 (by decide)).2
  obtain ⟨q2, eq2⟩ : ∃ q : Int32, q.toInt = (hs_fI h 97 14).toInt := ⟨_, rfl⟩
  have aq2 : 0 ≤ (hs_fI h 97 14).toInt := (I.2.1 97 14 (by decide)).1
  have bq2 : (hs_fI h 97 14).toInt ≤ 400 := (I.2.1 97 14 (by decide)).2
  obtain ⟨q3, eq3⟩ : ∃ q : Int32, q.toInt = (hs_fI h 97 15).toInt := ⟨_, rfl⟩
  have aq3 : 0 ≤ (hs_fI h 97 15).toInt := (I.2.1 97 15 (by decide)).1
  have bq3 : (hs_fI h 97 15).toInt ≤ 400 := (I.2.1 97 15 (by decide)).2
  obtain ⟨q4, eq4⟩ : ∃ q : Int32, q.toInt = (hs_fI h 97 16).toInt := ⟨_, rfl⟩
  have aq4 := nm_lo q4
  have bq4 := nm_hi q4
  obtain ⟨q5, eq5⟩ : ∃ q : Int32, q.toInt = (hs_fI h 97 19).toInt := ⟨_, rfl⟩
  have aq5 : 0 ≤ q5.toInt ∧ q5.toInt ≤ 1 := by omega
  obtain ⟨q6, eq6⟩ : ∃ q : Int32, q.toInt = (hs_fI h 97 23).toInt := ⟨_, rfl⟩
  have aq6 : 0 ≤ (hs_fI h 97 23).toInt := (I.2.1 97 23 (by decide)).1
  have bq6 : (hs_fI h 97 23).toInt ≤ 400 := (I.2.1 97 23 (by decide)).2
  obtain ⟨q7, eq7⟩ : ∃ q : Int32, q.toInt = (hs_fI h 97 26).toInt := ⟨_, rfl⟩
  have aq7 : 0 ≤ (hs_fI h 97 26).toInt := (I.2.1 97 26 (by decide)).1
  have bq7 : (hs_fI h 97 26).toInt ≤ 50 := (I.2.1 97 26 (by decide)).2
  obtain ⟨q8, eq8⟩ : ∃ q : Int32, q.toInt = (hs_fI h 97 29).toInt := ⟨_, rfl⟩
  have aq8 : 0 ≤ (hs_fI h 97 29).toInt := (I.2.1 97 29 (by decide)).1
  have bq8 : (hs_fI h 97 29).toInt ≤ 400 := (I.2.1 97 29 (by decide)).2
  obtain ⟨q9, eq9⟩ : ∃ q : Int32, q.toInt = (hs_fI h 97 30).toInt := ⟨_, rfl⟩
  have aq9 : 0 ≤ (hs_fI h 97 30).toInt := (I.2.1 97 30 (by decide)).1
  have bq9 : (hs_fI h 97 30).toInt ≤ 8 := (I.2.1 97 30 (by decide)).2
  obtain ⟨q10, eq10⟩ : ∃ q : Int64, q.toInt = (hs_fL h 97 17).toInt := ⟨_, rfl⟩
  have aq10 := nm_llo q10
  have bq10 := nm_lhi q10
  have t1 := hk.1
  have t2 := hk.2.1
  obtain ⟨op0, eop⟩ : ∃ q, pt (hs_aI h 108) = q := ⟨_, rfl⟩
  obtain ⟨ar0, ear⟩ : ∃ q, pt (hs_aI h 109) = q := ⟨_, rfl⟩
  obtain ⟨s, es⟩ : ∃ q, (hs_fI h 97 23).toInt.toNat = q := ⟨_, rfl⟩
  refine hq_p rfl rfl ?_
  refine hq_p rfl rfl (ty_ge (n := 0) nk_i0 (fun z11 ez11 => ?_))
  refine ty_pI (W := ty_Wps) H hJ rfl rfl (by decide) rfl rfl (by unfold ty_Wps; omega) rfl (by omega) (by omega) (fun h12 eh12 Jh12 => ?_)
  have wh12 : (hs_fI h12 97 29).toInt = z11.toInt := by rw [eh12]; exact congrArg Int32.toInt (ty_fI_eq I.1 rfl (by decide) rfl)
  have vh12_108 : hs_aI h12 108 = (hs_aI h 108) := by rw [eh12]; exact (hs_aI_ne (by decide)).trans rfl
  have vh12_109 : hs_aI h12 109 = (hs_aI h 109) := by rw [eh12]; exact (hs_aI_ne (by decide)).trans rfl
  have vh12_110 : hs_aI h12 110 = (hs_aI h 110) := by rw [eh12]; exact (hs_aI_ne (by decide)).trans rfl
  have vh12_111 : hs_aI h12 111 = (hs_aI h 111) := by rw [eh12]; exact (hs_aI_ne (by decide)).trans rfl
  have Ih12 := H.1 h12 Jh12
  refine hq_p rfl rfl ?_
  refine hq_p rfl rfl (ty_ge (n := 0) nk_i0 (fun z13 ez13 => ?_))
  refine ty_pI (W := ty_Wps) H Jh12 rfl rfl (by decide) rfl rfl (by unfold ty_Wps; omega) rfl (by omega) (by omega) (fun h14 eh14 Jh14 => ?_)
  have wh14 : (hs_fI h14 97 30).toInt = z13.toInt := by rw [eh14]; exact congrArg Int32.toInt (ty_fI_eq Ih12.1 rfl (by decide) rfl)
  have vh14_108 : hs_aI h14 108 = (hs_aI h 108) := by rw [eh14]; exact (hs_aI_ne (by decide)).trans vh12_108
  have vh14_109 : hs_aI h14 109 = (hs_aI h 109) := by rw [eh14]; exact (hs_aI_ne (by decide)).trans vh12_109
  have vh14_110 : hs_aI h14 110 = (hs_aI h 110) := by rw [eh14]; exact (hs_aI_ne (by decide)).trans vh12_110
  have vh14_111 : hs_aI h14 111 = (hs_aI h 111) := by rw [eh14]; exact (hs_aI_ne (by decide)).trans vh12_111
  have Ih14 := H.1 h14 Jh14
  refine hq_p rfl rfl ?_
  refine ty_zeq rfl (fun c15 => ?_) (fun c15 => ?_)
  · refine hq_p rfl rfl (ty_ge (n := 1) nk_i1 (fun z16 ez16 => ?_))
    have r17 : (hs_fI h12 97 13).toInt = (hs_fI h 97 13).toInt := by rw [eh12]; exact congrArg Int32.toInt (ty_fI_sF (by decide))
    have r18 : (hs_fI h14 97 13).toInt = (hs_fI h12 97 13).toInt := by rw [eh14]; exact congrArg Int32.toInt (ty_fI_sF (by decide))
    have r19 : (hs_fI h12 97 14).toInt = (hs_fI h 97 14).toInt := by rw [eh12]; exact congrArg Int32.toInt (ty_fI_sF (by decide))
    have r20 : (hs_fI h14 97 14).toInt = (hs_fI h12 97 14).toInt := by rw [eh14]; exact congrArg Int32.toInt (ty_fI_sF (by decide))
    have r21 : (hs_fI h12 97 15).toInt = (hs_fI h 97 15).toInt := by rw [eh12]; exact congrArg Int32.toInt (ty_fI_sF (by decide))
    have r22 : (hs_fI h14 97 15).toInt = (hs_fI h12 97 15).toInt := by rw [eh14]; exact congrArg Int32.toInt (ty_fI_sF (by decide))
    have r23 : (hs_fI h12 97 16).toInt = (hs_fI h 97 16).toInt := by rw [eh12]; exact congrArg Int32.toInt (ty_fI_sF (by decide))
    have r24 : (hs_fI h14 97 16).toInt = (hs_fI h12 97 16).toInt := by rw [eh14]; exact congrArg Int32.toInt (ty_fI_sF (by decide))
    have r25 : (hs_fI h12 97 19).toInt = (hs_fI h 97 19).toInt := by rw [eh12]; exact congrArg Int32.toInt (ty_fI_sF (by decide))
    have r26 : (hs_fI h14 97 19).toInt = (hs_fI h12 97 19).toInt := by rw [eh14]; exact congrArg Int32.toInt (ty_fI_sF (by decide))
    have r27 : (hs_fI h12 97 23).toInt = (hs_fI h 97 23).toInt := by rw [eh12]; exact congrArg Int32.toInt (ty_fI_sF (by decide))
    have r28 : (hs_fI h14 97 23).toInt = (hs_fI h12 97 23).toInt := by rw [eh14]; exact congrArg Int32.toInt (ty_fI_sF (by decide))
    have r29 : (hs_fI h12 97 26).toInt = (hs_fI h 97 26).toInt := by rw [eh12]; exact congrArg Int32.toInt (ty_fI_sF (by decide))
    have r30 : (hs_fI h14 97 26).toInt = (hs_fI h12 97 26).toInt := by rw [eh14]; exact congrArg Int32.toInt (ty_fI_sF (by decide))
    have r31 : (hs_fI h14 97 29).toInt = (hs_fI h12 97 29).toInt := by rw [eh14]; exact congrArg Int32.toInt (ty_fI_sF (by decide))
    have r32 : (hs_fL h12 97 17).toInt = (hs_fL h 97 17).toInt := by rw [eh12]; exact congrArg Int64.toInt (ty_fL_sF (by decide))
    have r33 : (hs_fL h14 97 17).toInt = (hs_fL h12 97 17).toInt := by rw [eh14]; exact congrArg Int64.toInt (ty_fL_sF (by decide))
    have k34 : tk_ok h14 := tk_same hk (by omega) (by omega) (by omega) (by omega) (by omega)
    have zi : pz op0 ar0 s 0 h14 := by
      show pq ((hs_fI h14 97 19).toInt = 0) (hs_aI h14 108) (hs_aI h14 109) (hs_aI h14 110) (hs_aI h14 111) op0 ar0 s (hs_fI h14 97 23).toInt (hs_fI h14 97 29).toInt (hs_fI h14 97 30).toInt (hs_fI h14 97 14).toInt 0
      rw [vh14_108, vh14_109, vh14_110, vh14_111, show (hs_fI h14 97 23).toInt = (hs_fI h 97 23).toInt by omega, show (hs_fI h14 97 29).toInt = 0 by omega, show (hs_fI h14 97 30).toInt = 0 by omega]
      exact (by rw [← eop, ← ear, ← es]; exact pq_0 (by omega) (by omega))
    refine hq_p (ls' := [some (.ref 97), some (.int x1), some (.int z16)]) rfl rfl ?_
    have L20_n39 : ∀ n39 : Nat, ∀ (y37 : Int32) (h38 : pm_H), (3 * (401 - (hs_fI h38 97 14).toInt) + (if y37.toInt = 3 then 2 else if y37.toInt = 2 then 1 else 0) + 10 * (1 - (hs_fI h38 97 19).toInt)).toNat = n39 → 0 ≤ y37.toInt → y37.toInt ≤ 4 → tz op0 ar0 s y37.toInt h38 → tk_ok h38 → (hs_fI h 97 14).toInt ≤ (hs_fI h38 97 14).toInt → ((hs_fI h38 97 19).toInt = 0 ∨ (hs_fI h38 97 19).toInt = 1) → J h38 → hq_W X d 11 false (none) pm_c192 (20, [some (.ref 97), some (.int x1), some (.int y37)], [], h38) (fun h' v => J h' ∧ (fun h1 v => v = none ∧ tk_ok h1 ∧ (hs_fI h 97 14).toInt ≤ (hs_fI h1 97 14).toInt ∧ ((hs_fI h1 97 19).toInt = 0 ∨ (hs_fI h1 97 19).toInt = 1) ∧ (hs_fI h 97 23).toInt ≤ (hs_fI h1 97 23).toInt ∧ (hs_fI h1 97 23).toInt ≤ (hs_fI h1 97 14).toInt ∧ ((hs_fI h1 97 19).toInt = 0 → ty_cw (pt (hs_aI h1 108)) (pt (hs_aI h1 109)) (hs_fI h 97 23).toInt (hs_fI h1 97 23).toInt ∧ ∀ k, k < (hs_fI h 97 23).toInt.toNat → pt (hs_aI h1 108) k = pt (hs_aI h 108) k ∧ pt (hs_aI h1 109) k = pt (hs_aI h 109) k)) h' v) := by
      intro n39
      induction n39 using Nat.strongRecOn with
      | ind n39 ihn39 =>
        intro y37 h38 mn39 ay37 by37 x0n39 x1n39 x2n39 x3n39 Jh38
        have Ih38 := H.1 h38 Jh38
        obtain ⟨q40, eq40⟩ : ∃ q : Int32, q.toInt = (hs_fI h38 97 13).toInt := ⟨_, rfl⟩
        have aq40 : 0 ≤ (hs_fI h38 97 13).toInt := (Ih38.2.1 97 13 (by decide)).1
        have bq40 : (hs_fI h38 97 13).toInt ≤ 400 := (Ih38.2.1 97 13 (by decide)).2
        obtain ⟨q41, eq41⟩ : ∃ q : Int32, q.toInt = (hs_fI h38 97 14).toInt := ⟨_, rfl⟩
        have aq41 : 0 ≤ (hs_fI h38 97 14).toInt := (Ih38.2.1 97 14 (by decide)).1
        have bq41 : (hs_fI h38 97 14).toInt ≤ 400 := (Ih38.2.1 97 14 (by decide)).2
        obtain ⟨q42, eq42⟩ : ∃ q : Int32, q.toInt = (hs_fI h38 97 15).toInt := ⟨_, rfl⟩
        have aq42 : 0 ≤ (hs_fI h38 97 15).toInt := (Ih38.2.1 97 15 (by decide)).1
        have bq42 : (hs_fI h38 97 15).toInt ≤ 400 := (Ih38.2.1 97 15 (by decide)).2
        obtain ⟨q43, eq43⟩ : ∃ q : Int32, q.toInt = (hs_fI h38 97 16).toInt := ⟨_, rfl⟩
        have aq43 := nm_lo q43
        have bq43 := nm_hi q43
        obtain ⟨q44, eq44⟩ : ∃ q : Int32, q.toInt = (hs_fI h38 97 19).toInt := ⟨_, rfl⟩
        have aq44 : 0 ≤ q44.toInt ∧ q44.toInt ≤ 1 := by omega
        obtain ⟨q45, eq45⟩ : ∃ q : Int32, q.toInt = (hs_fI h38 97 23).toInt := ⟨_, rfl⟩
        have aq45 : 0 ≤ (hs_fI h38 97 23).toInt := (Ih38.2.1 97 23 (by decide)).1
        have bq45 : (hs_fI h38 97 23).toInt ≤ 400 := (Ih38.2.1 97 23 (by decide)).2
        obtain ⟨q46, eq46⟩ : ∃ q : Int32, q.toInt = (hs_fI h38 97 29).toInt := ⟨_, rfl⟩
        have aq46 : 0 ≤ (hs_fI h38 97 29).toInt := (Ih38.2.1 97 29 (by decide)).1
        have bq46 : (hs_fI h38 97 29).toInt ≤ 400 := (Ih38.2.1 97 29 (by decide)).2
        obtain ⟨q47, eq47⟩ : ∃ q : Int32, q.toInt = (hs_fI h38 97 30).toInt := ⟨_, rfl⟩
        have aq47 : 0 ≤ (hs_fI h38 97 30).toInt := (Ih38.2.1 97 30 (by decide)).1
        have bq47 : (hs_fI h38 97 30).toInt ≤ 8 := (Ih38.2.1 97 30 (by decide)).2
        obtain ⟨q48, eq48⟩ : ∃ q : Int64, q.toInt = (hs_fL h38 97 17).toInt := ⟨_, rfl⟩
        have aq48 := nm_llo q48
        have bq48 := nm_lhi q48
        refine hq_p rfl rfl ?_
        refine ty_gB Ih38 rfl rfl (by decide) (by decide) rfl (fun z49 ez49 az49 bz49 => ?_)
        refine ty_zne rfl (fun c50 => ?_) (fun c50 => ?_)
        · replace c50 : 1 ≤ z49.toInt ∧ z49.toInt ≤ 1 := by omega
          refine hq_p rfl rfl ?_
          refine hq_p rfl rfl (ty_ge (n := 1) nk_i1 (fun z51 ez51 => ?_))
          have zm : pq ((hs_fI h38 97 19).toInt = 0) (hs_aI h38 108) (hs_aI h38 109) (hs_aI h38 110) (hs_aI h38 111) op0 ar0 s (hs_fI h38 97 23).toInt (hs_fI h38 97 29).toInt (hs_fI h38 97 30).toInt (hs_fI h38 97 14).toInt 1 := pq_g x0n39.1 (fun q => ⟨q, by exfalso; omega⟩) (Int.le_refl _)
          refine ty_callm 0 [(0, 97, 13), (0, 97, 14), (0, 97, 15), (0, 97, 16), (0, 97, 19), (0, 97, 30), (2, 97, 17), (3, 110, 0), (3, 111, 0)] (W := ty_Wps) H Jh38 rfl (fun _ => rfl) rfl rfl rfl (hq_pre_o Ih38.1 (x := 97) (ci := 11) rfl (by decide) rfl rfl rfl rfl) (fun a k w => by unfold ty_Wse at w; unfold ty_Wps; omega) (by unfold ty_Wse ty_Wps; omega) (ct_181 (x1 := z51) (by omega) (by omega) (by omega) zm (by omega)) ⟨⟨rfl, show ¬ ty_Wse 97 13 by unfold ty_Wse; omega⟩, ⟨rfl, show ¬ ty_Wse 97 14 by unfold ty_Wse; omega⟩, ⟨rfl, show ¬ ty_Wse 97 15 by unfold ty_Wse; omega⟩, ⟨rfl, show ¬ ty_Wse 97 16 by unfold ty_Wse; omega⟩, ⟨rfl, show ¬ ty_Wse 97 19 by unfold ty_Wse; omega⟩, ⟨rfl, show ¬ ty_Wse 97 30 by unfold ty_Wse; omega⟩, ⟨rfl, show ¬ ty_Wse 97 17 by unfold ty_Wse; omega⟩, ⟨rfl, fun k => show ¬ ty_Wse 110 k by unfold ty_Wse; omega⟩, ⟨rfl, fun k => show ¬ ty_Wse 111 k by unfold ty_Wse; omega⟩, trivial⟩ (fun h53 _ Jh53 gh53 P52 => ?_)
          obtain ⟨gh53_0, gh53_1, gh53_2, gh53_3, gh53_4, gh53_5, gh53_6, gh53_7, gh53_8, _⟩ := gh53
          have gh53_0 : (hs_fI h53 97 13).toInt = (hs_fI h38 97 13).toInt := gh53_0
          have gh53_1 : (hs_fI h53 97 14).toInt = (hs_fI h38 97 14).toInt := gh53_1
          have gh53_2 : (hs_fI h53 97 15).toInt = (hs_fI h38 97 15).toInt := gh53_2
          have gh53_3 : (hs_fI h53 97 16).toInt = (hs_fI h38 97 16).toInt := gh53_3
          have gh53_4 : (hs_fI h53 97 19).toInt = (hs_fI h38 97 19).toInt := gh53_4
          have gh53_5 : (hs_fI h53 97 30).toInt = (hs_fI h38 97 30).toInt := gh53_5
          have gh53_6 : (hs_fL h53 97 17).toInt = (hs_fL h38 97 17).toInt := gh53_6
          have gh53_7 : hs_aI h53 110 = hs_aI h38 110 := gh53_7
          have ugh53_7 : hs_aI h53 110 = (hs_aI h38 110) := gh53_7.trans rfl
          have gh53_8 : hs_aI h53 111 = hs_aI h38 111 := gh53_8
          have ugh53_8 : hs_aI h53 111 = (hs_aI h38 111) := gh53_8.trans rfl
          have Ih53 := H.1 h53 Jh53
          obtain ⟨rq54, zq54, stq54, lq54⟩ := P52
          subst rq54
          obtain ⟨q55, eq55⟩ : ∃ q : Int32, q.toInt = (hs_fI h53 97 23).toInt := ⟨_, rfl⟩
          have aq55 : 0 ≤ (hs_fI h53 97 23).toInt := (Ih53.2.1 97 23 (by decide)).1
          have bq55 : (hs_fI h53 97 23).toInt ≤ 400 := (Ih53.2.1 97 23 (by decide)).2
          obtain ⟨q56, eq56⟩ : ∃ q : Int32, q.toInt = (hs_fI h53 97 29).toInt := ⟨_, rfl⟩
          have aq56 : 0 ≤ (hs_fI h53 97 29).toInt := (Ih53.2.1 97 29 (by decide)).1
          have bq56 : (hs_fI h53 97 29).toInt ≤ 400 := (Ih53.2.1 97 29 (by decide)).2
          have y3q54 := zq54.2.2.1
          have y2q54 := zq54.2.1
          have y1q54 := zq54.1
          have k57 : tk_ok h53 := tk_same x1n39 (by omega) (by omega) (by omega) (by omega) (by omega)
          exact hq_W.ret rfl rfl rfl ⟨Jh53, rfl, k57, by omega, by omega, by omega, by omega, fun q => by exfalso; omega⟩
        · refine hq_p rfl rfl ?_
          refine hq_p rfl rfl (ty_ge (n := 4) nk_i4 (fun z58 ez58 => ?_))
          refine ty_ieq rfl (fun c59 => ?_) (fun c59 => ?_)
          · refine hq_p rfl rfl ?_
            refine hq_p rfl rfl (ty_ge (n := 1) nk_i1 (fun z60 ez60 => ?_))
            have zm : pq ((hs_fI h38 97 19).toInt = 0) (hs_aI h38 108) (hs_aI h38 109) (hs_aI h38 110) (hs_aI h38 111) op0 ar0 s (hs_fI h38 97 23).toInt (hs_fI h38 97 29).toInt (hs_fI h38 97 30).toInt (hs_fI h38 97 14).toInt 1 := pq_g x0n39.1 (fun q => ⟨q, by rw [if_neg (by omega)]⟩) (Int.le_refl _)
            refine ty_callm 0 [(0, 97, 13), (0, 97, 14), (0, 97, 15), (0, 97, 16), (0, 97, 19), (0, 97, 30), (2, 97, 17), (3, 110, 0), (3, 111, 0)] (W := ty_Wps) H Jh38 rfl (fun _ => rfl) rfl rfl rfl (hq_pre_o Ih38.1 (x := 97) (ci := 11) rfl (by decide) rfl rfl rfl rfl) (fun a k w => by unfold ty_Wse at w; unfold ty_Wps; omega) (by unfold ty_Wse ty_Wps; omega) (ct_181 (x1 := z60) (by omega) (by omega) (by omega) zm (by omega)) ⟨⟨rfl, show ¬ ty_Wse 97 13 by unfold ty_Wse; omega⟩, ⟨rfl, show ¬ ty_Wse 97 14 by unfold ty_Wse; omega⟩, ⟨rfl, show ¬ ty_Wse 97 15 by unfold ty_Wse; omega⟩, ⟨rfl, show ¬ ty_Wse 97 16 by unfold ty_Wse; omega⟩, ⟨rfl, show ¬ ty_Wse 97 19 by unfold ty_Wse; omega⟩, ⟨rfl, show ¬ ty_Wse 97 30 by unfold ty_Wse; omega⟩, ⟨rfl, show ¬ ty_Wse 97 17 by unfold ty_Wse; omega⟩, ⟨rfl, fun k => show ¬ ty_Wse 110 k by unfold ty_Wse; omega⟩, ⟨rfl, fun k => show ¬ ty_Wse 111 k by unfold ty_Wse; omega⟩, trivial⟩ (fun h62 _ Jh62 gh62 P61 => ?_)
            obtain ⟨gh62_0, gh62_1, gh62_2, gh62_3, gh62_4, gh62_5, gh62_6, gh62_7, gh62_8, _⟩ := gh62
            have gh62_0 : (hs_fI h62 97 13).toInt = (hs_fI h38 97 13).toInt := gh62_0
            have gh62_1 : (hs_fI h62 97 14).toInt = (hs_fI h38 97 14).toInt := gh62_1
            have gh62_2 : (hs_fI h62 97 15).toInt = (hs_fI h38 97 15).toInt := gh62_2
            have gh62_3 : (hs_fI h62 97 16).toInt = (hs_fI h38 97 16).toInt := gh62_3
            have gh62_4 : (hs_fI h62 97 19).toInt = (hs_fI h38 97 19).toInt := gh62_4
            have gh62_5 : (hs_fI h62 97 30).toInt = (hs_fI h38 97 30).toInt := gh62_5
            have gh62_6 : (hs_fL h62 97 17).toInt = (hs_fL h38 97 17).toInt := gh62_6
            have gh62_7 : hs_aI h62 110 = hs_aI h38 110 := gh62_7
            have ugh62_7 : hs_aI h62 110 = (hs_aI h38 110) := gh62_7.trans rfl
            have gh62_8 : hs_aI h62 111 = hs_aI h38 111 := gh62_8
            have ugh62_8 : hs_aI h62 111 = (hs_aI h38 111) := gh62_8.trans rfl
            have Ih62 := H.1 h62 Jh62
            obtain ⟨rq63, zq63, stq63, lq63⟩ := P61
            subst rq63
            obtain ⟨q64, eq64⟩ : ∃ q : Int32, q.toInt = (hs_fI h62 97 23).toInt := ⟨_, rfl⟩
            have aq64 : 0 ≤ (hs_fI h62 97 23).toInt := (Ih62.2.1 97 23 (by decide)).1
            have bq64 : (hs_fI h62 97 23).toInt ≤ 400 := (Ih62.2.1 97 23 (by decide)).2
            obtain ⟨q65, eq65⟩ : ∃ q : Int32, q.toInt = (hs_fI h62 97 29).toInt := ⟨_, rfl⟩
            have aq65 : 0 ≤ (hs_fI h62 97 29).toInt := (Ih62.2.1 97 29 (by decide)).1
            have bq65 : (hs_fI h62 97 29).toInt ≤ 400 := (Ih62.2.1 97 29 (by decide)).2
            have y3q63 := zq63.2.2.1
            have y2q63 := zq63.2.1
            have y1q63 := zq63.1
            have k66 : tk_ok h62 := tk_same x1n39 (by omega) (by omega) (by omega) (by omega) (by omega)
            exact hq_W.ret rfl rfl rfl ⟨Jh62, rfl, k66, by omega, by omega, by omega, by omega, fun q => (by have nb1 := (x0n39.2 (by omega)).2 (by omega); have st2 := stq63; rw [show z60.toInt = 1 by omega] at st2; have m0 := pq_all nb1 st2 (by omega) (by omega); have c := pq_cw zq63 (show (hs_fI h38 97 19).toInt = 0 by omega) m0; rw [← eop, ← ear, ← es] at c; rw [show (((hs_fI h 97 23).toInt.toNat : Nat) : Int) = (hs_fI h 97 23).toInt by omega] at c; exact c)⟩
          · replace c59 : 0 ≤ y37.toInt ∧ y37.toInt ≤ 3 := by omega
            refine hq_p rfl rfl ?_
            refine ty_zne rfl (fun c67 => ?_) (fun c67 => ?_)
            · replace c67 : 1 ≤ y37.toInt ∧ y37.toInt ≤ 3 := by omega
              refine hq_p rfl rfl ?_
              refine hq_p rfl rfl (ty_ge (n := 1) nk_i1 (fun z68 ez68 => ?_))
              refine ty_ine rfl (fun c69 => ?_) (fun c69 => ?_)
              · replace c69 : 2 ≤ y37.toInt ∧ y37.toInt ≤ 3 := by omega
                refine hq_p rfl rfl ?_
                refine hq_p rfl rfl (ty_ge (n := 3) nk_i3 (fun z70 ez70 => ?_))
                refine ty_ine rfl (fun c71 => ?_) (fun c71 => ?_)
                · replace c71 : 2 ≤ y37.toInt ∧ y37.toInt ≤ 2 := by omega
                  refine hq_p rfl rfl ?_
                  have p72 : pz op0 ar0 s 1 h38 := by have q := x0n39.1; rw [if_neg (by omega)] at q; exact q
                  refine ty_callm 0 [(0, 97, 13)] (W := ty_Wps) H Jh38 rfl (fun _ => rfl) rfl rfl rfl (hq_pre_o Ih38.1 (x := 97) (ci := 11) rfl (by decide) rfl rfl rfl rfl) (fun _ _ w => w) (fun _ w => w) (ct_191 (by omega) (by omega) x1n39 p72 ((x0n39.2 (by omega)).1 (by omega))) ⟨⟨rfl, show ¬ ty_Wps 97 13 by unfold ty_Wps; omega⟩, trivial⟩ (fun h74 _ Jh74 gh74 P73 => ?_)
                  obtain ⟨gh74_0, _⟩ := gh74
                  have gh74_0 : (hs_fI h74 97 13).toInt = (hs_fI h38 97 13).toInt := gh74_0
                  have Ih74 := H.1 h74 Jh74
                  obtain ⟨z75, rfl, wz75, kz75, fz75, oz75, pz75, zz75⟩ := P73
                  obtain ⟨q76, eq76⟩ : ∃ q : Int32, q.toInt = (hs_fI h74 97 14).toInt := ⟨_, rfl⟩
                  have aq76 : 0 ≤ (hs_fI h74 97 14).toInt := (Ih74.2.1 97 14 (by decide)).1
                  have bq76 : (hs_fI h74 97 14).toInt ≤ 400 := (Ih74.2.1 97 14 (by decide)).2
                  obtain ⟨q77, eq77⟩ : ∃ q : Int32, q.toInt = (hs_fI h74 97 15).toInt := ⟨_, rfl⟩
                  have aq77 : 0 ≤ (hs_fI h74 97 15).toInt := (Ih74.2.1 97 15 (by decide)).1
                  have bq77 : (hs_fI h74 97 15).toInt ≤ 400 := (Ih74.2.1 97 15 (by decide)).2
                  obtain ⟨q78, eq78⟩ : ∃ q : Int32, q.toInt = (hs_fI h74 97 16).toInt := ⟨_, rfl⟩
                  have aq78 := nm_lo q78
                  have bq78 := nm_hi q78
                  obtain ⟨q79, eq79⟩ : ∃ q : Int32, q.toInt = (hs_fI h74 97 19).toInt := ⟨_, rfl⟩
                  have aq79 : 0 ≤ q79.toInt ∧ q79.toInt ≤ 1 := by omega
                  obtain ⟨q80, eq80⟩ : ∃ q : Int32, q.toInt = (hs_fI h74 97 23).toInt := ⟨_, rfl⟩
                  have aq80 : 0 ≤ (hs_fI h74 97 23).toInt := (Ih74.2.1 97 23 (by decide)).1
                  have bq80 : (hs_fI h74 97 23).toInt ≤ 400 := (Ih74.2.1 97 23 (by decide)).2
                  obtain ⟨q81, eq81⟩ : ∃ q : Int32, q.toInt = (hs_fI h74 97 29).toInt := ⟨_, rfl⟩
                  have aq81 : 0 ≤ (hs_fI h74 97 29).toInt := (Ih74.2.1 97 29 (by decide)).1
                  have bq81 : (hs_fI h74 97 29).toInt ≤ 400 := (Ih74.2.1 97 29 (by decide)).2
                  obtain ⟨q82, eq82⟩ : ∃ q : Int32, q.toInt = (hs_fI h74 97 30).toInt := ⟨_, rfl⟩
                  have aq82 : 0 ≤ (hs_fI h74 97 30).toInt := (Ih74.2.1 97 30 (by decide)).1
                  have bq82 : (hs_fI h74 97 30).toInt ≤ 8 := (Ih74.2.1 97 30 (by decide)).2
                  obtain ⟨q83, eq83⟩ : ∃ q : Int64, q.toInt = (hs_fL h74 97 17).toInt := ⟨_, rfl⟩
                  have aq83 := nm_llo q83
                  have bq83 := nm_lhi q83
                  have t1kz75 := kz75.1
                  have t2kz75 := kz75.2.1
                  have vz75 : 0 ≤ z75.toInt ∧ z75.toInt ≤ 4 := by omega
                  refine hq_p (ls' := [some (.ref 97), some (.int x1), some (.int z75)]) rfl rfl ?_
                  refine hq_p rfl rfl ?_
                  exact ihn39 ((3 * (401 - (hs_fI h74 97 14).toInt) + (if z75.toInt = 3 then 2 else if z75.toInt = 2 then 1 else 0) + 10 * (1 - (hs_fI h74 97 19).toInt)).toNat) (by omega) z75 h74 rfl (by omega) (by omega) zz75 kz75 (by omega) (by omega) Jh74
                · refine hq_p rfl rfl ?_
                  refine hq_p rfl rfl ?_
                  have p84 : pz op0 ar0 s 1 h38 := by have q := x0n39.1; rw [if_neg (by omega)] at q; exact q
                  refine ty_callm 0 [(0, 97, 13)] (W := ty_Wps) H Jh38 rfl (fun _ => rfl) rfl rfl rfl (hq_pre_o Ih38.1 (x := 97) (ci := 11) rfl (by decide) rfl rfl rfl rfl) (fun _ _ w => w) (fun _ w => w) (ct_190 (x1 := x1) (by omega) (by omega) (by omega) (by omega) x1n39 p84) ⟨⟨rfl, show ¬ ty_Wps 97 13 by unfold ty_Wps; omega⟩, trivial⟩ (fun h86 _ Jh86 gh86 P85 => ?_)
                  obtain ⟨gh86_0, _⟩ := gh86
                  have gh86_0 : (hs_fI h86 97 13).toInt = (hs_fI h38 97 13).toInt := gh86_0
                  have Ih86 := H.1 h86 Jh86
                  obtain ⟨z87, rfl, wz87, kz87, fz87, oz87, pz87, zz87⟩ := P85
                  obtain ⟨q88, eq88⟩ : ∃ q : Int32, q.toInt = (hs_fI h86 97 14).toInt := ⟨_, rfl⟩
                  have aq88 : 0 ≤ (hs_fI h86 97 14).toInt := (Ih86.2.1 97 14 (by decide)).1
                  have bq88 : (hs_fI h86 97 14).toInt ≤ 400 := (Ih86.2.1 97 14 (by decide)).2
                  obtain ⟨q89, eq89⟩ : ∃ q : Int32, q.toInt = (hs_fI h86 97 15).toInt := ⟨_, rfl⟩
                  have aq89 : 0 ≤ (hs_fI h86 97 15).toInt := (Ih86.2.1 97 15 (by decide)).1
                  have bq89 : (hs_fI h86 97 15).toInt ≤ 400 := (Ih86.2.1 97 15 (by decide)).2
                  obtain ⟨q90, eq90⟩ : ∃ q : Int32, q.toInt = (hs_fI h86 97 16).toInt := ⟨_, rfl⟩
                  have aq90 := nm_lo q90
                  have bq90 := nm_hi q90
                  obtain ⟨q91, eq91⟩ : ∃ q : Int32, q.toInt = (hs_fI h86 97 19).toInt := ⟨_, rfl⟩
                  have aq91 : 0 ≤ q91.toInt ∧ q91.toInt ≤ 1 := by omega
                  obtain ⟨q92, eq92⟩ : ∃ q : Int32, q.toInt = (hs_fI h86 97 23).toInt := ⟨_, rfl⟩
                  have aq92 : 0 ≤ (hs_fI h86 97 23).toInt := (Ih86.2.1 97 23 (by decide)).1
                  have bq92 : (hs_fI h86 97 23).toInt ≤ 400 := (Ih86.2.1 97 23 (by decide)).2
                  obtain ⟨q93, eq93⟩ : ∃ q : Int32, q.toInt = (hs_fI h86 97 29).toInt := ⟨_, rfl⟩
                  have aq93 : 0 ≤ (hs_fI h86 97 29).toInt := (Ih86.2.1 97 29 (by decide)).1
                  have bq93 : (hs_fI h86 97 29).toInt ≤ 400 := (Ih86.2.1 97 29 (by decide)).2
                  obtain ⟨q94, eq94⟩ : ∃ q : Int32, q.toInt = (hs_fI h86 97 30).toInt := ⟨_, rfl⟩
                  have aq94 : 0 ≤ (hs_fI h86 97 30).toInt := (Ih86.2.1 97 30 (by decide)).1
                  have bq94 : (hs_fI h86 97 30).toInt ≤ 8 := (Ih86.2.1 97 30 (by decide)).2
                  obtain ⟨q95, eq95⟩ : ∃ q : Int64, q.toInt = (hs_fL h86 97 17).toInt := ⟨_, rfl⟩
                  have aq95 := nm_llo q95
                  have bq95 := nm_lhi q95
                  have t1kz87 := kz87.1
                  have t2kz87 := kz87.2.1
                  have vz87 : 1 ≤ z87.toInt ∧ z87.toInt ≤ 4 := by omega
                  refine hq_p rfl rfl ?_
                  refine hq_p (ls' := [some (.ref 97), some (.int x1), some (.int z87)]) rfl rfl ?_
                  refine hq_p rfl rfl ?_
                  exact ihn39 ((3 * (401 - (hs_fI h86 97 14).toInt) + (if z87.toInt = 3 then 2 else if z87.toInt = 2 then 1 else 0) + 10 * (1 - (hs_fI h86 97 19).toInt)).toNat) (by omega) z87 h86 rfl (by omega) (by omega) zz87 kz87 (by omega) (by omega) Jh86
              · refine hq_p rfl rfl ?_
                have p96 : pz op0 ar0 s 0 h38 := by have q := x0n39.1; rw [if_pos (by omega)] at q; exact q
                refine ty_callm 0 [(0, 97, 13)] (W := ty_Wps) H Jh38 rfl (fun _ => rfl) rfl rfl rfl (hq_pre_o Ih38.1 (x := 97) (ci := 11) rfl (by decide) rfl rfl rfl rfl) (fun _ _ w => w) (fun _ w => w) (ct_188 (by omega) (by omega) x1n39 p96) ⟨⟨rfl, show ¬ ty_Wps 97 13 by unfold ty_Wps; omega⟩, trivial⟩ (fun h98 _ Jh98 gh98 P97 => ?_)
                obtain ⟨gh98_0, _⟩ := gh98
                have gh98_0 : (hs_fI h98 97 13).toInt = (hs_fI h38 97 13).toInt := gh98_0
                have Ih98 := H.1 h98 Jh98
                obtain ⟨z99, rfl, wz99, kz99, fz99, oz99, pz99, zz99⟩ := P97
                obtain ⟨q100, eq100⟩ : ∃ q : Int32, q.toInt = (hs_fI h98 97 14).toInt := ⟨_, rfl⟩
                have aq100 : 0 ≤ (hs_fI h98 97 14).toInt := (Ih98.2.1 97 14 (by decide)).1
                have bq100 : (hs_fI h98 97 14).toInt ≤ 400 := (Ih98.2.1 97 14 (by decide)).2
                obtain ⟨q101, eq101⟩ : ∃ q : Int32, q.toInt = (hs_fI h98 97 15).toInt := ⟨_, rfl⟩
                have aq101 : 0 ≤ (hs_fI h98 97 15).toInt := (Ih98.2.1 97 15 (by decide)).1
                have bq101 : (hs_fI h98 97 15).toInt ≤ 400 := (Ih98.2.1 97 15 (by decide)).2
                obtain ⟨q102, eq102⟩ : ∃ q : Int32, q.toInt = (hs_fI h98 97 16).toInt := ⟨_, rfl⟩
                have aq102 := nm_lo q102
                have bq102 := nm_hi q102
                obtain ⟨q103, eq103⟩ : ∃ q : Int32, q.toInt = (hs_fI h98 97 19).toInt := ⟨_, rfl⟩
                have aq103 : 0 ≤ q103.toInt ∧ q103.toInt ≤ 1 := by omega
                obtain ⟨q104, eq104⟩ : ∃ q : Int32, q.toInt = (hs_fI h98 97 23).toInt := ⟨_, rfl⟩
                have aq104 : 0 ≤ (hs_fI h98 97 23).toInt := (Ih98.2.1 97 23 (by decide)).1
                have bq104 : (hs_fI h98 97 23).toInt ≤ 400 := (Ih98.2.1 97 23 (by decide)).2
                obtain ⟨q105, eq105⟩ : ∃ q : Int32, q.toInt = (hs_fI h98 97 29).toInt := ⟨_, rfl⟩
                have aq105 : 0 ≤ (hs_fI h98 97 29).toInt := (Ih98.2.1 97 29 (by decide)).1
                have bq105 : (hs_fI h98 97 29).toInt ≤ 400 := (Ih98.2.1 97 29 (by decide)).2
                obtain ⟨q106, eq106⟩ : ∃ q : Int32, q.toInt = (hs_fI h98 97 30).toInt := ⟨_, rfl⟩
                have aq106 : 0 ≤ (hs_fI h98 97 30).toInt := (Ih98.2.1 97 30 (by decide)).1
                have bq106 : (hs_fI h98 97 30).toInt ≤ 8 := (Ih98.2.1 97 30 (by decide)).2
                obtain ⟨q107, eq107⟩ : ∃ q : Int64, q.toInt = (hs_fL h98 97 17).toInt := ⟨_, rfl⟩
                have aq107 := nm_llo q107
                have bq107 := nm_lhi q107
                have t1kz99 := kz99.1
                have t2kz99 := kz99.2.1
                have vz99 : 1 ≤ z99.toInt ∧ z99.toInt ≤ 3 := by omega
                refine hq_p rfl rfl ?_
                refine hq_p (ls' := [some (.ref 97), some (.int x1), some (.int z99)]) rfl rfl ?_
                refine hq_p rfl rfl ?_
                exact ihn39 ((3 * (401 - (hs_fI h98 97 14).toInt) + (if z99.toInt = 3 then 2 else if z99.toInt = 2 then 1 else 0) + 10 * (1 - (hs_fI h98 97 19).toInt)).toNat) (by omega) z99 h98 rfl (by omega) (by omega) zz99 kz99 (by omega) (by omega) Jh98
            · refine hq_p rfl rfl ?_
              have p108 : pz op0 ar0 s 0 h38 := by have q := x0n39.1; rw [if_pos (by omega)] at q; exact q
              refine ty_callm 0 [(0, 97, 13)] (W := ty_Wps) H Jh38 rfl (fun _ => rfl) rfl rfl rfl (hq_pre_o Ih38.1 (x := 97) (ci := 11) rfl (by decide) rfl rfl rfl rfl) (fun _ _ w => w) (fun _ w => w) (ct_189 (by omega) (by omega) x1n39 p108 ((x0n39.2 (by omega)).1 (by omega))) ⟨⟨rfl, show ¬ ty_Wps 97 13 by unfold ty_Wps; omega⟩, trivial⟩ (fun h110 _ Jh110 gh110 P109 => ?_)
              obtain ⟨gh110_0, _⟩ := gh110
              have gh110_0 : (hs_fI h110 97 13).toInt = (hs_fI h38 97 13).toInt := gh110_0
              have Ih110 := H.1 h110 Jh110
              obtain ⟨z111, rfl, wz111, kz111, fz111, oz111, pz111, zz111⟩ := P109
              obtain ⟨q112, eq112⟩ : ∃ q : Int32, q.toInt = (hs_fI h110 97 14).toInt := ⟨_, rfl⟩
              have aq112 : 0 ≤ (hs_fI h110 97 14).toInt := (Ih110.2.1 97 14 (by decide)).1
              have bq112 : (hs_fI h110 97 14).toInt ≤ 400 := (Ih110.2.1 97 14 (by decide)).2
              obtain ⟨q113, eq113⟩ : ∃ q : Int32, q.toInt = (hs_fI h110 97 15).toInt := ⟨_, rfl⟩
              have aq113 : 0 ≤ (hs_fI h110 97 15).toInt := (Ih110.2.1 97 15 (by decide)).1
              have bq113 : (hs_fI h110 97 15).toInt ≤ 400 := (Ih110.2.1 97 15 (by decide)).2
              obtain ⟨q114, eq114⟩ : ∃ q : Int32, q.toInt = (hs_fI h110 97 16).toInt := ⟨_, rfl⟩
              have aq114 := nm_lo q114
              have bq114 := nm_hi q114
              obtain ⟨q115, eq115⟩ : ∃ q : Int32, q.toInt = (hs_fI h110 97 19).toInt := ⟨_, rfl⟩
              have aq115 : 0 ≤ q115.toInt ∧ q115.toInt ≤ 1 := by omega
              obtain ⟨q116, eq116⟩ : ∃ q : Int32, q.toInt = (hs_fI h110 97 23).toInt := ⟨_, rfl⟩
              have aq116 : 0 ≤ (hs_fI h110 97 23).toInt := (Ih110.2.1 97 23 (by decide)).1
              have bq116 : (hs_fI h110 97 23).toInt ≤ 400 := (Ih110.2.1 97 23 (by decide)).2
              obtain ⟨q117, eq117⟩ : ∃ q : Int32, q.toInt = (hs_fI h110 97 29).toInt := ⟨_, rfl⟩
              have aq117 : 0 ≤ (hs_fI h110 97 29).toInt := (Ih110.2.1 97 29 (by decide)).1
              have bq117 : (hs_fI h110 97 29).toInt ≤ 400 := (Ih110.2.1 97 29 (by decide)).2
              obtain ⟨q118, eq118⟩ : ∃ q : Int32, q.toInt = (hs_fI h110 97 30).toInt := ⟨_, rfl⟩
              have aq118 : 0 ≤ (hs_fI h110 97 30).toInt := (Ih110.2.1 97 30 (by decide)).1
              have bq118 : (hs_fI h110 97 30).toInt ≤ 8 := (Ih110.2.1 97 30 (by decide)).2
              obtain ⟨q119, eq119⟩ : ∃ q : Int64, q.toInt = (hs_fL h110 97 17).toInt := ⟨_, rfl⟩
              have aq119 := nm_llo q119
              have bq119 := nm_lhi q119
              have t1kz111 := kz111.1
              have t2kz111 := kz111.2.1
              have vz111 : 0 ≤ z111.toInt ∧ z111.toInt ≤ 3 := by omega
              refine hq_p rfl rfl ?_
              refine hq_p (ls' := [some (.ref 97), some (.int x1), some (.int z111)]) rfl rfl ?_
              refine hq_p rfl rfl ?_
              exact ihn39 ((3 * (401 - (hs_fI h110 97 14).toInt) + (if z111.toInt = 3 then 2 else if z111.toInt = 2 then 1 else 0) + 10 * (1 - (hs_fI h110 97 19).toInt)).toNat) (by omega) z111 h110 rfl (by omega) (by omega) zz111 kz111 (by omega) (by omega) Jh110
    exact L20_n39 _ z16 h14 rfl (by omega) (by omega) ⟨by rw [if_pos (by omega)]; exact zi, fun _ => ⟨fun _ j hj => by exfalso; omega, fun q => by exfalso; omega⟩⟩ k34 (by omega) (by omega) Jh14
  · replace c15 : 1 ≤ x1.toInt ∧ x1.toInt ≤ 1 := by omega
    refine hq_p rfl rfl (ty_ge (n := 0) nk_i0 (fun z120 ez120 => ?_))
    refine hq_p rfl rfl ?_
    have r121 : (hs_fI h12 97 13).toInt = (hs_fI h 97 13).toInt := by rw [eh12]; exact congrArg Int32.toInt (ty_fI_sF (by decide))
    have r122 : (hs_fI h14 97 13).toInt = (hs_fI h12 97 13).toInt := by rw [eh14]; exact congrArg Int32.toInt (ty_fI_sF (by decide))
    have r123 : (hs_fI h12 97 14).toInt = (hs_fI h 97 14).toInt := by rw [eh12]; exact congrArg Int32.toInt (ty_fI_sF (by decide))
    have r124 : (hs_fI h14 97 14).toInt = (hs_fI h12 97 14).toInt := by rw [eh14]; exact congrArg Int32.toInt (ty_fI_sF (by decide))
    have r125 : (hs_fI h12 97 15).toInt = (hs_fI h 97 15).toInt := by rw [eh12]; exact congrArg Int32.toInt (ty_fI_sF (by decide))
    have r126 : (hs_fI h14 97 15).toInt = (hs_fI h12 97 15).toInt := by rw [eh14]; exact congrArg Int32.toInt (ty_fI_sF (by decide))
    have r127 : (hs_fI h12 97 16).toInt = (hs_fI h 97 16).toInt := by rw [eh12]; exact congrArg Int32.toInt (ty_fI_sF (by decide))
    have r128 : (hs_fI h14 97 16).toInt = (hs_fI h12 97 16).toInt := by rw [eh14]; exact congrArg Int32.toInt (ty_fI_sF (by decide))
    have r129 : (hs_fI h12 97 19).toInt = (hs_fI h 97 19).toInt := by rw [eh12]; exact congrArg Int32.toInt (ty_fI_sF (by decide))
    have r130 : (hs_fI h14 97 19).toInt = (hs_fI h12 97 19).toInt := by rw [eh14]; exact congrArg Int32.toInt (ty_fI_sF (by decide))
    have r131 : (hs_fI h12 97 23).toInt = (hs_fI h 97 23).toInt := by rw [eh12]; exact congrArg Int32.toInt (ty_fI_sF (by decide))
    have r132 : (hs_fI h14 97 23).toInt = (hs_fI h12 97 23).toInt := by rw [eh14]; exact congrArg Int32.toInt (ty_fI_sF (by decide))
    have r133 : (hs_fI h12 97 26).toInt = (hs_fI h 97 26).toInt := by rw [eh12]; exact congrArg Int32.toInt (ty_fI_sF (by decide))
    have r134 : (hs_fI h14 97 26).toInt = (hs_fI h12 97 26).toInt := by rw [eh14]; exact congrArg Int32.toInt (ty_fI_sF (by decide))
    have r135 : (hs_fI h14 97 29).toInt = (hs_fI h12 97 29).toInt := by rw [eh14]; exact congrArg Int32.toInt (ty_fI_sF (by decide))
    have r136 : (hs_fL h12 97 17).toInt = (hs_fL h 97 17).toInt := by rw [eh12]; exact congrArg Int64.toInt (ty_fL_sF (by decide))
    have r137 : (hs_fL h14 97 17).toInt = (hs_fL h12 97 17).toInt := by rw [eh14]; exact congrArg Int64.toInt (ty_fL_sF (by decide))
    have k138 : tk_ok h14 := tk_same hk (by omega) (by omega) (by omega) (by omega) (by omega)
    have zi : pz op0 ar0 s 0 h14 := by
      show pq ((hs_fI h14 97 19).toInt = 0) (hs_aI h14 108) (hs_aI h14 109) (hs_aI h14 110) (hs_aI h14 111) op0 ar0 s (hs_fI h14 97 23).toInt (hs_fI h14 97 29).toInt (hs_fI h14 97 30).toInt (hs_fI h14 97 14).toInt 0
      rw [vh14_108, vh14_109, vh14_110, vh14_111, show (hs_fI h14 97 23).toInt = (hs_fI h 97 23).toInt by omega, show (hs_fI h14 97 29).toInt = 0 by omega, show (hs_fI h14 97 30).toInt = 0 by omega]
      exact (by rw [← eop, ← ear, ← es]; exact pq_0 (by omega) (by omega))
    refine hq_p (ls' := [some (.ref 97), some (.int x1), some (.int z120)]) rfl rfl ?_
    have L20_n143 : ∀ n143 : Nat, ∀ (y141 : Int32) (h142 : pm_H), (3 * (401 - (hs_fI h142 97 14).toInt) + (if y141.toInt = 3 then 2 else if y141.toInt = 2 then 1 else 0) + 10 * (1 - (hs_fI h142 97 19).toInt)).toNat = n143 → 0 ≤ y141.toInt → y141.toInt ≤ 4 → tz op0 ar0 s y141.toInt h142 → tk_ok h142 → (hs_fI h 97 14).toInt ≤ (hs_fI h142 97 14).toInt → ((hs_fI h142 97 19).toInt = 0 ∨ (hs_fI h142 97 19).toInt = 1) → J h142 → hq_W X d 11 false (none) pm_c192 (20, [some (.ref 97), some (.int x1), some (.int y141)], [], h142) (fun h' v => J h' ∧ (fun h1 v => v = none ∧ tk_ok h1 ∧ (hs_fI h 97 14).toInt ≤ (hs_fI h1 97 14).toInt ∧ ((hs_fI h1 97 19).toInt = 0 ∨ (hs_fI h1 97 19).toInt = 1) ∧ (hs_fI h 97 23).toInt ≤ (hs_fI h1 97 23).toInt ∧ (hs_fI h1 97 23).toInt ≤ (hs_fI h1 97 14).toInt ∧ ((hs_fI h1 97 19).toInt = 0 → ty_cw (pt (hs_aI h1 108)) (pt (hs_aI h1 109)) (hs_fI h 97 23).toInt (hs_fI h1 97 23).toInt ∧ ∀ k, k < (hs_fI h 97 23).toInt.toNat → pt (hs_aI h1 108) k = pt (hs_aI h 108) k ∧ pt (hs_aI h1 109) k = pt (hs_aI h 109) k)) h' v) := by
      intro n143
      induction n143 using Nat.strongRecOn with
      | ind n143 ihn143 =>
        intro y141 h142 mn143 ay141 by141 x0n143 x1n143 x2n143 x3n143 Jh142
        have Ih142 := H.1 h142 Jh142
        obtain ⟨q144, eq144⟩ : ∃ q : Int32, q.toInt = (hs_fI h142 97 13).toInt := ⟨_, rfl⟩
        have aq144 : 0 ≤ (hs_fI h142 97 13).toInt := (Ih142.2.1 97 13 (by decide)).1
        have bq144 : (hs_fI h142 97 13).toInt ≤ 400 := (Ih142.2.1 97 13 (by decide)).2
        obtain ⟨q145, eq145⟩ : ∃ q : Int32, q.toInt = (hs_fI h142 97 14).toInt := ⟨_, rfl⟩
        have aq145 : 0 ≤ (hs_fI h142 97 14).toInt := (Ih142.2.1 97 14 (by decide)).1
        have bq145 : (hs_fI h142 97 14).toInt ≤ 400 := (Ih142.2.1 97 14 (by decide)).2
        obtain ⟨q146, eq146⟩ : ∃ q : Int32, q.toInt = (hs_fI h142 97 15).toInt := ⟨_, rfl⟩
        have aq146 : 0 ≤ (hs_fI h142 97 15).toInt := (Ih142.2.1 97 15 (by decide)).1
        have bq146 : (hs_fI h142 97 15).toInt ≤ 400 := (Ih142.2.1 97 15 (by decide)).2
        obtain ⟨q147, eq147⟩ : ∃ q : Int32, q.toInt = (hs_fI h142 97 16).toInt := ⟨_, rfl⟩
        have aq147 := nm_lo q147
        have bq147 := nm_hi q147
        obtain ⟨q148, eq148⟩ : ∃ q : Int32, q.toInt = (hs_fI h142 97 19).toInt := ⟨_, rfl⟩
        have aq148 : 0 ≤ q148.toInt ∧ q148.toInt ≤ 1 := by omega
        obtain ⟨q149, eq149⟩ : ∃ q : Int32, q.toInt = (hs_fI h142 97 23).toInt := ⟨_, rfl⟩
        have aq149 : 0 ≤ (hs_fI h142 97 23).toInt := (Ih142.2.1 97 23 (by decide)).1
        have bq149 : (hs_fI h142 97 23).toInt ≤ 400 := (Ih142.2.1 97 23 (by decide)).2
        obtain ⟨q150, eq150⟩ : ∃ q : Int32, q.toInt = (hs_fI h142 97 29).toInt := ⟨_, rfl⟩
        have aq150 : 0 ≤ (hs_fI h142 97 29).toInt := (Ih142.2.1 97 29 (by decide)).1
        have bq150 : (hs_fI h142 97 29).toInt ≤ 400 := (Ih142.2.1 97 29 (by decide)).2
        obtain ⟨q151, eq151⟩ : ∃ q : Int32, q.toInt = (hs_fI h142 97 30).toInt := ⟨_, rfl⟩
        have aq151 : 0 ≤ (hs_fI h142 97 30).toInt := (Ih142.2.1 97 30 (by decide)).1
        have bq151 : (hs_fI h142 97 30).toInt ≤ 8 := (Ih142.2.1 97 30 (by decide)).2
        obtain ⟨q152, eq152⟩ : ∃ q : Int64, q.toInt = (hs_fL h142 97 17).toInt := ⟨_, rfl⟩
        have aq152 := nm_llo q152
        have bq152 := nm_lhi q152
        refine hq_p rfl rfl ?_
        refine ty_gB Ih142 rfl rfl (by decide) (by decide) rfl (fun z153 ez153 az153 bz153 => ?_)
        refine ty_zne rfl (fun c154 => ?_) (fun c154 => ?_)
        · replace c154 : 1 ≤ z153.toInt ∧ z153.toInt ≤ 1 := by omega
          refine hq_p rfl rfl ?_
          refine hq_p rfl rfl (ty_ge (n := 1) nk_i1 (fun z155 ez155 => ?_))
          have zm : pq ((hs_fI h142 97 19).toInt = 0) (hs_aI h142 108) (hs_aI h142 109) (hs_aI h142 110) (hs_aI h142 111) op0 ar0 s (hs_fI h142 97 23).toInt (hs_fI h142 97 29).toInt (hs_fI h142 97 30).toInt (hs_fI h142 97 14).toInt 1 := pq_g x0n143.1 (fun q => ⟨q, by exfalso; omega⟩) (Int.le_refl _)
          refine ty_callm 0 [(0, 97, 13), (0, 97, 14), (0, 97, 15), (0, 97, 16), (0, 97, 19), (0, 97, 30), (2, 97, 17), (3, 110, 0), (3, 111, 0)] (W := ty_Wps) H Jh142 rfl (fun _ => rfl) rfl rfl rfl (hq_pre_o Ih142.1 (x := 97) (ci := 11) rfl (by decide) rfl rfl rfl rfl) (fun a k w => by unfold ty_Wse at w; unfold ty_Wps; omega) (by unfold ty_Wse ty_Wps; omega) (ct_181 (x1 := z155) (by omega) (by omega) (by omega) zm (by omega)) ⟨⟨rfl, show ¬ ty_Wse 97 13 by unfold ty_Wse; omega⟩, ⟨rfl, show ¬ ty_Wse 97 14 by unfold ty_Wse; omega⟩, ⟨rfl, show ¬ ty_Wse 97 15 by unfold ty_Wse; omega⟩, ⟨rfl, show ¬ ty_Wse 97 16 by unfold ty_Wse; omega⟩, ⟨rfl, show ¬ ty_Wse 97 19 by unfold ty_Wse; omega⟩, ⟨rfl, show ¬ ty_Wse 97 30 by unfold ty_Wse; omega⟩, ⟨rfl, show ¬ ty_Wse 97 17 by unfold ty_Wse; omega⟩, ⟨rfl, fun k => show ¬ ty_Wse 110 k by unfold ty_Wse; omega⟩, ⟨rfl, fun k => show ¬ ty_Wse 111 k by unfold ty_Wse; omega⟩, trivial⟩ (fun h157 _ Jh157 gh157 P156 => ?_)
          obtain ⟨gh157_0, gh157_1, gh157_2, gh157_3, gh157_4, gh157_5, gh157_6, gh157_7, gh157_8, _⟩ := gh157
          have gh157_0 : (hs_fI h157 97 13).toInt = (hs_fI h142 97 13).toInt := gh157_0
          have gh157_1 : (hs_fI h157 97 14).toInt = (hs_fI h142 97 14).toInt := gh157_1
          have gh157_2 : (hs_fI h157 97 15).toInt = (hs_fI h142 97 15).toInt := gh157_2
          have gh157_3 : (hs_fI h157 97 16).toInt = (hs_fI h142 97 16).toInt := gh157_3
          have gh157_4 : (hs_fI h157 97 19).toInt = (hs_fI h142 97 19).toInt := gh157_4
          have gh157_5 : (hs_fI h157 97 30).toInt = (hs_fI h142 97 30).toInt := gh157_5
          have gh157_6 : (hs_fL h157 97 17).toInt = (hs_fL h142 97 17).toInt := gh157_6
          have gh157_7 : hs_aI h157 110 = hs_aI h142 110 := gh157_7
          have ugh157_7 : hs_aI h157 110 = (hs_aI h142 110) := gh157_7.trans rfl
          have gh157_8 : hs_aI h157 111 = hs_aI h142 111 := gh157_8
          have ugh157_8 : hs_aI h157 111 = (hs_aI h142 111) := gh157_8.trans rfl
          have Ih157 := H.1 h157 Jh157
          obtain ⟨rq158, zq158, stq158, lq158⟩ := P156
          subst rq158
          obtain ⟨q159, eq159⟩ : ∃ q : Int32, q.toInt = (hs_fI h157 97 23).toInt := ⟨_, rfl⟩
          have aq159 : 0 ≤ (hs_fI h157 97 23).toInt := (Ih157.2.1 97 23 (by decide)).1
          have bq159 : (hs_fI h157 97 23).toInt ≤ 400 := (Ih157.2.1 97 23 (by decide)).2
          obtain ⟨q160, eq160⟩ : ∃ q : Int32, q.toInt = (hs_fI h157 97 29).toInt := ⟨_, rfl⟩
          have aq160 : 0 ≤ (hs_fI h157 97 29).toInt := (Ih157.2.1 97 29 (by decide)).1
          have bq160 : (hs_fI h157 97 29).toInt ≤ 400 := (Ih157.2.1 97 29 (by decide)).2
          have y3q158 := zq158.2.2.1
          have y2q158 := zq158.2.1
          have y1q158 := zq158.1
          have k161 : tk_ok h157 := tk_same x1n143 (by omega) (by omega) (by omega) (by omega) (by omega)
          exact hq_W.ret rfl rfl rfl ⟨Jh157, rfl, k161, by omega, by omega, by omega, by omega, fun q => by exfalso; omega⟩
        · refine hq_p rfl rfl ?_
          refine hq_p rfl rfl (ty_ge (n := 4) nk_i4 (fun z162 ez162 => ?_))
          refine ty_ieq rfl (fun c163 => ?_) (fun c163 => ?_)
          · refine hq_p rfl rfl ?_
            refine hq_p rfl rfl (ty_ge (n := 1) nk_i1 (fun z164 ez164 => ?_))
            have zm : pq ((hs_fI h142 97 19).toInt = 0) (hs_aI h142 108) (hs_aI h142 109) (hs_aI h142 110) (hs_aI h142 111) op0 ar0 s (hs_fI h142 97 23).toInt (hs_fI h142 97 29).toInt (hs_fI h142 97 30).toInt (hs_fI h142 97 14).toInt 1 := pq_g x0n143.1 (fun q => ⟨q, by rw [if_neg (by omega)]⟩) (Int.le_refl _)
            refine ty_callm 0 [(0, 97, 13), (0, 97, 14), (0, 97, 15), (0, 97, 16), (0, 97, 19), (0, 97, 30), (2, 97, 17), (3, 110, 0), (3, 111, 0)] (W := ty_Wps) H Jh142 rfl (fun _ => rfl) rfl rfl rfl (hq_pre_o Ih142.1 (x := 97) (ci := 11) rfl (by decide) rfl rfl rfl rfl) (fun a k w => by unfold ty_Wse at w; unfold ty_Wps; omega) (by unfold ty_Wse ty_Wps; omega) (ct_181 (x1 := z164) (by omega) (by omega) (by omega) zm (by omega)) ⟨⟨rfl, show ¬ ty_Wse 97 13 by unfold ty_Wse; omega⟩, ⟨rfl, show ¬ ty_Wse 97 14 by unfold ty_Wse; omega⟩, ⟨rfl, show ¬ ty_Wse 97 15 by unfold ty_Wse; omega⟩, ⟨rfl, show ¬ ty_Wse 97 16 by unfold ty_Wse; omega⟩, ⟨rfl, show ¬ ty_Wse 97 19 by unfold ty_Wse; omega⟩, ⟨rfl, show ¬ ty_Wse 97 30 by unfold ty_Wse; omega⟩, ⟨rfl, show ¬ ty_Wse 97 17 by unfold ty_Wse; omega⟩, ⟨rfl, fun k => show ¬ ty_Wse 110 k by unfold ty_Wse; omega⟩, ⟨rfl, fun k => show ¬ ty_Wse 111 k by unfold ty_Wse; omega⟩, trivial⟩ (fun h166 _ Jh166 gh166 P165 => ?_)
            obtain ⟨gh166_0, gh166_1, gh166_2, gh166_3, gh166_4, gh166_5, gh166_6, gh166_7, gh166_8, _⟩ := gh166
            have gh166_0 : (hs_fI h166 97 13).toInt = (hs_fI h142 97 13).toInt := gh166_0
            have gh166_1 : (hs_fI h166 97 14).toInt = (hs_fI h142 97 14).toInt := gh166_1
            have gh166_2 : (hs_fI h166 97 15).toInt = (hs_fI h142 97 15).toInt := gh166_2
            have gh166_3 : (hs_fI h166 97 16).toInt = (hs_fI h142 97 16).toInt := gh166_3
            have gh166_4 : (hs_fI h166 97 19).toInt = (hs_fI h142 97 19).toInt := gh166_4
            have gh166_5 : (hs_fI h166 97 30).toInt = (hs_fI h142 97 30).toInt := gh166_5
            have gh166_6 : (hs_fL h166 97 17).toInt = (hs_fL h142 97 17).toInt := gh166_6
            have gh166_7 : hs_aI h166 110 = hs_aI h142 110 := gh166_7
            have ugh166_7 : hs_aI h166 110 = (hs_aI h142 110) := gh166_7.trans rfl
            have gh166_8 : hs_aI h166 111 = hs_aI h142 111 := gh166_8
            have ugh166_8 : hs_aI h166 111 = (hs_aI h142 111) := gh166_8.trans rfl
            have Ih166 := H.1 h166 Jh166
            obtain ⟨rq167, zq167, stq167, lq167⟩ := P165
            subst rq167
            obtain ⟨q168, eq168⟩ : ∃ q : Int32, q.toInt = (hs_fI h166 97 23).toInt := ⟨_, rfl⟩
            have aq168 : 0 ≤ (hs_fI h166 97 23).toInt := (Ih166.2.1 97 23 (by decide)).1
            have bq168 : (hs_fI h166 97 23).toInt ≤ 400 := (Ih166.2.1 97 23 (by decide)).2
            obtain ⟨q169, eq169⟩ : ∃ q : Int32, q.toInt = (hs_fI h166 97 29).toInt := ⟨_, rfl⟩
            have aq169 : 0 ≤ (hs_fI h166 97 29).toInt := (Ih166.2.1 97 29 (by decide)).1
            have bq169 : (hs_fI h166 97 29).toInt ≤ 400 := (Ih166.2.1 97 29 (by decide)).2
            have y3q167 := zq167.2.2.1
            have y2q167 := zq167.2.1
            have y1q167 := zq167.1
            have k170 : tk_ok h166 := tk_same x1n143 (by omega) (by omega) (by omega) (by omega) (by omega)
            exact hq_W.ret rfl rfl rfl ⟨Jh166, rfl, k170, by omega, by omega, by omega, by omega, fun q => (by have nb1 := (x0n143.2 (by omega)).2 (by omega); have st2 := stq167; rw [show z164.toInt = 1 by omega] at st2; have m0 := pq_all nb1 st2 (by omega) (by omega); have c := pq_cw zq167 (show (hs_fI h142 97 19).toInt = 0 by omega) m0; rw [← eop, ← ear, ← es] at c; rw [show (((hs_fI h 97 23).toInt.toNat : Nat) : Int) = (hs_fI h 97 23).toInt by omega] at c; exact c)⟩
          · replace c163 : 0 ≤ y141.toInt ∧ y141.toInt ≤ 3 := by omega
            refine hq_p rfl rfl ?_
            refine ty_zne rfl (fun c171 => ?_) (fun c171 => ?_)
            · replace c171 : 1 ≤ y141.toInt ∧ y141.toInt ≤ 3 := by omega
              refine hq_p rfl rfl ?_
              refine hq_p rfl rfl (ty_ge (n := 1) nk_i1 (fun z172 ez172 => ?_))
              refine ty_ine rfl (fun c173 => ?_) (fun c173 => ?_)
              · replace c173 : 2 ≤ y141.toInt ∧ y141.toInt ≤ 3 := by omega
                refine hq_p rfl rfl ?_
                refine hq_p rfl rfl (ty_ge (n := 3) nk_i3 (fun z174 ez174 => ?_))
                refine ty_ine rfl (fun c175 => ?_) (fun c175 => ?_)
                · replace c175 : 2 ≤ y141.toInt ∧ y141.toInt ≤ 2 := by omega
                  refine hq_p rfl rfl ?_
                  have p176 : pz op0 ar0 s 1 h142 := by have q := x0n143.1; rw [if_neg (by omega)] at q; exact q
                  refine ty_callm 0 [(0, 97, 13)] (W := ty_Wps) H Jh142 rfl (fun _ => rfl) rfl rfl rfl (hq_pre_o Ih142.1 (x := 97) (ci := 11) rfl (by decide) rfl rfl rfl rfl) (fun _ _ w => w) (fun _ w => w) (ct_191 (by omega) (by omega) x1n143 p176 ((x0n143.2 (by omega)).1 (by omega))) ⟨⟨rfl, show ¬ ty_Wps 97 13 by unfold ty_Wps; omega⟩, trivial⟩ (fun h178 _ Jh178 gh178 P177 => ?_)
                  obtain ⟨gh178_0, _⟩ := gh178
                  have gh178_0 : (hs_fI h178 97 13).toInt = (hs_fI h142 97 13).toInt := gh178_0
                  have Ih178 := H.1 h178 Jh178
                  obtain ⟨z179, rfl, wz179, kz179, fz179, oz179, pz179, zz179⟩ := P177
                  obtain ⟨q180, eq180⟩ : ∃ q : Int32, q.toInt = (hs_fI h178 97 14).toInt := ⟨_, rfl⟩
                  have aq180 : 0 ≤ (hs_fI h178 97 14).toInt := (Ih178.2.1 97 14 (by decide)).1
                  have bq180 : (hs_fI h178 97 14).toInt ≤ 400 := (Ih178.2.1 97 14 (by decide)).2
                  obtain ⟨q181, eq181⟩ : ∃ q : Int32, q.toInt = (hs_fI h178 97 15).toInt := ⟨_, rfl⟩
                  have aq181 : 0 ≤ (hs_fI h178 97 15).toInt := (Ih178.2.1 97 15 (by decide)).1
                  have bq181 : (hs_fI h178 97 15).toInt ≤ 400 := (Ih178.2.1 97 15 (by decide)).2
                  obtain ⟨q182, eq182⟩ : ∃ q : Int32, q.toInt = (hs_fI h178 97 16).toInt := ⟨_, rfl⟩
                  have aq182 := nm_lo q182
                  have bq182 := nm_hi q182
                  obtain ⟨q183, eq183⟩ : ∃ q : Int32, q.toInt = (hs_fI h178 97 19).toInt := ⟨_, rfl⟩
                  have aq183 : 0 ≤ q183.toInt ∧ q183.toInt ≤ 1 := by omega
                  obtain ⟨q184, eq184⟩ : ∃ q : Int32, q.toInt = (hs_fI h178 97 23).toInt := ⟨_, rfl⟩
                  have aq184 : 0 ≤ (hs_fI h178 97 23).toInt := (Ih178.2.1 97 23 (by decide)).1
                  have bq184 : (hs_fI h178 97 23).toInt ≤ 400 := (Ih178.2.1 97 23 (by decide)).2
                  obtain ⟨q185, eq185⟩ : ∃ q : Int32, q.toInt = (hs_fI h178 97 29).toInt := ⟨_, rfl⟩
                  have aq185 : 0 ≤ (hs_fI h178 97 29).toInt := (Ih178.2.1 97 29 (by decide)).1
                  have bq185 : (hs_fI h178 97 29).toInt ≤ 400 := (Ih178.2.1 97 29 (by decide)).2
                  obtain ⟨q186, eq186⟩ : ∃ q : Int32, q.toInt = (hs_fI h178 97 30).toInt := ⟨_, rfl⟩
                  have aq186 : 0 ≤ (hs_fI h178 97 30).toInt := (Ih178.2.1 97 30 (by decide)).1
                  have bq186 : (hs_fI h178 97 30).toInt ≤ 8 := (Ih178.2.1 97 30 (by decide)).2
                  obtain ⟨q187, eq187⟩ : ∃ q : Int64, q.toInt = (hs_fL h178 97 17).toInt := ⟨_, rfl⟩
                  have aq187 := nm_llo q187
                  have bq187 := nm_lhi q187
                  have t1kz179 := kz179.1
                  have t2kz179 := kz179.2.1
                  have vz179 : 0 ≤ z179.toInt ∧ z179.toInt ≤ 4 := by omega
                  refine hq_p (ls' := [some (.ref 97), some (.int x1), some (.int z179)]) rfl rfl ?_
                  refine hq_p rfl rfl ?_
                  exact ihn143 ((3 * (401 - (hs_fI h178 97 14).toInt) + (if z179.toInt = 3 then 2 else if z179.toInt = 2 then 1 else 0) + 10 * (1 - (hs_fI h178 97 19).toInt)).toNat) (by omega) z179 h178 rfl (by omega) (by omega) zz179 kz179 (by omega) (by omega) Jh178
                · refine hq_p rfl rfl ?_
                  refine hq_p rfl rfl ?_
                  have p188 : pz op0 ar0 s 1 h142 := by have q := x0n143.1; rw [if_neg (by omega)] at q; exact q
                  refine ty_callm 0 [(0, 97, 13)] (W := ty_Wps) H Jh142 rfl (fun _ => rfl) rfl rfl rfl (hq_pre_o Ih142.1 (x := 97) (ci := 11) rfl (by decide) rfl rfl rfl rfl) (fun _ _ w => w) (fun _ w => w) (ct_190 (x1 := x1) (by omega) (by omega) (by omega) (by omega) x1n143 p188) ⟨⟨rfl, show ¬ ty_Wps 97 13 by unfold ty_Wps; omega⟩, trivial⟩ (fun h190 _ Jh190 gh190 P189 => ?_)
                  obtain ⟨gh190_0, _⟩ := gh190
                  have gh190_0 : (hs_fI h190 97 13).toInt = (hs_fI h142 97 13).toInt := gh190_0
                  have Ih190 := H.1 h190 Jh190
                  obtain ⟨z191, rfl, wz191, kz191, fz191, oz191, pz191, zz191⟩ := P189
                  obtain ⟨q192, eq192⟩ : ∃ q : Int32, q.toInt = (hs_fI h190 97 14).toInt := ⟨_, rfl⟩
                  have aq192 : 0 ≤ (hs_fI h190 97 14).toInt := (Ih190.2.1 97 14 (by decide)).1
                  have bq192 : (hs_fI h190 97 14).toInt ≤ 400 := (Ih190.2.1 97 14 (by decide)).2
                  obtain ⟨q193, eq193⟩ : ∃ q : Int32, q.toInt = (hs_fI h190 97 15).toInt := ⟨_, rfl⟩
                  have aq193 : 0 ≤ (hs_fI h190 97 15).toInt := (Ih190.2.1 97 15 (by decide)).1
                  have bq193 : (hs_fI h190 97 15).toInt ≤ 400 := (Ih190.2.1 97 15 (by decide)).2
                  obtain ⟨q194, eq194⟩ : ∃ q : Int32, q.toInt = (hs_fI h190 97 16).toInt := ⟨_, rfl⟩
                  have aq194 := nm_lo q194
                  have bq194 := nm_hi q194
                  obtain ⟨q195, eq195⟩ : ∃ q : Int32, q.toInt = (hs_fI h190 97 19).toInt := ⟨_, rfl⟩
                  have aq195 : 0 ≤ q195.toInt ∧ q195.toInt ≤ 1 := by omega
                  obtain ⟨q196, eq196⟩ : ∃ q : Int32, q.toInt = (hs_fI h190 97 23).toInt := ⟨_, rfl⟩
                  have aq196 : 0 ≤ (hs_fI h190 97 23).toInt := (Ih190.2.1 97 23 (by decide)).1
                  have bq196 : (hs_fI h190 97 23).toInt ≤ 400 := (Ih190.2.1 97 23 (by decide)).2
                  obtain ⟨q197, eq197⟩ : ∃ q : Int32, q.toInt = (hs_fI h190 97 29).toInt := ⟨_, rfl⟩
                  have aq197 : 0 ≤ (hs_fI h190 97 29).toInt := (Ih190.2.1 97 29 (by decide)).1
                  have bq197 : (hs_fI h190 97 29).toInt ≤ 400 := (Ih190.2.1 97 29 (by decide)).2
                  obtain ⟨q198, eq198⟩ : ∃ q : Int32, q.toInt = (hs_fI h190 97 30).toInt := ⟨_, rfl⟩
                  have aq198 : 0 ≤ (hs_fI h190 97 30).toInt := (Ih190.2.1 97 30 (by decide)).1
                  have bq198 : (hs_fI h190 97 30).toInt ≤ 8 := (Ih190.2.1 97 30 (by decide)).2
                  obtain ⟨q199, eq199⟩ : ∃ q : Int64, q.toInt = (hs_fL h190 97 17).toInt := ⟨_, rfl⟩
                  have aq199 := nm_llo q199
                  have bq199 := nm_lhi q199
                  have t1kz191 := kz191.1
                  have t2kz191 := kz191.2.1
                  have vz191 : 1 ≤ z191.toInt ∧ z191.toInt ≤ 4 := by omega
                  refine hq_p rfl rfl ?_
                  refine hq_p (ls' := [some (.ref 97), some (.int x1), some (.int z191)]) rfl rfl ?_
                  refine hq_p rfl rfl ?_
                  exact ihn143 ((3 * (401 - (hs_fI h190 97 14).toInt) + (if z191.toInt = 3 then 2 else if z191.toInt = 2 then 1 else 0) + 10 * (1 - (hs_fI h190 97 19).toInt)).toNat) (by omega) z191 h190 rfl (by omega) (by omega) zz191 kz191 (by omega) (by omega) Jh190
              · refine hq_p rfl rfl ?_
                have p200 : pz op0 ar0 s 0 h142 := by have q := x0n143.1; rw [if_pos (by omega)] at q; exact q
                refine ty_callm 0 [(0, 97, 13)] (W := ty_Wps) H Jh142 rfl (fun _ => rfl) rfl rfl rfl (hq_pre_o Ih142.1 (x := 97) (ci := 11) rfl (by decide) rfl rfl rfl rfl) (fun _ _ w => w) (fun _ w => w) (ct_188 (by omega) (by omega) x1n143 p200) ⟨⟨rfl, show ¬ ty_Wps 97 13 by unfold ty_Wps; omega⟩, trivial⟩ (fun h202 _ Jh202 gh202 P201 => ?_)
                obtain ⟨gh202_0, _⟩ := gh202
                have gh202_0 : (hs_fI h202 97 13).toInt = (hs_fI h142 97 13).toInt := gh202_0
                have Ih202 := H.1 h202 Jh202
                obtain ⟨z203, rfl, wz203, kz203, fz203, oz203, pz203, zz203⟩ := P201
                obtain ⟨q204, eq204⟩ : ∃ q : Int32, q.toInt = (hs_fI h202 97 14).toInt := ⟨_, rfl⟩
                have aq204 : 0 ≤ (hs_fI h202 97 14).toInt := (Ih202.2.1 97 14 (by decide)).1
                have bq204 : (hs_fI h202 97 14).toInt ≤ 400 := (Ih202.2.1 97 14 (by decide)).2
                obtain ⟨q205, eq205⟩ : ∃ q : Int32, q.toInt = (hs_fI h202 97 15).toInt := ⟨_, rfl⟩
                have aq205 : 0 ≤ (hs_fI h202 97 15).toInt := (Ih202.2.1 97 15 (by decide)).1
                have bq205 : (hs_fI h202 97 15).toInt ≤ 400 := (Ih202.2.1 97 15 (by decide)).2
                obtain ⟨q206, eq206⟩ : ∃ q : Int32, q.toInt = (hs_fI h202 97 16).toInt := ⟨_, rfl⟩
                have aq206 := nm_lo q206
                have bq206 := nm_hi q206
                obtain ⟨q207, eq207⟩ : ∃ q : Int32, q.toInt = (hs_fI h202 97 19).toInt := ⟨_, rfl⟩
                have aq207 : 0 ≤ q207.toInt ∧ q207.toInt ≤ 1 := by omega
                obtain ⟨q208, eq208⟩ : ∃ q : Int32, q.toInt = (hs_fI h202 97 23).toInt := ⟨_, rfl⟩
                have aq208 : 0 ≤ (hs_fI h202 97 23).toInt := (Ih202.2.1 97 23 (by decide)).1
                have bq208 : (hs_fI h202 97 23).toInt ≤ 400 := (Ih202.2.1 97 23 (by decide)).2
                obtain ⟨q209, eq209⟩ : ∃ q : Int32, q.toInt = (hs_fI h202 97 29).toInt := ⟨_, rfl⟩
                have aq209 : 0 ≤ (hs_fI h202 97 29).toInt := (Ih202.2.1 97 29 (by decide)).1
                have bq209 : (hs_fI h202 97 29).toInt ≤ 400 := (Ih202.2.1 97 29 (by decide)).2
                obtain ⟨q210, eq210⟩ : ∃ q : Int32, q.toInt = (hs_fI h202 97 30).toInt := ⟨_, rfl⟩
                have aq210 : 0 ≤ (hs_fI h202 97 30).toInt := (Ih202.2.1 97 30 (by decide)).1
                have bq210 : (hs_fI h202 97 30).toInt ≤ 8 := (Ih202.2.1 97 30 (by decide)).2
                obtain ⟨q211, eq211⟩ : ∃ q : Int64, q.toInt = (hs_fL h202 97 17).toInt := ⟨_, rfl⟩
                have aq211 := nm_llo q211
                have bq211 := nm_lhi q211
                have t1kz203 := kz203.1
                have t2kz203 := kz203.2.1
                have vz203 : 1 ≤ z203.toInt ∧ z203.toInt ≤ 3 := by omega
                refine hq_p rfl rfl ?_
                refine hq_p (ls' := [some (.ref 97), some (.int x1), some (.int z203)]) rfl rfl ?_
                refine hq_p rfl rfl ?_
                exact ihn143 ((3 * (401 - (hs_fI h202 97 14).toInt) + (if z203.toInt = 3 then 2 else if z203.toInt = 2 then 1 else 0) + 10 * (1 - (hs_fI h202 97 19).toInt)).toNat) (by omega) z203 h202 rfl (by omega) (by omega) zz203 kz203 (by omega) (by omega) Jh202
            · refine hq_p rfl rfl ?_
              have p212 : pz op0 ar0 s 0 h142 := by have q := x0n143.1; rw [if_pos (by omega)] at q; exact q
              refine ty_callm 0 [(0, 97, 13)] (W := ty_Wps) H Jh142 rfl (fun _ => rfl) rfl rfl rfl (hq_pre_o Ih142.1 (x := 97) (ci := 11) rfl (by decide) rfl rfl rfl rfl) (fun _ _ w => w) (fun _ w => w) (ct_189 (by omega) (by omega) x1n143 p212 ((x0n143.2 (by omega)).1 (by omega))) ⟨⟨rfl, show ¬ ty_Wps 97 13 by unfold ty_Wps; omega⟩, trivial⟩ (fun h214 _ Jh214 gh214 P213 => ?_)
              obtain ⟨gh214_0, _⟩ := gh214
              have gh214_0 : (hs_fI h214 97 13).toInt = (hs_fI h142 97 13).toInt := gh214_0
              have Ih214 := H.1 h214 Jh214
              obtain ⟨z215, rfl, wz215, kz215, fz215, oz215, pz215, zz215⟩ := P213
              obtain ⟨q216, eq216⟩ : ∃ q : Int32, q.toInt = (hs_fI h214 97 14).toInt := ⟨_, rfl⟩
              have aq216 : 0 ≤ (hs_fI h214 97 14).toInt := (Ih214.2.1 97 14 (by decide)).1
              have bq216 : (hs_fI h214 97 14).toInt ≤ 400 := (Ih214.2.1 97 14 (by decide)).2
              obtain ⟨q217, eq217⟩ : ∃ q : Int32, q.toInt = (hs_fI h214 97 15).toInt := ⟨_, rfl⟩
              have aq217 : 0 ≤ (hs_fI h214 97 15).toInt := (Ih214.2.1 97 15 (by decide)).1
              have bq217 : (hs_fI h214 97 15).toInt ≤ 400 := (Ih214.2.1 97 15 (by decide)).2
              obtain ⟨q218, eq218⟩ : ∃ q : Int32, q.toInt = (hs_fI h214 97 16).toInt := ⟨_, rfl⟩
              have aq218 := nm_lo q218
              have bq218 := nm_hi q218
              obtain ⟨q219, eq219⟩ : ∃ q : Int32, q.toInt = (hs_fI h214 97 19).toInt := ⟨_, rfl⟩
              have aq219 : 0 ≤ q219.toInt ∧ q219.toInt ≤ 1 := by omega
              obtain ⟨q220, eq220⟩ : ∃ q : Int32, q.toInt = (hs_fI h214 97 23).toInt := ⟨_, rfl⟩
              have aq220 : 0 ≤ (hs_fI h214 97 23).toInt := (Ih214.2.1 97 23 (by decide)).1
              have bq220 : (hs_fI h214 97 23).toInt ≤ 400 := (Ih214.2.1 97 23 (by decide)).2
              obtain ⟨q221, eq221⟩ : ∃ q : Int32, q.toInt = (hs_fI h214 97 29).toInt := ⟨_, rfl⟩
              have aq221 : 0 ≤ (hs_fI h214 97 29).toInt := (Ih214.2.1 97 29 (by decide)).1
              have bq221 : (hs_fI h214 97 29).toInt ≤ 400 := (Ih214.2.1 97 29 (by decide)).2
              obtain ⟨q222, eq222⟩ : ∃ q : Int32, q.toInt = (hs_fI h214 97 30).toInt := ⟨_, rfl⟩
              have aq222 : 0 ≤ (hs_fI h214 97 30).toInt := (Ih214.2.1 97 30 (by decide)).1
              have bq222 : (hs_fI h214 97 30).toInt ≤ 8 := (Ih214.2.1 97 30 (by decide)).2
              obtain ⟨q223, eq223⟩ : ∃ q : Int64, q.toInt = (hs_fL h214 97 17).toInt := ⟨_, rfl⟩
              have aq223 := nm_llo q223
              have bq223 := nm_lhi q223
              have t1kz215 := kz215.1
              have t2kz215 := kz215.2.1
              have vz215 : 0 ≤ z215.toInt ∧ z215.toInt ≤ 3 := by omega
              refine hq_p rfl rfl ?_
              refine hq_p (ls' := [some (.ref 97), some (.int x1), some (.int z215)]) rfl rfl ?_
              refine hq_p rfl rfl ?_
              exact ihn143 ((3 * (401 - (hs_fI h214 97 14).toInt) + (if z215.toInt = 3 then 2 else if z215.toInt = 2 then 1 else 0) + 10 * (1 - (hs_fI h214 97 19).toInt)).toNat) (by omega) z215 h214 rfl (by omega) (by omega) zz215 kz215 (by omega) (by omega) Jh214
    exact L20_n143 _ z120 h14 rfl (by omega) (by omega) ⟨by rw [if_pos (by omega)]; exact zi, fun _ => ⟨fun _ j hj => by exfalso; omega, fun q => by exfalso; omega⟩⟩ k138 (by omega) (by omega) Jh14
end CT52
