/-! CONTRACTS (printed by wip/pm/cts.py) -/
section CT15
theorem ct_143 {X : pm_X} {d : Nat} {h : pm_H} {x1 : Int32} (hd : 1 ≤ d) (ax1 : 0 ≤ x1.toInt) (bx1 : x1.toInt ≤ 17) : ty_M X ty_Wq d 143 [.ref 97, .int x1] h ty_pv := by
  intro J H hJ
  obtain ⟨d, rfl⟩ : ∃ e, d = e + 1 := ⟨d - 1, by omega⟩
  have I := H.1 h hJ
  refine hq_M.enter (q := (⟨"TrainBearersModel", "keepAll", "(I)V"⟩, _, 3, none, 11, 2, pm_c143)) rfl rfl ?_
  show hq_W X d 11 false (none) pm_c143 (0, [some (.ref 97), some (.int x1), none], [], h) (fun h' v => J h' ∧ ty_pv h' v)
  refine hq_p rfl rfl (ty_ge (n := 0) nk_i0 (fun z1 ez1 => ?_))
  refine hq_p (ls' := [some (.ref 97), some (.int x1), some (.int z1)]) rfl rfl ?_
  have L2_n44 : ∀ n44 : Nat, ∀ (y40 : Int32) (h41 : pm_H), (29 - y40.toInt).toNat = n44 → 0 ≤ y40.toInt → y40.toInt ≤ 29 → J h41 → hq_W X d 11 false (none) pm_c143 (2, [some (.ref 97), some (.int x1), some (.int y40)], [], h41) (fun h' v => J h' ∧ ty_pv h' v) := by
    intro n44
    induction n44 using Nat.strongRecOn with
    | ind n44 ihn44 =>
      intro y40 h41 mn44 ay40 by40 Jh41
      have Ih41 := H.1 h41 Jh41
      refine hq_p rfl rfl ?_
      refine hq_p rfl rfl (ty_ge (n := 29) nk_b29 (fun z45 ez45 => ?_))
      refine ty_ige rfl (fun c46 => ?_) (fun c46 => ?_)
      · exact hq_W.ret rfl rfl rfl ⟨Jh41, rfl⟩
      · refine hq_p rfl rfl ?_
        refine hq_gR Ih41.1 rfl rfl (by decide) (by decide) rfl ?_
        refine hq_p rfl rfl (ty_ge (n := 29) nk_b29 (fun z47 ez47 => ?_))
        refine hq_p rfl rfl ?_
        refine hq_p rfl rfl (ty_ge (n := 29 * x1.toInt) (nm_cmul ez47 (by omega) (by omega)) (fun z48 ez48 => ?_))
        refine hq_p rfl rfl ?_
        refine hq_p rfl rfl (ty_ge (n := z48.toInt + y40.toInt) (nm_add (by omega) (by omega)) (fun z49 ez49 => ?_))
        refine hq_p rfl rfl ?_
        refine hq_gR Ih41.1 rfl rfl (by decide) (by decide) rfl ?_
        refine hq_p rfl rfl (ty_ge (n := 5) nk_i5 (fun z50 ez50 => ?_))
        refine hq_p rfl rfl ?_
        refine hq_p rfl rfl (ty_ge (n := z50.toInt + y40.toInt) (nm_add (by omega) (by omega)) (fun z51 ez51 => ?_))
        refine ty_aLx Ih41 rfl rfl (by decide) (by omega) (by omega) (fun z52 ez52 az52 bz52 => ?_)
        have kz52 := ty_sv (n := z51.toInt.toNat) az52 bz52 (fun q => by rw [ez52, q]; exact H.2.2.2.2.2.1 (by unfold ty_Wq; omega) h41 Jh41)
        refine ty_aS (lo := (ty_sb (z51.toInt.toNat)).1) (hi := (ty_sb (z51.toInt.toNat)).2) (W := ty_Wq) H Jh41 rfl rfl (by decide) (by omega) (by omega) (fun i e => by unfold ty_Wq; omega) (fun i e => ty_pe (show ty_sb (5 + i % 29) = ty_sb (z51.toInt.toNat) from congrArg ty_sb (show 5 + i % 29 = z51.toInt.toNat by omega))) kz52.1 kz52.2 (fun e1 e2 w => by omega) (fun h53 eh53 Jh53 => ?_)
        have Ih53 := H.1 h53 Jh53
        refine ty_inc (ls' := fun z54 => [some (.ref 97), some (.int x1), some (.int z54)]) rfl rfl (fun _ => rfl) (nm_addc nk_i1 (by omega) (by omega)) (fun z54 ez54 => ?_)
        refine hq_p rfl rfl ?_
        exact ihn44 ((29 - z54.toInt).toNat) (by omega) z54 h53 rfl (by omega) (by omega) Jh53
  exact L2_n44 _ z1 h rfl (by omega) (by omega) hJ
theorem ct_144 {X : pm_X} {d : Nat} {h : pm_H} {x1 : Int32} (hd : 1 ≤ d) (ax1 : 0 ≤ x1.toInt) (bx1 : x1.toInt ≤ 17) : ty_M X ty_Wp d 144 [.ref 97, .int x1] h ty_pv := by
  intro J H hJ
  obtain ⟨d, rfl⟩ : ∃ e, d = e + 1 := ⟨d - 1, by omega⟩
  have I := H.1 h hJ
  refine hq_M.enter (q := (⟨"TrainBearersModel", "putBack", "(I)V"⟩, _, 3, none, 11, 2, pm_c144)) rfl rfl ?_
  show hq_W X d 11 false (none) pm_c144 (0, [some (.ref 97), some (.int x1), none], [], h) (fun h' v => J h' ∧ ty_pv h' v)
  refine hq_p rfl rfl (ty_ge (n := 0) nk_i0 (fun z1 ez1 => ?_))
  refine hq_p (ls' := [some (.ref 97), some (.int x1), some (.int z1)]) rfl rfl ?_
  have L2_n44 : ∀ n44 : Nat, ∀ (y40 : Int32) (h41 : pm_H), (29 - y40.toInt).toNat = n44 → 0 ≤ y40.toInt → y40.toInt ≤ 29 → J h41 → hq_W X d 11 false (none) pm_c144 (2, [some (.ref 97), some (.int x1), some (.int y40)], [], h41) (fun h' v => J h' ∧ ty_pv h' v) := by
    intro n44
    induction n44 using Nat.strongRecOn with
    | ind n44 ihn44 =>
      intro y40 h41 mn44 ay40 by40 Jh41
      have Ih41 := H.1 h41 Jh41
      refine hq_p rfl rfl ?_
      refine hq_p rfl rfl (ty_ge (n := 29) nk_b29 (fun z45 ez45 => ?_))
      refine ty_ige rfl (fun c46 => ?_) (fun c46 => ?_)
      · exact hq_W.ret rfl rfl rfl ⟨Jh41, rfl⟩
      · refine hq_p rfl rfl ?_
        refine hq_gR Ih41.1 rfl rfl (by decide) (by decide) rfl ?_
        refine hq_p rfl rfl (ty_ge (n := 5) nk_i5 (fun z47 ez47 => ?_))
        refine hq_p rfl rfl ?_
        refine hq_p rfl rfl (ty_ge (n := z47.toInt + y40.toInt) (nm_add (by omega) (by omega)) (fun z48 ez48 => ?_))
        refine hq_p rfl rfl ?_
        refine hq_gR Ih41.1 rfl rfl (by decide) (by decide) rfl ?_
        refine hq_p rfl rfl (ty_ge (n := 29) nk_b29 (fun z49 ez49 => ?_))
        refine hq_p rfl rfl ?_
        refine hq_p rfl rfl (ty_ge (n := 29 * x1.toInt) (nm_cmul ez49 (by omega) (by omega)) (fun z50 ez50 => ?_))
        refine hq_p rfl rfl ?_
        refine hq_p rfl rfl (ty_ge (n := z50.toInt + y40.toInt) (nm_add (by omega) (by omega)) (fun z51 ez51 => ?_))
        refine ty_aLx Ih41 rfl rfl (by decide) (by omega) (by omega) (fun z52 ez52 az52 bz52 => ?_)
        refine ty_aS (lo := (ty_a 102 z51.toInt.toNat).1) (hi := (ty_a 102 z51.toInt.toNat).2) (W := ty_Wp) H Jh41 rfl rfl (by decide) (by omega) (by omega) (fun i e => by unfold ty_Wp; omega) (fun i e => by rw [show ty_a 102 z51.toInt.toNat = ty_sb i from congrArg ty_sb (show i = 5 + z51.toInt.toNat % 29 by omega).symm]; exact ty_sr i) az52 bz52 (fun e1 e2 w => by have q := bz52; rw [show ty_a 102 z51.toInt.toNat = ty_sb (5 + z51.toInt.toNat % 29) from rfl, show 5 + z51.toInt.toNat % 29 = 5 by omega] at q; exact q) (fun h53 eh53 Jh53 => ?_)
        have Ih53 := H.1 h53 Jh53
        refine ty_inc (ls' := fun z54 => [some (.ref 97), some (.int x1), some (.int z54)]) rfl rfl (fun _ => rfl) (nm_addc nk_i1 (by omega) (by omega)) (fun z54 ez54 => ?_)
        refine hq_p rfl rfl ?_
        exact ihn44 ((29 - z54.toInt).toNat) (by omega) z54 h53 rfl (by omega) (by omega) Jh53
  exact L2_n44 _ z1 h rfl (by omega) (by omega) hJ
theorem ct_145 {X : pm_X} {d : Nat} {h : pm_H} {x1 : Int32} (hd : 2 ≤ d) (ax1 : 0 ≤ x1.toInt) (bx1 : x1.toInt ≤ 3) : ty_M X ty_Wm d 145 [.ref 97, .int x1] h ty_pv := by
  intro J H hJ
  obtain ⟨d, rfl⟩ : ∃ e, d = e + 1 := ⟨d - 1, by omega⟩
  have I := H.1 h hJ
  refine hq_M.enter (q := (⟨"TrainBearersModel", "remember", "(I)V"⟩, _, 3, none, 11, 2, pm_c145)) rfl rfl ?_
  show hq_W X d 11 false (none) pm_c145 (0, [some (.ref 97), some (.int x1), none], [], h) (fun h' v => J h' ∧ ty_pv h' v)
  refine hq_p rfl rfl ?_
  refine ty_gI I rfl rfl (by decide) (by decide) rfl rfl (fun z1 ez1 az1 bz1 => ?_)
  refine hq_p rfl rfl (ty_ge (n := 16) nk_b16 (fun z2 ez2 => ?_))
  refine ty_ine rfl (fun c3 => ?_) (fun c3 => ?_)
  · replace c3 : 0 ≤ z1.toInt ∧ z1.toInt ≤ 15 := by omega
    refine hq_p rfl rfl ?_
    refine hq_p rfl rfl ?_
    refine ty_gI I rfl rfl (by decide) (by decide) rfl rfl (fun z4 ez4 az4 bz4 => ?_)
    refine ty_callg 0 (c := 97) (j := 8) (W := ty_Wm) H hJ rfl (fun _ => rfl) rfl rfl rfl (hq_pre_o I.1 (x := 97) (ci := 11) rfl (by decide) rfl rfl rfl rfl) (fun a k w => by unfold ty_Wq at w; unfold ty_Wm; omega) (by unfold ty_Wq ty_Wm; omega) (ct_143 (x1 := z4) (by omega) (by omega) (by omega)) (by decide) (by unfold ty_Wq; omega) (fun h6 _ Jh6 gh6 P5 => ?_)
    have Ih6 := H.1 h6 Jh6
    subst P5
    refine hq_p rfl rfl ?_
    refine hq_gR Ih6.1 rfl rfl (by decide) (by decide) rfl ?_
    refine hq_p rfl rfl ?_
    refine ty_gI Ih6 rfl rfl (by decide) (by decide) rfl rfl (fun z7 ez7 az7 bz7 => ?_)
    refine hq_p rfl rfl ?_
    refine ty_aS (W := ty_Wm) H Jh6 rfl rfl (by decide) (by omega) (by omega) (fun i e => by unfold ty_Wm; omega) (fun _ _ => ty_eg rfl) (by omega) (by omega) (fun e1 e2 w => by omega) (fun h8 eh8 Jh8 => ?_)
    have Ih8 := H.1 h8 Jh8
    refine hq_p rfl rfl ?_
    refine hq_p rfl rfl ?_
    have r10 : (hs_fI h8 97 8).toInt = (hs_fI h6 97 8).toInt := by rw [eh8]; exact congrArg Int32.toInt (ty_fI_ne (by omega))
    refine ty_gI Ih8 rfl rfl (by decide) (by decide) rfl rfl (fun z9 ez9 az9 bz9 => ?_)
    refine hq_p rfl rfl (ty_ge (n := 1) nk_i1 (fun z11 ez11 => ?_))
    refine hq_p rfl rfl (ty_ge (n := z9.toInt + z11.toInt) (nm_add (by omega) (by omega)) (fun z12 ez12 => ?_))
    refine ty_pI (W := ty_Wm) H Jh8 rfl rfl (by decide) rfl rfl (by unfold ty_Wm; omega) rfl (by omega) (by omega) (fun h13 eh13 Jh13 => ?_)
    have wh13 : (hs_fI h13 97 8).toInt = z12.toInt := by rw [eh13]; exact congrArg Int32.toInt (ty_fI_eq Ih8.1 rfl (by decide) rfl)
    have Ih13 := H.1 h13 Jh13
    exact hq_W.ret rfl rfl rfl ⟨Jh13, rfl⟩
  · refine hq_p rfl rfl (ty_ge (n := 0) nk_i0 (fun z14 ez14 => ?_))
    refine hq_p (ls' := [some (.ref 97), some (.int x1), some (.int z14)]) rfl rfl ?_
    have L11_n95 : ∀ n95 : Nat, ∀ (y91 : Int32) (h92 : pm_H), (435 - y91.toInt).toNat = n95 → 0 ≤ y91.toInt → y91.toInt ≤ 435 → (hs_fI h92 97 8).toInt = (hs_fI h 97 8).toInt → J h92 → hq_W X d 11 false (none) pm_c145 (11, [some (.ref 97), some (.int x1), some (.int y91)], [], h92) (fun h' v => J h' ∧ ty_pv h' v) := by
      intro n95
      induction n95 using Nat.strongRecOn with
      | ind n95 ihn95 =>
        intro y91 h92 mn95 ay91 by91 x0n95 Jh92
        have Ih92 := H.1 h92 Jh92
        refine hq_p rfl rfl ?_
        refine hq_p rfl rfl (ty_ge (n := 435) nk_s435 (fun z96 ez96 => ?_))
        refine ty_ige rfl (fun c97 => ?_) (fun c97 => ?_)
        · refine hq_p rfl rfl (ty_ge (n := 0) nk_i0 (fun z98 ez98 => ?_))
          refine hq_p (ls' := [some (.ref 97), some (.int x1), some (.int z98)]) rfl rfl ?_
          have L41_n131 : ∀ n131 : Nat, ∀ (y127 : Int32) (h128 : pm_H), (15 - y127.toInt).toNat = n131 → 0 ≤ y127.toInt → y127.toInt ≤ 15 → (hs_fI h128 97 8).toInt = (hs_fI h92 97 8).toInt → J h128 → hq_W X d 11 false (none) pm_c145 (41, [some (.ref 97), some (.int x1), some (.int y127)], [], h128) (fun h' v => J h' ∧ ty_pv h' v) := by
            intro n131
            induction n131 using Nat.strongRecOn with
            | ind n131 ihn131 =>
              intro y127 h128 mn131 ay127 by127 x0n131 Jh128
              have Ih128 := H.1 h128 Jh128
              refine hq_p rfl rfl ?_
              refine hq_p rfl rfl (ty_ge (n := 15) nk_b15 (fun z132 ez132 => ?_))
              refine ty_ige rfl (fun c133 => ?_) (fun c133 => ?_)
              · refine hq_p rfl rfl ?_
                refine hq_p rfl rfl ?_
                refine ty_gI Ih128 rfl rfl (by decide) (by decide) rfl rfl (fun z134 ez134 az134 bz134 => ?_)
                refine hq_p rfl rfl (ty_ge (n := 1) nk_i1 (fun z135 ez135 => ?_))
                refine hq_p rfl rfl (ty_ge (n := z134.toInt - z135.toInt) (nm_sub (by omega) (by omega)) (fun z136 ez136 => ?_))
                refine ty_pI (W := ty_Wm) H Jh128 rfl rfl (by decide) rfl rfl (by unfold ty_Wm; omega) rfl (by omega) (by omega) (fun h137 eh137 Jh137 => ?_)
                have wh137 : (hs_fI h137 97 8).toInt = z136.toInt := by rw [eh137]; exact congrArg Int32.toInt (ty_fI_eq Ih128.1 rfl (by decide) rfl)
                have Ih137 := H.1 h137 Jh137
                refine hq_p rfl rfl ?_
                refine hq_p rfl rfl ?_
                refine ty_gI Ih137 rfl rfl (by decide) (by decide) rfl rfl (fun z138 ez138 az138 bz138 => ?_)
                refine ty_callg 0 (c := 97) (j := 8) (W := ty_Wm) H Jh137 rfl (fun _ => rfl) rfl rfl rfl (hq_pre_o Ih137.1 (x := 97) (ci := 11) rfl (by decide) rfl rfl rfl rfl) (fun a k w => by unfold ty_Wq at w; unfold ty_Wm; omega) (by unfold ty_Wq ty_Wm; omega) (ct_143 (x1 := z138) (by omega) (by omega) (by omega)) (by decide) (by unfold ty_Wq; omega) (fun h140 _ Jh140 gh140 P139 => ?_)
                have Ih140 := H.1 h140 Jh140
                subst P139
                refine hq_p rfl rfl ?_
                refine hq_gR Ih140.1 rfl rfl (by decide) (by decide) rfl ?_
                refine hq_p rfl rfl ?_
                refine ty_gI Ih140 rfl rfl (by decide) (by decide) rfl rfl (fun z141 ez141 az141 bz141 => ?_)
                refine hq_p rfl rfl ?_
                refine ty_aS (W := ty_Wm) H Jh140 rfl rfl (by decide) (by omega) (by omega) (fun i e => by unfold ty_Wm; omega) (fun _ _ => ty_eg rfl) (by omega) (by omega) (fun e1 e2 w => by omega) (fun h142 eh142 Jh142 => ?_)
                have Ih142 := H.1 h142 Jh142
                refine hq_p rfl rfl ?_
                refine hq_p rfl rfl ?_
                have r144 : (hs_fI h142 97 8).toInt = (hs_fI h140 97 8).toInt := by rw [eh142]; exact congrArg Int32.toInt (ty_fI_ne (by omega))
                refine ty_gI Ih142 rfl rfl (by decide) (by decide) rfl rfl (fun z143 ez143 az143 bz143 => ?_)
                refine hq_p rfl rfl (ty_ge (n := 1) nk_i1 (fun z145 ez145 => ?_))
                refine hq_p rfl rfl (ty_ge (n := z143.toInt + z145.toInt) (nm_add (by omega) (by omega)) (fun z146 ez146 => ?_))
                refine ty_pI (W := ty_Wm) H Jh142 rfl rfl (by decide) rfl rfl (by unfold ty_Wm; omega) rfl (by omega) (by omega) (fun h147 eh147 Jh147 => ?_)
                have wh147 : (hs_fI h147 97 8).toInt = z146.toInt := by rw [eh147]; exact congrArg Int32.toInt (ty_fI_eq Ih142.1 rfl (by decide) rfl)
                have Ih147 := H.1 h147 Jh147
                exact hq_W.ret rfl rfl rfl ⟨Jh147, rfl⟩
              · refine hq_p rfl rfl ?_
                refine hq_gR Ih128.1 rfl rfl (by decide) (by decide) rfl ?_
                refine hq_p rfl rfl ?_
                refine hq_p rfl rfl ?_
                refine hq_gR Ih128.1 rfl rfl (by decide) (by decide) rfl ?_
                refine hq_p rfl rfl ?_
                refine hq_p rfl rfl (ty_ge (n := 1) nk_i1 (fun z148 ez148 => ?_))
                refine hq_p rfl rfl (ty_ge (n := y127.toInt + z148.toInt) (nm_add (by omega) (by omega)) (fun z149 ez149 => ?_))
                refine ty_aL Ih128 rfl rfl (by decide) (by omega) (by omega) (fun _ _ => ty_le rfl) (fun z150 ez150 az150 bz150 => ?_)
                refine ty_aS (W := ty_Wm) H Jh128 rfl rfl (by decide) (by omega) (by omega) (fun i e => by unfold ty_Wm; omega) (fun _ _ => ty_eg rfl) (by omega) (by omega) (fun e1 e2 w => by omega) (fun h151 eh151 Jh151 => ?_)
                have Ih151 := H.1 h151 Jh151
                refine ty_inc (ls' := fun z152 => [some (.ref 97), some (.int x1), some (.int z152)]) rfl rfl (fun _ => rfl) (nm_addc nk_i1 (by omega) (by omega)) (fun z152 ez152 => ?_)
                refine hq_p rfl rfl ?_
                have r153 : (hs_fI h151 97 8).toInt = (hs_fI h128 97 8).toInt := by rw [eh151]; exact congrArg Int32.toInt (ty_fI_ne (by omega))
                exact ihn131 ((15 - z152.toInt).toNat) (by omega) z152 h151 rfl (by omega) (by omega) (by omega) Jh151
          exact L41_n131 _ z98 h92 rfl (by omega) (by omega) (by omega) Jh92
        · refine hq_p rfl rfl ?_
          refine hq_gR Ih92.1 rfl rfl (by decide) (by decide) rfl ?_
          refine hq_p rfl rfl ?_
          refine hq_p rfl rfl ?_
          refine hq_gR Ih92.1 rfl rfl (by decide) (by decide) rfl ?_
          refine hq_p rfl rfl ?_
          refine hq_p rfl rfl (ty_ge (n := 29) nk_b29 (fun z154 ez154 => ?_))
          refine hq_p rfl rfl (ty_ge (n := y91.toInt + z154.toInt) (nm_add (by omega) (by omega)) (fun z155 ez155 => ?_))
          refine ty_aLx Ih92 rfl rfl (by decide) (by omega) (by omega) (fun z156 ez156 az156 bz156 => ?_)
          refine ty_aS (lo := (ty_a 102 z155.toInt.toNat).1) (hi := (ty_a 102 z155.toInt.toNat).2) (W := ty_Wm) H Jh92 rfl rfl (by decide) (by omega) (by omega) (fun i e => by unfold ty_Wm; omega) (fun i e => ty_pe (show ty_sb (5 + i % 29) = ty_sb (5 + z155.toInt.toNat % 29) from congrArg ty_sb (show 5 + i % 29 = 5 + z155.toInt.toNat % 29 by omega))) az156 bz156 (fun e1 e2 w => by omega) (fun h157 eh157 Jh157 => ?_)
          have Ih157 := H.1 h157 Jh157
          refine ty_inc (ls' := fun z158 => [some (.ref 97), some (.int x1), some (.int z158)]) rfl rfl (fun _ => rfl) (nm_addc nk_i1 (by omega) (by omega)) (fun z158 ez158 => ?_)
          refine hq_p rfl rfl ?_
          have r159 : (hs_fI h157 97 8).toInt = (hs_fI h92 97 8).toInt := by rw [eh157]; exact congrArg Int32.toInt (ty_fI_ne (by omega))
          exact ihn95 ((435 - z158.toInt).toNat) (by omega) z158 h157 rfl (by omega) (by omega) (by omega) Jh157
    exact L11_n95 _ z14 h rfl (by omega) (by omega) (by omega) hJ
theorem ct_146 {X : pm_X} {d : Nat} {h : pm_H}  (hd : 2 ≤ d)  : ty_M X ty_Wz d 146 [.ref 97] h (ty_pi (-3) 3) := by
  intro J H hJ
  obtain ⟨d, rfl⟩ : ∃ e, d = e + 1 := ⟨d - 1, by omega⟩
  have I := H.1 h hJ
  refine hq_M.enter (q := (⟨"TrainBearersModel", "undo", "()I"⟩, _, 1, some .int, 11, 1, pm_c146)) rfl rfl ?_
  show hq_W X d 11 false (some .int) pm_c146 (0, [some (.ref 97)], [], h) (fun h' v => J h' ∧ (ty_pi (-3) 3) h' v)
  refine hq_p rfl rfl ?_
  refine hq_p rfl rfl (ty_ge (n := 0) nk_i0 (fun z1 ez1 => ?_))
  refine ty_pI (W := ty_Wz) H hJ rfl rfl (by decide) rfl rfl (by unfold ty_Wz; omega) rfl (by omega) (by omega) (fun h2 eh2 Jh2 => ?_)
  have wh2 : (hs_fI h2 97 0).toInt = z1.toInt := by rw [eh2]; exact congrArg Int32.toInt (ty_fI_eq I.1 rfl (by decide) rfl)
  have Ih2 := H.1 h2 Jh2
  refine hq_p rfl rfl ?_
  refine ty_gI Ih2 rfl rfl (by decide) (by decide) rfl rfl (fun z3 ez3 az3 bz3 => ?_)
  refine ty_zne rfl (fun c4 => ?_) (fun c4 => ?_)
  · replace c4 : 1 ≤ z3.toInt ∧ z3.toInt ≤ 16 := by omega
    refine hq_p rfl rfl ?_
    refine hq_p rfl rfl ?_
    have r6 : (hs_fI h2 97 8).toInt = (hs_fI h 97 8).toInt := by rw [eh2]; exact congrArg Int32.toInt (ty_fI_sF (by decide))
    refine ty_gI Ih2 rfl rfl (by decide) (by decide) rfl rfl (fun z5 ez5 az5 bz5 => ?_)
    refine hq_p rfl rfl (ty_ge (n := 1) nk_i1 (fun z7 ez7 => ?_))
    refine hq_p rfl rfl (ty_ge (n := z5.toInt - z7.toInt) (nm_sub (by omega) (by omega)) (fun z8 ez8 => ?_))
    refine ty_pI (W := ty_Wz) H Jh2 rfl rfl (by decide) rfl rfl (by unfold ty_Wz; omega) rfl (by omega) (by omega) (fun h9 eh9 Jh9 => ?_)
    have wh9 : (hs_fI h9 97 8).toInt = z8.toInt := by rw [eh9]; exact congrArg Int32.toInt (ty_fI_eq Ih2.1 rfl (by decide) rfl)
    have Ih9 := H.1 h9 Jh9
    refine hq_p rfl rfl ?_
    refine hq_p rfl rfl ?_
    refine ty_gI Ih9 rfl rfl (by decide) (by decide) rfl rfl (fun z10 ez10 az10 bz10 => ?_)
    refine ty_callg 0 (c := 97) (j := 8) (W := ty_Wz) H Jh9 rfl (fun _ => rfl) rfl rfl rfl (hq_pre_o Ih9.1 (x := 97) (ci := 11) rfl (by decide) rfl rfl rfl rfl) (fun a k w => by unfold ty_Wp at w; unfold ty_Wz; omega) (by unfold ty_Wp ty_Wz; omega) (ct_144 (x1 := z10) (by omega) (by omega) (by omega)) (by decide) (by unfold ty_Wp; omega) (fun h12 _ Jh12 gh12 P11 => ?_)
    have Ih12 := H.1 h12 Jh12
    subst P11
    refine hq_p rfl rfl ?_
    refine hq_p rfl rfl ?_
    refine hq_gR Ih12.1 rfl rfl (by decide) (by decide) rfl ?_
    refine hq_p rfl rfl ?_
    refine ty_gI Ih12 rfl rfl (by decide) (by decide) rfl rfl (fun z13 ez13 az13 bz13 => ?_)
    refine ty_aL Ih12 rfl rfl (by decide) (by omega) (by omega) (fun _ _ => ty_le rfl) (fun z14 ez14 az14 bz14 => ?_)
    refine ty_callj 0 (W := ty_Wz) H Jh12 rfl (fun _ => rfl) rfl rfl rfl (hq_pre_o Ih12.1 (x := 97) (ci := 11) rfl (by decide) rfl rfl rfl rfl) (fun a k w => by unfold ty_Wt at w; unfold ty_Wz; omega) (by unfold ty_Wt ty_Wz; omega) (ct_140 (x1 := z14) (by omega) (by omega) (by omega)) (fun h16 _ Jh16 P15 => ?_)
    have Ih16 := H.1 h16 Jh16
    obtain ⟨z17, rfl, fz17⟩ := P15
    exact hq_W.ret rfl rfl rfl ⟨Jh16, _, rfl, by omega, by omega⟩
  · refine hq_p rfl rfl ?_
    refine hq_p rfl rfl (ty_ge (n := -3) nk_bm3 (fun z18 ez18 => ?_))
    refine ty_callj 0 (W := ty_Wz) H Jh2 rfl (fun _ => rfl) rfl rfl rfl (hq_pre_o Ih2.1 (x := 97) (ci := 11) rfl (by decide) rfl rfl rfl rfl) (fun a k w => by unfold ty_Wt at w; unfold ty_Wz; omega) (by unfold ty_Wt ty_Wz; omega) (ct_140 (x1 := z18) (by omega) (by omega) (by omega)) (fun h20 _ Jh20 P19 => ?_)
    have Ih20 := H.1 h20 Jh20
    obtain ⟨z21, rfl, fz21⟩ := P19
    exact hq_W.ret rfl rfl rfl ⟨Jh20, _, rfl, by omega, by omega⟩
theorem ct_210 {X : pm_X} {d : Nat} {h : pm_H} {x1 : Int32} {x2 : Int32} (hd : 7 ≤ d)  : ty_M X ty_Wz d 210 [.ref 97, .int x1, .int x2] h (ty_pi (-3) 29) := by
  intro J H hJ
  obtain ⟨d, rfl⟩ : ∃ e, d = e + 1 := ⟨d - 1, by omega⟩
  have I := H.1 h hJ
  have ax1 := nm_lo x1
  have bx1 := nm_hi x1
  have ax2 := nm_lo x2
  have bx2 := nm_hi x2
  refine hq_M.enter (q := (⟨"TrainBearersModel", "holdNow", "(II)I"⟩, _, 3, some .int, 11, 3, pm_c210)) rfl rfl ?_
  show hq_W X d 11 false (some .int) pm_c210 (0, [some (.ref 97), some (.int x1), some (.int x2)], [], h) (fun h' v => J h' ∧ (ty_pi (-3) 29) h' v)
  refine hq_p rfl rfl ?_
  refine hq_p rfl rfl ?_
  refine ty_callp 0 I rfl (fun _ => rfl) rfl rfl rfl (hq_pre_o I.1 (x := 97) (ci := 11) rfl (by decide) rfl rfl rfl rfl) (ct_150 (x1 := x1) (by omega)) (fun _ P1 => ?_)
  obtain ⟨z2, rfl, az2, bz2, iz2⟩ := P1
  refine ty_zeq rfl (fun c3 => ?_) (fun c3 => ?_)
  · clear iz2
    refine hq_p rfl rfl (ty_ge (n := -2) nk_bm2 (fun z4 ez4 => ?_))
    exact hq_W.ret rfl rfl rfl ⟨hJ, _, rfl, by omega, by omega⟩
  · replace c3 : 1 ≤ z2.toInt ∧ z2.toInt ≤ 1 := by omega
    have f5 := iz2 (by omega)
    clear iz2
    refine hq_p rfl rfl ?_
    refine hq_p rfl rfl ?_
    refine ty_callp 0 I rfl (fun _ => rfl) rfl rfl rfl (hq_pre_o I.1 (x := 97) (ci := 11) rfl (by decide) rfl rfl rfl rfl) (ct_149 (x1 := x2) (by omega)) (fun _ P6 => ?_)
    obtain ⟨z7, rfl, az7, bz7, iz7⟩ := P6
    refine ty_zne rfl (fun c8 => ?_) (fun c8 => ?_)
    · replace c8 : 1 ≤ z7.toInt ∧ z7.toInt ≤ 1 := by omega
      have f9 := iz7 (by omega)
      clear iz7
      refine hq_p rfl rfl ?_
      refine hq_p rfl rfl ?_
      refine hq_p rfl rfl ?_
      refine ty_callj 0 (W := ty_Wz) H hJ rfl (fun _ => rfl) rfl rfl rfl (hq_pre_o I.1 (x := 97) (ci := 11) rfl (by decide) rfl rfl rfl rfl) (fun a k w => by unfold ty_Wy at w; unfold ty_Wz; omega) (by unfold ty_Wy ty_Wz; omega) (ct_209 (x1 := x1) (x2 := x2) (by omega) (by omega) (by omega) (by omega) (by omega)) (fun h11 _ Jh11 P10 => ?_)
      have Ih11 := H.1 h11 Jh11
      obtain ⟨z12, rfl, az12, bz12⟩ := P10
      refine ty_zne rfl (fun c13 => ?_) (fun c13 => ?_)
      · replace c13 : 1 ≤ z12.toInt ∧ z12.toInt ≤ 1 := by omega
        refine hq_p rfl rfl ?_
        refine hq_p rfl rfl (ty_ge (n := 0) nk_i0 (fun z14 ez14 => ?_))
        refine ty_callj 0 (W := ty_Wz) H Jh11 rfl (fun _ => rfl) rfl rfl rfl (hq_pre_o Ih11.1 (x := 97) (ci := 11) rfl (by decide) rfl rfl rfl rfl) (fun a k w => by unfold ty_Wm at w; unfold ty_Wz; omega) (by unfold ty_Wm ty_Wz; omega) (ct_145 (x1 := z14) (by omega) (by omega) (by omega)) (fun h16 _ Jh16 P15 => ?_)
        have Ih16 := H.1 h16 Jh16
        subst P15
        refine hq_p rfl rfl ?_
        refine hq_gR Ih16.1 rfl rfl (by decide) (by decide) rfl ?_
        refine hq_p rfl rfl (ty_ge (n := 26) nk_b26 (fun z17 ez17 => ?_))
        refine hq_p rfl rfl ?_
        refine hq_p rfl rfl (ty_ge (n := z17.toInt + x1.toInt) (nm_add (by omega) (by omega)) (fun z18 ez18 => ?_))
        refine hq_p rfl rfl ?_
        refine ty_aS (W := ty_Wz) H Jh16 rfl rfl (by decide) (by omega) (by omega) (fun i e => by unfold ty_Wz; omega) (fun i e => ty_eg (ty_w26 (by omega) (by omega))) (by omega) (by omega) (fun e1 e2 w => by omega) (fun h19 eh19 Jh19 => ?_)
        have Ih19 := H.1 h19 Jh19
        refine hq_p rfl rfl ?_
        refine hq_p rfl rfl ?_
        refine hq_p rfl rfl ?_
        refine hq_p rfl rfl ?_
        refine ty_callp 0 Ih19 rfl (fun _ => rfl) rfl rfl rfl (hq_pre_o Ih19.1 (x := 97) (ci := 11) rfl (by decide) rfl rfl rfl rfl) (ct_152 (x1 := x2) (by omega)) (fun _ P20 => ?_)
        obtain ⟨z21, rfl, az21, bz21⟩ := P20
        refine ty_callj 0 (W := ty_Wz) H Jh19 rfl (fun _ => rfl) rfl rfl rfl (hq_pre_o Ih19.1 (x := 97) (ci := 11) rfl (by decide) rfl rfl rfl rfl) (fun a k w => by unfold ty_Wy at w; unfold ty_Wz; omega) (by unfold ty_Wy ty_Wz; omega) (ct_207 (x1 := x2) (x2 := z21) (by omega) (by omega) (by omega)) (fun h23 _ Jh23 P22 => ?_)
        have Ih23 := H.1 h23 Jh23
        obtain ⟨z24, rfl, az24, bz24⟩ := P22
        exact hq_W.ret rfl rfl rfl ⟨Jh23, _, rfl, by omega, by omega⟩
      · refine hq_p rfl rfl (ty_ge (n := -3) nk_bm3 (fun z25 ez25 => ?_))
        exact hq_W.ret rfl rfl rfl ⟨Jh11, _, rfl, by omega, by omega⟩
    · clear iz7
      refine hq_p rfl rfl (ty_ge (n := -2) nk_bm2 (fun z26 ez26 => ?_))
      exact hq_W.ret rfl rfl rfl ⟨hJ, _, rfl, by omega, by omega⟩
theorem ct_211 {X : pm_X} {d : Nat} {h : pm_H} {x1 : Int32} {x2 : Int32} (hd : 8 ≤ d)  : ty_M X ty_Wz d 211 [.ref 97, .int x1, .int x2] h (ty_pi (-3) 29) := by
  intro J H hJ
  obtain ⟨d, rfl⟩ : ∃ e, d = e + 1 := ⟨d - 1, by omega⟩
  have I := H.1 h hJ
  have ax1 := nm_lo x1
  have bx1 := nm_hi x1
  have ax2 := nm_lo x2
  have bx2 := nm_hi x2
  refine hq_M.enter (q := (⟨"TrainBearersModel", "hold", "(II)I"⟩, _, 3, some .int, 11, 3, pm_c211)) rfl rfl ?_
  show hq_W X d 11 false (some .int) pm_c211 (0, [some (.ref 97), some (.int x1), some (.int x2)], [], h) (fun h' v => J h' ∧ (ty_pi (-3) 29) h' v)
  refine hq_p rfl rfl ?_
  refine hq_p rfl rfl (ty_ge (n := 0) nk_i0 (fun z1 ez1 => ?_))
  refine ty_pI (W := ty_Wz) H hJ rfl rfl (by decide) rfl rfl (by unfold ty_Wz; omega) rfl (by omega) (by omega) (fun h2 eh2 Jh2 => ?_)
  have wh2 : (hs_fI h2 97 0).toInt = z1.toInt := by rw [eh2]; exact congrArg Int32.toInt (ty_fI_eq I.1 rfl (by decide) rfl)
  have Ih2 := H.1 h2 Jh2
  refine hq_p rfl rfl ?_
  refine hq_p rfl rfl ?_
  refine hq_p rfl rfl ?_
  refine hq_p rfl rfl ?_
  refine ty_callj 0 (W := ty_Wz) H Jh2 rfl (fun _ => rfl) rfl rfl rfl (hq_pre_o Ih2.1 (x := 97) (ci := 11) rfl (by decide) rfl rfl rfl rfl) (fun _ _ w => w) (fun _ w => w) (ct_210 (x1 := x1) (x2 := x2) (by omega)) (fun h4 _ Jh4 P3 => ?_)
  have Ih4 := H.1 h4 Jh4
  obtain ⟨z5, rfl, az5, bz5⟩ := P3
  refine ty_callj 0 (W := ty_Wz) H Jh4 rfl (fun _ => rfl) rfl rfl rfl (hq_pre_o Ih4.1 (x := 97) (ci := 11) rfl (by decide) rfl rfl rfl rfl) (fun a k w => by unfold ty_Wt at w; unfold ty_Wz; omega) (by unfold ty_Wt ty_Wz; omega) (ct_140 (x1 := z5) (by omega) (by omega) (by omega)) (fun h7 _ Jh7 P6 => ?_)
  have Ih7 := H.1 h7 Jh7
  obtain ⟨z8, rfl, fz8⟩ := P6
  exact hq_W.ret rfl rfl rfl ⟨Jh7, _, rfl, by omega, by omega⟩
theorem ct_212 {X : pm_X} {d : Nat} {h : pm_H} {x1 : Int32} (hd : 3 ≤ d)  : ty_M X ty_Wz d 212 [.ref 97, .int x1] h (ty_pi (-3) 7) := by
  intro J H hJ
  obtain ⟨d, rfl⟩ : ∃ e, d = e + 1 := ⟨d - 1, by omega⟩
  have I := H.1 h hJ
  have ax1 := nm_lo x1
  have bx1 := nm_hi x1
  refine hq_M.enter (q := (⟨"TrainBearersModel", "dropNow", "(I)I"⟩, _, 3, some .int, 11, 2, pm_c212)) rfl rfl ?_
  show hq_W X d 11 false (some .int) pm_c212 (0, [some (.ref 97), some (.int x1), none], [], h) (fun h' v => J h' ∧ (ty_pi (-3) 7) h' v)
  refine hq_p rfl rfl ?_
  refine hq_p rfl rfl ?_
  refine ty_callp 0 I rfl (fun _ => rfl) rfl rfl rfl (hq_pre_o I.1 (x := 97) (ci := 11) rfl (by decide) rfl rfl rfl rfl) (ct_150 (x1 := x1) (by omega)) (fun _ P1 => ?_)
  obtain ⟨z2, rfl, az2, bz2, iz2⟩ := P1
  refine ty_zne rfl (fun c3 => ?_) (fun c3 => ?_)
  · replace c3 : 1 ≤ z2.toInt ∧ z2.toInt ≤ 1 := by omega
    have f4 := iz2 (by omega)
    clear iz2
    refine hq_p rfl rfl ?_
    refine hq_gR I.1 rfl rfl (by decide) (by decide) rfl ?_
    refine hq_p rfl rfl (ty_ge (n := 26) nk_b26 (fun z5 ez5 => ?_))
    refine hq_p rfl rfl ?_
    refine hq_p rfl rfl (ty_ge (n := z5.toInt + x1.toInt) (nm_add (by omega) (by omega)) (fun z6 ez6 => ?_))
    refine ty_aL I rfl rfl (by decide) (by omega) (by omega) (fun i e => ty_le (ty_w26 (by omega) (by omega))) (fun z7 ez7 az7 bz7 => ?_)
    refine hq_p (ls' := [some (.ref 97), some (.int x1), some (.int z7)]) rfl rfl ?_
    refine hq_p rfl rfl ?_
    refine hq_p rfl rfl (ty_ge (n := -1) nk_im1 (fun z8 ez8 => ?_))
    refine ty_ine rfl (fun c9 => ?_) (fun c9 => ?_)
    · replace c9 : 0 ≤ z7.toInt ∧ z7.toInt ≤ 7 := by omega
      refine hq_p rfl rfl ?_
      refine hq_p rfl rfl (ty_ge (n := 1) nk_i1 (fun z10 ez10 => ?_))
      refine ty_callj 0 (W := ty_Wz) H hJ rfl (fun _ => rfl) rfl rfl rfl (hq_pre_o I.1 (x := 97) (ci := 11) rfl (by decide) rfl rfl rfl rfl) (fun a k w => by unfold ty_Wm at w; unfold ty_Wz; omega) (by unfold ty_Wm ty_Wz; omega) (ct_145 (x1 := z10) (by omega) (by omega) (by omega)) (fun h12 _ Jh12 P11 => ?_)
      have Ih12 := H.1 h12 Jh12
      subst P11
      refine hq_p rfl rfl ?_
      refine hq_gR Ih12.1 rfl rfl (by decide) (by decide) rfl ?_
      refine hq_p rfl rfl (ty_ge (n := 26) nk_b26 (fun z13 ez13 => ?_))
      refine hq_p rfl rfl ?_
      refine hq_p rfl rfl (ty_ge (n := z13.toInt + x1.toInt) (nm_add (by omega) (by omega)) (fun z14 ez14 => ?_))
      refine hq_p rfl rfl (ty_ge (n := -1) nk_im1 (fun z15 ez15 => ?_))
      refine ty_aS (W := ty_Wz) H Jh12 rfl rfl (by decide) (by omega) (by omega) (fun i e => by unfold ty_Wz; omega) (fun i e => ty_eg (ty_w26 (by omega) (by omega))) (by omega) (by omega) (fun e1 e2 w => by omega) (fun h16 eh16 Jh16 => ?_)
      have Ih16 := H.1 h16 Jh16
      refine hq_p rfl rfl ?_
      exact hq_W.ret rfl rfl rfl ⟨Jh16, _, rfl, by omega, by omega⟩
    · refine hq_p rfl rfl (ty_ge (n := -3) nk_bm3 (fun z17 ez17 => ?_))
      exact hq_W.ret rfl rfl rfl ⟨hJ, _, rfl, by omega, by omega⟩
  · clear iz2
    refine hq_p rfl rfl (ty_ge (n := -2) nk_bm2 (fun z18 ez18 => ?_))
    exact hq_W.ret rfl rfl rfl ⟨hJ, _, rfl, by omega, by omega⟩
theorem ct_213 {X : pm_X} {d : Nat} {h : pm_H} {x1 : Int32} (hd : 4 ≤ d)  : ty_M X ty_Wz d 213 [.ref 97, .int x1] h (ty_pi (-3) 7) := by
  intro J H hJ
  obtain ⟨d, rfl⟩ : ∃ e, d = e + 1 := ⟨d - 1, by omega⟩
  have I := H.1 h hJ
  have ax1 := nm_lo x1
  have bx1 := nm_hi x1
  refine hq_M.enter (q := (⟨"TrainBearersModel", "drop", "(I)I"⟩, _, 2, some .int, 11, 2, pm_c213)) rfl rfl ?_
  show hq_W X d 11 false (some .int) pm_c213 (0, [some (.ref 97), some (.int x1)], [], h) (fun h' v => J h' ∧ (ty_pi (-3) 7) h' v)
  refine hq_p rfl rfl ?_
  refine hq_p rfl rfl (ty_ge (n := 0) nk_i0 (fun z1 ez1 => ?_))
  refine ty_pI (W := ty_Wz) H hJ rfl rfl (by decide) rfl rfl (by unfold ty_Wz; omega) rfl (by omega) (by omega) (fun h2 eh2 Jh2 => ?_)
  have wh2 : (hs_fI h2 97 0).toInt = z1.toInt := by rw [eh2]; exact congrArg Int32.toInt (ty_fI_eq I.1 rfl (by decide) rfl)
  have Ih2 := H.1 h2 Jh2
  refine hq_p rfl rfl ?_
  refine hq_p rfl rfl ?_
  refine hq_p rfl rfl ?_
  refine ty_callj 0 (W := ty_Wz) H Jh2 rfl (fun _ => rfl) rfl rfl rfl (hq_pre_o Ih2.1 (x := 97) (ci := 11) rfl (by decide) rfl rfl rfl rfl) (fun _ _ w => w) (fun _ w => w) (ct_212 (x1 := x1) (by omega)) (fun h4 _ Jh4 P3 => ?_)
  have Ih4 := H.1 h4 Jh4
  obtain ⟨z5, rfl, az5, bz5⟩ := P3
  refine ty_callj 0 (W := ty_Wz) H Jh4 rfl (fun _ => rfl) rfl rfl rfl (hq_pre_o Ih4.1 (x := 97) (ci := 11) rfl (by decide) rfl rfl rfl rfl) (fun a k w => by unfold ty_Wt at w; unfold ty_Wz; omega) (by unfold ty_Wt ty_Wz; omega) (ct_140 (x1 := z5) (by omega) (by omega) (by omega)) (fun h7 _ Jh7 P6 => ?_)
  have Ih7 := H.1 h7 Jh7
  obtain ⟨z8, rfl, fz8⟩ := P6
  exact hq_W.ret rfl rfl rfl ⟨Jh7, _, rfl, by omega, by omega⟩
theorem ct_217 {X : pm_X} {d : Nat} {h : pm_H} {x1 : Int32} (hd : 9 ≤ d)  : ty_M X ty_Wz d 217 [.ref 97, .int x1] h (ty_pi (-3) 792) := by
  intro J H hJ
  obtain ⟨d, rfl⟩ : ∃ e, d = e + 1 := ⟨d - 1, by omega⟩
  have I := H.1 h hJ
  have ax1 := nm_lo x1
  have bx1 := nm_hi x1
  refine hq_M.enter (q := (⟨"TrainBearersModel", "walkNow", "(I)I"⟩, _, 2, some .int, 11, 2, pm_c217)) rfl rfl ?_
  show hq_W X d 11 false (some .int) pm_c217 (0, [some (.ref 97), some (.int x1)], [], h) (fun h' v => J h' ∧ (ty_pi (-3) 792) h' v)
  refine hq_p rfl rfl ?_
  refine ty_callp 1 I rfl (fun _ => rfl) rfl rfl rfl rfl (ct_151 (x0 := x1) (by omega)) (fun _ P1 => ?_)
  obtain ⟨z2, rfl, az2, bz2, iz2⟩ := P1
  refine ty_zne rfl (fun c3 => ?_) (fun c3 => ?_)
  · replace c3 : 1 ≤ z2.toInt ∧ z2.toInt ≤ 1 := by omega
    have f4 := iz2 (by omega)
    clear iz2
    refine hq_p rfl rfl ?_
    refine hq_p rfl rfl ?_
    refine ty_callp 0 I rfl (fun _ => rfl) rfl rfl rfl (hq_pre_o I.1 (x := 97) (ci := 11) rfl (by decide) rfl rfl rfl rfl) (ct_215 (x1 := x1) (by omega) (by omega) (by omega)) (fun _ P5 => ?_)
    obtain ⟨z6, rfl, az6, bz6⟩ := P5
    refine ty_zne rfl (fun c7 => ?_) (fun c7 => ?_)
    · replace c7 : 1 ≤ z6.toInt ∧ z6.toInt ≤ 1 := by omega
      refine hq_p rfl rfl ?_
      refine hq_p rfl rfl (ty_ge (n := 2) nk_i2 (fun z8 ez8 => ?_))
      refine ty_callj 0 (W := ty_Wz) H hJ rfl (fun _ => rfl) rfl rfl rfl (hq_pre_o I.1 (x := 97) (ci := 11) rfl (by decide) rfl rfl rfl rfl) (fun a k w => by unfold ty_Wm at w; unfold ty_Wz; omega) (by unfold ty_Wm ty_Wz; omega) (ct_145 (x1 := z8) (by omega) (by omega) (by omega)) (fun h10 _ Jh10 P9 => ?_)
      have Ih10 := H.1 h10 Jh10
      subst P9
      refine hq_p rfl rfl ?_
      refine hq_p rfl rfl ?_
      refine ty_callj 0 (W := ty_Wz) H Jh10 rfl (fun _ => rfl) rfl rfl rfl (hq_pre_o Ih10.1 (x := 97) (ci := 11) rfl (by decide) rfl rfl rfl rfl) (fun a k w => by unfold ty_Wk at w; unfold ty_Wz; omega) (by unfold ty_Wk ty_Wz; omega) (ct_216 (x1 := x1) (by omega) (by omega) (by omega)) (fun h12 _ Jh12 P11 => ?_)
      have Ih12 := H.1 h12 Jh12
      obtain ⟨z13, rfl, az13, bz13⟩ := P11
      exact hq_W.ret rfl rfl rfl ⟨Jh12, _, rfl, by omega, by omega⟩
    · refine hq_p rfl rfl (ty_ge (n := -3) nk_bm3 (fun z14 ez14 => ?_))
      exact hq_W.ret rfl rfl rfl ⟨hJ, _, rfl, by omega, by omega⟩
  · clear iz2
    refine hq_p rfl rfl (ty_ge (n := -1) nk_im1 (fun z15 ez15 => ?_))
    exact hq_W.ret rfl rfl rfl ⟨hJ, _, rfl, by omega, by omega⟩
theorem ct_218 {X : pm_X} {d : Nat} {h : pm_H} {x1 : Int32} (hd : 10 ≤ d)  : ty_M X ty_Wz d 218 [.ref 97, .int x1] h (ty_pi (-3) 792) := by
  intro J H hJ
  obtain ⟨d, rfl⟩ : ∃ e, d = e + 1 := ⟨d - 1, by omega⟩
  have I := H.1 h hJ
  have ax1 := nm_lo x1
  have bx1 := nm_hi x1
  refine hq_M.enter (q := (⟨"TrainBearersModel", "walk", "(I)I"⟩, _, 2, some .int, 11, 2, pm_c218)) rfl rfl ?_
  show hq_W X d 11 false (some .int) pm_c218 (0, [some (.ref 97), some (.int x1)], [], h) (fun h' v => J h' ∧ (ty_pi (-3) 792) h' v)
  refine hq_p rfl rfl ?_
  refine hq_p rfl rfl (ty_ge (n := 0) nk_i0 (fun z1 ez1 => ?_))
  refine ty_pI (W := ty_Wz) H hJ rfl rfl (by decide) rfl rfl (by unfold ty_Wz; omega) rfl (by omega) (by omega) (fun h2 eh2 Jh2 => ?_)
  have wh2 : (hs_fI h2 97 0).toInt = z1.toInt := by rw [eh2]; exact congrArg Int32.toInt (ty_fI_eq I.1 rfl (by decide) rfl)
  have Ih2 := H.1 h2 Jh2
  refine hq_p rfl rfl ?_
  refine hq_p rfl rfl ?_
  refine hq_p rfl rfl ?_
  refine ty_callj 0 (W := ty_Wz) H Jh2 rfl (fun _ => rfl) rfl rfl rfl (hq_pre_o Ih2.1 (x := 97) (ci := 11) rfl (by decide) rfl rfl rfl rfl) (fun _ _ w => w) (fun _ w => w) (ct_217 (x1 := x1) (by omega)) (fun h4 _ Jh4 P3 => ?_)
  have Ih4 := H.1 h4 Jh4
  obtain ⟨z5, rfl, az5, bz5⟩ := P3
  refine ty_callj 0 (W := ty_Wz) H Jh4 rfl (fun _ => rfl) rfl rfl rfl (hq_pre_o Ih4.1 (x := 97) (ci := 11) rfl (by decide) rfl rfl rfl rfl) (fun a k w => by unfold ty_Wt at w; unfold ty_Wz; omega) (by unfold ty_Wt ty_Wz; omega) (ct_140 (x1 := z5) (by omega) (by omega) (by omega)) (fun h7 _ Jh7 P6 => ?_)
  have Ih7 := H.1 h7 Jh7
  obtain ⟨z8, rfl, fz8⟩ := P6
  exact hq_W.ret rfl rfl rfl ⟨Jh7, _, rfl, by omega, by omega⟩
theorem ct_220 {X : pm_X} {d : Nat} {h : pm_H}  (hd : 3 ≤ d)  : ty_M X ty_Wz d 220 [.ref 97] h (ty_pi (-3) 1020) := by
  intro J H hJ
  obtain ⟨d, rfl⟩ : ∃ e, d = e + 1 := ⟨d - 1, by omega⟩
  have I := H.1 h hJ
  refine hq_M.enter (q := (⟨"TrainBearersModel", "restNow", "()I"⟩, _, 1, some .int, 11, 1, pm_c220)) rfl rfl ?_
  show hq_W X d 11 false (some .int) pm_c220 (0, [some (.ref 97)], [], h) (fun h' v => J h' ∧ (ty_pi (-3) 1020) h' v)
  refine hq_p rfl rfl ?_
  refine hq_gR I.1 rfl rfl (by decide) (by decide) rfl ?_
  refine hq_p rfl rfl (ty_ge (n := 5) nk_i5 (fun z1 ez1 => ?_))
  refine ty_aL I rfl rfl (by decide) (by omega) (by omega) (fun i e => ty_le (ty_w5 (by omega) (by omega))) (fun z2 ez2 az2 bz2 => ?_)
  rw [show z1.toInt.toNat = 5 by omega] at ez2
  have h9 := H.2.2.2.2.2.1 (by unfold ty_Wz; omega) h hJ
  refine hq_p rfl rfl (ty_ge (n := 999) nk_s999 (fun z3 ez3 => ?_))
  refine ty_ine rfl (fun c4 => ?_) (fun c4 => ?_)
  · replace c4 : 0 ≤ z2.toInt ∧ z2.toInt ≤ 998 := by omega
    refine hq_p rfl rfl ?_
    refine hq_p rfl rfl (ty_ge (n := 3) nk_i3 (fun z5 ez5 => ?_))
    refine ty_calle 0 (c := 99) (j := 5) (W := ty_Wz) H hJ rfl (fun _ => rfl) rfl rfl rfl (hq_pre_o I.1 (x := 97) (ci := 11) rfl (by decide) rfl rfl rfl rfl) (fun a k w => by unfold ty_Wm at w; unfold ty_Wz; omega) (by unfold ty_Wm ty_Wz; omega) (ct_145 (x1 := z5) (by omega) (by omega) (by omega)) (by decide) (by unfold ty_Wm; omega) (fun h7 _ Jh7 gh7 P6 => ?_)
    have Ih7 := H.1 h7 Jh7
    subst P6
    refine hq_p rfl rfl ?_
    refine ty_callj 0 (W := ty_Wz) H Jh7 rfl (fun _ => rfl) rfl rfl rfl (hq_pre_o Ih7.1 (x := 97) (ci := 11) rfl (by decide) rfl rfl rfl rfl) (fun _ _ w => w) (fun _ w => w) (ct_219a (by omega) (by omega) (by omega)) (fun h9 _ Jh9 P8 => ?_)
    have Ih9 := H.1 h9 Jh9
    subst P8
    refine hq_p rfl rfl ?_
    refine hq_gR Ih9.1 rfl rfl (by decide) (by decide) rfl ?_
    refine hq_p rfl rfl (ty_ge (n := 5) nk_i5 (fun z10 ez10 => ?_))
    refine ty_aL Ih9 rfl rfl (by decide) (by omega) (by omega) (fun i e => ty_le (ty_w5 (by omega) (by omega))) (fun z11 ez11 az11 bz11 => ?_)
    rw [show z10.toInt.toNat = 5 by omega] at ez11
    exact hq_W.ret rfl rfl rfl ⟨Jh9, _, rfl, by omega, by omega⟩
  · refine hq_p rfl rfl (ty_ge (n := -3) nk_bm3 (fun z12 ez12 => ?_))
    exact hq_W.ret rfl rfl rfl ⟨hJ, _, rfl, by omega, by omega⟩
theorem ct_221 {X : pm_X} {d : Nat} {h : pm_H}  (hd : 4 ≤ d)  : ty_M X ty_Wz d 221 [.ref 97] h (ty_pi (-3) 1020) := by
  intro J H hJ
  obtain ⟨d, rfl⟩ : ∃ e, d = e + 1 := ⟨d - 1, by omega⟩
  have I := H.1 h hJ
  refine hq_M.enter (q := (⟨"TrainBearersModel", "rest", "()I"⟩, _, 1, some .int, 11, 1, pm_c221)) rfl rfl ?_
  show hq_W X d 11 false (some .int) pm_c221 (0, [some (.ref 97)], [], h) (fun h' v => J h' ∧ (ty_pi (-3) 1020) h' v)
  refine hq_p rfl rfl ?_
  refine hq_p rfl rfl (ty_ge (n := 0) nk_i0 (fun z1 ez1 => ?_))
  refine ty_pI (W := ty_Wz) H hJ rfl rfl (by decide) rfl rfl (by unfold ty_Wz; omega) rfl (by omega) (by omega) (fun h2 eh2 Jh2 => ?_)
  have wh2 : (hs_fI h2 97 0).toInt = z1.toInt := by rw [eh2]; exact congrArg Int32.toInt (ty_fI_eq I.1 rfl (by decide) rfl)
  have Ih2 := H.1 h2 Jh2
  refine hq_p rfl rfl ?_
  refine hq_p rfl rfl ?_
  refine ty_callj 0 (W := ty_Wz) H Jh2 rfl (fun _ => rfl) rfl rfl rfl (hq_pre_o Ih2.1 (x := 97) (ci := 11) rfl (by decide) rfl rfl rfl rfl) (fun _ _ w => w) (fun _ w => w) (ct_220 (by omega)) (fun h4 _ Jh4 P3 => ?_)
  have Ih4 := H.1 h4 Jh4
  obtain ⟨z5, rfl, az5, bz5⟩ := P3
  refine ty_callj 0 (W := ty_Wz) H Jh4 rfl (fun _ => rfl) rfl rfl rfl (hq_pre_o Ih4.1 (x := 97) (ci := 11) rfl (by decide) rfl rfl rfl rfl) (fun a k w => by unfold ty_Wt at w; unfold ty_Wz; omega) (by unfold ty_Wt ty_Wz; omega) (ct_140 (x1 := z5) (by omega) (by omega) (by omega)) (fun h7 _ Jh7 P6 => ?_)
  have Ih7 := H.1 h7 Jh7
  obtain ⟨z8, rfl, fz8⟩ := P6
  exact hq_W.ret rfl rfl rfl ⟨Jh7, _, rfl, by omega, by omega⟩
theorem ct_252 {X : pm_X} {d : Nat} {h : pm_H} {x1 : Int32} (hd : 1 ≤ d) (ax1 : 1 ≤ x1.toInt) (bx1 : x1.toInt ≤ 8) : ty_M X ty_Wx d 252 [.ref 97, .int x1] h (fun _ v => ∃ z : Int32, v = some (.int z) ∧ (0 ≤ z.toInt ∧ z.toInt < x1.toInt)) := by
  intro J H hJ
  obtain ⟨d, rfl⟩ : ∃ e, d = e + 1 := ⟨d - 1, by omega⟩
  have I := H.1 h hJ
  refine hq_M.enter (q := (⟨"TrainBearersModel", "draw", "(I)I"⟩, _, 2, some .int, 11, 2, pm_c252)) rfl rfl ?_
  show hq_W X d 11 false (some .int) pm_c252 (0, [some (.ref 97), some (.int x1)], [], h) (fun h' v => J h' ∧ (fun _ v => ∃ z : Int32, v = some (.int z) ∧ (0 ≤ z.toInt ∧ z.toInt < x1.toInt)) h' v)
  refine hq_p rfl rfl ?_
  refine hq_p rfl rfl ?_
  refine ty_gL I rfl rfl (by decide) (by decide) rfl rfl (fun z1 ez1 az1 bz1 => ?_)
  refine hq_p rfl rfl (ty_gle (n := 1103) (by decide) (fun z2 ez2 => ?_))
  refine hq_p rfl rfl (ty_gle (n := 1103 * z1.toInt) (nm_lmul (by rw [ez2, Int.mul_comm]) (by omega) (by omega)) (fun z3 ez3 => ?_))
  refine hq_p rfl rfl (ty_gle (n := 12345) (by decide) (fun z4 ez4 => ?_))
  refine hq_p rfl rfl (ty_gle (n := z3.toInt + z4.toInt) (nm_ladd (by omega) (by omega)) (fun z5 ez5 => ?_))
  refine hq_p rfl rfl (ty_gle (n := 1000003) (by decide) (fun z6 ez6 => ?_))
  refine hq_lrem rfl (nm_lnz (by omega)) (ty_glb (lo := 0) (hi := z6.toInt - 1) (nm_lremb (by omega) (by omega)) (fun z7 az7 bz7 => ?_))
  refine ty_pL (W := ty_Wx) H hJ rfl rfl (by decide) rfl rfl (by unfold ty_Wx; omega) rfl (by omega) (by omega) (fun h8 eh8 Jh8 => ?_)
  have Ih8 := H.1 h8 Jh8
  refine hq_p rfl rfl ?_
  refine ty_gL Ih8 rfl rfl (by decide) (by decide) rfl rfl (fun z9 ez9 az9 bz9 => ?_)
  refine hq_p rfl rfl ?_
  refine hq_p rfl rfl (ty_gle (n := x1.toInt) (nm_i2l _) (fun z10 ez10 => ?_))
  refine hq_lrem rfl (nm_lnz (by omega)) (ty_glb (lo := 0) (hi := z10.toInt - 1) (nm_lremb (by omega) (by omega)) (fun z11 az11 bz11 => ?_))
  refine hq_p rfl rfl (ty_ge (n := z11.toInt) (nm_l2i (by omega) (by omega)) (fun z12 ez12 => ?_))
  exact hq_W.ret rfl rfl rfl ⟨Jh8, _, rfl, by omega⟩
theorem ct_247 {X : pm_X} {d : Nat} {h : pm_H} {x1 : Int32} {x2 : Int32} {x3 : Int32} (hd : 10 ≤ d)  : ty_M X ty_Wz d 247 [.ref 97, .int x1, .int x2, .int x3] h (ty_pi (-3) 1020) := by
  intro J H hJ
  obtain ⟨d, rfl⟩ : ∃ e, d = e + 1 := ⟨d - 1, by omega⟩
  have I := H.1 h hJ
  have ax1 := nm_lo x1
  have bx1 := nm_hi x1
  have ax2 := nm_lo x2
  have bx2 := nm_hi x2
  have ax3 := nm_lo x3
  have bx3 := nm_hi x3
  refine hq_M.enter (q := (⟨"TrainBearersModel", "act", "(III)I"⟩, _, 4, some .int, 11, 4, pm_c247)) rfl rfl ?_
  show hq_W X d 11 false (some .int) pm_c247 (0, [some (.ref 97), some (.int x1), some (.int x2), some (.int x3)], [], h) (fun h' v => J h' ∧ (ty_pi (-3) 1020) h' v)
  refine hq_p rfl rfl ?_
  rcases (show x1.toInt = 0 ∨ x1.toInt = 1 ∨ x1.toInt = 2 ∨ (x1.toInt < 0 ∨ 2 < x1.toInt) by omega) with c1 | c1 | c1 | c1
  · refine ty_ts (n := 0) rfl c1 rfl rfl (by decide) ?_
    refine hq_p rfl rfl ?_
    refine hq_p rfl rfl ?_
    refine hq_p rfl rfl ?_
    refine ty_callj 0 (W := ty_Wz) H hJ rfl (fun _ => rfl) rfl rfl rfl (hq_pre_o I.1 (x := 97) (ci := 11) rfl (by decide) rfl rfl rfl rfl) (fun _ _ w => w) (fun _ w => w) (ct_210 (x1 := x2) (x2 := x3) (by omega)) (fun h3 _ Jh3 P2 => ?_)
    have Ih3 := H.1 h3 Jh3
    obtain ⟨z4, rfl, az4, bz4⟩ := P2
    exact hq_W.ret rfl rfl rfl ⟨Jh3, _, rfl, by omega, by omega⟩
  · refine ty_ts (n := 1) rfl c1 rfl rfl (by decide) ?_
    refine hq_p rfl rfl ?_
    refine hq_p rfl rfl ?_
    refine ty_callj 0 (W := ty_Wz) H hJ rfl (fun _ => rfl) rfl rfl rfl (hq_pre_o I.1 (x := 97) (ci := 11) rfl (by decide) rfl rfl rfl rfl) (fun _ _ w => w) (fun _ w => w) (ct_212 (x1 := x2) (by omega)) (fun h6 _ Jh6 P5 => ?_)
    have Ih6 := H.1 h6 Jh6
    obtain ⟨z7, rfl, az7, bz7⟩ := P5
    exact hq_W.ret rfl rfl rfl ⟨Jh6, _, rfl, by omega, by omega⟩
  · refine ty_ts (n := 2) rfl c1 rfl rfl (by decide) ?_
    refine hq_p rfl rfl ?_
    refine hq_p rfl rfl ?_
    refine ty_callj 0 (W := ty_Wz) H hJ rfl (fun _ => rfl) rfl rfl rfl (hq_pre_o I.1 (x := 97) (ci := 11) rfl (by decide) rfl rfl rfl rfl) (fun _ _ w => w) (fun _ w => w) (ct_217 (x1 := x2) (by omega)) (fun h9 _ Jh9 P8 => ?_)
    have Ih9 := H.1 h9 Jh9
    obtain ⟨z10, rfl, az10, bz10⟩ := P8
    exact hq_W.ret rfl rfl rfl ⟨Jh9, _, rfl, by omega, by omega⟩
  · refine ty_td rfl c1 (by decide) ?_
    refine hq_p rfl rfl ?_
    refine ty_callj 0 (W := ty_Wz) H hJ rfl (fun _ => rfl) rfl rfl rfl (hq_pre_o I.1 (x := 97) (ci := 11) rfl (by decide) rfl rfl rfl rfl) (fun _ _ w => w) (fun _ w => w) (ct_220 (by omega)) (fun h12 _ Jh12 P11 => ?_)
    have Ih12 := H.1 h12 Jh12
    obtain ⟨z13, rfl, az13, bz13⟩ := P11
    exact hq_W.ret rfl rfl rfl ⟨Jh12, _, rfl, by omega, by omega⟩
end CT15
