/-! CONTRACTS (printed by wip/pm/cts.py) -/
section CT44
theorem ct_88a {X : pm_X} {d : Nat} {h : pm_H} {x1 : Int32} {x2 : Int32} {x3 : Int32} (hd : 3 ≤ d)  (hn : hs_fR h 0 0 = 1) (hp : hs_fR h 0 1 = 12) : ty_M X (ty_Wcl 7) d 88 [.ref 0, .int x1, .int x2, .int x3] h (fun h1 v => (∃ z : Int32, v = some (.int z) ∧ z.toInt = (if 0 ≤ x1.toInt ∧ x1.toInt ≤ 5 ∧ 0 ≤ x2.toInt ∧ x2.toInt ≤ 5 ∧ x1.toInt ≠ x2.toInt ∧ -1 ≤ x3.toInt ∧ x3.toInt ≤ 9 then (hs_aI h 7 (6 * x1.toInt + x2.toInt).toNat).toInt else -1)) ∧ hs_aI h1 7 = (if 0 ≤ x1.toInt ∧ x1.toInt ≤ 5 ∧ 0 ≤ x2.toInt ∧ x2.toInt ≤ 5 ∧ x1.toInt ≠ x2.toInt ∧ -1 ≤ x3.toInt ∧ x3.toInt ≤ 9 then ly (hs_aI h 7) x1.toInt x2.toInt x3 else hs_aI h 7)) := by
  intro J0 H0 hJ0
  obtain ⟨J, eJ⟩ : ∃ J : pm_H → Prop, J = fun h' => J0 h' ∧ hs_fR h' 0 0 = 1 ∧ hs_fR h' 0 1 = 12 := ⟨_, rfl⟩
  have H : ty_C (ty_Wcl 7) J := by rw [eJ]; exact H0.refs 1 12
  have hJ : J h := by rw [eJ]; exact ⟨hJ0, hn, hp⟩
  refine hq_M.mono (Nat.le_refl _) (Q := fun h' v => J h' ∧ (fun h1 v => (∃ z : Int32, v = some (.int z) ∧ z.toInt = (if 0 ≤ x1.toInt ∧ x1.toInt ≤ 5 ∧ 0 ≤ x2.toInt ∧ x2.toInt ≤ 5 ∧ x1.toInt ≠ x2.toInt ∧ -1 ≤ x3.toInt ∧ x3.toInt ≤ 9 then (hs_aI h 7 (6 * x1.toInt + x2.toInt).toNat).toInt else -1)) ∧ hs_aI h1 7 = (if 0 ≤ x1.toInt ∧ x1.toInt ≤ 5 ∧ 0 ≤ x2.toInt ∧ x2.toInt ≤ 5 ∧ x1.toInt ≠ x2.toInt ∧ -1 ≤ x3.toInt ∧ x3.toInt ≤ 9 then ly (hs_aI h 7) x1.toInt x2.toInt x3 else hs_aI h 7)) h' v) (fun h' v q => ⟨by have q1 := q.1; rw [eJ] at q1; exact q1.1, q.2⟩) ?_
  have p1 : ty_tr 1 := by simp [ty_tr]
  have l1 := ty_trl p1
  have p12 : ty_tr 12 := by simp [ty_tr]
  have l12 := ty_trl p12
  obtain ⟨d, rfl⟩ : ∃ e, d = e + 1 := ⟨d - 1, by omega⟩
  have I := H.1 h hJ
  have ax1 := nm_lo x1
  have bx1 := nm_hi x1
  have ax2 := nm_lo x2
  have bx2 := nm_hi x2
  have ax3 := nm_lo x3
  have bx3 := nm_hi x3
  refine hq_M.enter (q := (⟨"TrainBearers", "lane", "(III)I"⟩, _, 5, some .int, 10, 4, pm_c88)) rfl rfl ?_
  show hq_W X d 10 false (some .int) pm_c88 (0, [some (.ref 0), some (.int x1), some (.int x2), some (.int x3), none], [], h) (fun h' v => J h' ∧ (fun h1 v => (∃ z : Int32, v = some (.int z) ∧ z.toInt = (if 0 ≤ x1.toInt ∧ x1.toInt ≤ 5 ∧ 0 ≤ x2.toInt ∧ x2.toInt ≤ 5 ∧ x1.toInt ≠ x2.toInt ∧ -1 ≤ x3.toInt ∧ x3.toInt ≤ 9 then (hs_aI h 7 (6 * x1.toInt + x2.toInt).toNat).toInt else -1)) ∧ hs_aI h1 7 = (if 0 ≤ x1.toInt ∧ x1.toInt ≤ 5 ∧ 0 ≤ x2.toInt ∧ x2.toInt ≤ 5 ∧ x1.toInt ≠ x2.toInt ∧ -1 ≤ x3.toInt ∧ x3.toInt ≤ 9 then ly (hs_aI h 7) x1.toInt x2.toInt x3 else hs_aI h 7)) h' v)
  refine hq_p rfl rfl ?_
  refine hq_p rfl rfl ?_
  refine hq_p rfl rfl ?_
  refine ty_callp 1 I rfl (fun _ => rfl) rfl rfl rfl rfl (ct_129e (x0 := x1) (x1 := x2) (x2 := x3) (by omega)) (fun _ P1 => ?_)
  obtain ⟨z2, rfl, az2, bz2, iz2, jz2⟩ := P1
  refine ty_zne rfl (fun c3 => ?_) (fun c3 => ?_)
  · replace c3 : 1 ≤ z2.toInt ∧ z2.toInt ≤ 1 := by omega
    have yz2 := iz2 (by omega)
    clear iz2 jz2
    refine hq_p rfl rfl ?_
    refine ty_gT (t := 1) I rfl rfl (by decide) (by decide) rfl (by have q := hJ; rw [eJ] at q; exact q.2.1) (fun _ => ?_)
    refine hq_p rfl rfl ?_
    refine hq_p rfl rfl ?_
    refine ty_callp 0 I rfl (fun _ => rfl) rfl rfl rfl (hq_pre_o I.1 (x := 1) (ci := 8) rfl (by decide) rfl rfl rfl rfl) (ct_75l1 (x1 := x1) (x2 := x2) (by omega)) (fun _ P4 => ?_)
    obtain ⟨z5, rfl, fz5⟩ := P4
    rw [if_pos (by omega)] at fz5
    have az5 := nm_lo z5
    have bz5 := nm_hi z5
    refine hq_p (ls' := [some (.ref 0), some (.int x1), some (.int x2), some (.int x3), some (.int z5)]) rfl rfl ?_
    refine hq_p rfl rfl ?_
    refine ty_gT (t := 1) I rfl rfl (by decide) (by decide) rfl (by have q := hJ; rw [eJ] at q; exact q.2.1) (fun _ => ?_)
    refine hq_p rfl rfl ?_
    refine hq_p rfl rfl ?_
    refine hq_p rfl rfl ?_
    refine ty_callj 0 (W := (ty_Wcl 7)) H hJ rfl (fun _ => rfl) rfl rfl rfl (hq_pre_o I.1 (x := 1) (ci := 8) rfl (by decide) rfl rfl rfl rfl) (fun a k w => by unfold ty_Wly at w; unfold ty_Wcl; omega) (by unfold ty_Wly ty_Wcl; omega) (ct_76l1 (x1 := x1) (x2 := x2) (x3 := x3) (by omega)) (fun h7 _ Jh7 P6 => ?_)
    have Ih7 := H.1 h7 Jh7
    obtain ⟨rfl, r8⟩ := P6
    rw [if_pos (by omega)] at r8
    refine hq_p rfl rfl ?_
    refine hq_p rfl rfl ?_
    refine ty_callm 0 [(3, 7, 0)] (W := (ty_Wcl 7)) H Jh7 rfl (fun _ => rfl) rfl rfl rfl (hq_pre_o Ih7.1 (x := 0) (ci := 10) rfl (by decide) rfl rfl rfl rfl) (fun a k w => by unfold ty_Wc at w; unfold ty_Wcl; omega) (by unfold ty_Wc ty_Wcl; omega) (ct_126 (x1 := z5) (by omega)) ⟨⟨rfl, fun k => show ¬ ty_Wc 7 k by unfold ty_Wc; omega⟩, trivial⟩ (fun h10 _ Jh10 gh10 P9 => ?_)
    obtain ⟨gh10_0, _⟩ := gh10
    have gh10_0 : hs_aI h10 7 = hs_aI h7 7 := gh10_0
    have ugh10_0 : hs_aI h10 7 = (ly (hs_aI h 7) x1.toInt x2.toInt x3) := gh10_0.trans r8
    have Ih10 := H.1 h10 Jh10
    obtain ⟨z11, rfl, fz11⟩ := P9
    exact hq_W.ret rfl rfl rfl ⟨Jh10, ⟨_, rfl, (by rw [if_pos (by omega)]; omega)⟩, (by rw [if_pos (by omega), ugh10_0])⟩
  · have yz2 := jz2 (by omega)
    clear iz2 jz2
    refine hq_p rfl rfl ?_
    refine hq_p rfl rfl (ty_ge (n := -1) nk_im1 (fun z12 ez12 => ?_))
    refine ty_callm 0 [(3, 7, 0)] (W := (ty_Wcl 7)) H hJ rfl (fun _ => rfl) rfl rfl rfl (hq_pre_o I.1 (x := 0) (ci := 10) rfl (by decide) rfl rfl rfl rfl) (fun a k w => by unfold ty_Wc at w; unfold ty_Wcl; omega) (by unfold ty_Wc ty_Wcl; omega) (ct_125 (x1 := z12) (by omega)) ⟨⟨rfl, fun k => show ¬ ty_Wc 7 k by unfold ty_Wc; omega⟩, trivial⟩ (fun h14 _ Jh14 gh14 P13 => ?_)
    obtain ⟨gh14_0, _⟩ := gh14
    have gh14_0 : hs_aI h14 7 = hs_aI h 7 := gh14_0
    have ugh14_0 : hs_aI h14 7 = (hs_aI h 7) := gh14_0.trans rfl
    have Ih14 := H.1 h14 Jh14
    obtain ⟨z15, rfl, fz15⟩ := P13
    exact hq_W.ret rfl rfl rfl ⟨Jh14, ⟨_, rfl, (by rw [if_neg (by omega)]; omega)⟩, (by rw [if_neg (by omega), ugh14_0])⟩
theorem ct_89a {X : pm_X} {d : Nat} {h : pm_H} {x1 : Int32} {x2 : Int32} (hd : 3 ≤ d)  (hn : hs_fR h 0 0 = 1) (hp : hs_fR h 0 1 = 12) : ty_M X ty_Wc d 89 [.ref 0, .int x1, .int x2] h (fun _ v => ∃ z : Int32, v = some (.int z) ∧ z.toInt = (if 0 ≤ x1.toInt ∧ x1.toInt ≤ 5 ∧ 0 ≤ x2.toInt ∧ x2.toInt ≤ 5 then (hs_aI h 7 (6 * x1.toInt + x2.toInt).toNat).toInt else -1)) := by
  intro J0 H0 hJ0
  obtain ⟨J, eJ⟩ : ∃ J : pm_H → Prop, J = fun h' => J0 h' ∧ hs_fR h' 0 0 = 1 ∧ hs_fR h' 0 1 = 12 := ⟨_, rfl⟩
  have H : ty_C ty_Wc J := by rw [eJ]; exact H0.refs 1 12
  have hJ : J h := by rw [eJ]; exact ⟨hJ0, hn, hp⟩
  refine hq_M.mono (Nat.le_refl _) (Q := fun h' v => J h' ∧ (fun _ v => ∃ z : Int32, v = some (.int z) ∧ z.toInt = (if 0 ≤ x1.toInt ∧ x1.toInt ≤ 5 ∧ 0 ≤ x2.toInt ∧ x2.toInt ≤ 5 then (hs_aI h 7 (6 * x1.toInt + x2.toInt).toNat).toInt else -1)) h' v) (fun h' v q => ⟨by have q1 := q.1; rw [eJ] at q1; exact q1.1, q.2⟩) ?_
  have p1 : ty_tr 1 := by simp [ty_tr]
  have l1 := ty_trl p1
  have p12 : ty_tr 12 := by simp [ty_tr]
  have l12 := ty_trl p12
  obtain ⟨d, rfl⟩ : ∃ e, d = e + 1 := ⟨d - 1, by omega⟩
  have I := H.1 h hJ
  have ax1 := nm_lo x1
  have bx1 := nm_hi x1
  have ax2 := nm_lo x2
  have bx2 := nm_hi x2
  refine hq_M.enter (q := (⟨"TrainBearers", "stiles", "(II)I"⟩, _, 3, some .int, 10, 3, pm_c89)) rfl rfl ?_
  show hq_W X d 10 false (some .int) pm_c89 (0, [some (.ref 0), some (.int x1), some (.int x2)], [], h) (fun h' v => J h' ∧ (fun _ v => ∃ z : Int32, v = some (.int z) ∧ z.toInt = (if 0 ≤ x1.toInt ∧ x1.toInt ≤ 5 ∧ 0 ≤ x2.toInt ∧ x2.toInt ≤ 5 then (hs_aI h 7 (6 * x1.toInt + x2.toInt).toNat).toInt else -1)) h' v)
  refine hq_p rfl rfl ?_
  refine ty_gT (t := 1) I rfl rfl (by decide) (by decide) rfl (by have q := hJ; rw [eJ] at q; exact q.2.1) (fun _ => ?_)
  refine hq_p rfl rfl ?_
  refine hq_p rfl rfl ?_
  refine ty_callp 0 I rfl (fun _ => rfl) rfl rfl rfl (hq_pre_o I.1 (x := 1) (ci := 8) rfl (by decide) rfl rfl rfl rfl) (ct_75l1 (x1 := x1) (x2 := x2) (by omega)) (fun _ P1 => ?_)
  obtain ⟨z2, rfl, fz2⟩ := P1
  have az2 := nm_lo z2
  have bz2 := nm_hi z2
  exact hq_W.ret rfl rfl rfl ⟨hJ, _, rfl, fz2⟩
theorem ct_88b {X : pm_X} {d : Nat} {h : pm_H} {x1 : Int32} {x2 : Int32} {x3 : Int32} (hd : 3 ≤ d)  (hn : hs_fR h 0 0 = 12) (hp : hs_fR h 0 1 = 1) : ty_M X (ty_Wcl 18) d 88 [.ref 0, .int x1, .int x2, .int x3] h (fun h1 v => (∃ z : Int32, v = some (.int z) ∧ z.toInt = (if 0 ≤ x1.toInt ∧ x1.toInt ≤ 5 ∧ 0 ≤ x2.toInt ∧ x2.toInt ≤ 5 ∧ x1.toInt ≠ x2.toInt ∧ -1 ≤ x3.toInt ∧ x3.toInt ≤ 9 then (hs_aI h 18 (6 * x1.toInt + x2.toInt).toNat).toInt else -1)) ∧ hs_aI h1 18 = (if 0 ≤ x1.toInt ∧ x1.toInt ≤ 5 ∧ 0 ≤ x2.toInt ∧ x2.toInt ≤ 5 ∧ x1.toInt ≠ x2.toInt ∧ -1 ≤ x3.toInt ∧ x3.toInt ≤ 9 then ly (hs_aI h 18) x1.toInt x2.toInt x3 else hs_aI h 18)) := by
  intro J0 H0 hJ0
  obtain ⟨J, eJ⟩ : ∃ J : pm_H → Prop, J = fun h' => J0 h' ∧ hs_fR h' 0 0 = 12 ∧ hs_fR h' 0 1 = 1 := ⟨_, rfl⟩
  have H : ty_C (ty_Wcl 18) J := by rw [eJ]; exact H0.refs 12 1
  have hJ : J h := by rw [eJ]; exact ⟨hJ0, hn, hp⟩
  refine hq_M.mono (Nat.le_refl _) (Q := fun h' v => J h' ∧ (fun h1 v => (∃ z : Int32, v = some (.int z) ∧ z.toInt = (if 0 ≤ x1.toInt ∧ x1.toInt ≤ 5 ∧ 0 ≤ x2.toInt ∧ x2.toInt ≤ 5 ∧ x1.toInt ≠ x2.toInt ∧ -1 ≤ x3.toInt ∧ x3.toInt ≤ 9 then (hs_aI h 18 (6 * x1.toInt + x2.toInt).toNat).toInt else -1)) ∧ hs_aI h1 18 = (if 0 ≤ x1.toInt ∧ x1.toInt ≤ 5 ∧ 0 ≤ x2.toInt ∧ x2.toInt ≤ 5 ∧ x1.toInt ≠ x2.toInt ∧ -1 ≤ x3.toInt ∧ x3.toInt ≤ 9 then ly (hs_aI h 18) x1.toInt x2.toInt x3 else hs_aI h 18)) h' v) (fun h' v q => ⟨by have q1 := q.1; rw [eJ] at q1; exact q1.1, q.2⟩) ?_
  have p1 : ty_tr 1 := by simp [ty_tr]
  have l1 := ty_trl p1
  have p12 : ty_tr 12 := by simp [ty_tr]
  have l12 := ty_trl p12
  obtain ⟨d, rfl⟩ : ∃ e, d = e + 1 := ⟨d - 1, by omega⟩
  have I := H.1 h hJ
  have ax1 := nm_lo x1
  have bx1 := nm_hi x1
  have ax2 := nm_lo x2
  have bx2 := nm_hi x2
  have ax3 := nm_lo x3
  have bx3 := nm_hi x3
  refine hq_M.enter (q := (⟨"TrainBearers", "lane", "(III)I"⟩, _, 5, some .int, 10, 4, pm_c88)) rfl rfl ?_
  show hq_W X d 10 false (some .int) pm_c88 (0, [some (.ref 0), some (.int x1), some (.int x2), some (.int x3), none], [], h) (fun h' v => J h' ∧ (fun h1 v => (∃ z : Int32, v = some (.int z) ∧ z.toInt = (if 0 ≤ x1.toInt ∧ x1.toInt ≤ 5 ∧ 0 ≤ x2.toInt ∧ x2.toInt ≤ 5 ∧ x1.toInt ≠ x2.toInt ∧ -1 ≤ x3.toInt ∧ x3.toInt ≤ 9 then (hs_aI h 18 (6 * x1.toInt + x2.toInt).toNat).toInt else -1)) ∧ hs_aI h1 18 = (if 0 ≤ x1.toInt ∧ x1.toInt ≤ 5 ∧ 0 ≤ x2.toInt ∧ x2.toInt ≤ 5 ∧ x1.toInt ≠ x2.toInt ∧ -1 ≤ x3.toInt ∧ x3.toInt ≤ 9 then ly (hs_aI h 18) x1.toInt x2.toInt x3 else hs_aI h 18)) h' v)
  refine hq_p rfl rfl ?_
  refine hq_p rfl rfl ?_
  refine hq_p rfl rfl ?_
  refine ty_callp 1 I rfl (fun _ => rfl) rfl rfl rfl rfl (ct_129e (x0 := x1) (x1 := x2) (x2 := x3) (by omega)) (fun _ P1 => ?_)
  obtain ⟨z2, rfl, az2, bz2, iz2, jz2⟩ := P1
  refine ty_zne rfl (fun c3 => ?_) (fun c3 => ?_)
  · replace c3 : 1 ≤ z2.toInt ∧ z2.toInt ≤ 1 := by omega
    have yz2 := iz2 (by omega)
    clear iz2 jz2
    refine hq_p rfl rfl ?_
    refine ty_gT (t := 12) I rfl rfl (by decide) (by decide) rfl (by have q := hJ; rw [eJ] at q; exact q.2.1) (fun _ => ?_)
    refine hq_p rfl rfl ?_
    refine hq_p rfl rfl ?_
    refine ty_callp 0 I rfl (fun _ => rfl) rfl rfl rfl (hq_pre_o I.1 (x := 12) (ci := 8) rfl (by decide) rfl rfl rfl rfl) (ct_75l12 (x1 := x1) (x2 := x2) (by omega)) (fun _ P4 => ?_)
    obtain ⟨z5, rfl, fz5⟩ := P4
    rw [if_pos (by omega)] at fz5
    have az5 := nm_lo z5
    have bz5 := nm_hi z5
    refine hq_p (ls' := [some (.ref 0), some (.int x1), some (.int x2), some (.int x3), some (.int z5)]) rfl rfl ?_
    refine hq_p rfl rfl ?_
    refine ty_gT (t := 12) I rfl rfl (by decide) (by decide) rfl (by have q := hJ; rw [eJ] at q; exact q.2.1) (fun _ => ?_)
    refine hq_p rfl rfl ?_
    refine hq_p rfl rfl ?_
    refine hq_p rfl rfl ?_
    refine ty_callj 0 (W := (ty_Wcl 18)) H hJ rfl (fun _ => rfl) rfl rfl rfl (hq_pre_o I.1 (x := 12) (ci := 8) rfl (by decide) rfl rfl rfl rfl) (fun a k w => by unfold ty_Wly at w; unfold ty_Wcl; omega) (by unfold ty_Wly ty_Wcl; omega) (ct_76l12 (x1 := x1) (x2 := x2) (x3 := x3) (by omega)) (fun h7 _ Jh7 P6 => ?_)
    have Ih7 := H.1 h7 Jh7
    obtain ⟨rfl, r8⟩ := P6
    rw [if_pos (by omega)] at r8
    refine hq_p rfl rfl ?_
    refine hq_p rfl rfl ?_
    refine ty_callm 0 [(3, 18, 0)] (W := (ty_Wcl 18)) H Jh7 rfl (fun _ => rfl) rfl rfl rfl (hq_pre_o Ih7.1 (x := 0) (ci := 10) rfl (by decide) rfl rfl rfl rfl) (fun a k w => by unfold ty_Wc at w; unfold ty_Wcl; omega) (by unfold ty_Wc ty_Wcl; omega) (ct_126 (x1 := z5) (by omega)) ⟨⟨rfl, fun k => show ¬ ty_Wc 18 k by unfold ty_Wc; omega⟩, trivial⟩ (fun h10 _ Jh10 gh10 P9 => ?_)
    obtain ⟨gh10_0, _⟩ := gh10
    have gh10_0 : hs_aI h10 18 = hs_aI h7 18 := gh10_0
    have ugh10_0 : hs_aI h10 18 = (ly (hs_aI h 18) x1.toInt x2.toInt x3) := gh10_0.trans r8
    have Ih10 := H.1 h10 Jh10
    obtain ⟨z11, rfl, fz11⟩ := P9
    exact hq_W.ret rfl rfl rfl ⟨Jh10, ⟨_, rfl, (by rw [if_pos (by omega)]; omega)⟩, (by rw [if_pos (by omega), ugh10_0])⟩
  · have yz2 := jz2 (by omega)
    clear iz2 jz2
    refine hq_p rfl rfl ?_
    refine hq_p rfl rfl (ty_ge (n := -1) nk_im1 (fun z12 ez12 => ?_))
    refine ty_callm 0 [(3, 18, 0)] (W := (ty_Wcl 18)) H hJ rfl (fun _ => rfl) rfl rfl rfl (hq_pre_o I.1 (x := 0) (ci := 10) rfl (by decide) rfl rfl rfl rfl) (fun a k w => by unfold ty_Wc at w; unfold ty_Wcl; omega) (by unfold ty_Wc ty_Wcl; omega) (ct_125 (x1 := z12) (by omega)) ⟨⟨rfl, fun k => show ¬ ty_Wc 18 k by unfold ty_Wc; omega⟩, trivial⟩ (fun h14 _ Jh14 gh14 P13 => ?_)
    obtain ⟨gh14_0, _⟩ := gh14
    have gh14_0 : hs_aI h14 18 = hs_aI h 18 := gh14_0
    have ugh14_0 : hs_aI h14 18 = (hs_aI h 18) := gh14_0.trans rfl
    have Ih14 := H.1 h14 Jh14
    obtain ⟨z15, rfl, fz15⟩ := P13
    exact hq_W.ret rfl rfl rfl ⟨Jh14, ⟨_, rfl, (by rw [if_neg (by omega)]; omega)⟩, (by rw [if_neg (by omega), ugh14_0])⟩
theorem ct_89b {X : pm_X} {d : Nat} {h : pm_H} {x1 : Int32} {x2 : Int32} (hd : 3 ≤ d)  (hn : hs_fR h 0 0 = 12) (hp : hs_fR h 0 1 = 1) : ty_M X ty_Wc d 89 [.ref 0, .int x1, .int x2] h (fun _ v => ∃ z : Int32, v = some (.int z) ∧ z.toInt = (if 0 ≤ x1.toInt ∧ x1.toInt ≤ 5 ∧ 0 ≤ x2.toInt ∧ x2.toInt ≤ 5 then (hs_aI h 18 (6 * x1.toInt + x2.toInt).toNat).toInt else -1)) := by
  intro J0 H0 hJ0
  obtain ⟨J, eJ⟩ : ∃ J : pm_H → Prop, J = fun h' => J0 h' ∧ hs_fR h' 0 0 = 12 ∧ hs_fR h' 0 1 = 1 := ⟨_, rfl⟩
  have H : ty_C ty_Wc J := by rw [eJ]; exact H0.refs 12 1
  have hJ : J h := by rw [eJ]; exact ⟨hJ0, hn, hp⟩
  refine hq_M.mono (Nat.le_refl _) (Q := fun h' v => J h' ∧ (fun _ v => ∃ z : Int32, v = some (.int z) ∧ z.toInt = (if 0 ≤ x1.toInt ∧ x1.toInt ≤ 5 ∧ 0 ≤ x2.toInt ∧ x2.toInt ≤ 5 then (hs_aI h 18 (6 * x1.toInt + x2.toInt).toNat).toInt else -1)) h' v) (fun h' v q => ⟨by have q1 := q.1; rw [eJ] at q1; exact q1.1, q.2⟩) ?_
  have p1 : ty_tr 1 := by simp [ty_tr]
  have l1 := ty_trl p1
  have p12 : ty_tr 12 := by simp [ty_tr]
  have l12 := ty_trl p12
  obtain ⟨d, rfl⟩ : ∃ e, d = e + 1 := ⟨d - 1, by omega⟩
  have I := H.1 h hJ
  have ax1 := nm_lo x1
  have bx1 := nm_hi x1
  have ax2 := nm_lo x2
  have bx2 := nm_hi x2
  refine hq_M.enter (q := (⟨"TrainBearers", "stiles", "(II)I"⟩, _, 3, some .int, 10, 3, pm_c89)) rfl rfl ?_
  show hq_W X d 10 false (some .int) pm_c89 (0, [some (.ref 0), some (.int x1), some (.int x2)], [], h) (fun h' v => J h' ∧ (fun _ v => ∃ z : Int32, v = some (.int z) ∧ z.toInt = (if 0 ≤ x1.toInt ∧ x1.toInt ≤ 5 ∧ 0 ≤ x2.toInt ∧ x2.toInt ≤ 5 then (hs_aI h 18 (6 * x1.toInt + x2.toInt).toNat).toInt else -1)) h' v)
  refine hq_p rfl rfl ?_
  refine ty_gT (t := 12) I rfl rfl (by decide) (by decide) rfl (by have q := hJ; rw [eJ] at q; exact q.2.1) (fun _ => ?_)
  refine hq_p rfl rfl ?_
  refine hq_p rfl rfl ?_
  refine ty_callp 0 I rfl (fun _ => rfl) rfl rfl rfl (hq_pre_o I.1 (x := 12) (ci := 8) rfl (by decide) rfl rfl rfl rfl) (ct_75l12 (x1 := x1) (x2 := x2) (by omega)) (fun _ P1 => ?_)
  obtain ⟨z2, rfl, fz2⟩ := P1
  have az2 := nm_lo z2
  have bz2 := nm_hi z2
  exact hq_W.ret rfl rfl rfl ⟨hJ, _, rfl, fz2⟩
end CT44
