/-! CONTRACTS (printed by wip/pm/cts.py) -/
section CT27
theorem ct_219b {X : pm_X} {d : Nat} {h : pm_H}  (hd : 1 ≤ d) (gq50 : 0 ≤ (hs_aI h 99 5).toInt) (gq51 : (hs_aI h 99 5).toInt ≤ 1019) : ty_M X ty_Wh d 219 [.ref 97] h (fun h1 v => v = none ∧ (hs_aI h1 99 5).toInt = (hs_aI h 99 5).toInt + 1) := by
  intro J H hJ
  obtain ⟨d, rfl⟩ : ∃ e, d = e + 1 := ⟨d - 1, by omega⟩
  have I := H.1 h hJ
  obtain ⟨q5, eq5⟩ : ∃ q : Int32, q.toInt = (hs_aI h 99 5).toInt := ⟨_, rfl⟩
  refine hq_M.enter (q := (⟨"TrainBearersModel", "restIt", "()V"⟩, _, 2, none, 11, 1, pm_c219)) rfl rfl ?_
  show hq_W X d 11 false (none) pm_c219 (0, [some (.ref 97), none], [], h) (fun h' v => J h' ∧ (fun h1 v => v = none ∧ (hs_aI h1 99 5).toInt = (hs_aI h 99 5).toInt + 1) h' v)
  refine hq_p rfl rfl (ty_ge (n := 0) nk_i0 (fun z1 ez1 => ?_))
  refine hq_p (ls' := [some (.ref 97), some (.int z1)]) rfl rfl ?_
  have L2_n24 : ∀ n24 : Nat, ∀ (y20 : Int32) (h21 : pm_H), (8 - y20.toInt).toNat = n24 → 0 ≤ y20.toInt → y20.toInt ≤ 8 → (hs_aI h21 99 5).toInt = (hs_aI h 99 5).toInt → J h21 → hq_W X d 11 false (none) pm_c219 (2, [some (.ref 97), some (.int y20)], [], h21) (fun h' v => J h' ∧ (fun h1 v => v = none ∧ (hs_aI h1 99 5).toInt = (hs_aI h 99 5).toInt + 1) h' v) := by
    intro n24
    induction n24 using Nat.strongRecOn with
    | ind n24 ihn24 =>
      intro y20 h21 mn24 ay20 by20 x0n24 Jh21
      have Ih21 := H.1 h21 Jh21
      refine hq_p rfl rfl ?_
      refine hq_p rfl rfl ?_
      refine hq_gR Ih21.1 rfl rfl (by decide) (by decide) rfl ?_
      refine hq_p rfl rfl (ty_ge (n := 1) nk_i1 (fun z25 ez25 => ?_))
      refine ty_aL Ih21 rfl rfl (by decide) (by omega) (by omega) (fun i e => ty_le (ty_w0 (by omega) (by omega))) (fun z26 ez26 az26 bz26 => ?_)
      rw [show z25.toInt.toNat = 1 by omega] at ez26
      refine ty_ige rfl (fun c27 => ?_) (fun c27 => ?_)
      · refine hq_p rfl rfl ?_
        refine hq_gR Ih21.1 rfl rfl (by decide) (by decide) rfl ?_
        refine hq_p rfl rfl (ty_ge (n := 5) nk_i5 (fun z28 ez28 => ?_))
        refine hq_p rfl rfl ?_
        refine ty_aL Ih21 rfl rfl (by decide) (by omega) (by omega) (fun i e => ty_le (ty_w5 (by omega) (by omega))) (fun z29 ez29 az29 bz29 => ?_)
        rw [show z28.toInt.toNat = 5 by omega] at ez29
        refine hq_p rfl rfl (ty_ge (n := 1) nk_i1 (fun z30 ez30 => ?_))
        refine hq_p rfl rfl (ty_ge (n := z29.toInt + z30.toInt) (nm_add (by omega) (by omega)) (fun z31 ez31 => ?_))
        refine ty_aS (W := ty_Wh) H Jh21 rfl rfl (by decide) (by omega) (by omega) (fun i e => by unfold ty_Wh; omega) (fun i e => ty_eg (ty_w5 (by omega) (by omega))) (by omega) (by omega) (fun e1 e2 w => by simp [ty_Wh] at w) (fun h32 eh32 Jh32 => ?_)
        have Ih32 := H.1 h32 Jh32
        exact hq_W.ret rfl rfl rfl ⟨Jh32, rfl, (by rw [eh32, ty_aI_eq (show 5 = z28.toInt.toNat by omega)]; omega)⟩
      · refine hq_p rfl rfl ?_
        refine hq_gR Ih21.1 rfl rfl (by decide) (by decide) rfl ?_
        refine hq_p rfl rfl (ty_ge (n := 18) nk_b18 (fun z33 ez33 => ?_))
        refine hq_p rfl rfl ?_
        refine hq_p rfl rfl (ty_ge (n := z33.toInt + y20.toInt) (nm_add (by omega) (by omega)) (fun z34 ez34 => ?_))
        refine hq_p rfl rfl ?_
        refine ty_aL Ih21 rfl rfl (by decide) (by omega) (by omega) (fun i e => ty_le (ty_w18 (by omega) (by omega))) (fun z35 ez35 az35 bz35 => ?_)
        refine hq_p rfl rfl ?_
        refine hq_gR Ih21.1 rfl rfl (by decide) (by decide) rfl ?_
        refine hq_p rfl rfl (ty_ge (n := 18) nk_b18 (fun z36 ez36 => ?_))
        refine hq_p rfl rfl ?_
        refine hq_p rfl rfl (ty_ge (n := z36.toInt + y20.toInt) (nm_add (by omega) (by omega)) (fun z37 ez37 => ?_))
        refine ty_aL Ih21 rfl rfl (by decide) (by omega) (by omega) (fun i e => ty_le (ty_w18 (by omega) (by omega))) (fun z38 ez38 az38 bz38 => ?_)
        refine ty_zle rfl (fun c39 => ?_) (fun c39 => ?_)
        · refine hq_p rfl rfl (ty_ge (n := 0) nk_i0 (fun z40 ez40 => ?_))
          refine hq_p rfl rfl (ty_ge (n := z35.toInt - z40.toInt) (nm_sub (by omega) (by omega)) (fun z41 ez41 => ?_))
          refine ty_aS (W := ty_Wh) H Jh21 rfl rfl (by decide) (by omega) (by omega) (fun i e => by unfold ty_Wh; omega) (fun i e => ty_eg (ty_w18 (by omega) (by omega))) (by omega) (by omega) (fun e1 e2 w => by omega) (fun h42 eh42 Jh42 => ?_)
          have Ih42 := H.1 h42 Jh42
          refine ty_inc (ls' := fun z43 => [some (.ref 97), some (.int z43)]) rfl rfl (fun _ => rfl) (nm_addc nk_i1 (by omega) (by omega)) (fun z43 ez43 => ?_)
          refine hq_p rfl rfl ?_
          have r44 : (hs_aI h42 99 5).toInt = (hs_aI h21 99 5).toInt := by rw [eh42]; exact congrArg Int32.toInt (ty_aI_sA (by omega))
          exact ihn24 ((8 - z43.toInt).toNat) (by omega) z43 h42 rfl (by omega) (by omega) (by omega) Jh42
        · refine hq_p rfl rfl (ty_ge (n := 1) nk_i1 (fun z45 ez45 => ?_))
          refine hq_p rfl rfl ?_
          refine hq_p rfl rfl (ty_ga (fun z46 az46 bz46 => ?_))
          refine ty_aS (W := ty_Wh) H Jh21 rfl rfl (by decide) (by omega) (by omega) (fun i e => by unfold ty_Wh; omega) (fun i e => ty_eg (ty_w18 (by omega) (by omega))) (by omega) (by omega) (fun e1 e2 w => by omega) (fun h47 eh47 Jh47 => ?_)
          have Ih47 := H.1 h47 Jh47
          refine ty_inc (ls' := fun z48 => [some (.ref 97), some (.int z48)]) rfl rfl (fun _ => rfl) (nm_addc nk_i1 (by omega) (by omega)) (fun z48 ez48 => ?_)
          refine hq_p rfl rfl ?_
          have r49 : (hs_aI h47 99 5).toInt = (hs_aI h21 99 5).toInt := by rw [eh47]; exact congrArg Int32.toInt (ty_aI_sA (by omega))
          exact ihn24 ((8 - z48.toInt).toNat) (by omega) z48 h47 rfl (by omega) (by omega) (by omega) Jh47
  exact L2_n24 _ z1 h rfl (by omega) (by omega) (by omega) hJ
end CT27
