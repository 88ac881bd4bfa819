/-! CONTRACTS (printed by wip/pm/cts.py) -/
section CT36
theorem ct_226 {X : pm_X} {d : Nat} {h : pm_H} {x1 : Int32} (hd : 8 ≤ d)  : ty_M X ty_Wx d 226 [.ref 97, .int x1] h (ty_pi (-2147483648) 2147483647) := by
  intro J H hJ
  obtain ⟨d, rfl⟩ : ∃ e, d = e + 1 := ⟨d - 1, by omega⟩
  have I := H.1 h hJ
  have ax1 := nm_lo x1
  have bx1 := nm_hi x1
  refine hq_M.enter (q := (⟨"TrainBearersModel", "borne", "(I)I"⟩, _, 5, some .int, 11, 2, pm_c226)) rfl rfl ?_
  show hq_W X d 11 false (some .int) pm_c226 (0, [some (.ref 97), some (.int x1), none, none, none], [], h) (fun h' v => J h' ∧ (ty_pi (-2147483648) 2147483647) h' v)
  refine hq_p rfl rfl ?_
  refine hq_p rfl rfl (ty_ge (n := 0) nk_i0 (fun z1 ez1 => ?_))
  refine ty_pI (W := ty_Wx) H hJ rfl rfl (by decide) rfl rfl (by unfold ty_Wx; omega) rfl (by omega) (by omega) (fun h2 eh2 Jh2 => ?_)
  have wh2 : (hs_fI h2 97 0).toInt = z1.toInt := by rw [eh2]; exact congrArg Int32.toInt (ty_fI_eq I.1 rfl (by decide) rfl)
  have Ih2 := H.1 h2 Jh2
  refine hq_p rfl rfl ?_
  refine hq_p rfl rfl (ty_gle (n := x1.toInt) (nm_i2l _) (fun z3 ez3 => ?_))
  refine hq_p rfl rfl (ty_gle (n := 0) (by decide) (fun z4 ez4 => ?_))
  refine hq_p rfl rfl ?_
  refine hq_gR Ih2.1 rfl rfl (by decide) (by decide) rfl ?_
  refine hq_p rfl rfl (ty_ge (n := 0) nk_i0 (fun z5 ez5 => ?_))
  refine ty_aL Ih2 rfl rfl (by decide) (by omega) (by omega) (fun i e => ty_le (ty_w0 (by omega) (by omega))) (fun z6 ez6 az6 bz6 => ?_)
  rw [show z5.toInt.toNat = 0 by omega] at ez6
  refine hq_p rfl rfl (ty_gle (n := z6.toInt) (nm_i2l _) (fun z7 ez7 => ?_))
  refine hq_p rfl rfl (ty_gle (n := 1) (by decide) (fun z8 ez8 => ?_))
  refine hq_p rfl rfl (ty_gle (n := z7.toInt + z8.toInt) (nm_ladd (by omega) (by omega)) (fun z9 ez9 => ?_))
  refine ty_callp 1 Ih2 rfl (fun _ => rfl) rfl rfl rfl rfl (ct_136 (x0 := z3) (x1 := z4) (x2 := z9) (by omega)) (fun _ P10 => ?_)
  obtain ⟨z11, rfl, az11, bz11, iz11⟩ := P10
  refine ty_zne rfl (fun c12 => ?_) (fun c12 => ?_)
  · replace c12 : 1 ≤ z11.toInt ∧ z11.toInt ≤ 1 := by omega
    have f13 := iz11 (by omega)
    clear iz11
    refine hq_p rfl rfl ?_
    have r16 : (hs_aI h2 99 0).toInt = (hs_aI h 99 0).toInt := by rw [eh2]; exact congrArg Int32.toInt (ty_aI_ne (by omega))
    refine ty_callm 0 [(3, 99, 0), (1, 99, 0)] (W := ty_Wx) H Jh2 rfl (fun _ => rfl) rfl rfl rfl (hq_pre_o Ih2.1 (x := 97) (ci := 11) rfl (by decide) rfl rfl rfl rfl) (fun a k w => by unfold ty_Wco at w; unfold ty_Wx; omega) (by unfold ty_Wco ty_Wx; omega) (ct_223e (by omega)) ⟨⟨rfl, fun k => show ¬ ty_Wco 99 k by unfold ty_Wco; omega⟩, ⟨rfl, show ¬ ty_Wco 99 0 by unfold ty_Wco; omega⟩, trivial⟩ (fun h15 _ Jh15 gh15 P14 => ?_)
    obtain ⟨gh15_0, gh15_1, _⟩ := gh15
    have gh15_0 : hs_aI h15 99 = hs_aI h2 99 := gh15_0
    have ugh15_0 : hs_aI h15 99 = (hs_aI h2 99) := gh15_0.trans rfl
    have gh15_1 : (hs_aI h15 99 0).toInt = (hs_aI h2 99 0).toInt := gh15_1
    have Ih15 := H.1 h15 Jh15
    obtain ⟨rq17, fq17⟩ := P14
    subst rq17
    have hCo : bo_p (hs_aI h15 120) (bo_G (hs_aI h15 99 1)) (hs_aI h15 99 0).toInt 0 := by rw [ugh15_0]; exact fq17
    clear fq17
    refine hq_p rfl rfl ?_
    refine ty_callm 0 [(3, 99, 0), (3, 120, 0), (1, 99, 0)] (W := ty_Wx) H Jh15 rfl (fun _ => rfl) rfl rfl rfl (hq_pre_o Ih15.1 (x := 97) (ci := 11) rfl (by decide) rfl rfl rfl rfl) (fun a k w => by unfold ty_Wle at w; unfold ty_Wx; omega) (by unfold ty_Wle ty_Wx; omega) (ct_225e (by omega) hCo) ⟨⟨rfl, fun k => show ¬ ty_Wle 99 k by unfold ty_Wle; omega⟩, ⟨rfl, fun k => show ¬ ty_Wle 120 k by unfold ty_Wle; omega⟩, ⟨rfl, show ¬ ty_Wle 99 0 by unfold ty_Wle; omega⟩, trivial⟩ (fun h19 _ Jh19 gh19 P18 => ?_)
    obtain ⟨gh19_0, gh19_1, gh19_2, _⟩ := gh19
    have gh19_0 : hs_aI h19 99 = hs_aI h15 99 := gh19_0
    have ugh19_0 : hs_aI h19 99 = (hs_aI h15 99) := gh19_0.trans rfl
    have gh19_1 : hs_aI h19 120 = hs_aI h15 120 := gh19_1
    have ugh19_1 : hs_aI h19 120 = (hs_aI h15 120) := gh19_1.trans rfl
    have gh19_2 : (hs_aI h19 99 0).toInt = (hs_aI h15 99 0).toInt := gh19_2
    have Ih19 := H.1 h19 Jh19
    obtain ⟨rq20, fq20⟩ := P18
    subst rq20
    have hq : bo_q (hs_aI h19 120) (hs_aI h19 121) (bo_G (hs_aI h19 99 1)) (hs_aI h19 99 0).toInt (-1) 0 := by rw [ugh19_0, ugh19_1]; exact fq20
    clear fq20
    have hCq : bo_p (hs_aI h19 120) (bo_G (hs_aI h19 99 1)) (hs_aI h19 99 0).toInt 0 := by rw [ugh19_0, ugh19_1]; exact hCo
    obtain ⟨G, eG⟩ : ∃ G, bo_G (hs_aI h19 99 1) = G := ⟨_, rfl⟩
    have hr0 : 0 ≤ (hs_aI h19 99 1).toInt := (Ih19.2.2.2.1 99 1 (by decide) (by decide)).1
    have hr1 : (hs_aI h19 99 1).toInt ≤ 8 := (Ih19.2.2.2.1 99 1 (by decide) (by decide)).2
    have hG := bo_Gb hr0 hr1
    rw [eG] at hG hq hCq
    have hG1 := hG.1
    have hG2 := hG.2
    refine hq_p rfl rfl ?_
    refine hq_p rfl rfl (ty_ge (n := 2) nk_i2 (fun z21 ez21 => ?_))
    refine ty_ige rfl (fun c22 => ?_) (fun c22 => ?_)
    · refine hq_p rfl rfl (ty_ge (n := 0) nk_i0 (fun z23 ez23 => ?_))
      refine hq_p (ls' := [some (.ref 97), some (.int x1), some (.int z23), none, none]) rfl rfl ?_
      refine hq_p rfl rfl (ty_ge (n := 0) nk_i0 (fun z24 ez24 => ?_))
      refine hq_p (ls' := [some (.ref 97), some (.int x1), some (.int z23), some (.int z24), none]) rfl rfl ?_
      refine hq_p rfl rfl (ty_ge (n := 0) nk_i0 (fun z25 ez25 => ?_))
      refine hq_p (ls' := [some (.ref 97), some (.int x1), some (.int z23), some (.int z24), some (.int z25)]) rfl rfl ?_
      have L71_n35 : ∀ n35 : Nat, ∀ (y29 : Int32) (y30 : Int32) (y31 : Int32), (8 - y31.toInt).toNat = n35 → 0 ≤ y29.toInt → y29.toInt ≤ 255 → 0 ≤ y30.toInt → y30.toInt ≤ 255 → 0 ≤ y31.toInt → y31.toInt ≤ 8 → y29.toInt < G → hq_W X d 11 false (some .int) pm_c226 (71, [some (.ref 97), some (.int x1), some (.int y29), some (.int y30), some (.int y31)], [], h19) (fun h' v => J h' ∧ (ty_pi (-2147483648) 2147483647) h' v) := by
        intro n35
        induction n35 using Nat.strongRecOn with
        | ind n35 ihn35 =>
          intro y29 y30 y31 mn35 ay29 by29 ay30 by30 ay31 by31 x0n35
          refine hq_p rfl rfl ?_
          refine hq_p rfl rfl ?_
          refine hq_p rfl rfl (ty_ge (n := 1) nk_i1 (fun z36 ez36 => ?_))
          refine hq_p rfl rfl (ty_ge (n := x1.toInt - z36.toInt) (nm_sub (by omega) (by omega)) (fun z37 ez37 => ?_))
          refine ty_ige rfl (fun c38 => ?_) (fun c38 => ?_)
          · refine hq_p rfl rfl ?_
            exact hq_W.ret rfl rfl rfl ⟨Jh19, _, rfl, by omega, by omega⟩
          · obtain ⟨q1, q2, q3⟩ := hq y31.toInt.toNat y29.toInt.toNat (by omega) (by omega) (Or.inl (by omega))
            obtain ⟨wS, w0, w1, w2⟩ := q3 (by clear q3; omega)
            clear q3
            refine hq_p rfl rfl (ty_ge (n := 0) nk_i0 (fun z39 ez39 => ?_))
            refine hq_p (ls' := [some (.ref 97), some (.int x1), some (.int y29), some (.int z39), some (.int y31)]) rfl rfl ?_
            have L81_n43 : ∀ n43 : Nat, ∀ (y41 : Int32), (255 - y41.toInt).toNat = n43 → 0 ≤ y41.toInt → y41.toInt ≤ 255 → y41.toInt ≤ wS.toInt → hq_W X d 11 false (some .int) pm_c226 (81, [some (.ref 97), some (.int x1), some (.int y29), some (.int y41), some (.int y31)], [], h19) (fun h' v => J h' ∧ (ty_pi (-2147483648) 2147483647) h' v) := by
              intro n43
              induction n43 using Nat.strongRecOn with
              | ind n43 ihn43 =>
                intro y41 mn43 ay41 by41 x0n43
                refine hq_p rfl rfl ?_
                refine hq_p rfl rfl ?_
                refine hq_p rfl rfl ?_
                refine hq_p rfl rfl ?_
                have oo := bo_or hr0 hr1 (a := y29) (b := y41) (by omega) (by omega) (by omega) (by omega)
                rw [eG] at oo
                have o1 := oo.1
                have o2 := oo.2
                have hC : 0 ≤ (hs_aI h19 120 (256 * y31.toInt.toNat + y41.toInt.toNat)).toInt ∧ (hs_aI h19 120 (256 * y31.toInt.toNat + y41.toInt.toNat)).toInt ≤ 100000000 := by have q := hCq y31.toInt.toNat y41.toInt.toNat (by omega) (Or.inl (by omega)); exact ⟨q.1, q.2.1⟩
                have hL : 0 ≤ (hs_aI h19 121 (256 * (y31.toInt.toNat + 1) + (y29 ||| y41).toInt.toNat)).toInt ∧ (hs_aI h19 121 (256 * (y31.toInt.toNat + 1) + (y29 ||| y41).toInt.toNat)).toInt ≤ 100000000 := by have q1 := (hq (y31.toInt.toNat + 1) (y29 ||| y41).toInt.toNat (by omega) (by omega) (Or.inl (by omega))).1; have q2 := (hq (y31.toInt.toNat + 1) (y29 ||| y41).toInt.toNat (by omega) (by omega) (Or.inl (by omega))).2.1; rw [show ((y31.toInt.toNat + 1 : Nat) : Int) = y31.toInt + 1 by omega] at q2; exact ⟨q1, by omega⟩
                refine ty_callp 0 Ih19 rfl (fun _ => rfl) rfl rfl rfl (hq_pre_o Ih19.1 (x := 97) (ci := 11) rfl (by decide) rfl rfl rfl rfl) (ct_224e (x1 := y31) (x2 := y29) (x3 := y41) (by omega) (by omega) (by omega) (by omega) (by omega) (by omega) (by omega) hC hL) (fun _ P44 => ?_)
                obtain ⟨z45, rfl, fz45⟩ := P44
                have az45 := nm_lo z45
                have bz45 := nm_hi z45
                refine hq_p rfl rfl ?_
                refine hq_gR Ih19.1 rfl rfl (by decide) (by decide) rfl ?_
                refine hq_p rfl rfl (ty_ge (n := 256) nk_s256 (fun z46 ez46 => ?_))
                refine hq_p rfl rfl ?_
                refine hq_p rfl rfl (ty_ge (n := 256 * y31.toInt) (nm_cmul ez46 (by omega) (by omega)) (fun z47 ez47 => ?_))
                refine hq_p rfl rfl ?_
                refine hq_p rfl rfl (ty_ge (n := z47.toInt + y29.toInt) (nm_add (by omega) (by omega)) (fun z48 ez48 => ?_))
                refine ty_aL Ih19 rfl rfl (by decide) (by omega) (by omega) (fun _ _ => ty_le rfl) (fun z49 ez49 az49 bz49 => ?_)
                have el : z49.toInt = (hs_aI h19 121 (256 * y31.toInt.toNat + y29.toInt.toNat)).toInt := by rw [ez49, show z48.toInt.toNat = 256 * y31.toInt.toNat + y29.toInt.toNat by omega]
                refine ty_ieq rfl (fun c50 => ?_) (fun c50 => ?_)
                · refine hq_p rfl rfl ?_
                  refine hq_p rfl rfl ?_
                  refine hq_p rfl rfl (ty_ge (n := (y29 ||| y41).toInt) rfl (fun z51 ez51 => ?_))
                  have bz51 : 0 ≤ z51.toInt ∧ z51.toInt ≤ 255 := by rw [ez51]; have q := nm_or8 (x := y29) (y := y41) (by omega) (by omega) (by omega) (by omega); omega
                  have oz := bo_or hr0 hr1 (a := y29) (b := y41) (by omega) (by omega) (by omega) (by omega)
                  rw [eG, ← ez51] at oz
                  have oz1 := oz.2
                  refine hq_p (ls' := [some (.ref 97), some (.int x1), some (.int z51), some (.int y41), some (.int y31)]) rfl rfl ?_
                  refine ty_inc (ls' := fun z52 => [some (.ref 97), some (.int x1), some (.int z51), some (.int y41), some (.int z52)]) rfl rfl (fun _ => rfl) (nm_addc nk_i1 (by omega) (by omega)) (fun z52 ez52 => ?_)
                  refine hq_p rfl rfl ?_
                  exact ihn35 ((8 - z52.toInt).toNat) (by omega) z51 y41 z52 rfl (by omega) (by omega) (by omega) (by omega) (by omega) (by omega) (by omega)
                · replace c50 : z45.toInt ≠ z49.toInt := by omega
                  have lt : y41.toInt + 1 ≤ wS.toInt := by
                    have ne : y41.toInt ≠ wS.toInt := fun e => by
                      have e2 : y41 = wS := nm_eqi.mpr e
                      have k := w2 y29 (by omega)
                      rw [← e2, ← fz45] at k
                      omega
                    omega
                  refine ty_inc (ls' := fun z53 => [some (.ref 97), some (.int x1), some (.int y29), some (.int z53), some (.int y31)]) rfl rfl (fun _ => rfl) (nm_addc nk_i1 (by omega) (by omega)) (fun z53 ez53 => ?_)
                  refine hq_p rfl rfl ?_
                  exact ihn43 ((255 - z53.toInt).toNat) (by omega) z53 rfl (by omega) (by omega) (by omega)
            exact L81_n43 _ z39 rfl (by omega) (by omega) (by omega)
      exact L71_n35 _ z23 z24 z25 rfl (by omega) (by omega) (by omega) (by omega) (by omega) (by omega) (by omega)
    · refine hq_p rfl rfl ?_
      refine ty_zne rfl (fun c54 => ?_) (fun c54 => ?_)
      · replace c54 : 1 ≤ x1.toInt ∧ x1.toInt ≤ 1 := by omega
        refine hq_p rfl rfl ?_
        refine hq_gR Ih19.1 rfl rfl (by decide) (by decide) rfl ?_
        refine hq_p rfl rfl (ty_ge (n := 0) nk_i0 (fun z55 ez55 => ?_))
        refine ty_aL Ih19 rfl rfl (by decide) (by omega) (by omega) (fun _ _ => ty_le rfl) (fun z56 ez56 az56 bz56 => ?_)
        rw [show z55.toInt.toNat = 0 by omega] at ez56
        refine hq_p rfl rfl (ty_ge (n := 100) nk_b100 (fun z57 ez57 => ?_))
        refine hq_irem rfl (nm_nz (by omega)) (ty_ga (fun z58 az58 bz58 => ?_))
        exact hq_W.ret rfl rfl rfl ⟨Jh19, _, rfl, by omega, by omega⟩
      · refine hq_p rfl rfl ?_
        refine hq_gR Ih19.1 rfl rfl (by decide) (by decide) rfl ?_
        refine hq_p rfl rfl (ty_ge (n := 0) nk_i0 (fun z59 ez59 => ?_))
        refine ty_aL Ih19 rfl rfl (by decide) (by omega) (by omega) (fun _ _ => ty_le rfl) (fun z60 ez60 az60 bz60 => ?_)
        rw [show z59.toInt.toNat = 0 by omega] at ez60
        refine hq_p rfl rfl (ty_ge (n := 100) nk_b100 (fun z61 ez61 => ?_))
        refine hq_idiv rfl (nm_nz (by omega)) (ty_ga (fun z62 az62 bz62 => ?_))
        refine hq_p rfl rfl ?_
        exact hq_W.ret rfl rfl rfl ⟨Jh19, _, rfl, by omega, by omega⟩
  · clear iz11
    refine hq_p rfl rfl (ty_ge (n := -1) nk_im1 (fun z63 ez63 => ?_))
    exact hq_W.ret rfl rfl rfl ⟨Jh2, _, rfl, by omega, by omega⟩
end CT36
