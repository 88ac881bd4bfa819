/-! CONTRACTS (printed by wip/pm/cts.py) -/
section CT30
theorem ct_237 {X : pm_X} {d : Nat} {h : pm_H} {x1 : Int32} {x2 : Int32} (hd : 3 ≤ d)  : ty_M X ty_Wx d 237 [.ref 97, .int x1, .int x2] h (ty_pi (-1) 1000000) := by
  intro J H hJ
  obtain ⟨d, rfl⟩ : ∃ e, d = e + 1 := ⟨d - 1, by omega⟩
  have I := H.1 h hJ
  have ax1 := nm_lo x1
  have bx1 := nm_hi x1
  have ax2 := nm_lo x2
  have bx2 := nm_hi x2
  refine hq_M.enter (q := (⟨"TrainBearersModel", "way", "(II)I"⟩, _, 6, some .int, 11, 3, pm_c237)) rfl rfl ?_
  show hq_W X d 11 false (some .int) pm_c237 (0, [some (.ref 97), some (.int x1), some (.int x2), none, none, none], [], h) (fun h' v => J h' ∧ (ty_pi (-1) 1000000) h' v)
  refine hq_p rfl rfl ?_
  refine hq_p rfl rfl (ty_ge (n := 0) nk_i0 (fun z1 ez1 => ?_))
  refine ty_pI (W := ty_Wx) H hJ rfl rfl (by decide) rfl rfl (by unfold ty_Wx; omega) rfl (by omega) (by omega) (fun h2 eh2 Jh2 => ?_)
  have wh2 : (hs_fI h2 97 0).toInt = z1.toInt := by rw [eh2]; exact congrArg Int32.toInt (ty_fI_eq I.1 rfl (by decide) rfl)
  have Ih2 := H.1 h2 Jh2
  refine hq_p rfl rfl ?_
  refine ty_callp 1 Ih2 rfl (fun _ => rfl) rfl rfl rfl rfl (ct_151 (x0 := x1) (by omega)) (fun _ P3 => ?_)
  obtain ⟨z4, rfl, az4, bz4, iz4⟩ := P3
  refine ty_zeq rfl (fun c5 => ?_) (fun c5 => ?_)
  · clear iz4
    refine hq_p rfl rfl (ty_ge (n := -1) nk_im1 (fun z6 ez6 => ?_))
    exact hq_W.ret rfl rfl rfl ⟨Jh2, _, rfl, by omega, by omega⟩
  · replace c5 : 1 ≤ z4.toInt ∧ z4.toInt ≤ 1 := by omega
    have f7 := iz4 (by omega)
    clear iz4
    refine hq_p rfl rfl ?_
    refine hq_p rfl rfl (ty_ge (n := -1) nk_im1 (fun z8 ez8 => ?_))
    refine ty_ige rfl (fun c9 => ?_) (fun c9 => ?_)
    · refine hq_p rfl rfl ?_
      refine hq_p rfl rfl ?_
      refine ty_callm 0 [(3, 99, 0)] (W := ty_Wx) H Jh2 rfl (fun _ => rfl) rfl rfl rfl (hq_pre_o Ih2.1 (x := 97) (ci := 11) rfl (by decide) rfl rfl rfl rfl) (fun a k w => by unfold ty_W5 at w; unfold ty_Wx; omega) (by unfold ty_W5 ty_Wx; omega) (ct_235 (x1 := x1) (by omega) (by omega) (by omega)) ⟨⟨rfl, fun k => show ¬ ty_W5 99 k by unfold ty_W5; omega⟩, trivial⟩ (fun h11 _ Jh11 gh11 P10 => ?_)
      obtain ⟨gh11_0, _⟩ := gh11
      have gh11_0 : hs_aI h11 99 = hs_aI h2 99 := gh11_0
      have ugh11_0 : hs_aI h11 99 = (hs_aI h2 99) := gh11_0.trans rfl
      have Ih11 := H.1 h11 Jh11
      obtain ⟨rq12, fq12⟩ := P10
      subst rq12
      have we : wy_e (hs_aI h11 99) (hs_aI h11 125) x1.toInt := by rw [ugh11_0]; exact fq12
      have hR := wy_R Ih11
      have hL : ∀ o, o < 6 → 0 ≤ (hs_aI h11 125 o).toInt ∧ (hs_aI h11 125 o).toInt ≤ 100000000 := fun o q => ⟨(we.1 o q).1, (we.1 o q).2.1⟩
      clear fq12
      refine hq_p rfl rfl ?_
      refine hq_gR Ih11.1 rfl rfl (by decide) (by decide) rfl ?_
      refine hq_p rfl rfl (ty_ge (n := 8) nk_b8 (fun z13 ez13 => ?_))
      refine ty_aL Ih11 rfl rfl (by decide) (by omega) (by omega) (fun i e => ty_le (ty_w8 (by omega) (by omega))) (fun z14 ez14 az14 bz14 => ?_)
      rw [show z13.toInt.toNat = 8 by omega] at ez14
      refine hq_p (ls' := [some (.ref 97), some (.int x1), some (.int x2), some (.int z14), none, none]) rfl rfl ?_
      refine hq_p rfl rfl ?_
      refine hq_gR Ih11.1 rfl rfl (by decide) (by decide) rfl ?_
      refine hq_p rfl rfl ?_
      refine ty_aL Ih11 rfl rfl (by decide) (by omega) (by omega) (fun _ _ => ty_le rfl) (fun z15 ez15 az15 bz15 => ?_)
      have lbz15 : 0 ≤ z15.toInt ∧ z15.toInt ≤ 100000000 := by rw [ez15]; exact hL _ (by omega)
      refine hq_p rfl rfl (ty_ge (n := 100000000) nk_d100000000 (fun z16 ez16 => ?_))
      refine ty_ieq rfl (fun c17 => ?_) (fun c17 => ?_)
      · refine hq_p rfl rfl ?_
        refine hq_gR Ih11.1 rfl rfl (by decide) (by decide) rfl ?_
        refine hq_p rfl rfl ?_
        refine ty_aL Ih11 rfl rfl (by decide) (by omega) (by omega) (fun _ _ => ty_le rfl) (fun z18 ez18 az18 bz18 => ?_)
        have lbz18 : 0 ≤ z18.toInt ∧ z18.toInt ≤ 100000000 := by rw [ez18]; exact hL _ (by omega)
        refine hq_p rfl rfl (ty_ge (n := 100000000) nk_d100000000 (fun z19 ez19 => ?_))
        refine ty_ine rfl (fun c20 => ?_) (fun c20 => ?_)
        · replace c20 : z18.toInt < z19.toInt := by omega
          refine hq_p rfl rfl ?_
          refine hq_gR Ih11.1 rfl rfl (by decide) (by decide) rfl ?_
          refine hq_p rfl rfl ?_
          refine ty_aL Ih11 rfl rfl (by decide) (by omega) (by omega) (fun _ _ => ty_le rfl) (fun z21 ez21 az21 bz21 => ?_)
          have lbz21 : 0 ≤ z21.toInt ∧ z21.toInt ≤ 100000000 := by rw [ez21]; exact hL _ (by omega)
          refine hq_p rfl rfl (ty_ge (n := 100) nk_b100 (fun z22 ez22 => ?_))
          refine hq_idiv rfl (nm_nz (by omega)) (ty_ge (n := z21.toInt / 100) (nm_div ez22 (by omega) (by omega)) (fun z23 ez23 => ?_))
          exact hq_W.ret rfl rfl rfl ⟨Jh11, _, rfl, by omega, by omega⟩
        · refine hq_p rfl rfl (ty_ge (n := -1) nk_im1 (fun z24 ez24 => ?_))
          refine hq_p rfl rfl ?_
          exact hq_W.ret rfl rfl rfl ⟨Jh11, _, rfl, by omega, by omega⟩
      · replace c17 : z15.toInt < z16.toInt := by omega
        refine hq_p rfl rfl ?_
        refine hq_p rfl rfl (ty_ge (n := -1) nk_im1 (fun z25 ez25 => ?_))
        refine ty_ine rfl (fun c26 => ?_) (fun c26 => ?_)
        · replace c26 : 0 ≤ x2.toInt ∧ z25.toInt = -1 := by omega
          refine hq_p rfl rfl ?_
          refine hq_gR Ih11.1 rfl rfl (by decide) (by decide) rfl ?_
          refine hq_p rfl rfl ?_
          refine ty_aL Ih11 rfl rfl (by decide) (by omega) (by omega) (fun _ _ => ty_le rfl) (fun z27 ez27 az27 bz27 => ?_)
          have lbz27 : 0 ≤ z27.toInt ∧ z27.toInt ≤ 100000000 := by rw [ez27]; exact hL _ (by omega)
          refine hq_p rfl rfl (ty_ge (n := 100) nk_b100 (fun z28 ez28 => ?_))
          refine hq_irem rfl (nm_nz (by omega)) (ty_ge (n := z27.toInt % 100) (nm_rem ez28 (by omega) (by omega)) (fun z29 ez29 => ?_))
          refine hq_p (ls' := [some (.ref 97), some (.int x1), some (.int x2), some (.int z14), some (.int z29), none]) rfl rfl ?_
          refine hq_p rfl rfl ?_
          refine hq_p rfl rfl ?_
          refine ty_ilt rfl (fun c30 => ?_) (fun c30 => ?_)
          · refine hq_p rfl rfl (ty_ge (n := 0) nk_i0 (fun z31 ez31 => ?_))
            refine hq_p (ls' := [some (.ref 97), some (.int x1), some (.int x2), some (.int z14), some (.int z29), some (.int z31)]) rfl rfl ?_
            have L95_n38 : ∀ n38 : Nat, ∀ (y34 : Int32) (y35 : Int32), (99 - y35.toInt).toNat = n38 → 0 ≤ y34.toInt → y34.toInt ≤ 5 → 0 ≤ y35.toInt → y35.toInt ≤ 99 → (hs_aI h11 125 y34.toInt.toNat).toInt % 100 = z29.toInt - y35.toInt → 0 ≤ (hs_aI h11 125 y34.toInt.toNat).toInt ∧ (hs_aI h11 125 y34.toInt.toNat).toInt < 100000000 → y35.toInt ≤ z29.toInt → hq_W X d 11 false (some .int) pm_c237 (95, [some (.ref 97), some (.int x1), some (.int x2), some (.int y34), some (.int z29), some (.int y35)], [], h11) (fun h' v => J h' ∧ (ty_pi (-1) 1000000) h' v) := by
              intro n38
              induction n38 using Nat.strongRecOn with
              | ind n38 ihn38 =>
                intro y34 y35 mn38 ay34 by34 ay35 by35 x0n38 x1n38 x2n38
                refine hq_p rfl rfl ?_
                refine hq_p rfl rfl ?_
                refine ty_igt rfl (fun c39 => ?_) (fun c39 => ?_)
                · refine hq_p rfl rfl ?_
                  exact hq_W.ret rfl rfl rfl ⟨Jh11, _, rfl, by omega, by omega⟩
                · refine hq_p rfl rfl ?_
                  refine hq_p rfl rfl ?_
                  obtain ⟨ow, ho, he⟩ := wy_ex we (p := y34.toInt.toNat) (by omega) (by omega) (by omega)
                  refine ty_callp 0 Ih11 rfl (fun _ => rfl) rfl rfl rfl (hq_pre_o Ih11.1 (x := 97) (ci := 11) rfl (by decide) rfl rfl rfl rfl) (ct_236 (x1 := y34) (by omega) (by omega) (by omega) ho he hL) (fun _ P41 => ?_)
                  obtain ⟨z42, rfl, az42, bz42, fz42⟩ := P41
                  obtain ⟨sz42, cz42, dz42⟩ := wy_nx hR (by omega) (by omega) fz42 (by omega)
                  have lpz42 := (hL z42.toInt.toNat (by omega)).1
                  refine hq_p (ls' := [some (.ref 97), some (.int x1), some (.int x2), some (.int z42), some (.int z29), some (.int y35)]) rfl rfl ?_
                  refine ty_inc (ls' := fun z43 => [some (.ref 97), some (.int x1), some (.int x2), some (.int z42), some (.int z29), some (.int z43)]) rfl rfl (fun _ => rfl) (nm_addc nk_i1 (by omega) (by omega)) (fun z43 ez43 => ?_)
                  refine hq_p rfl rfl ?_
                  exact ihn38 ((99 - z43.toInt).toNat) (by omega) z42 z43 rfl (by omega) (by omega) (by omega) (by omega) (by omega) (by omega) (by omega)
            exact L95_n38 _ z14 z31 rfl (by omega) (by omega) (by omega) (by omega) (by omega) (by omega) (by omega)
          · refine hq_p rfl rfl (ty_ge (n := -1) nk_im1 (fun z44 ez44 => ?_))
            exact hq_W.ret rfl rfl rfl ⟨Jh11, _, rfl, by omega, by omega⟩
        · refine hq_p rfl rfl ?_
          refine hq_gR Ih11.1 rfl rfl (by decide) (by decide) rfl ?_
          refine hq_p rfl rfl ?_
          refine ty_aL Ih11 rfl rfl (by decide) (by omega) (by omega) (fun _ _ => ty_le rfl) (fun z45 ez45 az45 bz45 => ?_)
          have lbz45 : 0 ≤ z45.toInt ∧ z45.toInt ≤ 100000000 := by rw [ez45]; exact hL _ (by omega)
          refine hq_p rfl rfl (ty_ge (n := 100000000) nk_d100000000 (fun z46 ez46 => ?_))
          refine ty_ine rfl (fun c47 => ?_) (fun c47 => ?_)
          · replace c47 : z45.toInt < z46.toInt := by omega
            refine hq_p rfl rfl ?_
            refine hq_gR Ih11.1 rfl rfl (by decide) (by decide) rfl ?_
            refine hq_p rfl rfl ?_
            refine ty_aL Ih11 rfl rfl (by decide) (by omega) (by omega) (fun _ _ => ty_le rfl) (fun z48 ez48 az48 bz48 => ?_)
            have lbz48 : 0 ≤ z48.toInt ∧ z48.toInt ≤ 100000000 := by rw [ez48]; exact hL _ (by omega)
            refine hq_p rfl rfl (ty_ge (n := 100) nk_b100 (fun z49 ez49 => ?_))
            refine hq_idiv rfl (nm_nz (by omega)) (ty_ge (n := z48.toInt / 100) (nm_div ez49 (by omega) (by omega)) (fun z50 ez50 => ?_))
            exact hq_W.ret rfl rfl rfl ⟨Jh11, _, rfl, by omega, by omega⟩
          · refine hq_p rfl rfl (ty_ge (n := -1) nk_im1 (fun z51 ez51 => ?_))
            refine hq_p rfl rfl ?_
            exact hq_W.ret rfl rfl rfl ⟨Jh11, _, rfl, by omega, by omega⟩
    · refine hq_p rfl rfl (ty_ge (n := -1) nk_im1 (fun z52 ez52 => ?_))
      exact hq_W.ret rfl rfl rfl ⟨Jh2, _, rfl, by omega, by omega⟩
end CT30
