/-! CONTRACTS (printed by wip/pm/cts.py) -/
section CT32
def ty_Wbr (a k : Nat) : Prop := a = 200 ∨ a = 202 ∨ (97 ≤ a ∧ a < 129 ∧ (a = 97 → k ≠ 11 ∧ k ≠ 13 ∧ k ≠ 20 ∧ k ≠ 21 ∧ k ≠ 23) ∧ (a = 99 → k < 50) ∧ a ≠ 100 ∧ a ≠ 106 ∧ a ≠ 107 ∧ a ≠ 108 ∧ a ≠ 109 ∧ a ≠ 127 ∧ a ≠ 125)
theorem wy_ec {R R' L : Nat → Int32} {pl : Int} (e : ∀ j, 50 ≤ j → j < 86 → R' j = R j) (h : wy_e R L pl) : wy_e R' L pl := by
  have c : ∀ p o, p < 6 → o < 6 → wy_c R' L p o = wy_c R L p o := fun p o hp ho => by unfold wy_c; rw [e (50 + 6 * p + o) (by omega) (by omega)]
  obtain ⟨I, f⟩ := h
  refine ⟨fun p hp => ⟨(I p hp).1, (I p hp).2.1, (I p hp).2.2.1, fun n => ⟨((I p hp).2.2.2 n).1, ?_⟩⟩, fun p o hp ho => by rw [c p o hp ho]; exact f p o hp ho⟩
  rcases ((I p hp).2.2.2 n).2 with r | ⟨o, ho, r⟩
  · exact Or.inl r
  · exact Or.inr ⟨o, ho, by rw [c p o hp ho]; exact r⟩
theorem ct_238 {X : pm_X} {d : Nat} {h : pm_H} {x1 : Int32} (hd : 9 ≤ d)  : ty_M X ty_Wz d 238 [.ref 97, .int x1] h (ty_pi (-2147483648) 2147483647) := by
  intro J H hJ
  obtain ⟨d, rfl⟩ : ∃ e, d = e + 1 := ⟨d - 1, by omega⟩
  have I := H.1 h hJ
  have ax1 := nm_lo x1
  have bx1 := nm_hi x1
  refine hq_M.enter (q := (⟨"TrainBearersModel", "brought", "(I)I"⟩, _, 3, some .int, 11, 2, pm_c238)) rfl rfl ?_
  show hq_W X d 11 false (some .int) pm_c238 (0, [some (.ref 97), some (.int x1), none], [], h) (fun h' v => J h' ∧ (ty_pi (-2147483648) 2147483647) h' v)
  refine hq_p rfl rfl ?_
  refine hq_p rfl rfl (ty_ge (n := 0) nk_i0 (fun z1 ez1 => ?_))
  refine ty_pI (W := ty_Wz) H hJ rfl rfl (by decide) rfl rfl (by unfold ty_Wz; omega) rfl (by omega) (by omega) (fun h2 eh2 Jh2 => ?_)
  have wh2 : (hs_fI h2 97 0).toInt = z1.toInt := by rw [eh2]; exact congrArg Int32.toInt (ty_fI_eq I.1 rfl (by decide) rfl)
  have Ih2 := H.1 h2 Jh2
  refine hq_p rfl rfl ?_
  refine ty_callp 1 Ih2 rfl (fun _ => rfl) rfl rfl rfl rfl (ct_151 (x0 := x1) (by omega)) (fun _ P3 => ?_)
  obtain ⟨z4, rfl, az4, bz4, iz4⟩ := P3
  refine ty_zne rfl (fun c5 => ?_) (fun c5 => ?_)
  · replace c5 : 1 ≤ z4.toInt ∧ z4.toInt ≤ 1 := by omega
    have f6 := iz4 (by omega)
    clear iz4
    refine hq_p rfl rfl ?_
    refine hq_p rfl rfl ?_
    refine ty_callm 0 [(3, 99, 0)] (W := ty_Wz) H Jh2 rfl (fun _ => rfl) rfl rfl rfl (hq_pre_o Ih2.1 (x := 97) (ci := 11) rfl (by decide) rfl rfl rfl rfl) (fun a k w => by unfold ty_W5 at w; unfold ty_Wz; omega) (by unfold ty_W5 ty_Wz; omega) (ct_235 (x1 := x1) (by omega) (by omega) (by omega)) ⟨⟨rfl, fun k => show ¬ ty_W5 99 k by unfold ty_W5; omega⟩, trivial⟩ (fun h8 _ Jh8 gh8 P7 => ?_)
    obtain ⟨gh8_0, _⟩ := gh8
    have gh8_0 : hs_aI h8 99 = hs_aI h2 99 := gh8_0
    have ugh8_0 : hs_aI h8 99 = (hs_aI h2 99) := gh8_0.trans rfl
    have Ih8 := H.1 h8 Jh8
    obtain ⟨rq9, fq9⟩ := P7
    subst rq9
    have we : wy_e (hs_aI h8 99) (hs_aI h8 125) x1.toInt := by rw [ugh8_0]; exact fq9
    clear fq9
    refine hq_p rfl rfl ?_
    refine hq_gR Ih8.1 rfl rfl (by decide) (by decide) rfl ?_
    refine hq_p rfl rfl ?_
    refine hq_gR Ih8.1 rfl rfl (by decide) (by decide) rfl ?_
    refine hq_p rfl rfl (ty_ge (n := 8) nk_b8 (fun z10 ez10 => ?_))
    refine ty_aL Ih8 rfl rfl (by decide) (by omega) (by omega) (fun i e => ty_le (ty_w8 (by omega) (by omega))) (fun z11 ez11 az11 bz11 => ?_)
    rw [show z10.toInt.toNat = 8 by omega] at ez11
    refine ty_aL Ih8 rfl rfl (by decide) (by omega) (by omega) (fun _ _ => ty_le rfl) (fun z12 ez12 az12 bz12 => ?_)
    have lbz12 : 0 ≤ z12.toInt ∧ z12.toInt ≤ 100000000 := by rw [ez12]; exact ⟨(we.1 _ (by omega)).1, (we.1 _ (by omega)).2.1⟩
    refine hq_p rfl rfl (ty_ge (n := 100000000) nk_d100000000 (fun z13 ez13 => ?_))
    refine ty_ine rfl (fun c14 => ?_) (fun c14 => ?_)
    · replace c14 : z12.toInt < z13.toInt := by omega
      refine hq_p rfl rfl ?_
      refine hq_p rfl rfl (ty_ge (n := 16) nk_b16 (fun z15 ez15 => ?_))
      refine ty_callm 0 [(3, 99, 0), (3, 125, 0), (1, 99, 8)] (W := ty_Wz) H Jh8 rfl (fun _ => rfl) rfl rfl rfl (hq_pre_o Ih8.1 (x := 97) (ci := 11) rfl (by decide) rfl rfl rfl rfl) (fun a k w => by unfold ty_Wq at w; unfold ty_Wz; omega) (by unfold ty_Wq ty_Wz; omega) (ct_143 (x1 := z15) (by omega) (by omega) (by omega)) ⟨⟨rfl, fun k => show ¬ ty_Wq 99 k by unfold ty_Wq; omega⟩, ⟨rfl, fun k => show ¬ ty_Wq 125 k by unfold ty_Wq; omega⟩, ⟨rfl, show ¬ ty_Wq 99 8 by unfold ty_Wq; omega⟩, trivial⟩ (fun h17 _ Jh17 gh17 P16 => ?_)
      obtain ⟨gh17_0, gh17_1, gh17_2, _⟩ := gh17
      have gh17_0 : hs_aI h17 99 = hs_aI h8 99 := gh17_0
      have ugh17_0 : hs_aI h17 99 = (hs_aI h8 99) := gh17_0.trans rfl
      have gh17_1 : hs_aI h17 125 = hs_aI h8 125 := gh17_1
      have ugh17_1 : hs_aI h17 125 = (hs_aI h8 125) := gh17_1.trans rfl
      have gh17_2 : (hs_aI h17 99 8).toInt = (hs_aI h8 99 8).toInt := gh17_2
      have Ih17 := H.1 h17 Jh17
      subst P16
      obtain ⟨R, eR⟩ : ∃ R, hs_aI h17 99 = R := ⟨_, rfl⟩
      obtain ⟨L, eL⟩ : ∃ L, hs_aI h17 125 = L := ⟨_, rfl⟩
      rw [← ugh17_0, ← ugh17_1, eR, eL] at we
      have l8 : (L (hs_aI h17 99 8).toInt.toNat).toInt < 100000000 := by rw [← eL, ugh17_1, show (hs_aI h17 99 8).toInt.toNat = z11.toInt.toNat by omega]; omega
      obtain ⟨J1, eJ⟩ : ∃ J1 : pm_H → Prop, J1 = fun h' => (J h' ∧ hs_aI h' 125 = L) ∧ ∀ j, 50 ≤ j → j < 86 → hs_aI h' 99 j = R j := ⟨_, rfl⟩
      have H1 : ty_C ty_Wbr J1 := by rw [eJ]; exact ((H.mono (W' := ty_Wbr) (fun a k w => by unfold ty_Wbr at w; unfold ty_Wz; omega) (by unfold ty_Wbr ty_Wz; omega)).arr 125 (by decide) (fun k => by unfold ty_Wbr; omega) L).seg 99 50 86 (by decide) (fun j h0 h1 => by unfold ty_Wbr; omega) rfl R
      have hJ1 : J1 h17 := by rw [eJ]; exact ⟨⟨Jh17, eL⟩, fun j _ _ => by rw [eR]⟩
      have H := H1
      refine hq_p rfl rfl (ty_ge (n := 0) nk_i0 (fun z18 ez18 => ?_))
      refine hq_p (ls' := [some (.ref 97), some (.int x1), some (.int z18)]) rfl rfl ?_
      have L46_n23 : ∀ n23 : Nat, ∀ (y21 : Int32) (h22 : pm_H), (L (hs_aI h22 99 8).toInt.toNat).toInt.toNat = n23 → -2147483648 ≤ y21.toInt → y21.toInt ≤ 2147483647 → (L (hs_aI h22 99 8).toInt.toNat).toInt < 100000000 → J1 h22 → hq_W X d 11 false (some .int) pm_c238 (46, [some (.ref 97), some (.int x1), some (.int y21)], [], h22) (fun h' v => J h' ∧ (ty_pi (-2147483648) 2147483647) h' v) := by
        intro n23
        induction n23 using Nat.strongRecOn with
        | ind n23 ihn23 =>
          intro y21 h22 mn23 ay21 by21 x0n23 Jh22
          have Ih22 := H.1 h22 Jh22
          refine hq_p rfl rfl ?_
          refine hq_gR Ih22.1 rfl rfl (by decide) (by decide) rfl ?_
          refine hq_p rfl rfl (ty_ge (n := 8) nk_b8 (fun z24 ez24 => ?_))
          refine ty_aL Ih22 rfl rfl (by decide) (by omega) (by omega) (fun i e => ty_le (ty_w8 (by omega) (by omega))) (fun z25 ez25 az25 bz25 => ?_)
          rw [show z24.toInt.toNat = 8 by omega] at ez25
          refine hq_p rfl rfl ?_
          refine ty_ieq rfl (fun c26 => ?_) (fun c26 => ?_)
          · refine hq_p rfl rfl ?_
            refine hq_p rfl rfl (ty_ge (n := 16) nk_b16 (fun z27 ez27 => ?_))
            refine ty_callj 0 (W := ty_Wbr) H Jh22 rfl (fun _ => rfl) rfl rfl rfl (hq_pre_o Ih22.1 (x := 97) (ci := 11) rfl (by decide) rfl rfl rfl rfl) (fun a k w => by unfold ty_Wp at w; unfold ty_Wbr; omega) (by unfold ty_Wp ty_Wbr; omega) (ct_144 (x1 := z27) (by omega) (by omega) (by omega)) (fun h29 _ Jh29 P28 => ?_)
            have Ih29 := H.1 h29 Jh29
            subst P28
            refine hq_p rfl rfl ?_
            exact hq_W.ret rfl rfl rfl ⟨(by have q := Jh29; rw [eJ] at q; exact q.1.1), _, rfl, by omega, by omega⟩
          · replace c26 : z25.toInt ≠ x1.toInt := by omega
            have sgh22 : ∀ j, 50 ≤ j → j < 86 → hs_aI h22 99 j = R j := by have q := Jh22; rw [eJ] at q; exact q.2
            have llh22 : hs_aI h22 125 = L := by have q := Jh22; rw [eJ] at q; exact q.1.2
            have wx : wy_e (hs_aI h22 99) (hs_aI h22 125) x1.toInt := by rw [llh22]; exact wy_ec sgh22 we
            have hR := wy_R Ih22
            have hL : ∀ o, o < 6 → 0 ≤ (hs_aI h22 125 o).toInt ∧ (hs_aI h22 125 o).toInt ≤ 100000000 := fun o q => ⟨(wx.1 o q).1, (wx.1 o q).2.1⟩
            refine hq_p rfl rfl ?_
            refine hq_p rfl rfl ?_
            refine hq_p rfl rfl ?_
            refine hq_p rfl rfl ?_
            refine hq_gR Ih22.1 rfl rfl (by decide) (by decide) rfl ?_
            refine hq_p rfl rfl (ty_ge (n := 8) nk_b8 (fun z30 ez30 => ?_))
            refine ty_aL Ih22 rfl rfl (by decide) (by omega) (by omega) (fun i e => ty_le (ty_w8 (by omega) (by omega))) (fun z31 ez31 az31 bz31 => ?_)
            rw [show z30.toInt.toNat = 8 by omega] at ez31
            have lz : (hs_aI h22 125 z31.toInt.toNat).toInt < 100000000 := by rw [llh22, show z31.toInt.toNat = (hs_aI h22 99 8).toInt.toNat by omega]; omega
            have ly : 1 ≤ (hs_aI h22 125 z31.toInt.toNat).toInt := ((wx.1 z31.toInt.toNat (by omega)).2.2.2 (by omega)).1
            obtain ⟨ow, ho, he⟩ := wy_ex wx (p := z31.toInt.toNat) (by omega) ly lz
            refine ty_callp 0 Ih22 rfl (fun _ => rfl) rfl rfl rfl (hq_pre_o Ih22.1 (x := 97) (ci := 11) rfl (by decide) rfl rfl rfl rfl) (ct_236 (x1 := z31) (by omega) (by omega) (by omega) ho he hL) (fun _ P32 => ?_)
            obtain ⟨z33, rfl, az33, bz33, fz33⟩ := P32
            obtain ⟨sz33, cz33, dz33⟩ := wy_nx hR (by omega) (by omega) fz33 (by omega)
            have lpz33 := (hL z33.toInt.toNat (by omega)).1
            have lo : (L z33.toInt.toNat).toInt + 1 ≤ (L (hs_aI h22 99 8).toInt.toNat).toInt := by have q1 := dz33; rw [llh22, show z31.toInt.toNat = (hs_aI h22 99 8).toInt.toNat by omega] at q1; omega
            have lp := (hL z33.toInt.toNat (by omega)).1
            rw [llh22] at lp
            refine ty_callj 0 (W := ty_Wbr) H Jh22 rfl (fun _ => rfl) rfl rfl rfl (hq_pre_o Ih22.1 (x := 97) (ci := 11) rfl (by decide) rfl rfl rfl rfl) (fun a k w => by unfold ty_Wj at w; unfold ty_Wbr; omega) (by unfold ty_Wj ty_Wbr; omega) (ct_216b (x1 := z33) (by omega) (by omega) (by omega)) (fun h35 _ Jh35 P34 => ?_)
            have Ih35 := H.1 h35 Jh35
            obtain ⟨⟨z36, rfl, az36, bz36⟩, p8z36, p9z36⟩ := P34
            obtain ⟨q37, eq37⟩ : ∃ q : Int32, q.toInt = (hs_aI h35 99 9).toInt := ⟨_, rfl⟩
            have kq37 := Ih35.2.2.2.1 99 9 (by decide) (by decide)
            have k0q37 : 0 ≤ (hs_aI h35 99 9).toInt := kq37.1
            have k1q37 : (hs_aI h35 99 9).toInt ≤ 9999 := kq37.2
            clear kq37
            refine hq_p rfl rfl (ty_ga (fun z38 az38 bz38 => ?_))
            refine hq_p (ls' := [some (.ref 97), some (.int x1), some (.int z38)]) rfl rfl ?_
            have l9 : (L (hs_aI h35 99 8).toInt.toNat).toInt = (L z33.toInt.toNat).toInt := by rw [p8z36]
            refine hq_p rfl rfl ?_
            exact ihn23 ((L (hs_aI h35 99 8).toInt.toNat).toInt.toNat) (by omega) z38 h35 rfl (by omega) (by omega) (by omega) Jh35
      exact L46_n23 _ z18 h17 rfl (by omega) (by omega) (by omega) hJ1
    · refine hq_p rfl rfl (ty_ge (n := -1) nk_im1 (fun z39 ez39 => ?_))
      exact hq_W.ret rfl rfl rfl ⟨Jh8, _, rfl, by omega, by omega⟩
  · clear iz4
    refine hq_p rfl rfl (ty_ge (n := -1) nk_im1 (fun z40 ez40 => ?_))
    exact hq_W.ret rfl rfl rfl ⟨Jh2, _, rfl, by omega, by omega⟩
end CT32
