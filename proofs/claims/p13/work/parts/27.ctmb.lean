/-! CONTRACTS (printed by wip/pm/cts.py) -/
section CT4
theorem ct_155 {X : pm_X} {d : Nat} {h : pm_H} {x1 : Int32} {x2 : Int32} (hd : 7 ≤ d)  : ty_M X ty_Wx d 155 [.ref 97, .int x1, .int x2] h (ty_pi (-2147483648) 2147483647) := by
  intro J H hJ
  obtain ⟨d, rfl⟩ : ∃ e, d = e + 1 := ⟨d - 1, by omega⟩
  have I := H.1 h hJ
  have ax1 := nm_lo x1
  have bx1 := nm_hi x1
  have ax2 := nm_lo x2
  have bx2 := nm_hi x2
  refine hq_M.enter (q := (⟨"TrainBearersModel", "at", "(II)I"⟩, _, 3, some .int, 11, 3, pm_c155)) rfl rfl ?_
  show hq_W X d 11 false (some .int) pm_c155 (0, [some (.ref 97), some (.int x1), some (.int x2)], [], h) (fun h' v => J h' ∧ (ty_pi (-2147483648) 2147483647) h' v)
  refine hq_p rfl rfl ?_
  refine hq_p rfl rfl (ty_ge (n := 0) nk_i0 (fun z1 ez1 => ?_))
  refine ty_pI (W := ty_Wx) H hJ rfl rfl (by decide) rfl rfl (by unfold ty_Wx; omega) rfl (by omega) (by omega) (fun h2 eh2 Jh2 => ?_)
  have wh2 : (hs_fI h2 97 0).toInt = z1.toInt := by rw [eh2]; exact congrArg Int32.toInt (ty_fI_eq I.1 rfl (by decide) rfl)
  have Ih2 := H.1 h2 Jh2
  refine hq_p rfl rfl ?_
  refine hq_p rfl rfl ?_
  refine ty_callp 0 Ih2 rfl (fun _ => rfl) rfl rfl rfl (hq_pre_o Ih2.1 (x := 97) (ci := 11) rfl (by decide) rfl rfl rfl rfl) (ct_149 (x1 := x1) (by omega)) (fun _ P3 => ?_)
  obtain ⟨z4, rfl, az4, bz4, iz4⟩ := P3
  refine ty_zne rfl (fun c5 => ?_) (fun c5 => ?_)
  · replace c5 : 1 ≤ z4.toInt ∧ z4.toInt ≤ 1 := by omega
    have f6 := iz4 (by omega)
    clear iz4
    refine hq_p rfl rfl ?_
    rcases (show x2.toInt = 0 ∨ x2.toInt = 1 ∨ x2.toInt = 2 ∨ x2.toInt = 3 ∨ x2.toInt = 4 ∨ (x2.toInt < 0 ∨ 4 < x2.toInt) by omega) with c7 | c7 | c7 | c7 | c7 | c7
    · refine ty_ts (n := 0) rfl c7 rfl rfl (by decide) ?_
      refine hq_p rfl rfl ?_
      refine hq_gR Ih2.1 rfl rfl (by decide) (by decide) rfl ?_
      refine hq_p rfl rfl (ty_ge (n := 34) nk_b34 (fun z8 ez8 => ?_))
      refine hq_p rfl rfl ?_
      refine hq_p rfl rfl (ty_ge (n := z8.toInt + x1.toInt) (nm_add (by omega) (by omega)) (fun z9 ez9 => ?_))
      refine ty_aL Ih2 rfl rfl (by decide) (by omega) (by omega) (fun i e => ty_le (ty_w34 (by omega) (by omega))) (fun z10 ez10 az10 bz10 => ?_)
      exact hq_W.ret rfl rfl rfl ⟨Jh2, _, rfl, by omega, by omega⟩
    · refine ty_ts (n := 1) rfl c7 rfl rfl (by decide) ?_
      refine hq_p rfl rfl ?_
      refine hq_gR Ih2.1 rfl rfl (by decide) (by decide) rfl ?_
      refine hq_p rfl rfl (ty_ge (n := 10) nk_b10 (fun z11 ez11 => ?_))
      refine hq_p rfl rfl ?_
      refine hq_p rfl rfl (ty_ge (n := z11.toInt + x1.toInt) (nm_add (by omega) (by omega)) (fun z12 ez12 => ?_))
      refine ty_aL Ih2 rfl rfl (by decide) (by omega) (by omega) (fun i e => ty_le (ty_w10 (by omega) (by omega))) (fun z13 ez13 az13 bz13 => ?_)
      exact hq_W.ret rfl rfl rfl ⟨Jh2, _, rfl, by omega, by omega⟩
    · refine ty_ts (n := 2) rfl c7 rfl rfl (by decide) ?_
      refine hq_p rfl rfl ?_
      refine hq_p rfl rfl ?_
      refine ty_callp 0 Ih2 rfl (fun _ => rfl) rfl rfl rfl (hq_pre_o Ih2.1 (x := 97) (ci := 11) rfl (by decide) rfl rfl rfl rfl) (ct_152 (x1 := x1) (by omega)) (fun _ P14 => ?_)
      obtain ⟨z15, rfl, az15, bz15⟩ := P14
      exact hq_W.ret rfl rfl rfl ⟨Jh2, _, rfl, by omega, by omega⟩
    · refine ty_ts (n := 3) rfl c7 rfl rfl (by decide) ?_
      refine hq_p rfl rfl ?_
      refine hq_p rfl rfl ?_
      refine hq_p rfl rfl ?_
      refine hq_p rfl rfl ?_
      refine ty_callp 0 Ih2 rfl (fun _ => rfl) rfl rfl rfl (hq_pre_o Ih2.1 (x := 97) (ci := 11) rfl (by decide) rfl rfl rfl rfl) (ct_152 (x1 := x1) (by omega)) (fun _ P16 => ?_)
      obtain ⟨z17, rfl, az17, bz17⟩ := P16
      refine ty_callj 0 (W := ty_Wx) H Jh2 rfl (fun _ => rfl) rfl rfl rfl (hq_pre_o Ih2.1 (x := 97) (ci := 11) rfl (by decide) rfl rfl rfl rfl) (fun a k w => by unfold ty_Wy at w; unfold ty_Wx; omega) (by unfold ty_Wy ty_Wx; omega) (ct_207 (x1 := x1) (x2 := z17) (by omega) (by omega) (by omega)) (fun h19 _ Jh19 P18 => ?_)
      have Ih19 := H.1 h19 Jh19
      obtain ⟨z20, rfl, az20, bz20⟩ := P18
      exact hq_W.ret rfl rfl rfl ⟨Jh19, _, rfl, by omega, by omega⟩
    · refine ty_ts (n := 4) rfl c7 rfl rfl (by decide) ?_
      refine hq_p rfl rfl ?_
      refine hq_p rfl rfl ?_
      refine hq_p rfl rfl ?_
      refine hq_p rfl rfl ?_
      refine hq_p rfl rfl ?_
      refine hq_p rfl rfl ?_
      refine ty_callp 0 Ih2 rfl (fun _ => rfl) rfl rfl rfl (hq_pre_o Ih2.1 (x := 97) (ci := 11) rfl (by decide) rfl rfl rfl rfl) (ct_152 (x1 := x1) (by omega)) (fun _ P21 => ?_)
      obtain ⟨z22, rfl, az22, bz22⟩ := P21
      refine ty_callj 0 (W := ty_Wx) H Jh2 rfl (fun _ => rfl) rfl rfl rfl (hq_pre_o Ih2.1 (x := 97) (ci := 11) rfl (by decide) rfl rfl rfl rfl) (fun a k w => by unfold ty_Wy at w; unfold ty_Wx; omega) (by unfold ty_Wy ty_Wx; omega) (ct_207 (x1 := x1) (x2 := z22) (by omega) (by omega) (by omega)) (fun h24 _ Jh24 P23 => ?_)
      have Ih24 := H.1 h24 Jh24
      obtain ⟨z25, rfl, az25, bz25⟩ := P23
      refine ty_callj 0 (W := ty_Wx) H Jh24 rfl (fun _ => rfl) rfl rfl rfl (hq_pre_o Ih24.1 (x := 97) (ci := 11) rfl (by decide) rfl rfl rfl rfl) (fun a k w => by unfold ty_Wy at w; unfold ty_Wx; omega) (by unfold ty_Wy ty_Wx; omega) (ct_206 (x1 := x1) (x2 := z25) (by omega) (by omega) (by omega)) (fun h27 _ Jh27 P26 => ?_)
      have Ih27 := H.1 h27 Jh27
      obtain ⟨z28, rfl, az28, bz28⟩ := P26
      exact hq_W.ret rfl rfl rfl ⟨Jh27, _, rfl, by omega, by omega⟩
    · refine ty_td rfl c7 (by decide) ?_
      refine hq_p rfl rfl (ty_ge (n := -1) nk_im1 (fun z29 ez29 => ?_))
      exact hq_W.ret rfl rfl rfl ⟨Jh2, _, rfl, by omega, by omega⟩
  · clear iz4
    refine hq_p rfl rfl (ty_ge (n := -1) nk_im1 (fun z30 ez30 => ?_))
    exact hq_W.ret rfl rfl rfl ⟨Jh2, _, rfl, by omega, by omega⟩
theorem ct_158 {X : pm_X} {d : Nat} {h : pm_H} {x1 : Int32} {x2 : Int32} {x3 : Int32} (hd : 6 ≤ d)  : ty_M X ty_Wx d 158 [.ref 97, .int x1, .int x2, .int x3] h (ty_pi (-1) 20) := by
  intro J H hJ
  obtain ⟨d, rfl⟩ : ∃ e, d = e + 1 := ⟨d - 1, by omega⟩
  have I := H.1 h hJ
  have ax1 := nm_lo x1
  have bx1 := nm_hi x1
  have ax2 := nm_lo x2
  have bx2 := nm_hi x2
  have ax3 := nm_lo x3
  have bx3 := nm_hi x3
  refine hq_M.enter (q := (⟨"TrainBearersModel", "asks", "(III)I"⟩, _, 4, some .int, 11, 4, pm_c158)) rfl rfl ?_
  show hq_W X d 11 false (some .int) pm_c158 (0, [some (.ref 97), some (.int x1), some (.int x2), some (.int x3)], [], h) (fun h' v => J h' ∧ (ty_pi (-1) 20) h' v)
  refine hq_p rfl rfl ?_
  refine hq_p rfl rfl (ty_ge (n := 0) nk_i0 (fun z1 ez1 => ?_))
  refine ty_pI (W := ty_Wx) H hJ rfl rfl (by decide) rfl rfl (by unfold ty_Wx; omega) rfl (by omega) (by omega) (fun h2 eh2 Jh2 => ?_)
  have wh2 : (hs_fI h2 97 0).toInt = z1.toInt := by rw [eh2]; exact congrArg Int32.toInt (ty_fI_eq I.1 rfl (by decide) rfl)
  have Ih2 := H.1 h2 Jh2
  refine hq_p rfl rfl ?_
  refine hq_p rfl rfl ?_
  refine ty_callp 0 Ih2 rfl (fun _ => rfl) rfl rfl rfl (hq_pre_o Ih2.1 (x := 97) (ci := 11) rfl (by decide) rfl rfl rfl rfl) (ct_150 (x1 := x1) (by omega)) (fun _ P3 => ?_)
  obtain ⟨z4, rfl, az4, bz4, iz4⟩ := P3
  refine ty_zeq rfl (fun c5 => ?_) (fun c5 => ?_)
  · clear iz4
    refine hq_p rfl rfl (ty_ge (n := -1) nk_im1 (fun z6 ez6 => ?_))
    exact hq_W.ret rfl rfl rfl ⟨Jh2, _, rfl, by omega, by omega⟩
  · replace c5 : 1 ≤ z4.toInt ∧ z4.toInt ≤ 1 := by omega
    have f7 := iz4 (by omega)
    clear iz4
    refine hq_p rfl rfl ?_
    refine hq_p rfl rfl ?_
    refine ty_callp 0 Ih2 rfl (fun _ => rfl) rfl rfl rfl (hq_pre_o Ih2.1 (x := 97) (ci := 11) rfl (by decide) rfl rfl rfl rfl) (ct_149 (x1 := x2) (by omega)) (fun _ P8 => ?_)
    obtain ⟨z9, rfl, az9, bz9, iz9⟩ := P8
    refine ty_zeq rfl (fun c10 => ?_) (fun c10 => ?_)
    · clear iz9
      refine hq_p rfl rfl (ty_ge (n := -1) nk_im1 (fun z11 ez11 => ?_))
      exact hq_W.ret rfl rfl rfl ⟨Jh2, _, rfl, by omega, by omega⟩
    · replace c10 : 1 ≤ z9.toInt ∧ z9.toInt ≤ 1 := by omega
      have f12 := iz9 (by omega)
      clear iz9
      refine hq_p rfl rfl ?_
      refine hq_p rfl rfl (ty_gle (n := x3.toInt) (nm_i2l _) (fun z13 ez13 => ?_))
      refine hq_p rfl rfl (ty_gle (n := 0) (by decide) (fun z14 ez14 => ?_))
      refine hq_p rfl rfl (ty_gle (n := 1) (by decide) (fun z15 ez15 => ?_))
      refine ty_callp 1 Ih2 rfl (fun _ => rfl) rfl rfl rfl rfl (ct_136 (x0 := z13) (x1 := z14) (x2 := z15) (by omega)) (fun _ P16 => ?_)
      obtain ⟨z17, rfl, az17, bz17, iz17⟩ := P16
      refine ty_zne rfl (fun c18 => ?_) (fun c18 => ?_)
      · replace c18 : 1 ≤ z17.toInt ∧ z17.toInt ≤ 1 := by omega
        have f19 := iz17 (by omega)
        clear iz17
        refine hq_p rfl rfl ?_
        refine ty_zne rfl (fun c20 => ?_) (fun c20 => ?_)
        · replace c20 : 1 ≤ x3.toInt ∧ x3.toInt ≤ 1 := by omega
          refine hq_p rfl rfl ?_
          refine hq_p rfl rfl ?_
          refine hq_p rfl rfl ?_
          refine ty_callj 0 (W := ty_Wx) H Jh2 rfl (fun _ => rfl) rfl rfl rfl (hq_pre_o Ih2.1 (x := 97) (ci := 11) rfl (by decide) rfl rfl rfl rfl) (fun a k w => by unfold ty_Wy at w; unfold ty_Wx; omega) (by unfold ty_Wy ty_Wx; omega) (ct_204 (x1 := x1) (x2 := x2) (by omega) (by omega) (by omega) (by omega) (by omega)) (fun h22 _ Jh22 P21 => ?_)
          have Ih22 := H.1 h22 Jh22
          obtain ⟨z23, rfl, az23, bz23⟩ := P21
          refine ty_zeq rfl (fun c24 => ?_) (fun c24 => ?_)
          · refine hq_p rfl rfl (ty_ge (n := 0) nk_i0 (fun z25 ez25 => ?_))
            exact hq_W.ret rfl rfl rfl ⟨Jh22, _, rfl, by omega, by omega⟩
          · replace c24 : 1 ≤ z23.toInt ∧ z23.toInt ≤ 1 := by omega
            refine hq_p rfl rfl (ty_ge (n := 1) nk_i1 (fun z26 ez26 => ?_))
            refine hq_p rfl rfl ?_
            exact hq_W.ret rfl rfl rfl ⟨Jh22, _, rfl, by omega, by omega⟩
        · refine hq_p rfl rfl ?_
          refine hq_p rfl rfl ?_
          refine hq_p rfl rfl ?_
          refine ty_callj 0 (W := ty_Wx) H Jh2 rfl (fun _ => rfl) rfl rfl rfl (hq_pre_o Ih2.1 (x := 97) (ci := 11) rfl (by decide) rfl rfl rfl rfl) (fun a k w => by unfold ty_Wy at w; unfold ty_Wx; omega) (by unfold ty_Wy ty_Wx; omega) (ct_203 (x1 := x1) (x2 := x2) (by omega) (by omega) (by omega) (by omega) (by omega)) (fun h28 _ Jh28 P27 => ?_)
          have Ih28 := H.1 h28 Jh28
          obtain ⟨z29, rfl, az29, bz29⟩ := P27
          refine hq_p rfl rfl ?_
          exact hq_W.ret rfl rfl rfl ⟨Jh28, _, rfl, by omega, by omega⟩
      · clear iz17
        refine hq_p rfl rfl (ty_ge (n := -1) nk_im1 (fun z30 ez30 => ?_))
        exact hq_W.ret rfl rfl rfl ⟨Jh2, _, rfl, by omega, by omega⟩
theorem ct_214 {X : pm_X} {d : Nat} {h : pm_H}  (hd : 7 ≤ d)  : ty_M X ty_Wx d 214 [.ref 97] h ty_pv := by
  intro J H hJ
  obtain ⟨d, rfl⟩ : ∃ e, d = e + 1 := ⟨d - 1, by omega⟩
  have I := H.1 h hJ
  refine hq_M.enter (q := (⟨"TrainBearersModel", "layDips", "()V"⟩, _, 2, none, 11, 1, pm_c214)) rfl rfl ?_
  show hq_W X d 11 false (none) pm_c214 (0, [some (.ref 97), none], [], h) (fun h' v => J h' ∧ ty_pv h' v)
  refine hq_p rfl rfl (ty_ge (n := 0) nk_i0 (fun z1 ez1 => ?_))
  refine hq_p (ls' := [some (.ref 97), some (.int z1)]) rfl rfl ?_
  have L2_n24 : ∀ n24 : Nat, ∀ (y20 : Int32) (h21 : pm_H), (8 - y20.toInt).toNat = n24 → 0 ≤ y20.toInt → y20.toInt ≤ 8 → J h21 → hq_W X d 11 false (none) pm_c214 (2, [some (.ref 97), some (.int y20)], [], h21) (fun h' v => J h' ∧ ty_pv h' v) := by
    intro n24
    induction n24 using Nat.strongRecOn with
    | ind n24 ihn24 =>
      intro y20 h21 mn24 ay20 by20 Jh21
      have Ih21 := H.1 h21 Jh21
      refine hq_p rfl rfl ?_
      refine hq_p rfl rfl ?_
      refine hq_gR Ih21.1 rfl rfl (by decide) (by decide) rfl ?_
      refine hq_p rfl rfl (ty_ge (n := 0) nk_i0 (fun z25 ez25 => ?_))
      refine ty_aL Ih21 rfl rfl (by decide) (by omega) (by omega) (fun i e => ty_le (ty_w0 (by omega) (by omega))) (fun z26 ez26 az26 bz26 => ?_)
      rw [show z25.toInt.toNat = 0 by omega] at ez26
      refine ty_ige rfl (fun c27 => ?_) (fun c27 => ?_)
      · exact hq_W.ret rfl rfl rfl ⟨Jh21, rfl⟩
      · refine hq_p rfl rfl ?_
        refine hq_gR Ih21.1 rfl rfl (by decide) (by decide) rfl ?_
        refine hq_p rfl rfl ?_
        refine hq_p rfl rfl ?_
        refine hq_p rfl rfl ?_
        refine hq_p rfl rfl ?_
        refine hq_p rfl rfl ?_
        refine ty_callp 0 Ih21 rfl (fun _ => rfl) rfl rfl rfl (hq_pre_o Ih21.1 (x := 97) (ci := 11) rfl (by decide) rfl rfl rfl rfl) (ct_152 (x1 := y20) (by omega)) (fun _ P28 => ?_)
        obtain ⟨z29, rfl, az29, bz29⟩ := P28
        refine ty_callj 0 (W := ty_Wx) H Jh21 rfl (fun _ => rfl) rfl rfl rfl (hq_pre_o Ih21.1 (x := 97) (ci := 11) rfl (by decide) rfl rfl rfl rfl) (fun a k w => by unfold ty_Wy at w; unfold ty_Wx; omega) (by unfold ty_Wy ty_Wx; omega) (ct_207 (x1 := y20) (x2 := z29) (by omega) (by omega) (by omega)) (fun h31 _ Jh31 P30 => ?_)
        have Ih31 := H.1 h31 Jh31
        obtain ⟨z32, rfl, az32, bz32⟩ := P30
        refine ty_aS (W := ty_Wx) H Jh31 rfl rfl (by decide) (by omega) (by omega) (fun i e => by unfold ty_Wx; omega) (fun _ _ => ty_eg rfl) (by omega) (by omega) (fun e1 e2 w => by omega) (fun h33 eh33 Jh33 => ?_)
        have Ih33 := H.1 h33 Jh33
        refine ty_inc (ls' := fun z34 => [some (.ref 97), some (.int z34)]) rfl rfl (fun _ => rfl) (nm_addc nk_i1 (by omega) (by omega)) (fun z34 ez34 => ?_)
        refine hq_p rfl rfl ?_
        exact ihn24 ((8 - z34.toInt).toNat) (by omega) z34 h33 rfl (by omega) (by omega) Jh33
  exact L2_n24 _ z1 h rfl (by omega) (by omega) hJ
set_option maxRecDepth 8000 in
theorem ct_216 {X : pm_X} {d : Nat} {h : pm_H} {x1 : Int32} (hd : 8 ≤ d) (ax1 : 0 ≤ x1.toInt) (bx1 : x1.toInt ≤ 5) : ty_M X ty_Wk d 216 [.ref 97, .int x1] h (ty_pi 0 792) := by
  intro J H hJ
  obtain ⟨d, rfl⟩ : ∃ e, d = e + 1 := ⟨d - 1, by omega⟩
  have I := H.1 h hJ
  refine hq_M.enter (q := (⟨"TrainBearersModel", "walkIt", "(I)I"⟩, _, 5, some .int, 11, 2, pm_c216)) rfl rfl ?_
  show hq_W X d 11 false (some .int) pm_c216 (0, [some (.ref 97), some (.int x1), none, none, none], [], h) (fun h' v => J h' ∧ (ty_pi 0 792) h' v)
  refine hq_p rfl rfl ?_
  refine hq_gR I.1 rfl rfl (by decide) (by decide) rfl ?_
  refine hq_p rfl rfl (ty_ge (n := 50) nk_b50 (fun z1 ez1 => ?_))
  refine hq_p rfl rfl (ty_ge (n := 6) nk_b6 (fun z2 ez2 => ?_))
  refine hq_p rfl rfl ?_
  refine hq_gR I.1 rfl rfl (by decide) (by decide) rfl ?_
  refine hq_p rfl rfl (ty_ge (n := 8) nk_b8 (fun z3 ez3 => ?_))
  refine ty_aL I rfl rfl (by decide) (by omega) (by omega) (fun i e => ty_le (ty_w8 (by omega) (by omega))) (fun z4 ez4 az4 bz4 => ?_)
  rw [show z3.toInt.toNat = 8 by omega] at ez4
  refine hq_p rfl rfl (ty_ge (n := 6 * z4.toInt) (nm_cmul ez2 (by omega) (by omega)) (fun z5 ez5 => ?_))
  refine hq_p rfl rfl (ty_ge (n := z1.toInt + z5.toInt) (nm_add (by omega) (by omega)) (fun z6 ez6 => ?_))
  refine hq_p rfl rfl ?_
  refine hq_p rfl rfl (ty_ge (n := z6.toInt + x1.toInt) (nm_add (by omega) (by omega)) (fun z7 ez7 => ?_))
  refine ty_aL I rfl rfl (by decide) (by omega) (by omega) (fun i e => ty_le (ty_w50 (by omega) (by omega))) (fun z8 ez8 az8 bz8 => ?_)
  refine hq_p (ls' := [some (.ref 97), some (.int x1), some (.int z8), none, none]) rfl rfl ?_
  refine hq_p rfl rfl ?_
  refine ty_callj 0 (W := ty_Wk) H hJ rfl (fun _ => rfl) rfl rfl rfl (hq_pre_o I.1 (x := 97) (ci := 11) rfl (by decide) rfl rfl rfl rfl) (fun a k w => by unfold ty_Wy at w; unfold ty_Wk; omega) (by unfold ty_Wy ty_Wk; omega) (ct_208 (by omega)) (fun h10 _ Jh10 P9 => ?_)
  have Ih10 := H.1 h10 Jh10
  obtain ⟨z11, rfl, az11, bz11⟩ := P9
  refine hq_p (ls' := [some (.ref 97), some (.int x1), some (.int z8), some (.int z11), none]) rfl rfl ?_
  refine hq_p rfl rfl ?_
  refine ty_callj 0 (W := ty_Wk) H Jh10 rfl (fun _ => rfl) rfl rfl rfl (hq_pre_o Ih10.1 (x := 97) (ci := 11) rfl (by decide) rfl rfl rfl rfl) (fun a k w => by unfold ty_Wx at w; unfold ty_Wk; omega) (by unfold ty_Wx ty_Wk; omega) (ct_214 (by omega)) (fun h13 _ Jh13 P12 => ?_)
  have Ih13 := H.1 h13 Jh13
  subst P12
  refine hq_p rfl rfl (ty_ge (n := 0) nk_i0 (fun z14 ez14 => ?_))
  refine hq_p (ls' := [some (.ref 97), some (.int x1), some (.int z8), some (.int z11), some (.int z14)]) rfl rfl ?_
  have L33_n37 : ∀ n37 : Nat, ∀ (y33 : Int32) (h34 : pm_H), (8 - y33.toInt).toNat = n37 → 0 ≤ y33.toInt → y33.toInt ≤ 8 → J h34 → hq_W X d 11 false (some .int) pm_c216 (33, [some (.ref 97), some (.int x1), some (.int z8), some (.int z11), some (.int y33)], [], h34) (fun h' v => J h' ∧ (ty_pi 0 792) h' v) := by
    intro n37
    induction n37 using Nat.strongRecOn with
    | ind n37 ihn37 =>
      intro y33 h34 mn37 ay33 by33 Jh34
      have Ih34 := H.1 h34 Jh34
      refine hq_p rfl rfl ?_
      refine hq_p rfl rfl ?_
      refine hq_gR Ih34.1 rfl rfl (by decide) (by decide) rfl ?_
      refine hq_p rfl rfl (ty_ge (n := 1) nk_i1 (fun z38 ez38 => ?_))
      refine ty_aL Ih34 rfl rfl (by decide) (by omega) (by omega) (fun i e => ty_le (ty_w0 (by omega) (by omega))) (fun z39 ez39 az39 bz39 => ?_)
      rw [show z38.toInt.toNat = 1 by omega] at ez39
      refine ty_ige rfl (fun c40 => ?_) (fun c40 => ?_)
      · refine hq_p rfl rfl ?_
        refine hq_gR Ih34.1 rfl rfl (by decide) (by decide) rfl ?_
        refine hq_p rfl rfl (ty_ge (n := 9) nk_b9 (fun z41 ez41 => ?_))
        refine hq_p rfl rfl ?_
        refine hq_gR Ih34.1 rfl rfl (by decide) (by decide) rfl ?_
        refine hq_p rfl rfl (ty_ge (n := 9) nk_b9 (fun z42 ez42 => ?_))
        refine ty_aL Ih34 rfl rfl (by decide) (by omega) (by omega) (fun i e => ty_le (ty_w9 (by omega) (by omega))) (fun z43 ez43 az43 bz43 => ?_)
        rw [show z42.toInt.toNat = 9 by omega] at ez43
        refine hq_p rfl rfl ?_
        refine hq_p rfl rfl (ty_ge (n := z43.toInt + z11.toInt) (nm_add (by omega) (by omega)) (fun z44 ez44 => ?_))
        refine hq_p rfl rfl (ty_gle (n := z44.toInt) (nm_i2l _) (fun z45 ez45 => ?_))
        refine hq_p rfl rfl (ty_ge (n := 0) nk_i0 (fun z46 ez46 => ?_))
        refine hq_p rfl rfl (ty_ge (n := 9999) nk_s9999 (fun z47 ez47 => ?_))
        refine ty_callp 1 Ih34 rfl (fun _ => rfl) rfl rfl rfl rfl (ct_139 (x0 := z45) (x1 := z46) (x2 := z47) (by omega) (by omega) (by omega) (by omega) (by omega)) (fun _ P48 => ?_)
        obtain ⟨z49, rfl, fz49⟩ := P48
        refine ty_aS (W := ty_Wk) H Jh34 rfl rfl (by decide) (by omega) (by omega) (fun i e => by unfold ty_Wk; omega) (fun i e => ty_eg (ty_w9 (by omega) (by omega))) (by omega) (by omega) (fun e1 e2 w => by omega) (fun h50 eh50 Jh50 => ?_)
        have Ih50 := H.1 h50 Jh50
        refine hq_p rfl rfl (ty_ge (n := 0) nk_i0 (fun z51 ez51 => ?_))
        refine hq_p (ls' := [some (.ref 97), some (.int x1), some (.int z8), some (.int z11), some (.int z51)]) rfl rfl ?_
        have L109_n74 : ∀ n74 : Nat, ∀ (y70 : Int32) (h71 : pm_H), (8 - y70.toInt).toNat = n74 → 0 ≤ y70.toInt → y70.toInt ≤ 8 → J h71 → hq_W X d 11 false (some .int) pm_c216 (109, [some (.ref 97), some (.int x1), some (.int z8), some (.int z11), some (.int y70)], [], h71) (fun h' v => J h' ∧ (ty_pi 0 792) h' v) := by
          intro n74
          induction n74 using Nat.strongRecOn with
          | ind n74 ihn74 =>
            intro y70 h71 mn74 ay70 by70 Jh71
            have Ih71 := H.1 h71 Jh71
            refine hq_p rfl rfl ?_
            refine hq_p rfl rfl ?_
            refine hq_gR Ih71.1 rfl rfl (by decide) (by decide) rfl ?_
            refine hq_p rfl rfl (ty_ge (n := 0) nk_i0 (fun z75 ez75 => ?_))
            refine ty_aL Ih71 rfl rfl (by decide) (by omega) (by omega) (fun i e => ty_le (ty_w0 (by omega) (by omega))) (fun z76 ez76 az76 bz76 => ?_)
            rw [show z75.toInt.toNat = 0 by omega] at ez76
            refine ty_ige rfl (fun c77 => ?_) (fun c77 => ?_)
            · refine hq_p rfl rfl (ty_ge (n := 0) nk_i0 (fun z78 ez78 => ?_))
              refine hq_p (ls' := [some (.ref 97), some (.int x1), some (.int z8), some (.int z11), some (.int z78)]) rfl rfl ?_
              have L172_n101 : ∀ n101 : Nat, ∀ (y97 : Int32) (h98 : pm_H), (8 - y97.toInt).toNat = n101 → 0 ≤ y97.toInt → y97.toInt ≤ 8 → J h98 → hq_W X d 11 false (some .int) pm_c216 (172, [some (.ref 97), some (.int x1), some (.int z8), some (.int z11), some (.int y97)], [], h98) (fun h' v => J h' ∧ (ty_pi 0 792) h' v) := by
                intro n101
                induction n101 using Nat.strongRecOn with
                | ind n101 ihn101 =>
                  intro y97 h98 mn101 ay97 by97 Jh98
                  have Ih98 := H.1 h98 Jh98
                  refine hq_p rfl rfl ?_
                  refine hq_p rfl rfl ?_
                  refine hq_gR Ih98.1 rfl rfl (by decide) (by decide) rfl ?_
                  refine hq_p rfl rfl (ty_ge (n := 1) nk_i1 (fun z102 ez102 => ?_))
                  refine ty_aL Ih98 rfl rfl (by decide) (by omega) (by omega) (fun i e => ty_le (ty_w0 (by omega) (by omega))) (fun z103 ez103 az103 bz103 => ?_)
                  rw [show z102.toInt.toNat = 1 by omega] at ez103
                  refine ty_ige rfl (fun c104 => ?_) (fun c104 => ?_)
                  · refine hq_p rfl rfl ?_
                    refine hq_gR Ih98.1 rfl rfl (by decide) (by decide) rfl ?_
                    refine hq_p rfl rfl (ty_ge (n := 8) nk_b8 (fun z105 ez105 => ?_))
                    refine hq_p rfl rfl ?_
                    refine ty_aS (W := ty_Wk) H Jh98 rfl rfl (by decide) (by omega) (by omega) (fun i e => by unfold ty_Wk; omega) (fun i e => ty_eg (ty_w8 (by omega) (by omega))) (by omega) (by omega) (fun e1 e2 w => by omega) (fun h106 eh106 Jh106 => ?_)
                    have Ih106 := H.1 h106 Jh106
                    refine hq_p rfl rfl ?_
                    exact hq_W.ret rfl rfl rfl ⟨Jh106, _, rfl, by omega, by omega⟩
                  · refine hq_p rfl rfl ?_
                    refine hq_gR Ih98.1 rfl rfl (by decide) (by decide) rfl ?_
                    refine hq_p rfl rfl (ty_ge (n := 18) nk_b18 (fun z107 ez107 => ?_))
                    refine hq_p rfl rfl ?_
                    refine hq_p rfl rfl (ty_ge (n := z107.toInt + y97.toInt) (nm_add (by omega) (by omega)) (fun z108 ez108 => ?_))
                    refine hq_p rfl rfl ?_
                    refine hq_gR Ih98.1 rfl rfl (by decide) (by decide) rfl ?_
                    refine hq_p rfl rfl (ty_ge (n := 18) nk_b18 (fun z109 ez109 => ?_))
                    refine hq_p rfl rfl ?_
                    refine hq_p rfl rfl (ty_ge (n := z109.toInt + y97.toInt) (nm_add (by omega) (by omega)) (fun z110 ez110 => ?_))
                    refine ty_aL Ih98 rfl rfl (by decide) (by omega) (by omega) (fun i e => ty_le (ty_w18 (by omega) (by omega))) (fun z111 ez111 az111 bz111 => ?_)
                    refine hq_p rfl rfl ?_
                    refine hq_gR Ih98.1 rfl rfl (by decide) (by decide) rfl ?_
                    refine hq_p rfl rfl ?_
                    refine ty_aL Ih98 rfl rfl (by decide) (by omega) (by omega) (fun _ _ => ty_le rfl) (fun z112 ez112 az112 bz112 => ?_)
                    refine hq_p rfl rfl (ty_ga (fun z113 az113 bz113 => ?_))
                    refine hq_p rfl rfl (ty_gle (n := z113.toInt) (nm_i2l _) (fun z114 ez114 => ?_))
                    refine hq_p rfl rfl (ty_ge (n := 0) nk_i0 (fun z115 ez115 => ?_))
                    refine hq_p rfl rfl (ty_ge (n := 9) nk_b9 (fun z116 ez116 => ?_))
                    refine ty_callp 1 Ih98 rfl (fun _ => rfl) rfl rfl rfl rfl (ct_139 (x0 := z114) (x1 := z115) (x2 := z116) (by omega) (by omega) (by omega) (by omega) (by omega)) (fun _ P117 => ?_)
                    obtain ⟨z118, rfl, fz118⟩ := P117
                    refine ty_aS (W := ty_Wk) H Jh98 rfl rfl (by decide) (by omega) (by omega) (fun i e => by unfold ty_Wk; omega) (fun i e => ty_eg (ty_w18 (by omega) (by omega))) (by omega) (by omega) (fun e1 e2 w => by omega) (fun h119 eh119 Jh119 => ?_)
                    have Ih119 := H.1 h119 Jh119
                    refine ty_inc (ls' := fun z120 => [some (.ref 97), some (.int x1), some (.int z8), some (.int z11), some (.int z120)]) rfl rfl (fun _ => rfl) (nm_addc nk_i1 (by omega) (by omega)) (fun z120 ez120 => ?_)
                    refine hq_p rfl rfl ?_
                    exact ihn101 ((8 - z120.toInt).toNat) (by omega) z120 h119 rfl (by omega) (by omega) Jh119
              exact L172_n101 _ z78 h71 rfl (by omega) (by omega) Jh71
            · refine hq_p rfl rfl ?_
              refine hq_gR Ih71.1 rfl rfl (by decide) (by decide) rfl ?_
              refine hq_p rfl rfl (ty_ge (n := 10) nk_b10 (fun z121 ez121 => ?_))
              refine hq_p rfl rfl ?_
              refine hq_p rfl rfl (ty_ge (n := z121.toInt + y70.toInt) (nm_add (by omega) (by omega)) (fun z122 ez122 => ?_))
              refine hq_p rfl rfl ?_
              refine hq_gR Ih71.1 rfl rfl (by decide) (by decide) rfl ?_
              refine hq_p rfl rfl (ty_ge (n := 10) nk_b10 (fun z123 ez123 => ?_))
              refine hq_p rfl rfl ?_
              refine hq_p rfl rfl (ty_ge (n := z123.toInt + y70.toInt) (nm_add (by omega) (by omega)) (fun z124 ez124 => ?_))
              refine ty_aL Ih71 rfl rfl (by decide) (by omega) (by omega) (fun i e => ty_le (ty_w10 (by omega) (by omega))) (fun z125 ez125 az125 bz125 => ?_)
              refine hq_p rfl rfl ?_
              refine hq_gR Ih71.1 rfl rfl (by decide) (by decide) rfl ?_
              refine hq_p rfl rfl ?_
              refine ty_aL Ih71 rfl rfl (by decide) (by omega) (by omega) (fun _ _ => ty_le rfl) (fun z126 ez126 az126 bz126 => ?_)
              refine ty_zle rfl (fun c127 => ?_) (fun c127 => ?_)
              · refine hq_p rfl rfl (ty_ge (n := 0) nk_i0 (fun z128 ez128 => ?_))
                refine hq_p rfl rfl (ty_ge (n := z125.toInt + z128.toInt) (nm_add (by omega) (by omega)) (fun z129 ez129 => ?_))
                refine hq_p rfl rfl (ty_gle (n := z129.toInt) (nm_i2l _) (fun z130 ez130 => ?_))
                refine hq_p rfl rfl (ty_ge (n := 0) nk_i0 (fun z131 ez131 => ?_))
                refine hq_p rfl rfl (ty_ge (n := 9) nk_b9 (fun z132 ez132 => ?_))
                refine ty_callp 1 Ih71 rfl (fun _ => rfl) rfl rfl rfl rfl (ct_139 (x0 := z130) (x1 := z131) (x2 := z132) (by omega) (by omega) (by omega) (by omega) (by omega)) (fun _ P133 => ?_)
                obtain ⟨z134, rfl, fz134⟩ := P133
                refine ty_aS (W := ty_Wk) H Jh71 rfl rfl (by decide) (by omega) (by omega) (fun i e => by unfold ty_Wk; omega) (fun i e => ty_eg (ty_w10 (by omega) (by omega))) (by omega) (by omega) (fun e1 e2 w => by omega) (fun h135 eh135 Jh135 => ?_)
                have Ih135 := H.1 h135 Jh135
                refine ty_inc (ls' := fun z136 => [some (.ref 97), some (.int x1), some (.int z8), some (.int z11), some (.int z136)]) rfl rfl (fun _ => rfl) (nm_addc nk_i1 (by omega) (by omega)) (fun z136 ez136 => ?_)
                refine hq_p rfl rfl ?_
                exact ihn74 ((8 - z136.toInt).toNat) (by omega) z136 h135 rfl (by omega) (by omega) Jh135
              · refine hq_p rfl rfl (ty_ge (n := 1) nk_i1 (fun z137 ez137 => ?_))
                refine hq_p rfl rfl ?_
                refine hq_p rfl rfl (ty_ge (n := z125.toInt + z137.toInt) (nm_add (by omega) (by omega)) (fun z138 ez138 => ?_))
                refine hq_p rfl rfl (ty_gle (n := z138.toInt) (nm_i2l _) (fun z139 ez139 => ?_))
                refine hq_p rfl rfl (ty_ge (n := 0) nk_i0 (fun z140 ez140 => ?_))
                refine hq_p rfl rfl (ty_ge (n := 9) nk_b9 (fun z141 ez141 => ?_))
                refine ty_callp 1 Ih71 rfl (fun _ => rfl) rfl rfl rfl rfl (ct_139 (x0 := z139) (x1 := z140) (x2 := z141) (by omega) (by omega) (by omega) (by omega) (by omega)) (fun _ P142 => ?_)
                obtain ⟨z143, rfl, fz143⟩ := P142
                refine ty_aS (W := ty_Wk) H Jh71 rfl rfl (by decide) (by omega) (by omega) (fun i e => by unfold ty_Wk; omega) (fun i e => ty_eg (ty_w10 (by omega) (by omega))) (by omega) (by omega) (fun e1 e2 w => by omega) (fun h144 eh144 Jh144 => ?_)
                have Ih144 := H.1 h144 Jh144
                refine ty_inc (ls' := fun z145 => [some (.ref 97), some (.int x1), some (.int z8), some (.int z11), some (.int z145)]) rfl rfl (fun _ => rfl) (nm_addc nk_i1 (by omega) (by omega)) (fun z145 ez145 => ?_)
                refine hq_p rfl rfl ?_
                exact ihn74 ((8 - z145.toInt).toNat) (by omega) z145 h144 rfl (by omega) (by omega) Jh144
        exact L109_n74 _ z51 h50 rfl (by omega) (by omega) Jh50
      · refine hq_p rfl rfl ?_
        refine hq_gR Ih34.1 rfl rfl (by decide) (by decide) rfl ?_
        refine hq_p rfl rfl ?_
        refine hq_p rfl rfl ?_
        refine hq_gR Ih34.1 rfl rfl (by decide) (by decide) rfl ?_
        refine hq_p rfl rfl (ty_ge (n := 26) nk_b26 (fun z146 ez146 => ?_))
        refine hq_p rfl rfl ?_
        refine hq_p rfl rfl (ty_ge (n := z146.toInt + y33.toInt) (nm_add (by omega) (by omega)) (fun z147 ez147 => ?_))
        refine ty_aL Ih34 rfl rfl (by decide) (by omega) (by omega) (fun i e => ty_le (ty_w26 (by omega) (by omega))) (fun z148 ez148 az148 bz148 => ?_)
        refine hq_p rfl rfl (ty_ge (n := -1) nk_im1 (fun z149 ez149 => ?_))
        refine ty_ine rfl (fun c150 => ?_) (fun c150 => ?_)
        · replace c150 : 0 ≤ z148.toInt ∧ z148.toInt ≤ 7 := by omega
          refine hq_p rfl rfl ?_
          refine hq_p rfl rfl ?_
          refine hq_p rfl rfl ?_
          refine ty_callj 0 (W := ty_Wk) H Jh34 rfl (fun _ => rfl) rfl rfl rfl (hq_pre_o Ih34.1 (x := 97) (ci := 11) rfl (by decide) rfl rfl rfl rfl) (fun a k w => by unfold ty_Wy at w; unfold ty_Wk; omega) (by unfold ty_Wy ty_Wk; omega) (ct_205 (x1 := y33) (x2 := z8) (by omega) (by omega) (by omega)) (fun h152 _ Jh152 P151 => ?_)
          have Ih152 := H.1 h152 Jh152
          obtain ⟨z153, rfl, az153, bz153⟩ := P151
          refine ty_aS (W := ty_Wk) H Jh152 rfl rfl (by decide) (by omega) (by omega) (fun i e => by unfold ty_Wk; omega) (fun _ _ => ty_eg rfl) (by omega) (by omega) (fun e1 e2 w => by omega) (fun h154 eh154 Jh154 => ?_)
          have Ih154 := H.1 h154 Jh154
          refine ty_inc (ls' := fun z155 => [some (.ref 97), some (.int x1), some (.int z8), some (.int z11), some (.int z155)]) rfl rfl (fun _ => rfl) (nm_addc nk_i1 (by omega) (by omega)) (fun z155 ez155 => ?_)
          refine hq_p rfl rfl ?_
          exact ihn37 ((8 - z155.toInt).toNat) (by omega) z155 h154 rfl (by omega) (by omega) Jh154
        · refine hq_p rfl rfl (ty_ge (n := 0) nk_i0 (fun z156 ez156 => ?_))
          refine hq_p rfl rfl ?_
          refine ty_aS (W := ty_Wk) H Jh34 rfl rfl (by decide) (by omega) (by omega) (fun i e => by unfold ty_Wk; omega) (fun _ _ => ty_eg rfl) (by omega) (by omega) (fun e1 e2 w => by omega) (fun h157 eh157 Jh157 => ?_)
          have Ih157 := H.1 h157 Jh157
          refine ty_inc (ls' := fun z158 => [some (.ref 97), some (.int x1), some (.int z8), some (.int z11), some (.int z158)]) rfl rfl (fun _ => rfl) (nm_addc nk_i1 (by omega) (by omega)) (fun z158 ez158 => ?_)
          refine hq_p rfl rfl ?_
          exact ihn37 ((8 - z158.toInt).toNat) (by omega) z158 h157 rfl (by omega) (by omega) Jh157
  exact L33_n37 _ z14 h13 rfl (by omega) (by omega) Jh13
theorem ct_241 {X : pm_X} {d : Nat} {h : pm_H}  (hd : 8 ≤ d)  : ty_M X ty_Wx d 241 [.ref 97] h (ty_pi (-2147483648) 2147483647) := by
  intro J H hJ
  obtain ⟨d, rfl⟩ : ∃ e, d = e + 1 := ⟨d - 1, by omega⟩
  have I := H.1 h hJ
  refine hq_M.enter (q := (⟨"TrainBearersModel", "far", "()I"⟩, _, 4, some .int, 11, 1, pm_c241)) rfl rfl ?_
  show hq_W X d 11 false (some .int) pm_c241 (0, [some (.ref 97), none, none, none], [], h) (fun h' v => J h' ∧ (ty_pi (-2147483648) 2147483647) h' v)
  refine hq_p rfl rfl ?_
  refine hq_p rfl rfl (ty_ge (n := 0) nk_i0 (fun z1 ez1 => ?_))
  refine ty_pI (W := ty_Wx) H hJ rfl rfl (by decide) rfl rfl (by unfold ty_Wx; omega) rfl (by omega) (by omega) (fun h2 eh2 Jh2 => ?_)
  have wh2 : (hs_fI h2 97 0).toInt = z1.toInt := by rw [eh2]; exact congrArg Int32.toInt (ty_fI_eq I.1 rfl (by decide) rfl)
  have Ih2 := H.1 h2 Jh2
  refine hq_p rfl rfl (ty_ge (n := 0) nk_i0 (fun z3 ez3 => ?_))
  refine hq_p (ls' := [some (.ref 97), some (.int z3), none, none]) rfl rfl ?_
  refine hq_p rfl rfl ?_
  refine ty_callj 0 (W := ty_Wx) H Jh2 rfl (fun _ => rfl) rfl rfl rfl (hq_pre_o Ih2.1 (x := 97) (ci := 11) rfl (by decide) rfl rfl rfl rfl) (fun a k w => by unfold ty_Wy at w; unfold ty_Wx; omega) (by unfold ty_Wy ty_Wx; omega) (ct_208 (by omega)) (fun h5 _ Jh5 P4 => ?_)
  have Ih5 := H.1 h5 Jh5
  obtain ⟨z6, rfl, az6, bz6⟩ := P4
  refine ty_zne rfl (fun c7 => ?_) (fun c7 => ?_)
  · replace c7 : 1 ≤ z6.toInt ∧ z6.toInt ≤ 792 := by omega
    refine hq_p rfl rfl (ty_ge (n := 0) nk_i0 (fun z8 ez8 => ?_))
    refine hq_p (ls' := [some (.ref 97), some (.int z3), some (.int z8), none]) rfl rfl ?_
    refine hq_p rfl rfl (ty_ge (n := 0) nk_i0 (fun z9 ez9 => ?_))
    refine hq_p (ls' := [some (.ref 97), some (.int z3), some (.int z8), some (.int z9)]) rfl rfl ?_
    have L22_n28 : ∀ n28 : Nat, ∀ (y24 : Int32) (y25 : Int32), (6 - y25.toInt).toNat = n28 → 0 ≤ y24.toInt → y24.toInt ≤ 255 → 0 ≤ y25.toInt → y25.toInt ≤ 6 → hq_W X d 11 false (some .int) pm_c241 (22, [some (.ref 97), some (.int y24), some (.int z8), some (.int y25)], [], h5) (fun h' v => J h' ∧ (ty_pi (-2147483648) 2147483647) h' v) := by
      intro n28
      induction n28 using Nat.strongRecOn with
      | ind n28 ihn28 =>
        intro y24 y25 mn28 ay24 by24 ay25 by25
        refine hq_p rfl rfl ?_
        refine hq_p rfl rfl (ty_ge (n := 6) nk_b6 (fun z29 ez29 => ?_))
        refine ty_ige rfl (fun c30 => ?_) (fun c30 => ?_)
        · refine hq_p rfl rfl ?_
          exact hq_W.ret rfl rfl rfl ⟨Jh5, _, rfl, by omega, by omega⟩
        · refine hq_p rfl rfl ?_
          refine hq_p rfl rfl ?_
          refine ty_zeq rfl (fun c31 => ?_) (fun c31 => ?_)
          · refine hq_p rfl rfl (ty_ge (n := 0) nk_i0 (fun z32 ez32 => ?_))
            refine hq_p rfl rfl (ty_gb (c := y24 ||| z32) (lo := 0) (hi := 255) (by have q := nm_or8 (x := y24) (y := z32) (by omega) (by omega) (by omega) (by omega); omega) (fun z33 az33 bz33 => ?_))
            refine hq_p (ls' := [some (.ref 97), some (.int z33), some (.int z8), some (.int y25)]) rfl rfl ?_
            refine ty_inc (ls' := fun z34 => [some (.ref 97), some (.int z33), some (.int z8), some (.int z34)]) rfl rfl (fun _ => rfl) (nm_addc nk_i1 (by omega) (by omega)) (fun z34 ez34 => ?_)
            refine hq_p rfl rfl ?_
            exact ihn28 ((6 - z34.toInt).toNat) (by omega) z33 z34 rfl (by omega) (by omega) (by omega) (by omega)
          · exfalso; omega
    exact L22_n28 _ z3 z9 rfl (by omega) (by omega) (by omega) (by omega)
  · refine hq_p rfl rfl (ty_ge (n := 1) nk_i1 (fun z35 ez35 => ?_))
    refine hq_p rfl rfl ?_
    refine hq_p (ls' := [some (.ref 97), some (.int z3), some (.int z35), none]) rfl rfl ?_
    refine hq_p rfl rfl (ty_ge (n := 0) nk_i0 (fun z36 ez36 => ?_))
    refine hq_p (ls' := [some (.ref 97), some (.int z3), some (.int z35), some (.int z36)]) rfl rfl ?_
    have L22_n55 : ∀ n55 : Nat, ∀ (y51 : Int32) (y52 : Int32), (6 - y52.toInt).toNat = n55 → -2147483648 ≤ y51.toInt → y51.toInt ≤ 2147483647 → 0 ≤ y52.toInt → y52.toInt ≤ 6 → hq_W X d 11 false (some .int) pm_c241 (22, [some (.ref 97), some (.int y51), some (.int z35), some (.int y52)], [], h5) (fun h' v => J h' ∧ (ty_pi (-2147483648) 2147483647) h' v) := by
      intro n55
      induction n55 using Nat.strongRecOn with
      | ind n55 ihn55 =>
        intro y51 y52 mn55 ay51 by51 ay52 by52
        refine hq_p rfl rfl ?_
        refine hq_p rfl rfl (ty_ge (n := 6) nk_b6 (fun z56 ez56 => ?_))
        refine ty_ige rfl (fun c57 => ?_) (fun c57 => ?_)
        · refine hq_p rfl rfl ?_
          exact hq_W.ret rfl rfl rfl ⟨Jh5, _, rfl, by omega, by omega⟩
        · refine hq_p rfl rfl ?_
          refine hq_p rfl rfl ?_
          refine ty_zeq rfl (fun c58 => ?_) (fun c58 => ?_)
          · exfalso; omega
          · clear c58
            refine hq_p rfl rfl ?_
            refine hq_p rfl rfl ?_
            refine ty_callp 0 Ih5 rfl (fun _ => rfl) rfl rfl rfl (hq_pre_o Ih5.1 (x := 97) (ci := 11) rfl (by decide) rfl rfl rfl rfl) (ct_215 (x1 := y52) (by omega) (by omega) (by omega)) (fun _ P59 => ?_)
            obtain ⟨z60, rfl, az60, bz60⟩ := P59
            refine ty_zeq rfl (fun c61 => ?_) (fun c61 => ?_)
            · refine hq_p rfl rfl (ty_ge (n := 0) nk_i0 (fun z62 ez62 => ?_))
              refine hq_p rfl rfl (ty_ga (fun z63 az63 bz63 => ?_))
              refine hq_p (ls' := [some (.ref 97), some (.int z63), some (.int z35), some (.int y52)]) rfl rfl ?_
              refine ty_inc (ls' := fun z64 => [some (.ref 97), some (.int z63), some (.int z35), some (.int z64)]) rfl rfl (fun _ => rfl) (nm_addc nk_i1 (by omega) (by omega)) (fun z64 ez64 => ?_)
              refine hq_p rfl rfl ?_
              exact ihn55 ((6 - z64.toInt).toNat) (by omega) z63 z64 rfl (by omega) (by omega) (by omega) (by omega)
            · replace c61 : 1 ≤ z60.toInt ∧ z60.toInt ≤ 1 := by omega
              refine hq_p rfl rfl (ty_ge (n := 1) nk_i1 (fun z65 ez65 => ?_))
              refine hq_p rfl rfl ?_
              refine hq_p rfl rfl (ty_gb (c := z65 <<< (y52 &&& 31)) (lo := 1) (hi := 256) (by have q := nm_shl1 (x := z65) (y := y52) (by omega) (by omega) (by omega); omega) (fun z66 az66 bz66 => ?_))
              refine hq_p rfl rfl ?_
              refine hq_p rfl rfl (ty_ga (fun z67 az67 bz67 => ?_))
              refine hq_p (ls' := [some (.ref 97), some (.int z67), some (.int z35), some (.int y52)]) rfl rfl ?_
              refine ty_inc (ls' := fun z68 => [some (.ref 97), some (.int z67), some (.int z35), some (.int z68)]) rfl rfl (fun _ => rfl) (nm_addc nk_i1 (by omega) (by omega)) (fun z68 ez68 => ?_)
              refine hq_p rfl rfl ?_
              exact ihn55 ((6 - z68.toInt).toNat) (by omega) z67 z68 rfl (by omega) (by omega) (by omega) (by omega)
    exact L22_n55 _ z3 z36 rfl (by omega) (by omega) (by omega) (by omega)
theorem ct_243 {X : pm_X} {d : Nat} {h : pm_H} {x1 : Int32} (hd : 8 ≤ d)  : ty_M X ty_Wx d 243 [.ref 97, .int x1] h (ty_pi (-1) 792) := by
  intro J H hJ
  obtain ⟨d, rfl⟩ : ∃ e, d = e + 1 := ⟨d - 1, by omega⟩
  have I := H.1 h hJ
  have ax1 := nm_lo x1
  have bx1 := nm_hi x1
  refine hq_M.enter (q := (⟨"TrainBearersModel", "compare", "(I)I"⟩, _, 4, some .int, 11, 2, pm_c243)) rfl rfl ?_
  show hq_W X d 11 false (some .int) pm_c243 (0, [some (.ref 97), some (.int x1), none, none], [], h) (fun h' v => J h' ∧ (ty_pi (-1) 792) h' v)
  refine hq_p rfl rfl ?_
  refine hq_p rfl rfl (ty_ge (n := 0) nk_i0 (fun z1 ez1 => ?_))
  refine ty_pI (W := ty_Wx) H hJ rfl rfl (by decide) rfl rfl (by unfold ty_Wx; omega) rfl (by omega) (by omega) (fun h2 eh2 Jh2 => ?_)
  have wh2 : (hs_fI h2 97 0).toInt = z1.toInt := by rw [eh2]; exact congrArg Int32.toInt (ty_fI_eq I.1 rfl (by decide) rfl)
  have Ih2 := H.1 h2 Jh2
  refine hq_p rfl rfl ?_
  refine hq_p rfl rfl ?_
  refine ty_callp 0 Ih2 rfl (fun _ => rfl) rfl rfl rfl (hq_pre_o Ih2.1 (x := 97) (ci := 11) rfl (by decide) rfl rfl rfl rfl) (ct_197 (x1 := x1) (by omega)) (fun _ P3 => ?_)
  obtain ⟨z4, rfl, az4, bz4, iz4⟩ := P3
  refine ty_zne rfl (fun c5 => ?_) (fun c5 => ?_)
  · replace c5 : 1 ≤ z4.toInt ∧ z4.toInt ≤ 1 := by omega
    have f6 := iz4 (by omega)
    clear iz4
    refine hq_p rfl rfl ?_
    refine hq_gR Ih2.1 rfl rfl (by decide) (by decide) rfl ?_
    refine hq_p rfl rfl (ty_ge (n := 4) nk_i4 (fun z7 ez7 => ?_))
    refine ty_aL Ih2 rfl rfl (by decide) (by omega) (by omega) (fun i e => ty_le (ty_w4 (by omega) (by omega))) (fun z8 ez8 az8 bz8 => ?_)
    rw [show z7.toInt.toNat = 4 by omega] at ez8
    refine hq_p (ls' := [some (.ref 97), some (.int x1), some (.int z8), none]) rfl rfl ?_
    refine hq_p rfl rfl ?_
    refine hq_gR Ih2.1 rfl rfl (by decide) (by decide) rfl ?_
    refine hq_p rfl rfl (ty_ge (n := 4) nk_i4 (fun z9 ez9 => ?_))
    refine hq_p rfl rfl ?_
    refine ty_aS (W := ty_Wx) H Jh2 rfl rfl (by decide) (by omega) (by omega) (fun i e => by unfold ty_Wx; omega) (fun i e => ty_eg (ty_w4 (by omega) (by omega))) (by omega) (by omega) (fun e1 e2 w => by omega) (fun h10 eh10 Jh10 => ?_)
    have Ih10 := H.1 h10 Jh10
    refine hq_p rfl rfl ?_
    refine ty_callj 0 (W := ty_Wx) H Jh10 rfl (fun _ => rfl) rfl rfl rfl (hq_pre_o Ih10.1 (x := 97) (ci := 11) rfl (by decide) rfl rfl rfl rfl) (fun a k w => by unfold ty_Wy at w; unfold ty_Wx; omega) (by unfold ty_Wy ty_Wx; omega) (ct_208 (by omega)) (fun h12 _ Jh12 P11 => ?_)
    have Ih12 := H.1 h12 Jh12
    obtain ⟨z13, rfl, az13, bz13⟩ := P11
    refine hq_p (ls' := [some (.ref 97), some (.int x1), some (.int z8), some (.int z13)]) rfl rfl ?_
    refine hq_p rfl rfl ?_
    refine hq_gR Ih12.1 rfl rfl (by decide) (by decide) rfl ?_
    refine hq_p rfl rfl (ty_ge (n := 4) nk_i4 (fun z14 ez14 => ?_))
    refine hq_p rfl rfl ?_
    refine ty_aS (W := ty_Wx) H Jh12 rfl rfl (by decide) (by omega) (by omega) (fun i e => by unfold ty_Wx; omega) (fun i e => ty_eg (ty_w4 (by omega) (by omega))) (by omega) (by omega) (fun e1 e2 w => by omega) (fun h15 eh15 Jh15 => ?_)
    have Ih15 := H.1 h15 Jh15
    refine hq_p rfl rfl ?_
    exact hq_W.ret rfl rfl rfl ⟨Jh15, _, rfl, by omega, by omega⟩
  · clear iz4
    refine hq_p rfl rfl (ty_ge (n := -1) nk_im1 (fun z16 ez16 => ?_))
    exact hq_W.ret rfl rfl rfl ⟨Jh2, _, rfl, by omega, by omega⟩
end CT4
