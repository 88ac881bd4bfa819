/-! CONTRACTS (printed by wip/pm/cts.py) -/
section CT37
theorem ct_147 {X : pm_X} {d : Nat} {h : pm_H} {x1 : Int32} (hd : 2 ≤ d) {J : pm_H → Prop} (H : ty_C ty_Wx J) (hJ : J h) (hI : ∀ h k, J h → k < 2 → J (im_h h k)) : hq_M X d 147 [.ref 97, .int x1] h (fun h' v => J h' ∧ (ty_pi (-1) 0) h' v) := by
  obtain ⟨d, rfl⟩ : ∃ e, d = e + 1 := ⟨d - 1, by omega⟩
  have I := H.1 h hJ
  have ax1 := nm_lo x1
  have bx1 := nm_hi x1
  refine hq_M.enter (q := (⟨"TrainBearersModel", "image", "(I)I"⟩, _, 3, some .int, 11, 2, pm_c147)) rfl rfl ?_
  show hq_W X d 11 false (some .int) pm_c147 (0, [some (.ref 97), some (.int x1), none], [], h) (fun h' v => J h' ∧ (ty_pi (-1) 0) h' v)
  refine hq_p rfl rfl ?_
  refine hq_p rfl rfl (ty_ge (n := 0) nk_i0 (fun z1 ez1 => ?_))
  refine ty_pI (W := ty_Wx) H hJ rfl rfl (by decide) rfl rfl (by unfold ty_Wx; omega) rfl (by omega) (by omega) (fun h2 eh2 Jh2 => ?_)
  have wh2 : (hs_fI h2 97 0).toInt = z1.toInt := by rw [eh2]; exact congrArg Int32.toInt (ty_fI_eq I.1 rfl (by decide) rfl)
  have Ih2 := H.1 h2 Jh2
  refine hq_p rfl rfl ?_
  refine hq_p rfl rfl (ty_gle (n := x1.toInt) (nm_i2l _) (fun z3 ez3 => ?_))
  refine hq_p rfl rfl (ty_gle (n := 0) (by decide) (fun z4 ez4 => ?_))
  refine hq_p rfl rfl (ty_gle (n := 1) (by decide) (fun z5 ez5 => ?_))
  refine ty_callp 1 Ih2 rfl (fun _ => rfl) rfl rfl rfl rfl (ct_136 (x0 := z3) (x1 := z4) (x2 := z5) (by omega)) (fun _ P6 => ?_)
  obtain ⟨z7, rfl, az7, bz7, iz7⟩ := P6
  refine ty_zne rfl (fun c8 => ?_) (fun c8 => ?_)
  · replace c8 : 1 ≤ z7.toInt ∧ z7.toInt ≤ 1 := by omega
    have f9 := iz7 (by omega)
    clear iz7
    refine hq_p rfl rfl (ty_ge (n := 0) nk_i0 (fun z10 ez10 => ?_))
    refine hq_p (ls' := [some (.ref 97), some (.int x1), some (.int z10)]) rfl rfl ?_
    refine im_loop (by omega) (by omega) Ih2.1 (fun z12 => ?_) (by omega)
    have Jh11 := hI h2 x1.toInt.toNat Jh2 (by omega)
    obtain ⟨h11, eh11⟩ : ∃ q, im_h h2 x1.toInt.toNat = q := ⟨_, rfl⟩
    rw [eh11] at Jh11 ⊢
    have Ih11 := H.1 h11 Jh11
    have az12 := nm_lo z12
    have bz12 := nm_hi z12
    refine hq_p rfl rfl ?_
    refine hq_gR Ih11.1 rfl rfl (by decide) (by decide) rfl ?_
    refine hq_p rfl rfl ?_
    refine hq_p rfl rfl (ty_ge (n := 1) nk_i1 (fun z13 ez13 => ?_))
    refine ty_bS (W := ty_Wx) H Jh11 rfl rfl (by decide) (by omega) (by omega) (fun i e => by unfold ty_Wx; omega) (fun _ => rfl) (by omega) (fun h14 eh14 Jh14 => ?_)
    have Ih14 := H.1 h14 Jh14
    refine hq_p rfl rfl ?_
    refine hq_p rfl rfl (ty_ge (n := 0) nk_i0 (fun z15 ez15 => ?_))
    refine ty_callj 0 (W := ty_Wx) H Jh14 rfl (fun _ => rfl) rfl rfl rfl (hq_pre_o Ih14.1 (x := 97) (ci := 11) rfl (by decide) rfl rfl rfl rfl) (fun a k w => by unfold ty_Wt at w; unfold ty_Wx; omega) (by unfold ty_Wt ty_Wx; omega) (ct_140 (x1 := z15) (by omega) (by omega) (by omega)) (fun h17 _ Jh17 P16 => ?_)
    have Ih17 := H.1 h17 Jh17
    obtain ⟨z18, rfl, fz18⟩ := P16
    exact hq_W.ret rfl rfl rfl ⟨Jh17, _, rfl, by omega, by omega⟩
  · clear iz7
    refine hq_p rfl rfl ?_
    refine hq_p rfl rfl (ty_ge (n := -1) nk_im1 (fun z19 ez19 => ?_))
    refine ty_callj 0 (W := ty_Wx) H Jh2 rfl (fun _ => rfl) rfl rfl rfl (hq_pre_o Ih2.1 (x := 97) (ci := 11) rfl (by decide) rfl rfl rfl rfl) (fun a k w => by unfold ty_Wt at w; unfold ty_Wx; omega) (by unfold ty_Wt ty_Wx; omega) (ct_140 (x1 := z19) (by omega) (by omega) (by omega)) (fun h21 _ Jh21 P20 => ?_)
    have Ih21 := H.1 h21 Jh21
    obtain ⟨z22, rfl, fz22⟩ := P20
    exact hq_W.ret rfl rfl rfl ⟨Jh21, _, rfl, by omega, by omega⟩
theorem ct_148 {X : pm_X} {d : Nat} {h : pm_H} {x1 : Int32} (hd : 3 ≤ d) {J : pm_H → Prop} (H : ty_C ty_Wx J) (hJ : J h) (hI : ∀ h k, J h → k < 2 → J (bk_h h k)) : hq_M X d 148 [.ref 97, .int x1] h (fun h' v => J h' ∧ (ty_pi (-2) 0) h' v) := by
  obtain ⟨d, rfl⟩ : ∃ e, d = e + 1 := ⟨d - 1, by omega⟩
  have I := H.1 h hJ
  have ax1 := nm_lo x1
  have bx1 := nm_hi x1
  refine hq_M.enter (q := (⟨"TrainBearersModel", "back", "(I)I"⟩, _, 3, some .int, 11, 2, pm_c148)) rfl rfl ?_
  show hq_W X d 11 false (some .int) pm_c148 (0, [some (.ref 97), some (.int x1), none], [], h) (fun h' v => J h' ∧ (ty_pi (-2) 0) h' v)
  refine hq_p rfl rfl ?_
  refine hq_p rfl rfl (ty_ge (n := 0) nk_i0 (fun z1 ez1 => ?_))
  refine ty_pI (W := ty_Wx) H hJ rfl rfl (by decide) rfl rfl (by unfold ty_Wx; omega) rfl (by omega) (by omega) (fun h2 eh2 Jh2 => ?_)
  have wh2 : (hs_fI h2 97 0).toInt = z1.toInt := by rw [eh2]; exact congrArg Int32.toInt (ty_fI_eq I.1 rfl (by decide) rfl)
  have Ih2 := H.1 h2 Jh2
  refine hq_p rfl rfl ?_
  refine hq_p rfl rfl (ty_gle (n := x1.toInt) (nm_i2l _) (fun z3 ez3 => ?_))
  refine hq_p rfl rfl (ty_gle (n := 0) (by decide) (fun z4 ez4 => ?_))
  refine hq_p rfl rfl (ty_gle (n := 1) (by decide) (fun z5 ez5 => ?_))
  refine ty_callp 1 Ih2 rfl (fun _ => rfl) rfl rfl rfl rfl (ct_136 (x0 := z3) (x1 := z4) (x2 := z5) (by omega)) (fun _ P6 => ?_)
  obtain ⟨z7, rfl, az7, bz7, iz7⟩ := P6
  refine ty_zne rfl (fun c8 => ?_) (fun c8 => ?_)
  · replace c8 : 1 ≤ z7.toInt ∧ z7.toInt ≤ 1 := by omega
    have f9 := iz7 (by omega)
    clear iz7
    refine hq_p rfl rfl ?_
    refine hq_gR Ih2.1 rfl rfl (by decide) (by decide) rfl ?_
    refine hq_p rfl rfl ?_
    refine ty_bL Ih2 rfl rfl (by decide) (by omega) (by omega) (fun z10 az10 bz10 => ?_)
    refine ty_zne rfl (fun c11 => ?_) (fun c11 => ?_)
    · clear c11
      refine hq_p rfl rfl (ty_ge (n := 0) nk_i0 (fun z12 ez12 => ?_))
      refine hq_p (ls' := [some (.ref 97), some (.int x1), some (.int z12)]) rfl rfl ?_
      refine bk_loop (by omega) (by omega) Ih2.1 (fun z14 => ?_) (by omega)
      have Jh13 := hI h2 x1.toInt.toNat Jh2 (by omega)
      obtain ⟨h13, eh13⟩ : ∃ q, bk_h h2 x1.toInt.toNat = q := ⟨_, rfl⟩
      rw [eh13] at Jh13 ⊢
      have Ih13 := H.1 h13 Jh13
      have az14 := nm_lo z14
      have bz14 := nm_hi z14
      refine hq_p rfl rfl ?_
      refine hq_p rfl rfl (ty_ge (n := 0) nk_i0 (fun z15 ez15 => ?_))
      refine ty_callj 0 (W := ty_Wx) H Jh13 rfl (fun _ => rfl) rfl rfl rfl (hq_pre_o Ih13.1 (x := 97) (ci := 11) rfl (by decide) rfl rfl rfl rfl) (fun _ _ w => w) (fun _ w => w) (ct_142 (x1 := z15) (by omega) (by omega) (by omega)) (fun h17 _ Jh17 P16 => ?_)
      have Ih17 := H.1 h17 Jh17
      obtain ⟨z18, rfl, fz18⟩ := P16
      exact hq_W.ret rfl rfl rfl ⟨Jh17, _, rfl, by omega, by omega⟩
    · refine hq_p rfl rfl ?_
      refine hq_p rfl rfl (ty_ge (n := -2) nk_bm2 (fun z19 ez19 => ?_))
      refine ty_callj 0 (W := ty_Wx) H Jh2 rfl (fun _ => rfl) rfl rfl rfl (hq_pre_o Ih2.1 (x := 97) (ci := 11) rfl (by decide) rfl rfl rfl rfl) (fun a k w => by unfold ty_Wt at w; unfold ty_Wx; omega) (by unfold ty_Wt ty_Wx; omega) (ct_140 (x1 := z19) (by omega) (by omega) (by omega)) (fun h21 _ Jh21 P20 => ?_)
      have Ih21 := H.1 h21 Jh21
      obtain ⟨z22, rfl, fz22⟩ := P20
      exact hq_W.ret rfl rfl rfl ⟨Jh21, _, rfl, by omega, by omega⟩
  · clear iz7
    refine hq_p rfl rfl ?_
    refine hq_p rfl rfl (ty_ge (n := -1) nk_im1 (fun z23 ez23 => ?_))
    refine ty_callj 0 (W := ty_Wx) H Jh2 rfl (fun _ => rfl) rfl rfl rfl (hq_pre_o Ih2.1 (x := 97) (ci := 11) rfl (by decide) rfl rfl rfl rfl) (fun a k w => by unfold ty_Wt at w; unfold ty_Wx; omega) (by unfold ty_Wt ty_Wx; omega) (ct_140 (x1 := z23) (by omega) (by omega) (by omega)) (fun h25 _ Jh25 P24 => ?_)
    have Ih25 := H.1 h25 Jh25
    obtain ⟨z26, rfl, fz26⟩ := P24
    exact hq_W.ret rfl rfl rfl ⟨Jh25, _, rfl, by omega, by omega⟩
end CT37
