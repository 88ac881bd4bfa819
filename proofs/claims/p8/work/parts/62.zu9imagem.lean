/-! CONTRACTS (printed by wip/pm/cts.py) -/
section CT52
theorem ct_147m {X : pm_X} {d : Nat} {h : pm_H} {x1 : Int32} (hd : 2 ≤ d) (ax1 : (-2147483648) ≤ x1.toInt) (bx1 : x1.toInt ≤ (-1)) : ty_M X ty_Wx d 147 [.ref 97, .int x1] h (fun _ v => ∃ z : Int32, v = some (.int z) ∧ (z.toInt = -1)) := by
  intro J H hJ
  obtain ⟨d, rfl⟩ : ∃ e, d = e + 1 := ⟨d - 1, by omega⟩
  have I := H.1 h hJ
  refine hq_M.enter (q := (⟨"TrainBearersModel", "image", "(I)I"⟩, _, 3, some .int, 11, 2, pm_c147)) rfl rfl ?_
  show hq_W X d 11 false (some .int) pm_c147 (0, [some (.ref 97), some (.int x1), none], [], h) (fun h' v => J h' ∧ (fun _ v => ∃ z : Int32, v = some (.int z) ∧ (z.toInt = -1)) h' v)
  refine hq_p rfl rfl ?_
  refine hq_p rfl rfl (ty_ge (n := 0) nk_i0 (fun z1 ez1 => ?_))
  refine ty_pI (W := ty_Wx) H hJ rfl rfl (by decide) rfl rfl (by unfold ty_Wx; omega) rfl (by omega) (by omega) (fun h2 eh2 Jh2 => ?_)
  have wh2 : (hs_fI h2 97 0).toInt = z1.toInt := by rw [eh2]; exact congrArg Int32.toInt (ty_fI_eq I.1 rfl (by decide) rfl)
  have Ih2 := H.1 h2 Jh2
  refine hq_p rfl rfl ?_
  refine hq_p rfl rfl (ty_gle (n := x1.toInt) (nm_i2l _) (fun z3 ez3 => ?_))
  refine hq_p rfl rfl (ty_gle (n := 0) (by decide) (fun z4 ez4 => ?_))
  refine hq_p rfl rfl (ty_gle (n := 1) (by decide) (fun z5 ez5 => ?_))
  refine ty_callp 1 Ih2 rfl (fun _ => rfl) rfl rfl rfl rfl (ct_136e (x0 := z3) (x1 := z4) (x2 := z5) (by omega)) (fun _ P6 => ?_)
  obtain ⟨z7, rfl, az7, bz7, iz7, jz7⟩ := P6
  refine ty_zne rfl (fun c8 => ?_) (fun c8 => ?_)
  · exfalso; omega
  · have yz7 := jz7 (by omega)
    clear iz7 jz7
    refine hq_p rfl rfl ?_
    refine hq_p rfl rfl (ty_ge (n := -1) nk_im1 (fun z9 ez9 => ?_))
    refine ty_callj 0 (W := ty_Wx) H Jh2 rfl (fun _ => rfl) rfl rfl rfl (hq_pre_o Ih2.1 (x := 97) (ci := 11) rfl (by decide) rfl rfl rfl rfl) (fun a k w => by unfold ty_Wt at w; unfold ty_Wx; omega) (by unfold ty_Wt ty_Wx; omega) (ct_140 (x1 := z9) (by omega) (by omega) (by omega)) (fun h11 _ Jh11 P10 => ?_)
    have Ih11 := H.1 h11 Jh11
    obtain ⟨z12, rfl, fz12⟩ := P10
    exact hq_W.ret rfl rfl rfl ⟨Jh11, _, rfl, by omega⟩
theorem ct_147q {X : pm_X} {d : Nat} {h : pm_H} {x1 : Int32} (hd : 2 ≤ d) (ax1 : 2 ≤ x1.toInt) (bx1 : x1.toInt ≤ 2147483647) : ty_M X ty_Wx d 147 [.ref 97, .int x1] h (fun _ v => ∃ z : Int32, v = some (.int z) ∧ (z.toInt = -1)) := by
  intro J H hJ
  obtain ⟨d, rfl⟩ : ∃ e, d = e + 1 := ⟨d - 1, by omega⟩
  have I := H.1 h hJ
  refine hq_M.enter (q := (⟨"TrainBearersModel", "image", "(I)I"⟩, _, 3, some .int, 11, 2, pm_c147)) rfl rfl ?_
  show hq_W X d 11 false (some .int) pm_c147 (0, [some (.ref 97), some (.int x1), none], [], h) (fun h' v => J h' ∧ (fun _ v => ∃ z : Int32, v = some (.int z) ∧ (z.toInt = -1)) h' v)
  refine hq_p rfl rfl ?_
  refine hq_p rfl rfl (ty_ge (n := 0) nk_i0 (fun z1 ez1 => ?_))
  refine ty_pI (W := ty_Wx) H hJ rfl rfl (by decide) rfl rfl (by unfold ty_Wx; omega) rfl (by omega) (by omega) (fun h2 eh2 Jh2 => ?_)
  have wh2 : (hs_fI h2 97 0).toInt = z1.toInt := by rw [eh2]; exact congrArg Int32.toInt (ty_fI_eq I.1 rfl (by decide) rfl)
  have Ih2 := H.1 h2 Jh2
  refine hq_p rfl rfl ?_
  refine hq_p rfl rfl (ty_gle (n := x1.toInt) (nm_i2l _) (fun z3 ez3 => ?_))
  refine hq_p rfl rfl (ty_gle (n := 0) (by decide) (fun z4 ez4 => ?_))
  refine hq_p rfl rfl (ty_gle (n := 1) (by decide) (fun z5 ez5 => ?_))
  refine ty_callp 1 Ih2 rfl (fun _ => rfl) rfl rfl rfl rfl (ct_136e (x0 := z3) (x1 := z4) (x2 := z5) (by omega)) (fun _ P6 => ?_)
  obtain ⟨z7, rfl, az7, bz7, iz7, jz7⟩ := P6
  refine ty_zne rfl (fun c8 => ?_) (fun c8 => ?_)
  · exfalso; omega
  · have yz7 := jz7 (by omega)
    clear iz7 jz7
    refine hq_p rfl rfl ?_
    refine hq_p rfl rfl (ty_ge (n := -1) nk_im1 (fun z9 ez9 => ?_))
    refine ty_callj 0 (W := ty_Wx) H Jh2 rfl (fun _ => rfl) rfl rfl rfl (hq_pre_o Ih2.1 (x := 97) (ci := 11) rfl (by decide) rfl rfl rfl rfl) (fun a k w => by unfold ty_Wt at w; unfold ty_Wx; omega) (by unfold ty_Wt ty_Wx; omega) (ct_140 (x1 := z9) (by omega) (by omega) (by omega)) (fun h11 _ Jh11 P10 => ?_)
    have Ih11 := H.1 h11 Jh11
    obtain ⟨z12, rfl, fz12⟩ := P10
    exact hq_W.ret rfl rfl rfl ⟨Jh11, _, rfl, by omega⟩
theorem ct_148m {X : pm_X} {d : Nat} {h : pm_H} {x1 : Int32} (hd : 2 ≤ d) (ax1 : (-2147483648) ≤ x1.toInt) (bx1 : x1.toInt ≤ (-1)) : ty_M X ty_Wx d 148 [.ref 97, .int x1] h (fun _ v => ∃ z : Int32, v = some (.int z) ∧ (z.toInt = -1)) := by
  intro J H hJ
  obtain ⟨d, rfl⟩ : ∃ e, d = e + 1 := ⟨d - 1, by omega⟩
  have I := H.1 h hJ
  refine hq_M.enter (q := (⟨"TrainBearersModel", "back", "(I)I"⟩, _, 3, some .int, 11, 2, pm_c148)) rfl rfl ?_
  show hq_W X d 11 false (some .int) pm_c148 (0, [some (.ref 97), some (.int x1), none], [], h) (fun h' v => J h' ∧ (fun _ v => ∃ z : Int32, v = some (.int z) ∧ (z.toInt = -1)) h' v)
  refine hq_p rfl rfl ?_
  refine hq_p rfl rfl (ty_ge (n := 0) nk_i0 (fun z1 ez1 => ?_))
  refine ty_pI (W := ty_Wx) H hJ rfl rfl (by decide) rfl rfl (by unfold ty_Wx; omega) rfl (by omega) (by omega) (fun h2 eh2 Jh2 => ?_)
  have wh2 : (hs_fI h2 97 0).toInt = z1.toInt := by rw [eh2]; exact congrArg Int32.toInt (ty_fI_eq I.1 rfl (by decide) rfl)
  have Ih2 := H.1 h2 Jh2
  refine hq_p rfl rfl ?_
  refine hq_p rfl rfl (ty_gle (n := x1.toInt) (nm_i2l _) (fun z3 ez3 => ?_))
  refine hq_p rfl rfl (ty_gle (n := 0) (by decide) (fun z4 ez4 => ?_))
  refine hq_p rfl rfl (ty_gle (n := 1) (by decide) (fun z5 ez5 => ?_))
  refine ty_callp 1 Ih2 rfl (fun _ => rfl) rfl rfl rfl rfl (ct_136e (x0 := z3) (x1 := z4) (x2 := z5) (by omega)) (fun _ P6 => ?_)
  obtain ⟨z7, rfl, az7, bz7, iz7, jz7⟩ := P6
  refine ty_zne rfl (fun c8 => ?_) (fun c8 => ?_)
  · exfalso; omega
  · have yz7 := jz7 (by omega)
    clear iz7 jz7
    refine hq_p rfl rfl ?_
    refine hq_p rfl rfl (ty_ge (n := -1) nk_im1 (fun z9 ez9 => ?_))
    refine ty_callj 0 (W := ty_Wx) H Jh2 rfl (fun _ => rfl) rfl rfl rfl (hq_pre_o Ih2.1 (x := 97) (ci := 11) rfl (by decide) rfl rfl rfl rfl) (fun a k w => by unfold ty_Wt at w; unfold ty_Wx; omega) (by unfold ty_Wt ty_Wx; omega) (ct_140 (x1 := z9) (by omega) (by omega) (by omega)) (fun h11 _ Jh11 P10 => ?_)
    have Ih11 := H.1 h11 Jh11
    obtain ⟨z12, rfl, fz12⟩ := P10
    exact hq_W.ret rfl rfl rfl ⟨Jh11, _, rfl, by omega⟩
theorem ct_148q {X : pm_X} {d : Nat} {h : pm_H} {x1 : Int32} (hd : 2 ≤ d) (ax1 : 2 ≤ x1.toInt) (bx1 : x1.toInt ≤ 2147483647) : ty_M X ty_Wx d 148 [.ref 97, .int x1] h (fun _ v => ∃ z : Int32, v = some (.int z) ∧ (z.toInt = -1)) := by
  intro J H hJ
  obtain ⟨d, rfl⟩ : ∃ e, d = e + 1 := ⟨d - 1, by omega⟩
  have I := H.1 h hJ
  refine hq_M.enter (q := (⟨"TrainBearersModel", "back", "(I)I"⟩, _, 3, some .int, 11, 2, pm_c148)) rfl rfl ?_
  show hq_W X d 11 false (some .int) pm_c148 (0, [some (.ref 97), some (.int x1), none], [], h) (fun h' v => J h' ∧ (fun _ v => ∃ z : Int32, v = some (.int z) ∧ (z.toInt = -1)) h' v)
  refine hq_p rfl rfl ?_
  refine hq_p rfl rfl (ty_ge (n := 0) nk_i0 (fun z1 ez1 => ?_))
  refine ty_pI (W := ty_Wx) H hJ rfl rfl (by decide) rfl rfl (by unfold ty_Wx; omega) rfl (by omega) (by omega) (fun h2 eh2 Jh2 => ?_)
  have wh2 : (hs_fI h2 97 0).toInt = z1.toInt := by rw [eh2]; exact congrArg Int32.toInt (ty_fI_eq I.1 rfl (by decide) rfl)
  have Ih2 := H.1 h2 Jh2
  refine hq_p rfl rfl ?_
  refine hq_p rfl rfl (ty_gle (n := x1.toInt) (nm_i2l _) (fun z3 ez3 => ?_))
  refine hq_p rfl rfl (ty_gle (n := 0) (by decide) (fun z4 ez4 => ?_))
  refine hq_p rfl rfl (ty_gle (n := 1) (by decide) (fun z5 ez5 => ?_))
  refine ty_callp 1 Ih2 rfl (fun _ => rfl) rfl rfl rfl rfl (ct_136e (x0 := z3) (x1 := z4) (x2 := z5) (by omega)) (fun _ P6 => ?_)
  obtain ⟨z7, rfl, az7, bz7, iz7, jz7⟩ := P6
  refine ty_zne rfl (fun c8 => ?_) (fun c8 => ?_)
  · exfalso; omega
  · have yz7 := jz7 (by omega)
    clear iz7 jz7
    refine hq_p rfl rfl ?_
    refine hq_p rfl rfl (ty_ge (n := -1) nk_im1 (fun z9 ez9 => ?_))
    refine ty_callj 0 (W := ty_Wx) H Jh2 rfl (fun _ => rfl) rfl rfl rfl (hq_pre_o Ih2.1 (x := 97) (ci := 11) rfl (by decide) rfl rfl rfl rfl) (fun a k w => by unfold ty_Wt at w; unfold ty_Wx; omega) (by unfold ty_Wt ty_Wx; omega) (ct_140 (x1 := z9) (by omega) (by omega) (by omega)) (fun h11 _ Jh11 P10 => ?_)
    have Ih11 := H.1 h11 Jh11
    obtain ⟨z12, rfl, fz12⟩ := P10
    exact hq_W.ret rfl rfl rfl ⟨Jh11, _, rfl, by omega⟩
theorem ct_147i0 {X : pm_X} {d : Nat} {h : pm_H} {x1 : Int32} (hd : 2 ≤ d) (ax1 : 0 ≤ x1.toInt) (bx1 : x1.toInt ≤ 0) {J : pm_H → Prop} (H : ty_C (ty_Wxi 0) J) (hJ : J h) (hI : ∀ h, J h → J (im_h h 0)) : hq_M X d 147 [.ref 97, .int x1] h (fun h' v => J h' ∧ (fun h1 v => ∃ z : Int32, v = some (.int z) ∧ z.toInt = 0 ∧ hs_aI h1 100 = va_cpy (hs_aI h 99) (hs_aI h 100) 0 (5498 * 0) 5498 ∧ (hs_aI h1 101 0).toInt = 1 ∧ (hs_aI h1 101 1).toInt = (hs_aI h 101 1).toInt) h' v) := by
  obtain ⟨d, rfl⟩ : ∃ e, d = e + 1 := ⟨d - 1, by omega⟩
  have I := H.1 h hJ
  refine hq_M.enter (q := (⟨"TrainBearersModel", "image", "(I)I"⟩, _, 3, some .int, 11, 2, pm_c147)) rfl rfl ?_
  show hq_W X d 11 false (some .int) pm_c147 (0, [some (.ref 97), some (.int x1), none], [], h) (fun h' v => J h' ∧ (fun h1 v => ∃ z : Int32, v = some (.int z) ∧ z.toInt = 0 ∧ hs_aI h1 100 = va_cpy (hs_aI h 99) (hs_aI h 100) 0 (5498 * 0) 5498 ∧ (hs_aI h1 101 0).toInt = 1 ∧ (hs_aI h1 101 1).toInt = (hs_aI h 101 1).toInt) h' v)
  refine hq_p rfl rfl ?_
  refine hq_p rfl rfl (ty_ge (n := 0) nk_i0 (fun z1 ez1 => ?_))
  refine ty_pI (W := (ty_Wxi 0)) H hJ rfl rfl (by decide) rfl rfl (by unfold ty_Wxi; omega) rfl (by omega) (by omega) (fun h2 eh2 Jh2 => ?_)
  have wh2 : (hs_fI h2 97 0).toInt = z1.toInt := by rw [eh2]; exact congrArg Int32.toInt (ty_fI_eq I.1 rfl (by decide) rfl)
  have vh2_99 : hs_aI h2 99 = (hs_aI h 99) := by rw [eh2]; exact (hs_aI_ne (by decide)).trans rfl
  have vh2_100 : hs_aI h2 100 = (hs_aI h 100) := by rw [eh2]; exact (hs_aI_ne (by decide)).trans rfl
  have vh2_101 : hs_aI h2 101 = (hs_aI h 101) := by rw [eh2]; exact (hs_aI_ne (by decide)).trans rfl
  have Ih2 := H.1 h2 Jh2
  refine hq_p rfl rfl ?_
  refine hq_p rfl rfl (ty_gle (n := x1.toInt) (nm_i2l _) (fun z3 ez3 => ?_))
  refine hq_p rfl rfl (ty_gle (n := 0) (by decide) (fun z4 ez4 => ?_))
  refine hq_p rfl rfl (ty_gle (n := 1) (by decide) (fun z5 ez5 => ?_))
  refine ty_callp 1 Ih2 rfl (fun _ => rfl) rfl rfl rfl rfl (ct_136e (x0 := z3) (x1 := z4) (x2 := z5) (by omega)) (fun _ P6 => ?_)
  obtain ⟨z7, rfl, az7, bz7, iz7, jz7⟩ := P6
  refine ty_zne rfl (fun c8 => ?_) (fun c8 => ?_)
  · replace c8 : 1 ≤ z7.toInt ∧ z7.toInt ≤ 1 := by omega
    have yz7 := iz7 (by omega)
    clear iz7 jz7
    refine hq_p rfl rfl (ty_ge (n := 0) nk_i0 (fun z9 ez9 => ?_))
    refine hq_p (ls' := [some (.ref 97), some (.int x1), some (.int z9)]) rfl rfl ?_
    refine im_loop (by omega) (by omega) Ih2.1 (fun z11 => ?_) (by omega)
    rw [show x1.toInt.toNat = 0 by omega]
    have Jh10 := hI h2 Jh2
    obtain ⟨h10, eh10⟩ : ∃ q, im_h h2 0 = q := ⟨_, rfl⟩
    have vh10_100 : hs_aI h10 100 = (va_cpy (hs_aI h 99) (hs_aI h 100) 0 (5498 * 0) 5498) := by rw [← eh10]; unfold im_h; rw [cp_a, vh2_99, vh2_100]
    have vh10_101 : hs_aI h10 101 = (hs_aI h 101) := by rw [← eh10]; exact (cp_o (by decide)).trans vh2_101
    rw [eh10] at Jh10 ⊢
    have Ih10 := H.1 h10 Jh10
    have az11 := nm_lo z11
    have bz11 := nm_hi z11
    refine hq_p rfl rfl ?_
    refine hq_gR Ih10.1 rfl rfl (by decide) (by decide) rfl ?_
    refine hq_p rfl rfl ?_
    refine hq_p rfl rfl (ty_ge (n := 1) nk_i1 (fun z12 ez12 => ?_))
    refine ty_bS (W := (ty_Wxi 0)) H Jh10 rfl rfl (by decide) (by omega) (by omega) (fun i e => by unfold ty_Wxi; omega) (fun _ => rfl) (by omega) (fun h13 eh13 Jh13 => ?_)
    have vh13_100 : hs_aI h13 100 = (va_cpy (hs_aI h 99) (hs_aI h 100) 0 (5498 * 0) 5498) := by rw [eh13]; exact (hs_aI_ne (by decide)).trans vh10_100
    have vh13_101 : hs_aI h13 101 = (upd (hs_aI h 101) x1.toInt.toNat (z12 &&& 1)) := by rw [eh13, hs_aI_sA, vh10_101]
    have Ih13 := H.1 h13 Jh13
    refine hq_p rfl rfl ?_
    refine hq_p rfl rfl (ty_ge (n := 0) nk_i0 (fun z14 ez14 => ?_))
    refine ty_callm 0 [(3, 100, 0), (3, 101, 0)] (W := (ty_Wxi 0)) H Jh13 rfl (fun _ => rfl) rfl rfl rfl (hq_pre_o Ih13.1 (x := 97) (ci := 11) rfl (by decide) rfl rfl rfl rfl) (fun a k w => by unfold ty_Wt at w; unfold ty_Wxi; omega) (by unfold ty_Wt ty_Wxi; omega) (ct_140 (x1 := z14) (by omega) (by omega) (by omega)) ⟨⟨rfl, fun k => show ¬ ty_Wt 100 k by unfold ty_Wt; omega⟩, ⟨rfl, fun k => show ¬ ty_Wt 101 k by unfold ty_Wt; omega⟩, trivial⟩ (fun h16 _ Jh16 gh16 P15 => ?_)
    obtain ⟨gh16_0, gh16_1, _⟩ := gh16
    have gh16_0 : hs_aI h16 100 = hs_aI h13 100 := gh16_0
    have ugh16_0 : hs_aI h16 100 = (va_cpy (hs_aI h 99) (hs_aI h 100) 0 (5498 * 0) 5498) := gh16_0.trans vh13_100
    have gh16_1 : hs_aI h16 101 = hs_aI h13 101 := gh16_1
    have ugh16_1 : hs_aI h16 101 = (upd (hs_aI h 101) x1.toInt.toNat (z12 &&& 1)) := gh16_1.trans vh13_101
    have Ih16 := H.1 h16 Jh16
    obtain ⟨z17, rfl, fz17⟩ := P15
    exact hq_W.ret rfl rfl rfl ⟨Jh16, _, rfl, by omega, ugh16_0, (by rw [ugh16_1]; exact im_u1 (by omega) (by omega)), (by rw [ugh16_1]; exact im_u0 (by omega))⟩
  · exfalso; omega
theorem ct_148i0 {X : pm_X} {d : Nat} {h : pm_H} {x1 : Int32} (hd : 3 ≤ d) (ax1 : 0 ≤ x1.toInt) (bx1 : x1.toInt ≤ 0) {J : pm_H → Prop} (H : ty_C ty_Wx J) (hJ : J h) (hI : ∀ h, J h → J (bk_h h 0)) : hq_M X d 148 [.ref 97, .int x1] h (fun h' v => J h' ∧ (fun h1 v => ∃ z : Int32, v = some (.int z) ∧ (((hs_aI h 101 0).toInt = 0 ∧ z.toInt = -2 ∧ (∀ j, 50 ≤ j → j < 86 → hs_aI h1 99 j = hs_aI h 99 j)) ∨ ((hs_aI h 101 0).toInt ≠ 0 ∧ z.toInt = 0 ∧ (∀ j, 50 ≤ j → j < 86 → hs_aI h1 99 j = hs_aI h 100 (0 + j))))) h' v) := by
  obtain ⟨d, rfl⟩ : ∃ e, d = e + 1 := ⟨d - 1, by omega⟩
  have I := H.1 h hJ
  refine hq_M.enter (q := (⟨"TrainBearersModel", "back", "(I)I"⟩, _, 3, some .int, 11, 2, pm_c148)) rfl rfl ?_
  show hq_W X d 11 false (some .int) pm_c148 (0, [some (.ref 97), some (.int x1), none], [], h) (fun h' v => J h' ∧ (fun h1 v => ∃ z : Int32, v = some (.int z) ∧ (((hs_aI h 101 0).toInt = 0 ∧ z.toInt = -2 ∧ (∀ j, 50 ≤ j → j < 86 → hs_aI h1 99 j = hs_aI h 99 j)) ∨ ((hs_aI h 101 0).toInt ≠ 0 ∧ z.toInt = 0 ∧ (∀ j, 50 ≤ j → j < 86 → hs_aI h1 99 j = hs_aI h 100 (0 + j))))) h' v)
  refine hq_p rfl rfl ?_
  refine hq_p rfl rfl (ty_ge (n := 0) nk_i0 (fun z1 ez1 => ?_))
  refine ty_pI (W := ty_Wx) H hJ rfl rfl (by decide) rfl rfl (by unfold ty_Wx; omega) rfl (by omega) (by omega) (fun h2 eh2 Jh2 => ?_)
  have wh2 : (hs_fI h2 97 0).toInt = z1.toInt := by rw [eh2]; exact congrArg Int32.toInt (ty_fI_eq I.1 rfl (by decide) rfl)
  have vh2_99 : hs_aI h2 99 = (hs_aI h 99) := by rw [eh2]; exact (hs_aI_ne (by decide)).trans rfl
  have vh2_100 : hs_aI h2 100 = (hs_aI h 100) := by rw [eh2]; exact (hs_aI_ne (by decide)).trans rfl
  have vh2_101 : hs_aI h2 101 = (hs_aI h 101) := by rw [eh2]; exact (hs_aI_ne (by decide)).trans rfl
  have Ih2 := H.1 h2 Jh2
  refine hq_p rfl rfl ?_
  refine hq_p rfl rfl (ty_gle (n := x1.toInt) (nm_i2l _) (fun z3 ez3 => ?_))
  refine hq_p rfl rfl (ty_gle (n := 0) (by decide) (fun z4 ez4 => ?_))
  refine hq_p rfl rfl (ty_gle (n := 1) (by decide) (fun z5 ez5 => ?_))
  refine ty_callp 1 Ih2 rfl (fun _ => rfl) rfl rfl rfl rfl (ct_136e (x0 := z3) (x1 := z4) (x2 := z5) (by omega)) (fun _ P6 => ?_)
  obtain ⟨z7, rfl, az7, bz7, iz7, jz7⟩ := P6
  refine ty_zne rfl (fun c8 => ?_) (fun c8 => ?_)
  · replace c8 : 1 ≤ z7.toInt ∧ z7.toInt ≤ 1 := by omega
    have yz7 := iz7 (by omega)
    clear iz7 jz7
    refine hq_p rfl rfl ?_
    refine hq_gR Ih2.1 rfl rfl (by decide) (by decide) rfl ?_
    refine hq_p rfl rfl ?_
    refine ty_bLe Ih2 rfl rfl (by decide) (by omega) (by omega) (fun z9 ez9 az9 bz9 => ?_)
    rw [show x1.toInt.toNat = 0 by omega] at ez9
    rw [vh2_101] at ez9
    refine ty_zne rfl (fun c10 => ?_) (fun c10 => ?_)
    · replace c10 : z9.toInt ≠ 0 := by omega
      refine hq_p rfl rfl (ty_ge (n := 0) nk_i0 (fun z11 ez11 => ?_))
      refine hq_p (ls' := [some (.ref 97), some (.int x1), some (.int z11)]) rfl rfl ?_
      refine bk_loop (by omega) (by omega) Ih2.1 (fun z13 => ?_) (by omega)
      rw [show x1.toInt.toNat = 0 by omega]
      have Jh12 := hI h2 Jh2
      obtain ⟨h12, eh12⟩ : ∃ q, bk_h h2 0 = q := ⟨_, rfl⟩
      have vh12 : (∀ j, 50 ≤ j → j < 86 → hs_aI h12 99 j = hs_aI h 100 (0 + j)) := fun j j0 j1 => by rw [← eh12]; unfold bk_h; rw [cp_a, vh2_100]; exact (va_in (by omega) (by omega)).trans (congrArg (hs_aI h 100) (by omega))
      rw [eh12] at Jh12 ⊢
      have Ih12 := H.1 h12 Jh12
      have az13 := nm_lo z13
      have bz13 := nm_hi z13
      obtain ⟨J1, eJ1⟩ : ∃ J1 : pm_H → Prop, J1 = fun h' => J h' ∧ (∀ j, 50 ≤ j → j < 86 → hs_aI h' 99 j = hs_aI h 100 (0 + j)) := ⟨_, rfl⟩
      have H : ty_C ty_Wx J1 := by rw [eJ1]; exact H.seg 99 50 86 (by decide) (fun j _ _ => by unfold ty_Wx; omega) rfl _
      have hJ1 : J1 h12 := by rw [eJ1]; exact ⟨Jh12, vh12⟩
      refine hq_p rfl rfl ?_
      refine hq_p rfl rfl (ty_ge (n := 0) nk_i0 (fun z14 ez14 => ?_))
      refine ty_callj 0 (W := ty_Wx) H hJ1 rfl (fun _ => rfl) rfl rfl rfl (hq_pre_o Ih12.1 (x := 97) (ci := 11) rfl (by decide) rfl rfl rfl rfl) (fun _ _ w => w) (fun _ w => w) (ct_142 (x1 := z14) (by omega) (by omega) (by omega)) (fun h16 _ Jh16 P15 => ?_)
      have Ih16 := H.1 h16 Jh16
      obtain ⟨z17, rfl, fz17⟩ := P15
      exact hq_W.ret rfl rfl rfl ⟨(by have q := Jh16; rw [eJ1] at q; exact q.1), _, rfl, Or.inr ⟨by omega, by omega, (by have q := Jh16; rw [eJ1] at q; exact q.2)⟩⟩
    · obtain ⟨J1, eJ1⟩ : ∃ J1 : pm_H → Prop, J1 = fun h' => J h' ∧ (∀ j, 50 ≤ j → j < 86 → hs_aI h' 99 j = hs_aI h 99 j) := ⟨_, rfl⟩
      have H : ty_C ty_Wx J1 := by rw [eJ1]; exact H.seg 99 50 86 (by decide) (fun j _ _ => by unfold ty_Wx; omega) rfl _
      have hJ1 : J1 h2 := by rw [eJ1]; exact ⟨Jh2, (fun j _ _ => by rw [vh2_99])⟩
      refine hq_p rfl rfl ?_
      refine hq_p rfl rfl (ty_ge (n := -2) nk_bm2 (fun z18 ez18 => ?_))
      refine ty_callj 0 (W := ty_Wx) H hJ1 rfl (fun _ => rfl) rfl rfl rfl (hq_pre_o Ih2.1 (x := 97) (ci := 11) rfl (by decide) rfl rfl rfl rfl) (fun a k w => by unfold ty_Wt at w; unfold ty_Wx; omega) (by unfold ty_Wt ty_Wx; omega) (ct_140 (x1 := z18) (by omega) (by omega) (by omega)) (fun h20 _ Jh20 P19 => ?_)
      have Ih20 := H.1 h20 Jh20
      obtain ⟨z21, rfl, fz21⟩ := P19
      exact hq_W.ret rfl rfl rfl ⟨(by have q := Jh20; rw [eJ1] at q; exact q.1), _, rfl, Or.inl ⟨by omega, by omega, (by have q := Jh20; rw [eJ1] at q; exact q.2)⟩⟩
  · exfalso; omega
theorem ct_147i1 {X : pm_X} {d : Nat} {h : pm_H} {x1 : Int32} (hd : 2 ≤ d) (ax1 : 1 ≤ x1.toInt) (bx1 : x1.toInt ≤ 1) {J : pm_H → Prop} (H : ty_C (ty_Wxi 1) J) (hJ : J h) (hI : ∀ h, J h → J (im_h h 1)) : hq_M X d 147 [.ref 97, .int x1] h (fun h' v => J h' ∧ (fun h1 v => ∃ z : Int32, v = some (.int z) ∧ z.toInt = 0 ∧ hs_aI h1 100 = va_cpy (hs_aI h 99) (hs_aI h 100) 0 (5498 * 1) 5498 ∧ (hs_aI h1 101 1).toInt = 1 ∧ (hs_aI h1 101 0).toInt = (hs_aI h 101 0).toInt) h' v) := by
  obtain ⟨d, rfl⟩ : ∃ e, d = e + 1 := ⟨d - 1, by omega⟩
  have I := H.1 h hJ
  refine hq_M.enter (q := (⟨"TrainBearersModel", "image", "(I)I"⟩, _, 3, some .int, 11, 2, pm_c147)) rfl rfl ?_
  show hq_W X d 11 false (some .int) pm_c147 (0, [some (.ref 97), some (.int x1), none], [], h) (fun h' v => J h' ∧ (fun h1 v => ∃ z : Int32, v = some (.int z) ∧ z.toInt = 0 ∧ hs_aI h1 100 = va_cpy (hs_aI h 99) (hs_aI h 100) 0 (5498 * 1) 5498 ∧ (hs_aI h1 101 1).toInt = 1 ∧ (hs_aI h1 101 0).toInt = (hs_aI h 101 0).toInt) h' v)
  refine hq_p rfl rfl ?_
  refine hq_p rfl rfl (ty_ge (n := 0) nk_i0 (fun z1 ez1 => ?_))
  refine ty_pI (W := (ty_Wxi 1)) H hJ rfl rfl (by decide) rfl rfl (by unfold ty_Wxi; omega) rfl (by omega) (by omega) (fun h2 eh2 Jh2 => ?_)
  have wh2 : (hs_fI h2 97 0).toInt = z1.toInt := by rw [eh2]; exact congrArg Int32.toInt (ty_fI_eq I.1 rfl (by decide) rfl)
  have vh2_99 : hs_aI h2 99 = (hs_aI h 99) := by rw [eh2]; exact (hs_aI_ne (by decide)).trans rfl
  have vh2_100 : hs_aI h2 100 = (hs_aI h 100) := by rw [eh2]; exact (hs_aI_ne (by decide)).trans rfl
  have vh2_101 : hs_aI h2 101 = (hs_aI h 101) := by rw [eh2]; exact (hs_aI_ne (by decide)).trans rfl
  have Ih2 := H.1 h2 Jh2
  refine hq_p rfl rfl ?_
  refine hq_p rfl rfl (ty_gle (n := x1.toInt) (nm_i2l _) (fun z3 ez3 => ?_))
  refine hq_p rfl rfl (ty_gle (n := 0) (by decide) (fun z4 ez4 => ?_))
  refine hq_p rfl rfl (ty_gle (n := 1) (by decide) (fun z5 ez5 => ?_))
  refine ty_callp 1 Ih2 rfl (fun _ => rfl) rfl rfl rfl rfl (ct_136e (x0 := z3) (x1 := z4) (x2 := z5) (by omega)) (fun _ P6 => ?_)
  obtain ⟨z7, rfl, az7, bz7, iz7, jz7⟩ := P6
  refine ty_zne rfl (fun c8 => ?_) (fun c8 => ?_)
  · replace c8 : 1 ≤ z7.toInt ∧ z7.toInt ≤ 1 := by omega
    have yz7 := iz7 (by omega)
    clear iz7 jz7
    refine hq_p rfl rfl (ty_ge (n := 0) nk_i0 (fun z9 ez9 => ?_))
    refine hq_p (ls' := [some (.ref 97), some (.int x1), some (.int z9)]) rfl rfl ?_
    refine im_loop (by omega) (by omega) Ih2.1 (fun z11 => ?_) (by omega)
    rw [show x1.toInt.toNat = 1 by omega]
    have Jh10 := hI h2 Jh2
    obtain ⟨h10, eh10⟩ : ∃ q, im_h h2 1 = q := ⟨_, rfl⟩
    have vh10_100 : hs_aI h10 100 = (va_cpy (hs_aI h 99) (hs_aI h 100) 0 (5498 * 1) 5498) := by rw [← eh10]; unfold im_h; rw [cp_a, vh2_99, vh2_100]
    have vh10_101 : hs_aI h10 101 = (hs_aI h 101) := by rw [← eh10]; exact (cp_o (by decide)).trans vh2_101
    rw [eh10] at Jh10 ⊢
    have Ih10 := H.1 h10 Jh10
    have az11 := nm_lo z11
    have bz11 := nm_hi z11
    refine hq_p rfl rfl ?_
    refine hq_gR Ih10.1 rfl rfl (by decide) (by decide) rfl ?_
    refine hq_p rfl rfl ?_
    refine hq_p rfl rfl (ty_ge (n := 1) nk_i1 (fun z12 ez12 => ?_))
    refine ty_bS (W := (ty_Wxi 1)) H Jh10 rfl rfl (by decide) (by omega) (by omega) (fun i e => by unfold ty_Wxi; omega) (fun _ => rfl) (by omega) (fun h13 eh13 Jh13 => ?_)
    have vh13_100 : hs_aI h13 100 = (va_cpy (hs_aI h 99) (hs_aI h 100) 0 (5498 * 1) 5498) := by rw [eh13]; exact (hs_aI_ne (by decide)).trans vh10_100
    have vh13_101 : hs_aI h13 101 = (upd (hs_aI h 101) x1.toInt.toNat (z12 &&& 1)) := by rw [eh13, hs_aI_sA, vh10_101]
    have Ih13 := H.1 h13 Jh13
    refine hq_p rfl rfl ?_
    refine hq_p rfl rfl (ty_ge (n := 0) nk_i0 (fun z14 ez14 => ?_))
    refine ty_callm 0 [(3, 100, 0), (3, 101, 0)] (W := (ty_Wxi 1)) H Jh13 rfl (fun _ => rfl) rfl rfl rfl (hq_pre_o Ih13.1 (x := 97) (ci := 11) rfl (by decide) rfl rfl rfl rfl) (fun a k w => by unfold ty_Wt at w; unfold ty_Wxi; omega) (by unfold ty_Wt ty_Wxi; omega) (ct_140 (x1 := z14) (by omega) (by omega) (by omega)) ⟨⟨rfl, fun k => show ¬ ty_Wt 100 k by unfold ty_Wt; omega⟩, ⟨rfl, fun k => show ¬ ty_Wt 101 k by unfold ty_Wt; omega⟩, trivial⟩ (fun h16 _ Jh16 gh16 P15 => ?_)
    obtain ⟨gh16_0, gh16_1, _⟩ := gh16
    have gh16_0 : hs_aI h16 100 = hs_aI h13 100 := gh16_0
    have ugh16_0 : hs_aI h16 100 = (va_cpy (hs_aI h 99) (hs_aI h 100) 0 (5498 * 1) 5498) := gh16_0.trans vh13_100
    have gh16_1 : hs_aI h16 101 = hs_aI h13 101 := gh16_1
    have ugh16_1 : hs_aI h16 101 = (upd (hs_aI h 101) x1.toInt.toNat (z12 &&& 1)) := gh16_1.trans vh13_101
    have Ih16 := H.1 h16 Jh16
    obtain ⟨z17, rfl, fz17⟩ := P15
    exact hq_W.ret rfl rfl rfl ⟨Jh16, _, rfl, by omega, ugh16_0, (by rw [ugh16_1]; exact im_u1 (by omega) (by omega)), (by rw [ugh16_1]; exact im_u0 (by omega))⟩
  · exfalso; omega
theorem ct_148i1 {X : pm_X} {d : Nat} {h : pm_H} {x1 : Int32} (hd : 3 ≤ d) (ax1 : 1 ≤ x1.toInt) (bx1 : x1.toInt ≤ 1) {J : pm_H → Prop} (H : ty_C ty_Wx J) (hJ : J h) (hI : ∀ h, J h → J (bk_h h 1)) : hq_M X d 148 [.ref 97, .int x1] h (fun h' v => J h' ∧ (fun h1 v => ∃ z : Int32, v = some (.int z) ∧ (((hs_aI h 101 1).toInt = 0 ∧ z.toInt = -2 ∧ (∀ j, 50 ≤ j → j < 86 → hs_aI h1 99 j = hs_aI h 99 j)) ∨ ((hs_aI h 101 1).toInt ≠ 0 ∧ z.toInt = 0 ∧ (∀ j, 50 ≤ j → j < 86 → hs_aI h1 99 j = hs_aI h 100 (5498 + j))))) h' v) := by
  obtain ⟨d, rfl⟩ : ∃ e, d = e + 1 := ⟨d - 1, by omega⟩
  have I := H.1 h hJ
  refine hq_M.enter (q := (⟨"TrainBearersModel", "back", "(I)I"⟩, _, 3, some .int, 11, 2, pm_c148)) rfl rfl ?_
  show hq_W X d 11 false (some .int) pm_c148 (0, [some (.ref 97), some (.int x1), none], [], h) (fun h' v => J h' ∧ (fun h1 v => ∃ z : Int32, v = some (.int z) ∧ (((hs_aI h 101 1).toInt = 0 ∧ z.toInt = -2 ∧ (∀ j, 50 ≤ j → j < 86 → hs_aI h1 99 j = hs_aI h 99 j)) ∨ ((hs_aI h 101 1).toInt ≠ 0 ∧ z.toInt = 0 ∧ (∀ j, 50 ≤ j → j < 86 → hs_aI h1 99 j = hs_aI h 100 (5498 + j))))) h' v)
  refine hq_p rfl rfl ?_
  refine hq_p rfl rfl (ty_ge (n := 0) nk_i0 (fun z1 ez1 => ?_))
  refine ty_pI (W := ty_Wx) H hJ rfl rfl (by decide) rfl rfl (by unfold ty_Wx; omega) rfl (by omega) (by omega) (fun h2 eh2 Jh2 => ?_)
  have wh2 : (hs_fI h2 97 0).toInt = z1.toInt := by rw [eh2]; exact congrArg Int32.toInt (ty_fI_eq I.1 rfl (by decide) rfl)
  have vh2_99 : hs_aI h2 99 = (hs_aI h 99) := by rw [eh2]; exact (hs_aI_ne (by decide)).trans rfl
  have vh2_100 : hs_aI h2 100 = (hs_aI h 100) := by rw [eh2]; exact (hs_aI_ne (by decide)).trans rfl
  have vh2_101 : hs_aI h2 101 = (hs_aI h 101) := by rw [eh2]; exact (hs_aI_ne (by decide)).trans rfl
  have Ih2 := H.1 h2 Jh2
  refine hq_p rfl rfl ?_
  refine hq_p rfl rfl (ty_gle (n := x1.toInt) (nm_i2l _) (fun z3 ez3 => ?_))
  refine hq_p rfl rfl (ty_gle (n := 0) (by decide) (fun z4 ez4 => ?_))
  refine hq_p rfl rfl (ty_gle (n := 1) (by decide) (fun z5 ez5 => ?_))
  refine ty_callp 1 Ih2 rfl (fun _ => rfl) rfl rfl rfl rfl (ct_136e (x0 := z3) (x1 := z4) (x2 := z5) (by omega)) (fun _ P6 => ?_)
  obtain ⟨z7, rfl, az7, bz7, iz7, jz7⟩ := P6
  refine ty_zne rfl (fun c8 => ?_) (fun c8 => ?_)
  · replace c8 : 1 ≤ z7.toInt ∧ z7.toInt ≤ 1 := by omega
    have yz7 := iz7 (by omega)
    clear iz7 jz7
    refine hq_p rfl rfl ?_
    refine hq_gR Ih2.1 rfl rfl (by decide) (by decide) rfl ?_
    refine hq_p rfl rfl ?_
    refine ty_bLe Ih2 rfl rfl (by decide) (by omega) (by omega) (fun z9 ez9 az9 bz9 => ?_)
    rw [show x1.toInt.toNat = 1 by omega] at ez9
    rw [vh2_101] at ez9
    refine ty_zne rfl (fun c10 => ?_) (fun c10 => ?_)
    · replace c10 : z9.toInt ≠ 0 := by omega
      refine hq_p rfl rfl (ty_ge (n := 0) nk_i0 (fun z11 ez11 => ?_))
      refine hq_p (ls' := [some (.ref 97), some (.int x1), some (.int z11)]) rfl rfl ?_
      refine bk_loop (by omega) (by omega) Ih2.1 (fun z13 => ?_) (by omega)
      rw [show x1.toInt.toNat = 1 by omega]
      have Jh12 := hI h2 Jh2
      obtain ⟨h12, eh12⟩ : ∃ q, bk_h h2 1 = q := ⟨_, rfl⟩
      have vh12 : (∀ j, 50 ≤ j → j < 86 → hs_aI h12 99 j = hs_aI h 100 (5498 + j)) := fun j j0 j1 => by rw [← eh12]; unfold bk_h; rw [cp_a, vh2_100]; exact (va_in (by omega) (by omega)).trans (congrArg (hs_aI h 100) (by omega))
      rw [eh12] at Jh12 ⊢
      have Ih12 := H.1 h12 Jh12
      have az13 := nm_lo z13
      have bz13 := nm_hi z13
      obtain ⟨J1, eJ1⟩ : ∃ J1 : pm_H → Prop, J1 = fun h' => J h' ∧ (∀ j, 50 ≤ j → j < 86 → hs_aI h' 99 j = hs_aI h 100 (5498 + j)) := ⟨_, rfl⟩
      have H : ty_C ty_Wx J1 := by rw [eJ1]; exact H.seg 99 50 86 (by decide) (fun j _ _ => by unfold ty_Wx; omega) rfl _
      have hJ1 : J1 h12 := by rw [eJ1]; exact ⟨Jh12, vh12⟩
      refine hq_p rfl rfl ?_
      refine hq_p rfl rfl (ty_ge (n := 0) nk_i0 (fun z14 ez14 => ?_))
      refine ty_callj 0 (W := ty_Wx) H hJ1 rfl (fun _ => rfl) rfl rfl rfl (hq_pre_o Ih12.1 (x := 97) (ci := 11) rfl (by decide) rfl rfl rfl rfl) (fun _ _ w => w) (fun _ w => w) (ct_142 (x1 := z14) (by omega) (by omega) (by omega)) (fun h16 _ Jh16 P15 => ?_)
      have Ih16 := H.1 h16 Jh16
      obtain ⟨z17, rfl, fz17⟩ := P15
      exact hq_W.ret rfl rfl rfl ⟨(by have q := Jh16; rw [eJ1] at q; exact q.1), _, rfl, Or.inr ⟨by omega, by omega, (by have q := Jh16; rw [eJ1] at q; exact q.2)⟩⟩
    · obtain ⟨J1, eJ1⟩ : ∃ J1 : pm_H → Prop, J1 = fun h' => J h' ∧ (∀ j, 50 ≤ j → j < 86 → hs_aI h' 99 j = hs_aI h 99 j) := ⟨_, rfl⟩
      have H : ty_C ty_Wx J1 := by rw [eJ1]; exact H.seg 99 50 86 (by decide) (fun j _ _ => by unfold ty_Wx; omega) rfl _
      have hJ1 : J1 h2 := by rw [eJ1]; exact ⟨Jh2, (fun j _ _ => by rw [vh2_99])⟩
      refine hq_p rfl rfl ?_
      refine hq_p rfl rfl (ty_ge (n := -2) nk_bm2 (fun z18 ez18 => ?_))
      refine ty_callj 0 (W := ty_Wx) H hJ1 rfl (fun _ => rfl) rfl rfl rfl (hq_pre_o Ih2.1 (x := 97) (ci := 11) rfl (by decide) rfl rfl rfl rfl) (fun a k w => by unfold ty_Wt at w; unfold ty_Wx; omega) (by unfold ty_Wt ty_Wx; omega) (ct_140 (x1 := z18) (by omega) (by omega) (by omega)) (fun h20 _ Jh20 P19 => ?_)
      have Ih20 := H.1 h20 Jh20
      obtain ⟨z21, rfl, fz21⟩ := P19
      exact hq_W.ret rfl rfl rfl ⟨(by have q := Jh20; rw [eJ1] at q; exact q.1), _, rfl, Or.inl ⟨by omega, by omega, (by have q := Jh20; rw [eJ1] at q; exact q.2)⟩⟩
  · exfalso; omega
end CT52
