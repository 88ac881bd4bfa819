/-! CONTRACTS (printed by wip/pm/cts.py) -/
section CT45
theorem ct_160l {X : pm_X} {d : Nat} {h : pm_H} {x1 : Int32} {x2 : Int32} {x3 : Int32} (hd : 1 ≤ d) (ax1 : 0 ≤ x1.toInt) (bx1 : x1.toInt ≤ 5) (ax2 : 0 ≤ x2.toInt) (bx2 : x2.toInt ≤ 5) (ax3 : (-1) ≤ x3.toInt) (bx3 : x3.toInt ≤ 9) : ty_M X ty_Wl d 160 [.ref 97, .int x1, .int x2, .int x3] h (fun h1 v => v = none ∧ hs_aI h1 99 = upd (upd (hs_aI h 99) (50 + 6 * x1.toInt + x2.toInt).toNat x3) (50 + 6 * x2.toInt + x1.toInt).toNat x3) := by
  intro J H hJ
  obtain ⟨d, rfl⟩ : ∃ e, d = e + 1 := ⟨d - 1, by omega⟩
  have I := H.1 h hJ
  refine hq_M.enter (q := (⟨"TrainBearersModel", "setLane", "(III)V"⟩, _, 4, none, 11, 4, pm_c160)) rfl rfl ?_
  show hq_W X d 11 false (none) pm_c160 (0, [some (.ref 97), some (.int x1), some (.int x2), some (.int x3)], [], h) (fun h' v => J h' ∧ (fun h1 v => v = none ∧ hs_aI h1 99 = upd (upd (hs_aI h 99) (50 + 6 * x1.toInt + x2.toInt).toNat x3) (50 + 6 * x2.toInt + x1.toInt).toNat x3) h' v)
  refine hq_p rfl rfl ?_
  refine hq_gR I.1 rfl rfl (by decide) (by decide) rfl ?_
  refine hq_p rfl rfl (ty_ge (n := 50) nk_b50 (fun z1 ez1 => ?_))
  refine hq_p rfl rfl (ty_ge (n := 6) nk_b6 (fun z2 ez2 => ?_))
  refine hq_p rfl rfl ?_
  refine hq_p rfl rfl (ty_ge (n := 6 * x1.toInt) (nm_cmul ez2 (by omega) (by omega)) (fun z3 ez3 => ?_))
  refine hq_p rfl rfl (ty_ge (n := z1.toInt + z3.toInt) (nm_add (by omega) (by omega)) (fun z4 ez4 => ?_))
  refine hq_p rfl rfl ?_
  refine hq_p rfl rfl (ty_ge (n := z4.toInt + x2.toInt) (nm_add (by omega) (by omega)) (fun z5 ez5 => ?_))
  refine hq_p rfl rfl ?_
  refine ty_aS (W := ty_Wl) H hJ rfl rfl (by decide) (by omega) (by omega) (fun i e => by unfold ty_Wl; omega) (fun i e => ty_eg (ty_w50 (by omega) (by omega))) (by omega) (by omega) (fun e1 e2 w => by omega) (fun h6 eh6 Jh6 => ?_)
  have vh6_99 : hs_aI h6 99 = (upd (hs_aI h 99) z5.toInt.toNat x3) := by rw [eh6, hs_aI_sA]
  have Ih6 := H.1 h6 Jh6
  refine hq_p rfl rfl ?_
  refine hq_gR Ih6.1 rfl rfl (by decide) (by decide) rfl ?_
  refine hq_p rfl rfl (ty_ge (n := 50) nk_b50 (fun z7 ez7 => ?_))
  refine hq_p rfl rfl (ty_ge (n := 6) nk_b6 (fun z8 ez8 => ?_))
  refine hq_p rfl rfl ?_
  refine hq_p rfl rfl (ty_ge (n := 6 * x2.toInt) (nm_cmul ez8 (by omega) (by omega)) (fun z9 ez9 => ?_))
  refine hq_p rfl rfl (ty_ge (n := z7.toInt + z9.toInt) (nm_add (by omega) (by omega)) (fun z10 ez10 => ?_))
  refine hq_p rfl rfl ?_
  refine hq_p rfl rfl (ty_ge (n := z10.toInt + x1.toInt) (nm_add (by omega) (by omega)) (fun z11 ez11 => ?_))
  refine hq_p rfl rfl ?_
  refine ty_aS (W := ty_Wl) H Jh6 rfl rfl (by decide) (by omega) (by omega) (fun i e => by unfold ty_Wl; omega) (fun i e => ty_eg (ty_w50 (by omega) (by omega))) (by omega) (by omega) (fun e1 e2 w => by omega) (fun h12 eh12 Jh12 => ?_)
  have vh12_99 : hs_aI h12 99 = (upd (upd (hs_aI h 99) z5.toInt.toNat x3) z11.toInt.toNat x3) := by rw [eh12, hs_aI_sA, vh6_99]
  have Ih12 := H.1 h12 Jh12
  exact hq_W.ret rfl rfl rfl ⟨Jh12, rfl, (by rw [vh12_99, show z5.toInt.toNat = (50 + 6 * x1.toInt + x2.toInt).toNat by omega, show z11.toInt.toNat = (50 + 6 * x2.toInt + x1.toInt).toNat by omega])⟩
theorem ct_161l {X : pm_X} {d : Nat} {h : pm_H} {x1 : Int32} {x2 : Int32} {x3 : Int32} (hd : 4 ≤ d)  : ty_M X ty_Wxl d 161 [.ref 97, .int x1, .int x2, .int x3] h (fun h1 v => (∃ z : Int32, v = some (.int z) ∧ z.toInt = (if 0 ≤ x1.toInt ∧ x1.toInt ≤ 5 ∧ 0 ≤ x2.toInt ∧ x2.toInt ≤ 5 ∧ x1.toInt ≠ x2.toInt ∧ -1 ≤ x3.toInt ∧ x3.toInt ≤ 9 then (hs_aI h 99 (50 + 6 * x1.toInt + x2.toInt).toNat).toInt else -1)) ∧ (∀ j, 50 ≤ j → j < 86 → hs_aI h1 99 j = (if 0 ≤ x1.toInt ∧ x1.toInt ≤ 5 ∧ 0 ≤ x2.toInt ∧ x2.toInt ≤ 5 ∧ x1.toInt ≠ x2.toInt ∧ -1 ≤ x3.toInt ∧ x3.toInt ≤ 9 then upd (upd (hs_aI h 99) (50 + 6 * x1.toInt + x2.toInt).toNat x3) (50 + 6 * x2.toInt + x1.toInt).toNat x3 else hs_aI h 99) j)) := by
  intro J H hJ
  obtain ⟨d, rfl⟩ : ∃ e, d = e + 1 := ⟨d - 1, by omega⟩
  have I := H.1 h hJ
  have ax1 := nm_lo x1
  have bx1 := nm_hi x1
  have ax2 := nm_lo x2
  have bx2 := nm_hi x2
  have ax3 := nm_lo x3
  have bx3 := nm_hi x3
  refine hq_M.enter (q := (⟨"TrainBearersModel", "lane", "(III)I"⟩, _, 5, some .int, 11, 4, pm_c161)) rfl rfl ?_
  show hq_W X d 11 false (some .int) pm_c161 (0, [some (.ref 97), some (.int x1), some (.int x2), some (.int x3), none], [], h) (fun h' v => J h' ∧ (fun h1 v => (∃ z : Int32, v = some (.int z) ∧ z.toInt = (if 0 ≤ x1.toInt ∧ x1.toInt ≤ 5 ∧ 0 ≤ x2.toInt ∧ x2.toInt ≤ 5 ∧ x1.toInt ≠ x2.toInt ∧ -1 ≤ x3.toInt ∧ x3.toInt ≤ 9 then (hs_aI h 99 (50 + 6 * x1.toInt + x2.toInt).toNat).toInt else -1)) ∧ (∀ j, 50 ≤ j → j < 86 → hs_aI h1 99 j = (if 0 ≤ x1.toInt ∧ x1.toInt ≤ 5 ∧ 0 ≤ x2.toInt ∧ x2.toInt ≤ 5 ∧ x1.toInt ≠ x2.toInt ∧ -1 ≤ x3.toInt ∧ x3.toInt ≤ 9 then upd (upd (hs_aI h 99) (50 + 6 * x1.toInt + x2.toInt).toNat x3) (50 + 6 * x2.toInt + x1.toInt).toNat x3 else hs_aI h 99) j)) h' v)
  refine hq_p rfl rfl ?_
  refine hq_p rfl rfl (ty_ge (n := 0) nk_i0 (fun z1 ez1 => ?_))
  refine ty_pI (W := ty_Wxl) H hJ rfl rfl (by decide) rfl rfl (by unfold ty_Wxl; omega) rfl (by omega) (by omega) (fun h2 eh2 Jh2 => ?_)
  have wh2 : (hs_fI h2 97 0).toInt = z1.toInt := by rw [eh2]; exact congrArg Int32.toInt (ty_fI_eq I.1 rfl (by decide) rfl)
  have vh2_99 : hs_aI h2 99 = (hs_aI h 99) := by rw [eh2]; exact (hs_aI_ne (by decide)).trans rfl
  have Ih2 := H.1 h2 Jh2
  refine hq_p rfl rfl ?_
  refine hq_p rfl rfl ?_
  refine hq_p rfl rfl ?_
  refine ty_callp 1 Ih2 rfl (fun _ => rfl) rfl rfl rfl rfl (ct_159e (x0 := x1) (x1 := x2) (x2 := x3) (by omega)) (fun _ P3 => ?_)
  obtain ⟨z4, rfl, az4, bz4, iz4, jz4⟩ := P3
  refine ty_zne rfl (fun c5 => ?_) (fun c5 => ?_)
  · replace c5 : 1 ≤ z4.toInt ∧ z4.toInt ≤ 1 := by omega
    have yz4 := iz4 (by omega)
    clear iz4 jz4
    refine hq_p rfl rfl ?_
    refine hq_gR Ih2.1 rfl rfl (by decide) (by decide) rfl ?_
    refine hq_p rfl rfl (ty_ge (n := 50) nk_b50 (fun z6 ez6 => ?_))
    refine hq_p rfl rfl (ty_ge (n := 6) nk_b6 (fun z7 ez7 => ?_))
    refine hq_p rfl rfl ?_
    refine hq_p rfl rfl (ty_ge (n := 6 * x1.toInt) (nm_cmul ez7 (by omega) (by omega)) (fun z8 ez8 => ?_))
    refine hq_p rfl rfl (ty_ge (n := z6.toInt + z8.toInt) (nm_add (by omega) (by omega)) (fun z9 ez9 => ?_))
    refine hq_p rfl rfl ?_
    refine hq_p rfl rfl (ty_ge (n := z9.toInt + x2.toInt) (nm_add (by omega) (by omega)) (fun z10 ez10 => ?_))
    refine ty_aL Ih2 rfl rfl (by decide) (by omega) (by omega) (fun i e => ty_le (ty_w50 (by omega) (by omega))) (fun z11 ez11 az11 bz11 => ?_)
    rw [vh2_99] at ez11
    refine hq_p (ls' := [some (.ref 97), some (.int x1), some (.int x2), some (.int x3), some (.int z11)]) rfl rfl ?_
    refine hq_p rfl rfl ?_
    refine hq_p rfl rfl ?_
    refine hq_p rfl rfl ?_
    refine hq_p rfl rfl ?_
    refine ty_callj 0 (W := ty_Wxl) H Jh2 rfl (fun _ => rfl) rfl rfl rfl (hq_pre_o Ih2.1 (x := 97) (ci := 11) rfl (by decide) rfl rfl rfl rfl) (fun a k w => by unfold ty_Wl at w; unfold ty_Wxl; omega) (by unfold ty_Wl ty_Wxl; omega) (ct_160l (x1 := x1) (x2 := x2) (x3 := x3) (by omega) (by omega) (by omega) (by omega) (by omega) (by omega) (by omega)) (fun h13 _ Jh13 P12 => ?_)
    have Ih13 := H.1 h13 Jh13
    obtain ⟨rfl, r14⟩ := P12
    rw [vh2_99] at r14
    refine hq_p rfl rfl ?_
    refine hq_p rfl rfl (ty_ge (n := 0) nk_i0 (fun z15 ez15 => ?_))
    refine ty_pI (W := ty_Wxl) H Jh13 rfl rfl (by decide) rfl rfl (by unfold ty_Wxl; omega) rfl (by omega) (by omega) (fun h16 eh16 Jh16 => ?_)
    have wh16 : (hs_fI h16 97 1).toInt = z15.toInt := by rw [eh16]; exact congrArg Int32.toInt (ty_fI_eq Ih13.1 rfl (by decide) rfl)
    have vh16_99 : hs_aI h16 99 = (upd (upd (hs_aI h 99) (50 + 6 * x1.toInt + x2.toInt).toNat x3) (50 + 6 * x2.toInt + x1.toInt).toNat x3) := by rw [eh16]; exact (hs_aI_ne (by decide)).trans r14
    have Ih16 := H.1 h16 Jh16
    refine hq_p rfl rfl ?_
    exact hq_W.ret rfl rfl rfl ⟨Jh16, ⟨_, rfl, (by rw [if_pos (by omega), ez11, show z10.toInt.toNat = (50 + 6 * x1.toInt + x2.toInt).toNat by omega])⟩, (fun j j0 j1 => by rw [if_pos (by omega), vh16_99])⟩
  · have yz4 := jz4 (by omega)
    clear iz4 jz4
    refine hq_p rfl rfl ?_
    refine hq_p rfl rfl (ty_ge (n := -1) nk_im1 (fun z17 ez17 => ?_))
    refine ty_callm 0 [(3, 99, 0)] (W := ty_Wxl) H Jh2 rfl (fun _ => rfl) rfl rfl rfl (hq_pre_o Ih2.1 (x := 97) (ci := 11) rfl (by decide) rfl rfl rfl rfl) (fun a k w => by unfold ty_Wt at w; unfold ty_Wxl; omega) (by unfold ty_Wt ty_Wxl; omega) (ct_140 (x1 := z17) (by omega) (by omega) (by omega)) ⟨⟨rfl, fun k => show ¬ ty_Wt 99 k by unfold ty_Wt; omega⟩, trivial⟩ (fun h19 _ Jh19 gh19 P18 => ?_)
    obtain ⟨gh19_0, _⟩ := gh19
    have gh19_0 : hs_aI h19 99 = hs_aI h2 99 := gh19_0
    have ugh19_0 : hs_aI h19 99 = (hs_aI h 99) := gh19_0.trans vh2_99
    have Ih19 := H.1 h19 Jh19
    obtain ⟨z20, rfl, fz20⟩ := P18
    exact hq_W.ret rfl rfl rfl ⟨Jh19, ⟨_, rfl, (by rw [if_neg (by omega)]; omega)⟩, (fun j j0 j1 => by rw [if_neg (by omega), ugh19_0])⟩
theorem ct_162l {X : pm_X} {d : Nat} {h : pm_H} {x1 : Int32} {x2 : Int32} (hd : 3 ≤ d)  : ty_M X ty_Wt d 162 [.ref 97, .int x1, .int x2] h (fun _ v => ∃ z : Int32, v = some (.int z) ∧ z.toInt = (if 0 ≤ x1.toInt ∧ x1.toInt ≤ 5 ∧ 0 ≤ x2.toInt ∧ x2.toInt ≤ 5 then (hs_aI h 99 (50 + 6 * x1.toInt + x2.toInt).toNat).toInt else -1)) := by
  intro J H hJ
  obtain ⟨d, rfl⟩ : ∃ e, d = e + 1 := ⟨d - 1, by omega⟩
  have I := H.1 h hJ
  have ax1 := nm_lo x1
  have bx1 := nm_hi x1
  have ax2 := nm_lo x2
  have bx2 := nm_hi x2
  refine hq_M.enter (q := (⟨"TrainBearersModel", "stiles", "(II)I"⟩, _, 3, some .int, 11, 3, pm_c162)) rfl rfl ?_
  show hq_W X d 11 false (some .int) pm_c162 (0, [some (.ref 97), some (.int x1), some (.int x2)], [], h) (fun h' v => J h' ∧ (fun _ v => ∃ z : Int32, v = some (.int z) ∧ z.toInt = (if 0 ≤ x1.toInt ∧ x1.toInt ≤ 5 ∧ 0 ≤ x2.toInt ∧ x2.toInt ≤ 5 then (hs_aI h 99 (50 + 6 * x1.toInt + x2.toInt).toNat).toInt else -1)) h' v)
  refine hq_p rfl rfl ?_
  refine hq_p rfl rfl (ty_ge (n := 0) nk_i0 (fun z1 ez1 => ?_))
  refine ty_pI (W := ty_Wt) H hJ rfl rfl (by decide) rfl rfl (by unfold ty_Wt; omega) rfl (by omega) (by omega) (fun h2 eh2 Jh2 => ?_)
  have wh2 : (hs_fI h2 97 0).toInt = z1.toInt := by rw [eh2]; exact congrArg Int32.toInt (ty_fI_eq I.1 rfl (by decide) rfl)
  have vh2_99 : hs_aI h2 99 = (hs_aI h 99) := by rw [eh2]; exact (hs_aI_ne (by decide)).trans rfl
  have Ih2 := H.1 h2 Jh2
  refine hq_p rfl rfl ?_
  refine ty_callp 1 Ih2 rfl (fun _ => rfl) rfl rfl rfl rfl (ct_151e (x0 := x1) (by omega)) (fun _ P3 => ?_)
  obtain ⟨z4, rfl, az4, bz4, iz4, jz4⟩ := P3
  refine ty_zeq rfl (fun c5 => ?_) (fun c5 => ?_)
  · have yz4 := jz4 (by omega)
    clear iz4 jz4
    refine hq_p rfl rfl (ty_ge (n := -1) nk_im1 (fun z6 ez6 => ?_))
    exact hq_W.ret rfl rfl rfl ⟨Jh2, _, rfl, (by rw [if_neg (by omega)]; omega)⟩
  · replace c5 : 1 ≤ z4.toInt ∧ z4.toInt ≤ 1 := by omega
    have yz4 := iz4 (by omega)
    clear iz4 jz4
    refine hq_p rfl rfl ?_
    refine ty_callp 1 Ih2 rfl (fun _ => rfl) rfl rfl rfl rfl (ct_151e (x0 := x2) (by omega)) (fun _ P7 => ?_)
    obtain ⟨z8, rfl, az8, bz8, iz8, jz8⟩ := P7
    refine ty_zeq rfl (fun c9 => ?_) (fun c9 => ?_)
    · have yz8 := jz8 (by omega)
      clear iz8 jz8
      refine hq_p rfl rfl (ty_ge (n := -1) nk_im1 (fun z10 ez10 => ?_))
      exact hq_W.ret rfl rfl rfl ⟨Jh2, _, rfl, (by rw [if_neg (by omega)]; omega)⟩
    · replace c9 : 1 ≤ z8.toInt ∧ z8.toInt ≤ 1 := by omega
      have yz8 := iz8 (by omega)
      clear iz8 jz8
      refine hq_p rfl rfl ?_
      refine hq_gR Ih2.1 rfl rfl (by decide) (by decide) rfl ?_
      refine hq_p rfl rfl (ty_ge (n := 50) nk_b50 (fun z11 ez11 => ?_))
      refine hq_p rfl rfl (ty_ge (n := 6) nk_b6 (fun z12 ez12 => ?_))
      refine hq_p rfl rfl ?_
      refine hq_p rfl rfl (ty_ge (n := 6 * x1.toInt) (nm_cmul ez12 (by omega) (by omega)) (fun z13 ez13 => ?_))
      refine hq_p rfl rfl (ty_ge (n := z11.toInt + z13.toInt) (nm_add (by omega) (by omega)) (fun z14 ez14 => ?_))
      refine hq_p rfl rfl ?_
      refine hq_p rfl rfl (ty_ge (n := z14.toInt + x2.toInt) (nm_add (by omega) (by omega)) (fun z15 ez15 => ?_))
      refine ty_aL Ih2 rfl rfl (by decide) (by omega) (by omega) (fun i e => ty_le (ty_w50 (by omega) (by omega))) (fun z16 ez16 az16 bz16 => ?_)
      refine hq_p rfl rfl ?_
      exact hq_W.ret rfl rfl rfl ⟨Jh2, _, rfl, (by rw [if_pos (by omega), ez16, vh2_99, show z15.toInt.toNat = (50 + 6 * x1.toInt + x2.toInt).toNat by omega])⟩
end CT45
