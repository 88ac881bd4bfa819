/-! law(), from 82 to 209 -/
section LAP
set_option maxRecDepth 8000 in
theorem la_loop2 {X : pm_X} {d : Nat} {Q : pm_H → Option Value → Prop} {h : pm_H} (I : ty_I h) {R0 : Nat → Int32} {a n1 : Nat} {nc : Int} {x1 : Int32} (ha : x1.toInt = a) (a1 : a ≤ 4598) (hn1 : n1 ≤ 96)
    (K : ∀ R (z : Int32), la_ok R0 (hs_aI h 107) (hs_aI h 108) (hs_aI h 109) a nc n1 (hs_fI h 97 23).toInt.toNat R → hq_W X d 11 false (some .int) pm_c196 (199, [some (.ref 97), some (.int x1), some (.int z)], [], rw_h h R) Q)
    {R : Nat → Int32} (hR : la_ok R0 (hs_aI h 107) (hs_aI h 108) (hs_aI h 109) a nc n1 0 R) {z : Int32} (hz : z.toInt = 0) : hq_W X d 11 false (some .int) pm_c196 (145, [some (.ref 97), some (.int x1), some (.int z)], [], rw_h h R) Q := by
  have b0 : 0 ≤ (hs_fI h 97 23).toInt := (I.2.1 97 23 (by decide)).1
  have b1 : (hs_fI h 97 23).toInt ≤ 400 := (I.2.1 97 23 (by decide)).2
  have L : ∀ n : Nat, ∀ (y : Int32) (R : Nat → Int32) (hh : pm_H), (400 - y.toInt).toNat = n → 0 ≤ y.toInt → y.toInt ≤ (hs_fI h 97 23).toInt → hh = rw_h h R → la_ok R0 (hs_aI h 107) (hs_aI h 108) (hs_aI h 109) a nc n1 y.toInt.toNat R → hq_W X d 11 false (some .int) pm_c196 (145, [some (.ref 97), some (.int x1), some (.int y)], [], hh) Q := by
    intro n
    induction n using Nat.strongRecOn with
    | ind n ih =>
      intro y R hh m y0 y1 e hR
      have Sh : hs_Shape hh := by rw [e]; exact rw_S I.1
      have f23 : hs_fI hh 97 23 = hs_fI h 97 23 := by rw [e]; exact rw_f (by decide)
      refine hq_p rfl rfl ?_
      refine hq_p rfl rfl ?_
      refine hq_gI Sh rfl rfl (by decide) (by decide) rfl (ty_ge rfl (fun z1 e1 => ?_))
      rw [f23] at e1
      refine ty_ige rfl (fun c => ?_) (fun c => ?_)
      · have e9 : y.toInt.toNat = (hs_fI h 97 23).toInt.toNat := by omega
        rw [e9] at hR
        rw [e]
        exact K R y hR
      · refine hq_p rfl rfl ?_
        refine hq_gR Sh rfl rfl (by decide) (by decide) rfl ?_
        refine hq_p rfl rfl ?_
        refine hq_p rfl rfl (ty_ge (n := 98) nk_b98 (fun z2 e2 => ?_))
        refine hq_p rfl rfl (ty_ge (n := x1.toInt + z2.toInt) (nm_add (by omega) (by omega)) (fun z3 e3 => ?_))
        refine hq_p rfl rfl (ty_ge (n := 2) nk_i2 (fun z4 e4 => ?_))
        refine hq_p rfl rfl ?_
        refine hq_p rfl rfl (ty_ge (n := 2 * y.toInt) (nm_cmul e4 (by omega) (by omega)) (fun z5 e5 => ?_))
        refine hq_p rfl rfl (ty_ge (n := z3.toInt + z5.toInt) (nm_add (by omega) (by omega)) (fun z6 e6 => ?_))
        refine hq_p rfl rfl ?_
        refine hq_gR Sh rfl rfl (by decide) (by decide) rfl ?_
        refine hq_p rfl rfl ?_
        refine hq_aL Sh rfl rfl (by decide) (by omega) (by omega) ?_
        refine hq_aS Sh rfl rfl (by decide) (by omega) (by omega) (fun S1 => ?_)
        obtain ⟨h1, eh1⟩ : ∃ q, q = hs_sA hh 99 0 5498 z6.toNatClampNeg (hs_aI hh 108 y.toNatClampNeg) := ⟨_, rfl⟩
        rw [← eh1] at S1 ⊢
        refine hq_p rfl rfl ?_
        refine hq_gR S1 rfl rfl (by decide) (by decide) rfl ?_
        refine hq_p rfl rfl ?_
        refine hq_p rfl rfl (ty_ge (n := 98) nk_b98 (fun w2 g2 => ?_))
        refine hq_p rfl rfl (ty_ge (n := x1.toInt + w2.toInt) (nm_add (by omega) (by omega)) (fun w3 g3 => ?_))
        refine hq_p rfl rfl (ty_ge (n := 2) nk_i2 (fun w4 g4 => ?_))
        refine hq_p rfl rfl ?_
        refine hq_p rfl rfl (ty_ge (n := 2 * y.toInt) (nm_cmul g4 (by omega) (by omega)) (fun w5 g5 => ?_))
        refine hq_p rfl rfl (ty_ge (n := w3.toInt + w5.toInt) (nm_add (by omega) (by omega)) (fun w6 g6 => ?_))
        refine hq_p rfl rfl (ty_ge (n := 1) nk_i1 (fun w7 g7 => ?_))
        refine hq_p rfl rfl (ty_ge (n := w6.toInt + w7.toInt) (nm_add (by omega) (by omega)) (fun w8 g8 => ?_))
        refine hq_p rfl rfl ?_
        refine hq_gR S1 rfl rfl (by decide) (by decide) rfl ?_
        refine hq_p rfl rfl ?_
        refine hq_aL S1 rfl rfl (by decide) (by omega) (by omega) ?_
        refine hq_aS S1 rfl rfl (by decide) (by omega) (by omega) (fun S2 => ?_)
        refine ty_inc (ls' := fun z => [some (.ref 97), some (.int x1), some (.int z)]) rfl rfl (fun _ => rfl) (nm_addc nk_i1 (by omega) (by omega)) (fun z7 e7 => ?_)
        refine hq_p rfl rfl ?_
        have k8 : hs_aI hh 108 y.toNatClampNeg = hs_aI h 108 y.toInt.toNat := by rw [e, rw_o (by decide)]; rfl
        have q1 : h1 = rw_h h (upd R z6.toInt.toNat (hs_aI h 108 y.toInt.toNat)) := by rw [eh1, k8, e]; exact rw_s
        have k9 : hs_aI h1 109 y.toNatClampNeg = hs_aI h 109 y.toInt.toNat := by rw [q1, rw_o (by decide)]; rfl
        refine ih ((400 - z7.toInt).toNat) (by omega) z7 (upd (upd R z6.toInt.toNat (hs_aI h 108 y.toInt.toNat)) w8.toInt.toNat (hs_aI h 109 y.toInt.toNat)) _ rfl (by omega) (by omega) ?_ ?_
        · show hs_sA h1 99 0 5498 w8.toInt.toNat (hs_aI h1 109 y.toNatClampNeg) = _
          rw [k9, q1]
          exact rw_s
        · rw [show z7.toInt.toNat = y.toInt.toNat + 1 by omega]
          exact la_2 hR rfl rfl (by omega) (by omega) (by omega) hn1
  exact L _ z R _ rfl (by omega) (by omega) rfl (by rw [hz]; exact hR)
set_option maxRecDepth 8000 in
theorem la_loop1 {X : pm_X} {d : Nat} {Q : pm_H → Option Value → Prop} {h : pm_H} (I : ty_I h) {R0 : Nat → Int32} {a : Nat} {nc : Int} {x1 : Int32} (ha : x1.toInt = a) (a1 : a ≤ 4598)
    (K : ∀ R (z : Int32), la_ok R0 (hs_aI h 107) (hs_aI h 108) (hs_aI h 109) a nc (8 * (hs_fI h 97 21).toInt.toNat) 0 R → hq_W X d 11 false (some .int) pm_c196 (143, [some (.ref 97), some (.int x1), some (.int z)], [], rw_h h R) Q)
    {R : Nat → Int32} (hR : la_ok R0 (hs_aI h 107) (hs_aI h 108) (hs_aI h 109) a nc 0 0 R) {z : Int32} (hz : z.toInt = 0) : hq_W X d 11 false (some .int) pm_c196 (110, [some (.ref 97), some (.int x1), some (.int z)], [], rw_h h R) Q := by
  have b0 : 0 ≤ (hs_fI h 97 21).toInt := (I.2.1 97 21 (by decide)).1
  have b1 : (hs_fI h 97 21).toInt ≤ 12 := (I.2.1 97 21 (by decide)).2
  have L : ∀ n : Nat, ∀ (y : Int32) (R : Nat → Int32) (hh : pm_H), (400 - y.toInt).toNat = n → 0 ≤ y.toInt → y.toInt ≤ 8 * (hs_fI h 97 21).toInt → hh = rw_h h R → la_ok R0 (hs_aI h 107) (hs_aI h 108) (hs_aI h 109) a nc y.toInt.toNat 0 R → hq_W X d 11 false (some .int) pm_c196 (110, [some (.ref 97), some (.int x1), some (.int y)], [], hh) Q := by
    intro n
    induction n using Nat.strongRecOn with
    | ind n ih =>
      intro y R hh m y0 y1 e hR
      have Sh : hs_Shape hh := by rw [e]; exact rw_S I.1
      have f21 : hs_fI hh 97 21 = hs_fI h 97 21 := by rw [e]; exact rw_f (by decide)
      refine hq_p rfl rfl ?_
      refine hq_p rfl rfl (ty_ge (n := 8) nk_b8 (fun z0 e0 => ?_))
      refine hq_p rfl rfl ?_
      refine hq_gI Sh rfl rfl (by decide) (by decide) rfl (ty_ge rfl (fun z1 e1 => ?_))
      rw [f21] at e1
      refine hq_p rfl rfl (ty_ge (n := 8 * z1.toInt) (nm_cmul e0 (by omega) (by omega)) (fun z2 e2 => ?_))
      refine ty_ige rfl (fun c => ?_) (fun c => ?_)
      · have e9 : y.toInt.toNat = 8 * (hs_fI h 97 21).toInt.toNat := by omega
        rw [e9] at hR
        rw [e]
        exact K R y hR
      · refine hq_p rfl rfl ?_
        refine hq_gR Sh rfl rfl (by decide) (by decide) rfl ?_
        refine hq_p rfl rfl ?_
        refine hq_p rfl rfl (ty_ge (n := 2) nk_i2 (fun z3 e3 => ?_))
        refine hq_p rfl rfl (ty_ge (n := x1.toInt + z3.toInt) (nm_add (by omega) (by omega)) (fun z4 e4 => ?_))
        refine hq_p rfl rfl ?_
        refine hq_p rfl rfl (ty_ge (n := z4.toInt + y.toInt) (nm_add (by omega) (by omega)) (fun z5 e5 => ?_))
        refine hq_p rfl rfl ?_
        refine hq_gR Sh rfl rfl (by decide) (by decide) rfl ?_
        refine hq_p rfl rfl ?_
        refine hq_aL Sh rfl rfl (by decide) (by omega) (by omega) ?_
        refine hq_aS Sh rfl rfl (by decide) (by omega) (by omega) (fun S1 => ?_)
        refine ty_inc (ls' := fun z => [some (.ref 97), some (.int x1), some (.int z)]) rfl rfl (fun _ => rfl) (nm_addc nk_i1 (by omega) (by omega)) (fun z7 e7 => ?_)
        refine hq_p rfl rfl ?_
        have k7 : hs_aI hh 107 y.toNatClampNeg = hs_aI h 107 y.toInt.toNat := by rw [e, rw_o (by decide)]; rfl
        refine ih ((400 - z7.toInt).toNat) (by omega) z7 (upd R z5.toInt.toNat (hs_aI h 107 y.toInt.toNat)) _ rfl (by omega) (by omega) ?_ ?_
        · show hs_sA hh 99 0 5498 z5.toInt.toNat (hs_aI hh 107 y.toNatClampNeg) = _
          rw [k7, e]
          exact rw_s
        · rw [show z7.toInt.toNat = y.toInt.toNat + 1 by omega]
          exact la_1 hR rfl (by omega) (by omega)
  exact L _ z R _ rfl (by omega) (by omega) rfl (by rw [hz]; exact hR)
set_option maxRecDepth 8000 in
theorem la_copy {X : pm_X} {d : Nat} {Q : pm_H → Option Value → Prop} {h : pm_H} (I : ty_I h) (l0 : 0 ≤ (hs_aI h 99 3).toInt) (l5 : (hs_aI h 99 3).toInt ≤ 5) (hl : lwp (hs_aI h 107) (hs_aI h 108) (hs_aI h 109) (hs_fI h 97 21).toInt (hs_fI h 97 23).toInt)
    (K : ∀ h1 (z1 z2 : Int32), ty_I h1 → h1.1 = h.1 → h1.2.1 = h.2.1 → (∀ b, b ≠ 99 → h1.2.2 b = h.2.2 b) → (hs_aI h1 99 5).toInt = (hs_aI h 99 5).toInt → 1 ≤ (hs_aI h1 99 3).toInt → hq_W X d 11 false (some .int) pm_c196 (209, [some (.ref 97), some (.int z1), some (.int z2)], [], h1) Q) : hq_W X d 11 false (some .int) pm_c196 (82, [some (.ref 97), none, none], [], h) Q := by
  have b0 : 0 ≤ (hs_fI h 97 21).toInt := (I.2.1 97 21 (by decide)).1
  have b1 : (hs_fI h 97 21).toInt ≤ 12 := (I.2.1 97 21 (by decide)).2
  have d0 : 0 ≤ (hs_fI h 97 23).toInt := (I.2.1 97 23 (by decide)).1
  have d1 : (hs_fI h 97 23).toInt ≤ 400 := (I.2.1 97 23 (by decide)).2
  refine hq_p rfl rfl (ty_ge (n := 98) nk_b98 (fun z1 e1 => ?_))
  refine hq_p rfl rfl (ty_ge (n := 900) nk_s900 (fun z2 e2 => ?_))
  refine hq_p rfl rfl ?_
  refine hq_gR I.1 rfl rfl (by decide) (by decide) rfl ?_
  refine hq_p rfl rfl (ty_ge (n := 3) nk_i3 (fun z3 e3 => ?_))
  refine hq_aL I.1 rfl rfl (by decide) (by omega) (by omega) (ty_ge (n := (hs_aI h 99 3).toInt) (by rw [show z3.toNatClampNeg = 3 by rw [nm_nat]; omega]) (fun z4 e4 => ?_))
  refine hq_p rfl rfl (ty_ge (n := 900 * z4.toInt) (nm_cmul e2 (by omega) (by omega)) (fun z5 e5 => ?_))
  refine hq_p rfl rfl (ty_ge (n := z1.toInt + z5.toInt) (nm_add (by omega) (by omega)) (fun z6 e6 => ?_))
  refine hq_p (ls' := [some (.ref 97), some (.int z6), none]) rfl rfl ?_
  obtain ⟨a, ea⟩ : ∃ q : Nat, (q : Int) = z6.toInt := ⟨z6.toInt.toNat, by omega⟩
  obtain ⟨l, el⟩ : ∃ q : Nat, (q : Int) = (hs_aI h 99 3).toInt := ⟨(hs_aI h 99 3).toInt.toNat, by omega⟩
  have al : a = 98 + 900 * l := by omega
  refine hq_p rfl rfl ?_
  refine hq_gR I.1 rfl rfl (by decide) (by decide) rfl ?_
  refine hq_p rfl rfl ?_
  refine hq_p rfl rfl (ty_ge (n := 1) nk_i1 (fun z7 e7 => ?_))
  refine hq_p rfl rfl (ty_ge (n := z6.toInt + z7.toInt) (nm_add (by omega) (by omega)) (fun z8 e8 => ?_))
  refine hq_p rfl rfl ?_
  refine hq_gI I.1 rfl rfl (by decide) (by decide) rfl ?_
  refine hq_aS I.1 rfl rfl (by decide) (by omega) (by omega) (fun S1 => ?_)
  have q0 : hs_sA h 99 0 5498 z8.toNatClampNeg (hs_fI h 97 21) = rw_h h (upd (hs_aI h 99) z8.toInt.toNat (hs_fI h 97 21)) := rfl
  rw [q0]
  refine hq_p rfl rfl (ty_ge (n := 0) nk_i0 (fun z9 e9 => ?_))
  refine hq_p (ls' := [some (.ref 97), some (.int z6), some (.int z9)]) rfl rfl ?_
  refine la_loop1 I (a := a) (nc := (hs_fI h 97 21).toInt) (R0 := hs_aI h 99) (by omega) (by omega) (fun R1 z10 hR1 => ?_) (la_0 rfl (by omega)) e9
  refine hq_p rfl rfl (ty_ge (n := 0) nk_i0 (fun z11 e11 => ?_))
  refine hq_p (ls' := [some (.ref 97), some (.int z6), some (.int z11)]) rfl rfl ?_
  refine la_loop2 I (a := a) (by omega) (by omega) (by omega) (fun R2 z12 hR2 => ?_) hR1 e11
  obtain ⟨hh, eh⟩ : ∃ q, q = rw_h h R2 := ⟨_, rfl⟩
  have lw := la_lw hR2 hl b0 b1 (by omega) (by omega) d1
  have R2j : ∀ j, j ≤ a → R2 j = hs_aI h 99 j := hR2.1
  have R2k : ∀ j, a + 900 ≤ j → R2 j = hs_aI h 99 j := hR2.2.1
  rw [← eh]
  have Sh : hs_Shape hh := by rw [eh]; exact rw_S I.1
  refine hq_p rfl rfl ?_
  refine hq_gR Sh rfl rfl (by decide) (by decide) rfl ?_
  refine hq_p rfl rfl (ty_ge (n := 3) nk_i3 (fun z13 e13 => ?_))
  refine hq_p rfl rfl ?_
  have k3 : hs_aI hh 99 3 = hs_aI h 99 3 := by rw [eh, rw_a]; exact R2j 3 (by omega)
  refine hq_aL Sh rfl rfl (by decide) (by omega) (by omega) (ty_ge (n := (hs_aI h 99 3).toInt) (by rw [show z13.toNatClampNeg = 3 by rw [nm_nat]; omega, k3]) (fun z14 e14 => ?_))
  refine hq_p rfl rfl (ty_ge (n := 1) nk_i1 (fun z15 e15 => ?_))
  refine hq_p rfl rfl (ty_ge (n := z14.toInt + z15.toInt) (nm_add (by omega) (by omega)) (fun z16 e16 => ?_))
  refine hq_aS Sh rfl rfl (by decide) (by omega) (by omega) (fun S2 => ?_)
  have q2 : hs_sA hh 99 0 5498 z13.toNatClampNeg z16 = rw_h h (upd R2 3 z16) := by
    rw [show z13.toNatClampNeg = 3 by rw [nm_nat]; omega, eh]
    exact rw_s
  rw [q2]
  have u3 : upd R2 3 z16 3 = z16 := by unfold upd; rw [if_pos rfl]
  have un : ∀ j, j ≠ 3 → upd R2 3 z16 j = R2 j := fun j hj => by unfold upd; rw [if_neg hj]
  refine K _ z6 z12 (rw_I I (fun j hj => ?_) (fun m hm => ?_)) rfl rfl (fun b hb => hs_oth hb) ?_ ?_
  · by_cases c3 : j = 3
    · subst c3
      rw [u3]
      show (0 : Int) ≤ _ ∧ _ ≤ (6 : Int)
      omega
    · rw [un j c3]
      by_cases cl : j ≤ a
      · rw [R2j j cl]
        exact I.2.2.2.1 99 j (by decide) hj
      · rw [rb_hi (by omega)]
        exact ⟨nm_lo _, nm_hi _⟩
  · by_cases c : m = l
    · rw [c, ← al]
      refine lw_cong (b := a) (fun j hj => un _ (by omega)) lw
    · refine lw_cong (b := 98 + 900 * m) (fun j hj => ?_) (I.2.2.2.2.2.2.1 m hm)
      rw [un _ (by omega)]
      by_cases c2 : m < l
      · exact R2j _ (by omega)
      · exact R2k _ (by omega)
  · rw [rw_a, un 5 (by omega), R2j 5 (by omega)]
  · rw [rw_a, u3]
    omega
end LAP
