/-! CONTRACTS (printed by wip/pm/cts.py) -/
section CT25
def wy_c (R L : Nat → Int32) (p o : Nat) : Int := if (R (50 + 6 * p + o)).toInt = -1 ∨ (L o).toInt = 100000000 then 100000000 else 100 * (R (50 + 6 * p + o)).toInt + 1 + (L o).toInt
theorem wy_pos {R L : Nat → Int32} {p o : Nat} (h0 : -1 ≤ (R (50 + 6 * p + o)).toInt) (h1 : 0 ≤ (L o).toInt) : 1 ≤ wy_c R L p o := by
  unfold wy_c
  split <;> omega
theorem ct_234 {X : pm_X} {d : Nat} {h : pm_H} {x1 : Int32} {x2 : Int32} (hd : 1 ≤ d) (ax1 : 0 ≤ x1.toInt) (bx1 : x1.toInt ≤ 5) (ax2 : 0 ≤ x2.toInt) (bx2 : x2.toInt ≤ 5) (hl0 : 0 ≤ (hs_aI h 125 x2.toInt.toNat).toInt) (hl1 : (hs_aI h 125 x2.toInt.toNat).toInt ≤ 100000000) : ty_M X ty_W0 d 234 [.ref 97, .int x1, .int x2] h (fun _ v => ∃ z : Int32, v = some (.int z) ∧ z.toInt = wy_c (hs_aI h 99) (hs_aI h 125) x1.toInt.toNat x2.toInt.toNat) := by
  intro J H hJ
  obtain ⟨d, rfl⟩ : ∃ e, d = e + 1 := ⟨d - 1, by omega⟩
  have I := H.1 h hJ
  refine hq_M.enter (q := (⟨"TrainBearersModel", "costTo", "(II)I"⟩, _, 4, some .int, 11, 3, pm_c234)) rfl rfl ?_
  show hq_W X d 11 false (some .int) pm_c234 (0, [some (.ref 97), some (.int x1), some (.int x2), none], [], h) (fun h' v => J h' ∧ (fun _ v => ∃ z : Int32, v = some (.int z) ∧ z.toInt = wy_c (hs_aI h 99) (hs_aI h 125) x1.toInt.toNat x2.toInt.toNat) h' v)
  refine hq_p rfl rfl ?_
  refine hq_gR I.1 rfl rfl (by decide) (by decide) rfl ?_
  refine hq_p rfl rfl (ty_ge (n := 50) nk_b50 (fun z1 ez1 => ?_))
  refine hq_p rfl rfl (ty_ge (n := 6) nk_b6 (fun z2 ez2 => ?_))
  refine hq_p rfl rfl ?_
  refine hq_p rfl rfl (ty_ge (n := 6 * x1.toInt) (nm_cmul ez2 (by omega) (by omega)) (fun z3 ez3 => ?_))
  refine hq_p rfl rfl (ty_ge (n := z1.toInt + z3.toInt) (nm_add (by omega) (by omega)) (fun z4 ez4 => ?_))
  refine hq_p rfl rfl ?_
  refine hq_p rfl rfl (ty_ge (n := z4.toInt + x2.toInt) (nm_add (by omega) (by omega)) (fun z5 ez5 => ?_))
  refine ty_aL I rfl rfl (by decide) (by omega) (by omega) (fun i e => ty_le (ty_w50 (by omega) (by omega))) (fun z6 ez6 az6 bz6 => ?_)
  have es : z6.toInt = (hs_aI h 99 (50 + 6 * x1.toInt.toNat + x2.toInt.toNat)).toInt := by rw [ez6, show z5.toInt.toNat = 50 + 6 * x1.toInt.toNat + x2.toInt.toNat by omega]
  refine hq_p (ls' := [some (.ref 97), some (.int x1), some (.int x2), some (.int z6)]) rfl rfl ?_
  refine hq_p rfl rfl ?_
  refine hq_p rfl rfl (ty_ge (n := -1) nk_im1 (fun z7 ez7 => ?_))
  refine ty_ieq rfl (fun c8 => ?_) (fun c8 => ?_)
  · refine hq_p rfl rfl (ty_ge (n := 100000000) nk_d100000000 (fun z9 ez9 => ?_))
    refine hq_p rfl rfl ?_
    exact hq_W.ret rfl rfl rfl ⟨hJ, _, rfl, by unfold wy_c; split <;> omega⟩
  · replace c8 : 0 ≤ z6.toInt ∧ z6.toInt ≤ 9 := by omega
    refine hq_p rfl rfl ?_
    refine hq_gR I.1 rfl rfl (by decide) (by decide) rfl ?_
    refine hq_p rfl rfl ?_
    refine ty_aL I rfl rfl (by decide) (by omega) (by omega) (fun _ _ => ty_le rfl) (fun z10 ez10 az10 bz10 => ?_)
    refine hq_p rfl rfl (ty_ge (n := 100000000) nk_d100000000 (fun z11 ez11 => ?_))
    refine ty_ine rfl (fun c12 => ?_) (fun c12 => ?_)
    · replace c12 : z10.toInt < z11.toInt := by omega
      refine hq_p rfl rfl (ty_ge (n := 100) nk_b100 (fun z13 ez13 => ?_))
      refine hq_p rfl rfl ?_
      refine hq_p rfl rfl (ty_ge (n := 100 * z6.toInt) (nm_cmul ez13 (by omega) (by omega)) (fun z14 ez14 => ?_))
      refine hq_p rfl rfl (ty_ge (n := 1) nk_i1 (fun z15 ez15 => ?_))
      refine hq_p rfl rfl (ty_ge (n := z14.toInt + z15.toInt) (nm_add (by omega) (by omega)) (fun z16 ez16 => ?_))
      refine hq_p rfl rfl ?_
      refine hq_gR I.1 rfl rfl (by decide) (by decide) rfl ?_
      refine hq_p rfl rfl ?_
      refine ty_aL I rfl rfl (by decide) (by omega) (by omega) (fun _ _ => ty_le rfl) (fun z17 ez17 az17 bz17 => ?_)
      refine hq_p rfl rfl (ty_ge (n := z16.toInt + z17.toInt) (nm_add (by omega) (by omega)) (fun z18 ez18 => ?_))
      exact hq_W.ret rfl rfl rfl ⟨hJ, _, rfl, by unfold wy_c; split <;> omega⟩
    · refine hq_p rfl rfl (ty_ge (n := 100000000) nk_d100000000 (fun z19 ez19 => ?_))
      refine hq_p rfl rfl ?_
      exact hq_W.ret rfl rfl rfl ⟨hJ, _, rfl, by unfold wy_c; split <;> omega⟩
end CT25
