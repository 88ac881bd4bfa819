/-! CONTRACTS (printed by wip/pm/cts.py) -/
section CT26
theorem ct_236 {X : pm_X} {d : Nat} {h : pm_H} {x1 : Int32} {ow : Nat} (hd : 2 ≤ d) (ax1 : 0 ≤ x1.toInt) (bx1 : x1.toInt ≤ 5) (ho : ow < 6) (he : wy_c (hs_aI h 99) (hs_aI h 125) x1.toInt.toNat ow = (hs_aI h 125 x1.toInt.toNat).toInt) (hL : ∀ o, o < 6 → 0 ≤ (hs_aI h 125 o).toInt ∧ (hs_aI h 125 o).toInt ≤ 100000000) : ty_M X ty_W0 d 236 [.ref 97, .int x1] h (fun _ v => ∃ z : Int32, v = some (.int z) ∧ 0 ≤ z.toInt ∧ z.toInt ≤ 5 ∧ wy_c (hs_aI h 99) (hs_aI h 125) x1.toInt.toNat z.toInt.toNat = (hs_aI h 125 x1.toInt.toNat).toInt) := by
  intro J H hJ
  obtain ⟨d, rfl⟩ : ∃ e, d = e + 1 := ⟨d - 1, by omega⟩
  have I := H.1 h hJ
  refine hq_M.enter (q := (⟨"TrainBearersModel", "nextOf", "(I)I"⟩, _, 3, some .int, 11, 2, pm_c236)) rfl rfl ?_
  show hq_W X d 11 false (some .int) pm_c236 (0, [some (.ref 97), some (.int x1), none], [], h) (fun h' v => J h' ∧ (fun _ v => ∃ z : Int32, v = some (.int z) ∧ 0 ≤ z.toInt ∧ z.toInt ≤ 5 ∧ wy_c (hs_aI h 99) (hs_aI h 125) x1.toInt.toNat z.toInt.toNat = (hs_aI h 125 x1.toInt.toNat).toInt) h' v)
  refine hq_p rfl rfl (ty_ge (n := 0) nk_i0 (fun z1 ez1 => ?_))
  refine hq_p (ls' := [some (.ref 97), some (.int x1), some (.int z1)]) rfl rfl ?_
  have L2_n4 : ∀ n4 : Nat, ∀ (y3 : Int32), (6 - y3.toInt).toNat = n4 → 0 ≤ y3.toInt → y3.toInt ≤ 5 → y3.toInt ≤ ow → hq_W X d 11 false (some .int) pm_c236 (2, [some (.ref 97), some (.int x1), some (.int y3)], [], h) (fun h' v => J h' ∧ (fun _ v => ∃ z : Int32, v = some (.int z) ∧ 0 ≤ z.toInt ∧ z.toInt ≤ 5 ∧ wy_c (hs_aI h 99) (hs_aI h 125) x1.toInt.toNat z.toInt.toNat = (hs_aI h 125 x1.toInt.toNat).toInt) h' v) := by
    intro n4
    induction n4 using Nat.strongRecOn with
    | ind n4 ihn4 =>
      intro y3 mn4 ay3 by3 x0n4
      refine hq_p rfl rfl ?_
      refine hq_p rfl rfl ?_
      refine hq_p rfl rfl ?_
      refine ty_callp 0 I rfl (fun _ => rfl) rfl rfl rfl (hq_pre_o I.1 (x := 97) (ci := 11) rfl (by decide) rfl rfl rfl rfl) (ct_234 (x1 := x1) (x2 := y3) (by omega) (by omega) (by omega) (by omega) (by omega) (hL y3.toInt.toNat (by omega)).1 (hL y3.toInt.toNat (by omega)).2) (fun _ P5 => ?_)
      obtain ⟨z6, rfl, fz6⟩ := P5
      refine hq_p rfl rfl ?_
      refine hq_gR I.1 rfl rfl (by decide) (by decide) rfl ?_
      refine hq_p rfl rfl ?_
      refine ty_aL I rfl rfl (by decide) (by omega) (by omega) (fun _ _ => ty_le rfl) (fun z7 ez7 az7 bz7 => ?_)
      have nqz6 : y3.toInt = ow → z6.toInt = z7.toInt := fun q => by rw [fz6, ez7, show y3.toInt.toNat = ow by omega]; exact he
      refine ty_ieq rfl (fun c8 => ?_) (fun c8 => ?_)
      · refine hq_p rfl rfl ?_
        exact hq_W.ret rfl rfl rfl ⟨hJ, _, rfl, by omega, by omega, by omega⟩
      · replace c8 : z6.toInt ≠ z7.toInt := by omega
        refine ty_inc (ls' := fun z9 => [some (.ref 97), some (.int x1), some (.int z9)]) rfl rfl (fun _ => rfl) (nm_addc nk_i1 (by omega) (by omega)) (fun z9 ez9 => ?_)
        refine hq_p rfl rfl ?_
        exact ihn4 ((6 - z9.toInt).toNat) (by omega) z9 rfl (by omega) (by omega) (by omega)
  exact L2_n4 _ z1 rfl (by omega) (by omega) (by omega)
end CT26
