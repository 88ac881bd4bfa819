/-! CONTRACTS (printed by wip/pm/cts.py) -/
section CT42
/-- end writes the sizes alone -/
def ty_Wfe (a k : Nat) : Prop := a = 62 ∧ k = 1
def ty_Wge (a k : Nat) : Prop := a = 97 ∧ (k = 13 ∨ k = 0)
theorem ct_92t {X : pm_X} {d : Nat} {h : pm_H} {x1 : Int32} (hd : 1 ≤ d)  : ty_M X ty_Wfe d 92 [.ref 0, .int x1] h (fun h1 v => (∃ z : Int32, v = some (.int z) ∧ z.toInt = (if x1.toInt < 0 ∨ (hs_fI h 62 1).toInt < x1.toInt then -1 else x1.toInt)) ∧ (hs_fI h1 62 1).toInt = (if x1.toInt < 0 ∨ (hs_fI h 62 1).toInt < x1.toInt then (hs_fI h 62 1).toInt else x1.toInt)) := by
  intro J H hJ
  obtain ⟨d, rfl⟩ : ∃ e, d = e + 1 := ⟨d - 1, by omega⟩
  have I := H.1 h hJ
  have ax1 := nm_lo x1
  have bx1 := nm_hi x1
  obtain ⟨q1, eq1⟩ : ∃ q : Int32, q.toInt = (hs_fI h 62 1).toInt := ⟨_, rfl⟩
  have gq10 : 0 ≤ (hs_fI h 62 1).toInt := (I.2.1 62 1 (by decide)).1
  have gq11 : (hs_fI h 62 1).toInt ≤ 400 := (I.2.1 62 1 (by decide)).2
  refine hq_M.enter (q := (⟨"TrainBearers", "end", "(I)I"⟩, _, 2, some .int, 10, 2, pm_c92)) rfl rfl ?_
  show hq_W X d 10 false (some .int) pm_c92 (0, [some (.ref 0), some (.int x1)], [], h) (fun h' v => J h' ∧ (fun h1 v => (∃ z : Int32, v = some (.int z) ∧ z.toInt = (if x1.toInt < 0 ∨ (hs_fI h 62 1).toInt < x1.toInt then -1 else x1.toInt)) ∧ (hs_fI h1 62 1).toInt = (if x1.toInt < 0 ∨ (hs_fI h 62 1).toInt < x1.toInt then (hs_fI h 62 1).toInt else x1.toInt)) h' v)
  refine hq_p rfl rfl ?_
  refine ty_zlt rfl (fun c1 => ?_) (fun c1 => ?_)
  · refine hq_p rfl rfl (ty_ge (n := -1) nk_im1 (fun z2 ez2 => ?_))
    exact hq_W.ret rfl rfl rfl ⟨hJ, ⟨_, rfl, by omega⟩, by omega⟩
  · refine hq_p rfl rfl ?_
    refine hq_p rfl rfl ?_
    refine hq_gR I.1 rfl rfl (by decide) (by decide) rfl ?_
    refine ty_gI I rfl rfl (by decide) (by decide) rfl rfl (fun z3 ez3 az3 bz3 => ?_)
    refine ty_ile rfl (fun c4 => ?_) (fun c4 => ?_)
    · refine hq_p rfl rfl ?_
      refine hq_gR I.1 rfl rfl (by decide) (by decide) rfl ?_
      refine hq_p rfl rfl ?_
      refine ty_pI (W := ty_Wfe) H hJ rfl rfl (by decide) rfl rfl (by unfold ty_Wfe; omega) rfl (by omega) (by omega) (fun h5 eh5 Jh5 => ?_)
      have wh5 : (hs_fI h5 62 1).toInt = x1.toInt := by rw [eh5]; exact congrArg Int32.toInt (ty_fI_eq I.1 rfl (by decide) rfl)
      have Ih5 := H.1 h5 Jh5
      refine hq_p rfl rfl ?_
      exact hq_W.ret rfl rfl rfl ⟨Jh5, ⟨_, rfl, by omega⟩, by omega⟩
    · refine hq_p rfl rfl (ty_ge (n := -1) nk_im1 (fun z6 ez6 => ?_))
      exact hq_W.ret rfl rfl rfl ⟨hJ, ⟨_, rfl, by omega⟩, by omega⟩
theorem ct_168t {X : pm_X} {d : Nat} {h : pm_H} {x1 : Int32} (hd : 1 ≤ d)  : ty_M X ty_Wge d 168 [.ref 97, .int x1] h (fun h1 v => (∃ z : Int32, v = some (.int z) ∧ z.toInt = (if x1.toInt < 0 ∨ (hs_fI h 97 13).toInt < x1.toInt then -1 else x1.toInt)) ∧ (hs_fI h1 97 13).toInt = (if x1.toInt < 0 ∨ (hs_fI h 97 13).toInt < x1.toInt then (hs_fI h 97 13).toInt else x1.toInt)) := by
  intro J H hJ
  obtain ⟨d, rfl⟩ : ∃ e, d = e + 1 := ⟨d - 1, by omega⟩
  have I := H.1 h hJ
  have ax1 := nm_lo x1
  have bx1 := nm_hi x1
  obtain ⟨q13, eq13⟩ : ∃ q : Int32, q.toInt = (hs_fI h 97 13).toInt := ⟨_, rfl⟩
  have gq130 : 0 ≤ (hs_fI h 97 13).toInt := (I.2.1 97 13 (by decide)).1
  have gq131 : (hs_fI h 97 13).toInt ≤ 400 := (I.2.1 97 13 (by decide)).2
  refine hq_M.enter (q := (⟨"TrainBearersModel", "end", "(I)I"⟩, _, 2, some .int, 11, 2, pm_c168)) rfl rfl ?_
  show hq_W X d 11 false (some .int) pm_c168 (0, [some (.ref 97), some (.int x1)], [], h) (fun h' v => J h' ∧ (fun h1 v => (∃ z : Int32, v = some (.int z) ∧ z.toInt = (if x1.toInt < 0 ∨ (hs_fI h 97 13).toInt < x1.toInt then -1 else x1.toInt)) ∧ (hs_fI h1 97 13).toInt = (if x1.toInt < 0 ∨ (hs_fI h 97 13).toInt < x1.toInt then (hs_fI h 97 13).toInt else x1.toInt)) h' v)
  refine hq_p rfl rfl ?_
  refine hq_p rfl rfl (ty_ge (n := 0) nk_i0 (fun z1 ez1 => ?_))
  refine ty_pI (W := ty_Wge) H hJ rfl rfl (by decide) rfl rfl (by unfold ty_Wge; omega) rfl (by omega) (by omega) (fun h2 eh2 Jh2 => ?_)
  have wh2 : (hs_fI h2 97 0).toInt = z1.toInt := by rw [eh2]; exact congrArg Int32.toInt (ty_fI_eq I.1 rfl (by decide) rfl)
  have Ih2 := H.1 h2 Jh2
  refine hq_p rfl rfl ?_
  refine ty_zlt rfl (fun c3 => ?_) (fun c3 => ?_)
  · refine hq_p rfl rfl (ty_ge (n := -1) nk_im1 (fun z4 ez4 => ?_))
    have r5 : (hs_fI h2 97 13).toInt = (hs_fI h 97 13).toInt := by rw [eh2]; exact congrArg Int32.toInt (ty_fI_sF (by decide))
    exact hq_W.ret rfl rfl rfl ⟨Jh2, ⟨_, rfl, by omega⟩, by omega⟩
  · refine hq_p rfl rfl ?_
    refine hq_p rfl rfl ?_
    have r7 : (hs_fI h2 97 13).toInt = (hs_fI h 97 13).toInt := by rw [eh2]; exact congrArg Int32.toInt (ty_fI_sF (by decide))
    refine ty_gI Ih2 rfl rfl (by decide) (by decide) rfl rfl (fun z6 ez6 az6 bz6 => ?_)
    refine ty_ile rfl (fun c8 => ?_) (fun c8 => ?_)
    · refine hq_p rfl rfl ?_
      refine hq_p rfl rfl ?_
      refine ty_pI (W := ty_Wge) H Jh2 rfl rfl (by decide) rfl rfl (by unfold ty_Wge; omega) rfl (by omega) (by omega) (fun h9 eh9 Jh9 => ?_)
      have wh9 : (hs_fI h9 97 13).toInt = x1.toInt := by rw [eh9]; exact congrArg Int32.toInt (ty_fI_eq Ih2.1 rfl (by decide) rfl)
      have Ih9 := H.1 h9 Jh9
      refine hq_p rfl rfl ?_
      exact hq_W.ret rfl rfl rfl ⟨Jh9, ⟨_, rfl, by omega⟩, by omega⟩
    · refine hq_p rfl rfl (ty_ge (n := -1) nk_im1 (fun z10 ez10 => ?_))
      exact hq_W.ret rfl rfl rfl ⟨Jh2, ⟨_, rfl, by omega⟩, by omega⟩
theorem ct_94t {X : pm_X} {d : Nat} {h : pm_H}  (hd : 1 ≤ d)  : ty_M X ty_W0 d 94 [.ref 0] h (fun _ v => ∃ z : Int32, v = some (.int z) ∧ (z.toInt = (hs_fI h 0 15).toInt)) := by
  intro J H hJ
  obtain ⟨d, rfl⟩ : ∃ e, d = e + 1 := ⟨d - 1, by omega⟩
  have I := H.1 h hJ
  obtain ⟨q15, eq15⟩ : ∃ q : Int32, q.toInt = (hs_fI h 0 15).toInt := ⟨_, rfl⟩
  have gq150 : -2147483648 ≤ (hs_fI h 0 15).toInt := (I.2.1 0 15 (by decide)).1
  have gq151 : (hs_fI h 0 15).toInt ≤ 2147483647 := (I.2.1 0 15 (by decide)).2
  refine hq_M.enter (q := (⟨"TrainBearers", "puddles", "()I"⟩, _, 1, some .int, 10, 1, pm_c94)) rfl rfl ?_
  show hq_W X d 10 false (some .int) pm_c94 (0, [some (.ref 0)], [], h) (fun h' v => J h' ∧ (fun _ v => ∃ z : Int32, v = some (.int z) ∧ (z.toInt = (hs_fI h 0 15).toInt)) h' v)
  refine hq_p rfl rfl ?_
  refine ty_gI I rfl rfl (by decide) (by decide) rfl rfl (fun z1 ez1 az1 bz1 => ?_)
  exact hq_W.ret rfl rfl rfl ⟨hJ, _, rfl, by omega⟩
theorem ct_165t {X : pm_X} {d : Nat} {h : pm_H}  (hd : 1 ≤ d)  : ty_M X ty_Wt d 165 [.ref 97] h (fun _ v => ∃ z : Int32, v = some (.int z) ∧ (z.toInt = (hs_fI h 97 11).toInt)) := by
  intro J H hJ
  obtain ⟨d, rfl⟩ : ∃ e, d = e + 1 := ⟨d - 1, by omega⟩
  have I := H.1 h hJ
  obtain ⟨q11, eq11⟩ : ∃ q : Int32, q.toInt = (hs_fI h 97 11).toInt := ⟨_, rfl⟩
  have gq110 : -2147483648 ≤ (hs_fI h 97 11).toInt := (I.2.1 97 11 (by decide)).1
  have gq111 : (hs_fI h 97 11).toInt ≤ 2147483647 := (I.2.1 97 11 (by decide)).2
  refine hq_M.enter (q := (⟨"TrainBearersModel", "puddles", "()I"⟩, _, 1, some .int, 11, 1, pm_c165)) rfl rfl ?_
  show hq_W X d 11 false (some .int) pm_c165 (0, [some (.ref 97)], [], h) (fun h' v => J h' ∧ (fun _ v => ∃ z : Int32, v = some (.int z) ∧ (z.toInt = (hs_fI h 97 11).toInt)) h' v)
  refine hq_p rfl rfl ?_
  refine hq_p rfl rfl (ty_ge (n := 0) nk_i0 (fun z1 ez1 => ?_))
  refine ty_pI (W := ty_Wt) H hJ rfl rfl (by decide) rfl rfl (by unfold ty_Wt; omega) rfl (by omega) (by omega) (fun h2 eh2 Jh2 => ?_)
  have wh2 : (hs_fI h2 97 0).toInt = z1.toInt := by rw [eh2]; exact congrArg Int32.toInt (ty_fI_eq I.1 rfl (by decide) rfl)
  have Ih2 := H.1 h2 Jh2
  refine hq_p rfl rfl ?_
  have r4 : (hs_fI h2 97 11).toInt = (hs_fI h 97 11).toInt := by rw [eh2]; exact congrArg Int32.toInt (ty_fI_sF (by decide))
  refine ty_gI Ih2 rfl rfl (by decide) (by decide) rfl rfl (fun z3 ez3 az3 bz3 => ?_)
  exact hq_W.ret rfl rfl rfl ⟨Jh2, _, rfl, by omega⟩
end CT42
