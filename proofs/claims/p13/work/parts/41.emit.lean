/-! CONTRACTS (printed by wip/pm/cts.py) -/
section CT24
/-- what is emitted, what is piled -/
def ty_We (a k : Nat) : Prop := (a = 97 ∧ k = 23) ∨ a = 108 ∨ a = 109
def ty_Wi (a k : Nat) : Prop := (a = 97 ∧ k = 29) ∨ a = 110 ∨ a = 111
theorem ct_178 {X : pm_X} {d : Nat} {h : pm_H} {x1 : Int32} {x2 : Int32} (hd : 1 ≤ d) (gq230 : 0 ≤ (hs_fI h 97 23).toInt) (gq231 : (hs_fI h 97 23).toInt ≤ 399) : ty_M X ty_We d 178 [.ref 97, .int x1, .int x2] h (fun h1 v => v = none ∧ (hs_fI h1 97 23).toInt = (hs_fI h 97 23).toInt + 1 ∧ hs_aI h1 108 = upd (hs_aI h 108) (hs_fI h 97 23).toInt.toNat x1 ∧ hs_aI h1 109 = upd (hs_aI h 109) (hs_fI h 97 23).toInt.toNat x2) := by
  intro J H hJ
  obtain ⟨d, rfl⟩ : ∃ e, d = e + 1 := ⟨d - 1, by omega⟩
  have I := H.1 h hJ
  have ax1 := nm_lo x1
  have bx1 := nm_hi x1
  have ax2 := nm_lo x2
  have bx2 := nm_hi x2
  obtain ⟨q23, eq23⟩ : ∃ q : Int32, q.toInt = (hs_fI h 97 23).toInt := ⟨_, rfl⟩
  refine hq_M.enter (q := (⟨"TrainBearersModel", "emit", "(II)V"⟩, _, 3, none, 11, 3, pm_c178)) rfl rfl ?_
  show hq_W X d 11 false (none) pm_c178 (0, [some (.ref 97), some (.int x1), some (.int x2)], [], h) (fun h' v => J h' ∧ (fun h1 v => v = none ∧ (hs_fI h1 97 23).toInt = (hs_fI h 97 23).toInt + 1 ∧ hs_aI h1 108 = upd (hs_aI h 108) (hs_fI h 97 23).toInt.toNat x1 ∧ hs_aI h1 109 = upd (hs_aI h 109) (hs_fI h 97 23).toInt.toNat x2) h' v)
  refine hq_p rfl rfl ?_
  refine hq_gR I.1 rfl rfl (by decide) (by decide) rfl ?_
  refine hq_p rfl rfl ?_
  refine ty_gI I rfl rfl (by decide) (by decide) rfl rfl (fun z1 ez1 az1 bz1 => ?_)
  refine hq_p rfl rfl ?_
  refine ty_aS (W := ty_We) H hJ rfl rfl (by decide) (by omega) (by omega) (fun i e => by unfold ty_We; omega) (fun _ _ => ty_eg rfl) (by omega) (by omega) (fun e1 e2 w => by omega) (fun h2 eh2 Jh2 => ?_)
  have Ih2 := H.1 h2 Jh2
  refine hq_p rfl rfl ?_
  refine hq_gR Ih2.1 rfl rfl (by decide) (by decide) rfl ?_
  refine hq_p rfl rfl ?_
  have r4 : (hs_fI h2 97 23).toInt = (hs_fI h 97 23).toInt := by rw [eh2]; exact congrArg Int32.toInt (ty_fI_ne (by omega))
  refine ty_gI Ih2 rfl rfl (by decide) (by decide) rfl rfl (fun z3 ez3 az3 bz3 => ?_)
  refine hq_p rfl rfl ?_
  refine ty_aS (W := ty_We) H Jh2 rfl rfl (by decide) (by omega) (by omega) (fun i e => by unfold ty_We; omega) (fun _ _ => ty_eg rfl) (by omega) (by omega) (fun e1 e2 w => by omega) (fun h5 eh5 Jh5 => ?_)
  have Ih5 := H.1 h5 Jh5
  refine hq_p rfl rfl ?_
  refine hq_p rfl rfl ?_
  have r7 : (hs_fI h5 97 23).toInt = (hs_fI h2 97 23).toInt := by rw [eh5]; exact congrArg Int32.toInt (ty_fI_ne (by omega))
  refine ty_gI Ih5 rfl rfl (by decide) (by decide) rfl rfl (fun z6 ez6 az6 bz6 => ?_)
  refine hq_p rfl rfl (ty_ge (n := 1) nk_i1 (fun z8 ez8 => ?_))
  refine hq_p rfl rfl (ty_ge (n := z6.toInt + z8.toInt) (nm_add (by omega) (by omega)) (fun z9 ez9 => ?_))
  refine ty_pI (W := ty_We) H Jh5 rfl rfl (by decide) rfl rfl (by unfold ty_We; omega) rfl (by omega) (by omega) (fun h10 eh10 Jh10 => ?_)
  have wh10 : (hs_fI h10 97 23).toInt = z9.toInt := by rw [eh10]; exact congrArg Int32.toInt (ty_fI_eq Ih5.1 rfl (by decide) rfl)
  have Ih10 := H.1 h10 Jh10
  exact hq_W.ret rfl rfl rfl ⟨Jh10, rfl, by omega, (by rw [eh10, eh5, eh2]; exact (hs_aI_ne (by decide)).trans ((hs_aI_ne (by decide)).trans (hs_aI_sA.trans (by rw [show z1.toInt.toNat = (hs_fI h 97 23).toInt.toNat by omega])))), (by rw [eh10, eh5]; exact (hs_aI_ne (by decide)).trans (hs_aI_sA.trans (by rw [show z3.toInt.toNat = (hs_fI h 97 23).toInt.toNat by omega, eh2]; exact congrArg (fun f => upd f _ _) (hs_aI_ne (by decide)))))⟩
theorem ct_179 {X : pm_X} {d : Nat} {h : pm_H} {x1 : Int32} {x2 : Int32} (hd : 1 ≤ d) (gq290 : 0 ≤ (hs_fI h 97 29).toInt) (gq291 : (hs_fI h 97 29).toInt ≤ 399) : ty_M X ty_Wi d 179 [.ref 97, .int x1, .int x2] h (fun h1 v => v = none ∧ (hs_fI h1 97 29).toInt = (hs_fI h 97 29).toInt + 1 ∧ hs_aI h1 110 = upd (hs_aI h 110) (hs_fI h 97 29).toInt.toNat x1 ∧ hs_aI h1 111 = upd (hs_aI h 111) (hs_fI h 97 29).toInt.toNat x2) := by
  intro J H hJ
  obtain ⟨d, rfl⟩ : ∃ e, d = e + 1 := ⟨d - 1, by omega⟩
  have I := H.1 h hJ
  have ax1 := nm_lo x1
  have bx1 := nm_hi x1
  have ax2 := nm_lo x2
  have bx2 := nm_hi x2
  obtain ⟨q29, eq29⟩ : ∃ q : Int32, q.toInt = (hs_fI h 97 29).toInt := ⟨_, rfl⟩
  refine hq_M.enter (q := (⟨"TrainBearersModel", "push", "(II)V"⟩, _, 3, none, 11, 3, pm_c179)) rfl rfl ?_
  show hq_W X d 11 false (none) pm_c179 (0, [some (.ref 97), some (.int x1), some (.int x2)], [], h) (fun h' v => J h' ∧ (fun h1 v => v = none ∧ (hs_fI h1 97 29).toInt = (hs_fI h 97 29).toInt + 1 ∧ hs_aI h1 110 = upd (hs_aI h 110) (hs_fI h 97 29).toInt.toNat x1 ∧ hs_aI h1 111 = upd (hs_aI h 111) (hs_fI h 97 29).toInt.toNat x2) h' v)
  refine hq_p rfl rfl ?_
  refine hq_gR I.1 rfl rfl (by decide) (by decide) rfl ?_
  refine hq_p rfl rfl ?_
  refine ty_gI I rfl rfl (by decide) (by decide) rfl rfl (fun z1 ez1 az1 bz1 => ?_)
  refine hq_p rfl rfl ?_
  refine ty_aS (W := ty_Wi) H hJ rfl rfl (by decide) (by omega) (by omega) (fun i e => by unfold ty_Wi; omega) (fun _ _ => ty_eg rfl) (by omega) (by omega) (fun e1 e2 w => by omega) (fun h2 eh2 Jh2 => ?_)
  have Ih2 := H.1 h2 Jh2
  refine hq_p rfl rfl ?_
  refine hq_gR Ih2.1 rfl rfl (by decide) (by decide) rfl ?_
  refine hq_p rfl rfl ?_
  have r4 : (hs_fI h2 97 29).toInt = (hs_fI h 97 29).toInt := by rw [eh2]; exact congrArg Int32.toInt (ty_fI_ne (by omega))
  refine ty_gI Ih2 rfl rfl (by decide) (by decide) rfl rfl (fun z3 ez3 az3 bz3 => ?_)
  refine hq_p rfl rfl ?_
  refine ty_aS (W := ty_Wi) H Jh2 rfl rfl (by decide) (by omega) (by omega) (fun i e => by unfold ty_Wi; omega) (fun _ _ => ty_eg rfl) (by omega) (by omega) (fun e1 e2 w => by omega) (fun h5 eh5 Jh5 => ?_)
  have Ih5 := H.1 h5 Jh5
  refine hq_p rfl rfl ?_
  refine hq_p rfl rfl ?_
  have r7 : (hs_fI h5 97 29).toInt = (hs_fI h2 97 29).toInt := by rw [eh5]; exact congrArg Int32.toInt (ty_fI_ne (by omega))
  refine ty_gI Ih5 rfl rfl (by decide) (by decide) rfl rfl (fun z6 ez6 az6 bz6 => ?_)
  refine hq_p rfl rfl (ty_ge (n := 1) nk_i1 (fun z8 ez8 => ?_))
  refine hq_p rfl rfl (ty_ge (n := z6.toInt + z8.toInt) (nm_add (by omega) (by omega)) (fun z9 ez9 => ?_))
  refine ty_pI (W := ty_Wi) H Jh5 rfl rfl (by decide) rfl rfl (by unfold ty_Wi; omega) rfl (by omega) (by omega) (fun h10 eh10 Jh10 => ?_)
  have wh10 : (hs_fI h10 97 29).toInt = z9.toInt := by rw [eh10]; exact congrArg Int32.toInt (ty_fI_eq Ih5.1 rfl (by decide) rfl)
  have Ih10 := H.1 h10 Jh10
  exact hq_W.ret rfl rfl rfl ⟨Jh10, rfl, by omega, (by rw [eh10, eh5, eh2]; exact (hs_aI_ne (by decide)).trans ((hs_aI_ne (by decide)).trans (hs_aI_sA.trans (by rw [show z1.toInt.toNat = (hs_fI h 97 29).toInt.toNat by omega])))), (by rw [eh10, eh5]; exact (hs_aI_ne (by decide)).trans (hs_aI_sA.trans (by rw [show z3.toInt.toNat = (hs_fI h 97 29).toInt.toNat by omega, eh2]; exact congrArg (fun f => upd f _ _) (hs_aI_ne (by decide)))))⟩
end CT24
