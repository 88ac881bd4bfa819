/-! the tapes, and the puddles: class and model say the same -/
section RET
def tz_R (T : Int) (h : pm_H) : Prop := (∀ j : Nat, (j : Int) < T → hs_aI h 63 j = hs_aI h 106 j) ∧ (hs_fI h 0 15).toInt = (hs_fI h 97 11).toInt
/-- between two calls -/
def tq_K (n : Nat) (h : pm_H) : Prop := ∃ T, tp_T n T h ∧ tz_R T h
theorem tq_1 {n : Nat} {T : Int} {h : pm_H} (j : tp_T n T h) (r : tz_R T h) : tq_K (n + 1) h := ⟨T, ⟨⟨tp_S j.1.1, j.1.2⟩, j.2⟩, r⟩
def ty_W2t (a k : Nat) : Prop := a = 200 ∨ a = 202 ∨ (a < 129 ∧ (a = 97 → k ≠ 20 ∧ k ≠ 13 ∧ k ≠ 11) ∧ (a = 99 → k < 98) ∧ a ≠ 100 ∧ ¬ (a = 62 ∧ k = 1) ∧ a ≠ 63 ∧ a ≠ 106 ∧ ¬ (a = 0 ∧ k = 15))
def tp_G (n : Nat) (T : Int) (h0 h : pm_H) : Prop := tp_T n T h ∧ fr_eq h h0 [(3, 63, 0), (3, 106, 0), (0, 0, 15), (0, 97, 11)]
theorem tp_CG (n : Nat) (T : Int) (h0 : pm_H) : ty_C ty_W2t (tp_G n T h0) := ty_C.frs h0 _ ((tp_CT n T).mono (W' := ty_W2t) (fun a k w => by unfold ty_W2t at w; unfold ty_W2; omega) (by unfold ty_W2t ty_W2; omega)) ⟨⟨rfl, fun k => show ¬ ty_W2t 63 k by unfold ty_W2t; omega⟩, ⟨rfl, fun k => show ¬ ty_W2t 106 k by unfold ty_W2t; omega⟩, ⟨rfl, show ¬ ty_W2t 0 15 by unfold ty_W2t; omega⟩, ⟨rfl, show ¬ ty_W2t 97 11 by unfold ty_W2t; omega⟩, trivial⟩
theorem fr_set {h h0 : pm_H} {c : Nat} {x : pm_C} : ∀ ks : List (Nat × Nat × Nat), (ks.all (fun q => q.2.1 != c)) = true → fr_eq h h0 ks → fr_eq (pm_hset h c x) h0 ks
  | [], _, _ => trivial
  | (t, a, k) :: r, hk, e => by
    rw [List.all_cons, Bool.and_eq_true] at hk
    obtain ⟨e1, e2⟩ := e
    have na : a ≠ c := fun q => by
      have w := hk.1
      dsimp only at w
      rw [q, bne_self_eq_false] at w
      cases w
    refine ⟨?_, fr_set r hk.2 e2⟩
    have e1 : fr_p h h0 t a k := e1
    show fr_p (pm_hset h c x) h0 t a k
    match t, e1 with
    | 0, e1 => exact (congrArg Int32.toInt (hs_fI_ne na)).trans e1
    | 1, e1 => exact (congrArg Int32.toInt (congrFun (hs_aI_ne na) k)).trans e1
    | 2, e1 => exact (congrArg Int64.toInt (hs_fL_ne na)).trans e1
    | t + 3, e1 => exact (hs_aI_ne na).trans e1
theorem tz_fr {T : Int} {h h0 : pm_H} (r : tz_R T h0) (f : fr_eq h h0 [(3, 63, 0), (3, 106, 0), (0, 0, 15), (0, 97, 11)]) : tz_R T h := by
  obtain ⟨a, b, c, d, _⟩ := f
  have a : hs_aI h 63 = hs_aI h0 63 := a
  have b : hs_aI h 106 = hs_aI h0 106 := b
  have c : (hs_fI h 0 15).toInt = (hs_fI h0 0 15).toInt := c
  have d : (hs_fI h 97 11).toInt = (hs_fI h0 97 11).toInt := d
  have e := r.2
  exact ⟨fun j hj => by rw [a, b]; exact r.1 j hj, by omega⟩
theorem tq_g {n : Nat} {T : Int} {h0 h : pm_H} (r : tz_R T h0) (j : tp_G n T h0 h) : tq_K (n + 1) h := tq_1 j.1 (tz_fr r j.2)
theorem tp_imG {n : Nat} {T : Int} {h0 h : pm_H} {k : Nat} (j : tp_G n T h0 h) (im : tp_T n T (im_h h k)) : tp_G n T h0 (im_h h k) := ⟨im, fr_set _ (by decide) j.2⟩
theorem tp_bkG {n : Nat} {T : Int} {h0 h : pm_H} {k : Nat} (j : tp_G n T h0 h) (im : tp_T n T (bk_h h k)) : tp_G n T h0 (bk_h h k) := ⟨im, fr_set _ (by decide) j.2⟩
end RET
