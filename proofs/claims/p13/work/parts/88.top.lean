/-! THE TOP: what holds between two calls of the law -/
section TOP
def ty_W4 (a k : Nat) : Prop := a = 200 ∨ a = 202 ∨ (a < 129 ∧ (a = 97 → k ≠ 20) ∧ (a = 99 → k < 98) ∧ a ≠ 100)
def tp_J (n : Nat) (h : pm_H) : Prop := ty_I h ∧ (hs_fI h 97 20).toInt = 0 ∧ (hs_aI h 99 5).toInt ≤ 999 ∧ h.1 ≤ 129 + 8 * n ∧ h.2.1 ≤ 40000 + 870 * n
theorem tp_C (n : Nat) : ty_C ty_W4 (tp_J n) := by
  refine ⟨fun h j => j.1, fun h a ci k u fs t j w a1 a2 a3 a4 a5 a6 => ?_, fun h a ci k u fs j w a1 a2 a3 a4 a5 => ?_, fun h a m i t x j w a1 a2 a3 a4 a5 a6 a7 => ?_, fun h a m i x j w a1 a2 a3 => ?_, fun _ h j => j.2.2.1, fun _ h j => j.2.1, fun w => absurd w (by unfold ty_W4; omega), fun h t j q p w a1 a2 a3 => ?_⟩
  · obtain ⟨I, o, r, s1, s2⟩ := j
    have n34 : a ≠ 34 := fun e => by subst e; have e : (4 : Nat) = 10 + ci := congrArg (fun q => q.1) a2; omega
    have n99 : a ≠ 99 := fun e => by subst e; have e : (0 : Nat) = 10 + ci := congrArg (fun q => q.1) a2; omega
    have w1 : ty_W1 a k := ⟨a1, fun e => absurd e n99, by unfold ty_W4 at w; omega, n34⟩
    refine ⟨ty_IC.2.1 h a ci k u fs t I w1 a1 a2 a3 a4 a5 a6, ?_, ?_, s1, s2⟩
    · by_cases e : a = 97
      · subst e
        have k20 : k ≠ 20 := by unfold ty_W4 at w; omega
        rw [ty_fI_sF k20]
        exact o
      · have q : hs_fI (hs_sF h a ci k (.int u)) 97 20 = hs_fI h 97 20 := hs_fI_ne (Ne.symm e)
        rw [q]
        exact o
    · have q : hs_aI (hs_sF h a ci k (.int u)) 99 = hs_aI h 99 := hs_aI_ne (Ne.symm n99)
      rw [q]
      exact r
  · obtain ⟨I, o, r, s1, s2⟩ := j
    have n34 : a ≠ 34 := fun e => by subst e; have e : (4 : Nat) = 10 + ci := congrArg (fun q => q.1) a2; omega
    have n99 : a ≠ 99 := fun e => by subst e; have e : (0 : Nat) = 10 + ci := congrArg (fun q => q.1) a2; omega
    have w1 : ty_W1 a k := ⟨a1, fun e => absurd e n99, by unfold ty_W4 at w; omega, n34⟩
    refine ⟨ty_IC.2.2.1 h a ci k u fs I w1 a1 a2 a3 a4 a5, ?_, ?_, s1, s2⟩
    · by_cases e : a = 97
      · subst e
        have k20 : k ≠ 20 := by unfold ty_W4 at w; omega
        rw [ty_fI_sF k20]
        exact o
      · have q : hs_fI (hs_sF h a ci k (.long u)) 97 20 = hs_fI h 97 20 := hs_fI_ne (Ne.symm e)
        rw [q]
        exact o
    · have q : hs_aI (hs_sF h a ci k (.long u)) 99 = hs_aI h 99 := hs_aI_ne (Ne.symm n99)
      rw [q]
      exact r
  · obtain ⟨I, o, r, s1, s2⟩ := j
    have n34 : a ≠ 34 := fun e => by subst e; have e : (4 : Nat) = t := congrArg (fun q => q.1) a2; omega
    have n97 : a ≠ 97 := fun e => by subst e; have e : (21 : Nat) = t := congrArg (fun q => q.1) a2; omega
    have w1 : ty_W1 a i := ⟨a1, by unfold ty_W4 at w; omega, by unfold ty_W4 at w; omega, n34⟩
    refine ⟨ty_IC.2.2.2.1 h a m i t x I w1 a1 a2 a3 a4 a5 a6 (fun _ _ w2 => absurd w2.1 (by decide)), ?_, ?_, s1, s2⟩
    · have q : hs_fI (hs_sA h a t m i x) 97 20 = hs_fI h 97 20 := hs_fI_ne (Ne.symm n97)
      rw [q]
      exact o
    · by_cases e : a = 99
      · subst e
        by_cases e2 : i = 5
        · subst e2
          rw [ty_aI_eq rfl]
          exact a7 rfl rfl (by unfold ty_W4; omega)
        · rw [ty_aI_sA (Ne.symm e2)]
          exact r
      · have q : hs_aI (hs_sA h a t m i x) 99 = hs_aI h 99 := hs_aI_ne (Ne.symm e)
        rw [q]
        exact r
  · obtain ⟨I, o, r, s1, s2⟩ := j
    have n34 : a ≠ 34 := fun e => by subst e; have e : (4 : Nat) = 1 := congrArg (fun q => q.1) a2; omega
    have n97 : a ≠ 97 := fun e => by subst e; have e : (21 : Nat) = 1 := congrArg (fun q => q.1) a2; omega
    have n99 : a ≠ 99 := fun e => by subst e; have e : (0 : Nat) = 1 := congrArg (fun q => q.1) a2; omega
    have w1 : ty_W1 a i := ⟨a1, fun e => absurd e n99, by unfold ty_W4 at w; omega, n34⟩
    refine ⟨ty_IC.2.2.2.2.1 h a m i x I w1 a1 a2 a3, ?_, ?_, s1, s2⟩
    · have q : hs_fI (hs_sL h a m i x) 97 20 = hs_fI h 97 20 := hs_fI_ne (Ne.symm n97)
      rw [q]
      exact o
    · have q : hs_aI (hs_sL h a m i x) 99 = hs_aI h 99 := hs_aI_ne (Ne.symm n99)
      rw [q]
      exact r
  · obtain ⟨I, o, r, s1, s2⟩ := p
    have tl := ty_trl a1
    refine ⟨tb_ref I a1 a3, ?_, ?_, s1, s2⟩
    · have e : hs_fI (hs_sR h (t + 10) j q) 97 20 = hs_fI h 97 20 := hs_fI_ne (by omega)
      rw [e]
      exact o
    · have e : hs_aI (hs_sR h (t + 10) j q) 99 = hs_aI h 99 := hs_aI_ne (by omega)
      rw [e]
      exact r
theorem tp_S {n : Nat} {h : pm_H} (j : tp_J n h) : tp_J (n + 1) h := ⟨j.1, j.2.1, j.2.2.1, by have := j.2.2.2.1; omega, by have := j.2.2.2.2; omega⟩
/-- both sizes are T -/
def ty_W2 (a k : Nat) : Prop := a = 200 ∨ a = 202 ∨ (a < 129 ∧ (a = 97 → k ≠ 20 ∧ k ≠ 13) ∧ (a = 99 → k < 98) ∧ a ≠ 100 ∧ ¬ (a = 62 ∧ k = 1))
def tp_T (n : Nat) (T : Int) (h : pm_H) : Prop := (tp_J n h ∧ (hs_fI h 97 13).toInt = T) ∧ (hs_fI h 62 1).toInt = T
theorem tp_CT (n : Nat) (T : Int) : ty_C ty_W2 (tp_T n T) :=
  (((tp_C n).mono (W' := ty_W2) (fun a k w => by unfold ty_W2 at w; unfold ty_W4; omega) (by unfold ty_W2 ty_W4; omega)).fld 97 13 (by decide) (by unfold ty_W2; omega) (by decide) T).siz (by unfold ty_W2; omega) T
/-- between two calls -/
def tp_K (n : Nat) (h : pm_H) : Prop := ∃ T, tp_T n T h
theorem tp_K1 {n : Nat} {T : Int} {h : pm_H} (j : tp_T n T h) : tp_K (n + 1) h := ⟨T, ⟨tp_S j.1.1, j.1.2⟩, j.2⟩
end TOP
