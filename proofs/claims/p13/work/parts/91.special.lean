/-! THE TOP, where sizes, references, images or laws change -/
section SPE
def ty_W6 (a k : Nat) : Prop := a = 200 ∨ a = 202 ∨ (a < 129 ∧ (a = 97 → k ≠ 20 ∧ k ≠ 13) ∧ (a = 99 → k < 98) ∧ a ≠ 100)
def ty_W7 (a k : Nat) : Prop := a = 200 ∨ a = 202 ∨ (a < 129 ∧ (a = 97 → k ≠ 20) ∧ (a = 99 → k < 98) ∧ a ≠ 100 ∧ ¬ (a = 62 ∧ k = 1))
def tp_U (n : Nat) (T : Int) (h : pm_H) : Prop := tp_J n h ∧ (hs_fI h 97 13).toInt = T
def tp_V (n : Nat) (S : Int) (h : pm_H) : Prop := tp_J n h ∧ (hs_fI h 62 1).toInt = S
theorem tp_CU (n : Nat) (T : Int) : ty_C ty_W6 (tp_U n T) :=
  ((tp_C n).mono (W' := ty_W6) (fun a k w => by unfold ty_W6 at w; unfold ty_W4; omega) (by unfold ty_W6 ty_W4; omega)).fld 97 13 (by decide) (by unfold ty_W6; omega) (by decide) T
theorem tp_CV (n : Nat) (S : Int) : ty_C ty_W7 (tp_V n S) :=
  ((tp_C n).mono (W' := ty_W7) (fun a k w => by unfold ty_W7 at w; unfold ty_W4; omega) (by unfold ty_W7 ty_W4; omega)).siz (by unfold ty_W7; omega) S
/-- references of the class -/
theorem tp_r1 {n : Nat} {h : pm_H} {b t f : Nat} (j : tp_J n h) (e : (hs_sh 0).2.2[b]? = some (f, 0)) (q : (f = 4 ∧ (t = 1 ∨ t = 12)) ∨ (f = 5 ∧ (t = 58 ∨ t = 60))) : tp_J n (hs_sF h 0 10 b (.ref t)) := by
  obtain ⟨I, o, r, s1, s2⟩ := j
  refine ⟨tb_fld I (by decide) (fs := (hs_sh 0).2.2) rfl e ?_ (fun u hu => ?_) (fun u hu => ?_), ?_, ?_, s1, s2⟩
  · rcases q with ⟨rfl, q⟩ | ⟨rfl, q⟩
    · show Value.ref t = .ref 1 ∨ Value.ref t = .ref 12
      rcases q with rfl | rfl
      · exact Or.inl rfl
      · exact Or.inr rfl
    · show Value.ref t = .ref 58 ∨ Value.ref t = .ref 60
      rcases q with rfl | rfl
      · exact Or.inl rfl
      · exact Or.inr rfl
  · rw [← hu]
    show (-2147483648 : Int) ≤ (0 : Int32).toInt ∧ (0 : Int32).toInt ≤ 2147483647
    decide
  · rw [← hu]
    exact tb_l0 0 b
  · have q : hs_fI (hs_sF h 0 10 b (.ref t)) 97 20 = hs_fI h 97 20 := hs_fI_ne (by decide)
    rw [q]
    exact o
  · have q : hs_aI (hs_sF h 0 10 b (.ref t)) 99 = hs_aI h 99 := hs_aI_ne (by decide)
    rw [q]
    exact r
/-- the heap no smaller, no larger -/
def tp_z (a b : Nat) (h : pm_H) : Prop := h.1 = a ∧ h.2.1 = b
theorem ty_C.zz {W : Nat → Nat → Prop} {J : pm_H → Prop} (H : ty_C W J) (a b : Nat) : ty_C W (fun h => J h ∧ tp_z a b h) := H.and (fun h c e p _ => p)
theorem tp_Tr (n : Nat) (T : Int) (a b : Nat) : ty_T (fun h => tp_U n T h ∧ tp_z a b h) := fun h c t f j e q => ⟨⟨tp_r1 j.1.1 e q, (congrArg Int32.toInt (hs_fI_ne (by decide))).trans j.1.2⟩, j.2⟩
/-- a new text -/
theorem tp_al {n : Nat} {T : Int} {h h1 : pm_H} (j : tp_U n T h) (I : ty_I h1) (e1 : h1.1 = h.1 + 8) (e3 : h1.2.1 ≤ h.2.1 + 870) (e : ∀ b, b < h.1 → h1.2.2 b = h.2.2 b) : tp_U (n + 1) T h1 := by
  obtain ⟨⟨I0, o, r, s1, s2⟩, t⟩ := j
  have l := I0.1.1
  have b1 : h1.1 ≤ 129 + 8 * (n + 1) := by clear I I0; omega
  have b2 : h1.2.1 ≤ 40000 + 870 * (n + 1) := by
    clear I I0 e
    have q : 870 * (n + 1) = 870 * n + 870 := Nat.mul_succ 870 n
    rw [q]
    exact Nat.le_trans e3 (by rw [← Nat.add_assoc]; exact Nat.add_le_add_right s2 870)
  have f : ∀ k, hs_fI h1 97 k = hs_fI h 97 k := fun k => by unfold hs_fI hs_fV hs_vs; rw [e 97 (by omega)]
  have g : hs_aI h1 99 = hs_aI h 99 := by unfold hs_aI; rw [e 99 (by omega)]
  exact ⟨⟨I, by rw [f]; exact o, by rw [g]; exact r, b1, b2⟩, by rw [f]; exact t⟩
/-- images -/
theorem tp_im {n : Nat} {T : Int} {h : pm_H} {k : Nat} (j : tp_T n T h) (hk : k < 2) : tp_T n T (im_h h k) := by
  obtain ⟨⟨⟨I, o, r, s1, s2⟩, t⟩, s⟩ := j
  have f : ∀ a b, a ≠ 100 → hs_fI (im_h h k) a b = hs_fI h a b := fun a b q => hs_fI_ne q
  have g : hs_aI (im_h h k) 99 = hs_aI h 99 := cp_o (by decide)
  exact ⟨⟨⟨im_I I r hk, by rw [f _ _ (by decide)]; exact o, by rw [g]; exact r, s1, s2⟩, by rw [f _ _ (by decide)]; exact t⟩, by rw [f _ _ (by decide)]; exact s⟩
theorem tp_bk {n : Nat} {T : Int} {h : pm_H} {k : Nat} (j : tp_T n T h) (hk : k < 2) : tp_T n T (bk_h h k) := by
  obtain ⟨⟨⟨I, o, r, s1, s2⟩, t⟩, s⟩ := j
  have f : ∀ a b, a ≠ 99 → hs_fI (bk_h h k) a b = hs_fI h a b := fun a b q => hs_fI_ne q
  exact ⟨⟨⟨bk_I I hk, by rw [f _ _ (by decide)]; exact o, bk_5 I hk, s1, s2⟩, by rw [f _ _ (by decide)]; exact t⟩, by rw [f _ _ (by decide)]; exact s⟩
/-- while a text is read, it may be one of orders -/
def ty_W8 (a k : Nat) : Prop := a = 202 ∨ (a < 129 ∧ (a = 99 → k < 98) ∧ a ≠ 100)
def tp_N (n : Nat) (h : pm_H) : Prop := ty_I h ∧ (hs_aI h 99 5).toInt ≤ 999 ∧ h.1 ≤ 129 + 8 * n ∧ h.2.1 ≤ 40000 + 870 * n
theorem tp_CN (n : Nat) : ty_C ty_W8 (tp_N n) := by
  refine ⟨fun h j => j.1, fun h a ci k u fs t j w a1 a2 a3 a4 a5 a6 => ?_, fun h a ci k u fs j w a1 a2 a3 a4 a5 => ?_, fun h a m i t x j w a1 a2 a3 a4 a5 a6 a7 => ?_, fun h a m i x j w a1 a2 a3 => ?_, fun _ h j => j.2.1, fun w => absurd w (by unfold ty_W8; omega), fun w => absurd w (by unfold ty_W8; omega), fun h t j q p w a1 a2 a3 => ?_⟩
  · obtain ⟨I, r, s1, s2⟩ := j
    have n34 : a ≠ 34 := fun e => by subst e; have e : (4 : Nat) = 10 + ci := congrArg (fun q => q.1) a2; omega
    have n99 : a ≠ 99 := fun e => by subst e; have e : (0 : Nat) = 10 + ci := congrArg (fun q => q.1) a2; omega
    have w1 : ty_W1 a k := ⟨a1, fun e => absurd e n99, by unfold ty_W8 at w; omega, n34⟩
    refine ⟨ty_IC.2.1 h a ci k u fs t I w1 a1 a2 a3 a4 a5 a6, ?_, s1, s2⟩
    have q : hs_aI (hs_sF h a ci k (.int u)) 99 = hs_aI h 99 := hs_aI_ne (Ne.symm n99)
    rw [q]
    exact r
  · obtain ⟨I, r, s1, s2⟩ := j
    have n34 : a ≠ 34 := fun e => by subst e; have e : (4 : Nat) = 10 + ci := congrArg (fun q => q.1) a2; omega
    have n99 : a ≠ 99 := fun e => by subst e; have e : (0 : Nat) = 10 + ci := congrArg (fun q => q.1) a2; omega
    have w1 : ty_W1 a k := ⟨a1, fun e => absurd e n99, by unfold ty_W8 at w; omega, n34⟩
    refine ⟨ty_IC.2.2.1 h a ci k u fs I w1 a1 a2 a3 a4 a5, ?_, s1, s2⟩
    have q : hs_aI (hs_sF h a ci k (.long u)) 99 = hs_aI h 99 := hs_aI_ne (Ne.symm n99)
    rw [q]
    exact r
  · obtain ⟨I, r, s1, s2⟩ := j
    have n34 : a ≠ 34 := fun e => by subst e; have e : (4 : Nat) = t := congrArg (fun q => q.1) a2; omega
    have w1 : ty_W1 a i := ⟨a1, by unfold ty_W8 at w; omega, by unfold ty_W8 at w; omega, n34⟩
    refine ⟨ty_IC.2.2.2.1 h a m i t x I w1 a1 a2 a3 a4 a5 a6 (fun _ _ w2 => absurd w2.1 (by decide)), ?_, s1, s2⟩
    by_cases e : a = 99
    · subst e
      by_cases e2 : i = 5
      · subst e2
        rw [ty_aI_eq rfl]
        exact a7 rfl rfl (by unfold ty_W8; omega)
      · rw [ty_aI_sA (Ne.symm e2)]
        exact r
    · have q : hs_aI (hs_sA h a t m i x) 99 = hs_aI h 99 := hs_aI_ne (Ne.symm e)
      rw [q]
      exact r
  · obtain ⟨I, r, s1, s2⟩ := j
    have n34 : a ≠ 34 := fun e => by subst e; have e : (4 : Nat) = 1 := congrArg (fun q => q.1) a2; omega
    have n99 : a ≠ 99 := fun e => by subst e; have e : (0 : Nat) = 1 := congrArg (fun q => q.1) a2; omega
    have w1 : ty_W1 a i := ⟨a1, fun e => absurd e n99, by unfold ty_W8 at w; omega, n34⟩
    refine ⟨ty_IC.2.2.2.2.1 h a m i x I w1 a1 a2 a3, ?_, s1, s2⟩
    have q : hs_aI (hs_sL h a m i x) 99 = hs_aI h 99 := hs_aI_ne (Ne.symm n99)
    rw [q]
    exact r
  · obtain ⟨I, r, s1, s2⟩ := p
    have tl := ty_trl a1
    refine ⟨tb_ref I a1 a3, ?_, s1, s2⟩
    have e : hs_aI (hs_sR h (t + 10) j q) 99 = hs_aI h 99 := hs_aI_ne (by omega)
    rw [e]
    exact r
def ty_W9 (a k : Nat) : Prop := a = 202 ∨ (a < 129 ∧ (a = 99 → k < 98) ∧ a ≠ 100 ∧ ¬ (a = 62 ∧ k = 1))
def tp_M (n : Nat) (S : Int) (h : pm_H) : Prop := tp_N n h ∧ (hs_fI h 62 1).toInt = S
theorem tp_CM (n : Nat) (S : Int) : ty_C ty_W9 (tp_M n S) :=
  ((tp_CN n).mono (W' := ty_W9) (fun a k w => by unfold ty_W9 at w; unfold ty_W8; omega) (by unfold ty_W9 ty_W8; omega)).siz (by unfold ty_W9; omega) S
theorem tp_la {n : Nat} {S : Int} {h h1 : pm_H} (j : tp_M n S h) (I : ty_I h1) (e1 : h1.1 = h.1) (e2 : h1.2.1 = h.2.1) (e : ∀ b, b ≠ 99 → h1.2.2 b = h.2.2 b) (e5 : (hs_aI h1 99 5).toInt = (hs_aI h 99 5).toInt) : tp_M n S h1 := by
  obtain ⟨⟨I0, r, s1, s2⟩, s⟩ := j
  have f : ∀ a k, a ≠ 99 → hs_fI h1 a k = hs_fI h a k := fun a k q => by unfold hs_fI hs_fV hs_vs; rw [e a q]
  exact ⟨⟨I, by rw [e5]; exact r, by omega, by omega⟩, by rw [f _ _ (by decide)]; exact s⟩
end SPE
