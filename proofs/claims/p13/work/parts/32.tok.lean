/-! THE TOKEN of the class' reader -/
section TOK
def ty_Wa (a k : Nat) : Prop := a = 62 ∧ (k = 3 ∨ k = 4)
/-- tapes: of the class, of the model -/
def ty_Wf (a k : Nat) : Prop := (a = 62 ∧ k = 1) ∨ a = 63
def ty_Wg (a k : Nat) : Prop := (a = 97 ∧ (k = 13 ∨ k = 0)) ∨ a = 106
def ty_Wr0 (a k : Nat) : Prop := (a = 62 ∧ k ≠ 1) ∨ (64 ≤ a ∧ a ≤ 71)
theorem tk_s62 : hs_sh 62 = (10 + 3, 0, [(3, 63), (0, 0), (0, 0), (0, 0), (0, 0), (0, 0), (1, 0), (3, 64)]) := rfl
theorem tk_sF2 {h : pm_H} {a ci k : Nat} {v w : Value} : hs_sF (hs_sF h a ci k v) a ci k w = hs_sF h a ci k w := by
  show pm_hset (hs_sF h a ci k v) a (.inr (ci, (hs_vs (hs_sF h a ci k v) a).set k w)) = _
  rw [hs_vs_sF]
  unfold hs_sF
  rw [ty_set_set, List.set_set]
theorem tk_sFc {h : pm_H} {a ci k j : Nat} {v w : Value} (e : k ≠ j) : hs_sF (hs_sF h a ci k v) a ci j w = hs_sF (hs_sF h a ci j w) a ci k v := by
  show pm_hset (hs_sF h a ci k v) a (.inr (ci, (hs_vs (hs_sF h a ci k v) a).set j w)) = pm_hset (hs_sF h a ci j w) a (.inr (ci, (hs_vs (hs_sF h a ci j w) a).set k v))
  rw [hs_vs_sF, hs_vs_sF]
  unfold hs_sF
  rw [ty_set_set, ty_set_set, List.set_comm _ _ e]
theorem tk_ad3 {h : pm_H} {u v x : Int32} : hs_sF (ty_ad h u v) 62 3 3 (.int x) = ty_ad h x v := by
  unfold ty_ad
  rw [tk_sFc (by decide : (4 : Nat) ≠ 3), tk_sF2]
theorem tk_ad4 {h : pm_H} {u v x : Int32} : hs_sF (ty_ad h u v) 62 3 4 (.int x) = ty_ad h u x := by
  unfold ty_ad
  rw [tk_sF2]
theorem tk_fld {h : pm_H} (S : hs_Shape h) {k : Nat} (hk : [(3, 63), (0, 0), (0, 0), (0, 0), (0, 0), (0, 0), (1, 0), (3, 64)][k]? = some ((0, 0) : Nat × Nat)) : hs_sF h 62 3 k (.int (hs_fI h 62 k)) = h := by
  obtain ⟨o1, o2, o3⟩ := hs_obj S tk_s62 (by decide)
  obtain ⟨y, hy⟩ := o3 k _ hk
  have e : hs_fI h 62 k = y := by unfold hs_fI; rw [hy]
  have g := hs_get S tk_s62 (by decide) hk
  rw [hy] at g
  unfold hs_sF
  have l : (hs_vs h 62).set k (.int (hs_fI h 62 k)) = hs_vs h 62 := by
    rw [e]
    obtain ⟨hl, hg⟩ := List.getElem?_eq_some_iff.mp g
    rw [← hg]
    exact List.set_getElem_self hl
  rw [l]
  exact ty_set_id (hs_cell_o S tk_s62 (by decide))
theorem tk_id {h : pm_H} (S : hs_Shape h) : ty_ad h (hs_fI h 62 3) (hs_fI h 62 4) = h := by
  unfold ty_ad
  rw [tk_fld S rfl, tk_fld S rfl]
theorem tk_I {h : pm_H} (I : ty_I h) {u v : Int32} (b1 : 0 ≤ u.toInt) (b2 : u.toInt ≤ 400) (b3 : 0 ≤ v.toInt) (b4 : v.toInt ≤ 400) : ty_I (ty_ad h u v) := by
  have k1 : ty_I (hs_sF h 62 3 3 (.int u)) := ty_IC.2.1 h 62 3 3 u _ 0 I (by unfold ty_W1; omega) (by decide) tk_s62 rfl (Or.inl rfl) b1 b2
  exact ty_IC.2.1 _ 62 3 4 v _ 0 k1 (by unfold ty_W1; omega) (by decide) tk_s62 rfl (Or.inl rfl) b3 b4
theorem tk_f3 {h : pm_H} (S : hs_Shape h) {u v : Int32} : hs_fI (ty_ad h u v) 62 3 = u := by
  unfold ty_ad
  rw [ty_fI_sF (by decide), ty_fI_eq S tk_s62 (by decide) rfl]
theorem tk_f4 {h : pm_H} (I : ty_I h) {u v : Int32} (b1 : 0 ≤ u.toInt) (b2 : u.toInt ≤ 400) : hs_fI (ty_ad h u v) 62 4 = v := by
  have k1 : ty_I (hs_sF h 62 3 3 (.int u)) := ty_IC.2.1 h 62 3 3 u _ 0 I (by unfold ty_W1; omega) (by decide) tk_s62 rfl (Or.inl rfl) b1 b2
  unfold ty_ad
  rw [ty_fI_eq k1.1 tk_s62 (by decide) rfl]
theorem tk_t {h : pm_H} {u v : Int32} : hs_aI (ty_ad h u v) 63 = hs_aI h 63 := by
  unfold ty_ad
  exact (hs_aI_ne (by decide)).trans (hs_aI_ne (by decide))
theorem tk_adC {h : pm_H} (I : ty_I h) : ty_C ty_Wa (fun h' => ∃ u v : Int32, h' = ty_ad h u v ∧ 0 ≤ u.toInt ∧ u.toInt ≤ 400 ∧ 0 ≤ v.toInt ∧ v.toInt ≤ 400) := by
  refine ⟨fun h' q => ?_, fun h' a ci k x fs t q w ha hs hf ht b0 b1 => ?_, fun h' a ci k x fs q w ha hs hf b0 b1 => ?_, fun h' a n j t x q w ha hs ht hj b0 b1 _ => ?_, fun h' a n j x q w ha hs hj => ?_, fun w => absurd w.1 (by decide), fun w => absurd w.1 (by decide), fun w => absurd w.1 (by decide), fun h' t j w q w2 ht hj hw => ?_⟩
  · obtain ⟨u, v, e, c1, c2, c3, c4⟩ := q
    rw [e]
    exact tk_I I c1 c2 c3 c4
  · obtain ⟨u, v, e, c1, c2, c3, c4⟩ := q
    obtain ⟨w1, w2⟩ := w
    subst w1
    have ec : ci = 3 := by
      have := congrArg (fun q : Nat × Nat × List (Nat × Nat) => q.1) (tk_s62.symm.trans hs)
      have : 10 + 3 = 10 + ci := this
      omega
    subst ec
    subst e
    rcases w2 with rfl | rfl
    · exact ⟨x, v, tk_ad3, b0, b1, c3, c4⟩
    · exact ⟨u, x, tk_ad4, c1, c2, b0, b1⟩
  · exfalso
    obtain ⟨w1, w2⟩ := w
    subst w1
    rw [tk_s62] at hs
    have : fs = [(3, 63), (0, 0), (0, 0), (0, 0), (0, 0), (0, 0), (1, 0), (3, 64)] := (congrArg (fun q : Nat × Nat × List (Nat × Nat) => q.2.2) hs).symm
    subst this
    rcases w2 with rfl | rfl <;> cases hf
  · exfalso
    obtain ⟨w1, w2⟩ := w
    subst w1
    rw [tk_s62] at hs
    have : 10 + 3 = t := congrArg (fun q : Nat × Nat × List (Nat × Nat) => q.1) hs
    omega
  · exfalso
    obtain ⟨w1, w2⟩ := w
    subst w1
    rw [tk_s62] at hs
    have : 10 + 3 = 1 := congrArg (fun q : Nat × Nat × List (Nat × Nat) => q.1) hs
    omega
  · exfalso
    have := ty_trl ht
    have := w2.1
    omega
theorem tk_dg {h h' : pm_H} {u v : Int} (e : hs_aI h' 63 = hs_aI h 63) (k : ty_dg h u v) : ty_dg h' u v := by
  unfold ty_dg at k ⊢
  rw [e]
  exact k
/-- the reader's predicate with its token -/
theorem ty_C.tok {J : pm_H → Prop} (H : ty_C ty_Wr0 J) : ty_C ty_Wr (fun h => J h ∧ ty_dg h (hs_fI h 62 3).toInt (hs_fI h 62 4).toInt) := by
  have w0 : ∀ a k, a < 129 → ty_Wr a k → ty_Wr0 a k := fun a k ha w => by unfold ty_Wr at w; unfold ty_Wr0; omega
  have keep : ∀ (h h' : pm_H), hs_aI h' 63 = hs_aI h 63 → hs_fI h' 62 3 = hs_fI h 62 3 → hs_fI h' 62 4 = hs_fI h 62 4 → ty_dg h (hs_fI h 62 3).toInt (hs_fI h 62 4).toInt → ty_dg h' (hs_fI h' 62 3).toInt (hs_fI h' 62 4).toInt := by
    intro h h' e1 e2 e3 k
    rw [e2, e3]
    exact tk_dg e1 k
  have kF : ∀ (h : pm_H) (a ci k : Nat) (v : Value), ty_Wr a k → a < 129 → ty_dg h (hs_fI h 62 3).toInt (hs_fI h 62 4).toInt → ty_dg (hs_sF h a ci k v) (hs_fI (hs_sF h a ci k v) 62 3).toInt (hs_fI (hs_sF h a ci k v) 62 4).toInt := by
    intro h a ci k v w ha q
    have hw : (a = 62 ∧ k ≠ 3 ∧ k ≠ 4) ∨ (64 ≤ a) := by unfold ty_Wr at w; omega
    refine keep h _ (hs_aI_ne (by omega)) ?_ ?_ q
    · rcases hw with ⟨rfl, k3, k4⟩ | hw
      · exact ty_fI_sF k3
      · exact hs_fI_ne (by omega)
    · rcases hw with ⟨rfl, k3, k4⟩ | hw
      · exact ty_fI_sF k4
      · exact hs_fI_ne (by omega)
  have kC : ∀ (h : pm_H) (a : Nat) (c : pm_C), a ≠ 62 → a ≠ 63 → ty_dg h (hs_fI h 62 3).toInt (hs_fI h 62 4).toInt → ty_dg (pm_hset h a c) (hs_fI (pm_hset h a c) 62 3).toInt (hs_fI (pm_hset h a c) 62 4).toInt :=
    fun h a c n1 n2 q => keep h _ (hs_aI_ne (Ne.symm n2)) (hs_fI_ne (Ne.symm n1)) (hs_fI_ne (Ne.symm n1)) q
  have n62 : ∀ a t n, hs_sh a = (t, n, []) → a ≠ 62 := fun a t n hs e => by
    rw [e, tk_s62] at hs
    have : [(3, 63), (0, 0), (0, 0), (0, 0), (0, 0), (0, 0), (1, 0), (3, 64)] = ([] : List (Nat × Nat)) := congrArg (fun q : Nat × Nat × List (Nat × Nat) => q.2.2) hs
    cases this
  refine ⟨fun h j => H.1 h j.1, fun h a ci k u fs t j w ha hs hf ht b0 b1 => ⟨H.2.1 h a ci k u fs t j.1 (w0 _ _ ha w) ha hs hf ht b0 b1, kF h a ci k _ w ha j.2⟩, fun h a ci k u fs j w ha hs hf b0 b1 => ⟨H.2.2.1 h a ci k u fs j.1 (w0 _ _ ha w) ha hs hf b0 b1, kF h a ci k _ w ha j.2⟩, fun h a n i t x j w ha hs ht hi b0 b1 b5 => ?_, fun h a n i x j w ha hs hi => ?_, fun w => by unfold ty_Wr at w; omega, fun w => by unfold ty_Wr at w; omega, fun w => ⟨fun h j => j.2, fun h u v j a1 a2 a3 a4 => ?_⟩, fun h t i x j w ht hi hx => ?_⟩
  · exact ⟨H.2.2.2.1 h a n i t x j.1 (w0 _ _ ha w) ha hs ht hi b0 b1 (fun e1 _ _ => by unfold ty_Wr at w; omega), kC h a _ (n62 a t n hs) (by unfold ty_Wr at w; omega) j.2⟩
  · exact ⟨H.2.2.2.2.1 h a n i x j.1 (w0 _ _ ha w) ha hs hi, kC h a _ (n62 a 1 n hs) (by unfold ty_Wr at w; omega) j.2⟩
  · have I := H.1 h j.1
    have j1 : J (hs_sF h 62 3 3 (.int u)) := H.2.1 h 62 3 3 u _ 0 j.1 (by unfold ty_Wr0; omega) (by decide) tk_s62 rfl (Or.inl rfl) a1 (by show u.toInt ≤ 400; omega)
    have j2 : J (ty_ad h u v) := H.2.1 _ 62 3 4 v _ 0 j1 (by unfold ty_Wr0; omega) (by decide) tk_s62 rfl (Or.inl rfl) (by show 0 ≤ v.toInt; omega) a3
    refine ⟨j2, ?_⟩
    rw [tk_f3 I.1, tk_f4 I a1 (by omega)]
    exact tk_dg tk_t a4
  · exfalso
    have := ty_trl ht
    unfold ty_Wr at w
    omega
end TOK
