/-! the tapes, where sizes, references or laws change -/
section ZSP
def tp_UG (ks : List (Nat × Nat × Nat)) (n : Nat) (T : Int) (h0 h : pm_H) : Prop := tp_U n T h ∧ fr_eq h h0 ks
def tp_VG (ks : List (Nat × Nat × Nat)) (n : Nat) (T : Int) (h0 h : pm_H) : Prop := tp_V n T h ∧ fr_eq h h0 ks
def tp_MG (ks : List (Nat × Nat × Nat)) (n : Nat) (T : Int) (h0 h : pm_H) : Prop := tp_M n T h ∧ fr_eq h h0 ks
theorem tp_CUf (n : Nat) (T : Int) (h0 : pm_H) : ty_C ty_Wf (tp_UG [(3, 106, 0), (0, 0, 15), (0, 97, 11)] n T h0) := ty_C.frs h0 _ ((tp_CU n T).mono (W' := ty_Wf) (fun a k w => by unfold ty_Wf at w; unfold ty_W6; omega) (by unfold ty_Wf ty_W6; omega)) ⟨⟨rfl, fun k => show ¬ ty_Wf 106 k by unfold ty_Wf; omega⟩, ⟨rfl, show ¬ ty_Wf 0 15 by unfold ty_Wf; omega⟩, ⟨rfl, show ¬ ty_Wf 97 11 by unfold ty_Wf; omega⟩, trivial⟩
theorem tp_CUe (n : Nat) (T : Int) (h0 : pm_H) : ty_C ty_Wfe (tp_UG [(3, 63, 0), (3, 106, 0), (0, 0, 15), (0, 97, 11)] n T h0) := ty_C.frs h0 _ ((tp_CU n T).mono (W' := ty_Wfe) (fun a k w => by unfold ty_Wfe at w; unfold ty_W6; omega) (by unfold ty_Wfe ty_W6; omega)) ⟨⟨rfl, fun k => show ¬ ty_Wfe 63 k by unfold ty_Wfe; omega⟩, ⟨rfl, fun k => show ¬ ty_Wfe 106 k by unfold ty_Wfe; omega⟩, ⟨rfl, show ¬ ty_Wfe 0 15 by unfold ty_Wfe; omega⟩, ⟨rfl, show ¬ ty_Wfe 97 11 by unfold ty_Wfe; omega⟩, trivial⟩
theorem tp_CUr (n : Nat) (T : Int) (h0 : pm_H) : ty_C ty_Wcw (tp_UG [(3, 63, 0), (3, 106, 0), (0, 97, 11)] n T h0) := ty_C.frs h0 _ ((tp_CU n T).mono (W' := ty_Wcw) (fun a k w => by unfold ty_Wcw at w; unfold ty_W6; omega) (by unfold ty_Wcw ty_W6; omega)) ⟨⟨rfl, fun k => show ¬ ty_Wcw 63 k by unfold ty_Wcw; omega⟩, ⟨rfl, fun k => show ¬ ty_Wcw 106 k by unfold ty_Wcw; omega⟩, ⟨rfl, show ¬ ty_Wcw 97 11 by unfold ty_Wcw; omega⟩, trivial⟩
theorem tp_CUl (n : Nat) (T : Int) (h0 : pm_H) : ty_C ty_Wc1 (tp_UG [(0, 0, 15), (0, 97, 11)] n T h0) := ty_C.frs h0 _ ((tp_CU n T).mono (W' := ty_Wc1) (fun a k w => by unfold ty_Wc1 at w; unfold ty_W6; omega) (by unfold ty_Wc1 ty_W6; omega)) ⟨⟨rfl, show ¬ ty_Wc1 0 15 by unfold ty_Wc1; omega⟩, ⟨rfl, show ¬ ty_Wc1 97 11 by unfold ty_Wc1; omega⟩, trivial⟩
theorem tp_CVf (n : Nat) (T : Int) (h0 : pm_H) : ty_C ty_Wg (tp_VG [(3, 63, 0), (0, 0, 15), (0, 97, 11)] n T h0) := ty_C.frs h0 _ ((tp_CV n T).mono (W' := ty_Wg) (fun a k w => by unfold ty_Wg at w; unfold ty_W7; omega) (by unfold ty_Wg ty_W7; omega)) ⟨⟨rfl, fun k => show ¬ ty_Wg 63 k by unfold ty_Wg; omega⟩, ⟨rfl, show ¬ ty_Wg 0 15 by unfold ty_Wg; omega⟩, ⟨rfl, show ¬ ty_Wg 97 11 by unfold ty_Wg; omega⟩, trivial⟩
theorem tp_CVe (n : Nat) (T : Int) (h0 : pm_H) : ty_C ty_Wge (tp_VG [(3, 63, 0), (3, 106, 0), (0, 0, 15), (0, 97, 11)] n T h0) := ty_C.frs h0 _ ((tp_CV n T).mono (W' := ty_Wge) (fun a k w => by unfold ty_Wge at w; unfold ty_W7; omega) (by unfold ty_Wge ty_W7; omega)) ⟨⟨rfl, fun k => show ¬ ty_Wge 63 k by unfold ty_Wge; omega⟩, ⟨rfl, fun k => show ¬ ty_Wge 106 k by unfold ty_Wge; omega⟩, ⟨rfl, show ¬ ty_Wge 0 15 by unfold ty_Wge; omega⟩, ⟨rfl, show ¬ ty_Wge 97 11 by unfold ty_Wge; omega⟩, trivial⟩
theorem tp_CVr (n : Nat) (T : Int) (h0 : pm_H) : ty_C ty_Wrow (tp_VG [(3, 63, 0), (3, 106, 0), (0, 0, 15)] n T h0) := ty_C.frs h0 _ ((tp_CV n T).mono (W' := ty_Wrow) (fun a k w => by unfold ty_Wrow at w; unfold ty_W7; omega) (by unfold ty_Wrow ty_W7; omega)) ⟨⟨rfl, fun k => show ¬ ty_Wrow 63 k by unfold ty_Wrow; omega⟩, ⟨rfl, fun k => show ¬ ty_Wrow 106 k by unfold ty_Wrow; omega⟩, ⟨rfl, show ¬ ty_Wrow 0 15 by unfold ty_Wrow; omega⟩, trivial⟩
theorem tp_CMl (n : Nat) (T : Int) (h0 : pm_H) : ty_C ty_Wla (tp_MG [(0, 0, 15), (0, 97, 11)] n T h0) := ty_C.frs h0 _ ((tp_CM n T).mono (W' := ty_Wla) (fun a k w => by unfold ty_Wla at w; unfold ty_W9; omega) (by unfold ty_Wla ty_W9; omega)) ⟨⟨rfl, show ¬ ty_Wla 0 15 by unfold ty_Wla; omega⟩, ⟨rfl, show ¬ ty_Wla 97 11 by unfold ty_Wla; omega⟩, trivial⟩
theorem tp_CMo (n : Nat) (T : Int) (h0 : pm_H) : ty_C ty_Wor (tp_MG [(0, 0, 15), (0, 97, 11)] n T h0) := ty_C.frs h0 _ ((tp_CM n T).mono (W' := ty_Wor) (fun a k w => by unfold ty_Wor at w; unfold ty_W9; omega) (by unfold ty_Wor ty_W9; omega)) ⟨⟨rfl, show ¬ ty_Wor 0 15 by unfold ty_Wor; omega⟩, ⟨rfl, show ¬ ty_Wor 97 11 by unfold ty_Wor; omega⟩, trivial⟩
theorem fr_al {h h0 h1 : pm_H} (e : ∀ b, b < 129 → h1.2.2 b = h.2.2 b) : ∀ ks : List (Nat × Nat × Nat), (ks.all (fun q => decide (q.2.1 < 129))) = true → fr_eq h h0 ks → fr_eq h1 h0 ks
  | [], _, _ => trivial
  | (t, a, k) :: r, hk, g => by
    rw [List.all_cons, Bool.and_eq_true] at hk
    obtain ⟨e1, e2⟩ := g
    have na : a < 129 := of_decide_eq_true hk.1
    refine ⟨?_, fr_al e r hk.2 e2⟩
    have e1 : fr_p h h0 t a k := e1
    have q1 : ∀ k, hs_fI h1 a k = hs_fI h a k := fun k => by unfold hs_fI hs_fV hs_vs; rw [e a na]
    have q2 : hs_aI h1 a = hs_aI h a := by unfold hs_aI; rw [e a na]
    have q3 : ∀ k, hs_fL h1 a k = hs_fL h a k := fun k => by unfold hs_fL hs_fV hs_vs; rw [e a na]
    show fr_p h1 h0 t a k
    match t, e1 with
    | 0, e1 => exact (congrArg Int32.toInt (q1 k)).trans e1
    | 1, e1 => exact (congrArg Int32.toInt (congrFun q2 k)).trans e1
    | 2, e1 => exact (congrArg Int64.toInt (q3 k)).trans e1
    | t + 3, e1 => exact q2.trans e1
theorem tp_USg {n : Nat} {T : Int} {h0 h : pm_H} (j : tp_UG [(0, 0, 15), (0, 97, 11)] n T h0 h) : tp_UG [(0, 0, 15), (0, 97, 11)] (n + 1) T h0 h := ⟨⟨tp_S j.1.1, j.1.2⟩, j.2⟩
theorem tp_alG {n : Nat} {T : Int} {h0 h h1 : pm_H} (j : tp_UG [(0, 0, 15), (0, 97, 11)] n T h0 h) (I : ty_I h1) (e1 : h1.1 = h.1 + 8) (e3 : h1.2.1 ≤ h.2.1 + 870) (e : ∀ b, b < h.1 → h1.2.2 b = h.2.2 b) : tp_UG [(0, 0, 15), (0, 97, 11)] (n + 1) T h0 h1 := by
  have l := j.1.1.1.1.1
  have e' : ∀ b, b < 129 → h1.2.2 b = h.2.2 b := fun b hb => e b (by omega)
  exact ⟨tp_al j.1 I e1 e3 e, fr_al e' _ (by decide) j.2⟩
theorem tp_laG {n : Nat} {S : Int} {h0 h h1 : pm_H} (j : tp_MG [(0, 0, 15), (0, 97, 11)] n S h0 h) (I : ty_I h1) (e1 : h1.1 = h.1) (e2 : h1.2.1 = h.2.1) (e : ∀ b, b ≠ 99 → h1.2.2 b = h.2.2 b) (e5 : (hs_aI h1 99 5).toInt = (hs_aI h 99 5).toInt) : tp_MG [(0, 0, 15), (0, 97, 11)] n S h0 h1 := by
  have f : ∀ a k, a ≠ 99 → hs_fI h1 a k = hs_fI h a k := fun a k q => by unfold hs_fI hs_fV hs_vs; rw [e a q]
  obtain ⟨x0, x1, _⟩ := j.2
  exact ⟨tp_la j.1 I e1 e2 e e5, (congrArg Int32.toInt (f 0 15 (by decide))).trans x0, (congrArg Int32.toInt (f 97 11 (by decide))).trans x1, trivial⟩
def tp_OG (n : Nat) (T : Int) (a b : Nat) (h0 h : pm_H) : Prop := (tp_U n T h ∧ tp_z a b h) ∧ fr_eq h h0 [(0, 0, 15), (0, 97, 11)]
theorem tp_COG (n : Nat) (T : Int) (a b : Nat) (h0 : pm_H) : ty_C ty_Wc1 (tp_OG n T a b h0) := ty_C.frs h0 _ (((tp_CU n T).mono (W' := ty_Wc1) (fun a k w => by unfold ty_Wc1 at w; unfold ty_W6; omega) (by unfold ty_Wc1 ty_W6; omega)).zz a b) ⟨⟨rfl, show ¬ ty_Wc1 0 15 by unfold ty_Wc1; omega⟩, ⟨rfl, show ¬ ty_Wc1 97 11 by unfold ty_Wc1; omega⟩, trivial⟩
theorem tp_OGT (n : Nat) (T : Int) (a b : Nat) (h0 : pm_H) : ty_T (tp_OG n T a b h0) := fun h c t f j e q => by
  have nc : c ≠ 15 := fun w => by
    subst w
    have w : some ((0 : Nat), (0 : Nat)) = some (f, 0) := e
    cases w
    omega
  obtain ⟨x0, x1, _⟩ := j.2
  exact ⟨tp_Tr n T a b h c t f j.1 e q, (congrArg Int32.toInt (ty_fI_sF nc)).trans x0, (congrArg Int32.toInt (hs_fI_ne (by decide))).trans x1, trivial⟩
end ZSP
