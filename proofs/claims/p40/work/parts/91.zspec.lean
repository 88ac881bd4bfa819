/-! the relation of counts, where sizes, references or laws change -/
section ZSP
def ty_W6b (a k : Nat) : Prop := a = 200 ∨ a = 202 ∨ (a < 129 ∧ (a = 97 → k ≠ 20 ∧ k ≠ 13) ∧ (a = 99 → 3 ≤ k ∧ k < 98) ∧ a ≠ 100 ∧ a ≠ 101 ∧ a ≠ 57 ∧ ¬ ((a = 1 ∨ a = 12 ∨ a = 35 ∨ a = 46) ∧ (k = 0 ∨ k = 3 ∨ k = 10)))
def ty_W7b (a k : Nat) : Prop := a = 200 ∨ a = 202 ∨ (a < 129 ∧ (a = 97 → k ≠ 20) ∧ ¬ (a = 62 ∧ k = 1) ∧ (a = 99 → 3 ≤ k ∧ k < 98) ∧ a ≠ 100 ∧ a ≠ 101 ∧ a ≠ 57 ∧ ¬ ((a = 1 ∨ a = 12 ∨ a = 35 ∨ a = 46) ∧ (k = 0 ∨ k = 3 ∨ k = 10)))
def ty_W9b (a k : Nat) : Prop := a = 202 ∨ (a < 129 ∧ ¬ (a = 62 ∧ k = 1) ∧ (a = 99 → 3 ≤ k ∧ k < 98) ∧ a ≠ 100 ∧ a ≠ 101 ∧ a ≠ 57 ∧ ¬ ((a = 1 ∨ a = 12 ∨ a = 35 ∨ a = 46) ∧ (k = 0 ∨ k = 3 ∨ k = 10)))
def tp_UF (r0 r1 n : Nat) (T : Int) (h0 h : pm_H) : Prop := (tp_U n T h ∧ hs_fR h 0 0 = r0 ∧ hs_fR h 0 1 = r1) ∧ fr_eq h h0 [(0, 1, 0), (0, 1, 3), (0, 1, 10), (0, 12, 0), (0, 12, 3), (0, 12, 10), (0, 35, 0), (0, 35, 3), (0, 35, 10), (0, 46, 0), (0, 46, 3), (0, 46, 10), (1, 99, 0), (1, 99, 1), (1, 99, 2), (3, 100, 0), (3, 57, 0), (3, 101, 0)]
theorem tp_CUb (r0 r1 n : Nat) (T : Int) (h0 : pm_H) : ty_C ty_W6b (tp_UF r0 r1 n T h0) := ty_C.frs h0 _ (((tp_CU n T).mono (W' := ty_W6b) (fun a k w => by unfold ty_W6b at w; unfold ty_W6; omega) (by unfold ty_W6b ty_W6; omega)).refs r0 r1) ⟨⟨rfl, show ¬ ty_W6b 1 0 by unfold ty_W6b; omega⟩, ⟨rfl, show ¬ ty_W6b 1 3 by unfold ty_W6b; omega⟩, ⟨rfl, show ¬ ty_W6b 1 10 by unfold ty_W6b; omega⟩, ⟨rfl, show ¬ ty_W6b 12 0 by unfold ty_W6b; omega⟩, ⟨rfl, show ¬ ty_W6b 12 3 by unfold ty_W6b; omega⟩, ⟨rfl, show ¬ ty_W6b 12 10 by unfold ty_W6b; omega⟩, ⟨rfl, show ¬ ty_W6b 35 0 by unfold ty_W6b; omega⟩, ⟨rfl, show ¬ ty_W6b 35 3 by unfold ty_W6b; omega⟩, ⟨rfl, show ¬ ty_W6b 35 10 by unfold ty_W6b; omega⟩, ⟨rfl, show ¬ ty_W6b 46 0 by unfold ty_W6b; omega⟩, ⟨rfl, show ¬ ty_W6b 46 3 by unfold ty_W6b; omega⟩, ⟨rfl, show ¬ ty_W6b 46 10 by unfold ty_W6b; omega⟩, ⟨rfl, show ¬ ty_W6b 99 0 by unfold ty_W6b; omega⟩, ⟨rfl, show ¬ ty_W6b 99 1 by unfold ty_W6b; omega⟩, ⟨rfl, show ¬ ty_W6b 99 2 by unfold ty_W6b; omega⟩, ⟨rfl, fun k => show ¬ ty_W6b 100 k by unfold ty_W6b; omega⟩, ⟨rfl, fun k => show ¬ ty_W6b 57 k by unfold ty_W6b; omega⟩, ⟨rfl, fun k => show ¬ ty_W6b 101 k by unfold ty_W6b; omega⟩, trivial⟩
def tp_VF (r0 r1 n : Nat) (T : Int) (h0 h : pm_H) : Prop := (tp_V n T h ∧ hs_fR h 0 0 = r0 ∧ hs_fR h 0 1 = r1) ∧ fr_eq h h0 [(0, 1, 0), (0, 1, 3), (0, 1, 10), (0, 12, 0), (0, 12, 3), (0, 12, 10), (0, 35, 0), (0, 35, 3), (0, 35, 10), (0, 46, 0), (0, 46, 3), (0, 46, 10), (1, 99, 0), (1, 99, 1), (1, 99, 2), (3, 100, 0), (3, 57, 0), (3, 101, 0)]
theorem tp_CVb (r0 r1 n : Nat) (T : Int) (h0 : pm_H) : ty_C ty_W7b (tp_VF r0 r1 n T h0) := ty_C.frs h0 _ (((tp_CV n T).mono (W' := ty_W7b) (fun a k w => by unfold ty_W7b at w; unfold ty_W7; omega) (by unfold ty_W7b ty_W7; omega)).refs r0 r1) ⟨⟨rfl, show ¬ ty_W7b 1 0 by unfold ty_W7b; omega⟩, ⟨rfl, show ¬ ty_W7b 1 3 by unfold ty_W7b; omega⟩, ⟨rfl, show ¬ ty_W7b 1 10 by unfold ty_W7b; omega⟩, ⟨rfl, show ¬ ty_W7b 12 0 by unfold ty_W7b; omega⟩, ⟨rfl, show ¬ ty_W7b 12 3 by unfold ty_W7b; omega⟩, ⟨rfl, show ¬ ty_W7b 12 10 by unfold ty_W7b; omega⟩, ⟨rfl, show ¬ ty_W7b 35 0 by unfold ty_W7b; omega⟩, ⟨rfl, show ¬ ty_W7b 35 3 by unfold ty_W7b; omega⟩, ⟨rfl, show ¬ ty_W7b 35 10 by unfold ty_W7b; omega⟩, ⟨rfl, show ¬ ty_W7b 46 0 by unfold ty_W7b; omega⟩, ⟨rfl, show ¬ ty_W7b 46 3 by unfold ty_W7b; omega⟩, ⟨rfl, show ¬ ty_W7b 46 10 by unfold ty_W7b; omega⟩, ⟨rfl, show ¬ ty_W7b 99 0 by unfold ty_W7b; omega⟩, ⟨rfl, show ¬ ty_W7b 99 1 by unfold ty_W7b; omega⟩, ⟨rfl, show ¬ ty_W7b 99 2 by unfold ty_W7b; omega⟩, ⟨rfl, fun k => show ¬ ty_W7b 100 k by unfold ty_W7b; omega⟩, ⟨rfl, fun k => show ¬ ty_W7b 57 k by unfold ty_W7b; omega⟩, ⟨rfl, fun k => show ¬ ty_W7b 101 k by unfold ty_W7b; omega⟩, trivial⟩
def tp_MF (r0 r1 n : Nat) (T : Int) (h0 h : pm_H) : Prop := (tp_M n T h ∧ hs_fR h 0 0 = r0 ∧ hs_fR h 0 1 = r1) ∧ fr_eq h h0 [(0, 1, 0), (0, 1, 3), (0, 1, 10), (0, 12, 0), (0, 12, 3), (0, 12, 10), (0, 35, 0), (0, 35, 3), (0, 35, 10), (0, 46, 0), (0, 46, 3), (0, 46, 10), (1, 99, 0), (1, 99, 1), (1, 99, 2), (3, 100, 0), (3, 57, 0), (3, 101, 0)]
theorem tp_CMb (r0 r1 n : Nat) (T : Int) (h0 : pm_H) : ty_C ty_W9b (tp_MF r0 r1 n T h0) := ty_C.frs h0 _ (((tp_CM n T).mono (W' := ty_W9b) (fun a k w => by unfold ty_W9b at w; unfold ty_W9; omega) (by unfold ty_W9b ty_W9; omega)).refs r0 r1) ⟨⟨rfl, show ¬ ty_W9b 1 0 by unfold ty_W9b; omega⟩, ⟨rfl, show ¬ ty_W9b 1 3 by unfold ty_W9b; omega⟩, ⟨rfl, show ¬ ty_W9b 1 10 by unfold ty_W9b; omega⟩, ⟨rfl, show ¬ ty_W9b 12 0 by unfold ty_W9b; omega⟩, ⟨rfl, show ¬ ty_W9b 12 3 by unfold ty_W9b; omega⟩, ⟨rfl, show ¬ ty_W9b 12 10 by unfold ty_W9b; omega⟩, ⟨rfl, show ¬ ty_W9b 35 0 by unfold ty_W9b; omega⟩, ⟨rfl, show ¬ ty_W9b 35 3 by unfold ty_W9b; omega⟩, ⟨rfl, show ¬ ty_W9b 35 10 by unfold ty_W9b; omega⟩, ⟨rfl, show ¬ ty_W9b 46 0 by unfold ty_W9b; omega⟩, ⟨rfl, show ¬ ty_W9b 46 3 by unfold ty_W9b; omega⟩, ⟨rfl, show ¬ ty_W9b 46 10 by unfold ty_W9b; omega⟩, ⟨rfl, show ¬ ty_W9b 99 0 by unfold ty_W9b; omega⟩, ⟨rfl, show ¬ ty_W9b 99 1 by unfold ty_W9b; omega⟩, ⟨rfl, show ¬ ty_W9b 99 2 by unfold ty_W9b; omega⟩, ⟨rfl, fun k => show ¬ ty_W9b 100 k by unfold ty_W9b; omega⟩, ⟨rfl, fun k => show ¬ ty_W9b 57 k by unfold ty_W9b; omega⟩, ⟨rfl, fun k => show ¬ ty_W9b 101 k by unfold ty_W9b; omega⟩, trivial⟩
theorem fr_al {h h0 h1 : pm_H} (e : ∀ b, b < 129 → h1.2.2 b = h.2.2 b) : ∀ ks : List (Nat × Nat × Nat), (ks.all (fun q => decide (q.2.1 < 129))) = true → fr_eq h h0 ks → fr_eq h1 h0 ks
  | [], _, _ => trivial
  | (t, a, k) :: r, hk, g => by
    rw [List.all_cons, Bool.and_eq_true] at hk
    obtain ⟨e1, e2⟩ := g
    have na : a < 129 := of_decide_eq_true hk.1
    refine ⟨?_, fr_al e r hk.2 e2⟩
    have e1 : fr_p h h0 t a k := e1
    have q1 : ∀ k, hs_fI h1 a k = hs_fI h a k := fun k => by unfold hs_fI hs_fV hs_vs; rw [e a na]
    have q2 : hs_aI h1 a = hs_aI h a := by unfold hs_aI; rw [e a na]
    have q3 : ∀ k, hs_fL h1 a k = hs_fL h a k := fun k => by unfold hs_fL hs_fV hs_vs; rw [e a na]
    show fr_p h1 h0 t a k
    match t, e1 with
    | 0, e1 => exact (congrArg Int32.toInt (q1 k)).trans e1
    | 1, e1 => exact (congrArg Int32.toInt (congrFun q2 k)).trans e1
    | 2, e1 => exact (congrArg Int64.toInt (q3 k)).trans e1
    | t + 3, e1 => exact q2.trans e1
theorem rf_al {h h1 : pm_H} (e : h1.2.2 0 = h.2.2 0) (k : Nat) : hs_fR h1 0 k = hs_fR h 0 k := by unfold hs_fR hs_fV hs_vs; rw [e]
theorem tp_US {r0 r1 n : Nat} {T : Int} {h0 h : pm_H} (j : tp_UF r0 r1 n T h0 h) : tp_UF r0 r1 (n + 1) T h0 h := ⟨⟨⟨tp_S j.1.1.1, j.1.1.2⟩, j.1.2⟩, j.2⟩
theorem tp_alF {r0 r1 n : Nat} {T : Int} {h0 h h1 : pm_H} (j : tp_UF r0 r1 n T h0 h) (I : ty_I h1) (e1 : h1.1 = h.1 + 8) (e3 : h1.2.1 ≤ h.2.1 + 870) (e : ∀ b, b < h.1 → h1.2.2 b = h.2.2 b) : tp_UF r0 r1 (n + 1) T h0 h1 := by
  have l := j.1.1.1.1.1.1
  have e' : ∀ b, b < 129 → h1.2.2 b = h.2.2 b := fun b hb => e b (by omega)
  exact ⟨⟨tp_al j.1.1 I e1 e3 e, (rf_al (e' 0 (by decide)) 0).trans j.1.2.1, (rf_al (e' 0 (by decide)) 1).trans j.1.2.2⟩, fr_al e' _ (by decide) j.2⟩
theorem tp_laF {r0 r1 n : Nat} {S : Int} {h0 h h1 : pm_H} (j : tp_MF r0 r1 n S h0 h) (I : ty_I h1) (e1 : h1.1 = h.1) (e2 : h1.2.1 = h.2.1) (e : ∀ b, b ≠ 99 → h1.2.2 b = h.2.2 b) (e5 : (hs_aI h1 99 5).toInt = (hs_aI h 99 5).toInt ∧ ∀ j, j < 3 → (hs_aI h1 99 j).toInt = (hs_aI h 99 j).toInt) : tp_MF r0 r1 n S h0 h1 := by
  have f : ∀ a k, a ≠ 99 → hs_fI h1 a k = hs_fI h a k := fun a k q => by unfold hs_fI hs_fV hs_vs; rw [e a q]
  have g : ∀ a, a ≠ 99 → hs_aI h1 a = hs_aI h a := fun a q => by unfold hs_aI; rw [e a q]
  refine ⟨⟨tp_la j.1.1 I e1 e2 e e5.1, (rf_al (e 0 (by decide)) 0).trans j.1.2.1, (rf_al (e 0 (by decide)) 1).trans j.1.2.2⟩, ?_⟩
  obtain ⟨x0, x1, x2, x3, x4, x5, x6, x7, x8, x9, x10, x11, x12, x13, x14, x15, x16, x17, _⟩ := j.2
  exact ⟨(congrArg Int32.toInt (f 1 0 (by decide))).trans x0, (congrArg Int32.toInt (f 1 3 (by decide))).trans x1, (congrArg Int32.toInt (f 1 10 (by decide))).trans x2, (congrArg Int32.toInt (f 12 0 (by decide))).trans x3, (congrArg Int32.toInt (f 12 3 (by decide))).trans x4, (congrArg Int32.toInt (f 12 10 (by decide))).trans x5, (congrArg Int32.toInt (f 35 0 (by decide))).trans x6, (congrArg Int32.toInt (f 35 3 (by decide))).trans x7, (congrArg Int32.toInt (f 35 10 (by decide))).trans x8, (congrArg Int32.toInt (f 46 0 (by decide))).trans x9, (congrArg Int32.toInt (f 46 3 (by decide))).trans x10, (congrArg Int32.toInt (f 46 10 (by decide))).trans x11, (e5.2 0 (by decide)).trans x12, (e5.2 1 (by decide)).trans x13, (e5.2 2 (by decide)).trans x14, (g 100 (by decide)).trans x15, (g 57 (by decide)).trans x16, (g 101 (by decide)).trans x17, trivial⟩
def tp_O1 (n : Nat) (T : Int) (a b : Nat) (h0 h : pm_H) : Prop := (tp_U n T h ∧ tp_z a b h) ∧ fr_eq h h0 [(0, 1, 0), (0, 1, 3), (0, 1, 10), (0, 35, 0), (0, 35, 3), (0, 35, 10), (0, 46, 0), (0, 46, 3), (0, 46, 10), (1, 99, 0), (1, 99, 1), (1, 99, 2), (3, 100, 0), (3, 57, 0), (3, 101, 0)]
theorem tp_CO1 (n : Nat) (T : Int) (a b : Nat) (h0 : pm_H) : ty_C (ty_Wcn 1) (tp_O1 n T a b h0) := ty_C.frs h0 _ (((tp_CU n T).mono (W' := ty_Wcn 1) (fun a k w => by unfold ty_Wcn at w; unfold ty_W6; omega) (by unfold ty_Wcn ty_W6; omega)).zz a b) ⟨⟨rfl, show ¬ (ty_Wcn 1) 1 0 by unfold ty_Wcn; omega⟩, ⟨rfl, show ¬ (ty_Wcn 1) 1 3 by unfold ty_Wcn; omega⟩, ⟨rfl, show ¬ (ty_Wcn 1) 1 10 by unfold ty_Wcn; omega⟩, ⟨rfl, show ¬ (ty_Wcn 1) 35 0 by unfold ty_Wcn; omega⟩, ⟨rfl, show ¬ (ty_Wcn 1) 35 3 by unfold ty_Wcn; omega⟩, ⟨rfl, show ¬ (ty_Wcn 1) 35 10 by unfold ty_Wcn; omega⟩, ⟨rfl, show ¬ (ty_Wcn 1) 46 0 by unfold ty_Wcn; omega⟩, ⟨rfl, show ¬ (ty_Wcn 1) 46 3 by unfold ty_Wcn; omega⟩, ⟨rfl, show ¬ (ty_Wcn 1) 46 10 by unfold ty_Wcn; omega⟩, ⟨rfl, show ¬ (ty_Wcn 1) 99 0 by unfold ty_Wcn; omega⟩, ⟨rfl, show ¬ (ty_Wcn 1) 99 1 by unfold ty_Wcn; omega⟩, ⟨rfl, show ¬ (ty_Wcn 1) 99 2 by unfold ty_Wcn; omega⟩, ⟨rfl, fun k => show ¬ (ty_Wcn 1) 100 k by unfold ty_Wcn; omega⟩, ⟨rfl, fun k => show ¬ (ty_Wcn 1) 57 k by unfold ty_Wcn; omega⟩, ⟨rfl, fun k => show ¬ (ty_Wcn 1) 101 k by unfold ty_Wcn; omega⟩, trivial⟩
theorem tp_OT1 (n : Nat) (T : Int) (a b : Nat) (h0 : pm_H) : ty_T (tp_O1 n T a b h0) := fun h c t f j e q => ⟨tp_Tr n T a b h c t f j.1 e q, fr_set _ (by decide) j.2⟩
theorem rl_o1 {h hc : pm_H} (r : rl 1 12 h) (f : fr_eq hc h [(0, 1, 0), (0, 1, 3), (0, 1, 10), (0, 35, 0), (0, 35, 3), (0, 35, 10), (0, 46, 0), (0, 46, 3), (0, 46, 10), (1, 99, 0), (1, 99, 1), (1, 99, 2), (3, 100, 0), (3, 57, 0), (3, 101, 0)]) (q : (hs_fR hc 0 0 = 1 ∧ hs_fR hc 0 1 = 12) ∨ (hs_fR hc 0 0 = 12 ∧ hs_fR hc 0 1 = 1 ∧ (hs_fI hc 12 0).toInt = (hs_fI h 1 0).toInt ∧ (hs_fI hc 12 3).toInt = (hs_fI h 1 3).toInt ∧ (hs_fI hc 12 10).toInt = (hs_fI h 1 10).toInt)) : rl 1 12 hc ∨ rl 12 1 hc := by
  obtain ⟨x0, x1, x2, x3, x4, x5, x6, x7, x8, x9, x10, x11, x12, x13, x14, _⟩ := f
  have x0 : (hs_fI hc 1 0).toInt = (hs_fI h 1 0).toInt := x0
  have x1 : (hs_fI hc 1 3).toInt = (hs_fI h 1 3).toInt := x1
  have x2 : (hs_fI hc 1 10).toInt = (hs_fI h 1 10).toInt := x2
  have x3 : (hs_fI hc 35 0).toInt = (hs_fI h 35 0).toInt := x3
  have x4 : (hs_fI hc 35 3).toInt = (hs_fI h 35 3).toInt := x4
  have x5 : (hs_fI hc 35 10).toInt = (hs_fI h 35 10).toInt := x5
  have x6 : (hs_fI hc 46 0).toInt = (hs_fI h 46 0).toInt := x6
  have x7 : (hs_fI hc 46 3).toInt = (hs_fI h 46 3).toInt := x7
  have x8 : (hs_fI hc 46 10).toInt = (hs_fI h 46 10).toInt := x8
  have x9 : (hs_aI hc 99 0).toInt = (hs_aI h 99 0).toInt := x9
  have x10 : (hs_aI hc 99 1).toInt = (hs_aI h 99 1).toInt := x10
  have x11 : (hs_aI hc 99 2).toInt = (hs_aI h 99 2).toInt := x11
  have x12 : hs_aI hc 100 = hs_aI h 100 := x12
  have x12_0 : (hs_aI hc 100 0).toInt = (hs_aI h 100 0).toInt := by rw [x12]
  have x12_1 : (hs_aI hc 100 1).toInt = (hs_aI h 100 1).toInt := by rw [x12]
  have x12_2 : (hs_aI hc 100 2).toInt = (hs_aI h 100 2).toInt := by rw [x12]
  have x12_5498 : (hs_aI hc 100 5498).toInt = (hs_aI h 100 5498).toInt := by rw [x12]
  have x12_5499 : (hs_aI hc 100 5499).toInt = (hs_aI h 100 5499).toInt := by rw [x12]
  have x12_5500 : (hs_aI hc 100 5500).toInt = (hs_aI h 100 5500).toInt := by rw [x12]
  have x13 : hs_aI hc 57 = hs_aI h 57 := x13
  have x13_0 : (hs_aI hc 57 0).toInt = (hs_aI h 57 0).toInt := by rw [x13]
  have x13_1 : (hs_aI hc 57 1).toInt = (hs_aI h 57 1).toInt := by rw [x13]
  have x14 : hs_aI hc 101 = hs_aI h 101 := x14
  have x14_0 : (hs_aI hc 101 0).toInt = (hs_aI h 101 0).toInt := by rw [x14]
  have x14_1 : (hs_aI hc 101 1).toInt = (hs_aI h 101 1).toInt := by rw [x14]
  obtain ⟨⟨a1, a2⟩, ⟨b1, b2, b3⟩, ⟨c1, c2, c3⟩, ⟨d1, d2, d3⟩, k1, k2⟩ := r
  rcases q with q | ⟨q1, q2, q3, q4, q5⟩
  · exact Or.inl ⟨q, ⟨by omega, by omega, by omega⟩, ⟨by omega, by omega, by omega⟩, ⟨by omega, by omega, by omega⟩, by omega, by omega⟩
  · exact Or.inr ⟨⟨q1, q2⟩, ⟨by omega, by omega, by omega⟩, ⟨by omega, by omega, by omega⟩, ⟨by omega, by omega, by omega⟩, by omega, by omega⟩
def tp_O12 (n : Nat) (T : Int) (a b : Nat) (h0 h : pm_H) : Prop := (tp_U n T h ∧ tp_z a b h) ∧ fr_eq h h0 [(0, 12, 0), (0, 12, 3), (0, 12, 10), (0, 35, 0), (0, 35, 3), (0, 35, 10), (0, 46, 0), (0, 46, 3), (0, 46, 10), (1, 99, 0), (1, 99, 1), (1, 99, 2), (3, 100, 0), (3, 57, 0), (3, 101, 0)]
theorem tp_CO12 (n : Nat) (T : Int) (a b : Nat) (h0 : pm_H) : ty_C (ty_Wcn 12) (tp_O12 n T a b h0) := ty_C.frs h0 _ (((tp_CU n T).mono (W' := ty_Wcn 12) (fun a k w => by unfold ty_Wcn at w; unfold ty_W6; omega) (by unfold ty_Wcn ty_W6; omega)).zz a b) ⟨⟨rfl, show ¬ (ty_Wcn 12) 12 0 by unfold ty_Wcn; omega⟩, ⟨rfl, show ¬ (ty_Wcn 12) 12 3 by unfold ty_Wcn; omega⟩, ⟨rfl, show ¬ (ty_Wcn 12) 12 10 by unfold ty_Wcn; omega⟩, ⟨rfl, show ¬ (ty_Wcn 12) 35 0 by unfold ty_Wcn; omega⟩, ⟨rfl, show ¬ (ty_Wcn 12) 35 3 by unfold ty_Wcn; omega⟩, ⟨rfl, show ¬ (ty_Wcn 12) 35 10 by unfold ty_Wcn; omega⟩, ⟨rfl, show ¬ (ty_Wcn 12) 46 0 by unfold ty_Wcn; omega⟩, ⟨rfl, show ¬ (ty_Wcn 12) 46 3 by unfold ty_Wcn; omega⟩, ⟨rfl, show ¬ (ty_Wcn 12) 46 10 by unfold ty_Wcn; omega⟩, ⟨rfl, show ¬ (ty_Wcn 12) 99 0 by unfold ty_Wcn; omega⟩, ⟨rfl, show ¬ (ty_Wcn 12) 99 1 by unfold ty_Wcn; omega⟩, ⟨rfl, show ¬ (ty_Wcn 12) 99 2 by unfold ty_Wcn; omega⟩, ⟨rfl, fun k => show ¬ (ty_Wcn 12) 100 k by unfold ty_Wcn; omega⟩, ⟨rfl, fun k => show ¬ (ty_Wcn 12) 57 k by unfold ty_Wcn; omega⟩, ⟨rfl, fun k => show ¬ (ty_Wcn 12) 101 k by unfold ty_Wcn; omega⟩, trivial⟩
theorem tp_OT12 (n : Nat) (T : Int) (a b : Nat) (h0 : pm_H) : ty_T (tp_O12 n T a b h0) := fun h c t f j e q => ⟨tp_Tr n T a b h c t f j.1 e q, fr_set _ (by decide) j.2⟩
theorem rl_o12 {h hc : pm_H} (r : rl 12 1 h) (f : fr_eq hc h [(0, 12, 0), (0, 12, 3), (0, 12, 10), (0, 35, 0), (0, 35, 3), (0, 35, 10), (0, 46, 0), (0, 46, 3), (0, 46, 10), (1, 99, 0), (1, 99, 1), (1, 99, 2), (3, 100, 0), (3, 57, 0), (3, 101, 0)]) (q : (hs_fR hc 0 0 = 12 ∧ hs_fR hc 0 1 = 1) ∨ (hs_fR hc 0 0 = 1 ∧ hs_fR hc 0 1 = 12 ∧ (hs_fI hc 1 0).toInt = (hs_fI h 12 0).toInt ∧ (hs_fI hc 1 3).toInt = (hs_fI h 12 3).toInt ∧ (hs_fI hc 1 10).toInt = (hs_fI h 12 10).toInt)) : rl 1 12 hc ∨ rl 12 1 hc := by
  obtain ⟨x0, x1, x2, x3, x4, x5, x6, x7, x8, x9, x10, x11, x12, x13, x14, _⟩ := f
  have x0 : (hs_fI hc 12 0).toInt = (hs_fI h 12 0).toInt := x0
  have x1 : (hs_fI hc 12 3).toInt = (hs_fI h 12 3).toInt := x1
  have x2 : (hs_fI hc 12 10).toInt = (hs_fI h 12 10).toInt := x2
  have x3 : (hs_fI hc 35 0).toInt = (hs_fI h 35 0).toInt := x3
  have x4 : (hs_fI hc 35 3).toInt = (hs_fI h 35 3).toInt := x4
  have x5 : (hs_fI hc 35 10).toInt = (hs_fI h 35 10).toInt := x5
  have x6 : (hs_fI hc 46 0).toInt = (hs_fI h 46 0).toInt := x6
  have x7 : (hs_fI hc 46 3).toInt = (hs_fI h 46 3).toInt := x7
  have x8 : (hs_fI hc 46 10).toInt = (hs_fI h 46 10).toInt := x8
  have x9 : (hs_aI hc 99 0).toInt = (hs_aI h 99 0).toInt := x9
  have x10 : (hs_aI hc 99 1).toInt = (hs_aI h 99 1).toInt := x10
  have x11 : (hs_aI hc 99 2).toInt = (hs_aI h 99 2).toInt := x11
  have x12 : hs_aI hc 100 = hs_aI h 100 := x12
  have x12_0 : (hs_aI hc 100 0).toInt = (hs_aI h 100 0).toInt := by rw [x12]
  have x12_1 : (hs_aI hc 100 1).toInt = (hs_aI h 100 1).toInt := by rw [x12]
  have x12_2 : (hs_aI hc 100 2).toInt = (hs_aI h 100 2).toInt := by rw [x12]
  have x12_5498 : (hs_aI hc 100 5498).toInt = (hs_aI h 100 5498).toInt := by rw [x12]
  have x12_5499 : (hs_aI hc 100 5499).toInt = (hs_aI h 100 5499).toInt := by rw [x12]
  have x12_5500 : (hs_aI hc 100 5500).toInt = (hs_aI h 100 5500).toInt := by rw [x12]
  have x13 : hs_aI hc 57 = hs_aI h 57 := x13
  have x13_0 : (hs_aI hc 57 0).toInt = (hs_aI h 57 0).toInt := by rw [x13]
  have x13_1 : (hs_aI hc 57 1).toInt = (hs_aI h 57 1).toInt := by rw [x13]
  have x14 : hs_aI hc 101 = hs_aI h 101 := x14
  have x14_0 : (hs_aI hc 101 0).toInt = (hs_aI h 101 0).toInt := by rw [x14]
  have x14_1 : (hs_aI hc 101 1).toInt = (hs_aI h 101 1).toInt := by rw [x14]
  obtain ⟨⟨a1, a2⟩, ⟨b1, b2, b3⟩, ⟨c1, c2, c3⟩, ⟨d1, d2, d3⟩, k1, k2⟩ := r
  rcases q with q | ⟨q1, q2, q3, q4, q5⟩
  · exact Or.inr ⟨q, ⟨by omega, by omega, by omega⟩, ⟨by omega, by omega, by omega⟩, ⟨by omega, by omega, by omega⟩, by omega, by omega⟩
  · exact Or.inl ⟨⟨q1, q2⟩, ⟨by omega, by omega, by omega⟩, ⟨by omega, by omega, by omega⟩, ⟨by omega, by omega, by omega⟩, by omega, by omega⟩
end ZSP
