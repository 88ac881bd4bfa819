/-! lanes and tapes: class and model say the same -/
section REL
def tz_R (T : Int) (h : pm_H) : Prop := ∀ j : Nat, (j : Int) < T → hs_aI h 63 j = hs_aI h 106 j
def rl (m p c : Nat) (h : pm_H) : Prop := (hs_fR h 0 0 = m ∧ hs_fR h 0 1 = p) ∧ (∀ j, j < 36 → hs_aI h c j = hs_aI h 99 (50 + j)) ∧ ((hs_aI h 57 0).toInt ≠ 0 → ∀ j, j < 36 → hs_aI h 41 j = hs_aI h 100 (50 + j)) ∧ ((hs_aI h 57 1).toInt ≠ 0 → ∀ j, j < 36 → hs_aI h 52 j = hs_aI h 100 (5548 + j)) ∧ (hs_aI h 57 0).toInt = (hs_aI h 101 0).toInt ∧ (hs_aI h 57 1).toInt = (hs_aI h 101 1).toInt
def ty_W2b (a k : Nat) : Prop := a = 200 ∨ a = 202 ∨ (a < 129 ∧ (a = 97 → k ≠ 20 ∧ k ≠ 13) ∧ (a = 99 → (k < 50 ∨ 86 ≤ k) ∧ k < 98) ∧ a ≠ 100 ∧ a ≠ 101 ∧ a ≠ 57 ∧ ¬ (a = 62 ∧ k = 1) ∧ a ≠ 63 ∧ a ≠ 106 ∧ a ≠ 7 ∧ a ≠ 18 ∧ a ≠ 41 ∧ a ≠ 52)
def ty_W2n (c a k : Nat) : Prop := a = 200 ∨ a = 202 ∨ (a < 129 ∧ (a = 97 → k ≠ 20 ∧ k ≠ 13) ∧ (a = 99 → (k < 50 ∨ 86 ≤ k) ∧ k < 98) ∧ a ≠ 100 ∧ a ≠ 101 ∧ a ≠ 57 ∧ ¬ (a = 62 ∧ k = 1) ∧ a ≠ 63 ∧ a ≠ 106 ∧ a ≠ c ∧ a ≠ 41 ∧ a ≠ 52)
def ty_W2q (c a k : Nat) : Prop := a = 200 ∨ a = 202 ∨ (a < 129 ∧ (a = 97 → k ≠ 20 ∧ k ≠ 13) ∧ (a = 99 → (k < 50 ∨ 86 ≤ k) ∧ k < 98) ∧ a ≠ 100 ∧ a ≠ 101 ∧ a ≠ 57 ∧ ¬ (a = 62 ∧ k = 1) ∧ a ≠ 63 ∧ a ≠ 106 ∧ (a = c ∨ (a ≠ 7 ∧ a ≠ 18 ∧ a ≠ 41 ∧ a ≠ 52)))
def ty_W2r (a k : Nat) : Prop := a = 200 ∨ a = 202 ∨ (a < 129 ∧ (a = 97 → k ≠ 20 ∧ k ≠ 13) ∧ (a = 99 →  k < 98) ∧ a ≠ 100 ∧ a ≠ 101 ∧ a ≠ 57 ∧ ¬ (a = 62 ∧ k = 1) ∧ a ≠ 63 ∧ a ≠ 106 ∧ a ≠ 7 ∧ a ≠ 18 ∧ a ≠ 41 ∧ a ≠ 52)
def ty_W2i (c i a k : Nat) : Prop := a = 200 ∨ a = 202 ∨ (a < 129 ∧ (a = 97 → k ≠ 20 ∧ k ≠ 13) ∧ (a = 99 → (k < 50 ∨ 86 ≤ k) ∧ k < 98) ∧ a ≠ 100 ∧ a ≠ 101 ∧ (a = 57 → k = i) ∧ ¬ (a = 62 ∧ k = 1) ∧ a ≠ 63 ∧ a ≠ 106 ∧ (a = c ∨ (a ≠ 7 ∧ a ≠ 18 ∧ a ≠ 41 ∧ a ≠ 52)))
def ty_W2x (i a k : Nat) : Prop := a = 200 ∨ a = 202 ∨ (a < 129 ∧ (a = 97 → k ≠ 20 ∧ k ≠ 13) ∧ (a = 99 → (k < 50 ∨ 86 ≤ k) ∧ k < 98) ∧ a ≠ 100 ∧ (a = 101 → k = i) ∧ a ≠ 57 ∧ ¬ (a = 62 ∧ k = 1) ∧ a ≠ 63 ∧ a ≠ 106 ∧ a ≠ 7 ∧ a ≠ 18 ∧ a ≠ 41 ∧ a ≠ 52)
def tp_Q (B : pm_H → Prop) (ks : List (Nat × Nat × Nat)) (r0 r1 : Nat) (h0 h : pm_H) : Prop := (B h ∧ hs_fR h 0 0 = r0 ∧ hs_fR h 0 1 = r1) ∧ fr_eq h h0 ks
def tp_P (B : pm_H → Prop) (ks : List (Nat × Nat × Nat)) (r0 r1 : Nat) (h0 h : pm_H) : Prop := tp_Q B ks r0 r1 h0 h ∧ ∀ j, 50 ≤ j → j < 86 → hs_aI h 99 j = hs_aI h0 99 j
theorem tp_CQ {W : Nat → Nat → Prop} {B : pm_H → Prop} (H : ty_C W B) (ks : List (Nat × Nat × Nat)) (r0 r1 : Nat) (h0 : pm_H) (ok : fr_ok W ks) : ty_C W (tp_Q B ks r0 r1 h0) := ty_C.frs h0 ks (H.refs r0 r1) ok
theorem tp_CP {W : Nat → Nat → Prop} {B : pm_H → Prop} (H : ty_C W B) (ks : List (Nat × Nat × Nat)) (r0 r1 : Nat) (h0 : pm_H) (ok : fr_ok W ks) (sg : ∀ j, 50 ≤ j → j < 86 → ¬ W 99 j) : ty_C W (tp_P B ks r0 r1 h0) := ty_C.seg (tp_CQ H ks r0 r1 h0 ok) 99 50 86 (by decide) sg rfl (hs_aI h0 99)
theorem tp_Cb (r0 r1 n : Nat) (T : Int) (h0 : pm_H) : ty_C ty_W2b (tp_P (tp_T n T) [(3, 63, 0), (3, 106, 0), (3, 7, 0), (3, 18, 0), (3, 41, 0), (3, 52, 0), (3, 100, 0), (3, 57, 0), (3, 101, 0)] r0 r1 h0) := tp_CP ((tp_CT n T).mono (W' := ty_W2b) (fun a k w => by unfold ty_W2b at w; unfold ty_W2; omega) (by unfold ty_W2b ty_W2; omega)) [(3, 63, 0), (3, 106, 0), (3, 7, 0), (3, 18, 0), (3, 41, 0), (3, 52, 0), (3, 100, 0), (3, 57, 0), (3, 101, 0)] r0 r1 h0 ⟨⟨rfl, fun k => show ¬ ty_W2b 63 k by unfold ty_W2b; omega⟩, ⟨rfl, fun k => show ¬ ty_W2b 106 k by unfold ty_W2b; omega⟩, ⟨rfl, fun k => show ¬ ty_W2b 7 k by unfold ty_W2b; omega⟩, ⟨rfl, fun k => show ¬ ty_W2b 18 k by unfold ty_W2b; omega⟩, ⟨rfl, fun k => show ¬ ty_W2b 41 k by unfold ty_W2b; omega⟩, ⟨rfl, fun k => show ¬ ty_W2b 52 k by unfold ty_W2b; omega⟩, ⟨rfl, fun k => show ¬ ty_W2b 100 k by unfold ty_W2b; omega⟩, ⟨rfl, fun k => show ¬ ty_W2b 57 k by unfold ty_W2b; omega⟩, ⟨rfl, fun k => show ¬ ty_W2b 101 k by unfold ty_W2b; omega⟩, trivial⟩ (fun j _ _ => by unfold ty_W2b; omega)
theorem tp_Cn_7 (r0 r1 n : Nat) (T : Int) (h0 : pm_H) : ty_C (ty_W2n 7) (tp_P (tp_T n T) [(3, 63, 0), (3, 106, 0), (3, 7, 0), (3, 41, 0), (3, 52, 0), (3, 100, 0), (3, 57, 0), (3, 101, 0)] r0 r1 h0) := tp_CP ((tp_CT n T).mono (W' := (ty_W2n 7)) (fun a k w => by unfold ty_W2n at w; unfold ty_W2; omega) (by unfold ty_W2n ty_W2; omega)) [(3, 63, 0), (3, 106, 0), (3, 7, 0), (3, 41, 0), (3, 52, 0), (3, 100, 0), (3, 57, 0), (3, 101, 0)] r0 r1 h0 ⟨⟨rfl, fun k => show ¬ (ty_W2n 7) 63 k by unfold ty_W2n; omega⟩, ⟨rfl, fun k => show ¬ (ty_W2n 7) 106 k by unfold ty_W2n; omega⟩, ⟨rfl, fun k => show ¬ (ty_W2n 7) 7 k by unfold ty_W2n; omega⟩, ⟨rfl, fun k => show ¬ (ty_W2n 7) 41 k by unfold ty_W2n; omega⟩, ⟨rfl, fun k => show ¬ (ty_W2n 7) 52 k by unfold ty_W2n; omega⟩, ⟨rfl, fun k => show ¬ (ty_W2n 7) 100 k by unfold ty_W2n; omega⟩, ⟨rfl, fun k => show ¬ (ty_W2n 7) 57 k by unfold ty_W2n; omega⟩, ⟨rfl, fun k => show ¬ (ty_W2n 7) 101 k by unfold ty_W2n; omega⟩, trivial⟩ (fun j _ _ => by unfold ty_W2n; omega)
theorem tp_Cn_18 (r0 r1 n : Nat) (T : Int) (h0 : pm_H) : ty_C (ty_W2n 18) (tp_P (tp_T n T) [(3, 63, 0), (3, 106, 0), (3, 18, 0), (3, 41, 0), (3, 52, 0), (3, 100, 0), (3, 57, 0), (3, 101, 0)] r0 r1 h0) := tp_CP ((tp_CT n T).mono (W' := (ty_W2n 18)) (fun a k w => by unfold ty_W2n at w; unfold ty_W2; omega) (by unfold ty_W2n ty_W2; omega)) [(3, 63, 0), (3, 106, 0), (3, 18, 0), (3, 41, 0), (3, 52, 0), (3, 100, 0), (3, 57, 0), (3, 101, 0)] r0 r1 h0 ⟨⟨rfl, fun k => show ¬ (ty_W2n 18) 63 k by unfold ty_W2n; omega⟩, ⟨rfl, fun k => show ¬ (ty_W2n 18) 106 k by unfold ty_W2n; omega⟩, ⟨rfl, fun k => show ¬ (ty_W2n 18) 18 k by unfold ty_W2n; omega⟩, ⟨rfl, fun k => show ¬ (ty_W2n 18) 41 k by unfold ty_W2n; omega⟩, ⟨rfl, fun k => show ¬ (ty_W2n 18) 52 k by unfold ty_W2n; omega⟩, ⟨rfl, fun k => show ¬ (ty_W2n 18) 100 k by unfold ty_W2n; omega⟩, ⟨rfl, fun k => show ¬ (ty_W2n 18) 57 k by unfold ty_W2n; omega⟩, ⟨rfl, fun k => show ¬ (ty_W2n 18) 101 k by unfold ty_W2n; omega⟩, trivial⟩ (fun j _ _ => by unfold ty_W2n; omega)
theorem tp_Cq_7 (r0 r1 n : Nat) (T : Int) (h0 : pm_H) : ty_C (ty_W2q 7) (tp_P (tp_T n T) [(3, 63, 0), (3, 106, 0), (3, 18, 0), (3, 41, 0), (3, 52, 0), (3, 100, 0), (3, 57, 0), (3, 101, 0)] r0 r1 h0) := tp_CP ((tp_CT n T).mono (W' := (ty_W2q 7)) (fun a k w => by unfold ty_W2q at w; unfold ty_W2; omega) (by unfold ty_W2q ty_W2; omega)) [(3, 63, 0), (3, 106, 0), (3, 18, 0), (3, 41, 0), (3, 52, 0), (3, 100, 0), (3, 57, 0), (3, 101, 0)] r0 r1 h0 ⟨⟨rfl, fun k => show ¬ (ty_W2q 7) 63 k by unfold ty_W2q; omega⟩, ⟨rfl, fun k => show ¬ (ty_W2q 7) 106 k by unfold ty_W2q; omega⟩, ⟨rfl, fun k => show ¬ (ty_W2q 7) 18 k by unfold ty_W2q; omega⟩, ⟨rfl, fun k => show ¬ (ty_W2q 7) 41 k by unfold ty_W2q; omega⟩, ⟨rfl, fun k => show ¬ (ty_W2q 7) 52 k by unfold ty_W2q; omega⟩, ⟨rfl, fun k => show ¬ (ty_W2q 7) 100 k by unfold ty_W2q; omega⟩, ⟨rfl, fun k => show ¬ (ty_W2q 7) 57 k by unfold ty_W2q; omega⟩, ⟨rfl, fun k => show ¬ (ty_W2q 7) 101 k by unfold ty_W2q; omega⟩, trivial⟩ (fun j _ _ => by unfold ty_W2q; omega)
theorem tp_Cq_18 (r0 r1 n : Nat) (T : Int) (h0 : pm_H) : ty_C (ty_W2q 18) (tp_P (tp_T n T) [(3, 63, 0), (3, 106, 0), (3, 7, 0), (3, 41, 0), (3, 52, 0), (3, 100, 0), (3, 57, 0), (3, 101, 0)] r0 r1 h0) := tp_CP ((tp_CT n T).mono (W' := (ty_W2q 18)) (fun a k w => by unfold ty_W2q at w; unfold ty_W2; omega) (by unfold ty_W2q ty_W2; omega)) [(3, 63, 0), (3, 106, 0), (3, 7, 0), (3, 41, 0), (3, 52, 0), (3, 100, 0), (3, 57, 0), (3, 101, 0)] r0 r1 h0 ⟨⟨rfl, fun k => show ¬ (ty_W2q 18) 63 k by unfold ty_W2q; omega⟩, ⟨rfl, fun k => show ¬ (ty_W2q 18) 106 k by unfold ty_W2q; omega⟩, ⟨rfl, fun k => show ¬ (ty_W2q 18) 7 k by unfold ty_W2q; omega⟩, ⟨rfl, fun k => show ¬ (ty_W2q 18) 41 k by unfold ty_W2q; omega⟩, ⟨rfl, fun k => show ¬ (ty_W2q 18) 52 k by unfold ty_W2q; omega⟩, ⟨rfl, fun k => show ¬ (ty_W2q 18) 100 k by unfold ty_W2q; omega⟩, ⟨rfl, fun k => show ¬ (ty_W2q 18) 57 k by unfold ty_W2q; omega⟩, ⟨rfl, fun k => show ¬ (ty_W2q 18) 101 k by unfold ty_W2q; omega⟩, trivial⟩ (fun j _ _ => by unfold ty_W2q; omega)
theorem tp_Cr (r0 r1 n : Nat) (T : Int) (h0 : pm_H) : ty_C ty_W2r (tp_Q (tp_T n T) [(3, 63, 0), (3, 106, 0), (3, 7, 0), (3, 18, 0), (3, 41, 0), (3, 52, 0), (3, 100, 0), (3, 57, 0), (3, 101, 0)] r0 r1 h0) := tp_CQ ((tp_CT n T).mono (W' := ty_W2r) (fun a k w => by unfold ty_W2r at w; unfold ty_W2; omega) (by unfold ty_W2r ty_W2; omega)) [(3, 63, 0), (3, 106, 0), (3, 7, 0), (3, 18, 0), (3, 41, 0), (3, 52, 0), (3, 100, 0), (3, 57, 0), (3, 101, 0)] r0 r1 h0 ⟨⟨rfl, fun k => show ¬ ty_W2r 63 k by unfold ty_W2r; omega⟩, ⟨rfl, fun k => show ¬ ty_W2r 106 k by unfold ty_W2r; omega⟩, ⟨rfl, fun k => show ¬ ty_W2r 7 k by unfold ty_W2r; omega⟩, ⟨rfl, fun k => show ¬ ty_W2r 18 k by unfold ty_W2r; omega⟩, ⟨rfl, fun k => show ¬ ty_W2r 41 k by unfold ty_W2r; omega⟩, ⟨rfl, fun k => show ¬ ty_W2r 52 k by unfold ty_W2r; omega⟩, ⟨rfl, fun k => show ¬ ty_W2r 100 k by unfold ty_W2r; omega⟩, ⟨rfl, fun k => show ¬ ty_W2r 57 k by unfold ty_W2r; omega⟩, ⟨rfl, fun k => show ¬ ty_W2r 101 k by unfold ty_W2r; omega⟩, trivial⟩
theorem tp_Ci_0 (r0 r1 n : Nat) (T : Int) (h0 : pm_H) : ty_C (ty_W2i 41 0) (tp_P (tp_T n T) [(3, 63, 0), (3, 106, 0), (3, 7, 0), (3, 18, 0), (3, 52, 0), (3, 100, 0), (3, 101, 0)] r0 r1 h0) := tp_CP ((tp_CT n T).mono (W' := (ty_W2i 41 0)) (fun a k w => by unfold ty_W2i at w; unfold ty_W2; omega) (by unfold ty_W2i ty_W2; omega)) [(3, 63, 0), (3, 106, 0), (3, 7, 0), (3, 18, 0), (3, 52, 0), (3, 100, 0), (3, 101, 0)] r0 r1 h0 ⟨⟨rfl, fun k => show ¬ (ty_W2i 41 0) 63 k by unfold ty_W2i; omega⟩, ⟨rfl, fun k => show ¬ (ty_W2i 41 0) 106 k by unfold ty_W2i; omega⟩, ⟨rfl, fun k => show ¬ (ty_W2i 41 0) 7 k by unfold ty_W2i; omega⟩, ⟨rfl, fun k => show ¬ (ty_W2i 41 0) 18 k by unfold ty_W2i; omega⟩, ⟨rfl, fun k => show ¬ (ty_W2i 41 0) 52 k by unfold ty_W2i; omega⟩, ⟨rfl, fun k => show ¬ (ty_W2i 41 0) 100 k by unfold ty_W2i; omega⟩, ⟨rfl, fun k => show ¬ (ty_W2i 41 0) 101 k by unfold ty_W2i; omega⟩, trivial⟩ (fun j _ _ => by unfold ty_W2i; omega)
theorem tp_Ci_1 (r0 r1 n : Nat) (T : Int) (h0 : pm_H) : ty_C (ty_W2i 52 1) (tp_P (tp_T n T) [(3, 63, 0), (3, 106, 0), (3, 7, 0), (3, 18, 0), (3, 41, 0), (3, 100, 0), (3, 101, 0)] r0 r1 h0) := tp_CP ((tp_CT n T).mono (W' := (ty_W2i 52 1)) (fun a k w => by unfold ty_W2i at w; unfold ty_W2; omega) (by unfold ty_W2i ty_W2; omega)) [(3, 63, 0), (3, 106, 0), (3, 7, 0), (3, 18, 0), (3, 41, 0), (3, 100, 0), (3, 101, 0)] r0 r1 h0 ⟨⟨rfl, fun k => show ¬ (ty_W2i 52 1) 63 k by unfold ty_W2i; omega⟩, ⟨rfl, fun k => show ¬ (ty_W2i 52 1) 106 k by unfold ty_W2i; omega⟩, ⟨rfl, fun k => show ¬ (ty_W2i 52 1) 7 k by unfold ty_W2i; omega⟩, ⟨rfl, fun k => show ¬ (ty_W2i 52 1) 18 k by unfold ty_W2i; omega⟩, ⟨rfl, fun k => show ¬ (ty_W2i 52 1) 41 k by unfold ty_W2i; omega⟩, ⟨rfl, fun k => show ¬ (ty_W2i 52 1) 100 k by unfold ty_W2i; omega⟩, ⟨rfl, fun k => show ¬ (ty_W2i 52 1) 101 k by unfold ty_W2i; omega⟩, trivial⟩ (fun j _ _ => by unfold ty_W2i; omega)
theorem tp_Cx_0 (r0 r1 n : Nat) (T : Int) (h0 : pm_H) : ty_C (ty_W2x 0) (tp_P (tp_T n T) [(3, 63, 0), (3, 106, 0), (3, 7, 0), (3, 18, 0), (3, 41, 0), (3, 52, 0), (3, 57, 0)] r0 r1 h0) := tp_CP ((tp_CT n T).mono (W' := (ty_W2x 0)) (fun a k w => by unfold ty_W2x at w; unfold ty_W2; omega) (by unfold ty_W2x ty_W2; omega)) [(3, 63, 0), (3, 106, 0), (3, 7, 0), (3, 18, 0), (3, 41, 0), (3, 52, 0), (3, 57, 0)] r0 r1 h0 ⟨⟨rfl, fun k => show ¬ (ty_W2x 0) 63 k by unfold ty_W2x; omega⟩, ⟨rfl, fun k => show ¬ (ty_W2x 0) 106 k by unfold ty_W2x; omega⟩, ⟨rfl, fun k => show ¬ (ty_W2x 0) 7 k by unfold ty_W2x; omega⟩, ⟨rfl, fun k => show ¬ (ty_W2x 0) 18 k by unfold ty_W2x; omega⟩, ⟨rfl, fun k => show ¬ (ty_W2x 0) 41 k by unfold ty_W2x; omega⟩, ⟨rfl, fun k => show ¬ (ty_W2x 0) 52 k by unfold ty_W2x; omega⟩, ⟨rfl, fun k => show ¬ (ty_W2x 0) 57 k by unfold ty_W2x; omega⟩, trivial⟩ (fun j _ _ => by unfold ty_W2x; omega)
theorem tp_Cx_1 (r0 r1 n : Nat) (T : Int) (h0 : pm_H) : ty_C (ty_W2x 1) (tp_P (tp_T n T) [(3, 63, 0), (3, 106, 0), (3, 7, 0), (3, 18, 0), (3, 41, 0), (3, 52, 0), (3, 57, 0)] r0 r1 h0) := tp_CP ((tp_CT n T).mono (W' := (ty_W2x 1)) (fun a k w => by unfold ty_W2x at w; unfold ty_W2; omega) (by unfold ty_W2x ty_W2; omega)) [(3, 63, 0), (3, 106, 0), (3, 7, 0), (3, 18, 0), (3, 41, 0), (3, 52, 0), (3, 57, 0)] r0 r1 h0 ⟨⟨rfl, fun k => show ¬ (ty_W2x 1) 63 k by unfold ty_W2x; omega⟩, ⟨rfl, fun k => show ¬ (ty_W2x 1) 106 k by unfold ty_W2x; omega⟩, ⟨rfl, fun k => show ¬ (ty_W2x 1) 7 k by unfold ty_W2x; omega⟩, ⟨rfl, fun k => show ¬ (ty_W2x 1) 18 k by unfold ty_W2x; omega⟩, ⟨rfl, fun k => show ¬ (ty_W2x 1) 41 k by unfold ty_W2x; omega⟩, ⟨rfl, fun k => show ¬ (ty_W2x 1) 52 k by unfold ty_W2x; omega⟩, ⟨rfl, fun k => show ¬ (ty_W2x 1) 57 k by unfold ty_W2x; omega⟩, trivial⟩ (fun j _ _ => by unfold ty_W2x; omega)
theorem tp_Cv (r0 r1 n : Nat) (T : Int) (h0 : pm_H) : ty_C ty_W2b (tp_Q (tp_T n T) [(3, 63, 0), (3, 106, 0), (3, 7, 0), (3, 18, 0), (3, 41, 0), (3, 52, 0), (3, 100, 0), (3, 57, 0), (3, 101, 0)] r0 r1 h0) := tp_CQ ((tp_CT n T).mono (W' := ty_W2b) (fun a k w => by unfold ty_W2b at w; unfold ty_W2; omega) (by unfold ty_W2b ty_W2; omega)) [(3, 63, 0), (3, 106, 0), (3, 7, 0), (3, 18, 0), (3, 41, 0), (3, 52, 0), (3, 100, 0), (3, 57, 0), (3, 101, 0)] r0 r1 h0 ⟨⟨rfl, fun k => show ¬ ty_W2b 63 k by unfold ty_W2b; omega⟩, ⟨rfl, fun k => show ¬ ty_W2b 106 k by unfold ty_W2b; omega⟩, ⟨rfl, fun k => show ¬ ty_W2b 7 k by unfold ty_W2b; omega⟩, ⟨rfl, fun k => show ¬ ty_W2b 18 k by unfold ty_W2b; omega⟩, ⟨rfl, fun k => show ¬ ty_W2b 41 k by unfold ty_W2b; omega⟩, ⟨rfl, fun k => show ¬ ty_W2b 52 k by unfold ty_W2b; omega⟩, ⟨rfl, fun k => show ¬ ty_W2b 100 k by unfold ty_W2b; omega⟩, ⟨rfl, fun k => show ¬ ty_W2b 57 k by unfold ty_W2b; omega⟩, ⟨rfl, fun k => show ¬ ty_W2b 101 k by unfold ty_W2b; omega⟩, trivial⟩
theorem fr_set {h h0 : pm_H} {c : Nat} {x : pm_C} : ∀ ks : List (Nat × Nat × Nat), (ks.all (fun q => q.2.1 != c)) = true → fr_eq h h0 ks → fr_eq (pm_hset h c x) h0 ks
  | [], _, _ => trivial
  | (t, a, k) :: r, hk, e => by
    rw [List.all_cons, Bool.and_eq_true] at hk
    obtain ⟨e1, e2⟩ := e
    have na : a ≠ c := fun q => by
      have w := hk.1
      dsimp only at w
      rw [q, bne_self_eq_false] at w
      cases w
    refine ⟨?_, fr_set r hk.2 e2⟩
    have e1 : fr_p h h0 t a k := e1
    show fr_p (pm_hset h c x) h0 t a k
    match t, e1 with
    | 0, e1 => exact (congrArg Int32.toInt (hs_fI_ne na)).trans e1
    | 1, e1 => exact (congrArg Int32.toInt (congrFun (hs_aI_ne na) k)).trans e1
    | 2, e1 => exact (congrArg Int64.toInt (hs_fL_ne na)).trans e1
    | t + 3, e1 => exact (hs_aI_ne na).trans e1
/-- between two calls -/
def tq_K (n : Nat) (h : pm_H) : Prop := ∃ T, tp_T n T h ∧ tz_R T h ∧ (rl 1 12 7 h ∨ rl 12 1 18 h)
theorem tq_1 {n : Nat} {T : Int} {h : pm_H} (j : tp_T n T h) (r : tz_R T h ∧ (rl 1 12 7 h ∨ rl 12 1 18 h)) : tq_K (n + 1) h := ⟨T, ⟨⟨tp_S j.1.1, j.1.2⟩, j.2⟩, r⟩
theorem rl_t {m p c : Nat} {h h0 : pm_H} (r : rl m p c h0) (e0 : hs_fR h 0 0 = m) (e1 : hs_fR h 0 1 = p) (a1 : hs_aI h c = hs_aI h0 c) (a2 : hs_aI h 41 = hs_aI h0 41) (a3 : hs_aI h 52 = hs_aI h0 52) (a4 : hs_aI h 100 = hs_aI h0 100) (a5 : hs_aI h 57 = hs_aI h0 57) (a6 : hs_aI h 101 = hs_aI h0 101) (sg : ∀ j, 50 ≤ j → j < 86 → hs_aI h 99 j = hs_aI h0 99 j) : rl m p c h :=
  ⟨⟨e0, e1⟩, fun j hj => by rw [a1, sg (50 + j) (by omega) (by omega)]; exact r.2.1 j hj, fun q j hj => by rw [a2, a4]; exact r.2.2.1 (by rw [← a5]; exact q) j hj, fun q j hj => by rw [a3, a4]; exact r.2.2.2.1 (by rw [← a5]; exact q) j hj, by rw [a5, a6]; exact r.2.2.2.2.1, by rw [a5, a6]; exact r.2.2.2.2.2⟩
theorem tz_t {T : Int} {h h0 : pm_H} (z : tz_R T h0) (a : hs_aI h 63 = hs_aI h0 63) (b : hs_aI h 106 = hs_aI h0 106) : tz_R T h := fun j hj => by rw [a, b]; exact z j hj
theorem rl_s {h h0 : pm_H} (r : rl 1 12 7 h0 ∨ rl 12 1 18 h0) (e0 : hs_fR h 0 0 = hs_fR h0 0 0) (e1 : hs_fR h 0 1 = hs_fR h0 0 1) (f : fr_eq h h0 [(3, 7, 0), (3, 18, 0), (3, 41, 0), (3, 52, 0), (3, 100, 0), (3, 57, 0), (3, 101, 0)]) (sg : ∀ j, 50 ≤ j → j < 86 → hs_aI h 99 j = hs_aI h0 99 j) : rl 1 12 7 h ∨ rl 12 1 18 h := by
  obtain ⟨x7, x18, x41, x52, x100, x57, x101, _⟩ := f
  have x7 : hs_aI h 7 = hs_aI h0 7 := x7
  have x18 : hs_aI h 18 = hs_aI h0 18 := x18
  have x41 : hs_aI h 41 = hs_aI h0 41 := x41
  have x52 : hs_aI h 52 = hs_aI h0 52 := x52
  have x100 : hs_aI h 100 = hs_aI h0 100 := x100
  have x57 : hs_aI h 57 = hs_aI h0 57 := x57
  have x101 : hs_aI h 101 = hs_aI h0 101 := x101
  rcases r with r | r
  · exact Or.inl (rl_t r (e0.trans r.1.1) (e1.trans r.1.2) x7 x41 x52 x100 x57 x101 sg)
  · exact Or.inr (rl_t r (e0.trans r.1.1) (e1.trans r.1.2) x18 x41 x52 x100 x57 x101 sg)
theorem tq_b {r0 r1 n : Nat} {T : Int} {h0 h : pm_H} (z : tz_R T h0) (r : rl 1 12 7 h0 ∨ rl 12 1 18 h0) (e0 : r0 = hs_fR h0 0 0) (e1 : r1 = hs_fR h0 0 1) (j : tp_P (tp_T n T) [(3, 63, 0), (3, 106, 0), (3, 7, 0), (3, 18, 0), (3, 41, 0), (3, 52, 0), (3, 100, 0), (3, 57, 0), (3, 101, 0)] r0 r1 h0 h) : tq_K (n + 1) h := tq_1 j.1.1.1 ⟨tz_t z j.1.2.1 j.1.2.2.1, rl_s r (j.1.1.2.1.trans e0) (j.1.1.2.2.trans e1) j.1.2.2.2 j.2⟩
theorem tq_n7 {n : Nat} {T : Int} {h0 h : pm_H} (z : tz_R T h0) (r : rl 1 12 7 h0) (j : tp_P (tp_T n T) [(3, 63, 0), (3, 106, 0), (3, 7, 0), (3, 41, 0), (3, 52, 0), (3, 100, 0), (3, 57, 0), (3, 101, 0)] 1 12 h0 h) : tq_K (n + 1) h := by
  obtain ⟨x63, x106, x7, x41, x52, x100, x57, x101, _⟩ := j.1.2
  have x63 : hs_aI h 63 = hs_aI h0 63 := x63
  have x106 : hs_aI h 106 = hs_aI h0 106 := x106
  have x7 : hs_aI h 7 = hs_aI h0 7 := x7
  have x41 : hs_aI h 41 = hs_aI h0 41 := x41
  have x52 : hs_aI h 52 = hs_aI h0 52 := x52
  have x100 : hs_aI h 100 = hs_aI h0 100 := x100
  have x57 : hs_aI h 57 = hs_aI h0 57 := x57
  have x101 : hs_aI h 101 = hs_aI h0 101 := x101
  exact tq_1 j.1.1.1 ⟨tz_t z x63 x106, Or.inl (rl_t r j.1.1.2.1 j.1.1.2.2 x7 x41 x52 x100 x57 x101 j.2)⟩
theorem tq_n18 {n : Nat} {T : Int} {h0 h : pm_H} (z : tz_R T h0) (r : rl 12 1 18 h0) (j : tp_P (tp_T n T) [(3, 63, 0), (3, 106, 0), (3, 18, 0), (3, 41, 0), (3, 52, 0), (3, 100, 0), (3, 57, 0), (3, 101, 0)] 12 1 h0 h) : tq_K (n + 1) h := by
  obtain ⟨x63, x106, x18, x41, x52, x100, x57, x101, _⟩ := j.1.2
  have x63 : hs_aI h 63 = hs_aI h0 63 := x63
  have x106 : hs_aI h 106 = hs_aI h0 106 := x106
  have x18 : hs_aI h 18 = hs_aI h0 18 := x18
  have x41 : hs_aI h 41 = hs_aI h0 41 := x41
  have x52 : hs_aI h 52 = hs_aI h0 52 := x52
  have x100 : hs_aI h 100 = hs_aI h0 100 := x100
  have x57 : hs_aI h 57 = hs_aI h0 57 := x57
  have x101 : hs_aI h 101 = hs_aI h0 101 := x101
  exact tq_1 j.1.1.1 ⟨tz_t z x63 x106, Or.inr (rl_t r j.1.1.2.1 j.1.1.2.2 x18 x41 x52 x100 x57 x101 j.2)⟩
theorem tp_imP0 {r0 r1 n : Nat} {T : Int} {h0 h : pm_H} {k : Nat} (j : tp_P (tp_T n T) [(3, 63, 0), (3, 106, 0), (3, 7, 0), (3, 18, 0), (3, 41, 0), (3, 52, 0), (3, 57, 0)] r0 r1 h0 h) (im : tp_T n T (im_h h k)) : tp_P (tp_T n T) [(3, 63, 0), (3, 106, 0), (3, 7, 0), (3, 18, 0), (3, 41, 0), (3, 52, 0), (3, 57, 0)] r0 r1 h0 (im_h h k) :=
  ⟨⟨⟨im, (ty_fR_ne (by decide)).trans j.1.1.2.1, (ty_fR_ne (by decide)).trans j.1.1.2.2⟩, fr_set _ (by decide) j.1.2⟩, fun i a b => (congrFun (hs_aI_ne (by decide)) i).trans (j.2 i a b)⟩
theorem tp_imP1 {r0 r1 n : Nat} {T : Int} {h0 h : pm_H} {k : Nat} (j : tp_P (tp_T n T) [(3, 63, 0), (3, 106, 0), (3, 7, 0), (3, 18, 0), (3, 41, 0), (3, 52, 0), (3, 57, 0)] r0 r1 h0 h) (im : tp_T n T (im_h h k)) : tp_P (tp_T n T) [(3, 63, 0), (3, 106, 0), (3, 7, 0), (3, 18, 0), (3, 41, 0), (3, 52, 0), (3, 57, 0)] r0 r1 h0 (im_h h k) :=
  ⟨⟨⟨im, (ty_fR_ne (by decide)).trans j.1.1.2.1, (ty_fR_ne (by decide)).trans j.1.1.2.2⟩, fr_set _ (by decide) j.1.2⟩, fun i a b => (congrFun (hs_aI_ne (by decide)) i).trans (j.2 i a b)⟩
theorem tp_bkQ {r0 r1 n : Nat} {T : Int} {h0 h : pm_H} {k : Nat} (j : tp_Q (tp_T n T) [(3, 63, 0), (3, 106, 0), (3, 7, 0), (3, 18, 0), (3, 41, 0), (3, 52, 0), (3, 100, 0), (3, 57, 0), (3, 101, 0)] r0 r1 h0 h) (im : tp_T n T (bk_h h k)) : tp_Q (tp_T n T) [(3, 63, 0), (3, 106, 0), (3, 7, 0), (3, 18, 0), (3, 41, 0), (3, 52, 0), (3, 100, 0), (3, 57, 0), (3, 101, 0)] r0 r1 h0 (bk_h h k) :=
  ⟨⟨im, (ty_fR_ne (by decide)).trans j.1.2.1, (ty_fR_ne (by decide)).trans j.1.2.2⟩, fr_set _ (by decide) j.2⟩
/-- a lane, of both -/
theorem la_eq {L R L' R' : Nat → Int32} {x1 x2 x3 y1 y2 y3 : Int32} {z z' : Int} (g1 : x1 = y1) (g2 : x2 = y2) (g3 : x3 = y3) (h : ∀ j, j < 36 → L j = R (50 + j)) (f1 : z = (if 0 ≤ x1.toInt ∧ x1.toInt ≤ 5 ∧ 0 ≤ x2.toInt ∧ x2.toInt ≤ 5 ∧ x1.toInt ≠ x2.toInt ∧ -1 ≤ x3.toInt ∧ x3.toInt ≤ 9 then (L (6 * x1.toInt + x2.toInt).toNat).toInt else -1)) (l1 : L' = (if 0 ≤ x1.toInt ∧ x1.toInt ≤ 5 ∧ 0 ≤ x2.toInt ∧ x2.toInt ≤ 5 ∧ x1.toInt ≠ x2.toInt ∧ -1 ≤ x3.toInt ∧ x3.toInt ≤ 9 then ly L x1.toInt x2.toInt x3 else L)) (f2 : z' = (if 0 ≤ y1.toInt ∧ y1.toInt ≤ 5 ∧ 0 ≤ y2.toInt ∧ y2.toInt ≤ 5 ∧ y1.toInt ≠ y2.toInt ∧ -1 ≤ y3.toInt ∧ y3.toInt ≤ 9 then (R (50 + 6 * y1.toInt + y2.toInt).toNat).toInt else -1)) (l2 : ∀ j, 50 ≤ j → j < 86 → R' j = (if 0 ≤ y1.toInt ∧ y1.toInt ≤ 5 ∧ 0 ≤ y2.toInt ∧ y2.toInt ≤ 5 ∧ y1.toInt ≠ y2.toInt ∧ -1 ≤ y3.toInt ∧ y3.toInt ≤ 9 then upd (upd R (50 + 6 * y1.toInt + y2.toInt).toNat y3) (50 + 6 * y2.toInt + y1.toInt).toNat y3 else R) j) : z = z' ∧ ∀ j, j < 36 → L' j = R' (50 + j) := by
  rw [← g1, ← g2, ← g3] at f2 l2
  by_cases q : 0 ≤ x1.toInt ∧ x1.toInt ≤ 5 ∧ 0 ≤ x2.toInt ∧ x2.toInt ≤ 5 ∧ x1.toInt ≠ x2.toInt ∧ -1 ≤ x3.toInt ∧ x3.toInt ≤ 9
  · rw [if_pos q] at f1 l1 f2
    have e1 : (50 + 6 * x1.toInt + x2.toInt).toNat = 50 + (6 * x1.toInt + x2.toInt).toNat := by omega
    have e2 : (50 + 6 * x2.toInt + x1.toInt).toNat = 50 + (6 * x2.toInt + x1.toInt).toNat := by omega
    refine ⟨?_, fun j hj => ?_⟩
    · rw [f1, f2, e1, h (6 * x1.toInt + x2.toInt).toNat (by omega)]
    · rw [l2 (50 + j) (by omega) (by omega), if_pos q, e1, e2, l1]
      exact ly_eq h (by omega) (by omega) (by omega) (by omega) j hj
  · rw [if_neg q] at f1 l1 f2
    exact ⟨f1.trans f2.symm, fun j hj => by rw [l2 (50 + j) (by omega) (by omega), if_neg q, l1]; exact h j hj⟩
theorem st_eq {L R : Nat → Int32} {x1 x2 y1 y2 : Int32} {z z' : Int} (g1 : x1 = y1) (g2 : x2 = y2) (h : ∀ j, j < 36 → L j = R (50 + j)) (f1 : z = (if 0 ≤ x1.toInt ∧ x1.toInt ≤ 5 ∧ 0 ≤ x2.toInt ∧ x2.toInt ≤ 5 then (L (6 * x1.toInt + x2.toInt).toNat).toInt else -1)) (f2 : z' = (if 0 ≤ y1.toInt ∧ y1.toInt ≤ 5 ∧ 0 ≤ y2.toInt ∧ y2.toInt ≤ 5 then (R (50 + 6 * y1.toInt + y2.toInt).toNat).toInt else -1)) : z = z' := by
  rw [← g1, ← g2] at f2
  by_cases q : 0 ≤ x1.toInt ∧ x1.toInt ≤ 5 ∧ 0 ≤ x2.toInt ∧ x2.toInt ≤ 5
  · rw [if_pos q] at f1 f2
    have e1 : (50 + 6 * x1.toInt + x2.toInt).toNat = 50 + (6 * x1.toInt + x2.toInt).toNat := by omega
    rw [f1, f2, e1, h (6 * x1.toInt + x2.toInt).toNat (by omega)]
  · rw [if_neg q] at f1 f2
    exact f1.trans f2.symm
theorem ro_eq {F G L R L' R' : Nat → Int32} {T T' : Int} (eT : T' = T) (hF : ∀ j : Nat, (j : Int) < T → F j = G j) (h : ∀ j, j < 36 → L j = R (50 + j)) (l1 : L' = (if T = 0 then L else ll F T L ((T + 2) / 3).toNat)) (l2 : R' = (if T' = 0 then R else lr G T' R ((T' + 2) / 3).toNat)) : ∀ j, j < 36 → L' j = R' (50 + j) := by
  intro j hj
  rw [eT] at l2
  by_cases q : T = 0
  · rw [if_pos q] at l1 l2
    rw [l1, l2]
    exact h j hj
  · rw [if_neg q] at l1 l2
    rw [l1, l2]
    exact ll_lr hF h _ j hj
theorem bk_eq {K K' z z' : Int} {L L' M R R' B : Nat → Int32} {o : Nat} (hK : K' = K) (hl : ∀ j, j < 36 → L j = R (50 + j)) (hm : K ≠ 0 → ∀ j, j < 36 → M j = B (o + (50 + j))) (f : (K = 0 ∧ z = -2 ∧ (∀ j, 0 ≤ j → j < 36 → L' j = L j)) ∨ (K ≠ 0 ∧ z = 0 ∧ (∀ j, 0 ≤ j → j < 36 → L' j = M j))) (g : (K' = 0 ∧ z' = -2 ∧ (∀ j, 50 ≤ j → j < 86 → R' j = R j)) ∨ (K' ≠ 0 ∧ z' = 0 ∧ (∀ j, 50 ≤ j → j < 86 → R' j = B (o + j)))) : z = z' ∧ ∀ j, j < 36 → L' j = R' (50 + j) := by
  rcases f with ⟨k1, e1, f⟩ | ⟨k1, e1, f⟩
  · rcases g with ⟨k2, e2, g⟩ | ⟨k2, e2, g⟩
    · exact ⟨e1.trans e2.symm, fun j hj => by rw [f j (Nat.zero_le _) hj, g (50 + j) (by omega) (by omega)]; exact hl j hj⟩
    · exact absurd (hK.trans k1) k2
  · rcases g with ⟨k2, e2, g⟩ | ⟨k2, e2, g⟩
    · exact absurd (hK.symm.trans k2) k1
    · exact ⟨e1.trans e2.symm, fun j hj => by rw [f j (Nat.zero_le _) hj, g (50 + j) (by omega) (by omega)]; exact hm k1 j hj⟩
end REL
