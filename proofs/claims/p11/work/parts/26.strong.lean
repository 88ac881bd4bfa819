/-! STRONGER PREDICATES: what a method leaves as it is -/
section STG
/-- J with more, that no write which W allows touches -/
theorem ty_C.and2 {W : Nat → Nat → Prop} {J P : pm_H → Prop} (H : ty_C W J) (hF : ∀ h a ci k v, P h → W a k → a < 129 → P (hs_sF h a ci k v)) (hA : ∀ h a t n j x, P h → W a j → a < 129 → hs_sh a = (t, n, []) → t < 3 → P (hs_sA h a t n j x)) (hL : ∀ h a n j x, P h → W a j → a < 129 → hs_sh a = (1, n, []) → P (hs_sL h a n j x)) (hD : W 201 0 → ∀ h u v, P h → P (ty_ad h u v)) (hR : ∀ h t j w, P h → W (t + 10) j → ty_tr t → P (hs_sR h (t + 10) j w)) : ty_C W (fun h => J h ∧ P h) :=
  ⟨fun h j => H.1 h j.1, fun h a ci k u fs t j w a1 a2 a3 a4 a5 a6 => ⟨H.2.1 h a ci k u fs t j.1 w a1 a2 a3 a4 a5 a6, hF h a ci k _ j.2 w a1⟩, fun h a ci k u fs j w a1 a2 a3 a4 a5 => ⟨H.2.2.1 h a ci k u fs j.1 w a1 a2 a3 a4 a5, hF h a ci k _ j.2 w a1⟩, fun h a n i t x j w a1 a2 a3 a4 a5 a6 a7 => ⟨H.2.2.2.1 h a n i t x j.1 w a1 a2 a3 a4 a5 a6 a7, hA h a t n i x j.2 w a1 a2 (by omega)⟩, fun h a n i x j w a1 a2 a3 => ⟨H.2.2.2.2.1 h a n i x j.1 w a1 a2 a3, hL h a n i x j.2 w a1 a2⟩, fun w h j => H.2.2.2.2.2.1 w h j.1, fun w h j => H.2.2.2.2.2.2.1 w h j.1, fun w => ⟨fun h j => (H.2.2.2.2.2.2.2.1 w).1 h j.1, fun h u v j a1 a2 a3 a4 => ⟨(H.2.2.2.2.2.2.2.1 w).2 h u v j.1 a1 a2 a3 a4, hD w h u v j.2⟩⟩, fun h t j q p w a1 a2 a3 => ⟨H.2.2.2.2.2.2.2.2 h t j q p.1 w a1 a2 a3, hR h t j q p.2 w a1⟩⟩
/-- an int field that W doesn't allow -/
theorem ty_C.fld {W : Nat → Nat → Prop} {J : pm_H → Prop} (H : ty_C W J) (c q : Nat) (hc : c ≠ 62) (h0 : ¬ W c q) (h1 : 10 ≤ (hs_sh c).1) (v : Int) : ty_C W (fun h => J h ∧ (hs_fI h c q).toInt = v) := by
  refine H.and2 (fun h a ci k u p w _ => ?_) (fun h a t n j x p w _ e1 e2 => ?_) (fun h a n j x p w _ e1 => ?_) (fun w h u v' p => ?_) (fun h t j w p q a1 => ?_)
  · by_cases e : c = a
    · subst e
      have e3 : k ≠ q := fun e4 => h0 (e4 ▸ w)
      exact (congrArg Int32.toInt (ty_fI_sF e3)).trans p
    · exact (congrArg Int32.toInt (hs_fI_ne e)).trans p
  · have e : c ≠ a := fun e => by rw [e, e1] at h1; have : 10 ≤ t := h1; omega
    exact (congrArg Int32.toInt (hs_fI_ne e)).trans p
  · have e : c ≠ a := fun e => by rw [e, e1] at h1; have : 10 ≤ 1 := h1; omega
    exact (congrArg Int32.toInt (hs_fI_ne e)).trans p
  · exact (congrArg Int32.toInt ((hs_fI_ne hc).trans (hs_fI_ne hc))).trans p
  · have e : c ≠ t + 10 := fun e => by rw [e, ty_trs10 a1] at h1; have : 10 ≤ 3 := h1; omega
    exact (congrArg Int32.toInt (hs_fI_ne e)).trans p
/-- a whole int array that W doesn't allow -/
theorem ty_C.arr {W : Nat → Nat → Prop} {J : pm_H → Prop} (H : ty_C W J) (c : Nat) (hc : c ≠ 62) (h0 : ∀ k, ¬ W c k) (R : Nat → Int32) : ty_C W (fun h => J h ∧ hs_aI h c = R) := by
  have q : ∀ a k, W a k → c ≠ a := fun a k w e => h0 k (e ▸ w)
  exact H.and2 (fun h a ci k u p w _ => (hs_aI_ne (q a k w)).trans p) (fun h a t n j x p w _ _ _ => (hs_aI_ne (q a j w)).trans p) (fun h a n j x p w _ _ => (hs_aI_ne (q a j w)).trans p) (fun w h u v' p => ((hs_aI_ne hc).trans (hs_aI_ne hc)).trans p) (fun h t j w p w2 a1 => (hs_aI_ne (q _ _ w2)).trans p)
/-- what the sums of the model write -/
def ty_Ws (a k : Nat) : Prop := a = 200 ∨ (a = 97 ∧ (k = 38 ∨ k = 39)) ∨ a = 117
def ty_Wv (a k : Nat) : Prop := a = 200 ∨ (a = 97 ∧ (k = 38 ∨ k = 39 ∨ k = 40)) ∨ a = 117
def ty_Wb (a k : Nat) : Prop := a = 97 ∧ k = 38
theorem ty_C.law {W : Nat → Nat → Prop} {J : pm_H → Prop} (H : ty_C W J) (h0 : ¬ W 97 34) (h1 : ∀ k, ¬ W 99 k) (b : Int) (R : Nat → Int32) : ty_C W (fun h => (J h ∧ (hs_fI h 97 34).toInt = b) ∧ hs_aI h 99 = R) :=
  (H.fld 97 34 (by decide) h0 (by decide) b).arr 99 (by decide) h1 R
end STG
