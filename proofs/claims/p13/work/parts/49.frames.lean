/-! FRAMES of several fields, elements and arrays over one call -/
section FRM
/-- 0: a field; 1: an element; else: a whole array -/
def fr_p (h' h : pm_H) : Nat → Nat → Nat → Prop
  | 0, a, k => (hs_fI h' a k).toInt = (hs_fI h a k).toInt
  | 1, a, j => (hs_aI h' a j).toInt = (hs_aI h a j).toInt
  | 2, a, k => (hs_fL h' a k).toInt = (hs_fL h a k).toInt
  | _, a, _ => hs_aI h' a = hs_aI h a
def fr_o (W : Nat → Nat → Prop) : Nat → Nat → Nat → Prop
  | 0, a, k => (a != 62 && decide (10 ≤ (hs_sh a).1)) = true ∧ ¬ W a k
  | 1, a, j => (a != 62 && (hs_sh a).1 == 0) = true ∧ ¬ W a j
  | 2, a, k => (a != 62 && decide (10 ≤ (hs_sh a).1)) = true ∧ ¬ W a k
  | _, a, _ => (a != 62) = true ∧ ∀ k, ¬ W a k
def fr_ok (W : Nat → Nat → Prop) : List (Nat × Nat × Nat) → Prop
  | [] => True
  | q :: r => fr_o W q.1 q.2.1 q.2.2 ∧ fr_ok W r
def fr_eq (h' h : pm_H) : List (Nat × Nat × Nat) → Prop
  | [] => True
  | q :: r => fr_p h' h q.1 q.2.1 q.2.2 ∧ fr_eq h' h r
theorem fr_refl (h : pm_H) : ∀ ks, fr_eq h h ks
  | [] => trivial
  | (t, a, k) :: r => ⟨by
      show fr_p h h t a k
      match t with
      | 0 => rfl
      | 1 => rfl
      | 2 => rfl
      | t + 3 => rfl, fr_refl h r⟩
/-- a long field that W doesn't allow -/
theorem ty_C.lfd {W : Nat → Nat → Prop} {J : pm_H → Prop} (H : ty_C W J) (c q : Nat) (hc : c ≠ 62) (h0 : ¬ W c q) (h1 : 10 ≤ (hs_sh c).1) (v : Int) : ty_C W (fun h => J h ∧ (hs_fL h c q).toInt = v) := by
  refine H.and2 (fun h a ci k u p w _ hh => ?_) (fun h a t n j x p w _ e1 e2 => ?_) (fun h a n j x p w _ e1 => ?_) (fun w h u v' p => ?_) (fun h t j w p q a1 => ?_)
  · by_cases e : c = a
    · subst e
      have e3 : k ≠ q := fun e4 => h0 (e4 ▸ w)
      exact (congrArg Int64.toInt (ty_fL_sF e3)).trans p
    · exact (congrArg Int64.toInt (hs_fL_ne e)).trans p
  · have e : c ≠ a := fun e => by rw [e, e1] at h1; have : 10 ≤ t := h1; omega
    exact (congrArg Int64.toInt (hs_fL_ne e)).trans p
  · have e : c ≠ a := fun e => by rw [e, e1] at h1; have : 10 ≤ 1 := h1; omega
    exact (congrArg Int64.toInt (hs_fL_ne e)).trans p
  · exact (congrArg Int64.toInt ((hs_fL_ne hc).trans (hs_fL_ne hc))).trans p
  · have e : c ≠ t + 10 := fun e => by rw [e, ty_trs10 a1] at h1; have : 10 ≤ 3 := h1; omega
    exact (congrArg Int64.toInt (hs_fL_ne e)).trans p
theorem ty_C.iff {W : Nat → Nat → Prop} {J J' : pm_H → Prop} (H : ty_C W J) (e : ∀ h, J h ↔ J' h) : ty_C W J' := by
  have k : J = J' := funext (fun h => propext (e h))
  rw [← k]
  exact H
theorem fr_62 {a : Nat} {b : Bool} (h : (a != 62 && b) = true) : a ≠ 62 ∧ b = true := by
  cases b with
  | false => rw [Bool.and_false] at h; cases h
  | true =>
    refine ⟨fun e => ?_, rfl⟩
    subst e
    cases h
theorem ty_C.frs {W : Nat → Nat → Prop} (h0 : pm_H) : ∀ (ks : List (Nat × Nat × Nat)) {J : pm_H → Prop}, ty_C W J → fr_ok W ks → ty_C W (fun h => J h ∧ fr_eq h h0 ks)
  | [], J, H, _ => H.iff (fun h => ⟨fun j => ⟨j, trivial⟩, fun j => j.1⟩)
  | (t, a, k) :: r, J, H, ho => by
    obtain ⟨o, ho⟩ := ho
    have o : fr_o W t a k := o
    have H1 : ty_C W (fun h => J h ∧ fr_p h h0 t a k) := by
      match t, o with
      | 0, o =>
        obtain ⟨q1, q2⟩ := o
        obtain ⟨q1, q3⟩ := fr_62 q1
        exact H.fld a k q1 q2 (of_decide_eq_true q3) _
      | 1, o =>
        obtain ⟨q1, q2⟩ := o
        obtain ⟨q1, q3⟩ := fr_62 q1
        exact H.elt a k q1 q2 (eq_of_beq q3) _
      | 2, o =>
        obtain ⟨q1, q2⟩ := o
        obtain ⟨q1, q3⟩ := fr_62 q1
        exact H.lfd a k q1 q2 (of_decide_eq_true q3) _
      | t + 3, o =>
        obtain ⟨q1, q2⟩ := o
        exact H.arr a (fun e => by subst e; cases q1) q2 _
    exact (ty_C.frs h0 r H1 ho).iff (fun h => ⟨fun j => ⟨j.1.1, j.1.2, j.2⟩, fun j => ⟨⟨j.1, j.2.1⟩, j.2.2⟩⟩)
theorem ty_callm {X : pm_X} {d o : Nat} {ini : Bool} {ret : Option FieldType} {code : List pm_I} {pc : Nat} {ls : pm_Ls} {h : pm_H} {Q : pm_H → Option Value → Prop} {W : Nat → Nat → Prop} {J : pm_H → Prop} {W' : Nat → Nat → Prop} {P : pm_H → Option Value → Prop} {st : List Value} {i : Instr} {len kind mid : Nat} {v : Value} {q : pm_M} (ik : Nat) (ks : List (Nat × Nat × Nat))
    (H : ty_C W J) (hJ : J h) (hf : pm_find code pc = some (i, len, kind, mid, v)) (hi : ∀ call, pm_step X call o ini ret pc ls st h i len kind mid v = pm_inv X call ik pc ls st h kind mid) (hk : (kind == 4 || kind == 5 || kind == 6) = false) (hm : pm_mtL[mid]? = some q) (hik : (bif kind == 0 || kind == 7 then ik == 0 else bif kind == 2 then ik == 2 else ik == 1) = true) (hp : hq_pre h st kind q.2.2.2.2.2.1 q.1.cls = true) (hW : ∀ a k, W' a k → W a k) (h5 : W' 99 5 → W 202 0 → W' 202 0) (ct : ty_M X W' d mid (st.take q.2.2.2.2.2.1).reverse h P) (h0 : fr_ok W' ks)
    (k : ∀ h1 v, J h1 → fr_eq h1 h ks → P h1 v → hq_W X d o ini ret code (pc + 3, ls, (match v with | some v => v :: st.drop q.2.2.2.2.2.1 | none => st.drop q.2.2.2.2.2.1), h1) Q) : hq_W X d o ini ret code (pc, ls, st, h) Q := by
  refine hq_inv ik hf hi hk hm hik hp ((ct (fun h' => (J h' ∧ h'.1 = h.1 ∧ h'.2.1 = h.2.1 ∧ ∀ a, 129 ≤ a → h'.2.2 a = h.2.2 a) ∧ fr_eq h' h ks) (ty_C.frs h ks ((H.mono hW h5).sz _ _ _) h0) ⟨⟨hJ, rfl, rfl, fun _ _ => rfl⟩, fr_refl h ks⟩).mono (Nat.le_refl _) (fun h' v p => ?_))
  obtain ⟨⟨⟨j1, e1, e2, e3⟩, e4⟩, p⟩ := p
  exact ⟨by omega, by omega, k h' v j1 e4 p⟩
/-- a stretch of an array that W doesn't allow -/
theorem ty_C.seg {W : Nat → Nat → Prop} {J : pm_H → Prop} (H : ty_C W J) (c lo hi : Nat) (hc : c ≠ 62) (h0 : ∀ j, lo ≤ j → j < hi → ¬ W c j) (h1 : (hs_sh c).1 = 0) (R : Nat → Int32) : ty_C W (fun h => J h ∧ ∀ j, lo ≤ j → j < hi → hs_aI h c j = R j) := by
  refine H.and2 (fun h a ci k u p w _ hh => ?_) (fun h a t n j x p w _ e1 e2 => ?_) (fun h a n j x p w _ e1 => ?_) (fun w h u v' p => ?_) (fun h t j w p q2 a1 => ?_)
  · have e : c ≠ a := fun e => by rw [← e, h1] at hh; omega
    exact fun i i0 i1 => (ty_aI_ne e).trans (p i i0 i1)
  · intro i i0 i1
    by_cases e : c = a
    · subst e
      have e3 : i ≠ j := fun e4 => h0 i i0 i1 (e4 ▸ w)
      exact (ty_aI_sA e3).trans (p i i0 i1)
    · exact (ty_aI_ne e).trans (p i i0 i1)
  · have e : c ≠ a := fun e => by rw [e, e1] at h1; cases h1
    exact fun i i0 i1 => (ty_aI_ne e).trans (p i i0 i1)
  · exact fun i i0 i1 => ((ty_aI_ne hc).trans (ty_aI_ne hc)).trans (p i i0 i1)
  · have e : c ≠ t + 10 := fun e => by rw [e, ty_trs10 a1] at h1; cases h1
    exact fun i i0 i1 => (ty_aI_ne e).trans (p i i0 i1)
end FRM
