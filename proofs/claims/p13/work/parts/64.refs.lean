/-! REFERENCES of the class change places; a new text comes -/
section REF
def ty_T (J : pm_H → Prop) : Prop := ∀ (h : pm_H) (b t f : Nat), J h → (hs_sh 0).2.2[b]? = some (f, 0) → ((f = 4 ∧ (t = 1 ∨ t = 12)) ∨ (f = 5 ∧ (t = 58 ∨ t = 60))) → J (hs_sF h 0 10 b (.ref t))
theorem ty_pR {X : pm_X} {d o : Nat} {ini : Bool} {ret : Option FieldType} {code : List pm_I} {pc : Nat} {ls : pm_Ls} {h : pm_H} {Q : pm_H → Option Value → Prop} {r : List Value} {J : pm_H → Prop} {ix len b t f : Nat} {v : Value}
    (hT : ty_T J) (I : ty_I h) (hJ : J h) (hf : pm_find code pc = some (.putfield ix, len, 10, b, v)) (hb : (decide (b < pm_cn 10) && decide (b < 16) && pm_fit (pm_ty 10 b) (.ref t) && (!pm_fin 10 b || (ini && decide (pm_cnm 10 = pm_own o)))) = true) (ht : (hs_sh 0).2.2[b]? = some (f, 0)) (hq : (f = 4 ∧ (t = 1 ∨ t = 12)) ∨ (f = 5 ∧ (t = 58 ∨ t = 60))) (k : ∀ h1, h1 = hs_sF h 0 10 b (.ref t) → J h1 → hq_W X d o ini ret code (pc + 3, ls, r, h1) Q) : hq_W X d o ini ret code (pc, ls, .ref t :: .ref 0 :: r, h) Q := by
  refine hq_pF I.1 hf (x := 0) (ci := 10) (fs := (hs_sh 0).2.2) rfl (by decide) hb ht ?_ (fun _ => k _ rfl (hT h b t f hJ ht hq))
  rcases hq with ⟨rfl, q⟩ | ⟨rfl, q⟩
  · show Value.ref t = .ref 1 ∨ Value.ref t = .ref 12
    rcases q with rfl | rfl
    · exact Or.inl rfl
    · exact Or.inr rfl
  · show Value.ref t = .ref 58 ∨ Value.ref t = .ref 60
    rcases q with rfl | rfl
    · exact Or.inl rfl
    · exact Or.inr rfl
theorem ty_C.w0 {W : Nat → Nat → Prop} {J J' : pm_H → Prop} (H : ty_C W J) (k : ∀ h, J' h → J h) : ty_C ty_W0 J' :=
  ⟨fun h j => H.1 h (k h j), fun _ _ _ _ _ _ _ _ w => w.elim, fun _ _ _ _ _ _ _ w => w.elim, fun _ _ _ _ _ _ _ w => w.elim, fun _ _ _ _ _ _ w => w.elim, fun w => w.elim, fun w => w.elim, fun w => w.elim, fun _ _ _ _ _ w => w.elim⟩
/-- law(): from `new` to the store, at 83 -/
theorem al_law {X : pm_X} {d : Nat} {h : pm_H} {Q : pm_H → Option Value → Prop} (hd : 4 ≤ d) (I : ty_I h) {ls1 : Option Value} {j : Int32} {t : Nat} (K : ∀ h', h'.1 = h.1 + 8 → h.2.1 ≤ h'.2.1 → h'.2.1 ≤ h.2.1 + 870 → (∀ b, b < h.1 → h'.2.2 b = h.2.2 b) → ty_I h' → ty_tx h' h.1 → hq_W X d 10 false (some .int) pm_c95 (83, [some (.ref 0), ls1], [va_rf (some h.1), .int j, .ref (t + 10)], h') Q) : hq_W X d 10 false (some .int) pm_c95 (69, [some (.ref 0), ls1], [.int j, .ref (t + 10)], h) Q := by
  obtain ⟨h1, e1⟩ : ∃ q, q = pm_hpush h 10 (.inr (7, pm_newN 7)) := ⟨_, rfl⟩
  refine hq_W.step 0 rfl (s' := (72, [some (.ref 0), ls1], [.ref h.1, .int j, .ref (t + 10)], h1)) (by rw [e1]; rfl) (by rw [e1]; exact Nat.le_succ _) (by rw [e1]; exact Nat.le_add_right _ _) ?_
  have I1 : ty_I h1 := by rw [e1]; exact al_P I
  refine hq_p rfl rfl ?_
  refine hq_p rfl rfl ?_
  refine hq_gR I1.1 rfl rfl (by decide) (by decide) rfl ?_
  refine hq_gR I1.1 rfl rfl (by decide) (by decide) rfl ?_
  have hp : hq_pre h1 [.ref 64, .ref h.1, .ref h.1, .int j, .ref (t + 10)] 2 2 "TrainBearers$Text" = true := by
    unfold hq_pre
    have o : pm_obj h1 (.ref h.1) = some (h.1, 7, pm_newN 7) := by
      unfold pm_obj
      dsimp only
      rw [e1, decide_eq_true (show h.1 < (pm_hpush h 10 (.inr (7, pm_newN 7))).1 from Nat.lt_succ_self _), al_n]
      rfl
    show (_ && (match pm_obj h1 (.ref h.1) with
      | some x => decide (pm_cnm x.2.1 = "TrainBearers$Text")
      | none => false)) = true
    rw [o]
    rfl
  refine hq_inv 2 rfl (fun _ => rfl) rfl rfl rfl hp ?_
  have c := cy_61 (X := X) (d := d) (by omega) I (x := h.1) rfl
  rw [← e1] at c
  refine c.mono (Nat.le_refl _) (fun h' v q => ?_)
  obtain ⟨rfl, q1, q2, q3, q4, q5⟩ := q
  have I' : ty_I h' := al_I I (by omega) q4
  have e2 : h1.2.1 = h.2.1 + 10 := by rw [e1]; rfl
  have e3 : h1.1 = h.1 + 1 := by rw [e1]; rfl
  exact ⟨by omega, by omega, K h' q1 (by omega) q3 q4 I' q5⟩
/-- a call that leaves the first cells as they are -/
theorem ty_calll {X : pm_X} {d o : Nat} {ini : Bool} {ret : Option FieldType} {code : List pm_I} {pc : Nat} {ls : pm_Ls} {h : pm_H} {Q : pm_H → Option Value → Prop} {W : Nat → Nat → Prop} {J : pm_H → Prop} {W' : Nat → Nat → Prop} {P : pm_H → Option Value → Prop} {st : List Value} {i : Instr} {len kind mid : Nat} {v : Value} {q : pm_M} (ik : Nat)
    (H : ty_C W J) (hJ : J h) (hf : pm_find code pc = some (i, len, kind, mid, v)) (hi : ∀ call, pm_step X call o ini ret pc ls st h i len kind mid v = pm_inv X call ik pc ls st h kind mid) (hk : (kind == 4 || kind == 5 || kind == 6) = false) (hm : pm_mtL[mid]? = some q) (hik : (bif kind == 0 || kind == 7 then ik == 0 else bif kind == 2 then ik == 2 else ik == 1) = true) (hp : hq_pre h st kind q.2.2.2.2.2.1 q.1.cls = true) (hW : ∀ a k, W' a k → W a k) (h5 : W' 99 5 → W 202 0 → W' 202 0) (ct : ty_M X W' d mid (st.take q.2.2.2.2.2.1).reverse h P) (h0 : ∀ a k, W' a k → 58 ≤ a)
    (k : ∀ h1 v, J h1 → (∀ a, a < 58 → h1.2.2 a = h.2.2 a) → P h1 v → hq_W X d o ini ret code (pc + 3, ls, (match v with | some v => v :: st.drop q.2.2.2.2.2.1 | none => st.drop q.2.2.2.2.2.1), h1) Q) : hq_W X d o ini ret code (pc, ls, st, h) Q := by
  refine hq_inv ik hf hi hk hm hik hp ((ct (fun h' => (J h' ∧ h'.1 = h.1 ∧ h'.2.1 = h.2.1 ∧ ∀ a, 129 ≤ a → h'.2.2 a = h.2.2 a) ∧ ∀ a, a < 58 → h'.2.2 a = h.2.2 a) (((H.mono hW h5).sz _ _ _).and2 (fun h a ci k u p w _ _ b hb => (hs_oth (by have := h0 a k w; omega)).trans (p b hb)) (fun h a t n j x p w _ _ _ b hb => (hs_oth (by have := h0 a j w; omega)).trans (p b hb)) (fun h a n j x p w _ _ b hb => (hs_oth (by have := h0 a j w; omega)).trans (p b hb)) (fun w h u v' p b hb => ((hs_oth (by omega)).trans (hs_oth (by omega))).trans (p b hb)) (fun h t j w p w2 a1 b hb => (hs_oth (by have := h0 _ _ w2; omega)).trans (p b hb))) ⟨⟨hJ, rfl, rfl, fun _ _ => rfl⟩, fun _ _ => rfl⟩).mono (Nat.le_refl _) (fun h' v p => ?_))
  obtain ⟨⟨⟨j1, e1, e2, e3⟩, e4⟩, p⟩ := p
  exact ⟨by omega, by omega, k h' v j1 e4 p⟩
end REF
