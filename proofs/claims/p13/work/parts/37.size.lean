/-! THE READER'S SIZE over calls; further sets of cells -/
section SIZ
theorem ty_C.siz {W : Nat → Nat → Prop} {J : pm_H → Prop} (H : ty_C W J) (h0 : ¬ W 62 1) (v : Int) : ty_C W (fun h => J h ∧ (hs_fI h 62 1).toInt = v) := by
  refine H.and2 (fun h a ci k u p w _ hh => ?_) (fun h a t n j x p w _ e1 e2 => ?_) (fun h a n j x p w _ e1 => ?_) (fun w h u v' p => ?_) (fun h t j w p q a1 => ?_)
  · by_cases e : 62 = a
    · subst e
      have e3 : k ≠ 1 := fun e4 => h0 (e4 ▸ w)
      exact (congrArg Int32.toInt (ty_fI_sF e3)).trans p
    · exact (congrArg Int32.toInt (hs_fI_ne e)).trans p
  · have e : 62 ≠ a := fun e => by rw [← e, tk_s62] at e1; have : 10 + 3 = t := congrArg (fun q : Nat × Nat × List (Nat × Nat) => q.1) e1; omega
    exact (congrArg Int32.toInt (hs_fI_ne e)).trans p
  · have e : 62 ≠ a := fun e => by rw [← e, tk_s62] at e1; have : 10 + 3 = 1 := congrArg (fun q : Nat × Nat × List (Nat × Nat) => q.1) e1; omega
    exact (congrArg Int32.toInt (hs_fI_ne e)).trans p
  · unfold ty_ad
    exact (congrArg Int32.toInt ((ty_fI_sF (by decide)).trans (ty_fI_sF (by decide)))).trans p
  · have := ty_trl a1
    exact (congrArg Int32.toInt (hs_fI_ne (by omega))).trans p
theorem ty_callz {X : pm_X} {d o : Nat} {ini : Bool} {ret : Option FieldType} {code : List pm_I} {pc : Nat} {ls : pm_Ls} {h : pm_H} {Q : pm_H → Option Value → Prop} {W : Nat → Nat → Prop} {J : pm_H → Prop} {W' : Nat → Nat → Prop} {P : pm_H → Option Value → Prop} {st : List Value} {i : Instr} {len kind mid : Nat} {v : Value} {q : pm_M} (ik : Nat)
    (H : ty_C W J) (hJ : J h) (hf : pm_find code pc = some (i, len, kind, mid, v)) (hi : ∀ call, pm_step X call o ini ret pc ls st h i len kind mid v = pm_inv X call ik pc ls st h kind mid) (hk : (kind == 4 || kind == 5 || kind == 6) = false) (hm : pm_mtL[mid]? = some q) (hik : (bif kind == 0 || kind == 7 then ik == 0 else bif kind == 2 then ik == 2 else ik == 1) = true) (hp : hq_pre h st kind q.2.2.2.2.2.1 q.1.cls = true) (hW : ∀ a k, W' a k → W a k) (h5 : W' 99 5 → W 202 0 → W' 202 0) (ct : ty_M X W' d mid (st.take q.2.2.2.2.2.1).reverse h P) (h0 : ¬ W' 62 1)
    (k : ∀ h1 v, J h1 → (hs_fI h1 62 1).toInt = (hs_fI h 62 1).toInt → P h1 v → hq_W X d o ini ret code (pc + 3, ls, (match v with | some v => v :: st.drop q.2.2.2.2.2.1 | none => st.drop q.2.2.2.2.2.1), h1) Q) : hq_W X d o ini ret code (pc, ls, st, h) Q := by
  refine hq_inv ik hf hi hk hm hik hp ((ct (fun h' => (J h' ∧ h'.1 = h.1 ∧ h'.2.1 = h.2.1 ∧ ∀ a, 129 ≤ a → h'.2.2 a = h.2.2 a) ∧ (hs_fI h' 62 1).toInt = (hs_fI h 62 1).toInt) (((H.mono hW h5).sz _ _ _).siz h0 _) ⟨⟨hJ, rfl, rfl, fun _ _ => rfl⟩, rfl⟩).mono (Nat.le_refl _) (fun h' v p => ?_))
  obtain ⟨⟨⟨j1, e1, e2, e3⟩, e4⟩, p⟩ := p
  exact ⟨by omega, by omega, k h' v j1 e4 p⟩
/-- rows: of the class, with its size; lanes of the model; its row -/
def ty_Wc1 (a k : Nat) : Prop := a < 97 ∧ a ≠ 63 ∧ ¬ (a = 0 ∧ k = 15)
def ty_Wl (a k : Nat) : Prop := a = 99 ∧ 50 ≤ k ∧ k < 86
def ty_Wrow (a k : Nat) : Prop := (a = 97 ∧ (k = 0 ∨ k = 1 ∨ k = 11 ∨ k = 13)) ∨ a = 98 ∨ (a = 99 ∧ 50 ≤ k ∧ k < 86)
/-- the model's token -/
def ty_Wn (a k : Nat) : Prop := a = 97 ∧ (k = 14 ∨ k = 15 ∨ k = 16 ∨ k = 17)
end SIZ
