/-! THE TYPED HEAPS THEMSELVES are closed under every write but those of laws and images -/
section BAS
/-- all but laws' code and images -/
def ty_W1 (a k : Nat) : Prop := a < 129 ∧ (a = 99 → k < 98) ∧ a ≠ 100 ∧ a ≠ 34
theorem tb_l0 (a k : Nat) : (ty_l a k).1 ≤ 0 ∧ 0 ≤ (ty_l a k).2 := by
  unfold ty_l
  cases (a == 97 && k == 55) <;> decide
theorem tb_f0 : ∀ a, a < 129 → ∀ k, k < 60 → (hs_sh a).2.2[k]? = some (2, 0) → (ty_f a k).1 ≤ 0 ∧ 0 ≤ (ty_f a k).2 := by decide +kernel
theorem tb_fl : ∀ a, a < 129 → (hs_sh a).2.2.length ≤ 60 := by decide +kernel
theorem tb_len {a : Nat} (ha : a < 129) {ci : Nat} {fs : List (Nat × Nat)} (hs : hs_sh a = (10 + ci, 0, fs)) {k : Nat} {f : Nat × Nat} (hk : fs[k]? = some f) : k < 60 := by
  have q := tb_fl a ha
  rw [hs] at q
  have := (List.getElem?_eq_some_iff.mp hk).1
  exact Nat.lt_of_lt_of_le this q
/-- what ty_X says needs these cells alone -/
theorem tb_X {h h' : pm_H} (X : ty_X h) (e1 : h'.1 = h.1) (e : ∀ b, 129 ≤ b → h'.2.2 b = h.2.2 b) (er : ∀ t, ty_tr t → hs_aR h' (t + 10) = hs_aR h (t + 10)) (e34 : hs_aR h' 34 = hs_aR h 34) (e99 : ∀ j, 98 ≤ j → hs_aI h' 99 j = hs_aI h 99 j) (e100 : hs_aI h' 100 = hs_aI h 100) : ty_X h' := by
  obtain ⟨x1, x2, x3, x4⟩ := X
  refine ⟨fun t ht j hj x q => ty_tx_k e1 e (x1 t ht j hj x (by rw [← er t ht]; exact q)), by rw [e34]; exact x2, fun l hl => ?_, by rw [e100]; exact x4⟩
  have q := x3 l hl
  have k : ∀ j, hs_aI h' 99 (98 + j) = hs_aI h 99 (98 + j) := fun j => e99 _ (by omega)
  unfold ty_lw ty_rw ty_cw at q ⊢
  have k2 : ∀ m : Nat, hs_aI h' 99 (98 + 900 * l + m) = hs_aI h 99 (98 + 900 * l + m) := fun m => e99 _ (by omega)
  have k3 : ∀ m n : Nat, hs_aI h' 99 (98 + 900 * l + m + n) = hs_aI h 99 (98 + 900 * l + m + n) := fun m n => e99 _ (by omega)
  have k4 : ∀ m n p : Nat, hs_aI h' 99 (98 + 900 * l + m + n + p) = hs_aI h 99 (98 + 900 * l + m + n + p) := fun m n p => e99 _ (by omega)
  simp only [k2, k3, k4]
  exact q
theorem tb_aR_ne {h : pm_H} {a b : Nat} {c : pm_C} (hb : b ≠ a) : hs_aR (pm_hset h a c) b = hs_aR h b := by
  unfold hs_aR
  rw [hs_oth hb]
theorem tb_obj {a ci : Nat} {fs : List (Nat × Nat)} (hs : hs_sh a = (10 + ci, 0, fs)) : 10 ≤ (hs_sh a).1 := by
  rw [hs]
  show 10 ≤ 10 + ci
  omega
theorem tb_fld {h : pm_H} (I : ty_I h) {a ci k : Nat} {v : Value} {fs : List (Nat × Nat)} {f : Nat × Nat} (ha : a < 129) (hs : hs_sh a = (10 + ci, 0, fs)) (hf : fs[k]? = some f) (hv : hs_fd f v)
    (hI : ∀ u, (match v with | .int x => x | _ => 0) = u → (ty_f a k).1 ≤ u.toInt ∧ u.toInt ≤ (ty_f a k).2) (hL : ∀ u, (match v with | .long x => x | _ => 0) = u → (ty_l a k).1 ≤ u.toInt ∧ u.toInt ≤ (ty_l a k).2) : ty_I (hs_sF h a ci k v) := by
  obtain ⟨S, F, L, A, X⟩ := I
  have ob := tb_obj hs
  have hk : k < fs.length := (List.getElem?_eq_some_iff.mp hf).1
  refine ⟨hs_sF_S S hs ha hf hv, fun b j hb => ?_, fun b j hb => ?_, fun b j hb hj => ?_, ?_⟩
  · by_cases e : b = a
    · subst e
      by_cases e2 : k = j
      · subst e2
        refine hI _ ?_
        unfold hs_fI
        rw [hs_fV_sF S hs ha hk]
        cases v <;> rfl
      · rw [ty_fI_sF e2]
        exact F b j hb
    · have q : hs_fI (hs_sF h a ci k v) b j = hs_fI h b j := hs_fI_ne e
      rw [q]
      exact F b j hb
  · by_cases e : b = a
    · subst e
      by_cases e2 : k = j
      · subst e2
        refine hL _ ?_
        unfold hs_fL
        rw [hs_fV_sF S hs ha hk]
        cases v <;> rfl
      · rw [ty_fL_sF e2]
        exact L b j hb
    · have q : hs_fL (hs_sF h a ci k v) b j = hs_fL h b j := hs_fL_ne e
      rw [q]
      exact L b j hb
  · have e : b ≠ a := fun e => by rw [e, hs] at hj; exact absurd hj (Nat.not_lt_zero _)
    have q : hs_aI (hs_sF h a ci k v) b = hs_aI h b := hs_aI_ne e
    rw [q]
    exact A b j hb hj
  · have n1 : ∀ b, (hs_sh b).1 < 10 → b ≠ a := fun b q e => by rw [e] at q; omega
    exact tb_X X rfl (fun b hb => hs_oth (by omega)) (fun t ht => tb_aR_ne (n1 _ (by rw [ty_trs10 ht]; show 3 < 10; omega))) (tb_aR_ne (n1 34 (by decide))) (fun j _ => ty_aI_ne (n1 99 (by decide))) (hs_aI_ne (n1 100 (by decide)))
theorem tb_arr {h : pm_H} (I : ty_I h) {a n j t : Nat} {x : Int32} (ha : a < 129) (hs : hs_sh a = (t, n, [])) (ht : t = 0 ∨ t = 2) (h99 : a = 99 → j < 98) (h100 : a ≠ 100) (h0 : (ty_a a j).1 ≤ x.toInt) (h1 : x.toInt ≤ (ty_a a j).2) : ty_I (hs_sA h a t n j x) := by
  obtain ⟨S, F, L, A, X⟩ := I
  have na : ∀ b k, b = a → hs_fI (hs_sA h a t n j x) b k = 0 ∧ hs_fL (hs_sA h a t n j x) b k = 0 ∧ hs_fI h b k = 0 ∧ hs_fL h b k = 0 := by
    intro b k e
    subst e
    have c1 : (hs_sA h b t n j x).2.2 b = .inl (t, n, .inl (upd (hs_aI h b) j x)) := hs_same
    have o := S.2 b ha
    rw [hs] at o
    have v1 : hs_vs (hs_sA h b t n j x) b = [] := by unfold hs_vs; rw [c1]
    have v2 : hs_vs h b = [] := by
      unfold hs_vs
      cases hc : h.2.2 b with
      | inl _ => rfl
      | inr y =>
        rw [hc] at o
        have := o.1
        omega
    unfold hs_fI hs_fL hs_fV
    rw [v1, v2]
    exact ⟨rfl, rfl, rfl, rfl⟩
  refine ⟨hs_sA_S S hs ht, fun b k hb => ?_, fun b k hb => ?_, fun b i hb hi => ?_, ?_⟩
  · by_cases e : b = a
    · have q := na b k e
      have f := F b k hb
      rw [q.2.2.1] at f
      rw [q.1]
      exact f
    · have q : hs_fI (hs_sA h a t n j x) b k = hs_fI h b k := hs_fI_ne e
      rw [q]
      exact F b k hb
  · by_cases e : b = a
    · have q := na b k e
      have f := L b k hb
      rw [q.2.2.2] at f
      rw [q.2.1]
      exact f
    · have q : hs_fL (hs_sA h a t n j x) b k = hs_fL h b k := hs_fL_ne e
      rw [q]
      exact L b k hb
  · by_cases e : b = a
    · subst e
      by_cases e2 : i = j
      · subst e2
        rw [ty_aI_eq rfl]
        exact ⟨h0, h1⟩
      · rw [ty_aI_sA e2]
        exact A b i hb hi
    · have q : hs_aI (hs_sA h a t n j x) b = hs_aI h b := hs_aI_ne e
      rw [q]
      exact A b i hb hi
  · have n1 : ∀ b, (hs_sh b).1 ≠ t → b ≠ a := fun b q e => by rw [e, hs] at q; exact q rfl
    refine tb_X X rfl (fun b hb => hs_oth (by omega)) (fun t' ht' => tb_aR_ne (n1 _ (by rw [ty_trs10 ht']; show 3 ≠ t; omega))) (tb_aR_ne (n1 34 (by show 4 ≠ t; omega))) (fun i hi => ?_) (hs_aI_ne (Ne.symm h100))
    by_cases e : (99 : Nat) = a
    · subst e
      have := h99 rfl
      exact ty_aI_sA (by omega)
    · exact ty_aI_ne e
theorem tb_larr {h : pm_H} (I : ty_I h) {a n j : Nat} {x : Int64} (ha : a < 129) (hs : hs_sh a = (1, n, [])) : ty_I (hs_sL h a n j x) := by
  obtain ⟨S, F, L, A, X⟩ := I
  have c1 : (hs_sL h a n j x).2.2 a = .inl (1, n, .inr (.inl (vp_updL (hs_aL h a) j x))) := hs_same
  have o := S.2 a ha
  rw [hs] at o
  have v1 : hs_vs (hs_sL h a n j x) a = [] := by unfold hs_vs; rw [c1]
  have v2 : hs_vs h a = [] := by
    unfold hs_vs
    cases hc : h.2.2 a with
    | inl _ => rfl
    | inr y =>
      rw [hc] at o
      have := o.1
      omega
  have i1 : hs_aI (hs_sL h a n j x) a = fun _ => 0 := by unfold hs_aI; rw [c1]
  have i2 : hs_aI h a = fun _ => 0 := by
    unfold hs_aI
    cases hc : h.2.2 a with
    | inr _ => rfl
    | inl y =>
      rw [hc] at o
      obtain ⟨t', n', A'⟩ := y
      have o1 : t' = 1 := o.1
      subst o1
      obtain ⟨f, hf⟩ := o.2.2
      have hf : A' = .inr (.inl f) := hf
      rw [hf]
  refine ⟨hs_sL_S S hs, fun b k hb => ?_, fun b k hb => ?_, fun b i hb hi => ?_, ?_⟩
  · have q : hs_fI (hs_sL h a n j x) b k = hs_fI h b k := by
      by_cases e : b = a
      · subst e; unfold hs_fI hs_fV; rw [v1, v2]
      · exact hs_fI_ne e
    rw [q]
    exact F b k hb
  · have q : hs_fL (hs_sL h a n j x) b k = hs_fL h b k := by
      by_cases e : b = a
      · subst e; unfold hs_fL hs_fV; rw [v1, v2]
      · exact hs_fL_ne e
    rw [q]
    exact L b k hb
  · have q : hs_aI (hs_sL h a n j x) b = hs_aI h b := by
      by_cases e : b = a
      · subst e; rw [i1, i2]
      · exact hs_aI_ne e
    rw [q]
    exact A b i hb hi
  · have n1 : ∀ b, (hs_sh b).1 ≠ 1 → b ≠ a := fun b q e => by rw [e, hs] at q; exact q rfl
    exact tb_X X rfl (fun b hb => hs_oth (by omega)) (fun t' ht' => tb_aR_ne (n1 _ (by rw [ty_trs10 ht']; show 3 ≠ 1; omega))) (tb_aR_ne (n1 34 (by decide))) (fun i _ => ty_aI_ne (n1 99 (by decide))) (hs_aI_ne (n1 100 (by decide)))
theorem tb_ref {h : pm_H} (I : ty_I h) {t j : Nat} {w : Option Nat} (ht : ty_tr t) (hw : ∀ x, w = some x → ty_tx h x) : ty_I (hs_sR h (t + 10) j w) := by
  obtain ⟨S, F, L, A, X⟩ := I
  have tl := ty_trl ht
  have hs := ty_trs10 ht
  have c1 : (hs_sR h (t + 10) j w).2.2 (t + 10) = .inl (3, 6, .inr (.inr (.inr (.inr (va_up (hs_aR h (t + 10)) j w))))) := hs_same
  have o := S.2 (t + 10) (by omega)
  rw [hs] at o
  have v1 : hs_vs (hs_sR h (t + 10) j w) (t + 10) = [] := by unfold hs_vs; rw [c1]
  have v2 : hs_vs h (t + 10) = [] := by
    unfold hs_vs
    cases hc : h.2.2 (t + 10) with
    | inl _ => rfl
    | inr y =>
      rw [hc] at o
      have := o.1
      omega
  have i1 : hs_aI (hs_sR h (t + 10) j w) (t + 10) = fun _ => 0 := by unfold hs_aI; rw [c1]
  have i2 : hs_aI h (t + 10) = fun _ => 0 := by
    unfold hs_aI
    cases hc : h.2.2 (t + 10) with
    | inr _ => rfl
    | inl y =>
      rw [hc] at o
      obtain ⟨t', n', A'⟩ := y
      have o1 : t' = 3 := o.1
      subst o1
      obtain ⟨f, hf⟩ := o.2.2
      have hf : A' = .inr (.inr (.inr (.inr f))) := hf
      rw [hf]
  have keep : ∀ x, ty_tx h x → ty_tx (hs_sR h (t + 10) j w) x := fun x q => ty_tx_k (h := h) rfl (fun b hb => hs_oth (by omega)) q
  refine ⟨?_, fun b k hb => ?_, fun b k hb => ?_, fun b i hb hi => ?_, fun t' ht' i hi6 x q => ?_, ?_, ?_, ?_⟩
  · refine hs_keep S ?_
    rw [hs]
    exact ⟨rfl, rfl, ⟨_, rfl⟩⟩
  · have q : hs_fI (hs_sR h (t + 10) j w) b k = hs_fI h b k := by
      by_cases e : b = t + 10
      · subst e; unfold hs_fI hs_fV; rw [v1, v2]
      · exact hs_fI_ne e
    rw [q]
    exact F b k hb
  · have q : hs_fL (hs_sR h (t + 10) j w) b k = hs_fL h b k := by
      by_cases e : b = t + 10
      · subst e; unfold hs_fL hs_fV; rw [v1, v2]
      · exact hs_fL_ne e
    rw [q]
    exact L b k hb
  · have q : hs_aI (hs_sR h (t + 10) j w) b = hs_aI h b := by
      by_cases e : b = t + 10
      · subst e; rw [i1, i2]
      · exact hs_aI_ne e
    rw [q]
    exact A b i hb hi
  · by_cases e : t' + 10 = t + 10
    · have e2 : hs_aR (hs_sR h (t + 10) j w) (t + 10) = va_up (hs_aR h (t + 10)) j w := by rw [hs_aR, c1]
      rw [e, e2] at q
      by_cases e3 : i = j
      · subst e3
        rw [va_up_self] at q
        exact keep x (hw x q)
      · rw [va_up_ne _ _ e3] at q
        exact keep x (X.1 t ht i hi6 x q)
    · have e2 : hs_aR (hs_sR h (t + 10) j w) (t' + 10) = hs_aR h (t' + 10) := tb_aR_ne e
      rw [e2] at q
      exact keep x (X.1 t' ht' i hi6 x q)
  · have e2 : hs_aR (hs_sR h (t + 10) j w) 34 = hs_aR h 34 := tb_aR_ne (by rcases ht with rfl | rfl | rfl | rfl | rfl <;> decide)
    rw [e2]
    exact X.2.1
  · have e2 : hs_aI (hs_sR h (t + 10) j w) 99 = hs_aI h 99 := hs_aI_ne (by omega)
    rw [e2]
    exact X.2.2.1
  · have e2 : hs_aI (hs_sR h (t + 10) j w) 100 = hs_aI h 100 := hs_aI_ne (by omega)
    rw [e2]
    exact X.2.2.2
/-- typed heaps stay typed -/
theorem ty_IC : ty_C ty_W1 ty_I := by
  refine ⟨fun h I => I, fun h a ci k u fs t I w ha hs hf ht b0 b1 => ?_, fun h a ci k u fs I w ha hs hf b0 b1 => ?_, fun h a n j t x I w ha hs ht hj b0 b1 _ => ?_, fun h a n j x I w ha hs hj => tb_larr I ha hs, fun w => absurd w.1 (by decide), fun w => absurd w.1 (by decide), fun w => absurd w.1 (by decide), fun h t j w I q ht hj hw => tb_ref I ht hw⟩
  · refine tb_fld I ha hs hf ?_ (fun v e => by rw [← e]; exact ⟨b0, b1⟩) (fun v e => by rw [← e]; exact tb_l0 a k)
    rcases ht with rfl | ⟨rfl, q⟩
    · exact ⟨u, rfl⟩
    · rcases q with rfl | rfl
      · exact Or.inl rfl
      · exact Or.inr rfl
  · refine tb_fld I ha hs hf ⟨u, rfl⟩ (fun v e => ?_) (fun v e => by rw [← e]; exact ⟨b0, b1⟩)
    rw [← e]
    exact tb_f0 a ha k (tb_len ha hs hf) (by rw [hs]; exact hf)
  · exact tb_arr I ha hs ht w.2.1 w.2.2.1 b0 b1
end BAS
