/-! the heap behind the constructors is typed -/
section FIT
set_option maxRecDepth 100000 in
theorem sk_ok : (List.range 129).all (fun a => sk_c a (ev_get sk_E.2.2 a)) = true := by decide +kernel
theorem sk_at {xs : Nat → Int32} {p : pm_H} (R : ev_RH xs sk_E p) {a : Nat} (ha : a < 129) : ev_RC xs (ev_get sk_E.2.2 a) (p.2.2 a) := R.2.2.2.2 a ha
theorem sk_cell {xs : Nat → Int32} {p : pm_H} (R : ev_RH xs sk_E p) {a : Nat} (ha : a < 129) : hs_ok (hs_sh a) (p.2.2 a) ∧ (∀ k, (ty_f a k).1 ≤ (hs_fI p a k).toInt ∧ (hs_fI p a k).toInt ≤ (ty_f a k).2) ∧ (∀ k, (ty_l a k).1 ≤ (hs_fL p a k).toInt ∧ (hs_fL p a k).toInt ≤ (ty_l a k).2) ∧ ∀ j, j < (hs_sh a).2.1 → (ty_a a j).1 ≤ (hs_aI p a j).toInt ∧ (hs_aI p a j).toInt ≤ (ty_a a j).2 := by
  have c : sk_c a (ev_get sk_E.2.2 a) = true := sk_all sk_ok ha
  have r := sk_at R ha
  generalize ev_get sk_E.2.2 a = C at c r
  match C, c, r with
  | .inl (t, n, N, ov), c, r => exact sk_arr c r
  | .inr (ci, fs), c, r => exact sk_obj c r.1
theorem sk_aR {xs : Nat → Int32} {h : pm_H} {a t n N : Nat} {ov : List (Nat × Nat)} (r : ev_RC xs (.inl (t, n, N, ov)) (h.2.2 a)) (ht : t = 3 ∨ t = 4) {j : Nat} (hj : j < n) : hs_aR h a j = ev_ref (ev_ln N j) := by
  obtain ⟨x, e, ra⟩ := r
  unfold hs_aR
  rw [e]
  match x, ra with
  | .inl f, ra => exact absurd ra.1 (by omega)
  | .inr (.inl f), ra => exact absurd ra.1 (by omega)
  | .inr (.inr (.inr (.inr f))), ra => exact ra.2 j hj
  | .inr (.inr (.inl f)), ra => exact ra.elim
  | .inr (.inr (.inr (.inl f))), ra => exact ra.elim
theorem sk_g {a : Nat} {c : ev_C} (h : ev_eC (ev_get sk_E.2.2 a) c = true) : ev_get sk_E.2.2 a = c := ev_eC_ok _ _ h
theorem sk_nul {xs : Nat → Int32} {p : pm_H} (R : ev_RH xs sk_E p) {a : Nat} (ha : a < 129) (h : ev_eC (ev_get sk_E.2.2 a) (.inl (3, 6, 0, [])) = true) {j : Nat} (hj : j < 6) : hs_aR p a j = none := by
  have r := sk_at R ha
  rw [sk_g h] at r
  rw [sk_aR r (Or.inl rfl) hj, ev_ln_0]
  rfl
/-- an int of an array that is 0 -/
noncomputable def sk_z (c : ev_C) (j : Nat) : Bool := match c with
  | .inl (t, n, N, ov) => (Nat.beq t 0 && Nat.blt j n) && (ov.isEmpty && Nat.beq (ev_ln N j) 0)
  | .inr _ => false
theorem sk_zo {xs : Nat → Int32} {h : pm_H} {a j : Nat} {c : ev_C} (r : ev_RC xs c (h.2.2 a)) (hc : sk_z c j = true) : hs_aI h a j = 0 := by
  match c, r, hc with
  | .inr _, r, hc => cases hc
  | .inl (t, n, N, ov), r, hc =>
    obtain ⟨h12, h34⟩ := sk_and hc
    obtain ⟨h1, h2⟩ := sk_and h12
    obtain ⟨h3, h4⟩ := sk_and h34
    obtain rfl := ev_be h1
    have h2 := ev_lt h2
    have h3 : ov = [] := List.isEmpty_iff.mp h3
    subst h3
    have h4 : ev_ln N j = 0 := ev_be h4
    obtain ⟨x, e, ra⟩ := r
    unfold hs_aI
    rw [e]
    match x, ra with
    | .inl f, ra =>
      have q : f j = Int32.ofNat (ev_ln N j) := ra.2 j h2
      rw [h4] at q
      exact q
    | .inr (.inl f), ra => exact absurd ra.1 (by decide)
    | .inr (.inr (.inr (.inr f))), ra => exact absurd ra.1 (by decide)
    | .inr (.inr (.inl f)), ra => exact ra.elim
    | .inr (.inr (.inr (.inl f))), ra => exact ra.elim
/-- a field that is 0 -/
noncomputable def sk_f (c : ev_C) (k : Nat) : Bool := match c with
  | .inr (_, fs) => Nat.blt k fs.length && (Nat.beq (fs.getD k (3, 0)).1 0 && Nat.beq (fs.getD k (3, 0)).2 0)
  | .inl _ => false
theorem sk_fo {xs : Nat → Int32} {h : pm_H} {a k : Nat} {c : ev_C} (r : ev_RC xs c (h.2.2 a)) (hc : sk_f c k = true) : hs_fI h a k = 0 := by
  match c, r, hc with
  | .inl _, r, hc => cases hc
  | .inr (ci, fs), r, hc =>
    obtain ⟨h1, h23⟩ := sk_and hc
    obtain ⟨h2, h3⟩ := sk_and h23
    have hk : k < fs.length := ev_lt h1
    have e : h.2.2 a = .inr (ci, fs.map (ev_dV xs)) := r.1
    have e2 : fs.getD k (3, 0) = (0, 0) := Prod.ext (ev_be h2) (ev_be h3)
    rw [List.getD_eq_getElem?_getD, List.getElem?_eq_getElem hk] at e2
    have e2 : fs[k] = (0, 0) := e2
    have e3 : hs_fV h a k = .int 0 := by
      unfold hs_fV hs_vs
      rw [e]
      show (fs.map (ev_dV xs)).getD k .null = .int 0
      rw [List.getD_eq_getElem?_getD, List.getElem?_map, List.getElem?_eq_getElem hk, e2]
      rfl
    unfold hs_fI
    rw [e3]
theorem sk_lw {R : Nat → Int32} {b : Nat} (e : R (b + 1) = 0) : ty_lw R b := by
  have z : (R (b + 1)).toInt = 0 := by
    rw [e]
    rfl
  refine ⟨by omega, by omega, fun c hc => ?_⟩
  exfalso
  omega
theorem sk_l9 : (List.range 6).all (fun l => sk_z (ev_get sk_E.2.2 99) (98 + 900 * l + 1)) = true := by decide +kernel
theorem sk_l10 : (List.range 2).all (fun i => (List.range 6).all (fun l => sk_z (ev_get sk_E.2.2 100) (5498 * i + (98 + 900 * l + 1)))) = true := by decide +kernel
theorem sk_c34 : ev_eC (ev_get sk_E.2.2 34) (.inl (4, 2, 0x2f00000024, [])) = true := by decide +kernel
theorem sk_n5 : (ev_eC (ev_get sk_E.2.2 11) (.inl (3, 6, 0, [])) && ev_eC (ev_get sk_E.2.2 22) (.inl (3, 6, 0, [])) && ev_eC (ev_get sk_E.2.2 33) (.inl (3, 6, 0, [])) && ev_eC (ev_get sk_E.2.2 45) (.inl (3, 6, 0, [])) && ev_eC (ev_get sk_E.2.2 56) (.inl (3, 6, 0, []))) = true := by decide +kernel
theorem sk_fs : (sk_f (ev_get sk_E.2.2 97) 13 && sk_f (ev_get sk_E.2.2 97) 20 && sk_f (ev_get sk_E.2.2 62) 1 && sk_z (ev_get sk_E.2.2 99) 5) = true := by decide +kernel
theorem sk_X {xs : Nat → Int32} {p : pm_H} (R : ev_RH xs sk_E p) : ty_X p := by
  refine ⟨fun t ht j hj x hx => ?_, ⟨?_, ?_⟩, fun l hl => ?_, fun i l hi hl => ?_⟩
  · obtain ⟨n1234, n5⟩ := sk_and sk_n5
    obtain ⟨n123, n4⟩ := sk_and n1234
    obtain ⟨n12, n3⟩ := sk_and n123
    obtain ⟨n1, n2⟩ := sk_and n12
    have e : hs_aR p (t + 10) j = none := by
      rcases ht with rfl | rfl | rfl | rfl | rfl
      · exact sk_nul R (by decide) n1 hj
      · exact sk_nul R (by decide) n2 hj
      · exact sk_nul R (by decide) n3 hj
      · exact sk_nul R (by decide) n4 hj
      · exact sk_nul R (by decide) n5 hj
    rw [e] at hx
    cases hx
  · have r := sk_at R (a := 34) (by decide)
    rw [sk_g sk_c34] at r
    rw [sk_aR r (Or.inr rfl) (by decide)]
    decide +kernel
  · have r := sk_at R (a := 34) (by decide)
    rw [sk_g sk_c34] at r
    rw [sk_aR r (Or.inr rfl) (by decide)]
    decide +kernel
  · exact sk_lw (sk_zo (sk_at R (by decide)) (sk_all sk_l9 hl))
  · exact sk_lw (sk_zo (sk_at R (by decide)) (sk_all (sk_all sk_l10 hi) hl))
theorem sk_I {xs : Nat → Int32} {p : pm_H} (R : ev_RH xs sk_E p) : ty_I p :=
  ⟨⟨Nat.le_of_eq R.1.symm, fun a ha => (sk_cell R ha).1⟩, fun a k ha => (sk_cell R ha).2.1 k, fun a k ha => (sk_cell R ha).2.2.1 k, fun a j ha hj => (sk_cell R ha).2.2.2 j hj, sk_X R⟩
theorem sk_K {xs : Nat → Int32} {p : pm_H} (R : ev_RH xs sk_E p) : tp_K 0 p := by
  obtain ⟨f123, f4⟩ := sk_and sk_fs
  obtain ⟨f12, f3⟩ := sk_and f123
  obtain ⟨f1, f2⟩ := sk_and f12
  have e1 : hs_fI p 97 13 = 0 := sk_fo (sk_at R (by decide)) f1
  have e2 : hs_fI p 97 20 = 0 := sk_fo (sk_at R (by decide)) f2
  have e3 : hs_fI p 62 1 = 0 := sk_fo (sk_at R (by decide)) f3
  have e4 : hs_aI p 99 5 = 0 := sk_zo (sk_at R (by decide)) f4
  have s1 : p.1 = 129 := R.1
  have s2 : p.2.1 = 30526 := R.2.1
  refine ⟨0, ⟨⟨sk_I R, ?_, ?_, by omega, by omega⟩, ?_⟩, ?_⟩
  · rw [e2]
    rfl
  · rw [e4]
    decide
  · rw [e1]
    rfl
  · rw [e3]
    rfl
theorem sk_q4 : (sk_f (ev_get sk_E.2.2 0) 15 && sk_f (ev_get sk_E.2.2 97) 11 && sk_f (ev_get sk_E.2.2 62) 1) = true := by decide +kernel
theorem sq_K {xs : Nat → Int32} {p : pm_H} (R : ev_RH xs sk_E p) : tq_K 0 p := by
  obtain ⟨T, j⟩ := sk_K R
  obtain ⟨q2, f3⟩ := sk_and sk_q4
  obtain ⟨f1, f2⟩ := sk_and q2
  have e1 : hs_fI p 0 15 = 0 := sk_fo (sk_at R (by decide)) f1
  have e2 : hs_fI p 97 11 = 0 := sk_fo (sk_at R (by decide)) f2
  have e3 : hs_fI p 62 1 = 0 := sk_fo (sk_at R (by decide)) f3
  have t0 : (hs_fI p 62 1).toInt = T := j.2
  have t1 : (hs_fI p 62 1).toInt = 0 := by
    rw [e3]
    rfl
  exact ⟨T, j, fun i hi => by exfalso; omega, by rw [e1, e2]⟩
end FIT
