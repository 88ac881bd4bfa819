/-! ALLOCATION: a text of the class is copied -/
section ALO
theorem al_o {h : pm_H} {n b : Nat} {c : pm_C} (hb : b < h.1) : (pm_hpush h n c).2.2 b = h.2.2 b := va_up_ne _ _ (by omega)
theorem al_n {h : pm_H} {n : Nat} {c : pm_C} : (pm_hpush h n c).2.2 h.1 = c := va_up_self _ _ _
/-- what cells below keep is typed still -/
theorem al_I {h h' : pm_H} (I : ty_I h) (h1 : h.1 ≤ h'.1) (e : ∀ b, b < h.1 → h'.2.2 b = h.2.2 b) : ty_I h' := by
  obtain ⟨S, F, L, A, X⟩ := I
  have hb : ∀ b, b < 129 → h'.2.2 b = h.2.2 b := fun b q => e b (Nat.lt_of_lt_of_le q S.1)
  have vv : ∀ b, b < 129 → hs_vs h' b = hs_vs h b := fun b q => by unfold hs_vs; rw [hb b q]
  have ai : ∀ b, b < 129 → hs_aI h' b = hs_aI h b := fun b q => by unfold hs_aI; rw [hb b q]
  have ar : ∀ b, b < 129 → hs_aR h' b = hs_aR h b := fun b q => by unfold hs_aR; rw [hb b q]
  refine ⟨⟨Nat.le_trans S.1 h1, fun a ha => by rw [hb a ha]; exact S.2 a ha⟩, fun a k ha => ?_, fun a k ha => ?_, fun a j ha hj => by rw [ai a ha]; exact A a j ha hj, fun t ht j hj6 x q => ?_, ?_, fun l hl => ?_, fun i l hi hl => ?_⟩
  · have q : hs_fI h' a k = hs_fI h a k := by unfold hs_fI hs_fV; rw [vv a ha]
    rw [q]
    exact F a k ha
  · have q : hs_fL h' a k = hs_fL h a k := by unfold hs_fL hs_fV; rw [vv a ha]
    rw [q]
    exact L a k ha
  · have tl := ty_trl ht
    rw [ar (t + 10) (by omega)] at q
    obtain ⟨c, l, q1, q2, q3, q4, q5, q6, q7, q8, q9, q10⟩ := X.1 t ht j hj6 x q
    refine ⟨c, l, q1, by omega, q3, q4, q5, q6, ?_, fun i i1 i2 => ?_, ?_, ?_⟩
    · rw [e x (by omega)]; exact q7
    · rw [e (x + i) (by omega)]; exact q8 i i1 i2
    · rw [e (x + 6) (by omega)]; exact q9
    · rw [e (x + 7) (by omega)]; exact q10
  · rw [ar 34 (by decide)]; exact X.2.1
  · rw [ai 99 (by decide)]; exact X.2.2.1 l hl
  · rw [ai 100 (by decide)]; exact X.2.2.2 i l hi hl
theorem al_P {h : pm_H} (I : ty_I h) {n : Nat} {c : pm_C} : ty_I (pm_hpush h n c) := al_I I (Nat.le_succ _) (fun b hb => al_o hb)
theorem al_len {n : Nat} (h : n ≤ 1000) : (Int32.ofNat n).toInt = n := by
  have q : (Int32.ofNat n).toInt = ((n : Int)).bmod (2 ^ 32) := Int32.toInt_ofNat'
  rw [q]
  exact nm_bm (by omega) (by omega)
/-- Arrays.copyOf, no longer than it was -/
theorem cy_267 {X : pm_X} {d : Nat} {h : pm_H} (hd : 2 ≤ d) (I : ty_I h) {a m : Nat} {f : Nat → Int32} {n : Int32} (ha : h.2.2 a = .inl (0, m, .inl f)) (hl : a < h.1) (n0 : 0 ≤ n.toInt) (n1 : n.toInt ≤ m) (m1 : m ≤ 1000) : hq_M X d 267 [.ref a, .int n] h (fun h' v => v = some (.ref h.1) ∧ ∃ g, h' = pm_hpush h n.toInt.toNat (.inl (0, n.toInt.toNat, .inl g)) ∧ ∀ j, j < n.toInt.toNat → g j = f j) := by
  obtain ⟨d, rfl⟩ : ∃ e, d = e + 1 := ⟨d - 1, by omega⟩
  have hA : pm_arr X h (.ref a) = some (0, m, .inl f) := by
    unfold pm_arr
    dsimp only
    rw [decide_eq_true hl, ha]
    rfl
  refine hq_M.enter (q := (⟨"java/util/Arrays", "copyOf", "([II)[I"⟩, _, 3, some (.array .int), 17, 2, pm_c267)) rfl rfl ?_
  show hq_W X d 17 false (some (.array .int)) pm_c267 (0, [some (.ref a), some (.int n), none], [], h) _
  refine hq_p rfl rfl ?_
  refine hq_p rfl rfl ?_
  refine hq_alen rfl hA rfl (ty_ge (c := Int32.ofNat m) (n := m) (al_len m1) (fun z1 e1 => ?_))
  refine ty_ine rfl (fun c => ?_) (fun c => ?_)
  · -- a new one, and what it had
    refine hq_p rfl rfl ?_
    refine hq_W.step 0 rfl (s' := (17, [some (.ref a), some (.int n), none], [.ref h.1], pm_hpush h n.toInt.toNat (.inl (0, n.toInt.toNat, .inl (fun _ => 0))))) ?_ (Nat.le_succ _) (Nat.le_add_right _ _) ?_
    · show (bif decide (n < 0) || decide (16777216 < n.toNatClampNeg) then none else pm_go (15 + 2) [some (.ref a), some (.int n), none] [.ref h.1] (pm_hpush h n.toNatClampNeg (.inl (0, n.toNatClampNeg, .inl (fun _ => 0))))) = _
      have k1 : ¬ n < 0 := fun q => by have := nm_lt.mp q; rw [nm_0] at this; omega
      have k2 : ¬ 16777216 < n.toNatClampNeg := by rw [nm_nat]; omega
      rw [decide_eq_false k1, decide_eq_false k2]
      rfl
    · obtain ⟨h1, e1h⟩ : ∃ q, q = pm_hpush h n.toInt.toNat (.inl (0, n.toInt.toNat, .inl (fun _ => 0))) := ⟨_, rfl⟩
      rw [← e1h]
      have I1 : ty_I h1 := by rw [e1h]; exact al_P I
      have f1 : h1.1 = h.1 + 1 := by rw [e1h]; rfl
      have c1 : h1.2.2 a = .inl (0, m, .inl f) := by rw [e1h, al_o hl]; exact ha
      have c2 : h1.2.2 h.1 = .inl (0, n.toInt.toNat, .inl (fun _ => 0)) := by rw [e1h]; exact al_n
      have A1 : pm_arr X h1 (.ref a) = some (0, m, .inl f) := by
        unfold pm_arr
        dsimp only
        rw [decide_eq_true (show a < h1.1 by omega), c1]
        rfl
      have A2 : pm_arr X h1 (.ref h.1) = some (0, n.toInt.toNat, .inl (fun _ => 0)) := by
        unfold pm_arr
        dsimp only
        rw [decide_eq_true (show h.1 < h1.1 by omega), c2]
        rfl
      refine hq_p (ls' := [some (.ref a), some (.int n), some (.ref h.1)]) rfl rfl ?_
      refine hq_p rfl rfl ?_
      refine hq_p rfl rfl (ty_ge (n := 0) nk_i0 (fun z2 e2 => ?_))
      refine hq_p rfl rfl ?_
      refine hq_p rfl rfl (ty_ge (n := 0) nk_i0 (fun z3 e3 => ?_))
      refine hq_p rfl rfl ?_
      refine hq_alen rfl A1 rfl (ty_ge (c := Int32.ofNat m) (n := m) (al_len m1) (fun z4 e4 => ?_))
      refine hq_p rfl rfl ?_
      refine ty_callp 1 I1 rfl (fun _ => rfl) rfl rfl rfl rfl (ct_259 (x0 := z4) (x1 := n) (by omega)) (fun _ P => ?_)
      obtain ⟨z5, rfl, b1, b2, b3⟩ := P
      have e5 : z5.toInt = n.toInt := by omega
      refine hq_W.step 0 rfl (s' := (31, [some (.ref a), some (.int n), some (.ref h.1)], [], pm_hset h1 h.1 (.inl (0, n.toInt.toNat, .inl (va_cpy f (fun _ => 0) z2.toNatClampNeg z3.toNatClampNeg z5.toNatClampNeg))))) ?_ (Nat.le_refl _) (Nat.le_refl _) ?_
      · show (match pm_arr X h1 (.ref a), pm_arr X h1 (.ref h.1) with
        | some (t0, n0, .inl f), some (t1, n1, .inl g) => bif t0 == 0 && t1 == 0 && !decide (z2 < 0) && !decide (z3 < 0) && !decide (z5 < 0) && decide (z2.toNatClampNeg + z5.toNatClampNeg ≤ n0) && decide (z3.toNatClampNeg + z5.toNatClampNeg ≤ n1) && pm_w8 [] then
            pm_go (28 + 3) [some (.ref a), some (.int n), some (.ref h.1)] [] (pm_hset h1 h.1 (.inl (0, n1, .inl (va_cpy f g z2.toNatClampNeg z3.toNatClampNeg z5.toNatClampNeg)))) else none
        | _, _ => none) = _
        rw [A1, A2]
        dsimp only
        have k1 : ¬ z2 < 0 := fun q => by have := nm_lt.mp q; rw [nm_0] at this; omega
        have k2 : ¬ z3 < 0 := fun q => by have := nm_lt.mp q; rw [nm_0] at this; omega
        have k3 : ¬ z5 < 0 := fun q => by have := nm_lt.mp q; rw [nm_0] at this; omega
        rw [decide_eq_false k1, decide_eq_false k2, decide_eq_false k3, decide_eq_true (show z2.toNatClampNeg + z5.toNatClampNeg ≤ m by rw [nm_nat, nm_nat]; omega), decide_eq_true (show z3.toNatClampNeg + z5.toNatClampNeg ≤ n.toInt.toNat by rw [nm_nat, nm_nat]; omega)]
        rfl
      · refine hq_p rfl rfl ?_
        refine hq_W.ret rfl rfl rfl ⟨rfl, va_cpy f (fun _ => 0) z2.toNatClampNeg z3.toNatClampNeg z5.toNatClampNeg, ?_, fun j hj => ?_⟩
        · rw [e1h]
          unfold pm_hset pm_hpush
          dsimp only
          congr 2
          funext b
          by_cases q : b = h.1
          · subst q
            rw [va_up_self, va_up_self]
          · rw [va_up_ne _ _ q, va_up_ne _ _ q, va_up_ne _ _ q]
        · unfold va_cpy
          rw [nm_nat, nm_nat, nm_nat, if_pos (by omega)]
          congr 1
          omega
  · -- a clone
    have em : n.toInt.toNat = m := by omega
    refine hq_p rfl rfl ?_
    obtain ⟨h1, e1h⟩ : ∃ q, q = pm_hpush h m (.inl (0, m, .inl f)) := ⟨_, rfl⟩
    refine hq_W.step 0 rfl (s' := (10, [some (.ref a), some (.int n), none], [.ref h.1], h1)) ?_ (by rw [e1h]; exact Nat.le_succ _) (by rw [e1h]; exact Nat.le_add_right _ _) ?_
    · show (match pm_arr X h (.ref a) with
      | some (t0, n0, .inl f) => bif t0 == 0 && pm_w8 [] then pm_go (7 + 3) [some (.ref a), some (.int n), none] (.ref h.1 :: []) (pm_hpush h n0 (.inl (0, n0, .inl f))) else none
      | _ => none) = _
      rw [hA, e1h]
      rfl
    · have A2 : pm_arr X h1 (.ref h.1) = some (0, m, .inl f) := by
        unfold pm_arr
        dsimp only
        rw [e1h, decide_eq_true (show h.1 < (pm_hpush h m (.inl (0, m, .inl f))).1 from Nat.lt_succ_self _), al_n]
        rfl
      refine hq_W.step 0 rfl (s' := (13, [some (.ref a), some (.int n), none], [.ref h.1], h1)) ?_ (Nat.le_refl _) (Nat.le_refl _) ?_
      · show (match pm_arr X h1 (.ref h.1) with
        | some (t, _, _) => bif t == 0 && 0 == 0 then pm_go (10 + 3) [some (.ref a), some (.int n), none] (.ref h.1 :: []) h1 else none
        | none => none) = _
        rw [A2]
        rfl
      · refine hq_W.ret rfl rfl rfl ⟨rfl, f, ?_, fun j _ => rfl⟩
        rw [e1h, em]
end ALO
/-! Text(Text) -/
section TXC
/-- the new text, what is pushed behind it -/
theorem al_pc {h : pm_H} {x n : Nat} {c e : pm_C} (hx : x < h.1) : pm_hpush (pm_hset h x c) n e = pm_hset (pm_hpush h n e) x c := by
  unfold pm_hset pm_hpush
  dsimp only
  congr 2
  funext b
  by_cases q : b = h.1
  · subst q
    rw [va_up_self, va_up_ne _ _ (by omega), va_up_self]
  · rw [va_up_ne _ _ q]
    by_cases q2 : b = x
    · subst q2
      rw [va_up_self, va_up_self]
    · rw [va_up_ne _ _ q2, va_up_ne _ _ q2, va_up_ne _ _ q]
theorem al_ob {h : pm_H} {x : Nat} {fs : List Value} (hx : x < h.1) : pm_obj (pm_hset h x (.inr (7, fs))) (.ref x) = some (x, 7, fs) := by
  unfold pm_obj
  dsimp only
  have e : (pm_hset h x (.inr (7, fs))).1 = h.1 := rfl
  rw [e, decide_eq_true hx, hs_same]
  rfl
/-- one array is copied -/
theorem cy_step {X : pm_X} {d : Nat} {Q : pm_H → Option Value → Prop} {h0 B : pm_H} {x pc i lf cell ln ix3 ix5 ix6 ix7 l3 l5 l6 l7 : Nat} {a1 a2 a3 a4 a5 a6 : Nat} {v1 v2 v3 v4 v5 v6 v7 : Value} {fs : List Value} {n : Int32} {s64 : List (Nat × Nat)}
    (hd : 2 ≤ d) (f1 : pm_find pm_c61 pc = some (.aload_n 0, a1, a2, a3, v1)) (f2 : pm_find pm_c61 (pc + 1) = some (.aload_n 1, a4, a5, a6, v2)) (f3 : pm_find pm_c61 (pc + 1 + 1) = some (.getfield ix3, l3, 7, i, v3)) (f4 : pm_find pm_c61 (pc + 1 + 1 + 3) = some (.aload_n 0, a1, a2, a3, v4)) (f5 : pm_find pm_c61 (pc + 1 + 1 + 3 + 1) = some (.getfield ix5, l5, 7, lf, v5)) (f6 : pm_find pm_c61 (pc + 1 + 1 + 3 + 1 + 3) = some (.invokestatic ix6, l6, 1, 267, v6)) (f7 : pm_find pm_c61 (pc + 1 + 1 + 3 + 1 + 3 + 3) = some (.putfield ix7, l7, 7, i, v7))
    (I0 : ty_I h0) (h1 : h0.1 = x) (hB : x + 1 ≤ B.1) (g : ∀ b, b < x → B.2.2 b = h0.2.2 b) (i7 : i < pm_cn 7) (lf7 : lf < pm_cn 7) (s4 : hs_sh 64 = (10 + 7, 0, s64)) (hc : s64[i]? = some (3, cell)) (hsc : hs_sh cell = (0, ln, [])) (c9 : cell < 129) (l9 : ln ≤ 1000) (hn : fs[lf]? = some (.int n)) (n0 : 0 ≤ n.toInt) (n1 : n.toInt ≤ ln) (fit : (decide (i < pm_cn 7) && decide (i < fs.length) && pm_fit (pm_ty 7 i) (.ref B.1) && (!pm_fin 7 i || (true && decide (pm_cnm 7 = pm_own 7)))) = true)
    (K : ∀ A : Nat → Int32, (∀ j, j < n.toInt.toNat → A j = hs_aI h0 cell j) → hq_W X d 7 true none pm_c61 (pc + 1 + 1 + 3 + 1 + 3 + 3 + 3, [some (.ref x), some (.ref 64)], [], pm_hset (pm_hpush B n.toInt.toNat (.inl (0, n.toInt.toNat, .inl A))) x (.inr (7, fs.set i (.ref B.1)))) Q) : hq_W X d 7 true none pm_c61 (pc, [some (.ref x), some (.ref 64)], [], pm_hset B x (.inr (7, fs))) Q := by
  have x9 : 129 ≤ x := by rw [← h1]; exact I0.1.1
  obtain ⟨H, eH⟩ : ∃ q, q = pm_hset B x (.inr (7, fs)) := ⟨_, rfl⟩
  rw [← eH]
  have e1 : H.1 = B.1 := by rw [eH]; rfl
  have gH : ∀ b, b < x → H.2.2 b = h0.2.2 b := fun b hb => by rw [eH]; exact (hs_oth (by omega)).trans (g b hb)
  have I : ty_I H := al_I I0 (by omega) (fun b hb => gH b (by omega))
  have O : pm_obj H (.ref x) = some (x, 7, fs) := by rw [eH]; exact al_ob (by omega)
  refine hq_p f1 rfl ?_
  refine hq_p f2 rfl ?_
  refine hq_gR I.1 f3 s4 (by decide) i7 hc ?_
  refine hq_p f4 rfl ?_
  refine hq_getf f5 O lf7 hn ?_
  refine hq_inv 1 f6 (fun _ => rfl) rfl rfl rfl rfl ((cy_267 hd I (a := cell) (m := ln) (f := hs_aI H cell) (n := n) (ty_cell_a I.1 hsc c9) (by omega) n0 n1 l9).mono (Nat.le_refl _) (fun h2 v q => ?_))
  obtain ⟨rfl, A, eh, gA⟩ := q
  have gA2 : ∀ j, j < n.toInt.toNat → A j = hs_aI h0 cell j := fun j hj => by rw [gA j hj]; unfold hs_aI; rw [gH cell (by omega)]
  have eh2 : h2 = pm_hset (pm_hpush B n.toInt.toNat (.inl (0, n.toInt.toNat, .inl A))) x (.inr (7, fs)) := by rw [eh, eH]; exact al_pc (by omega)
  have k := K A gA2
  rw [← e1] at k
  have e3 : h2.1 = H.1 + 1 := by rw [eh]; rfl
  have O2 : pm_obj h2 (.ref x) = some (x, 7, fs) := by rw [eh2]; exact al_ob (show x < B.1 + 1 by omega)
  refine ⟨by omega, by rw [eh]; exact Nat.le_add_right _ _, hq_putf f7 O2 (by rw [← e1] at fit; exact fit) ?_⟩
  have e4 : pm_hset h2 x (.inr (7, fs.set i (.ref H.1))) = pm_hset (pm_hpush B n.toInt.toNat (.inl (0, n.toInt.toNat, .inl A))) x (.inr (7, fs.set i (.ref H.1))) := by rw [eh2]; exact ty_set_set
  rw [e4]
  exact k
/-- an int of the text -/
theorem cy_int {X : pm_X} {d : Nat} {Q : pm_H → Option Value → Prop} {h0 B : pm_H} {x pc i ix3 ix7 l3 l7 a1 a2 a3 a4 a5 a6 : Nat} {v1 v2 v3 v7 : Value} {fs : List Value} {s64 : List (Nat × Nat)}
    (f1 : pm_find pm_c61 pc = some (.aload_n 0, a1, a2, a3, v1)) (f2 : pm_find pm_c61 (pc + 1) = some (.aload_n 1, a4, a5, a6, v2)) (f3 : pm_find pm_c61 (pc + 1 + 1) = some (.getfield ix3, l3, 7, i, v3)) (f7 : pm_find pm_c61 (pc + 1 + 1 + 3) = some (.putfield ix7, l7, 7, i, v7))
    (I0 : ty_I h0) (h1 : h0.1 = x) (hB : x + 1 ≤ B.1) (g : ∀ b, b < x → B.2.2 b = h0.2.2 b) (i7 : i < pm_cn 7) (s4 : hs_sh 64 = (10 + 7, 0, s64)) (hc : s64[i]? = some (0, 0)) (fit : (decide (i < pm_cn 7) && decide (i < fs.length) && pm_fit (pm_ty 7 i) (.int (hs_fI h0 64 i)) && (!pm_fin 7 i || (true && decide (pm_cnm 7 = pm_own 7)))) = true)
    (K : hq_W X d 7 true none pm_c61 (pc + 1 + 1 + 3 + 3, [some (.ref x), some (.ref 64)], [], pm_hset B x (.inr (7, fs.set i (.int (hs_fI h0 64 i))))) Q) : hq_W X d 7 true none pm_c61 (pc, [some (.ref x), some (.ref 64)], [], pm_hset B x (.inr (7, fs))) Q := by
  have x9 : 129 ≤ x := by rw [← h1]; exact I0.1.1
  obtain ⟨H, eH⟩ : ∃ q, q = pm_hset B x (.inr (7, fs)) := ⟨_, rfl⟩
  rw [← eH]
  have gH : ∀ b, b < x → H.2.2 b = h0.2.2 b := fun b hb => by rw [eH]; exact (hs_oth (by omega)).trans (g b hb)
  have I : ty_I H := al_I I0 (by rw [eH]; show h0.1 ≤ B.1; omega) (fun b hb => gH b (by omega))
  have O : pm_obj H (.ref x) = some (x, 7, fs) := by rw [eH]; exact al_ob (by omega)
  have e : hs_fI H 64 i = hs_fI h0 64 i := by unfold hs_fI hs_fV hs_vs; rw [gH 64 (by omega)]
  refine hq_p f1 rfl ?_
  refine hq_p f2 rfl ?_
  refine hq_gI I.1 f3 s4 (by decide) i7 hc ?_
  rw [e]
  refine hq_putf f7 O fit ?_
  have e4 : pm_hset H x (.inr (7, fs.set i (.int (hs_fI h0 64 i)))) = pm_hset B x (.inr (7, fs.set i (.int (hs_fI h0 64 i)))) := by rw [eH]; exact ty_set_set
  rw [e4]
  exact K
set_option maxRecDepth 8000 in
set_option maxHeartbeats 20000000 in
theorem cy_61 {X : pm_X} {d : Nat} {h0 : pm_H} (hd : 3 ≤ d) (I0 : ty_I h0) {x : Nat} (hx : x = h0.1) : hq_M X d 61 [.ref x, .ref 64] (pm_hpush h0 10 (.inr (7, pm_newN 7))) (fun h' v => v = none ∧ h'.1 = x + 8 ∧ h0.2.1 + 10 ≤ h'.2.1 ∧ h'.2.1 ≤ h0.2.1 + 870 ∧ (∀ b, b < x → h'.2.2 b = h0.2.2 b) ∧ ty_tx h' x) := by
  obtain ⟨d, rfl⟩ : ∃ e, d = e + 1 := ⟨d - 1, by omega⟩
  have hd : 2 ≤ d := by omega
  obtain ⟨B0, eB0⟩ : ∃ q, q = pm_hpush h0 10 (.inr (7, pm_newN 7)) := ⟨_, rfl⟩
  have k0 : B0.1 = x + 1 := by rw [eB0, hx]; rfl
  have w0 : B0.2.1 = h0.2.1 + 10 := by rw [eB0]; rfl
  have g0 : ∀ b, b < x → B0.2.2 b = h0.2.2 b := fun b hb => by rw [eB0]; exact al_o (by omega)
  have x9 : 129 ≤ x := by rw [hx]; exact I0.1.1
  have e0 : B0 = pm_hset B0 x (.inr (7, [.int 0, .null, .null, .null, .null, .null, .int 0, .null, .null, .int 0])) := by
    refine (ty_set_id ?_).symm
    rw [eB0, hx]
    exact al_n
  rw [← eB0]
  refine hq_M.enter (q := (⟨"TrainBearers$Text", "<init>", "(LTrainBearers$Text;)V"⟩, _, 2, none, 7, 2, pm_c61)) rfl rfl ?_
  show hq_W X d 7 true none pm_c61 (0, [some (.ref x), some (.ref 64)], [], B0) _
  rw [e0]
  obtain ⟨p, ep⟩ : ∃ q, hs_fI h0 64 9 = q := ⟨_, rfl⟩
  have bc := I0.2.1 64 0 (by decide)
  have bl := I0.2.1 64 6 (by decide)
  refine hq_p rfl rfl ?_
  refine hq_p rfl rfl ?_
  refine cy_int (i := 0) rfl rfl rfl rfl I0 hx.symm (by omega) g0 (by decide) rfl rfl rfl ?_
  have c0 : 0 ≤ (hs_fI h0 64 0).toInt := bc.1
  have c1 : (hs_fI h0 64 0).toInt ≤ 12 := bc.2
  have l0 : 0 ≤ (hs_fI h0 64 6).toInt := bl.1
  have l1 : (hs_fI h0 64 6).toInt ≤ 400 := bl.2
  clear bc bl
  obtain ⟨c, ec⟩ : ∃ q, hs_fI h0 64 0 = q := ⟨_, rfl⟩
  obtain ⟨l, el⟩ : ∃ q, hs_fI h0 64 6 = q := ⟨_, rfl⟩
  rw [ec] at c0 c1 ⊢
  rw [el] at l0 l1
  show hq_W X d 7 true none pm_c61 (12, [some (.ref x), some (.ref 64)], [], pm_hset B0 x (.inr (7, [.int c, .null, .null, .null, .null, .null, .int 0, .null, .null, .int 0]))) _
  refine cy_step (i := 1) (lf := 0) (cell := 65) (ln := 12) (n := c) hd rfl rfl rfl rfl rfl rfl rfl I0 hx.symm (by omega) g0 (by decide) (by decide) rfl rfl rfl (by decide) (by decide) rfl (by omega) (by omega) rfl (fun A1 gA1 => ?_)
  rw [k0]
  obtain ⟨B1, eB1⟩ : ∃ q, q = pm_hpush B0 c.toInt.toNat (.inl (0, c.toInt.toNat, .inl A1)) := ⟨_, rfl⟩
  rw [← eB1]
  have k1 : B1.1 = x + 2 := by rw [eB1]; show B0.1 + 1 = _; omega
  have w1 : B1.2.1 = B0.2.1 + c.toInt.toNat := by rw [eB1]; rfl
  have g1 : ∀ b, b < x → B1.2.2 b = h0.2.2 b := fun b hb => by rw [eB1, al_o (by omega)]; exact g0 b hb
  have n1 : B1.2.2 (x + 1) = .inl (0, c.toInt.toNat, .inl A1) := by rw [eB1, show x + 1 = B0.1 by omega]; exact al_n
  have u1 : ∀ b, b < x + 1 → B1.2.2 b = B0.2.2 b := fun b hb => by rw [eB1]; exact al_o (by omega)
  clear eB1
  show hq_W X d 7 true none pm_c61 (27, [some (.ref x), some (.ref 64)], [], pm_hset B1 x (.inr (7, [.int c, .ref (x + 1), .null, .null, .null, .null, .int 0, .null, .null, .int 0]))) _
  refine cy_step (i := 2) (lf := 0) (cell := 66) (ln := 12) (n := c) hd rfl rfl rfl rfl rfl rfl rfl I0 hx.symm (by omega) g1 (by decide) (by decide) rfl rfl rfl (by decide) (by decide) rfl (by omega) (by omega) rfl (fun A2 gA2 => ?_)
  rw [k1]
  obtain ⟨B2, eB2⟩ : ∃ q, q = pm_hpush B1 c.toInt.toNat (.inl (0, c.toInt.toNat, .inl A2)) := ⟨_, rfl⟩
  rw [← eB2]
  have k2 : B2.1 = x + 3 := by rw [eB2]; show B1.1 + 1 = _; omega
  have w2 : B2.2.1 = B1.2.1 + c.toInt.toNat := by rw [eB2]; rfl
  have g2 : ∀ b, b < x → B2.2.2 b = h0.2.2 b := fun b hb => by rw [eB2, al_o (by omega)]; exact g1 b hb
  have n2 : B2.2.2 (x + 2) = .inl (0, c.toInt.toNat, .inl A2) := by rw [eB2, show x + 2 = B1.1 by omega]; exact al_n
  have u2 : ∀ b, b < x + 2 → B2.2.2 b = B1.2.2 b := fun b hb => by rw [eB2]; exact al_o (by omega)
  clear eB2
  show hq_W X d 7 true none pm_c61 (42, [some (.ref x), some (.ref 64)], [], pm_hset B2 x (.inr (7, [.int c, .ref (x + 1), .ref (x + 2), .null, .null, .null, .int 0, .null, .null, .int 0]))) _
  refine cy_step (i := 3) (lf := 0) (cell := 67) (ln := 12) (n := c) hd rfl rfl rfl rfl rfl rfl rfl I0 hx.symm (by omega) g2 (by decide) (by decide) rfl rfl rfl (by decide) (by decide) rfl (by omega) (by omega) rfl (fun A3 gA3 => ?_)
  rw [k2]
  obtain ⟨B3, eB3⟩ : ∃ q, q = pm_hpush B2 c.toInt.toNat (.inl (0, c.toInt.toNat, .inl A3)) := ⟨_, rfl⟩
  rw [← eB3]
  have k3 : B3.1 = x + 4 := by rw [eB3]; show B2.1 + 1 = _; omega
  have w3 : B3.2.1 = B2.2.1 + c.toInt.toNat := by rw [eB3]; rfl
  have g3 : ∀ b, b < x → B3.2.2 b = h0.2.2 b := fun b hb => by rw [eB3, al_o (by omega)]; exact g2 b hb
  have n3 : B3.2.2 (x + 3) = .inl (0, c.toInt.toNat, .inl A3) := by rw [eB3, show x + 3 = B2.1 by omega]; exact al_n
  have u3 : ∀ b, b < x + 3 → B3.2.2 b = B2.2.2 b := fun b hb => by rw [eB3]; exact al_o (by omega)
  clear eB3
  show hq_W X d 7 true none pm_c61 (57, [some (.ref x), some (.ref 64)], [], pm_hset B3 x (.inr (7, [.int c, .ref (x + 1), .ref (x + 2), .ref (x + 3), .null, .null, .int 0, .null, .null, .int 0]))) _
  refine cy_step (i := 4) (lf := 0) (cell := 68) (ln := 12) (n := c) hd rfl rfl rfl rfl rfl rfl rfl I0 hx.symm (by omega) g3 (by decide) (by decide) rfl rfl rfl (by decide) (by decide) rfl (by omega) (by omega) rfl (fun A4 gA4 => ?_)
  rw [k3]
  obtain ⟨B4, eB4⟩ : ∃ q, q = pm_hpush B3 c.toInt.toNat (.inl (0, c.toInt.toNat, .inl A4)) := ⟨_, rfl⟩
  rw [← eB4]
  have k4 : B4.1 = x + 5 := by rw [eB4]; show B3.1 + 1 = _; omega
  have w4 : B4.2.1 = B3.2.1 + c.toInt.toNat := by rw [eB4]; rfl
  have g4 : ∀ b, b < x → B4.2.2 b = h0.2.2 b := fun b hb => by rw [eB4, al_o (by omega)]; exact g3 b hb
  have n4 : B4.2.2 (x + 4) = .inl (0, c.toInt.toNat, .inl A4) := by rw [eB4, show x + 4 = B3.1 by omega]; exact al_n
  have u4 : ∀ b, b < x + 4 → B4.2.2 b = B3.2.2 b := fun b hb => by rw [eB4]; exact al_o (by omega)
  clear eB4
  show hq_W X d 7 true none pm_c61 (72, [some (.ref x), some (.ref 64)], [], pm_hset B4 x (.inr (7, [.int c, .ref (x + 1), .ref (x + 2), .ref (x + 3), .ref (x + 4), .null, .int 0, .null, .null, .int 0]))) _
  refine cy_step (i := 5) (lf := 0) (cell := 69) (ln := 12) (n := c) hd rfl rfl rfl rfl rfl rfl rfl I0 hx.symm (by omega) g4 (by decide) (by decide) rfl rfl rfl (by decide) (by decide) rfl (by omega) (by omega) rfl (fun A5 gA5 => ?_)
  rw [k4]
  obtain ⟨B5, eB5⟩ : ∃ q, q = pm_hpush B4 c.toInt.toNat (.inl (0, c.toInt.toNat, .inl A5)) := ⟨_, rfl⟩
  rw [← eB5]
  have k5 : B5.1 = x + 6 := by rw [eB5]; show B4.1 + 1 = _; omega
  have w5 : B5.2.1 = B4.2.1 + c.toInt.toNat := by rw [eB5]; rfl
  have g5 : ∀ b, b < x → B5.2.2 b = h0.2.2 b := fun b hb => by rw [eB5, al_o (by omega)]; exact g4 b hb
  have n5 : B5.2.2 (x + 5) = .inl (0, c.toInt.toNat, .inl A5) := by rw [eB5, show x + 5 = B4.1 by omega]; exact al_n
  have u5 : ∀ b, b < x + 5 → B5.2.2 b = B4.2.2 b := fun b hb => by rw [eB5]; exact al_o (by omega)
  clear eB5
  show hq_W X d 7 true none pm_c61 (87, [some (.ref x), some (.ref 64)], [], pm_hset B5 x (.inr (7, [.int c, .ref (x + 1), .ref (x + 2), .ref (x + 3), .ref (x + 4), .ref (x + 5), .int 0, .null, .null, .int 0]))) _
  refine cy_int (i := 6) rfl rfl rfl rfl I0 hx.symm (by omega) g5 (by decide) rfl rfl rfl ?_
  rw [el]
  show hq_W X d 7 true none pm_c61 (95, [some (.ref x), some (.ref 64)], [], pm_hset B5 x (.inr (7, [.int c, .ref (x + 1), .ref (x + 2), .ref (x + 3), .ref (x + 4), .ref (x + 5), .int l, .null, .null, .int 0]))) _
  refine cy_step (i := 7) (lf := 6) (cell := 70) (ln := 400) (n := l) hd rfl rfl rfl rfl rfl rfl rfl I0 hx.symm (by omega) g5 (by decide) (by decide) rfl rfl rfl (by decide) (by decide) rfl (by omega) (by omega) rfl (fun A6 gA6 => ?_)
  rw [k5]
  obtain ⟨B6, eB6⟩ : ∃ q, q = pm_hpush B5 l.toInt.toNat (.inl (0, l.toInt.toNat, .inl A6)) := ⟨_, rfl⟩
  rw [← eB6]
  have k6 : B6.1 = x + 7 := by rw [eB6]; show B5.1 + 1 = _; omega
  have w6 : B6.2.1 = B5.2.1 + l.toInt.toNat := by rw [eB6]; rfl
  have g6 : ∀ b, b < x → B6.2.2 b = h0.2.2 b := fun b hb => by rw [eB6, al_o (by omega)]; exact g5 b hb
  have n6 : B6.2.2 (x + 6) = .inl (0, l.toInt.toNat, .inl A6) := by rw [eB6, show x + 6 = B5.1 by omega]; exact al_n
  have u6 : ∀ b, b < x + 6 → B6.2.2 b = B5.2.2 b := fun b hb => by rw [eB6]; exact al_o (by omega)
  clear eB6
  show hq_W X d 7 true none pm_c61 (110, [some (.ref x), some (.ref 64)], [], pm_hset B6 x (.inr (7, [.int c, .ref (x + 1), .ref (x + 2), .ref (x + 3), .ref (x + 4), .ref (x + 5), .int l, .ref (x + 6), .null, .int 0]))) _
  refine cy_step (i := 8) (lf := 6) (cell := 71) (ln := 400) (n := l) hd rfl rfl rfl rfl rfl rfl rfl I0 hx.symm (by omega) g6 (by decide) (by decide) rfl rfl rfl (by decide) (by decide) rfl (by omega) (by omega) rfl (fun A7 gA7 => ?_)
  rw [k6]
  obtain ⟨B7, eB7⟩ : ∃ q, q = pm_hpush B6 l.toInt.toNat (.inl (0, l.toInt.toNat, .inl A7)) := ⟨_, rfl⟩
  rw [← eB7]
  have k7 : B7.1 = x + 8 := by rw [eB7]; show B6.1 + 1 = _; omega
  have w7 : B7.2.1 = B6.2.1 + l.toInt.toNat := by rw [eB7]; rfl
  have g7 : ∀ b, b < x → B7.2.2 b = h0.2.2 b := fun b hb => by rw [eB7, al_o (by omega)]; exact g6 b hb
  have n7 : B7.2.2 (x + 7) = .inl (0, l.toInt.toNat, .inl A7) := by rw [eB7, show x + 7 = B6.1 by omega]; exact al_n
  have u7 : ∀ b, b < x + 7 → B7.2.2 b = B6.2.2 b := fun b hb => by rw [eB7]; exact al_o (by omega)
  clear eB7
  show hq_W X d 7 true none pm_c61 (125, [some (.ref x), some (.ref 64)], [], pm_hset B7 x (.inr (7, [.int c, .ref (x + 1), .ref (x + 2), .ref (x + 3), .ref (x + 4), .ref (x + 5), .int l, .ref (x + 6), .ref (x + 7), .int 0]))) _
  refine cy_int (i := 9) rfl rfl rfl rfl I0 hx.symm (by omega) g7 (by decide) rfl rfl rfl ?_
  rw [ep]
  show hq_W X d 7 true none pm_c61 (133, [some (.ref x), some (.ref 64)], [], pm_hset B7 x (.inr (7, [.int c, .ref (x + 1), .ref (x + 2), .ref (x + 3), .ref (x + 4), .ref (x + 5), .int l, .ref (x + 6), .ref (x + 7), .int p]))) _
  refine hq_W.ret rfl rfl rfl ⟨rfl, k7, ?_, ?_, fun b hb => (hs_oth (by omega)).trans (g7 b hb), ?_⟩
  · show h0.2.1 + 10 ≤ B7.2.1; omega
  · show B7.2.1 ≤ h0.2.1 + 870; omega
  · refine ⟨c, l, x9, show x + 7 < B7.1 by omega, c0, c1, l0, l1, ⟨p, hs_same⟩, fun i i0 i1 => ?_, ⟨A6, (hs_oth (by omega)).trans (by rw [u7 (x + 6) (by omega), n6])⟩, A7, (hs_oth (by omega)).trans n7, fun j hj => ?_⟩
    · have q : i = 1 ∨ i = 2 ∨ i = 3 ∨ i = 4 ∨ i = 5 := by omega
      rcases q with rfl | rfl | rfl | rfl | rfl
      · exact ⟨A1, (hs_oth (by omega)).trans (by rw [u7 (x + 1) (by omega), u6 (x + 1) (by omega), u5 (x + 1) (by omega), u4 (x + 1) (by omega), u3 (x + 1) (by omega), u2 (x + 1) (by omega), n1])⟩
      · exact ⟨A2, (hs_oth (by omega)).trans (by rw [u7 (x + 2) (by omega), u6 (x + 2) (by omega), u5 (x + 2) (by omega), u4 (x + 2) (by omega), u3 (x + 2) (by omega), n2])⟩
      · exact ⟨A3, (hs_oth (by omega)).trans (by rw [u7 (x + 3) (by omega), u6 (x + 3) (by omega), u5 (x + 3) (by omega), u4 (x + 3) (by omega), n3])⟩
      · exact ⟨A4, (hs_oth (by omega)).trans (by rw [u7 (x + 4) (by omega), u6 (x + 4) (by omega), u5 (x + 4) (by omega), n4])⟩
      · exact ⟨A5, (hs_oth (by omega)).trans (by rw [u7 (x + 5) (by omega), u6 (x + 5) (by omega), n5])⟩
    · rw [gA7 j hj]
      exact I0.2.2.2.1 71 j (by decide) (by show j < 400; omega)
end TXC
