/-! WAYS: what is left from each place, and that it falls -/
section WYP
theorem wy_cu {R L : Nat → Int32} {p q o : Nat} {v : Int32} (h : o ≠ p) : wy_c R (upd L p v) q o = wy_c R L q o := by
  unfold wy_c
  rw [show upd L p v o = L o from by unfold upd; rw [if_neg h]]
def wy_inv (R L : Nat → Int32) (pl : Int) : Prop := ∀ p : Nat, p < 6 → 0 ≤ (L p).toInt ∧ (L p).toInt ≤ 100000000 ∧ ((p : Int) = pl → (L p).toInt = 0) ∧ ((p : Int) ≠ pl → 1 ≤ (L p).toInt ∧ ((L p).toInt = 100000000 ∨ ∃ o, o < 6 ∧ wy_c R L p o ≤ (L p).toInt))
theorem wy_upd {R L : Nat → Int32} {pl : Int} {p o : Nat} {v : Int32} (hR : ∀ k, 50 ≤ k → k < 86 → -1 ≤ (R k).toInt) (I : wy_inv R L pl) (hp : p < 6) (ho : o < 6) (hv : v.toInt = wy_c R L p o) (hl : v.toInt < (L p).toInt) : wy_inv R (upd L p v) pl := by
  have v1 : 1 ≤ v.toInt := by rw [hv]; exact wy_pos (hR _ (by omega) (by omega)) (I o ho).1
  have ip := I p hp
  have np : (p : Int) ≠ pl := fun e => by have := ip.2.2.1 e; omega
  intro q hq
  by_cases e : q = p
  · subst e
    rw [show upd L q v q = v from by unfold upd; rw [if_pos rfl]]
    refine ⟨by omega, by omega, fun k => absurd k np, fun _ => ⟨v1, Or.inr ⟨o, ho, ?_⟩⟩⟩
    have no : o ≠ q := by
      intro k
      subst k
      unfold wy_c at hv
      split at hv
      · omega
      · have := hR (50 + 6 * o + o) (by omega) (by omega)
        omega
    rw [wy_cu no, ← hv]
    exact Int.le_refl _
  · have iq := I q hq
    rw [show upd L p v q = L q from by unfold upd; rw [if_neg e]]
    refine ⟨iq.1, iq.2.1, iq.2.2.1, fun k => ⟨(iq.2.2.2 k).1, ?_⟩⟩
    rcases (iq.2.2.2 k).2 with r | ⟨o', ho', r⟩
    · exact Or.inl r
    · by_cases f : (L q).toInt = 100000000
      · exact Or.inl f
      · refine Or.inr ⟨o', ho', ?_⟩
        by_cases g : o' = p
        · subst g
          unfold wy_c at r ⊢
          rw [show upd L o' v o' = v from by unfold upd; rw [if_pos rfl]]
          have q2 := iq.2.1
          have p2 := ip.2.1
          clear ip iq I
          split at r
          · exfalso; omega
          · rename_i n1
            rw [if_neg (by omega)]
            omega
        · rw [wy_cu g]
          exact r
def wy_s (L : Nat → Int32) : Int := (L 0).toInt + (L 1).toInt + (L 2).toInt + (L 3).toInt + (L 4).toInt + (L 5).toInt
theorem wy_s0 {R L : Nat → Int32} {pl : Int} (I : wy_inv R L pl) : 0 ≤ wy_s L := by
  have a0 := (I 0 (by omega)).1
  have a1 := (I 1 (by omega)).1
  have a2 := (I 2 (by omega)).1
  have a3 := (I 3 (by omega)).1
  have a4 := (I 4 (by omega)).1
  have a5 := (I 5 (by omega)).1
  unfold wy_s
  omega
theorem wy_su {L : Nat → Int32} {p : Nat} {v : Int32} (hp : p < 6) (h : v.toInt < (L p).toInt) : wy_s (upd L p v) + 1 ≤ wy_s L := by
  have e : ∀ q, (upd L p v q).toInt = if q = p then v.toInt else (L q).toInt := fun q => by unfold upd; split <;> rfl
  unfold wy_s
  rw [e 0, e 1, e 2, e 3, e 4, e 5]
  have c : p = 0 ∨ p = 1 ∨ p = 2 ∨ p = 3 ∨ p = 4 ∨ p = 5 := by omega
  rcases c with rfl | rfl | rfl | rfl | rfl | rfl <;> simp <;> omega
/-- no lane is better, up to here, if nothing fell -/
def wy_m (m : Int) (R L : Nat → Int32) (p o : Int) : Prop := m = 0 → ∀ p' o' : Nat, p' < 6 → o' < 6 → ((p' : Int) < p ∨ ((p' : Int) = p ∧ (o' : Int) < o)) → (L p').toInt ≤ wy_c R L p' o'
theorem wy_m1 {m : Int} {R L : Nat → Int32} {p o : Int} (h : m ≠ 0) : wy_m m R L p o := fun e => absurd e h
theorem wy_m0 {m : Int} {R L : Nat → Int32} {o : Int} (h : o ≤ 0) : wy_m m R L 0 o := fun _ p' o' _ _ q => by omega
theorem wy_ms {m : Int} {R L : Nat → Int32} {p o o2 : Int} (h : wy_m m R L p o) (hp : 0 ≤ p) (ho : 0 ≤ o) (e : o2 = o + 1) (hl : (L p.toNat).toInt ≤ wy_c R L p.toNat o.toNat) : wy_m m R L p o2 := by
  intro hm p' o' h1 h2 q
  by_cases c : (p' : Int) = p ∧ (o' : Int) = o
  · have e1 : p.toNat = p' := by omega
    have e2 : o.toNat = o' := by omega
    rw [e1, e2] at hl
    exact hl
  · exact h hm p' o' h1 h2 (by omega)
theorem wy_mn {m : Int} {R L : Nat → Int32} {p p2 o o2 : Int} (h : wy_m m R L p o) (e : p2 = p + 1) (ho : 6 ≤ o) (e2 : o2 = 0) : wy_m m R L p2 o2 := by
  intro hm p' o' h1 h2 q
  exact h hm p' o' h1 h2 (by omega)
/-- the end: each place that has a way has a next one -/
def wy_e (R L : Nat → Int32) (pl : Int) : Prop := wy_inv R L pl ∧ ∀ p' o' : Nat, p' < 6 → o' < 6 → (L p').toInt ≤ wy_c R L p' o'
theorem wy_me {m : Int} {R L : Nat → Int32} {p o pl : Int} (I : wy_inv R L pl) (h : wy_m m R L p o) (hm : m = 0) (hp : 6 ≤ p) : wy_e R L pl := ⟨I, fun p' o' h1 h2 => h hm p' o' h1 h2 (by omega)⟩
theorem wy_ex {R L : Nat → Int32} {pl : Int} (h : wy_e R L pl) {p : Nat} (hp : p < 6) (h1 : 1 ≤ (L p).toInt) (h2 : (L p).toInt < 100000000) : ∃ ow, ow < 6 ∧ wy_c R L p ow = (L p).toInt := by
  obtain ⟨I, f⟩ := h
  have ip := I p hp
  have np : (p : Int) ≠ pl := fun e => by have := ip.2.2.1 e; omega
  rcases (ip.2.2.2 np).2 with r | ⟨o, ho, r⟩
  · omega
  · have := f p o hp ho
    exact ⟨o, ho, by omega⟩
theorem wy_nx {R L : Nat → Int32} {p o : Nat} (hR : ∀ k, 50 ≤ k → k < 86 → -1 ≤ (R k).toInt) (hp : p < 6) (ho : o < 6) (e : wy_c R L p o = (L p).toInt) (h2 : (L p).toInt < 100000000) : ∃ s : Int, 0 ≤ s ∧ (L p).toInt = 100 * s + 1 + (L o).toInt := by
  unfold wy_c at e
  split at e
  · omega
  · have := hR (50 + 6 * p + o) (by omega) (by omega)
    exact ⟨(R (50 + 6 * p + o)).toInt, by omega, by omega⟩
theorem wy_R {h : pm_H} (I : ty_I h) : ∀ k, 50 ≤ k → k < 86 → -1 ≤ (hs_aI h 99 k).toInt := by
  intro k h0 h1
  have q := (I.2.2.2.1 99 k (by decide) (by show k < 5498; omega)).1
  rw [ty_w50 h0 h1] at q
  exact q
end WYP
