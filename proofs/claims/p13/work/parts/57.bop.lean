/-! WHO BEARS WHAT: the least of all sets is one of them -/
section BOP
theorem nm_0shr {x y : Int32} (h : x.toInt = 0) : (x >>> y).toInt = 0 := by
  have e : x = 0 := nm_eqi.mpr (by rw [h, nm_0])
  subst e
  have q : (0 : Int32) >>> y = 0 := by first | exact Int32.zero_shiftRight | simp
  rw [q, nm_0]
def bo_G (r : Int32) : Int := ((1 : Int32) <<< (r &&& 31)).toInt
theorem bo_or {r a b : Int32} (r0 : 0 ≤ r.toInt) (r1 : r.toInt ≤ 8) (a0 : 0 ≤ a.toInt) (a1 : a.toInt < bo_G r) (b0 : 0 ≤ b.toInt) (b1 : b.toInt < bo_G r) : 0 ≤ (a ||| b).toInt ∧ (a ||| b).toInt < bo_G r := by
  obtain ⟨k1, k2⟩ := nm_nn a0
  obtain ⟨k3, k4⟩ := nm_nn b0
  have e : (a ||| b).toBitVec.toNat = a.toBitVec.toNat ||| b.toBitVec.toNat := rfl
  have key : ∀ n : Nat, n ≤ 8 → bo_G r = 2 ^ n → 0 ≤ (a ||| b).toInt ∧ (a ||| b).toInt < bo_G r := by
    intro n hn g
    rw [g] at a1 b1 ⊢
    have g2 : ((2 : Int) ^ n) = ((2 ^ n : Nat) : Int) := by simp
    rw [g2] at a1 b1 ⊢
    have l : a.toBitVec.toNat ||| b.toBitVec.toNat < 2 ^ n := Nat.or_lt_two_pow (by omega) (by omega)
    have t : (2 : Nat) ^ n ≤ 2 ^ 8 := Nat.pow_le_pow_right (by omega) hn
    have := nm_ofn (x := a ||| b) (by omega)
    omega
  have c : r.toInt = 0 ∨ r.toInt = 1 ∨ r.toInt = 2 ∨ r.toInt = 3 ∨ r.toInt = 4 ∨ r.toInt = 5 ∨ r.toInt = 6 ∨ r.toInt = 7 ∨ r.toInt = 8 := by omega
  rcases c with c | c | c | c | c | c | c | c | c
  · exact key 0 (by omega) (by have ey := nm_eq c; subst ey; decide)
  · exact key 1 (by omega) (by have ey := nm_eq c; subst ey; decide)
  · exact key 2 (by omega) (by have ey := nm_eq c; subst ey; decide)
  · exact key 3 (by omega) (by have ey := nm_eq c; subst ey; decide)
  · exact key 4 (by omega) (by have ey := nm_eq c; subst ey; decide)
  · exact key 5 (by omega) (by have ey := nm_eq c; subst ey; decide)
  · exact key 6 (by omega) (by have ey := nm_eq c; subst ey; decide)
  · exact key 7 (by omega) (by have ey := nm_eq c; subst ey; decide)
  · exact key 8 (by omega) (by have ey := nm_eq c; subst ey; decide)
theorem bo_Gb {r : Int32} (r0 : 0 ≤ r.toInt) (r1 : r.toInt ≤ 8) : 1 ≤ bo_G r ∧ bo_G r ≤ 256 := nm_shl1 (x := 1) (by decide) r0 r1
theorem bo_Ge {x y r : Int32} (h : x.toInt = 1) (e : y.toInt = r.toInt) : (x <<< (y &&& 31)).toInt = bo_G r := by
  have e1 : x = 1 := nm_eqi.mpr (by rw [h]; decide)
  have e2 : y = r := nm_eqi.mpr e
  rw [e1, e2]
  rfl
/-- with one more set -/
def bo_w (C L : Nat → Int32) (y : Nat) (t s : Int32) : Int := if (t &&& s).toInt ≠ 0 ∨ (C (256 * y + s.toInt.toNat)).toInt = 100000000 then 100000000 else (C (256 * y + s.toInt.toNat)).toInt + (L (256 * (y + 1) + (t ||| s).toInt.toNat)).toInt
/-- costs are laid, up to y and s -/
def bo_p (C : Nat → Int32) (G y s : Int) : Prop := ∀ y' s' : Nat, (s' : Int) < G → ((y' : Int) < y ∨ ((y' : Int) = y ∧ (s' : Int) < s)) → 0 ≤ (C (256 * y' + s')).toInt ∧ (C (256 * y' + s')).toInt ≤ 100000000 ∧ (s' = 0 → (C (256 * y' + s')).toInt ≤ 9908)
theorem bo_p0 {C : Nat → Int32} {G y s : Int} (hy : y = 0) (hs : s ≤ 0) : bo_p C G y s := fun y' s' _ h => by omega
theorem bo_pn {C : Nat → Int32} {G y y2 s s2 : Int} (h : bo_p C G y s) (hs : G ≤ s) (e : y2 = y + 1) (e2 : s2 ≤ 0) : bo_p C G y2 s2 := fun y' s' g q => h y' s' g (by omega)
theorem bo_ps {C : Nat → Int32} {G y s s2 : Int} {i : Nat} {v : Int32} (h : bo_p C G y s) (hG : G ≤ 256) (hs : 0 ≤ s) (hsG : s < G) (hi : (i : Int) = 256 * y + s) (hy : 0 ≤ y) (v0 : 0 ≤ v.toInt) (v1 : v.toInt ≤ 100000000) (v2 : s = 0 → v.toInt ≤ 9908) (e : s2 = s + 1) : bo_p (upd C i v) G y s2 := by
  intro y' s' g q
  unfold upd
  by_cases c : 256 * y' + s' = i
  · rw [if_pos c]
    exact ⟨v0, v1, fun z => v2 (by omega)⟩
  · rw [if_neg c]
    exact h y' s' g (by omega)
/-- the least are laid, from the last yard to y, up to t -/
def bo_q (C L : Nat → Int32) (G n y t : Int) : Prop := ∀ y' t' : Nat, (t' : Int) < G → (y' : Int) ≤ n → (y < (y' : Int) ∨ ((y' : Int) = y ∧ (t' : Int) < t)) → 0 ≤ (L (256 * y' + t')).toInt ∧ (L (256 * y' + t')).toInt ≤ 9908 * (n - y') ∧ ((y' : Int) < n → ∃ s : Int32, 0 ≤ s.toInt ∧ s.toInt < G ∧ ∀ tt : Int32, tt.toInt = t' → bo_w C L y' tt s = (L (256 * y' + t')).toInt)
theorem bo_q0 {C L : Nat → Int32} {G n y t : Int} (hG : G ≤ 256) (hn : 0 ≤ n) (hy : y = n - 1) (ht : t ≤ 0) (h : ∀ k : Nat, (k : Int) < 256 → (L (256 * n.toNat + k)).toInt = 0) : bo_q C L G n y t := by
  intro y' t' g l q
  have e : y' = n.toNat := by omega
  subst e
  have z := h t' (by omega)
  exact ⟨by omega, by omega, fun k => by omega⟩
theorem bo_qn {C L : Nat → Int32} {G n y y2 t t2 : Int} (h : bo_q C L G n y t) (ht : G ≤ t) (e : y2 = y - 1) (e2 : t2 ≤ 0) : bo_q C L G n y2 t2 := fun y' t' g l q => h y' t' g l (by omega)
theorem bo_wu {C L : Nat → Int32} {y i : Nat} {t s v : Int32} (t0 : 0 ≤ t.toInt) (t1 : t.toInt ≤ 255) (s0 : 0 ≤ s.toInt) (s1 : s.toInt ≤ 255) (hi : i < 256 * (y + 1)) : bo_w C (upd L i v) y t s = bo_w C L y t s := by
  have q := nm_or8 t0 t1 s0 s1
  unfold bo_w
  rw [show upd L i v (256 * (y + 1) + (t ||| s).toInt.toNat) = L (256 * (y + 1) + (t ||| s).toInt.toNat) from by unfold upd; rw [if_neg (by omega)]]
theorem bo_qs {C L : Nat → Int32} {G n y t t2 : Int} {i : Nat} {v : Int32} (h : bo_q C L G n y t) (hG : G ≤ 256) (ht : 0 ≤ t) (htG : t < G) (hi : (i : Int) = 256 * y + t) (hy : 0 ≤ y) (hyn : y < n) (v0 : 0 ≤ v.toInt) (v1 : v.toInt ≤ 9908 * (n - y)) (hw : ∃ s : Int32, 0 ≤ s.toInt ∧ s.toInt < G ∧ ∀ tt : Int32, tt.toInt = t → bo_w C L y.toNat tt s = v.toInt) (e : t2 = t + 1) : bo_q C (upd L i v) G n y t2 := by
  intro y' t' g l q
  by_cases c : 256 * y' + t' = i
  · have e1 : y' = y.toNat := by omega
    have e2 : (t' : Int) = t := by omega
    rw [show upd L i v (256 * y' + t') = v from by unfold upd; rw [if_pos c]]
    refine ⟨v0, by omega, fun _ => ?_⟩
    obtain ⟨s, s0, s1, hs⟩ := hw
    refine ⟨s, s0, s1, fun tt et => ?_⟩
    rw [bo_wu (by omega) (by omega) s0 (by omega) (by omega), e1]
    exact hs tt (by omega)
  · rw [show upd L i v (256 * y' + t') = L (256 * y' + t') from by unfold upd; rw [if_neg c]]
    obtain ⟨r1, r2, r3⟩ := h y' t' g l (by omega)
    refine ⟨r1, r2, fun k => ?_⟩
    obtain ⟨s, s0, s1, hs⟩ := r3 k
    refine ⟨s, s0, s1, fun tt et => ?_⟩
    rw [bo_wu (by omega) (by omega) s0 (by omega) (by omega)]
    exact hs tt et
theorem bo_qw {C L : Nat → Int32} {G n y t : Int} (h : bo_q C L G n y t) (ht : 0 ≤ t) : bo_q C L G n y 0 := fun y' t' g l q => h y' t' g l (by omega)
/-- the least of the sets below s -/
def bo_n (C L : Nat → Int32) (y : Nat) (t : Int32) (s its : Int) : Prop := (s = 0 ∧ its = 100000000) ∨ (its ≤ bo_w C L y t 0 ∧ (its = 100000000 ∨ ∃ s' : Int32, 0 ≤ s'.toInt ∧ s'.toInt < s ∧ bo_w C L y t s' = its))
theorem bo_n0 {C L : Nat → Int32} {y : Nat} {t : Int32} {s its : Int} (h : s = 0) (e : its = 100000000) : bo_n C L y t s its := Or.inl ⟨h, e⟩
theorem bo_ns {C L : Nat → Int32} {y : Nat} {t z : Int32} {s s2 its its2 v : Int} (h : bo_n C L y t s its) (hz : z.toInt = s) (s0 : 0 ≤ s) (hv : v = bo_w C L y t z) (e : s2 = s + 1) (hi : (v < its ∧ its2 = v) ∨ (its ≤ v ∧ its2 = its)) (hb : its ≤ 100000000) : bo_n C L y t s2 its2 := by
  refine Or.inr ?_
  rcases h with ⟨h1, h2⟩ | ⟨h1, h2⟩
  · have ez : z = 0 := nm_eqi.mpr (by rw [hz, h1, nm_0])
    subst ez
    rcases hi with ⟨i1, i2⟩ | ⟨i1, i2⟩
    · exact ⟨by omega, Or.inr ⟨0, by omega, by omega, by omega⟩⟩
    · exact ⟨by omega, Or.inl (by omega)⟩
  · rcases hi with ⟨i1, i2⟩ | ⟨i1, i2⟩
    · exact ⟨by omega, Or.inr ⟨z, by omega, by omega, by omega⟩⟩
    · refine ⟨by omega, ?_⟩
      rcases h2 with h2 | ⟨s', a, b, c⟩
      · exact Or.inl (by omega)
      · exact Or.inr ⟨s', a, by omega, by omega⟩
theorem bo_w0 {C L : Nat → Int32} {G n yi : Int} {y : Nat} {t : Int32} (hc : bo_p C G n 0) (hq : bo_q C L G n yi 0) (hy : (y : Int) = yi) (hyn : yi < n) (t0 : 0 ≤ t.toInt) (t1 : t.toInt < G) : bo_w C L y t 0 ≤ 9908 * (n - yi) := by
  have c := hc y 0 (by omega) (Or.inl (by omega))
  have q := hq (y + 1) t.toInt.toNat (by omega) (by omega) (Or.inl (by omega))
  have e1 : t &&& 0 = 0 := by first | exact Int32.and_zero | simp
  have e2 : t ||| 0 = t := by first | exact Int32.or_zero | simp
  unfold bo_w
  rw [e1, e2, nm_0]
  have c3 := c.2.2 rfl
  rw [show ((0 : Int).toNat) = 0 from rfl]
  have k : ¬ ((0 : Int) ≠ 0 ∨ (C (256 * y + 0)).toInt = 100000000) := by omega
  rw [if_neg k]
  have q2 := q.2.1
  have : ((y + 1 : Nat) : Int) = yi + 1 := by omega
  rw [this] at q2
  omega
theorem bo_we {C L : Nat → Int32} {G n yi s its : Int} {y : Nat} {t : Int32} (h : bo_n C L y t s its) (hc : bo_p C G n 0) (hq : bo_q C L G n yi 0) (hy : (y : Int) = yi) (hyn : yi < n) (n8 : n ≤ 8) (y0 : 0 ≤ yi) (t0 : 0 ≤ t.toInt) (t1 : t.toInt < G) (hs : s = G) (hG : 1 ≤ G) : its ≤ 9908 * (n - yi) ∧ ∃ s : Int32, 0 ≤ s.toInt ∧ s.toInt < G ∧ ∀ tt : Int32, tt.toInt = t.toInt → bo_w C L y tt s = its := by
  have b := bo_w0 hc hq hy hyn t0 t1
  rcases h with ⟨h1, h2⟩ | ⟨h1, h2⟩
  · omega
  · refine ⟨by omega, ?_⟩
    rcases h2 with h2 | ⟨s', a, b', c⟩
    · omega
    · refine ⟨s', a, by omega, fun tt e => ?_⟩
      have : tt = t := nm_eqi.mpr e
      rw [this]
      exact c
end BOP
