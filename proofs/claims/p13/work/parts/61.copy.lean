/-! IMAGES: the whole row is copied, and back -/
section CPY
def cp_h (h : pm_H) (c n : Nat) (src : Nat → Int32) (s d k : Nat) : pm_H := pm_hset h c (.inl (0, n, .inl (va_cpy src (hs_aI h c) s d k)))
theorem cp_0 {h : pm_H} (S : hs_Shape h) {c n : Nat} {src : Nat → Int32} {s d : Nat} (hs : hs_sh c = (0, n, [])) (hc : c < 129) : cp_h h c n src s d 0 = h := by
  unfold cp_h
  have e : va_cpy src (hs_aI h c) s d 0 = hs_aI h c := by
    funext k
    unfold va_cpy
    rw [if_neg (by omega)]
  rw [e, ty_set_id (ty_cell_a S hs hc)]
theorem cp_a {h : pm_H} {c n : Nat} {src : Nat → Int32} {s d k : Nat} : hs_aI (cp_h h c n src s d k) c = va_cpy src (hs_aI h c) s d k := by
  unfold cp_h
  rw [hs_aI, hs_same]
theorem cp_o {h : pm_H} {c n : Nat} {src : Nat → Int32} {s d k b : Nat} (hb : b ≠ c) : hs_aI (cp_h h c n src s d k) b = hs_aI h b := hs_aI_ne hb
theorem cp_S {h : pm_H} (S : hs_Shape h) {c n : Nat} {src : Nat → Int32} {s d k : Nat} (hs : hs_sh c = (0, n, [])) : hs_Shape (cp_h h c n src s d k) := by
  refine hs_keep S ?_
  rw [hs]
  exact ⟨rfl, rfl, ⟨_, rfl⟩⟩
theorem cp_s {h : pm_H} {c n : Nat} {src : Nat → Int32} {s d k : Nat} : hs_sA (cp_h h c n src s d k) c 0 n (d + k) (src (s + k)) = cp_h h c n src s d (k + 1) := by
  unfold hs_sA
  rw [cp_a]
  have e2 : upd (va_cpy src (hs_aI h c) s d k) (d + k) (src (s + k)) = va_cpy src (hs_aI h c) s d (k + 1) := by
    funext j
    unfold upd va_cpy
    by_cases q1 : j = d + k
    · subst q1
      rw [if_pos rfl, if_pos (by omega)]
      congr 1
      omega
    · rw [if_neg q1]
      by_cases q2 : d ≤ j ∧ j < d + k
      · rw [if_pos q2, if_pos (by omega)]
      · rw [if_neg q2, if_neg (by omega)]
  rw [e2]
  unfold cp_h
  exact ty_set_set
def im_h (h : pm_H) (k : Nat) : pm_H := cp_h h 100 10996 (hs_aI h 99) 0 (5498 * k) 5498
def bk_h (h : pm_H) (k : Nat) : pm_H := cp_h h 99 5498 (hs_aI h 100) (5498 * k) 0 5498
theorem im_loop {X : pm_X} {d : Nat} {Q : pm_H → Option Value → Prop} {x1 : Int32} (h0 : 0 ≤ x1.toInt) (h1 : x1.toInt ≤ 1) {h : pm_H} (S : hs_Shape h) (K : ∀ z : Int32, hq_W X d 11 false (some .int) pm_c147 (54, [some (.ref 97), some (.int x1), some (.int z)], [], im_h h x1.toInt.toNat) Q) {z : Int32} (hz : z.toInt = 0) : hq_W X d 11 false (some .int) pm_c147 (23, [some (.ref 97), some (.int x1), some (.int z)], [], h) Q := by
  have L : ∀ n : Nat, ∀ (y : Int32) (hh : pm_H), (5498 - y.toInt).toNat = n → 0 ≤ y.toInt → y.toInt ≤ 5498 → hh = cp_h h 100 10996 (hs_aI h 99) 0 (5498 * x1.toInt.toNat) y.toInt.toNat → hq_W X d 11 false (some .int) pm_c147 (23, [some (.ref 97), some (.int x1), some (.int y)], [], hh) Q := by
    intro n
    induction n using Nat.strongRecOn with
    | ind n ih =>
      intro y hh m y0 y1 e
      have Sh : hs_Shape hh := by rw [e]; exact cp_S S rfl
      refine hq_p rfl rfl ?_
      refine hq_p rfl rfl (ty_ge (n := 5498) nk_s5498 (fun z1 e1 => ?_))
      refine ty_ige rfl (fun c => ?_) (fun c => ?_)
      · have e9 : y.toInt.toNat = 5498 := by omega
        rw [e, e9]
        exact K y
      · refine hq_p rfl rfl ?_
        refine hq_gR Sh rfl rfl (by decide) (by decide) rfl ?_
        refine hq_p rfl rfl (ty_ge (n := 5498) nk_s5498 (fun z2 e2 => ?_))
        refine hq_p rfl rfl ?_
        refine hq_p rfl rfl (ty_ge (n := 5498 * x1.toInt) (nm_cmul e2 (by omega) (by omega)) (fun z3 e3 => ?_))
        refine hq_p rfl rfl ?_
        refine hq_p rfl rfl (ty_ge (n := z3.toInt + y.toInt) (nm_add (by omega) (by omega)) (fun z4 e4 => ?_))
        refine hq_p rfl rfl ?_
        refine hq_gR Sh rfl rfl (by decide) (by decide) rfl ?_
        refine hq_p rfl rfl ?_
        refine hq_aL Sh rfl rfl (by decide) (by omega) (by omega) ?_
        refine hq_aS Sh rfl rfl (by decide) (by omega) (by omega) (fun S1 => ?_)
        refine ty_inc (ls' := fun z => [some (.ref 97), some (.int x1), some (.int z)]) rfl rfl (fun _ => rfl) (nm_addc nk_i1 (by omega) (by omega)) (fun z5 e5 => ?_)
        refine hq_p rfl rfl ?_
        refine ih ((5498 - z5.toInt).toNat) (by omega) z5 _ rfl (by omega) (by omega) ?_
        have k1 : z4.toInt.toNat = 5498 * x1.toInt.toNat + y.toInt.toNat := by omega
        have k2 : z5.toInt.toNat = y.toInt.toNat + 1 := by omega
        have k3 : hs_aI hh 99 y.toInt.toNat = hs_aI h 99 (0 + y.toInt.toNat) := by rw [e, cp_o (by decide), Nat.zero_add]
        show hs_sA hh 100 0 10996 z4.toInt.toNat (hs_aI hh 99 y.toInt.toNat) = _
        rw [k1, k2, k3, e]
        exact cp_s
  exact L _ z h rfl (by omega) (by omega) (by rw [hz]; exact (cp_0 S rfl (by decide)).symm)
theorem bk_loop {X : pm_X} {d : Nat} {Q : pm_H → Option Value → Prop} {x1 : Int32} (h0 : 0 ≤ x1.toInt) (h1 : x1.toInt ≤ 1) {h : pm_H} (S : hs_Shape h) (K : ∀ z : Int32, hq_W X d 11 false (some .int) pm_c148 (70, [some (.ref 97), some (.int x1), some (.int z)], [], bk_h h x1.toInt.toNat) Q) {z : Int32} (hz : z.toInt = 0) : hq_W X d 11 false (some .int) pm_c148 (39, [some (.ref 97), some (.int x1), some (.int z)], [], h) Q := by
  have L : ∀ n : Nat, ∀ (y : Int32) (hh : pm_H), (5498 - y.toInt).toNat = n → 0 ≤ y.toInt → y.toInt ≤ 5498 → hh = cp_h h 99 5498 (hs_aI h 100) (5498 * x1.toInt.toNat) 0 y.toInt.toNat → hq_W X d 11 false (some .int) pm_c148 (39, [some (.ref 97), some (.int x1), some (.int y)], [], hh) Q := by
    intro n
    induction n using Nat.strongRecOn with
    | ind n ih =>
      intro y hh m y0 y1 e
      have Sh : hs_Shape hh := by rw [e]; exact cp_S S rfl
      refine hq_p rfl rfl ?_
      refine hq_p rfl rfl (ty_ge (n := 5498) nk_s5498 (fun z1 e1 => ?_))
      refine ty_ige rfl (fun c => ?_) (fun c => ?_)
      · have e9 : y.toInt.toNat = 5498 := by omega
        rw [e, e9]
        exact K y
      · refine hq_p rfl rfl ?_
        refine hq_gR Sh rfl rfl (by decide) (by decide) rfl ?_
        refine hq_p rfl rfl ?_
        refine hq_p rfl rfl ?_
        refine hq_gR Sh rfl rfl (by decide) (by decide) rfl ?_
        refine hq_p rfl rfl (ty_ge (n := 5498) nk_s5498 (fun z2 e2 => ?_))
        refine hq_p rfl rfl ?_
        refine hq_p rfl rfl (ty_ge (n := 5498 * x1.toInt) (nm_cmul e2 (by omega) (by omega)) (fun z3 e3 => ?_))
        refine hq_p rfl rfl ?_
        refine hq_p rfl rfl (ty_ge (n := z3.toInt + y.toInt) (nm_add (by omega) (by omega)) (fun z4 e4 => ?_))
        refine hq_aL Sh rfl rfl (by decide) (by omega) (by omega) ?_
        refine hq_aS Sh rfl rfl (by decide) (by omega) (by omega) (fun S1 => ?_)
        refine ty_inc (ls' := fun z => [some (.ref 97), some (.int x1), some (.int z)]) rfl rfl (fun _ => rfl) (nm_addc nk_i1 (by omega) (by omega)) (fun z5 e5 => ?_)
        refine hq_p rfl rfl ?_
        refine ih ((5498 - z5.toInt).toNat) (by omega) z5 _ rfl (by omega) (by omega) ?_
        have k1 : z4.toInt.toNat = 5498 * x1.toInt.toNat + y.toInt.toNat := by omega
        have k2 : z5.toInt.toNat = y.toInt.toNat + 1 := by omega
        have k3 : hs_aI hh 100 (5498 * x1.toInt.toNat + y.toInt.toNat) = hs_aI h 100 (5498 * x1.toInt.toNat + y.toInt.toNat) := by rw [e, cp_o (by decide)]
        show hs_sA hh 99 0 5498 y.toInt.toNat (hs_aI hh 100 z4.toInt.toNat) = _
        rw [k1, k2, k3, e]
        have k4 := cp_s (h := h) (c := 99) (n := 5498) (src := hs_aI h 100) (s := 5498 * x1.toInt.toNat) (d := 0) (k := y.toInt.toNat)
        rw [Nat.zero_add] at k4
        exact k4
  exact L _ z h rfl (by omega) (by omega) (by rw [hz]; exact (cp_0 S rfl (by decide)).symm)
/-- typed again -/
theorem cp_I {h : pm_H} (I : ty_I h) {c n : Nat} {src : Nat → Int32} {s d k : Nat} (hs : hs_sh c = (0, n, [])) (hc : c < 129) (hb : ∀ i, i < k → (ty_a c (d + i)).1 ≤ (src (s + i)).toInt ∧ (src (s + i)).toInt ≤ (ty_a c (d + i)).2) (hX : ty_X (cp_h h c n src s d k)) : ty_I (cp_h h c n src s d k) := by
  obtain ⟨S, F, L, A, X⟩ := I
  have c1 : (cp_h h c n src s d k).2.2 c = .inl (0, n, .inl (va_cpy src (hs_aI h c) s d k)) := hs_same
  have c2 : h.2.2 c = .inl (0, n, .inl (hs_aI h c)) := ty_cell_a S hs hc
  have v1 : hs_vs (cp_h h c n src s d k) c = [] := by unfold hs_vs; rw [c1]
  have v2 : hs_vs h c = [] := by unfold hs_vs; rw [c2]
  have vv : ∀ b j, hs_fV (cp_h h c n src s d k) b j = hs_fV h b j := fun b j => by
    by_cases e : b = c
    · subst e
      unfold hs_fV
      rw [v1, v2]
    · exact hs_fV_ne e
  refine ⟨cp_S S hs, fun b j hb' => ?_, fun b j hb' => ?_, fun b i hb' hi => ?_, hX⟩
  · have q : hs_fI (cp_h h c n src s d k) b j = hs_fI h b j := by unfold hs_fI; rw [vv]
    rw [q]
    exact F b j hb'
  · have q : hs_fL (cp_h h c n src s d k) b j = hs_fL h b j := by unfold hs_fL; rw [vv]
    rw [q]
    exact L b j hb'
  · by_cases e : b = c
    · subst e
      rw [cp_a]
      unfold va_cpy
      by_cases q : d ≤ i ∧ i < d + k
      · rw [if_pos q]
        have r := hb (i - d) (by omega)
        rw [show d + (i - d) = i by omega] at r
        exact r
      · rw [if_neg q]
        exact A b i hb' hi
    · rw [cp_o e]
      exact A b i hb' hi
theorem lw_cong {R R' : Nat → Int32} {b b' : Nat} (e : ∀ j, j < 900 → R' (b' + j) = R (b + j)) (h : ty_lw R b) : ty_lw R' b' := by
  obtain ⟨h0, h1, h2⟩ := h
  have e1 := e 1 (by omega)
  refine ⟨by rw [e1]; exact h0, by rw [e1]; exact h1, fun c hc => ?_⟩
  rw [e1] at hc
  obtain ⟨a1, a2⟩ := h2 c hc
  have k : ∀ m, m < 8 → R' (b' + 2 + 8 * c + m) = R (b + 2 + 8 * c + m) := fun m hm => by
    have q := e (2 + 8 * c + m) (by omega)
    rw [show b' + (2 + 8 * c + m) = b' + 2 + 8 * c + m by omega, show b + (2 + 8 * c + m) = b + 2 + 8 * c + m by omega] at q
    exact q
  have w : ∀ s t : Int, ty_rw R b s t → ty_rw R' b' s t := by
    intro s t q
    obtain ⟨q0, q1, q2, D, hD⟩ := q
    refine ⟨q0, q1, q2, D, fun m m0 m1 => ?_⟩
    obtain ⟨r0, r1, r2⟩ := hD m m0 m1
    refine ⟨r0, r1, fun m2 => ?_⟩
    have x1 : R' (b' + 98 + 2 * m) = R (b + 98 + 2 * m) := by
      have q := e (98 + 2 * m) (by omega)
      rw [show b' + (98 + 2 * m) = b' + 98 + 2 * m by omega, show b + (98 + 2 * m) = b + 98 + 2 * m by omega] at q
      exact q
    have x2 : R' (b' + 98 + 2 * m + 1) = R (b + 98 + 2 * m + 1) := by
      have q := e (98 + 2 * m + 1) (by omega)
      rw [show b' + (98 + 2 * m + 1) = b' + 98 + 2 * m + 1 by omega, show b + (98 + 2 * m + 1) = b + 98 + 2 * m + 1 by omega] at q
      exact q
    dsimp only
    rw [x1, x2]
    exact r2 m2
  rw [k 3 (by omega), k 4 (by omega), k 5 (by omega), k 6 (by omega)]
  exact ⟨w _ _ a1, w _ _ a2⟩
theorem im_I {h : pm_H} (I : ty_I h) (h5 : (hs_aI h 99 5).toInt ≤ 999) {k : Nat} (hk : k < 2) : ty_I (im_h h k) := by
  have X := I.2.2.2.2
  refine cp_I I rfl (by decide) (fun i hi => ?_) ⟨fun t ht j hj x q => ?_, ?_, fun l hl => ?_, fun i l hi hl => ?_⟩
  · have q := I.2.2.2.1 99 i (by decide) hi
    rw [Nat.zero_add]
    have e : ty_a 100 (5498 * k + i) = ty_sb i := by
      show ty_sb ((5498 * k + i) % 5498) = ty_sb i
      rw [Nat.mul_add_mod, Nat.mod_eq_of_lt hi]
    rw [e]
    exact ty_sv q.1 q.2 (fun e => by rw [e]; exact h5)
  · have tl := ty_trl ht
    have e : hs_aR (im_h h k) (t + 10) = hs_aR h (t + 10) := tb_aR_ne (by omega)
    have q : hs_aR (im_h h k) (t + 10) j = some x := q
    rw [e] at q
    exact ty_tx_k (h := h) rfl (fun b hb => hs_oth (by omega)) (X.1 t ht j hj x q)
  · have e : hs_aR (im_h h k) 34 = hs_aR h 34 := tb_aR_ne (by decide)
    show hs_aR (im_h h k) 34 0 = some 35 ∧ hs_aR (im_h h k) 34 1 = some 46
    rw [e]
    exact X.2.1
  · have e : hs_aI (im_h h k) 99 = hs_aI h 99 := cp_o (by decide)
    show ty_lw (hs_aI (im_h h k) 99) (98 + 900 * l)
    rw [e]
    exact X.2.2.1 l hl
  · have e : hs_aI (im_h h k) 100 = va_cpy (hs_aI h 99) (hs_aI h 100) 0 (5498 * k) 5498 := cp_a
    show ty_lw (fun j => hs_aI (im_h h k) 100 (5498 * i + j)) (98 + 900 * l)
    rw [e]
    by_cases c : i = k
    · subst c
      refine lw_cong (fun j hj => ?_) (X.2.2.1 l hl)
      unfold va_cpy
      rw [if_pos (by omega)]
      congr 1
      omega
    · refine lw_cong (fun j hj => ?_) (X.2.2.2 i l hi hl)
      unfold va_cpy
      rw [if_neg (by omega)]
theorem bk_I {h : pm_H} (I : ty_I h) {k : Nat} (hk : k < 2) : ty_I (bk_h h k) := by
  have X := I.2.2.2.2
  refine cp_I I rfl (by decide) (fun i hi => ?_) ⟨fun t ht j hj x q => ?_, ?_, fun l hl => ?_, fun i l hi hl => ?_⟩
  · have q := I.2.2.2.1 100 (5498 * k + i) (by decide) (by show 5498 * k + i < 10996; omega)
    rw [Nat.zero_add]
    have e : ty_a 100 (5498 * k + i) = ty_sb i := by
      show ty_sb ((5498 * k + i) % 5498) = ty_sb i
      rw [Nat.mul_add_mod, Nat.mod_eq_of_lt hi]
    rw [e] at q
    have r := ty_sr i
    show (ty_rb i).1 ≤ _ ∧ _ ≤ (ty_rb i).2
    exact ⟨Int.le_trans r.1 q.1, Int.le_trans q.2 r.2⟩
  · have tl := ty_trl ht
    have e : hs_aR (bk_h h k) (t + 10) = hs_aR h (t + 10) := tb_aR_ne (by omega)
    have q : hs_aR (bk_h h k) (t + 10) j = some x := q
    rw [e] at q
    exact ty_tx_k (h := h) rfl (fun b hb => hs_oth (by omega)) (X.1 t ht j hj x q)
  · have e : hs_aR (bk_h h k) 34 = hs_aR h 34 := tb_aR_ne (by decide)
    show hs_aR (bk_h h k) 34 0 = some 35 ∧ hs_aR (bk_h h k) 34 1 = some 46
    rw [e]
    exact X.2.1
  · have e : hs_aI (bk_h h k) 99 = va_cpy (hs_aI h 100) (hs_aI h 99) (5498 * k) 0 5498 := cp_a
    show ty_lw (hs_aI (bk_h h k) 99) (98 + 900 * l)
    rw [e]
    refine lw_cong (b := 98 + 900 * l) (R := fun j => hs_aI h 100 (5498 * k + j)) (fun j hj => ?_) (X.2.2.2 k l hk hl)
    unfold va_cpy
    rw [if_pos (by omega)]
    rfl
  · have e : hs_aI (bk_h h k) 100 = hs_aI h 100 := cp_o (by decide)
    show ty_lw (fun j => hs_aI (bk_h h k) 100 (5498 * i + j)) (98 + 900 * l)
    rw [e]
    exact X.2.2.2 i l hi hl
theorem bk_5 {h : pm_H} (I : ty_I h) {k : Nat} (hk : k < 2) : (hs_aI (bk_h h k) 99 5).toInt ≤ 999 := by
  have e : hs_aI (bk_h h k) 99 = va_cpy (hs_aI h 100) (hs_aI h 99) (5498 * k) 0 5498 := cp_a
  have q := (I.2.2.2.1 100 (5498 * k + 5) (by decide) (by show 5498 * k + 5 < 10996; omega)).2
  have e2 : ty_a 100 (5498 * k + 5) = ty_sb 5 := by
    show ty_sb ((5498 * k + 5) % 5498) = ty_sb 5
    rw [Nat.mul_add_mod]
  rw [e2] at q
  rw [e]
  unfold va_cpy
  rw [if_pos (by omega)]
  exact q
end CPY
