/-! A REST ON PAPER: the hour may pass 999, and is brought back -/
section PAP
theorem rs_comm {h : pm_H} {a b : Nat} {c e : pm_C} (n : a ≠ b) : pm_hset (pm_hset h a c) b e = pm_hset (pm_hset h b e) a c := by
  unfold pm_hset
  have k : va_up (va_up h.2.2 a c) b e = va_up (va_up h.2.2 b e) a c := by
    funext q
    by_cases q1 : q = b
    · subst q1
      rw [va_up_self, va_up_ne _ _ (Ne.symm n), va_up_self]
    · rw [va_up_ne _ _ q1]
      by_cases q2 : q = a
      · subst q2
        rw [va_up_self, va_up_self]
      · rw [va_up_ne _ _ q2, va_up_ne _ _ q2, va_up_ne _ _ q1]
  dsimp only
  rw [k]
theorem rs_uu {f : Nat → Int32} {j : Nat} {x y : Int32} : upd (upd f j x) j y = upd f j y := by
  funext k
  unfold upd
  by_cases e : k = j
  · rw [if_pos e, if_pos e]
  · rw [if_neg e, if_neg e, if_neg e]
theorem rs_uc {f : Nat → Int32} {i j : Nat} {x y : Int32} (n : i ≠ j) : upd (upd f i x) j y = upd (upd f j y) i x := by
  funext k
  unfold upd
  by_cases e : k = j
  · rw [if_pos e, if_neg (fun q => n (q.symm.trans e)), if_pos e]
  · rw [if_neg e]
    by_cases q : k = i
    · rw [if_pos q, if_pos q]
    · rw [if_neg q, if_neg q, if_neg e]
def rs_h (h : pm_H) (u : Int32) : pm_H := hs_sA h 99 0 5498 5 u
def rs_J (J : pm_H → Prop) (h' : pm_H) : Prop := ∃ h0 u, J h0 ∧ 0 ≤ u.toInt ∧ u.toInt ≤ 1020 ∧ h' = rs_h h0 u
/-- what is done elsewhere may be done before -/
theorem rs_o {h : pm_H} {u : Int32} {b : Nat} {e : pm_C} (n : b ≠ 99) : pm_hset (rs_h h u) b e = rs_h (pm_hset h b e) u := by
  unfold rs_h hs_sA
  rw [rs_comm (Ne.symm n), hs_aI_ne (Ne.symm n)]
def ty_Wd (a k : Nat) : Prop := a = 200 ∨ (97 ≤ a ∧ a < 129 ∧ (a = 97 → k ≠ 11 ∧ k ≠ 13 ∧ k ≠ 20 ∧ k ≠ 21 ∧ k ≠ 23) ∧ (a = 99 → k < 98) ∧ a ≠ 100 ∧ a ≠ 106 ∧ a ≠ 107 ∧ a ≠ 108 ∧ a ≠ 109 ∧ a ≠ 127)
theorem rs_C {J : pm_H → Prop} (H : ty_C ty_Wz J) : ty_C ty_Wd (rs_J J) := by
  have hW : ∀ a k, ty_Wd a k → a < 129 → ty_Wz a k := fun a k w q => by unfold ty_Wd at w; unfold ty_Wz; omega
  refine ⟨fun h j => ?_, fun h a ci k u fs t j w a1 a2 a3 a4 a5 a6 => ?_, fun h a ci k u fs j w a1 a2 a3 a4 a5 => ?_, fun h a m i t x j w a1 a2 a3 a4 a5 a6 a7 => ?_, fun h a m i x j w a1 a2 a3 => ?_, fun w => absurd w (by unfold ty_Wd; omega), fun w h j => ?_, fun w => absurd w (by unfold ty_Wd; omega), fun h t j q p w a1 a2 a3 => ?_⟩
  · obtain ⟨h0, v, j, b0, b1, rfl⟩ := j
    exact tb_arr (H.1 h0 j) (by decide) rfl (Or.inl rfl) (fun _ => by decide) (by decide) b0 b1
  · obtain ⟨h0, v, j, b0, b1, rfl⟩ := j
    have n : a ≠ 99 := fun e => by subst e; have e : (0 : Nat) = 10 + ci := congrArg (fun q => q.1) a2; omega
    refine ⟨_, v, H.2.1 h0 a ci k u fs t j (hW _ _ w a1) a1 a2 a3 a4 a5 a6, b0, b1, ?_⟩
    have e : hs_vs (rs_h h0 v) a = hs_vs h0 a := hs_vs_ne n
    unfold hs_sF
    rw [rs_o n, e]
  · obtain ⟨h0, v, j, b0, b1, rfl⟩ := j
    have n : a ≠ 99 := fun e => by subst e; have e : (0 : Nat) = 10 + ci := congrArg (fun q => q.1) a2; omega
    refine ⟨_, v, H.2.2.1 h0 a ci k u fs j (hW _ _ w a1) a1 a2 a3 a4 a5, b0, b1, ?_⟩
    have e : hs_vs (rs_h h0 v) a = hs_vs h0 a := hs_vs_ne n
    unfold hs_sF
    rw [rs_o n, e]
  · obtain ⟨h0, v, j, b0, b1, rfl⟩ := j
    by_cases n : a = 99
    · subst n
      have e1 : t = 0 := (congrArg (fun q => q.1) a2).symm
      have e2 : m = 5498 := (congrArg (fun q => q.2.1) a2).symm
      subst e1
      subst e2
      have e3 : hs_aI (rs_h h0 v) 99 = upd (hs_aI h0 99) 5 v := hs_aI_sA
      by_cases q : i = 5
      · subst q
        refine ⟨h0, x, j, a5, a6, ?_⟩
        unfold hs_sA
        rw [e3, rs_uu]
        exact ty_set_set
      · refine ⟨_, v, H.2.2.2.1 h0 99 5498 i 0 x j (hW _ _ w a1) a1 a2 a3 a4 a5 a6 (fun _ e => absurd e q), b0, b1, ?_⟩
        unfold rs_h
        have e4 : hs_aI (hs_sA h0 99 0 5498 i x) 99 = upd (hs_aI h0 99) i x := hs_aI_sA
        have e5 : hs_sA (rs_h h0 v) 99 0 5498 i x = pm_hset (rs_h h0 v) 99 (.inl (0, 5498, .inl (upd (upd (hs_aI h0 99) 5 v) i x))) := by unfold hs_sA; rw [e3]
        have e6 : hs_sA (hs_sA h0 99 0 5498 i x) 99 0 5498 5 v = pm_hset (hs_sA h0 99 0 5498 i x) 99 (.inl (0, 5498, .inl (upd (upd (hs_aI h0 99) i x) 5 v))) := by
          show pm_hset (hs_sA h0 99 0 5498 i x) 99 (.inl (0, 5498, .inl (upd (hs_aI (hs_sA h0 99 0 5498 i x) 99) 5 v))) = _
          rw [e4]
        rw [e6]
        refine e5.trans ?_
        rw [rs_uc (Ne.symm q)]
        exact ty_set_set.trans ty_set_set.symm
    · refine ⟨_, v, H.2.2.2.1 h0 a m i t x j (hW _ _ w a1) a1 a2 a3 a4 a5 a6 (fun e => absurd e n), b0, b1, ?_⟩
      have e : hs_aI (rs_h h0 v) a = hs_aI h0 a := hs_aI_ne n
      unfold hs_sA
      rw [rs_o n, e]
  · obtain ⟨h0, v, j, b0, b1, rfl⟩ := j
    have n : a ≠ 99 := fun e => by subst e; have e : (0 : Nat) = 1 := congrArg (fun q => q.1) a2; omega
    refine ⟨_, v, H.2.2.2.2.1 h0 a _ i x j (hW _ _ w a1) a1 a2 a3, b0, b1, ?_⟩
    have e : hs_aL (rs_h h0 v) a = hs_aL h0 a := by unfold hs_aL; rw [show (rs_h h0 v).2.2 a = h0.2.2 a from hs_oth n]
    unfold hs_sL
    rw [rs_o n, e]
  · obtain ⟨h0, v, j, b0, b1, rfl⟩ := j
    have e : hs_fI (rs_h h0 v) 97 20 = hs_fI h0 97 20 := hs_fI_ne (by decide)
    rw [e]
    exact H.2.2.2.2.2.2.1 (by unfold ty_Wz; omega) h0 j
  · have tl := ty_trl a1
    unfold ty_Wd at w
    omega
/-- the hour is back -/
theorem rs_back {J : pm_H → Prop} (H : ty_C ty_Wz J) {h : pm_H} (j : rs_J J h) (e : (hs_aI h 99 5).toInt ≤ 999) : J h := by
  obtain ⟨h0, v, j, b0, b1, rfl⟩ := j
  have e3 : hs_aI (rs_h h0 v) 99 5 = v := ty_aI_eq rfl
  rw [e3] at e
  exact H.2.2.2.1 h0 99 5498 5 0 v j (by unfold ty_Wz; omega) (by decide) rfl (Or.inl rfl) (by decide) b0 b1 (fun _ _ _ => e)
theorem rs_in {J : pm_H → Prop} (H : ty_C ty_Wz J) {h : pm_H} (j : J h) : rs_J J h := by
  have I := H.1 h j
  have b := I.2.2.2.1 99 5 (by decide) (by decide)
  refine ⟨h, hs_aI h 99 5, j, b.1, b.2, ?_⟩
  unfold rs_h hs_sA
  have e : upd (hs_aI h 99) 5 (hs_aI h 99 5) = hs_aI h 99 := by
    funext k
    unfold upd
    by_cases q : k = 5
    · rw [if_pos q, q]
    · rw [if_neg q]
  rw [e]
  exact (ty_set_id (ty_cell_a I.1 rfl (by decide))).symm
end PAP
