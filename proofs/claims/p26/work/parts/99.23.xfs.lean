/-! THE CLASS'S READER: its state -/
section XFS
def xk (h : pm_H) (k : pd_K) : Prop := (hs_fI h 64 6).toInt = k.1 ∧ (∀ j, (hs_aI h 70 j).toInt = k.2.1 j) ∧ ∀ j, (hs_aI h 71 j).toInt = k.2.2 j
def xR (F : Nat → Int32) (T : Nat) (ord : Bool) (h : pm_H) (s lv : Nat) (k : pd_K) : Prop := xr F T h s ∧ (hs_fI h 62 5).toInt = lv ∧ (hs_fI h 62 6).toInt = (bif ord then 0 else 1) ∧ xk h k
theorem xk_u {f : Nat → Int32} {g : Nat → Int} {i n : Nat} {x : Int32} {y : Int} (h : ∀ j, (f j).toInt = g j) (hi : i = n) (hx : x.toInt = y) : ∀ j, (upd f i x j).toInt = pd_u g n y j := by
  intro j
  subst hi
  unfold upd pd_u
  by_cases e : j = i
  · rw [if_pos e, if_pos e]; exact hx
  · rw [if_neg e, if_neg e]; exact h j
theorem xk.pg {L : Nat → Prop} {h h1 : pm_H} {k : pd_K} (S : hs_Shape h) (K : xk h k) (p : pg L h h1) (n4 : ¬ L 64) (n0 : ¬ L 70) (n1 : ¬ L 71) : xk h1 k := by
  have sz := S.1
  refine ⟨by rw [p.fI (by omega) n4]; exact K.1, fun j => by rw [p.aI (by omega) n0]; exact K.2.1 j, fun j => by rw [p.aI (by omega) n1]; exact K.2.2 j⟩
theorem xR.adv {F : Nat → Int32} {T s lv : Nat} {ord : Bool} {k : pd_K} {h h1 : pm_H} (S : hs_Shape h) (R : xR F T ord h s lv k) (p : pg (fun a => a = 62) h h1) (o : xo 62 (fun k => k = 3 ∨ k = 4) h h1) (e3 : (hs_fI h1 62 3).toInt = (xt_S F T (xt_E F T s) : Nat)) (e4 : (hs_fI h1 62 4).toInt = (xt_E F T (xt_S F T (xt_E F T s)) : Nat)) : xR F T ord h1 (xt_N F T s) lv k := by
  have sz := S.1
  obtain ⟨⟨r1, r2, r3, r4, r5, r6⟩, q1, q2, q3⟩ := R
  refine ⟨⟨by rw [o.fI 1 (by decide)]; exact r1, by rw [p.aI (by omega) (by decide)]; exact r2, e3, e4, (xt_N_p (F := F) r5).2.1, r6⟩, by rw [o.fI 5 (by decide)]; exact q1, by rw [o.fI 6 (by decide)]; exact q2, q3.pg S p (by decide) (by decide) (by decide)⟩
theorem xR.code {F : Nat → Int32} {T s lv : Nat} {ord : Bool} {k k1 : pd_K} {L : Nat → Prop} {h h1 : pm_H} (S : hs_Shape h) (R : xR F T ord h s lv k) (p : pg L h h1) (n2 : ¬ L 62) (n3 : ¬ L 63) (K : xk h1 k1) : xR F T ord h1 s lv k1 := by
  have sz := S.1
  obtain ⟨⟨r1, r2, r3, r4, r5, r6⟩, q1, q2, q3⟩ := R
  exact ⟨⟨by rw [p.fI (by omega) n2]; exact r1, by rw [p.aI (by omega) n3]; exact r2, by rw [p.fI (by omega) n2]; exact r3, by rw [p.fI (by omega) n2]; exact r4, r5, r6⟩, by rw [p.fI (by omega) n2]; exact q1, by rw [p.fI (by omega) n2]; exact q2, K⟩
theorem xR.parts {F : Nat → Int32} {T s lv lv1 : Nat} {ord : Bool} {k : pd_K} {h h1 : pm_H} {z : Int32} (S : hs_Shape h) (R : xR F T ord h s lv k) (e : h1 = hs_sF h 62 3 5 (.int z)) (hz : z.toInt = lv1) : xR F T ord h1 s lv1 k := by
  have p : pg (fun a => a = 62) h h1 := pg.set e rfl
  have o : xo 62 (fun k => k = 5) h h1 := xo.set e rfl
  have sz := S.1
  obtain ⟨⟨r1, r2, r3, r4, r5, r6⟩, q1, q2, q3⟩ := R
  exact ⟨⟨by rw [o.fI 1 (by decide)]; exact r1, by rw [p.aI (by omega) (by decide)]; exact r2, by rw [o.fI 3 (by decide)]; exact r3, by rw [o.fI 4 (by decide)]; exact r4, r5, r6⟩, by rw [xf_fI_eq S e rfl (by decide) rfl]; exact hz, by rw [o.fI 6 (by decide)]; exact q2, q3.pg S p (by decide) (by decide) (by decide)⟩
theorem xs_qG {F : Nat → Int32} {T s k : Nat} (h : xs_q F T s k = true) : s < T := by
  unfold xs_q at h
  split at h
  all_goals first | exact md_G_lt h | exact md_W_lt h | cases h
end XFS
