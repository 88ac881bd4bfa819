/-! CONTRACTS (printed by wip/pm/cts.py) -/
section CT17
theorem ct_38 {X : pm_X} {d : Nat} {h : pm_H}  (hd : 1 ≤ d)   : ty_M X ty_Wr d 38 [.ref 62] h ty_pv := by
  intro J H hJ
  have I := H.1 h hJ
  have b3 := I.2.1 62 3 (by decide)
  have b4 := I.2.1 62 4 (by decide)
  refine (ct_38a hd (fun h' => ∃ u v : Int32, h' = ty_ad h u v ∧ 0 ≤ u.toInt ∧ u.toInt ≤ 400 ∧ 0 ≤ v.toInt ∧ v.toInt ≤ 400) (tk_adC I) ⟨hs_fI h 62 3, hs_fI h 62 4, (tk_id I.1).symm, b3.1, b3.2, b4.1, b4.2⟩).mono (Nat.le_refl _) (fun h' v q => ?_)
  obtain ⟨⟨u, w, e, c1, c2, c3, c4⟩, r, l, t⟩ := q
  subst e
  rw [tk_f3 I.1, tk_f4 I c1 c2] at l t
  exact ⟨(H.2.2.2.2.2.2.2.1 (by unfold ty_Wr; omega)).2 h u w hJ c1 l c4 t, r⟩
end CT17
