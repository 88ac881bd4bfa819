/-! the two constructors, by the evaluator; the law's first instructions -/
section WLK
def sk_nc : ev_Ca := fun _ _ _ => none
noncomputable def sk_ckf : Bool := match ev_nw 3 10 sk_nc (0, 0, []) [] [] ev_h0 with
  | some (.inl (_, _, _, g1)) => (match ev_rn (0, 0, []) 20 82 [(2, 0)] g1 with
    | some (h1, none) => (match ev_nw 11 11 sk_nc (0, 0, []) [] [] h1 with
      | some (.inl (_, _, _, g2)) => (match ev_rn (0, 0, []) 20 135 [(2, 97)] g2 with
        | some (h2, none) => (Nat.beq h1.1 97 && (Nat.ble (pm_cn 10) h1.2.1 && Nat.ble (Nat.add h1.2.1 (pm_cn 11)) 30526)) && (Nat.beq h2.1 129 && (Nat.beq h2.2.1 30526 && ev_eL (ev_eL ev_eC) h2.2.2 sk_E.2.2))
        | _ => false)
      | _ => false)
    | _ => false)
  | _ => false
set_option maxRecDepth 100000 in
theorem sk_ck : sk_ckf = true := by decide +kernel
theorem sk_runs : ∃ (s1 : ev_S) (h1 : ev_H) (s2 : ev_S), ev_nw 3 10 sk_nc (0, 0, []) [] [] ev_h0 = some (.inl s1) ∧ ev_rn (0, 0, []) 20 82 [(2, 0)] s1.2.2.2 = some (h1, none) ∧ (h1.1 = 97 ∧ pm_cn 10 ≤ h1.2.1 ∧ h1.2.1 + pm_cn 11 ≤ 30526) ∧ ev_nw 11 11 sk_nc (0, 0, []) [] [] h1 = some (.inl s2) ∧ ev_rn (0, 0, []) 20 135 [(2, 97)] s2.2.2.2 = some (sk_E, none) := by
  have h := sk_ck
  unfold sk_ckf at h
  cases w1 : ev_nw 3 10 sk_nc (0, 0, []) [] [] ev_h0 with
  | none => rw [w1] at h; cases h
  | some o1 =>
    rw [w1] at h
    cases o1 with
    | inr r => cases h
    | inl s1 =>
      obtain ⟨p1, l1, t1, g1⟩ := s1
      dsimp only at h
      cases w2 : ev_rn (0, 0, []) 20 82 [(2, 0)] g1 with
      | none => rw [w2] at h; cases h
      | some r1 =>
        rw [w2] at h
        obtain ⟨h1, v1⟩ := r1
        cases v1 with
        | some v => cases h
        | none =>
          dsimp only at h
          cases w3 : ev_nw 11 11 sk_nc (0, 0, []) [] [] h1 with
          | none => rw [w3] at h; cases h
          | some o2 =>
            rw [w3] at h
            cases o2 with
            | inr r => cases h
            | inl s2 =>
              obtain ⟨p2, l2, t2, g2⟩ := s2
              dsimp only at h
              cases w4 : ev_rn (0, 0, []) 20 135 [(2, 97)] g2 with
              | none => rw [w4] at h; cases h
              | some r2 =>
                rw [w4] at h
                obtain ⟨h2, v2⟩ := r2
                cases v2 with
                | some v => cases h
                | none =>
                  obtain ⟨q1, q2⟩ := sk_and h
                  obtain ⟨a1, q3⟩ := sk_and q1
                  obtain ⟨a2, a3⟩ := sk_and q3
                  obtain ⟨b1, q4⟩ := sk_and q2
                  obtain ⟨b2, b3⟩ := sk_and q4
                  have e : h2 = sk_E := by
                    obtain ⟨y1, y2, y3⟩ := h2
                    have f1 : y1 = 129 := ev_be b1
                    have f2 : y2 = 30526 := ev_be b2
                    have f3 : y3 = sk_E.2.2 := ev_eL_ok (ev_eL_ok ev_eC_ok) _ _ b3
                    subst f1
                    subst f2
                    subst f3
                    rfl
                  subst e
                  exact ⟨_, h1, _, rfl, w2, ⟨ev_be a1, ev_le a2, ev_le a3⟩, w3, w4⟩
theorem sk_nwR {xs : Nat → Int32} {pc ci : Nat} {h : ev_H} {s : ev_S} {ph : pm_H} (hci : ci < 12) (R : ev_RH xs h ph) (w : ev_nw (Nat.add pc 3) ci sk_nc (0, 0, []) [] [] h = some (.inl s)) : ev_RH xs s.2.2.2 (pm_hpush ph (pm_cn ci) (.inr (ci, pm_newN ci))) := by
  obtain ⟨ps, e, r⟩ := ev_t_new (L := 0) (xs := xs) (E := (0, 0, [])) (cE := sk_nc) (cP := fun _ _ _ => none) (o := 0) (ini := false) (ret := none) (nL := 0) (pc := pc) (len := 0) (a := ci) (b := 0) (v := .null) (ix := 0) hci [] [] h ph s rfl R w
  have e2 : pm_step (pm_sX 0 xs) (fun _ _ _ => none) 0 false none pc (([] : List ev_V).map (ev_dL xs)) (([] : List ev_V).map (ev_dV xs)) ph (.new 0) 0 ci 0 .null = (bif decide (ci < 12) then some (.inl (pc + 3, [], [.ref ph.1], pm_hpush ph (pm_cn ci) (.inr (ci, pm_newN ci)))) else none) := rfl
  rw [e2, decide_eq_true hci] at e
  have e3 : (pc + 3, [], [.ref ph.1], pm_hpush ph (pm_cn ci) (.inr (ci, pm_newN ci))) = ps := Sum.inl.inj (Option.some.inj e)
  rw [← e3] at r
  exact r.2.2.2.2
theorem sk_po (h : pm_H) (n ci : Nat) (vs : List Value) : pm_obj (pm_hpush h n (.inr (ci, vs))) (.ref h.1) = some (h.1, ci, vs) := by
  unfold pm_obj pm_hpush
  dsimp only
  rw [va_up_self, decide_eq_true (Nat.lt_succ_self h.1)]
  rfl
theorem sk_pre {h : pm_H} {st : List Value} {na : Nat} {cls : String} {x ci : Nat} {vs : List Value} (ho : pm_obj h (.ref x) = some (x, ci, vs)) (hl : (st.take na).getLastD .null = .ref x) (hw : (decide (na ≤ st.length) && pm_w8 (st.drop na)) = true) (hc : pm_cnm ci = cls) : hq_pre h st 2 na cls = true := by
  unfold hq_pre
  rw [hw, hl, ho]
  exact decide_eq_true hc
theorem sk_arg (xs : Nat → Int32) (q : Nat) : ([(2, q)] : List ev_V).map (ev_dV xs) = [.ref q] := rfl
set_option maxRecDepth 20000 in
theorem sk_start {L : Nat} {xs : Nat → Int32} {Q : pm_H → Option Value → Prop} (k : ∀ p, ev_RH xs sk_E p → hq_W (pm_sX L xs) 120 12 false (some .boolean) pm_cL (18, [some (.retAddr 200), some (.ref 0), some (.ref 97), some (.int 0)], [], p) Q) : hq_W (pm_sX L xs) 120 12 false (some .boolean) pm_cL (0, [some (.retAddr 200), none, none, none], [], pm_h0) Q := by
  obtain ⟨s1, h1, s2, w1, w2, ⟨w0, y1, y2⟩, w3, w4⟩ := sk_runs
  have E0 : ev_sat (0, 0, []) L xs := ⟨Or.inl rfl, (fun h => by cases h), (fun i q h => by cases h)⟩
  have R0 : ev_RH xs ev_h0 pm_h0 := (ev_s0_ok xs).2.2.2.2
  have R1 := sk_nwR (pc := 0) (by decide) R0 w1
  obtain ⟨pr1, c1, R2⟩ := (ev_rn_ok E0 20).1 82 [(2, 0)] s1.2.2.2 _ _ w2 R1
  obtain ⟨q1, v1⟩ := pr1
  obtain ⟨R2, e1⟩ := R2
  have e1 : v1 = none := e1
  subst e1
  have R2 : ev_RH xs h1 q1 := R2
  have z1 : q1.1 = 97 := R2.1.trans w0
  have z2 : q1.2.1 = h1.2.1 := R2.2.1
  have R3 := sk_nwR (pc := 8) (by decide) R2 w3
  obtain ⟨pr2, c2, R4⟩ := (ev_rn_ok E0 20).1 135 [(2, 97)] s2.2.2.2 _ _ w4 R3
  obtain ⟨q2, v2⟩ := pr2
  obtain ⟨R4, e2⟩ := R4
  have e2 : v2 = none := e2
  subst e2
  have R4 : ev_RH xs sk_E q2 := R4
  have z3 : q2.1 = 129 := R4.1
  have z4 : q2.2.1 = 30526 := R4.2.1
  rw [sk_arg] at c1 c2
  have m1 : hq_M (pm_sX L xs) 20 82 [.ref 0] (pm_hpush pm_h0 (pm_cn 10) (.inr (10, pm_newN 10))) (fun h v => h = q1 ∧ v = none) := ⟨0 + 2 ^ 17, (q1, none), c1, rfl, rfl⟩
  have m2 : hq_M (pm_sX L xs) 20 135 [.ref 97] (pm_hpush q1 (pm_cn 11) (.inr (11, pm_newN 11))) (fun h v => h = q2 ∧ v = none) := ⟨0 + 2 ^ 17, (q2, none), c2, rfl, rfl⟩
  have o1 : pm_obj (pm_hpush pm_h0 (pm_cn 10) (.inr (10, pm_newN 10))) (.ref 0) = some (0, 10, pm_newN 10) := sk_po pm_h0 _ _ _
  have o2 : pm_obj (pm_hpush q1 (pm_cn 11) (.inr (11, pm_newN 11))) (.ref 97) = some (97, 11, pm_newN 11) := by
    have o := sk_po q1 (pm_cn 11) 11 (pm_newN 11)
    rw [z1] at o
    exact o
  refine hq_W.step 0 (s' := (3, [some (.retAddr 200), none, none, none], [.ref 0], pm_hpush pm_h0 (pm_cn 10) (.inr (10, pm_newN 10)))) rfl rfl (Nat.zero_le _) (Nat.zero_le _) ?_
  have g1 : (pm_hpush pm_h0 (pm_cn 10) (.inr (10, pm_newN 10))).1 ≤ q1.1 := by
    rw [z1]
    exact (by decide : 1 ≤ 97)
  have g2 : (pm_hpush pm_h0 (pm_cn 10) (.inr (10, pm_newN 10))).2.1 ≤ q1.2.1 := by
    show 0 + pm_cn 10 ≤ q1.2.1
    omega
  generalize pm_hpush pm_h0 (pm_cn 10) (.inr (10, pm_newN 10)) = H1 at m1 o1 g1 g2 ⊢
  refine hq_p rfl rfl ?_
  refine hq_inv 2 rfl (fun _ => rfl) rfl rfl rfl (sk_pre o1 rfl rfl rfl) ?_
  refine hq_M.mono (d := 20) (by decide) (fun h v q => ?_) m1
  obtain ⟨eh, ev⟩ := q
  rw [eh, ev]
  refine ⟨g1, g2, ?_⟩
  refine hq_p rfl rfl ?_
  refine hq_W.step 0 (s' := (11, [some (.retAddr 200), some (.ref 0), none, none], [.ref q1.1], pm_hpush q1 (pm_cn 11) (.inr (11, pm_newN 11)))) rfl rfl (Nat.le_succ _) (Nat.le_add_right _ _) ?_
  rw [z1]
  have g3 : (pm_hpush q1 (pm_cn 11) (.inr (11, pm_newN 11))).1 ≤ q2.1 := by
    show q1.1 + 1 ≤ q2.1
    omega
  have g4 : (pm_hpush q1 (pm_cn 11) (.inr (11, pm_newN 11))).2.1 ≤ q2.2.1 := by
    show q1.2.1 + pm_cn 11 ≤ q2.2.1
    omega
  generalize pm_hpush q1 (pm_cn 11) (.inr (11, pm_newN 11)) = H2 at m2 o2 g3 g4 ⊢
  refine hq_p rfl rfl ?_
  refine hq_inv 2 rfl (fun _ => rfl) rfl rfl rfl (sk_pre o2 rfl rfl rfl) ?_
  refine hq_M.mono (d := 20) (by decide) (fun h' v q => ?_) m2
  obtain ⟨eh, ev⟩ := q
  rw [eh, ev]
  refine ⟨g3, g4, ?_⟩
  refine hq_p rfl rfl ?_
  refine hq_p rfl rfl ?_
  refine hq_p rfl rfl ?_
  exact k q2 R4
end WLK
