/-! CONTRACTS (printed by wip/pm/cts.py) -/
section CT29
/-- what is left -/
def ty_W5 (a _k : Nat) : Prop := a = 125
theorem ct_235 {X : pm_X} {d : Nat} {h : pm_H} {x1 : Int32} (hd : 2 ≤ d) (ax1 : 0 ≤ x1.toInt) (bx1 : x1.toInt ≤ 5) : ty_M X ty_W5 d 235 [.ref 97, .int x1] h (fun h1 v => v = none ∧ wy_e (hs_aI h 99) (hs_aI h1 125) x1.toInt) := by
  intro J0 H0 hJ0
  obtain ⟨R99, eR99⟩ : ∃ R, hs_aI h 99 = R := ⟨_, rfl⟩
  obtain ⟨J, eJ⟩ : ∃ J : pm_H → Prop, J = fun h' => J0 h' ∧ hs_aI h' 99 = R99 := ⟨_, rfl⟩
  have H : ty_C ty_W5 J := by rw [eJ]; exact H0.arr 99 (by decide) (fun k => by unfold ty_W5; omega) R99
  have hJ : J h := by rw [eJ]; exact ⟨hJ0, eR99⟩
  refine hq_M.mono (Nat.le_refl _) (Q := fun h' v => J h' ∧ (fun h1 v => v = none ∧ wy_e (hs_aI h 99) (hs_aI h1 125) x1.toInt) h' v) (fun h' v q => ⟨by have q1 := q.1; rw [eJ] at q1; exact q1.1, q.2⟩) ?_
  have hR : ∀ k, 50 ≤ k → k < 86 → -1 ≤ (R99 k).toInt := by rw [← eR99]; exact wy_R (H0.1 h hJ0)
  obtain ⟨d, rfl⟩ : ∃ e, d = e + 1 := ⟨d - 1, by omega⟩
  have I := H.1 h hJ
  refine hq_M.enter (q := (⟨"TrainBearersModel", "layLeft", "(I)V"⟩, _, 5, none, 11, 2, pm_c235)) rfl rfl ?_
  show hq_W X d 11 false (none) pm_c235 (0, [some (.ref 97), some (.int x1), none, none, none], [], h) (fun h' v => J h' ∧ (fun h1 v => v = none ∧ wy_e (hs_aI h 99) (hs_aI h1 125) x1.toInt) h' v)
  refine hq_p rfl rfl (ty_ge (n := 0) nk_i0 (fun z1 ez1 => ?_))
  refine hq_p (ls' := [some (.ref 97), some (.int x1), some (.int z1), none, none]) rfl rfl ?_
  have L2_n20 : ∀ n20 : Nat, ∀ (y16 : Int32) (h17 : pm_H), (6 - y16.toInt).toNat = n20 → 0 ≤ y16.toInt → y16.toInt ≤ 6 → (∀ q : Nat, (q : Int) < y16.toInt → ((hs_aI h17 125) q).toInt = if (q : Int) = x1.toInt then 0 else 100000000) → J h17 → hq_W X d 11 false (none) pm_c235 (2, [some (.ref 97), some (.int x1), some (.int y16), none, none], [], h17) (fun h' v => J h' ∧ (fun h1 v => v = none ∧ wy_e (hs_aI h 99) (hs_aI h1 125) x1.toInt) h' v) := by
    intro n20
    induction n20 using Nat.strongRecOn with
    | ind n20 ihn20 =>
      intro y16 h17 mn20 ay16 by16 x0n20 Jh17
      have Ih17 := H.1 h17 Jh17
      refine hq_p rfl rfl ?_
      refine hq_p rfl rfl (ty_ge (n := 6) nk_b6 (fun z21 ez21 => ?_))
      refine ty_ige rfl (fun c22 => ?_) (fun c22 => ?_)
      · have inv0 : wy_inv R99 (hs_aI h17 125) x1.toInt := by
          intro p hp
          have q := x0n20 p (by omega)
          rw [q]
          by_cases e : (p : Int) = x1.toInt
          · rw [if_pos e]; exact ⟨by omega, by omega, fun _ => rfl, fun k => absurd e k⟩
          · rw [if_neg e]; exact ⟨by omega, by omega, fun k => absurd k e, fun _ => ⟨by omega, Or.inl rfl⟩⟩
        refine hq_p rfl rfl (ty_ge (n := 1) nk_i1 (fun z23 ez23 => ?_))
        refine hq_p (ls' := [some (.ref 97), some (.int x1), some (.int z23), none, none]) rfl rfl ?_
        have L33_n36 : ∀ n36 : Nat, ∀ (y32 : Int32) (w33 : Option Value) (w34 : Option Value) (h35 : pm_H), (2 * wy_s (hs_aI h35 125) + y32.toInt).toNat = n36 → 0 ≤ y32.toInt → y32.toInt ≤ 1 → pm_two w33 = false → pm_two w34 = false → wy_inv R99 (hs_aI h35 125) x1.toInt → wy_m y32.toInt R99 (hs_aI h35 125) 6 0 → J h35 → hq_W X d 11 false (none) pm_c235 (33, [some (.ref 97), some (.int x1), some (.int y32), w33, w34], [], h35) (fun h' v => J h' ∧ (fun h1 v => v = none ∧ wy_e (hs_aI h 99) (hs_aI h1 125) x1.toInt) h' v) := by
          intro n36
          induction n36 using Nat.strongRecOn with
          | ind n36 ihn36 =>
            intro y32 w33 w34 h35 mn36 ay32 by32 kw33 kw34 x0n36 x1n36 Jh35
            have Ih35 := H.1 h35 Jh35
            refine hq_p rfl rfl ?_
            refine ty_zeq rfl (fun c37 => ?_) (fun c37 => ?_)
            · exact hq_W.ret rfl rfl rfl ⟨Jh35, rfl, (by rw [eR99]; exact wy_me x0n36 x1n36 (by omega) (by omega))⟩
            · replace c37 : 1 ≤ y32.toInt ∧ y32.toInt ≤ 1 := by omega
              obtain ⟨S38, eS38⟩ : ∃ q : Int, q = wy_s (hs_aI h35 125) := ⟨_, rfl⟩
              have s0S38 := wy_s0 x0n36
              refine hq_p rfl rfl (ty_ge (n := 0) nk_i0 (fun z39 ez39 => ?_))
              refine hq_p (ls' := [some (.ref 97), some (.int x1), some (.int z39), w33, w34]) rfl rfl ?_
              refine hq_p rfl rfl (ty_ge (n := 0) nk_i0 (fun z40 ez40 => ?_))
              refine hq_p (ls' := [some (.ref 97), some (.int x1), some (.int z39), some (.int z40), w34]) rfl rfl ?_
              have L41_n77 : ∀ n77 : Nat, ∀ (y69 : Int32) (y70 : Int32) (w71 : Option Value) (h72 : pm_H), (6 - y70.toInt).toNat = n77 → 0 ≤ y69.toInt → y69.toInt ≤ 1 → 0 ≤ y70.toInt → y70.toInt ≤ 6 → pm_two w71 = false → wy_inv R99 (hs_aI h72 125) x1.toInt → wy_s (hs_aI h72 125) + y69.toInt ≤ S38 → wy_m y69.toInt R99 (hs_aI h72 125) y70.toInt 0 → J h72 → hq_W X d 11 false (none) pm_c235 (41, [some (.ref 97), some (.int x1), some (.int y69), some (.int y70), w71], [], h72) (fun h' v => J h' ∧ (fun h1 v => v = none ∧ wy_e (hs_aI h 99) (hs_aI h1 125) x1.toInt) h' v) := by
                intro n77
                induction n77 using Nat.strongRecOn with
                | ind n77 ihn77 =>
                  intro y69 y70 w71 h72 mn77 ay69 by69 ay70 by70 kw71 x0n77 x1n77 x2n77 Jh72
                  have Ih72 := H.1 h72 Jh72
                  refine hq_p rfl rfl ?_
                  refine hq_p rfl rfl (ty_ge (n := 6) nk_b6 (fun z78 ez78 => ?_))
                  refine ty_ige rfl (fun c79 => ?_) (fun c79 => ?_)
                  · refine hq_p rfl rfl ?_
                    exact ihn36 ((2 * wy_s (hs_aI h72 125) + y69.toInt).toNat) (by omega) y69 (some (.int y70)) (w71) h72 rfl (by omega) (by omega) rfl kw71 x0n77 (by rw [show (6 : Int) = y70.toInt by omega]; exact x2n77) Jh72
                  · refine hq_p rfl rfl (ty_ge (n := 0) nk_i0 (fun z80 ez80 => ?_))
                    refine hq_p (ls' := [some (.ref 97), some (.int x1), some (.int y69), some (.int y70), some (.int z80)]) rfl rfl ?_
                    have L50_n108 : ∀ n108 : Nat, ∀ (y102 : Int32) (y103 : Int32) (h104 : pm_H), (6 - y103.toInt).toNat = n108 → 0 ≤ y102.toInt → y102.toInt ≤ 1 → 0 ≤ y103.toInt → y103.toInt ≤ 6 → wy_inv R99 (hs_aI h104 125) x1.toInt → wy_s (hs_aI h104 125) + y102.toInt ≤ S38 → wy_m y102.toInt R99 (hs_aI h104 125) y70.toInt y103.toInt → J h104 → hq_W X d 11 false (none) pm_c235 (50, [some (.ref 97), some (.int x1), some (.int y102), some (.int y70), some (.int y103)], [], h104) (fun h' v => J h' ∧ (fun h1 v => v = none ∧ wy_e (hs_aI h 99) (hs_aI h1 125) x1.toInt) h' v) := by
                      intro n108
                      induction n108 using Nat.strongRecOn with
                      | ind n108 ihn108 =>
                        intro y102 y103 h104 mn108 ay102 by102 ay103 by103 x0n108 x1n108 x2n108 Jh104
                        have Ih104 := H.1 h104 Jh104
                        refine hq_p rfl rfl ?_
                        refine hq_p rfl rfl (ty_ge (n := 6) nk_b6 (fun z109 ez109 => ?_))
                        refine ty_ige rfl (fun c110 => ?_) (fun c110 => ?_)
                        · refine ty_inc (ls' := fun z111 => [some (.ref 97), some (.int x1), some (.int y102), some (.int z111), some (.int y103)]) rfl rfl (fun _ => rfl) (nm_addc nk_i1 (by omega) (by omega)) (fun z111 ez111 => ?_)
                          refine hq_p rfl rfl ?_
                          exact ihn77 ((6 - z111.toInt).toNat) (by omega) y102 z111 (some (.int y103)) h104 rfl (by omega) (by omega) (by omega) (by omega) rfl x0n108 (by omega) (wy_mn x2n108 (by omega) (by omega) (by omega)) Jh104
                        · have rr99h104 : hs_aI h104 99 = R99 := by have q := Jh104; rw [eJ] at q; exact q.2
                          have hL : ∀ o, o < 6 → 0 ≤ ((hs_aI h104 125) o).toInt ∧ ((hs_aI h104 125) o).toInt ≤ 100000000 := fun o q => ⟨(x0n108 o q).1, (x0n108 o q).2.1⟩
                          refine hq_p rfl rfl ?_
                          refine hq_p rfl rfl ?_
                          refine hq_p rfl rfl ?_
                          refine ty_callp 0 Ih104 rfl (fun _ => rfl) rfl rfl rfl (hq_pre_o Ih104.1 (x := 97) (ci := 11) rfl (by decide) rfl rfl rfl rfl) (ct_234 (x1 := y70) (x2 := y103) (by omega) (by omega) (by omega) (by omega) (by omega) (hL y103.toInt.toNat (by omega)).1 (hL y103.toInt.toNat (by omega)).2) (fun _ P112 => ?_)
                          obtain ⟨z113, rfl, fz113⟩ := P112
                          have az113 := nm_lo z113
                          have bz113 := nm_hi z113
                          refine hq_p rfl rfl ?_
                          refine hq_gR Ih104.1 rfl rfl (by decide) (by decide) rfl ?_
                          refine hq_p rfl rfl ?_
                          refine ty_aL Ih104 rfl rfl (by decide) (by omega) (by omega) (fun _ _ => ty_le rfl) (fun z114 ez114 az114 bz114 => ?_)
                          rw [rr99h104] at fz113
                          have l0z114 : 0 ≤ z114.toInt ∧ z114.toInt ≤ 100000000 := by rw [ez114]; exact hL _ (by omega)
                          refine ty_ige rfl (fun c115 => ?_) (fun c115 => ?_)
                          · have lez113 : ((hs_aI h104 125) y70.toInt.toNat).toInt ≤ wy_c R99 (hs_aI h104 125) y70.toInt.toNat y103.toInt.toNat := by rw [← ez114, ← fz113]; omega
                            refine ty_inc (ls' := fun z116 => [some (.ref 97), some (.int x1), some (.int y102), some (.int y70), some (.int z116)]) rfl rfl (fun _ => rfl) (nm_addc nk_i1 (by omega) (by omega)) (fun z116 ez116 => ?_)
                            refine hq_p rfl rfl ?_
                            exact ihn108 ((6 - z116.toInt).toNat) (by omega) y102 z116 h104 rfl (by omega) (by omega) (by omega) (by omega) x0n108 (by omega) (wy_ms x2n108 (by omega) (by omega) (by omega) lez113) Jh104
                          · refine hq_p rfl rfl ?_
                            refine hq_gR Ih104.1 rfl rfl (by decide) (by decide) rfl ?_
                            refine hq_p rfl rfl ?_
                            refine hq_p rfl rfl ?_
                            refine hq_p rfl rfl ?_
                            refine hq_p rfl rfl ?_
                            refine ty_callp 0 Ih104 rfl (fun _ => rfl) rfl rfl rfl (hq_pre_o Ih104.1 (x := 97) (ci := 11) rfl (by decide) rfl rfl rfl rfl) (ct_234 (x1 := y70) (x2 := y103) (by omega) (by omega) (by omega) (by omega) (by omega) (hL y103.toInt.toNat (by omega)).1 (hL y103.toInt.toNat (by omega)).2) (fun _ P117 => ?_)
                            obtain ⟨z118, rfl, fz118⟩ := P117
                            have az118 := nm_lo z118
                            have bz118 := nm_hi z118
                            rw [rr99h104] at fz118
                            refine ty_aS (W := ty_W5) H Jh104 rfl rfl (by decide) (by omega) (by omega) (fun i e => by unfold ty_W5; omega) (fun _ _ => ty_eg rfl) (by omega) (by omega) (fun e1 e2 w => by omega) (fun h119 eh119 Jh119 => ?_)
                            have Ih119 := H.1 h119 Jh119
                            have ua : (hs_aI h119 125) = upd (hs_aI h104 125) y70.toInt.toNat z118 := by rw [eh119, hs_aI_sA]
                            have lt : z118.toInt < ((hs_aI h104 125) y70.toInt.toNat).toInt := by rw [← ez114]; omega
                            have ivh119 : wy_inv R99 (hs_aI h119 125) x1.toInt := by rw [ua]; exact wy_upd hR x0n108 (by omega) (by omega) fz118 lt
                            have svh119 : wy_s (hs_aI h119 125) + 1 ≤ wy_s (hs_aI h104 125) := by rw [ua]; exact wy_su (by omega) lt
                            refine hq_p rfl rfl (ty_ge (n := 1) nk_i1 (fun z120 ez120 => ?_))
                            refine hq_p (ls' := [some (.ref 97), some (.int x1), some (.int z120), some (.int y70), some (.int y103)]) rfl rfl ?_
                            refine ty_inc (ls' := fun z121 => [some (.ref 97), some (.int x1), some (.int z120), some (.int y70), some (.int z121)]) rfl rfl (fun _ => rfl) (nm_addc nk_i1 (by omega) (by omega)) (fun z121 ez121 => ?_)
                            refine hq_p rfl rfl ?_
                            exact ihn108 ((6 - z121.toInt).toNat) (by omega) z120 z121 h119 rfl (by omega) (by omega) (by omega) (by omega) ivh119 (by omega) (wy_m1 (by omega)) Jh119
                    exact L50_n108 _ y69 z80 h72 rfl (by omega) (by omega) (by omega) (by omega) x0n77 (by omega) (by rw [show z80.toInt = 0 by omega]; exact x2n77) Jh72
              exact L41_n77 _ z39 z40 (w34) h35 rfl (by omega) (by omega) (by omega) (by omega) kw34 x0n36 (by omega) (by rw [show z40.toInt = 0 by omega]; exact wy_m0 (by omega)) Jh35
        exact L33_n36 _ z23 none none h17 rfl (by omega) (by omega) rfl rfl inv0 (wy_m1 (by omega)) Jh17
      · refine hq_p rfl rfl ?_
        refine hq_gR Ih17.1 rfl rfl (by decide) (by decide) rfl ?_
        refine hq_p rfl rfl ?_
        refine hq_p rfl rfl ?_
        refine hq_p rfl rfl ?_
        refine ty_ine rfl (fun c122 => ?_) (fun c122 => ?_)
        · replace c122 : y16.toInt ≠ x1.toInt := by omega
          refine hq_p rfl rfl (ty_ge (n := 100000000) nk_d100000000 (fun z123 ez123 => ?_))
          refine ty_aS (W := ty_W5) H Jh17 rfl rfl (by decide) (by omega) (by omega) (fun i e => by unfold ty_W5; omega) (fun _ _ => ty_eg rfl) (by omega) (by omega) (fun e1 e2 w => by omega) (fun h124 eh124 Jh124 => ?_)
          have Ih124 := H.1 h124 Jh124
          refine ty_inc (ls' := fun z125 => [some (.ref 97), some (.int x1), some (.int z125), none, none]) rfl rfl (fun _ => rfl) (nm_addc nk_i1 (by omega) (by omega)) (fun z125 ez125 => ?_)
          refine hq_p rfl rfl ?_
          exact ihn20 ((6 - z125.toInt).toNat) (by omega) z125 h124 rfl (by omega) (by omega) (fun q hq => if e : q = y16.toInt.toNat then (by rw [eh124, ty_aI_eq e]; split <;> omega) else (by rw [eh124, ty_aI_sA e]; exact x0n20 q (by omega))) Jh124
        · refine hq_p rfl rfl (ty_ge (n := 0) nk_i0 (fun z126 ez126 => ?_))
          refine hq_p rfl rfl ?_
          refine ty_aS (W := ty_W5) H Jh17 rfl rfl (by decide) (by omega) (by omega) (fun i e => by unfold ty_W5; omega) (fun _ _ => ty_eg rfl) (by omega) (by omega) (fun e1 e2 w => by omega) (fun h127 eh127 Jh127 => ?_)
          have Ih127 := H.1 h127 Jh127
          refine ty_inc (ls' := fun z128 => [some (.ref 97), some (.int x1), some (.int z128), none, none]) rfl rfl (fun _ => rfl) (nm_addc nk_i1 (by omega) (by omega)) (fun z128 ez128 => ?_)
          refine hq_p rfl rfl ?_
          exact ihn20 ((6 - z128.toInt).toNat) (by omega) z128 h127 rfl (by omega) (by omega) (fun q hq => if e : q = y16.toInt.toNat then (by rw [eh127, ty_aI_eq e]; split <;> omega) else (by rw [eh127, ty_aI_sA e]; exact x0n20 q (by omega))) Jh127
  exact L2_n20 _ z1 h rfl (by omega) (by omega) (fun q hq => by exfalso; omega) hJ
end CT29
