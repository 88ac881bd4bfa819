/-! CONTRACTS (printed by wip/pm/cts.py) -/
section CT57
/-- nothing is ordered meanwhile -/
theorem ty_C.ord {W W' : Nat → Nat → Prop} {J : pm_H → Prop} (H : ty_C W J) (hW : ∀ a k, W' a k → a ≠ 200 → W a k) (h5 : W' 99 5 → W 202 0 → W' 202 0) (h0 : ¬ W' 97 20) : ty_C W' (fun h => J h ∧ (hs_fI h 97 20).toInt = 0) := by
  have H1 : ty_C (fun a k => W' a k ∧ a ≠ 200) J := H.mono (fun a k w => hW a k w.1 w.2) (fun w u => ⟨h5 w.1 u, by decide⟩)
  have H2 := H1.fld 97 20 (by decide) (fun w => h0 w.1) (by decide) 0
  have n : ∀ a, a < 129 → a ≠ 200 := fun a q => by omega
  exact ⟨H2.1, fun h a ci k u fs t j w a1 => H2.2.1 h a ci k u fs t j ⟨w, n a a1⟩ a1, fun h a ci k u fs j w a1 => H2.2.2.1 h a ci k u fs j ⟨w, n a a1⟩ a1, fun h a m i t x j w a1 a2 a3 a4 a5 a6 a7 => H2.2.2.2.1 h a m i t x j ⟨w, n a a1⟩ a1 a2 a3 a4 a5 a6 (fun e1 e2 w2 => a7 e1 e2 w2.1), fun h a m i x j w a1 => H2.2.2.2.2.1 h a m i x j ⟨w, n a a1⟩ a1, fun w => H2.2.2.2.2.2.1 ⟨w, by decide⟩, fun _ h j => j.2, fun w => H2.2.2.2.2.2.2.2.1 ⟨w, by decide⟩, fun h t j q p w a1 => H2.2.2.2.2.2.2.2.2 h t j q p ⟨w, by have := ty_trl a1; omega⟩ a1⟩
def ty_Wso (a k : Nat) : Prop := (a = 97 ∧ (k = 38 ∨ k = 39)) ∨ a = 117
def ty_Wsu (a k : Nat) : Prop := (a = 97 ∧ (k = 20 ∨ k = 38 ∨ k = 39 ∨ k = 54)) ∨ a = 117
set_option maxRecDepth 8000 in
set_option maxHeartbeats 20000000 in
theorem ct_200o {X : pm_X} {d : Nat} {h : pm_H} {x1 : Int32} {x2 : Int32} (hd : 3 ≤ d) (ax1 : 0 ≤ x1.toInt) (bx1 : x1.toInt ≤ 400) (ax2 : 0 ≤ x2.toInt) (bx2 : x2.toInt ≤ 400) (hR : 0 ≤ x1.toInt ∧ x1.toInt ≤ x2.toInt ∧ x2.toInt ≤ 400 ∧ ty_cw (pt (hs_aI h 108)) (pt (hs_aI h 109)) x1.toInt x2.toInt) (ho : (hs_fI h 97 20).toInt = 1) : ty_M X ty_Wso d 200 [.ref 97, .int x1, .int x2] h ty_pv := by
  intro J0 H0 hJ0
  obtain ⟨hr0, hr2, hr1, D, hD⟩ := hR
  have d0 : D x1.toInt.toNat = 0 := by have q := hD x1.toInt.toNat (by omega) (by omega); omega
  obtain ⟨R8, eR8⟩ : ∃ R, hs_aI h 108 = R := ⟨_, rfl⟩
  obtain ⟨R9, eR9⟩ : ∃ R, hs_aI h 109 = R := ⟨_, rfl⟩
  rw [eR8, eR9] at hD
  obtain ⟨J, eJ⟩ : ∃ J : pm_H → Prop, J = fun h' => ((J0 h' ∧ hs_aI h' 108 = R8) ∧ hs_aI h' 109 = R9) ∧ (hs_fI h' 97 20).toInt = 1 := ⟨_, rfl⟩
  have H : ty_C ty_Wso J := by rw [eJ]; exact ((H0.arr 108 (by decide) (fun k => by unfold ty_Wso; omega) R8).arr 109 (by decide) (fun k => by unfold ty_Wso; omega) R9).fld 97 20 (by decide) (by unfold ty_Wso; omega) (by decide) 1
  have hJ : J h := by rw [eJ]; exact ⟨⟨⟨hJ0, eR8⟩, eR9⟩, ho⟩
  refine hq_M.mono (Nat.le_refl _) (Q := fun h' v => J h' ∧ ty_pv h' v) (fun h' v q => ⟨by have q1 := q.1; rw [eJ] at q1; exact q1.1.1.1, q.2⟩) ?_
  obtain ⟨d, rfl⟩ : ∃ e, d = e + 1 := ⟨d - 1, by omega⟩
  have I := H.1 h hJ
  refine hq_M.enter (q := (⟨"TrainBearersModel", "reckonAll", "(II)V"⟩, _, 7, none, 11, 3, pm_c200)) rfl rfl ?_
  show hq_W X d 11 false (none) pm_c200 (0, [some (.ref 97), some (.int x1), some (.int x2), none, none, none, none], [], h) (fun h' v => J h' ∧ ty_pv h' v)
  refine hq_p rfl rfl ?_
  refine hq_p rfl rfl (ty_ge (n := 0) nk_i0 (fun z1 ez1 => ?_))
  refine ty_pB (W := ty_Wso) H hJ rfl rfl (by decide) rfl rfl rfl (by unfold ty_Wso; omega) rfl (by omega) (by omega) (fun h2 eh2 Jh2 => ?_)
  have wh2 : (hs_fI h2 97 38).toInt = z1.toInt := by rw [eh2]; exact congrArg Int32.toInt (ty_fI_eq I.1 rfl (by decide) rfl)
  have Ih2 := H.1 h2 Jh2
  refine hq_p rfl rfl (ty_ge (n := 0) nk_i0 (fun z3 ez3 => ?_))
  refine hq_p (ls' := [some (.ref 97), some (.int x1), some (.int x2), some (.int z3), none, none, none]) rfl rfl ?_
  refine hq_p rfl rfl ?_
  refine hq_p (ls' := [some (.ref 97), some (.int x1), some (.int x2), some (.int z3), some (.int x1), none, none]) rfl rfl ?_
  have L10_n14 : ∀ n14 : Nat, ∀ (y9 : Int32) (y10 : Int32) (w11 : Option Value) (w12 : Option Value) (h13 : pm_H), (400 - y10.toInt).toNat = n14 → 0 ≤ y9.toInt → y9.toInt ≤ 400 → 0 ≤ y10.toInt → y10.toInt ≤ 400 → pm_two w11 = false → pm_two w12 = false → y9.toInt = D y10.toInt.toNat → x1.toInt ≤ y10.toInt → y10.toInt ≤ x2.toInt → J h13 → hq_W X d 11 false (none) pm_c200 (10, [some (.ref 97), some (.int x1), some (.int x2), some (.int y9), some (.int y10), w11, w12], [], h13) (fun h' v => J h' ∧ ty_pv h' v) := by
    intro n14
    induction n14 using Nat.strongRecOn with
    | ind n14 ihn14 =>
      intro y9 y10 w11 w12 h13 mn14 ay9 by9 ay10 by10 kw11 kw12 x0n14 x1n14 x2n14 Jh13
      have Ih13 := H.1 h13 Jh13
      refine hq_p rfl rfl ?_
      refine hq_p rfl rfl ?_
      refine ty_ige rfl (fun c15 => ?_) (fun c15 => ?_)
      · refine hq_p rfl rfl ?_
        refine hq_p rfl rfl ?_
        refine ty_zle rfl (fun c16 => ?_) (fun c16 => ?_)
        · refine hq_p rfl rfl (ty_gle (n := 0) (by decide) (fun z17 ez17 => ?_))
          refine ty_pL (W := ty_Wso) H Jh13 rfl rfl (by decide) rfl rfl (by unfold ty_Wso; omega) rfl (by omega) (by omega) (fun h18 eh18 Jh18 => ?_)
          have Ih18 := H.1 h18 Jh18
          exact hq_W.ret rfl rfl rfl ⟨Jh18, rfl⟩
        · refine hq_p rfl rfl ?_
          refine hq_gR Ih13.1 rfl rfl (by decide) (by decide) rfl ?_
          refine hq_p rfl rfl (ty_ge (n := 0) nk_i0 (fun z19 ez19 => ?_))
          refine ty_lL Ih13 rfl rfl (by decide) (by omega) (by omega) (fun z20 ez20 az20 bz20 => ?_)
          refine hq_p rfl rfl ?_
          refine ty_pL (W := ty_Wso) H Jh13 rfl rfl (by decide) rfl rfl (by unfold ty_Wso; omega) rfl (by omega) (by omega) (fun h21 eh21 Jh21 => ?_)
          have Ih21 := H.1 h21 Jh21
          exact hq_W.ret rfl rfl rfl ⟨Jh21, rfl⟩
      · refine hq_p rfl rfl ?_
        refine ty_gB Ih13 rfl rfl (by decide) (by decide) rfl (fun z22 ez22 az22 bz22 => ?_)
        refine ty_zne rfl (fun c23 => ?_) (fun c23 => ?_)
        · replace c23 : 1 ≤ z22.toInt ∧ z22.toInt ≤ 1 := by omega
          refine hq_p rfl rfl ?_
          refine hq_p rfl rfl ?_
          refine ty_zle rfl (fun c24 => ?_) (fun c24 => ?_)
          · refine hq_p rfl rfl (ty_gle (n := 0) (by decide) (fun z25 ez25 => ?_))
            refine ty_pL (W := ty_Wso) H Jh13 rfl rfl (by decide) rfl rfl (by unfold ty_Wso; omega) rfl (by omega) (by omega) (fun h26 eh26 Jh26 => ?_)
            have Ih26 := H.1 h26 Jh26
            exact hq_W.ret rfl rfl rfl ⟨Jh26, rfl⟩
          · refine hq_p rfl rfl ?_
            refine hq_gR Ih13.1 rfl rfl (by decide) (by decide) rfl ?_
            refine hq_p rfl rfl (ty_ge (n := 0) nk_i0 (fun z27 ez27 => ?_))
            refine ty_lL Ih13 rfl rfl (by decide) (by omega) (by omega) (fun z28 ez28 az28 bz28 => ?_)
            refine hq_p rfl rfl ?_
            refine ty_pL (W := ty_Wso) H Jh13 rfl rfl (by decide) rfl rfl (by unfold ty_Wso; omega) rfl (by omega) (by omega) (fun h29 eh29 Jh29 => ?_)
            have Ih29 := H.1 h29 Jh29
            exact hq_W.ret rfl rfl rfl ⟨Jh29, rfl⟩
        · have ooh13 : (hs_fI h13 97 20).toInt = 1 := by have q := Jh13; rw [eJ] at q; exact q.2
          refine hq_p rfl rfl ?_
          refine ty_gB Ih13 rfl rfl (by decide) (by decide) rfl (fun z30 ez30 az30 bz30 => ?_)
          refine ty_zeq rfl (fun c31 => ?_) (fun c31 => ?_)
          · exfalso; omega
          · clear c31
            refine hq_p rfl rfl ?_
            refine hq_gR Ih13.1 rfl rfl (by decide) (by decide) rfl ?_
            refine hq_p rfl rfl ?_
            refine ty_aL Ih13 rfl rfl (by decide) (by omega) (by omega) (fun _ _ => ty_le rfl) (fun z32 ez32 az32 bz32 => ?_)
            refine hq_p rfl rfl ?_
            refine hq_p (ls' := [some (.ref 97), some (.int x1), some (.int x2), some (.int y9), some (.int y10), some (.int z32), w12]) rfl rfl ?_
            refine hq_p rfl rfl ?_
            refine ty_gB Ih13 rfl rfl (by decide) (by decide) rfl (fun z33 ez33 az33 bz33 => ?_)
            refine ty_zeq rfl (fun c34 => ?_) (fun c34 => ?_)
            · exfalso; omega
            · clear c34
              refine hq_p rfl rfl ?_
              refine hq_gR Ih13.1 rfl rfl (by decide) (by decide) rfl ?_
              refine hq_p rfl rfl ?_
              refine ty_aL Ih13 rfl rfl (by decide) (by omega) (by omega) (fun _ _ => ty_le rfl) (fun z35 ez35 az35 bz35 => ?_)
              refine hq_p rfl rfl ?_
              refine hq_p (ls' := [some (.ref 97), some (.int x1), some (.int x2), some (.int y9), some (.int y10), some (.int z32), some (.int z35)]) rfl rfl ?_
              have r8 : hs_aI h13 108 = R8 := by have q := Jh13; rw [eJ] at q; exact q.1.1.2
              have r9 : hs_aI h13 109 = R9 := by have q := Jh13; rw [eJ] at q; exact q.1.2
              rw [r8] at ez32
              rw [r9] at ez35
              obtain ⟨q0, q1, q2⟩ := hD y10.toInt.toNat (by omega) (by omega)
              obtain ⟨q3, qa, qb, qc, qd⟩ := q2 (by omega)
              clear q2
              rw [show pt R8 y10.toInt.toNat = z32.toInt from ez32.symm] at q3 qa qb qc qd
              rw [show pt R9 y10.toInt.toNat = z35.toInt from ez35.symm] at qd
              obtain ⟨k0, ek0⟩ : ∃ q : Int, q = D y10.toInt.toNat := ⟨_, rfl⟩
              obtain ⟨k1, ek1⟩ : ∃ q : Int, q = D (y10.toInt.toNat + 1) := ⟨_, rfl⟩
              rw [← ek0] at q0 q1 qa qb qc qd
              rw [← ek1] at qa qb qc qd
              have xx : y9.toInt = k0 := by omega
              refine ty_inc (ls' := fun z36 => [some (.ref 97), some (.int x1), some (.int x2), some (.int y9), some (.int z36), some (.int z32), some (.int z35)]) rfl rfl (fun _ => rfl) (nm_addc nk_i1 (by omega) (by omega)) (fun z36 ez36 => ?_)
              refine hq_p rfl rfl ?_
              refine hq_p rfl rfl (ty_ge (n := 20) nk_b20 (fun z37 ez37 => ?_))
              refine ty_ige rfl (fun c38 => ?_) (fun c38 => ?_)
              · refine hq_p rfl rfl ?_
                refine hq_p rfl rfl (ty_ge (n := 28) nk_b28 (fun z39 ez39 => ?_))
                refine ty_ige rfl (fun c40 => ?_) (fun c40 => ?_)
                · refine hq_p rfl rfl ?_
                  refine hq_p rfl rfl (ty_ge (n := 28) nk_b28 (fun z41 ez41 => ?_))
                  refine ty_ine rfl (fun c42 => ?_) (fun c42 => ?_)
                  · replace c42 : 29 ≤ z32.toInt ∧ z32.toInt ≤ 2147483647 := by omega
                    have qq := qd (by omega)
                    clear qa qb qc qd
                    have dd : D z36.toInt.toNat = k1 := by rw [ek1]; exact congrArg D (by omega)
                    refine hq_p rfl rfl ?_
                    refine hq_gR Ih13.1 rfl rfl (by decide) (by decide) rfl ?_
                    refine hq_p rfl rfl ?_
                    refine hq_p rfl rfl (ty_ge (n := 1) nk_i1 (fun z43 ez43 => ?_))
                    refine hq_p rfl rfl (ty_ge (n := y9.toInt - z43.toInt) (nm_sub (by omega) (by omega)) (fun z44 ez44 => ?_))
                    refine ty_lL Ih13 rfl rfl (by decide) (by omega) (by omega) (fun z45 ez45 az45 bz45 => ?_)
                    refine hq_p rfl rfl ?_
                    refine hq_p rfl rfl (ty_ge (n := 29) nk_b29 (fun z46 ez46 => ?_))
                    refine ty_ine rfl (fun c47 => ?_) (fun c47 => ?_)
                    · replace c47 : 30 ≤ z32.toInt ∧ z32.toInt ≤ 2147483647 := by omega
                      refine hq_p rfl rfl (ty_gle (n := 1) (by decide) (fun z48 ez48 => ?_))
                      refine hq_p rfl rfl (ty_gc (fun z49 ez49 => ?_))
                      refine ty_zne rfl (fun c50 => ?_) (fun c50 => ?_)
                      · clear ez49 c50
                        refine ty_inc (ls' := fun z51 => [some (.ref 97), some (.int x1), some (.int x2), some (.int z51), some (.int z36), some (.int z32), some (.int z35)]) rfl rfl (fun _ => rfl) (nm_addc nk_im1 (by omega) (by omega)) (fun z51 ez51 => ?_)
                        refine hq_p rfl rfl ?_
                        exact ihn14 ((400 - z36.toInt).toNat) (by omega) z51 z36 (some (.int z32)) (some (.int z35)) h13 rfl (by omega) (by omega) (by omega) (by omega) rfl rfl (by omega) (by omega) (by omega) Jh13
                      · replace ez49 : z45.toInt = z48.toInt := by omega
                        clear c50
                        have da : D z35.toInt.toNat = k0 := qq.2.2.2.2
                        refine hq_p rfl rfl ?_
                        refine hq_p (ls' := [some (.ref 97), some (.int x1), some (.int x2), some (.int y9), some (.int z35), some (.int z32), some (.int z35)]) rfl rfl ?_
                        refine hq_p rfl rfl ?_
                        refine hq_p rfl rfl ?_
                        exact ihn14 ((400 - z35.toInt).toNat) (by omega) y9 z35 (some (.int z32)) (some (.int z35)) h13 rfl (by omega) (by omega) (by omega) (by omega) rfl rfl (by omega) (by omega) (by omega) Jh13
                    · refine hq_p rfl rfl (ty_gle (n := 0) (by decide) (fun z52 ez52 => ?_))
                      refine hq_p rfl rfl ?_
                      refine hq_p rfl rfl (ty_gc (fun z53 ez53 => ?_))
                      refine ty_zne rfl (fun c54 => ?_) (fun c54 => ?_)
                      · replace ez53 : z45.toInt ≠ 0 := by omega
                        clear c54
                        refine ty_inc (ls' := fun z55 => [some (.ref 97), some (.int x1), some (.int x2), some (.int z55), some (.int z36), some (.int z32), some (.int z35)]) rfl rfl (fun _ => rfl) (nm_addc nk_im1 (by omega) (by omega)) (fun z55 ez55 => ?_)
                        refine hq_p rfl rfl ?_
                        exact ihn14 ((400 - z36.toInt).toNat) (by omega) z55 z36 (some (.int z32)) (some (.int z35)) h13 rfl (by omega) (by omega) (by omega) (by omega) rfl rfl (by omega) (by omega) (by omega) Jh13
                      · replace ez53 : z45.toInt = z52.toInt := by omega
                        clear c54
                        have da : D z35.toInt.toNat = k0 := qq.2.2.2.2
                        refine hq_p rfl rfl ?_
                        refine hq_p (ls' := [some (.ref 97), some (.int x1), some (.int x2), some (.int y9), some (.int z35), some (.int z32), some (.int z35)]) rfl rfl ?_
                        refine hq_p rfl rfl ?_
                        refine hq_p rfl rfl ?_
                        exact ihn14 ((400 - z35.toInt).toNat) (by omega) y9 z35 (some (.int z32)) (some (.int z35)) h13 rfl (by omega) (by omega) (by omega) (by omega) rfl rfl (by omega) (by omega) (by omega) Jh13
                  · have qq := qc (by omega)
                    clear qa qb qc qd
                    have dd : D z36.toInt.toNat = k1 := by rw [ek1]; exact congrArg D (by omega)
                    refine hq_p rfl rfl ?_
                    refine hq_gR Ih13.1 rfl rfl (by decide) (by decide) rfl ?_
                    refine hq_p rfl rfl ?_
                    refine hq_p rfl rfl (ty_ge (n := 1) nk_i1 (fun z56 ez56 => ?_))
                    refine hq_p rfl rfl (ty_ge (n := y9.toInt - z56.toInt) (nm_sub (by omega) (by omega)) (fun z57 ez57 => ?_))
                    refine hq_p rfl rfl (ty_gle (n := 1) (by decide) (fun z58 ez58 => ?_))
                    refine hq_p rfl rfl ?_
                    refine hq_gR Ih13.1 rfl rfl (by decide) (by decide) rfl ?_
                    refine hq_p rfl rfl ?_
                    refine hq_p rfl rfl (ty_ge (n := 1) nk_i1 (fun z59 ez59 => ?_))
                    refine hq_p rfl rfl (ty_ge (n := y9.toInt - z59.toInt) (nm_sub (by omega) (by omega)) (fun z60 ez60 => ?_))
                    refine ty_lL Ih13 rfl rfl (by decide) (by omega) (by omega) (fun z61 ez61 az61 bz61 => ?_)
                    refine hq_p rfl rfl (ty_gla (fun z62 az62 bz62 => ?_))
                    refine ty_lS (W := ty_Wso) H Jh13 rfl rfl (by decide) (by omega) (by omega) (fun i e => by unfold ty_Wso; omega) (fun h63 eh63 Jh63 => ?_)
                    have Ih63 := H.1 h63 Jh63
                    refine hq_p rfl rfl ?_
                    refine hq_p rfl rfl ?_
                    exact ihn14 ((400 - z36.toInt).toNat) (by omega) y9 z36 (some (.int z32)) (some (.int z35)) h63 rfl (by omega) (by omega) (by omega) (by omega) rfl rfl (by omega) (by omega) (by omega) Jh63
                · have qq := qb (by omega) (by omega)
                  clear qa qb qc qd
                  have dd : D z36.toInt.toNat = k1 := by rw [ek1]; exact congrArg D (by omega)
                  refine ty_inc (ls' := fun z64 => [some (.ref 97), some (.int x1), some (.int x2), some (.int z64), some (.int z36), some (.int z32), some (.int z35)]) rfl rfl (fun _ => rfl) (nm_addc nk_im1 (by omega) (by omega)) (fun z64 ez64 => ?_)
                  refine hq_p rfl rfl ?_
                  refine hq_gR Ih13.1 rfl rfl (by decide) (by decide) rfl ?_
                  refine hq_p rfl rfl ?_
                  refine hq_p rfl rfl (ty_ge (n := 1) nk_i1 (fun z65 ez65 => ?_))
                  refine hq_p rfl rfl (ty_ge (n := z64.toInt - z65.toInt) (nm_sub (by omega) (by omega)) (fun z66 ez66 => ?_))
                  refine hq_p rfl rfl ?_
                  refine hq_p rfl rfl ?_
                  refine hq_p rfl rfl ?_
                  refine hq_gR Ih13.1 rfl rfl (by decide) (by decide) rfl ?_
                  refine hq_p rfl rfl ?_
                  refine hq_p rfl rfl (ty_ge (n := 1) nk_i1 (fun z67 ez67 => ?_))
                  refine hq_p rfl rfl (ty_ge (n := z64.toInt - z67.toInt) (nm_sub (by omega) (by omega)) (fun z68 ez68 => ?_))
                  refine ty_lL Ih13 rfl rfl (by decide) (by omega) (by omega) (fun z69 ez69 az69 bz69 => ?_)
                  refine hq_p rfl rfl ?_
                  refine hq_gR Ih13.1 rfl rfl (by decide) (by decide) rfl ?_
                  refine hq_p rfl rfl ?_
                  refine ty_lL Ih13 rfl rfl (by decide) (by omega) (by omega) (fun z70 ez70 az70 bz70 => ?_)
                  refine ty_callj 0 (W := ty_Wso) H Jh13 rfl (fun _ => rfl) rfl rfl rfl (hq_pre_o Ih13.1 (x := 97) (ci := 11) rfl (by decide) rfl rfl rfl rfl) (fun a k w => by unfold ty_Wb at w; unfold ty_Wso; omega) (by unfold ty_Wb ty_Wso; omega) (ct_199 (x1 := z32) (x2 := z69) (x3 := z70) (by omega)) (fun h72 _ Jh72 P71 => ?_)
                  have Ih72 := H.1 h72 Jh72
                  obtain ⟨z73, rfl⟩ := P71
                  refine ty_lS (W := ty_Wso) H Jh72 rfl rfl (by decide) (by omega) (by omega) (fun i e => by unfold ty_Wso; omega) (fun h74 eh74 Jh74 => ?_)
                  have Ih74 := H.1 h74 Jh74
                  refine hq_p rfl rfl ?_
                  refine hq_p rfl rfl ?_
                  refine ty_gB Ih74 rfl rfl (by decide) (by decide) rfl (fun z75 ez75 az75 bz75 => ?_)
                  refine ty_zne rfl (fun c76 => ?_) (fun c76 => ?_)
                  · replace c76 : 1 ≤ z75.toInt ∧ z75.toInt ≤ 1 := by omega
                    refine hq_p rfl rfl (ty_ge (n := 1) nk_i1 (fun z77 ez77 => ?_))
                    refine hq_p rfl rfl ?_
                    refine ty_pB (W := ty_Wso) H Jh74 rfl rfl (by decide) rfl rfl rfl (by unfold ty_Wso; omega) rfl (by omega) (by omega) (fun h78 eh78 Jh78 => ?_)
                    have wh78 : (hs_fI h78 97 38).toInt = z77.toInt := by rw [eh78]; exact congrArg Int32.toInt (ty_fI_eq Ih74.1 rfl (by decide) rfl)
                    have Ih78 := H.1 h78 Jh78
                    refine hq_p rfl rfl ?_
                    refine hq_p rfl rfl ?_
                    exact ihn14 ((400 - z36.toInt).toNat) (by omega) z64 z36 (some (.int z32)) (some (.int z35)) h78 rfl (by omega) (by omega) (by omega) (by omega) rfl rfl (by omega) (by omega) (by omega) Jh78
                  · refine hq_p rfl rfl ?_
                    refine hq_gR Ih74.1 rfl rfl (by decide) (by decide) rfl ?_
                    refine hq_p rfl rfl ?_
                    refine hq_p rfl rfl (ty_ge (n := 1) nk_i1 (fun z79 ez79 => ?_))
                    refine hq_p rfl rfl (ty_ge (n := z64.toInt - z79.toInt) (nm_sub (by omega) (by omega)) (fun z80 ez80 => ?_))
                    refine ty_lL Ih74 rfl rfl (by decide) (by omega) (by omega) (fun z81 ez81 az81 bz81 => ?_)
                    refine hq_p rfl rfl (ty_gle (n := -1000000000) (by decide) (fun z82 ez82 => ?_))
                    refine hq_p rfl rfl (ty_gle (n := 1000000000) (by decide) (fun z83 ez83 => ?_))
                    refine ty_callp 1 Ih74 rfl (fun _ => rfl) rfl rfl rfl rfl (ct_136 (x0 := z81) (x1 := z82) (x2 := z83) (by omega)) (fun _ P84 => ?_)
                    obtain ⟨z85, rfl, az85, bz85, iz85⟩ := P84
                    refine ty_zne rfl (fun c86 => ?_) (fun c86 => ?_)
                    · replace c86 : 1 ≤ z85.toInt ∧ z85.toInt ≤ 1 := by omega
                      have f87 := iz85 (by omega)
                      clear iz85
                      refine hq_p rfl rfl (ty_ge (n := 0) nk_i0 (fun z88 ez88 => ?_))
                      refine ty_pB (W := ty_Wso) H Jh74 rfl rfl (by decide) rfl rfl rfl (by unfold ty_Wso; omega) rfl (by omega) (by omega) (fun h89 eh89 Jh89 => ?_)
                      have wh89 : (hs_fI h89 97 38).toInt = z88.toInt := by rw [eh89]; exact congrArg Int32.toInt (ty_fI_eq Ih74.1 rfl (by decide) rfl)
                      have Ih89 := H.1 h89 Jh89
                      refine hq_p rfl rfl ?_
                      refine hq_p rfl rfl ?_
                      exact ihn14 ((400 - z36.toInt).toNat) (by omega) z64 z36 (some (.int z32)) (some (.int z35)) h89 rfl (by omega) (by omega) (by omega) (by omega) rfl rfl (by omega) (by omega) (by omega) Jh89
                    · clear iz85
                      refine hq_p rfl rfl (ty_ge (n := 1) nk_i1 (fun z90 ez90 => ?_))
                      refine hq_p rfl rfl ?_
                      refine ty_pB (W := ty_Wso) H Jh74 rfl rfl (by decide) rfl rfl rfl (by unfold ty_Wso; omega) rfl (by omega) (by omega) (fun h91 eh91 Jh91 => ?_)
                      have wh91 : (hs_fI h91 97 38).toInt = z90.toInt := by rw [eh91]; exact congrArg Int32.toInt (ty_fI_eq Ih74.1 rfl (by decide) rfl)
                      have Ih91 := H.1 h91 Jh91
                      refine hq_p rfl rfl ?_
                      refine hq_p rfl rfl ?_
                      exact ihn14 ((400 - z36.toInt).toNat) (by omega) z64 z36 (some (.int z32)) (some (.int z35)) h91 rfl (by omega) (by omega) (by omega) (by omega) rfl rfl (by omega) (by omega) (by omega) Jh91
              · have qq := qa (by omega)
                clear qa qb qc qd
                have dd : D z36.toInt.toNat = k1 := by rw [ek1]; exact congrArg D (by omega)
                refine hq_p rfl rfl ?_
                refine hq_gR Ih13.1 rfl rfl (by decide) (by decide) rfl ?_
                refine hq_p rfl rfl ?_
                refine hq_p rfl rfl ?_
                refine ty_zne rfl (fun c92 => ?_) (fun c92 => ?_)
                · replace c92 : 1 ≤ z32.toInt ∧ z32.toInt ≤ 12 := by omega
                  refine hq_p rfl rfl ?_
                  refine ty_gB Ih13 rfl rfl (by decide) (by decide) rfl (fun z93 ez93 az93 bz93 => ?_)
                  refine ty_zne rfl (fun c94 => ?_) (fun c94 => ?_)
                  · clear c94
                    refine hq_p rfl rfl ?_
                    refine hq_p rfl rfl (ty_ge (n := 6) nk_b6 (fun z95 ez95 => ?_))
                    refine ty_ige rfl (fun c96 => ?_) (fun c96 => ?_)
                    · refine hq_p rfl rfl ?_
                      refine hq_p rfl rfl (ty_ge (n := 6) nk_b6 (fun z97 ez97 => ?_))
                      refine ty_ine rfl (fun c98 => ?_) (fun c98 => ?_)
                      · replace c98 : 7 ≤ z32.toInt ∧ z32.toInt ≤ 12 := by omega
                        refine hq_p rfl rfl ?_
                        refine hq_p rfl rfl ?_
                        refine ty_callp 0 Ih13 rfl (fun _ => rfl) rfl rfl rfl (hq_pre_o Ih13.1 (x := 97) (ci := 11) rfl (by decide) rfl rfl rfl rfl) (ct_150 (x1 := z35) (by omega)) (fun _ P99 => ?_)
                        obtain ⟨z100, rfl, az100, bz100, iz100⟩ := P99
                        refine ty_zeq rfl (fun c101 => ?_) (fun c101 => ?_)
                        · clear iz100
                          refine hq_p rfl rfl (ty_gle (n := -1) (by decide) (fun z102 ez102 => ?_))
                          refine ty_lS (W := ty_Wso) H Jh13 rfl rfl (by decide) (by omega) (by omega) (fun i e => by unfold ty_Wso; omega) (fun h103 eh103 Jh103 => ?_)
                          have Ih103 := H.1 h103 Jh103
                          refine ty_inc (ls' := fun z104 => [some (.ref 97), some (.int x1), some (.int x2), some (.int z104), some (.int z36), some (.int z32), some (.int z35)]) rfl rfl (fun _ => rfl) (nm_addc nk_i1 (by omega) (by omega)) (fun z104 ez104 => ?_)
                          refine hq_p rfl rfl ?_
                          refine hq_p rfl rfl ?_
                          exact ihn14 ((400 - z36.toInt).toNat) (by omega) z104 z36 (some (.int z32)) (some (.int z35)) h103 rfl (by omega) (by omega) (by omega) (by omega) rfl rfl (by omega) (by omega) (by omega) Jh103
                        · replace c101 : 1 ≤ z100.toInt ∧ z100.toInt ≤ 1 := by omega
                          have f105 := iz100 (by omega)
                          clear iz100
                          refine hq_p rfl rfl ?_
                          refine hq_gR Ih13.1 rfl rfl (by decide) (by decide) rfl ?_
                          refine hq_p rfl rfl (ty_ge (n := 18) nk_b18 (fun z106 ez106 => ?_))
                          refine hq_p rfl rfl ?_
                          refine hq_p rfl rfl (ty_ge (n := z106.toInt + z35.toInt) (nm_add (by omega) (by omega)) (fun z107 ez107 => ?_))
                          refine ty_aL Ih13 rfl rfl (by decide) (by omega) (by omega) (fun i e => ty_le (ty_w18 (by omega) (by omega))) (fun z108 ez108 az108 bz108 => ?_)
                          refine hq_p rfl rfl (ty_gle (n := z108.toInt) (nm_i2l _) (fun z109 ez109 => ?_))
                          refine hq_p rfl rfl ?_
                          refine ty_lS (W := ty_Wso) H Jh13 rfl rfl (by decide) (by omega) (by omega) (fun i e => by unfold ty_Wso; omega) (fun h110 eh110 Jh110 => ?_)
                          have Ih110 := H.1 h110 Jh110
                          refine ty_inc (ls' := fun z111 => [some (.ref 97), some (.int x1), some (.int x2), some (.int z111), some (.int z36), some (.int z32), some (.int z35)]) rfl rfl (fun _ => rfl) (nm_addc nk_i1 (by omega) (by omega)) (fun z111 ez111 => ?_)
                          refine hq_p rfl rfl ?_
                          refine hq_p rfl rfl ?_
                          exact ihn14 ((400 - z36.toInt).toNat) (by omega) z111 z36 (some (.int z32)) (some (.int z35)) h110 rfl (by omega) (by omega) (by omega) (by omega) rfl rfl (by omega) (by omega) (by omega) Jh110
                      · refine hq_p rfl rfl ?_
                        refine hq_p rfl rfl ?_
                        refine ty_callp 0 Ih13 rfl (fun _ => rfl) rfl rfl rfl (hq_pre_o Ih13.1 (x := 97) (ci := 11) rfl (by decide) rfl rfl rfl rfl) (ct_149 (x1 := z35) (by omega)) (fun _ P112 => ?_)
                        obtain ⟨z113, rfl, az113, bz113, iz113⟩ := P112
                        refine ty_zeq rfl (fun c114 => ?_) (fun c114 => ?_)
                        · clear iz113
                          refine hq_p rfl rfl (ty_ge (n := -1) nk_im1 (fun z115 ez115 => ?_))
                          refine hq_p rfl rfl (ty_gle (n := z115.toInt) (nm_i2l _) (fun z116 ez116 => ?_))
                          refine hq_p rfl rfl ?_
                          refine ty_lS (W := ty_Wso) H Jh13 rfl rfl (by decide) (by omega) (by omega) (fun i e => by unfold ty_Wso; omega) (fun h117 eh117 Jh117 => ?_)
                          have Ih117 := H.1 h117 Jh117
                          refine ty_inc (ls' := fun z118 => [some (.ref 97), some (.int x1), some (.int x2), some (.int z118), some (.int z36), some (.int z32), some (.int z35)]) rfl rfl (fun _ => rfl) (nm_addc nk_i1 (by omega) (by omega)) (fun z118 ez118 => ?_)
                          refine hq_p rfl rfl ?_
                          refine hq_p rfl rfl ?_
                          exact ihn14 ((400 - z36.toInt).toNat) (by omega) z118 z36 (some (.int z32)) (some (.int z35)) h117 rfl (by omega) (by omega) (by omega) (by omega) rfl rfl (by omega) (by omega) (by omega) Jh117
                        · replace c114 : 1 ≤ z113.toInt ∧ z113.toInt ≤ 1 := by omega
                          have f119 := iz113 (by omega)
                          clear iz113
                          refine hq_p rfl rfl ?_
                          refine hq_gR Ih13.1 rfl rfl (by decide) (by decide) rfl ?_
                          refine hq_p rfl rfl ?_
                          refine ty_aL Ih13 rfl rfl (by decide) (by omega) (by omega) (fun _ _ => ty_le rfl) (fun z120 ez120 az120 bz120 => ?_)
                          refine hq_p rfl rfl ?_
                          refine hq_p rfl rfl (ty_gle (n := z120.toInt) (nm_i2l _) (fun z121 ez121 => ?_))
                          refine hq_p rfl rfl ?_
                          refine ty_lS (W := ty_Wso) H Jh13 rfl rfl (by decide) (by omega) (by omega) (fun i e => by unfold ty_Wso; omega) (fun h122 eh122 Jh122 => ?_)
                          have Ih122 := H.1 h122 Jh122
                          refine ty_inc (ls' := fun z123 => [some (.ref 97), some (.int x1), some (.int x2), some (.int z123), some (.int z36), some (.int z32), some (.int z35)]) rfl rfl (fun _ => rfl) (nm_addc nk_i1 (by omega) (by omega)) (fun z123 ez123 => ?_)
                          refine hq_p rfl rfl ?_
                          refine hq_p rfl rfl ?_
                          exact ihn14 ((400 - z36.toInt).toNat) (by omega) z123 z36 (some (.int z32)) (some (.int z35)) h122 rfl (by omega) (by omega) (by omega) (by omega) rfl rfl (by omega) (by omega) (by omega) Jh122
                    · refine hq_p rfl rfl ?_
                      refine hq_gR Ih13.1 rfl rfl (by decide) (by decide) rfl ?_
                      refine hq_p rfl rfl ?_
                      refine ty_lL Ih13 rfl rfl (by decide) (by omega) (by omega) (fun z124 ez124 az124 bz124 => ?_)
                      refine hq_p rfl rfl ?_
                      refine ty_lS (W := ty_Wso) H Jh13 rfl rfl (by decide) (by omega) (by omega) (fun i e => by unfold ty_Wso; omega) (fun h125 eh125 Jh125 => ?_)
                      have Ih125 := H.1 h125 Jh125
                      refine ty_inc (ls' := fun z126 => [some (.ref 97), some (.int x1), some (.int x2), some (.int z126), some (.int z36), some (.int z32), some (.int z35)]) rfl rfl (fun _ => rfl) (nm_addc nk_i1 (by omega) (by omega)) (fun z126 ez126 => ?_)
                      refine hq_p rfl rfl ?_
                      refine hq_p rfl rfl ?_
                      exact ihn14 ((400 - z36.toInt).toNat) (by omega) z126 z36 (some (.int z32)) (some (.int z35)) h125 rfl (by omega) (by omega) (by omega) (by omega) rfl rfl (by omega) (by omega) (by omega) Jh125
                  · exfalso; omega
                · refine hq_p rfl rfl ?_
                  refine hq_p rfl rfl (ty_gle (n := z35.toInt) (nm_i2l _) (fun z127 ez127 => ?_))
                  refine hq_p rfl rfl ?_
                  refine ty_lS (W := ty_Wso) H Jh13 rfl rfl (by decide) (by omega) (by omega) (fun i e => by unfold ty_Wso; omega) (fun h128 eh128 Jh128 => ?_)
                  have Ih128 := H.1 h128 Jh128
                  refine ty_inc (ls' := fun z129 => [some (.ref 97), some (.int x1), some (.int x2), some (.int z129), some (.int z36), some (.int z32), some (.int z35)]) rfl rfl (fun _ => rfl) (nm_addc nk_i1 (by omega) (by omega)) (fun z129 ez129 => ?_)
                  refine hq_p rfl rfl ?_
                  refine hq_p rfl rfl ?_
                  exact ihn14 ((400 - z36.toInt).toNat) (by omega) z129 z36 (some (.int z32)) (some (.int z35)) h128 rfl (by omega) (by omega) (by omega) (by omega) rfl rfl (by omega) (by omega) (by omega) Jh128
  exact L10_n14 _ z3 x1 none none h2 rfl (by omega) (by omega) (by omega) (by omega) rfl rfl (by omega) (by omega) (by omega) Jh2
theorem ct_246 {X : pm_X} {d : Nat} {h : pm_H} {x1 : Int32} {n : Int} (hd : 4 ≤ d) (ax1 : 1 ≤ x1.toInt) (bx1 : x1.toInt ≤ 94) (ho : (hs_fI h 97 20).toInt = 0) (hn : n ≤ 400) (hlw : lw1 (hs_aI h 127) (hs_aI h 108) (hs_aI h 109) n x1.toInt.toNat (x1.toInt.toNat + 1)) : ty_M X ty_Wsu d 246 [.ref 97, .int x1] h (fun h1 v => (∃ z : Int32, v = some (.int z)) ∧ (hs_fI h1 97 20).toInt = 0) := by
  intro J H hJ
  obtain ⟨d, rfl⟩ : ∃ e, d = e + 1 := ⟨d - 1, by omega⟩
  have I := H.1 h hJ
  refine hq_M.enter (q := (⟨"TrainBearersModel", "sumOf", "(I)I"⟩, _, 2, some .int, 11, 2, pm_c246)) rfl rfl ?_
  show hq_W X d 11 false (some .int) pm_c246 (0, [some (.ref 97), some (.int x1)], [], h) (fun h' v => J h' ∧ (fun h1 v => (∃ z : Int32, v = some (.int z)) ∧ (hs_fI h1 97 20).toInt = 0) h' v)
  obtain ⟨q1, eq1⟩ : ∃ q : Int32, q.toInt = (hs_fI h 97 20).toInt := ⟨_, rfl⟩
  have aq1 := nm_lo q1
  have bq1 := nm_hi q1
  refine hq_p rfl rfl ?_
  refine ty_gB I rfl rfl (by decide) (by decide) rfl (fun z2 ez2 az2 bz2 => ?_)
  refine ty_zne rfl (fun c3 => ?_) (fun c3 => ?_)
  · replace c3 : 1 ≤ z2.toInt ∧ z2.toInt ≤ 1 := by omega
    refine hq_p rfl rfl (ty_ge (n := -1) nk_im1 (fun z4 ez4 => ?_))
    exact hq_W.ret rfl rfl rfl ⟨hJ, ⟨_, rfl⟩, by omega⟩
  · refine hq_p rfl rfl ?_
    refine hq_gR I.1 rfl rfl (by decide) (by decide) rfl ?_
    refine hq_p rfl rfl ?_
    refine ty_aL I rfl rfl (by decide) (by omega) (by omega) (fun _ _ => ty_le rfl) (fun z5 ez5 az5 bz5 => ?_)
    refine hq_p rfl rfl ?_
    refine hq_gR I.1 rfl rfl (by decide) (by decide) rfl ?_
    refine hq_p rfl rfl ?_
    refine hq_p rfl rfl (ty_ge (n := 1) nk_i1 (fun z6 ez6 => ?_))
    refine hq_p rfl rfl (ty_ge (n := x1.toInt + z6.toInt) (nm_add (by omega) (by omega)) (fun z7 ez7 => ?_))
    refine ty_aL I rfl rfl (by decide) (by omega) (by omega) (fun _ _ => ty_le rfl) (fun z8 ez8 az8 bz8 => ?_)
    refine ty_ine rfl (fun c9 => ?_) (fun c9 => ?_)
    · clear c9
      refine hq_p rfl rfl ?_
      refine hq_p rfl rfl (ty_ge (n := 1) nk_i1 (fun z10 ez10 => ?_))
      refine ty_pB (W := ty_Wsu) H hJ rfl rfl (by decide) rfl rfl rfl (by unfold ty_Wsu; omega) rfl (by omega) (by omega) (fun h11 eh11 Jh11 => ?_)
      have wh11 : (hs_fI h11 97 20).toInt = z10.toInt := by rw [eh11]; exact congrArg Int32.toInt (ty_fI_eq I.1 rfl (by decide) rfl)
      have vh11_127 : hs_aI h11 127 = (hs_aI h 127) := by rw [eh11]; exact (hs_aI_ne (by decide)).trans rfl
      have vh11_108 : hs_aI h11 108 = (hs_aI h 108) := by rw [eh11]; exact (hs_aI_ne (by decide)).trans rfl
      have vh11_109 : hs_aI h11 109 = (hs_aI h 109) := by rw [eh11]; exact (hs_aI_ne (by decide)).trans rfl
      have Ih11 := H.1 h11 Jh11
      refine hq_p rfl rfl ?_
      refine hq_p rfl rfl ?_
      refine hq_gR Ih11.1 rfl rfl (by decide) (by decide) rfl ?_
      refine hq_p rfl rfl ?_
      refine ty_aL Ih11 rfl rfl (by decide) (by omega) (by omega) (fun _ _ => ty_le rfl) (fun z12 ez12 az12 bz12 => ?_)
      refine hq_p rfl rfl ?_
      refine hq_gR Ih11.1 rfl rfl (by decide) (by decide) rfl ?_
      refine hq_p rfl rfl ?_
      refine hq_p rfl rfl (ty_ge (n := 1) nk_i1 (fun z13 ez13 => ?_))
      refine hq_p rfl rfl (ty_ge (n := x1.toInt + z13.toInt) (nm_add (by omega) (by omega)) (fun z14 ez14 => ?_))
      refine ty_aL Ih11 rfl rfl (by decide) (by omega) (by omega) (fun _ _ => ty_le rfl) (fun z15 ez15 az15 bz15 => ?_)
      have n1 : z12.toInt = pt (hs_aI h 127) x1.toInt.toNat := by show z12.toInt = (hs_aI h 127 x1.toInt.toNat).toInt; rw [ez12, vh11_127]
      have n2 : z15.toInt = pt (hs_aI h 127) (x1.toInt.toNat + 1) := by show z15.toInt = (hs_aI h 127 (x1.toInt.toNat + 1)).toInt; rw [ez15, vh11_127, show z14.toInt.toNat = x1.toInt.toNat + 1 by omega]
      obtain ⟨l1, l2, l3, l4⟩ := hlw
      rw [← n1] at l1 l2 l4
      rw [← n2] at l2 l3 l4
      rw [← vh11_108, ← vh11_109] at l4
      refine ty_callj 0 (W := ty_Wsu) H Jh11 rfl (fun _ => rfl) rfl rfl rfl (hq_pre_o Ih11.1 (x := 97) (ci := 11) rfl (by decide) rfl rfl rfl rfl) (fun a k w => by unfold ty_Wso at w; unfold ty_Wsu; omega) (by unfold ty_Wso ty_Wsu; omega) (ct_200o (x1 := z12) (x2 := z15) (by omega) (by omega) (by omega) (by omega) (by omega) ⟨by omega, by omega, by omega, l4⟩ (by omega)) (fun h17 _ Jh17 P16 => ?_)
      have Ih17 := H.1 h17 Jh17
      subst P16
      refine hq_p rfl rfl ?_
      refine hq_p rfl rfl (ty_ge (n := 0) nk_i0 (fun z18 ez18 => ?_))
      refine ty_pB (W := ty_Wsu) H Jh17 rfl rfl (by decide) rfl rfl rfl (by unfold ty_Wsu; omega) rfl (by omega) (by omega) (fun h19 eh19 Jh19 => ?_)
      have wh19 : (hs_fI h19 97 20).toInt = z18.toInt := by rw [eh19]; exact congrArg Int32.toInt (ty_fI_eq Ih17.1 rfl (by decide) rfl)
      have Ih19 := H.1 h19 Jh19
      refine hq_p rfl rfl ?_
      refine hq_p rfl rfl ?_
      refine ty_gB Ih19 rfl rfl (by decide) (by decide) rfl (fun z20 ez20 az20 bz20 => ?_)
      refine ty_pB (W := ty_Wsu) H Jh19 rfl rfl (by decide) rfl rfl rfl (by unfold ty_Wsu; omega) rfl (by omega) (by omega) (fun h21 eh21 Jh21 => ?_)
      have wh21 : (hs_fI h21 97 54).toInt = z20.toInt := by rw [eh21]; exact congrArg Int32.toInt (ty_fI_eq Ih19.1 rfl (by decide) rfl)
      have Ih21 := H.1 h21 Jh21
      refine hq_p rfl rfl ?_
      refine ty_gL Ih21 rfl rfl (by decide) (by decide) rfl rfl (fun z22 ez22 az22 bz22 => ?_)
      refine hq_p rfl rfl (ty_ga (fun z23 az23 bz23 => ?_))
      have r24 : (hs_fI h21 97 20).toInt = (hs_fI h19 97 20).toInt := by rw [eh21]; exact congrArg Int32.toInt (ty_fI_sF (by decide))
      exact hq_W.ret rfl rfl rfl ⟨Jh21, ⟨_, rfl⟩, by omega⟩
    · refine hq_p rfl rfl (ty_ge (n := -1) nk_im1 (fun z25 ez25 => ?_))
      exact hq_W.ret rfl rfl rfl ⟨hJ, ⟨_, rfl⟩, by omega⟩
def ty_Wgb (a k : Nat) : Prop := a = 202 ∨ (a = 99 ∧ 5 ≤ k ∧ k < 34) ∨ a = 102 ∨ a = 103 ∨ (a = 97 ∧ k = 8)
theorem ct_250 {X : pm_X} {d : Nat} {h : pm_H} {x1 : Int32} (hd : 2 ≤ d) (ax1 : 0 ≤ x1.toInt) (bx1 : x1.toInt ≤ 16) : ty_M X ty_Wgb d 250 [.ref 97, .int x1] h ty_pv := by
  intro J H hJ
  obtain ⟨d, rfl⟩ : ∃ e, d = e + 1 := ⟨d - 1, by omega⟩
  have I := H.1 h hJ
  refine hq_M.enter (q := (⟨"TrainBearersModel", "giveBack", "(I)V"⟩, _, 3, none, 11, 2, pm_c250)) rfl rfl ?_
  show hq_W X d 11 false (none) pm_c250 (0, [some (.ref 97), some (.int x1), none], [], h) (fun h' v => J h' ∧ ty_pv h' v)
  refine hq_p rfl rfl ?_
  refine hq_p rfl rfl (ty_ge (n := 17) nk_b17 (fun z1 ez1 => ?_))
  refine ty_callj 0 (W := ty_Wgb) H hJ rfl (fun _ => rfl) rfl rfl rfl (hq_pre_o I.1 (x := 97) (ci := 11) rfl (by decide) rfl rfl rfl rfl) (fun a k w => by unfold ty_Wp at w; unfold ty_Wgb; omega) (by unfold ty_Wp ty_Wgb; omega) (ct_144c (x1 := z1) (by omega) (by omega) (by omega)) (fun h3 _ Jh3 P2 => ?_)
  have Ih3 := H.1 h3 Jh3
  subst P2
  refine hq_p rfl rfl (ty_ge (n := 0) nk_i0 (fun z4 ez4 => ?_))
  refine hq_p (ls' := [some (.ref 97), some (.int x1), some (.int z4)]) rfl rfl ?_
  have L8_n89 : ∀ n89 : Nat, ∀ (y85 : Int32) (h86 : pm_H), (464 - y85.toInt).toNat = n89 → 0 ≤ y85.toInt → y85.toInt ≤ 464 → J h86 → hq_W X d 11 false (none) pm_c250 (8, [some (.ref 97), some (.int x1), some (.int y85)], [], h86) (fun h' v => J h' ∧ ty_pv h' v) := by
    intro n89
    induction n89 using Nat.strongRecOn with
    | ind n89 ihn89 =>
      intro y85 h86 mn89 ay85 by85 Jh86
      have Ih86 := H.1 h86 Jh86
      refine hq_p rfl rfl ?_
      refine hq_p rfl rfl (ty_ge (n := 464) nk_s464 (fun z90 ez90 => ?_))
      refine ty_ige rfl (fun c91 => ?_) (fun c91 => ?_)
      · refine hq_p rfl rfl (ty_ge (n := 0) nk_i0 (fun z92 ez92 => ?_))
        refine hq_p (ls' := [some (.ref 97), some (.int x1), some (.int z92)]) rfl rfl ?_
        have L35_n127 : ∀ n127 : Nat, ∀ (y123 : Int32) (h124 : pm_H), (16 - y123.toInt).toNat = n127 → 0 ≤ y123.toInt → y123.toInt ≤ 16 → J h124 → hq_W X d 11 false (none) pm_c250 (35, [some (.ref 97), some (.int x1), some (.int y123)], [], h124) (fun h' v => J h' ∧ ty_pv h' v) := by
          intro n127
          induction n127 using Nat.strongRecOn with
          | ind n127 ihn127 =>
            intro y123 h124 mn127 ay123 by123 Jh124
            have Ih124 := H.1 h124 Jh124
            refine hq_p rfl rfl ?_
            refine hq_p rfl rfl (ty_ge (n := 16) nk_b16 (fun z128 ez128 => ?_))
            refine ty_ige rfl (fun c129 => ?_) (fun c129 => ?_)
            · refine hq_p rfl rfl ?_
              refine hq_p rfl rfl ?_
              refine ty_pI (W := ty_Wgb) H Jh124 rfl rfl (by decide) rfl rfl (by unfold ty_Wgb; omega) rfl (by omega) (by omega) (fun h130 eh130 Jh130 => ?_)
              have wh130 : (hs_fI h130 97 8).toInt = x1.toInt := by rw [eh130]; exact congrArg Int32.toInt (ty_fI_eq Ih124.1 rfl (by decide) rfl)
              have Ih130 := H.1 h130 Jh130
              exact hq_W.ret rfl rfl rfl ⟨Jh130, rfl⟩
            · refine hq_p rfl rfl ?_
              refine hq_gR Ih124.1 rfl rfl (by decide) (by decide) rfl ?_
              refine hq_p rfl rfl ?_
              refine hq_p rfl rfl ?_
              refine hq_gR Ih124.1 rfl rfl (by decide) (by decide) rfl ?_
              refine hq_p rfl rfl ?_
              refine ty_aL Ih124 rfl rfl (by decide) (by omega) (by omega) (fun _ _ => ty_le rfl) (fun z131 ez131 az131 bz131 => ?_)
              refine ty_aS (W := ty_Wgb) H Jh124 rfl rfl (by decide) (by omega) (by omega) (fun i e => by unfold ty_Wgb; omega) (fun _ _ => ty_eg rfl) (by omega) (by omega) (fun e1 e2 w => by omega) (fun h132 eh132 Jh132 => ?_)
              have Ih132 := H.1 h132 Jh132
              refine ty_inc (ls' := fun z133 => [some (.ref 97), some (.int x1), some (.int z133)]) rfl rfl (fun _ => rfl) (nm_addc nk_i1 (by omega) (by omega)) (fun z133 ez133 => ?_)
              refine hq_p rfl rfl ?_
              exact ihn127 ((16 - z133.toInt).toNat) (by omega) z133 h132 rfl (by omega) (by omega) Jh132
        exact L35_n127 _ z92 h86 rfl (by omega) (by omega) Jh86
      · refine hq_p rfl rfl ?_
        refine hq_gR Ih86.1 rfl rfl (by decide) (by decide) rfl ?_
        refine hq_p rfl rfl ?_
        refine hq_p rfl rfl ?_
        refine hq_gR Ih86.1 rfl rfl (by decide) (by decide) rfl ?_
        refine hq_p rfl rfl ?_
        refine ty_aLx Ih86 rfl rfl (by decide) (by omega) (by omega) (fun z134 ez134 az134 bz134 => ?_)
        refine ty_aS (lo := (ty_a 104 y85.toInt.toNat).1) (hi := (ty_a 104 y85.toInt.toNat).2) (W := ty_Wgb) H Jh86 rfl rfl (by decide) (by omega) (by omega) (fun i e => by unfold ty_Wgb; omega) (fun i e => ty_pe (show ty_sb (5 + i % 29) = ty_sb (5 + y85.toInt.toNat % 29) from congrArg ty_sb (show 5 + i % 29 = 5 + y85.toInt.toNat % 29 by omega))) az134 bz134 (fun e1 e2 w => by omega) (fun h135 eh135 Jh135 => ?_)
        have Ih135 := H.1 h135 Jh135
        refine ty_inc (ls' := fun z136 => [some (.ref 97), some (.int x1), some (.int z136)]) rfl rfl (fun _ => rfl) (nm_addc nk_i1 (by omega) (by omega)) (fun z136 ez136 => ?_)
        refine hq_p rfl rfl ?_
        exact ihn89 ((464 - z136.toInt).toNat) (by omega) z136 h135 rfl (by omega) (by omega) Jh135
  exact L8_n89 _ z4 h3 rfl (by omega) (by omega) Jh3
end CT57
