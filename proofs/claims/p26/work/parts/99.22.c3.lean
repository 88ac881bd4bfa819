/-! TOKENS OF THE CLASS -/
section XFC
theorem xf_38 {X : pm_X} {N d : Nat} {h : pm_H}  {F : Nat → Int32} {T q : Nat} (S : hs_Shape h) (hT : (hs_fI h 62 1).toInt = (T : Int)) (hF : hs_aI h 63 = F) (hq : (hs_fI h 62 4).toInt = (q : Int)) (hqT : q ≤ T) (hT4 : T ≤ 400) : xq_M X N d 38 [.ref 62] h (fun h1 v => hs_Shape h1 ∧ pg (fun a => a = 62) h h1 ∧ xo 62 (fun k => k = 3 ∨ k = 4) h h1 ∧ (v = none ∧ ((hs_fI h1 62 3).toInt = (xt_S F T q : Nat) ∧ (hs_fI h1 62 4).toInt = (xt_E F T (xt_S F T q) : Nat)))) := by
  have sz := S.1
  have lS := xt_S_p (F := F) hqT
  refine xq_M.enter (q := (⟨"TrainBearers$Reader", "advance", "()V"⟩, _, 1, none, 3, 1, pm_c38)) rfl (fun d => ?_)
  show xq_W X (pm_rn X N d) 3 false (none) pm_c38 N (0, [some (.ref 62)], [], h) (fun h1 v => hs_Shape h1 ∧ pg (fun a => a = 62) h h1 ∧ xo 62 (fun k => k = 3 ∨ k = 4) h h1 ∧ (v = none ∧ ((hs_fI h1 62 3).toInt = (xt_S F T q : Nat) ∧ (hs_fI h1 62 4).toInt = (xt_E F T (xt_S F T q) : Nat))))
  have J46_n2 : ∀ Kn2 : Nat, Kn2 ≤ N → ∀  (h1 : pm_H), hs_Shape h1 → pg (fun a => a = 62) h h1 → xo 62 (fun k => k = 3) h h1 → ((hs_fI h1 62 3).toInt = (xt_S F T q : Nat)) → xq_W X (pm_rn X N d) 3 false (none) pm_c38 Kn2 (46, [some (.ref 62)], [], h1) (fun h1 v => hs_Shape h1 ∧ pg (fun a => a = 62) h h1 ∧ xo 62 (fun k => k = 3 ∨ k = 4) h h1 ∧ (v = none ∧ ((hs_fI h1 62 3).toInt = (xt_S F T q : Nat) ∧ (hs_fI h1 62 4).toInt = (xt_E F T (xt_S F T q) : Nat)))) := by
    intro Kn2
    intro hKn2 h1 Sh1 ph1 oh1_0 x0n2
    have J106_n4 : ∀ Kn4 : Nat, Kn4 ≤ Kn2 → ∀  (h3 : pm_H), hs_Shape h3 → pg (fun a => a = 62) h h3 → xo 62 (fun k => k = 3 ∨ k = 4) h h3 → (∃ y : Nat, (hs_fI h3 62 4).toInt = y ∧ xt_all (xt_lt F) T (xt_S F T q) y ∧ (y < T → xt_lt F y = false)) → ((hs_fI h3 62 3).toInt = (xt_S F T q : Nat)) → xq_W X (pm_rn X N d) 3 false (none) pm_c38 Kn4 (106, [some (.ref 62)], [], h3) (fun h1 v => hs_Shape h1 ∧ pg (fun a => a = 62) h h1 ∧ xo 62 (fun k => k = 3 ∨ k = 4) h h1 ∧ (v = none ∧ ((hs_fI h1 62 3).toInt = (xt_S F T q : Nat) ∧ (hs_fI h1 62 4).toInt = (xt_E F T (xt_S F T q) : Nat)))) := by
      intro Kn4
      intro hKn4 h3 Sh3 ph3 oh3_0 x0n4 x1n4
      obtain ⟨y5, hy5, ay5, ny5⟩ := x0n4
      have by5 := ay5.1; have cy5 := ay5.2.1
      have J170_n7 : ∀ Kn7 : Nat, Kn7 ≤ Kn4 → ∀  (h6 : pm_H), hs_Shape h6 → pg (fun a => a = 62) h h6 → xo 62 (fun k => k = 3 ∨ k = 4) h h6 → (∃ y : Nat, (hs_fI h6 62 4).toInt = y ∧ xt_all (xt_dg F) T (xt_S F T q) y ∧ (y < T → xt_dg F y = false)) → ((hs_fI h6 62 3).toInt = (xt_S F T q : Nat)) → ((xt_S F T q < T → xt_lt F (xt_S F T q) = false)) → xq_W X (pm_rn X N d) 3 false (none) pm_c38 Kn7 (170, [some (.ref 62)], [], h6) (fun h1 v => hs_Shape h1 ∧ pg (fun a => a = 62) h h1 ∧ xo 62 (fun k => k = 3 ∨ k = 4) h h1 ∧ (v = none ∧ ((hs_fI h1 62 3).toInt = (xt_S F T q : Nat) ∧ (hs_fI h1 62 4).toInt = (xt_E F T (xt_S F T q) : Nat)))) := by
        intro Kn7
        intro hKn7 h6 Sh6 ph6 oh6_0 x0n7 x1n7 x2n7
        obtain ⟨y8, hy8, ay8, ny8⟩ := x0n7
        have by8 := ay8.1; have cy8 := ay8.2.1
        refine xq_p rfl rfl ?_
        refine xq_gI Sh6 rfl rfl (by decide) rfl (fun z10 ez10 => ?_)
        have tz10 : z10.toInt = (hs_fI h6 62 4).toInt := congrArg Int32.toInt ez10
        have rz10 : 0 ≤ z10.toInt ∧ z10.toInt ≤ 401 := by omega
        refine xq_p rfl rfl ?_
        refine xq_gI Sh6 rfl rfl (by decide) rfl (fun z12 ez12 => ?_)
        have tz12 : z12.toInt = (hs_fI h6 62 3).toInt := congrArg Int32.toInt ez12
        have rz12 : 0 ≤ z12.toInt ∧ z12.toInt ≤ 401 := by omega
        refine xq_ine rfl (fun c13 => ?_) (fun c13 => ?_)
        · refine xq_rv rfl rfl ⟨Sh6, (pg.tr (L1 := fun _ => False) (L := (fun a => a = 62)) pg.rfl ph6 (fun _ q => q.elim) (fun _ q => q)), (xo.tr (L1 := fun _ => False) (L := (fun k => k = 3 ∨ k = 4)) xo.rfl oh6_0 (fun _ q => q.elim) (fun _ q => q)), ?_⟩
          exact ⟨rfl, by omega, by rw [xt_E_d x2n7 ay8 ny8 (by omega)]; omega⟩
        · refine xq_p rfl rfl ?_
          refine xq_gI Sh6 rfl rfl (by decide) rfl (fun z14 ez14 => ?_)
          have tz14 : z14.toInt = (hs_fI h6 62 3).toInt := congrArg Int32.toInt ez14
          refine xq_p rfl rfl ?_
          have f15 : hs_fI h6 62 1 = (hs_fI h 62 1) := (oh6_0.fI 1 (by first | decide | (dsimp only; decide))).trans rfl
          refine xq_gI Sh6 rfl rfl (by decide) rfl (fun z16 ez16 => ?_)
          replace ez16 : z16 = (hs_fI h 62 1) := ez16.trans f15
          have tz16 : z16.toInt = (hs_fI h 62 1).toInt := congrArg Int32.toInt ez16
          have rz16 : 0 ≤ z16.toInt ∧ z16.toInt ≤ 400 := by omega
          refine xq_ige rfl (fun c17 => ?_) (fun c17 => ?_)
          · refine xq_rv rfl rfl ⟨Sh6, (pg.tr (L1 := fun _ => False) (L := (fun a => a = 62)) pg.rfl ph6 (fun _ q => q.elim) (fun _ q => q)), (xo.tr (L1 := fun _ => False) (L := (fun k => k = 3 ∨ k = 4)) xo.rfl oh6_0 (fun _ q => q.elim) (fun _ q => q)), ?_⟩
            exact ⟨rfl, by omega, by rw [xt_E_e (by omega)]; omega⟩
          · refine xq_p rfl rfl ?_
            refine xq_p rfl rfl ?_
            refine xq_gI Sh6 rfl rfl (by decide) rfl (fun z18 ez18 => ?_)
            have tz18 : z18.toInt = (hs_fI h6 62 4).toInt := congrArg Int32.toInt ez18
            refine xq_p rfl rfl (xq_ge (n := 1) nk_i1 (fun z19 ez19 => ?_))
            refine xq_p rfl rfl (xq_ge (n := z18.toInt + z19.toInt) (nm_add (by omega) (by omega)) (fun z20 ez20 => ?_))
            refine xq_pI Sh6 rfl rfl (by decide) rfl (fun h21 eh21 Sh21 => ?_)
            have f22 : hs_fI h21 62 4 = z20 := xf_fI_eq Sh6 eh21 rfl (by decide) rfl
            have f23 : hs_fI h21 62 3 = (hs_fI h6 62 3) := (xf_fI_ne2 eh21 (by decide)).trans rfl
            have i24 : (hs_fI h21 62 3).toInt = (hs_fI h6 62 3).toInt := congrArg Int32.toInt f23
            have i25 : (hs_fI h21 62 4).toInt = z20.toInt := congrArg Int32.toInt f22
            refine xq_rv rfl rfl ⟨Sh21, (pg.tr (pg.tr (L1 := fun _ => False) (L := (fun a => a = 62)) pg.rfl ph6 (fun _ q => q.elim) (fun _ q => q)) (pg.set (L := (fun a => a = 62)) eh21 (rfl)) (fun _ q => q) (fun _ q => q)), (xo.tr (xo.tr (L1 := fun _ => False) (L := (fun k => k = 3 ∨ k = 4)) xo.rfl oh6_0 (fun _ q => q.elim) (fun _ q => q)) (xo.set (L := (fun k => k = 3 ∨ k = 4)) eh21 (Or.inr (rfl))) (fun _ q => q) (fun _ q => q)), ?_⟩
            have eY : y8 = xt_S F T q := by omega
            rw [eY] at ny8
            exact ⟨rfl, by omega, by rw [xt_E_s (by omega) (x2n7 (by omega)) (ny8 (by omega))]; omega⟩
      refine xq_p rfl rfl ?_
      refine xq_gI Sh3 rfl rfl (by decide) rfl (fun z27 ez27 => ?_)
      have tz27 : z27.toInt = (hs_fI h3 62 4).toInt := congrArg Int32.toInt ez27
      have rz27 : 0 ≤ z27.toInt ∧ z27.toInt ≤ 401 := by omega
      refine xq_p rfl rfl ?_
      refine xq_gI Sh3 rfl rfl (by decide) rfl (fun z29 ez29 => ?_)
      have tz29 : z29.toInt = (hs_fI h3 62 3).toInt := congrArg Int32.toInt ez29
      have rz29 : 0 ≤ z29.toInt ∧ z29.toInt ≤ 401 := by omega
      refine xq_ile rfl (fun c30 => ?_) (fun c30 => ?_)
      · have L118_n32 : ∀ Kn32 : Nat, Kn32 ≤ Kn4 → ∀  (h31 : pm_H), hs_Shape h31 → pg (fun a => a = 62) h h31 → xo 62 (fun k => k = 3 ∨ k = 4) h h31 → (∃ y : Nat, (hs_fI h31 62 4).toInt = y ∧ xt_all (xt_dg F) T (xt_S F T q) y) → ((hs_fI h31 62 3).toInt = (xt_S F T q : Nat)) → ((xt_S F T q < T → xt_lt F (xt_S F T q) = false)) → xq_W X (pm_rn X N d) 3 false (none) pm_c38 Kn32 (118, [some (.ref 62)], [], h31) (fun h1 v => hs_Shape h1 ∧ pg (fun a => a = 62) h h1 ∧ xo 62 (fun k => k = 3 ∨ k = 4) h h1 ∧ (v = none ∧ ((hs_fI h1 62 3).toInt = (xt_S F T q : Nat) ∧ (hs_fI h1 62 4).toInt = (xt_E F T (xt_S F T q) : Nat)))) := by
          intro Kn32
          induction Kn32 with
          | zero => intros; exact xq_z
          | succ Kn32 ihn32 =>
            intro hKn32 h31 Sh31 ph31 oh31_0 x0n32 x1n32 x2n32
            obtain ⟨y33, hy33, ay33⟩ := x0n32
            have by33 := ay33.1; have cy33 := ay33.2.1
            refine xq_ps rfl rfl ?_
            refine xq_gI Sh31 rfl rfl (by decide) rfl (fun z35 ez35 => ?_)
            have tz35 : z35.toInt = (hs_fI h31 62 4).toInt := congrArg Int32.toInt ez35
            have rz35 : 0 ≤ z35.toInt ∧ z35.toInt ≤ 401 := by omega
            refine xq_p rfl rfl ?_
            have f36 : hs_fI h31 62 1 = (hs_fI h 62 1) := (oh31_0.fI 1 (by first | decide | (dsimp only; decide))).trans rfl
            refine xq_gI Sh31 rfl rfl (by decide) rfl (fun z37 ez37 => ?_)
            replace ez37 : z37 = (hs_fI h 62 1) := ez37.trans f36
            have tz37 : z37.toInt = (hs_fI h 62 1).toInt := congrArg Int32.toInt ez37
            have rz37 : 0 ≤ z37.toInt ∧ z37.toInt ≤ 400 := by omega
            refine xq_ige rfl (fun c38 => ?_) (fun c38 => ?_)
            · exact J170_n7 Kn32 (by omega) h31 Sh31 (pg.tr (L1 := fun _ => False) (L := (fun a => a = 62)) pg.rfl ph31 (fun _ q => q.elim) (fun _ q => q)) (xo.tr (L1 := fun _ => False) (L := (fun k => k = 3 ∨ k = 4)) xo.rfl oh31_0 (fun _ q => q.elim) (fun _ q => q)) ⟨y33, by omega, ay33, fun hb => xt_dg0 (by omega)⟩ (by omega) x2n32
            · refine xq_p rfl rfl ?_
              refine xq_gR Sh31 rfl rfl (by decide) rfl ?_
              refine xq_p rfl rfl ?_
              refine xq_gI Sh31 rfl rfl (by decide) rfl (fun z40 ez40 => ?_)
              have tz40 : z40.toInt = (hs_fI h31 62 4).toInt := congrArg Int32.toInt ez40
              have f42 : hs_aI h31 63 = (hs_aI h 63) := (ph31.aI (Nat.lt_of_lt_of_le (by decide) S.1) (by first | decide | omega | (dsimp only; omega))).trans rfl
              refine xq_aL Sh31 rfl rfl (by decide) (fun z41 ez41 az41 bz41 => ?_)
              rw [f42] at ez41
              have tz41 : z41.toInt = (F y33).toInt := by rw [ez41, hF, show z40.toInt.toNat = y33 by omega]
              refine xq_p rfl rfl (xq_ge (n := 48) nk_b48 (fun z43 ez43 => ?_))
              refine xq_ilt rfl (fun c44 => ?_) (fun c44 => ?_)
              · exact J170_n7 Kn32 (by omega) h31 Sh31 (pg.tr (L1 := fun _ => False) (L := (fun a => a = 62)) pg.rfl ph31 (fun _ q => q.elim) (fun _ q => q)) (xo.tr (L1 := fun _ => False) (L := (fun k => k = 3 ∨ k = 4)) xo.rfl oh31_0 (fun _ q => q.elim) (fun _ q => q)) ⟨y33, by omega, ay33, fun hb => xt_dg0 (by omega)⟩ (by omega) x2n32
              · refine xq_p rfl rfl ?_
                refine xq_gR Sh31 rfl rfl (by decide) rfl ?_
                refine xq_p rfl rfl ?_
                refine xq_gI Sh31 rfl rfl (by decide) rfl (fun z46 ez46 => ?_)
                have tz46 : z46.toInt = (hs_fI h31 62 4).toInt := congrArg Int32.toInt ez46
                refine xq_aL Sh31 rfl rfl (by decide) (fun z47 ez47 az47 bz47 => ?_)
                rw [f42] at ez47
                have tz47 : z47.toInt = (F y33).toInt := by rw [ez47, hF, show z46.toInt.toNat = y33 by omega]
                refine xq_p rfl rfl (xq_ge (n := 57) nk_b57 (fun z48 ez48 => ?_))
                refine xq_igt rfl (fun c49 => ?_) (fun c49 => ?_)
                · exact J170_n7 Kn32 (by omega) h31 Sh31 (pg.tr (L1 := fun _ => False) (L := (fun a => a = 62)) pg.rfl ph31 (fun _ q => q.elim) (fun _ q => q)) (xo.tr (L1 := fun _ => False) (L := (fun k => k = 3 ∨ k = 4)) xo.rfl oh31_0 (fun _ q => q.elim) (fun _ q => q)) ⟨y33, by omega, ay33, fun hb => xt_dg0 (by omega)⟩ (by omega) x2n32
                · refine xq_p rfl rfl ?_
                  refine xq_p rfl rfl ?_
                  refine xq_gI Sh31 rfl rfl (by decide) rfl (fun z51 ez51 => ?_)
                  have tz51 : z51.toInt = (hs_fI h31 62 4).toInt := congrArg Int32.toInt ez51
                  refine xq_p rfl rfl (xq_ge (n := 1) nk_i1 (fun z52 ez52 => ?_))
                  refine xq_p rfl rfl (xq_ge (n := z51.toInt + z52.toInt) (nm_add (by omega) (by omega)) (fun z53 ez53 => ?_))
                  refine xq_pI Sh31 rfl rfl (by decide) rfl (fun h54 eh54 Sh54 => ?_)
                  have f55 : hs_fI h54 62 4 = z53 := xf_fI_eq Sh31 eh54 rfl (by decide) rfl
                  refine xq_p rfl rfl ?_
                  have f57 : hs_fI h54 62 3 = (hs_fI h31 62 3) := (xf_fI_ne2 eh54 (by decide)).trans rfl
                  have i58 : (hs_fI h54 62 3).toInt = (hs_fI h31 62 3).toInt := congrArg Int32.toInt f57
                  have i59 : (hs_fI h54 62 4).toInt = z53.toInt := congrArg Int32.toInt f55
                  exact ihn32 (by omega) h54 Sh54 (pg.tr (pg.tr (L1 := fun _ => False) (L := (fun a => a = 62)) pg.rfl ph31 (fun _ q => q.elim) (fun _ q => q)) (pg.set (L := (fun a => a = 62)) eh54 (rfl)) (fun _ q => q) (fun _ q => q)) (xo.tr (xo.tr (L1 := fun _ => False) (L := (fun k => k = 3 ∨ k = 4)) xo.rfl oh31_0 (fun _ q => q.elim) (fun _ q => q)) (xo.set (L := (fun k => k = 3 ∨ k = 4)) eh54 (Or.inr (rfl))) (fun _ q => q) (fun _ q => q)) ⟨y33 + 1, by omega, ay33.succ (by omega) (xt_dg1 (by omega) (by omega))⟩ (by omega) x2n32
        exact L118_n32 Kn4 (Nat.le_refl _) h3 Sh3 (pg.tr (L1 := fun _ => False) (L := (fun a => a = 62)) pg.rfl ph3 (fun _ q => q.elim) (fun _ q => q)) (xo.tr (L1 := fun _ => False) (L := (fun k => k = 3 ∨ k = 4)) xo.rfl oh3_0 (fun _ q => q.elim) (fun _ q => q)) ⟨xt_S F T q, by omega, xt_all.zero (by omega)⟩ (by omega) (by have e : y5 = xt_S F T q := (by omega); rw [e] at ny5; exact ny5)
      · refine xq_rv rfl rfl ⟨Sh3, (pg.tr (L1 := fun _ => False) (L := (fun a => a = 62)) pg.rfl ph3 (fun _ q => q.elim) (fun _ q => q)), (xo.tr (L1 := fun _ => False) (L := (fun k => k = 3 ∨ k = 4)) xo.rfl oh3_0 (fun _ q => q.elim) (fun _ q => q)), ?_⟩
        exact ⟨rfl, by omega, by rw [xt_E_l ay5 ny5 (by omega)]; omega⟩
    refine xq_p rfl rfl ?_
    refine xq_p rfl rfl ?_
    refine xq_gI Sh1 rfl rfl (by decide) rfl (fun z61 ez61 => ?_)
    have tz61 : z61.toInt = (hs_fI h1 62 3).toInt := congrArg Int32.toInt ez61
    have rz61 : 0 ≤ z61.toInt ∧ z61.toInt ≤ 401 := by omega
    refine xq_pI Sh1 rfl rfl (by decide) rfl (fun h62 eh62 Sh62 => ?_)
    have f63 : hs_fI h62 62 4 = z61 := xf_fI_eq Sh1 eh62 rfl (by decide) rfl
    have L54_n65 : ∀ Kn65 : Nat, Kn65 ≤ Kn2 → ∀  (h64 : pm_H), hs_Shape h64 → pg (fun a => a = 62) h h64 → xo 62 (fun k => k = 3 ∨ k = 4) h h64 → (∃ y : Nat, (hs_fI h64 62 4).toInt = y ∧ xt_all (xt_lt F) T (xt_S F T q) y) → ((hs_fI h64 62 3).toInt = (xt_S F T q : Nat)) → xq_W X (pm_rn X N d) 3 false (none) pm_c38 Kn65 (54, [some (.ref 62)], [], h64) (fun h1 v => hs_Shape h1 ∧ pg (fun a => a = 62) h h1 ∧ xo 62 (fun k => k = 3 ∨ k = 4) h h1 ∧ (v = none ∧ ((hs_fI h1 62 3).toInt = (xt_S F T q : Nat) ∧ (hs_fI h1 62 4).toInt = (xt_E F T (xt_S F T q) : Nat)))) := by
      intro Kn65
      induction Kn65 with
      | zero => intros; exact xq_z
      | succ Kn65 ihn65 =>
        intro hKn65 h64 Sh64 ph64 oh64_0 x0n65 x1n65
        obtain ⟨y66, hy66, ay66⟩ := x0n65
        have by66 := ay66.1; have cy66 := ay66.2.1
        refine xq_ps rfl rfl ?_
        refine xq_gI Sh64 rfl rfl (by decide) rfl (fun z68 ez68 => ?_)
        have tz68 : z68.toInt = (hs_fI h64 62 4).toInt := congrArg Int32.toInt ez68
        have rz68 : 0 ≤ z68.toInt ∧ z68.toInt ≤ 401 := by omega
        refine xq_p rfl rfl ?_
        have f69 : hs_fI h64 62 1 = (hs_fI h 62 1) := (oh64_0.fI 1 (by first | decide | (dsimp only; decide))).trans rfl
        refine xq_gI Sh64 rfl rfl (by decide) rfl (fun z70 ez70 => ?_)
        replace ez70 : z70 = (hs_fI h 62 1) := ez70.trans f69
        have tz70 : z70.toInt = (hs_fI h 62 1).toInt := congrArg Int32.toInt ez70
        have rz70 : 0 ≤ z70.toInt ∧ z70.toInt ≤ 400 := by omega
        refine xq_ige rfl (fun c71 => ?_) (fun c71 => ?_)
        · exact J106_n4 Kn65 (by omega) h64 Sh64 (pg.tr (L1 := fun _ => False) (L := (fun a => a = 62)) pg.rfl ph64 (fun _ q => q.elim) (fun _ q => q)) (xo.tr (L1 := fun _ => False) (L := (fun k => k = 3 ∨ k = 4)) xo.rfl oh64_0 (fun _ q => q.elim) (fun _ q => q)) ⟨y66, by omega, ay66, fun hb => xt_lt0 (by omega)⟩ (by omega)
        · refine xq_p rfl rfl ?_
          refine xq_gR Sh64 rfl rfl (by decide) rfl ?_
          refine xq_p rfl rfl ?_
          refine xq_gI Sh64 rfl rfl (by decide) rfl (fun z73 ez73 => ?_)
          have tz73 : z73.toInt = (hs_fI h64 62 4).toInt := congrArg Int32.toInt ez73
          have f75 : hs_aI h64 63 = (hs_aI h 63) := (ph64.aI (Nat.lt_of_lt_of_le (by decide) S.1) (by first | decide | omega | (dsimp only; omega))).trans rfl
          refine xq_aL Sh64 rfl rfl (by decide) (fun z74 ez74 az74 bz74 => ?_)
          rw [f75] at ez74
          have tz74 : z74.toInt = (F y66).toInt := by rw [ez74, hF, show z73.toInt.toNat = y66 by omega]
          refine xq_p rfl rfl (xq_ge (n := 97) nk_b97 (fun z76 ez76 => ?_))
          refine xq_ilt rfl (fun c77 => ?_) (fun c77 => ?_)
          · exact J106_n4 Kn65 (by omega) h64 Sh64 (pg.tr (L1 := fun _ => False) (L := (fun a => a = 62)) pg.rfl ph64 (fun _ q => q.elim) (fun _ q => q)) (xo.tr (L1 := fun _ => False) (L := (fun k => k = 3 ∨ k = 4)) xo.rfl oh64_0 (fun _ q => q.elim) (fun _ q => q)) ⟨y66, by omega, ay66, fun hb => xt_lt0 (by omega)⟩ (by omega)
          · refine xq_p rfl rfl ?_
            refine xq_gR Sh64 rfl rfl (by decide) rfl ?_
            refine xq_p rfl rfl ?_
            refine xq_gI Sh64 rfl rfl (by decide) rfl (fun z79 ez79 => ?_)
            have tz79 : z79.toInt = (hs_fI h64 62 4).toInt := congrArg Int32.toInt ez79
            refine xq_aL Sh64 rfl rfl (by decide) (fun z80 ez80 az80 bz80 => ?_)
            rw [f75] at ez80
            have tz80 : z80.toInt = (F y66).toInt := by rw [ez80, hF, show z79.toInt.toNat = y66 by omega]
            refine xq_p rfl rfl (xq_ge (n := 122) nk_b122 (fun z81 ez81 => ?_))
            refine xq_igt rfl (fun c82 => ?_) (fun c82 => ?_)
            · exact J106_n4 Kn65 (by omega) h64 Sh64 (pg.tr (L1 := fun _ => False) (L := (fun a => a = 62)) pg.rfl ph64 (fun _ q => q.elim) (fun _ q => q)) (xo.tr (L1 := fun _ => False) (L := (fun k => k = 3 ∨ k = 4)) xo.rfl oh64_0 (fun _ q => q.elim) (fun _ q => q)) ⟨y66, by omega, ay66, fun hb => xt_lt0 (by omega)⟩ (by omega)
            · refine xq_p rfl rfl ?_
              refine xq_p rfl rfl ?_
              refine xq_gI Sh64 rfl rfl (by decide) rfl (fun z84 ez84 => ?_)
              have tz84 : z84.toInt = (hs_fI h64 62 4).toInt := congrArg Int32.toInt ez84
              refine xq_p rfl rfl (xq_ge (n := 1) nk_i1 (fun z85 ez85 => ?_))
              refine xq_p rfl rfl (xq_ge (n := z84.toInt + z85.toInt) (nm_add (by omega) (by omega)) (fun z86 ez86 => ?_))
              refine xq_pI Sh64 rfl rfl (by decide) rfl (fun h87 eh87 Sh87 => ?_)
              have f88 : hs_fI h87 62 4 = z86 := xf_fI_eq Sh64 eh87 rfl (by decide) rfl
              refine xq_p rfl rfl ?_
              have f90 : hs_fI h87 62 3 = (hs_fI h64 62 3) := (xf_fI_ne2 eh87 (by decide)).trans rfl
              have i91 : (hs_fI h87 62 3).toInt = (hs_fI h64 62 3).toInt := congrArg Int32.toInt f90
              have i92 : (hs_fI h87 62 4).toInt = z86.toInt := congrArg Int32.toInt f88
              exact ihn65 (by omega) h87 Sh87 (pg.tr (pg.tr (L1 := fun _ => False) (L := (fun a => a = 62)) pg.rfl ph64 (fun _ q => q.elim) (fun _ q => q)) (pg.set (L := (fun a => a = 62)) eh87 (rfl)) (fun _ q => q) (fun _ q => q)) (xo.tr (xo.tr (L1 := fun _ => False) (L := (fun k => k = 3 ∨ k = 4)) xo.rfl oh64_0 (fun _ q => q.elim) (fun _ q => q)) (xo.set (L := (fun k => k = 3 ∨ k = 4)) eh87 (Or.inr (rfl))) (fun _ q => q) (fun _ q => q)) ⟨y66 + 1, by omega, ay66.succ (by omega) (xt_lt1 (by omega) (by omega))⟩ (by omega)
    have f93 : hs_fI h62 62 3 = (hs_fI h1 62 3) := (xf_fI_ne2 eh62 (by decide)).trans rfl
    have i94 : (hs_fI h62 62 3).toInt = (hs_fI h1 62 3).toInt := congrArg Int32.toInt f93
    have i95 : (hs_fI h62 62 4).toInt = z61.toInt := congrArg Int32.toInt f63
    exact L54_n65 Kn2 (Nat.le_refl _) h62 Sh62 (pg.tr (pg.tr (L1 := fun _ => False) (L := (fun a => a = 62)) pg.rfl ph1 (fun _ q => q.elim) (fun _ q => q)) (pg.set (L := (fun a => a = 62)) eh62 (rfl)) (fun _ q => q) (fun _ q => q)) (xo.tr (xo.tr (L1 := fun _ => False) (L := (fun k => k = 3 ∨ k = 4)) xo.rfl oh1_0 (fun _ q => q.elim) (fun a => (fun e => (Or.inl e)))) (xo.set (L := (fun k => k = 3 ∨ k = 4)) eh62 (Or.inr (rfl))) (fun _ q => q) (fun _ q => q)) ⟨xt_S F T q, by omega, xt_all.zero (by omega)⟩ (by omega)
  refine xq_p rfl rfl ?_
  refine xq_p rfl rfl ?_
  refine xq_gI S rfl rfl (by decide) rfl (fun z96 ez96 => ?_)
  have tz96 : z96.toInt = (hs_fI h 62 4).toInt := congrArg Int32.toInt ez96
  have rz96 : 0 ≤ z96.toInt ∧ z96.toInt ≤ 401 := by omega
  refine xq_pI S rfl rfl (by decide) rfl (fun h97 eh97 Sh97 => ?_)
  have f98 : hs_fI h97 62 3 = z96 := xf_fI_eq S eh97 rfl (by decide) rfl
  have L8_n100 : ∀ Kn100 : Nat, Kn100 ≤ N → ∀  (h99 : pm_H), hs_Shape h99 → pg (fun a => a = 62) h h99 → xo 62 (fun k => k = 3) h h99 → (∃ y : Nat, (hs_fI h99 62 3).toInt = y ∧ xt_all (xt_bl F) T (q) y) → xq_W X (pm_rn X N d) 3 false (none) pm_c38 Kn100 (8, [some (.ref 62)], [], h99) (fun h1 v => hs_Shape h1 ∧ pg (fun a => a = 62) h h1 ∧ xo 62 (fun k => k = 3 ∨ k = 4) h h1 ∧ (v = none ∧ ((hs_fI h1 62 3).toInt = (xt_S F T q : Nat) ∧ (hs_fI h1 62 4).toInt = (xt_E F T (xt_S F T q) : Nat)))) := by
    intro Kn100
    induction Kn100 with
    | zero => intros; exact xq_z
    | succ Kn100 ihn100 =>
      intro hKn100 h99 Sh99 ph99 oh99_0 x0n100
      obtain ⟨y101, hy101, ay101⟩ := x0n100
      have by101 := ay101.1; have cy101 := ay101.2.1
      refine xq_ps rfl rfl ?_
      refine xq_gI Sh99 rfl rfl (by decide) rfl (fun z103 ez103 => ?_)
      have tz103 : z103.toInt = (hs_fI h99 62 3).toInt := congrArg Int32.toInt ez103
      have rz103 : 0 ≤ z103.toInt ∧ z103.toInt ≤ 401 := by omega
      refine xq_p rfl rfl ?_
      have f104 : hs_fI h99 62 1 = (hs_fI h 62 1) := (oh99_0.fI 1 (by first | decide | (dsimp only; decide))).trans rfl
      refine xq_gI Sh99 rfl rfl (by decide) rfl (fun z105 ez105 => ?_)
      replace ez105 : z105 = (hs_fI h 62 1) := ez105.trans f104
      have tz105 : z105.toInt = (hs_fI h 62 1).toInt := congrArg Int32.toInt ez105
      have rz105 : 0 ≤ z105.toInt ∧ z105.toInt ≤ 400 := by omega
      refine xq_ige rfl (fun c106 => ?_) (fun c106 => ?_)
      · have f107 : hs_fI h99 62 4 = (hs_fI h 62 4) := (oh99_0.fI 4 (by first | decide | (dsimp only; decide))).trans rfl
        have i108 : (hs_fI h99 62 4).toInt = (hs_fI h 62 4).toInt := congrArg Int32.toInt f107
        exact J46_n2 Kn100 (by omega) h99 Sh99 (pg.tr (L1 := fun _ => False) (L := (fun a => a = 62)) pg.rfl ph99 (fun _ q => q.elim) (fun _ q => q)) (xo.tr (L1 := fun _ => False) (L := (fun k => k = 3)) xo.rfl oh99_0 (fun _ q => q.elim) (fun _ q => q)) (by rw [xt_S_f ay101 (fun hb => by omega)]; omega)
      · refine xq_p rfl rfl ?_
        refine xq_gR Sh99 rfl rfl (by decide) rfl ?_
        refine xq_p rfl rfl ?_
        refine xq_gI Sh99 rfl rfl (by decide) rfl (fun z109 ez109 => ?_)
        have tz109 : z109.toInt = (hs_fI h99 62 3).toInt := congrArg Int32.toInt ez109
        have f111 : hs_aI h99 63 = (hs_aI h 63) := (ph99.aI (Nat.lt_of_lt_of_le (by decide) S.1) (by first | decide | omega | (dsimp only; omega))).trans rfl
        refine xq_aL Sh99 rfl rfl (by decide) (fun z110 ez110 az110 bz110 => ?_)
        rw [f111] at ez110
        have tz110 : z110.toInt = (F y101).toInt := by rw [ez110, hF, show z109.toInt.toNat = y101 by omega]
        refine xq_p rfl rfl (xq_ge (n := 32) nk_b32 (fun z112 ez112 => ?_))
        refine xq_ine rfl (fun c113 => ?_) (fun c113 => ?_)
        · have f114 : hs_fI h99 62 4 = (hs_fI h 62 4) := (oh99_0.fI 4 (by first | decide | (dsimp only; decide))).trans rfl
          have i115 : (hs_fI h99 62 4).toInt = (hs_fI h 62 4).toInt := congrArg Int32.toInt f114
          exact J46_n2 Kn100 (by omega) h99 Sh99 (pg.tr (L1 := fun _ => False) (L := (fun a => a = 62)) pg.rfl ph99 (fun _ q => q.elim) (fun _ q => q)) (xo.tr (L1 := fun _ => False) (L := (fun k => k = 3)) xo.rfl oh99_0 (fun _ q => q.elim) (fun _ q => q)) (by rw [xt_S_f ay101 (fun hb => by omega)]; omega)
        · refine xq_p rfl rfl ?_
          refine xq_p rfl rfl ?_
          refine xq_gI Sh99 rfl rfl (by decide) rfl (fun z116 ez116 => ?_)
          have tz116 : z116.toInt = (hs_fI h99 62 3).toInt := congrArg Int32.toInt ez116
          refine xq_p rfl rfl (xq_ge (n := 1) nk_i1 (fun z117 ez117 => ?_))
          refine xq_p rfl rfl (xq_ge (n := z116.toInt + z117.toInt) (nm_add (by omega) (by omega)) (fun z118 ez118 => ?_))
          refine xq_pI Sh99 rfl rfl (by decide) rfl (fun h119 eh119 Sh119 => ?_)
          have f120 : hs_fI h119 62 3 = z118 := xf_fI_eq Sh99 eh119 rfl (by decide) rfl
          refine xq_p rfl rfl ?_
          have i121 : (hs_fI h119 62 3).toInt = z118.toInt := congrArg Int32.toInt f120
          have f122 : hs_fI h99 62 4 = (hs_fI h 62 4) := (oh99_0.fI 4 (by first | decide | (dsimp only; decide))).trans rfl
          have f123 : hs_fI h119 62 4 = (hs_fI h 62 4) := (xf_fI_ne2 eh119 (by decide)).trans f122
          have i124 : (hs_fI h119 62 4).toInt = (hs_fI h 62 4).toInt := congrArg Int32.toInt f123
          exact ihn100 (by omega) h119 Sh119 (pg.tr (pg.tr (L1 := fun _ => False) (L := (fun a => a = 62)) pg.rfl ph99 (fun _ q => q.elim) (fun _ q => q)) (pg.set (L := (fun a => a = 62)) eh119 (rfl)) (fun _ q => q) (fun _ q => q)) (xo.tr (xo.tr (L1 := fun _ => False) (L := (fun k => k = 3)) xo.rfl oh99_0 (fun _ q => q.elim) (fun _ q => q)) (xo.set (L := (fun k => k = 3)) eh119 (rfl)) (fun _ q => q) (fun _ q => q)) ⟨y101 + 1, by omega, ay101.succ (by omega) (by unfold xt_bl; exact decide_eq_true (by omega))⟩
  have i125 : (hs_fI h97 62 3).toInt = z96.toInt := congrArg Int32.toInt f98
  have f126 : hs_fI h97 62 4 = (hs_fI h 62 4) := (xf_fI_ne2 eh97 (by decide)).trans rfl
  have i127 : (hs_fI h97 62 4).toInt = (hs_fI h 62 4).toInt := congrArg Int32.toInt f126
  exact L8_n100 N (Nat.le_refl _) h97 Sh97 (pg.set (L := (fun a => a = 62)) eh97 (rfl)) (xo.set (L := (fun k => k = 3)) eh97 (rfl)) ⟨q, by omega, xt_all.zero (by omega)⟩

theorem xf_40 {X : pm_X} {N d : Nat} {h : pm_H} {k0 : Nat} {F : Nat → Int32} {T s : Nat} (hX : ty_SX X) (S : hs_Shape h) (hk0 : k0 < 23) (R : xr F T h s) (hk : xs_ok k0 = true) : xq_M X N d 40 [.ref 62, .retAddr k0] h (fun h1 v => h1 = h ∧ (∃ z : Int32, v = some (.int z) ∧ ((z.toInt = 1 ∧ (xs_q F T s k0 = true)) ∨ (z.toInt = 0 ∧ (xs_q F T s k0 = false))))) := by
  have sz := S.1
  have snk0 := ty_sn0 hk0
  obtain ⟨hT, hF, h3, h4, hsT, hT4⟩ := R
  have hE := xt_E_p (F := F) hsT
  refine xq_M.enter (q := (⟨"TrainBearers$Reader", "isHere", "(Ljava/lang/String;)Z"⟩, _, 3, some .boolean, 3, 2, pm_c40)) rfl (fun d => ?_)
  show xq_W X (pm_rn X N d) 3 false (some .boolean) pm_c40 N (0, [some (.ref 62), some (.retAddr k0), none], [], h) (fun h1 v => h1 = h ∧ (∃ z : Int32, v = some (.int z) ∧ ((z.toInt = 1 ∧ (xs_q F T s k0 = true)) ∨ (z.toInt = 0 ∧ (xs_q F T s k0 = false)))))
  refine xq_p rfl rfl ?_
  refine xq_gI S rfl rfl (by decide) rfl (fun z1 ez1 => ?_)
  have tz1 : z1.toInt = (hs_fI h 62 4).toInt := congrArg Int32.toInt ez1
  have rz1 : 0 ≤ z1.toInt ∧ z1.toInt ≤ 400 := by omega
  refine xq_p rfl rfl ?_
  refine xq_gI S rfl rfl (by decide) rfl (fun z2 ez2 => ?_)
  have tz2 : z2.toInt = (hs_fI h 62 3).toInt := congrArg Int32.toInt ez2
  have rz2 : 0 ≤ z2.toInt ∧ z2.toInt ≤ 400 := by omega
  refine xq_p rfl rfl (xq_ge (n := z1.toInt - z2.toInt) (nm_sub (by omega) (by omega)) (fun z3 ez3 => ?_))
  refine xq_p rfl rfl ?_
  refine xq_callp 0 rfl (fun _ => rfl) rfl rfl (xf_260 (k0 := k0) hX S hk0) (fun v5 P4 => ?_)
  obtain ⟨z6, rfl, Pz6⟩ := P4
  have rz6 : 0 ≤ z6.toInt ∧ z6.toInt ≤ 100 := by omega
  refine xq_ieq rfl (fun c7 => ?_) (fun c7 => ?_)
  · refine xq_p rfl rfl (xq_ge (n := 0) nk_i0 (fun z8 ez8 => ?_))
    refine xq_p (ls' := [some (.ref 62), some (.retAddr k0), some (.int z8)]) rfl rfl ?_
    have L20_n10 : ∀ Kn10 : Nat, Kn10 ≤ N → ∀ (y9 : Int32), 0 ≤ y9.toInt → y9.toInt ≤ 100 → (∀ j : Nat, (j : Int) < y9.toInt → (F (s + j)).toInt = (xq_sb k0 j).toInt) → xq_W X (pm_rn X N d) 3 false (some .boolean) pm_c40 Kn10 (20, [some (.ref 62), some (.retAddr k0), some (.int y9)], [], h) (fun h1 v => h1 = h ∧ (∃ z : Int32, v = some (.int z) ∧ ((z.toInt = 1 ∧ (xs_q F T s k0 = true)) ∨ (z.toInt = 0 ∧ (xs_q F T s k0 = false))))) := by
      intro Kn10
      induction Kn10 with
      | zero => intros; exact xq_z
      | succ Kn10 ihn10 =>
        intro hKn10 y9 ay9 by9 x0n10
        refine xq_ps rfl rfl ?_
        refine xq_p rfl rfl ?_
        refine xq_callp 0 rfl (fun _ => rfl) rfl rfl (xf_260 (k0 := k0) hX S hk0) (fun v12 P11 => ?_)
        obtain ⟨z13, rfl, Pz13⟩ := P11
        have rz13 : 0 ≤ z13.toInt ∧ z13.toInt ≤ 100 := by omega
        refine xq_ige rfl (fun c14 => ?_) (fun c14 => ?_)
        · refine xq_p rfl rfl (xq_ge (n := 1) nk_i1 (fun z15 ez15 => ?_))
          refine xq_r rfl ⟨rfl, ?_⟩
          exact ⟨_, rfl, Or.inl ⟨by omega, xs_q1 hsT hk (xt_is_i (by omega) (fun j hj => x0n10 j (by omega)))⟩⟩
        · refine xq_p rfl rfl ?_
          refine xq_gR S rfl rfl (by decide) rfl ?_
          refine xq_p rfl rfl ?_
          refine xq_gI S rfl rfl (by decide) rfl (fun z16 ez16 => ?_)
          have tz16 : z16.toInt = (hs_fI h 62 3).toInt := congrArg Int32.toInt ez16
          refine xq_p rfl rfl ?_
          refine xq_p rfl rfl (xq_ge (n := z16.toInt + y9.toInt) (nm_add (by omega) (by omega)) (fun z17 ez17 => ?_))
          refine xq_aL S rfl rfl (by decide) (fun z18 ez18 az18 bz18 => ?_)
          have tz18 : z18.toInt = (F (s + y9.toInt.toNat)).toInt := by rw [ez18, hF, show z17.toInt.toNat = (s + y9.toInt.toNat) by omega]
          refine xq_p rfl rfl ?_
          refine xq_p rfl rfl ?_
          refine xq_callp 0 rfl (fun _ => rfl) rfl rfl (xf_261 (k0 := k0) (x1 := y9) hX S hk0) (fun v20 P19 => ?_)
          obtain ⟨z21, rfl, Pz21⟩ := P19
          obtain ⟨Qz21, _, _⟩ := Pz21
          replace Pz21 := Qz21
          have qz21 := congrArg Int32.toInt Pz21
          refine xq_ieq rfl (fun c22 => ?_) (fun c22 => ?_)
          · refine xq_inc (ls' := fun z23 => [some (.ref 62), some (.retAddr k0), some (.int z23)]) rfl rfl (fun _ => rfl) (nm_addc nk_i1 (by omega) (by omega)) (fun z23 ez23 => ?_)
            refine xq_p rfl rfl ?_
            exact ihn10 (by omega) z23 (by omega) (by omega) (fun j hj => by by_cases e : j = y9.toInt.toNat; (subst e; have q := congrArg Int32.toInt Pz21; omega); exact x0n10 j (by omega))
          · refine xq_p rfl rfl (xq_ge (n := 0) nk_i0 (fun z24 ez24 => ?_))
            refine xq_r rfl ⟨rfl, ?_⟩
            exact ⟨_, rfl, Or.inr ⟨by omega, xs_q0 hsT hk (xt_is_n2 (j := y9.toInt.toNat) (by omega) (by omega))⟩⟩
    exact L20_n10 N (Nat.le_refl _) z8 (by omega) (by omega) (fun j hj => by omega)
  · refine xq_p rfl rfl (xq_ge (n := 0) nk_i0 (fun z25 ez25 => ?_))
    refine xq_r rfl ⟨rfl, ?_⟩
    exact ⟨_, rfl, Or.inr ⟨by omega, xs_q0 hsT hk (xt_is_n1 (by omega))⟩⟩

theorem xf_42 {X : pm_X} {N d : Nat} {h : pm_H}  {F : Nat → Int32} {T s : Nat} (S : hs_Shape h) (R : xr F T h s) : xq_M X N d 42 [.ref 62] h (fun h1 v => h1 = h ∧ (∃ z : Int32, v = some (.int z) ∧ (z.toInt = xn_h F T s))) := by
  have sz := S.1
  obtain ⟨hT, hF, h3, h4, hsT, hT4⟩ := R
  have hE := xt_E_p (F := F) hsT
  refine xq_M.enter (q := (⟨"TrainBearers$Reader", "numberHere", "()I"⟩, _, 3, some .int, 3, 1, pm_c42)) rfl (fun d => ?_)
  show xq_W X (pm_rn X N d) 3 false (some .int) pm_c42 N (0, [some (.ref 62), none, none], [], h) (fun h1 v => h1 = h ∧ (∃ z : Int32, v = some (.int z) ∧ (z.toInt = xn_h F T s)))
  refine xq_p rfl rfl ?_
  refine xq_gI S rfl rfl (by decide) rfl (fun z1 ez1 => ?_)
  have tz1 : z1.toInt = (hs_fI h 62 3).toInt := congrArg Int32.toInt ez1
  have rz1 : 0 ≤ z1.toInt ∧ z1.toInt ≤ 400 := by omega
  refine xq_p rfl rfl ?_
  refine xq_gI S rfl rfl (by decide) rfl (fun z2 ez2 => ?_)
  have tz2 : z2.toInt = (hs_fI h 62 4).toInt := congrArg Int32.toInt ez2
  have rz2 : 0 ≤ z2.toInt ∧ z2.toInt ≤ 400 := by omega
  refine xq_ige rfl (fun c3 => ?_) (fun c3 => ?_)
  · refine xq_p rfl rfl (xq_ge (n := -1) nk_im1 (fun z4 ez4 => ?_))
    refine xq_r rfl ⟨rfl, ?_⟩
    have nk : ¬ md_k F T s = 2 := fun q => by have q := md_k_p.2.1 q; have p := xt_dgp q.2.2; have w := hE.2.2 q.1; omega
    exact ⟨_, rfl, by unfold xn_h; rw [decide_eq_false nk]; show _ = (-1 : Int); omega⟩
  · refine xq_p rfl rfl ?_
    refine xq_gR S rfl rfl (by decide) rfl ?_
    refine xq_p rfl rfl ?_
    refine xq_gI S rfl rfl (by decide) rfl (fun z5 ez5 => ?_)
    have tz5 : z5.toInt = (hs_fI h 62 3).toInt := congrArg Int32.toInt ez5
    refine xq_aL S rfl rfl (by decide) (fun z6 ez6 az6 bz6 => ?_)
    have tz6 : z6.toInt = (F s).toInt := by rw [ez6, hF, show z5.toInt.toNat = s by omega]
    refine xq_p rfl rfl (xq_ge (n := 48) nk_b48 (fun z7 ez7 => ?_))
    refine xq_ilt rfl (fun c8 => ?_) (fun c8 => ?_)
    · refine xq_p rfl rfl (xq_ge (n := -1) nk_im1 (fun z9 ez9 => ?_))
      refine xq_r rfl ⟨rfl, ?_⟩
      have nk : ¬ md_k F T s = 2 := fun q => by have q := md_k_p.2.1 q; have p := xt_dgp q.2.2; have w := hE.2.2 q.1; omega
      exact ⟨_, rfl, by unfold xn_h; rw [decide_eq_false nk]; show _ = (-1 : Int); omega⟩
    · refine xq_p rfl rfl ?_
      refine xq_gR S rfl rfl (by decide) rfl ?_
      refine xq_p rfl rfl ?_
      refine xq_gI S rfl rfl (by decide) rfl (fun z10 ez10 => ?_)
      have tz10 : z10.toInt = (hs_fI h 62 3).toInt := congrArg Int32.toInt ez10
      refine xq_aL S rfl rfl (by decide) (fun z11 ez11 az11 bz11 => ?_)
      have tz11 : z11.toInt = (F s).toInt := by rw [ez11, hF, show z10.toInt.toNat = s by omega]
      refine xq_p rfl rfl (xq_ge (n := 57) nk_b57 (fun z12 ez12 => ?_))
      refine xq_ile rfl (fun c13 => ?_) (fun c13 => ?_)
      · have kd := md_k_2 (F := F) (T := T) (s := s) (by omega) (xt_lt0 (by omega)) (xt_dg1 (by omega) (by omega))
        have hD := xt_E_dg (F := F) (T := T) (s := s) (by omega) (xt_lt0 (by omega)) (xt_dg1 (by omega) (by omega))
        refine xq_p rfl rfl (xq_ge (n := 0) nk_i0 (fun z14 ez14 => ?_))
        refine xq_p (ls' := [some (.ref 62), some (.int z14), none]) rfl rfl ?_
        refine xq_p rfl rfl ?_
        refine xq_gI S rfl rfl (by decide) rfl (fun z15 ez15 => ?_)
        have tz15 : z15.toInt = (hs_fI h 62 3).toInt := congrArg Int32.toInt ez15
        refine xq_p (ls' := [some (.ref 62), some (.int z14), some (.int z15)]) rfl rfl ?_
        have L48_n18 : ∀ Kn18 : Nat, Kn18 ≤ N → ∀ (y16 : Int32) (y17 : Int32), 0 ≤ y16.toInt → y16.toInt ≤ 10009 → 0 ≤ y17.toInt → y17.toInt ≤ 400 → (y16.toInt = xt_cv F s (y17.toInt.toNat - s)) → ((s : Int) ≤ y17.toInt ∧ y17.toInt ≤ (xt_E F T s : Nat)) → xq_W X (pm_rn X N d) 3 false (some .int) pm_c42 Kn18 (48, [some (.ref 62), some (.int y16), some (.int y17)], [], h) (fun h1 v => h1 = h ∧ (∃ z : Int32, v = some (.int z) ∧ (z.toInt = xn_h F T s))) := by
          intro Kn18
          induction Kn18 with
          | zero => intros; exact xq_z
          | succ Kn18 ihn18 =>
            intro hKn18 y16 y17 ay16 by16 ay17 by17 x0n18 x1n18
            refine xq_ps rfl rfl ?_
            refine xq_p rfl rfl ?_
            refine xq_gI S rfl rfl (by decide) rfl (fun z19 ez19 => ?_)
            have tz19 : z19.toInt = (hs_fI h 62 4).toInt := congrArg Int32.toInt ez19
            refine xq_ige rfl (fun c20 => ?_) (fun c20 => ?_)
            · refine xq_p rfl rfl ?_
              refine xq_r rfl ⟨rfl, ?_⟩
              exact ⟨_, rfl, by unfold xn_h; rw [decide_eq_true kd]; show _ = xt_cv F s (xt_E F T s - s); rw [x0n18, show y17.toInt.toNat - s = xt_E F T s - s by omega]⟩
            · refine xq_p rfl rfl ?_
              refine xq_p rfl rfl (xq_ge (n := 1000) nk_s1000 (fun z21 ez21 => ?_))
              refine xq_igt rfl (fun c22 => ?_) (fun c22 => ?_)
              · refine xq_p rfl rfl ?_
                refine xq_r rfl ⟨rfl, ?_⟩
                have big := xt_cv_big (F := F) (s := s) (n := y17.toInt.toNat - s) (by omega) (xt_E F T s - y17.toInt.toNat)
                exact ⟨_, rfl, by unfold xn_h; rw [decide_eq_true kd]; show _ = xt_cv F s (xt_E F T s - s); rw [show xt_E F T s - s = (y17.toInt.toNat - s) + (xt_E F T s - y17.toInt.toNat) by omega, big]; exact x0n18⟩
              · refine xq_p rfl rfl ?_
                refine xq_p rfl rfl (xq_ge (n := 10) nk_b10 (fun z23 ez23 => ?_))
                refine xq_p rfl rfl (xq_ge (n := 10 * y16.toInt) (nm_mulc ez23 (by omega) (by omega)) (fun z24 ez24 => ?_))
                refine xq_p rfl rfl ?_
                refine xq_gR S rfl rfl (by decide) rfl ?_
                refine xq_p rfl rfl ?_
                refine xq_aL S rfl rfl (by decide) (fun z25 ez25 az25 bz25 => ?_)
                have tz25 : z25.toInt = (F y17.toInt.toNat).toInt := by rw [ez25, hF, show y17.toInt.toNat = y17.toInt.toNat by omega]
                have dz25 := xt_dgp (hD y17.toInt.toNat (by omega) (by omega))
                have Dz25 : 48 ≤ z25.toInt ∧ z25.toInt ≤ 57 := by omega
                refine xq_p rfl rfl (xq_ge (n := z24.toInt + z25.toInt) (nm_add (by omega) (by omega)) (fun z26 ez26 => ?_))
                refine xq_p rfl rfl (xq_ge (n := 48) nk_b48 (fun z27 ez27 => ?_))
                refine xq_p rfl rfl (xq_ge (n := z26.toInt - z27.toInt) (nm_sub (by omega) (by omega)) (fun z28 ez28 => ?_))
                refine xq_p (ls' := [some (.ref 62), some (.int z28), some (.int y17)]) rfl rfl ?_
                refine xq_inc (ls' := fun z29 => [some (.ref 62), some (.int z28), some (.int z29)]) rfl rfl (fun _ => rfl) (nm_addc nk_i1 (by omega) (by omega)) (fun z29 ez29 => ?_)
                refine xq_p rfl rfl ?_
                exact ihn18 (by omega) z28 z29 (by omega) (by omega) (by omega) (by omega) (by rw [show z29.toInt.toNat - s = (y17.toInt.toNat - s) + 1 by omega]; show _ = (if xt_cv F s (y17.toInt.toNat - s) ≤ 1000 then xt_cv F s (y17.toInt.toNat - s) * 10 + (F (s + (y17.toInt.toNat - s))).toInt - 48 else _); rw [if_pos (by omega), show s + (y17.toInt.toNat - s) = y17.toInt.toNat by omega]; omega) (by omega)
        exact L48_n18 N (Nat.le_refl _) z14 z15 (by omega) (by omega) (by omega) (by omega) (by rw [show z15.toInt.toNat - s = 0 by omega]; exact ez14) (by omega)
      · refine xq_p rfl rfl (xq_ge (n := -1) nk_im1 (fun z30 ez30 => ?_))
        refine xq_r rfl ⟨rfl, ?_⟩
        have nk : ¬ md_k F T s = 2 := fun q => by have q := md_k_p.2.1 q; have p := xt_dgp q.2.2; have w := hE.2.2 q.1; omega
        exact ⟨_, rfl, by unfold xn_h; rw [decide_eq_false nk]; show _ = (-1 : Int); omega⟩

theorem xf_41 {X : pm_X} {N d : Nat} {h : pm_H} {k0 : Nat} {F : Nat → Int32} {T s : Nat} (hX : ty_SX X) (S : hs_Shape h) (hk0 : k0 < 23) (R : xr F T h s) (hk : [0, 9, 10, 18].contains k0 = true) : xq_M X N d 41 [.ref 62, .retAddr k0] h (fun h1 v => h1 = h ∧ (∃ z : Int32, v = some (.int z) ∧ (z.toInt = (md_at F T s (xs_l k0) 0 0 : Int) - 1))) := by
  have sz := S.1
  have snk0 := ty_sn0 hk0
  obtain ⟨hT, hF, h3, h4, hsT, hT4⟩ := R
  have hE := xt_E_p (F := F) hsT
  refine xq_M.enter (q := (⟨"TrainBearers$Reader", "wordHere", "(Ljava/lang/String;)I"⟩, _, 7, some .int, 3, 2, pm_c41)) rfl (fun d => ?_)
  show xq_W X (pm_rn X N d) 3 false (some .int) pm_c41 N (0, [some (.ref 62), some (.retAddr k0), none, none, none, none, none], [], h) (fun h1 v => h1 = h ∧ (∃ z : Int32, v = some (.int z) ∧ (z.toInt = (md_at F T s (xs_l k0) 0 0 : Int) - 1)))
  refine xq_p rfl rfl (xq_ge (n := 0) nk_i0 (fun z1 ez1 => ?_))
  refine xq_p (ls' := [some (.ref 62), some (.retAddr k0), some (.int z1), none, none, none, none]) rfl rfl ?_
  refine xq_p rfl rfl (xq_ge (n := 0) nk_i0 (fun z2 ez2 => ?_))
  refine xq_p (ls' := [some (.ref 62), some (.retAddr k0), some (.int z1), some (.int z2), none, none, none]) rfl rfl ?_
  refine xq_p rfl rfl (xq_ge (n := 1) nk_i1 (fun z3 ez3 => ?_))
  refine xq_p (ls' := [some (.ref 62), some (.retAddr k0), some (.int z1), some (.int z2), some (.int z3), none, none]) rfl rfl ?_
  refine xq_p rfl rfl (xq_ge (n := 0) nk_i0 (fun z4 ez4 => ?_))
  refine xq_p (ls' := [some (.ref 62), some (.retAddr k0), some (.int z1), some (.int z2), some (.int z3), some (.int z4), none]) rfl rfl ?_
  have L10_n10 : ∀ Kn10 : Nat, Kn10 ≤ N → ∀ (y5 : Int32) (y6 : Int32) (y7 : Int32) (y8 : Int32) (w9 : Option Value), 0 ≤ y5.toInt → y5.toInt ≤ 100 → 0 ≤ y6.toInt → y6.toInt ≤ 100 → 0 ≤ y7.toInt → y7.toInt ≤ 1 → 0 ≤ y8.toInt → y8.toInt ≤ 100 → pm_two w9 = false → (xc_w F s (xt_E F T s) (xs_w k0) 0 0 true = xc_w F s (xt_E F T s) ((xs_w k0).drop y8.toInt.toNat) y5.toInt y6.toInt.toNat (decide (y7.toInt = 1))) → (y5.toInt ≤ y8.toInt ∧ y6.toInt ≤ y8.toInt) → xq_W X (pm_rn X N d) 3 false (some .int) pm_c41 Kn10 (10, [some (.ref 62), some (.retAddr k0), some (.int y5), some (.int y6), some (.int y7), some (.int y8), w9], [], h) (fun h1 v => h1 = h ∧ (∃ z : Int32, v = some (.int z) ∧ (z.toInt = (md_at F T s (xs_l k0) 0 0 : Int) - 1))) := by
    intro Kn10
    induction Kn10 with
    | zero => intros; exact xq_z
    | succ Kn10 ihn10 =>
      intro hKn10 y5 y6 y7 y8 w9 ay5 by5 ay6 by6 ay7 by7 ay8 by8 kw9 x0n10 x1n10
      refine xq_ps rfl rfl ?_
      refine xq_p rfl rfl ?_
      refine xq_callp 0 rfl (fun _ => rfl) rfl rfl (xf_260 (k0 := k0) hX S hk0) (fun v12 P11 => ?_)
      obtain ⟨z13, rfl, Pz13⟩ := P11
      have rz13 : 0 ≤ z13.toInt ∧ z13.toInt ≤ 100 := by omega
      refine xq_ige rfl (fun c14 => ?_) (fun c14 => ?_)
      · refine xq_p rfl rfl (xq_ge (n := -1) nk_im1 (fun z15 ez15 => ?_))
        refine xq_r rfl ⟨rfl, ?_⟩
        rw [xs_dr0 (k := k0) (by omega)] at x0n10
        exact ⟨_, rfl, by rw [← xc_w_l hsT hk, x0n10]; show _ = (-1 : Int); omega⟩
      · refine xq_p rfl rfl ?_
        refine xq_p rfl rfl ?_
        refine xq_callp 0 rfl (fun _ => rfl) rfl rfl (xf_261 (k0 := k0) (x1 := y8) hX S hk0) (fun v17 P16 => ?_)
        obtain ⟨z18, rfl, Pz18⟩ := P16
        obtain ⟨Qz18, uz18, wz18⟩ := Pz18
        have qz18 := congrArg Int32.toInt Qz18
        have bz18 := xb_sb (k := k0) (j := y8.toInt.toNat) hk0 (by omega)
        have dz18 := xs_dr (k := k0) (j := y8.toInt.toNat) (by omega)
        rw [dz18, ← qz18] at x0n10
        refine xq_p (ls' := [some (.ref 62), some (.retAddr k0), some (.int y5), some (.int y6), some (.int y7), some (.int y8), some (.int z18)]) rfl rfl ?_
        refine xq_p rfl rfl ?_
        refine xq_p rfl rfl (xq_ge (n := 32) nk_b32 (fun z19 ez19 => ?_))
        refine xq_ieq rfl (fun c20 => ?_) (fun c20 => ?_)
        · refine xq_p rfl rfl ?_
          refine xq_zeq rfl (fun c21 => ?_) (fun c21 => ?_)
          · have q22 : xc_w F s (xt_E F T s) (xs_w k0) 0 0 true = xc_w F s (xt_E F T s) ((xs_w k0).drop (y8.toInt.toNat + 1)) (y5.toInt + 1) 0 true := by rw [x0n10]; exact xc_b0 (by omega) (fun q => by have q1 := of_decide_eq_true q.1; have q2 := q.2; omega)
            refine xq_inc (ls' := fun z23 => [some (.ref 62), some (.retAddr k0), some (.int z23), some (.int y6), some (.int y7), some (.int y8), some (.int z18)]) rfl rfl (fun _ => rfl) (nm_addc nk_i1 (by omega) (by omega)) (fun z23 ez23 => ?_)
            refine xq_p rfl rfl (xq_ge (n := 0) nk_i0 (fun z24 ez24 => ?_))
            refine xq_p (ls' := [some (.ref 62), some (.retAddr k0), some (.int z23), some (.int z24), some (.int y7), some (.int y8), some (.int z18)]) rfl rfl ?_
            refine xq_p rfl rfl (xq_ge (n := 1) nk_i1 (fun z25 ez25 => ?_))
            refine xq_p (ls' := [some (.ref 62), some (.retAddr k0), some (.int z23), some (.int z24), some (.int z25), some (.int y8), some (.int z18)]) rfl rfl ?_
            refine xq_inc (ls' := fun z26 => [some (.ref 62), some (.retAddr k0), some (.int z23), some (.int z24), some (.int z25), some (.int z26), some (.int z18)]) rfl rfl (fun _ => rfl) (nm_addc nk_i1 (by omega) (by omega)) (fun z26 ez26 => ?_)
            refine xq_p rfl rfl ?_
            exact ihn10 (by omega) z23 z24 z25 z26 (some (.int z18)) (by omega) (by omega) (by omega) (by omega) (by omega) (by omega) (by omega) (by omega) rfl (by rw [q22]; exact xc_eq (by omega) (by omega) (by omega) (decide_eq_true (by omega)).symm) (by omega)
          · refine xq_p rfl rfl ?_
            refine xq_p rfl rfl ?_
            refine xq_gI S rfl rfl (by decide) rfl (fun z27 ez27 => ?_)
            have tz27 : z27.toInt = (hs_fI h 62 4).toInt := congrArg Int32.toInt ez27
            have rz27 : 0 ≤ z27.toInt ∧ z27.toInt ≤ 400 := by omega
            refine xq_p rfl rfl ?_
            refine xq_gI S rfl rfl (by decide) rfl (fun z28 ez28 => ?_)
            have tz28 : z28.toInt = (hs_fI h 62 3).toInt := congrArg Int32.toInt ez28
            have rz28 : 0 ≤ z28.toInt ∧ z28.toInt ≤ 400 := by omega
            refine xq_p rfl rfl (xq_ge (n := z27.toInt - z28.toInt) (nm_sub (by omega) (by omega)) (fun z29 ez29 => ?_))
            refine xq_ine rfl (fun c30 => ?_) (fun c30 => ?_)
            · have q31 : xc_w F s (xt_E F T s) (xs_w k0) 0 0 true = xc_w F s (xt_E F T s) ((xs_w k0).drop (y8.toInt.toNat + 1)) (y5.toInt + 1) 0 true := by rw [x0n10]; exact xc_b0 (by omega) (fun q => by have q1 := of_decide_eq_true q.1; have q2 := q.2; omega)
              refine xq_inc (ls' := fun z32 => [some (.ref 62), some (.retAddr k0), some (.int z32), some (.int y6), some (.int y7), some (.int y8), some (.int z18)]) rfl rfl (fun _ => rfl) (nm_addc nk_i1 (by omega) (by omega)) (fun z32 ez32 => ?_)
              refine xq_p rfl rfl (xq_ge (n := 0) nk_i0 (fun z33 ez33 => ?_))
              refine xq_p (ls' := [some (.ref 62), some (.retAddr k0), some (.int z32), some (.int z33), some (.int y7), some (.int y8), some (.int z18)]) rfl rfl ?_
              refine xq_p rfl rfl (xq_ge (n := 1) nk_i1 (fun z34 ez34 => ?_))
              refine xq_p (ls' := [some (.ref 62), some (.retAddr k0), some (.int z32), some (.int z33), some (.int z34), some (.int y8), some (.int z18)]) rfl rfl ?_
              refine xq_inc (ls' := fun z35 => [some (.ref 62), some (.retAddr k0), some (.int z32), some (.int z33), some (.int z34), some (.int z35), some (.int z18)]) rfl rfl (fun _ => rfl) (nm_addc nk_i1 (by omega) (by omega)) (fun z35 ez35 => ?_)
              refine xq_p rfl rfl ?_
              exact ihn10 (by omega) z32 z33 z34 z35 (some (.int z18)) (by omega) (by omega) (by omega) (by omega) (by omega) (by omega) (by omega) (by omega) rfl (by rw [q31]; exact xc_eq (by omega) (by omega) (by omega) (decide_eq_true (by omega)).symm) (by omega)
            · refine xq_p rfl rfl ?_
              refine xq_r rfl ⟨rfl, ?_⟩
              exact ⟨_, rfl, by rw [← xc_w_l hsT hk, x0n10]; exact (xc_b1 (by omega) (decide_eq_true (by omega)) (by omega)).symm⟩
        · refine xq_p rfl rfl ?_
          refine xq_zeq rfl (fun c36 => ?_) (fun c36 => ?_)
          · have q37 : xc_w F s (xt_E F T s) (xs_w k0) 0 0 true = xc_w F s (xt_E F T s) ((xs_w k0).drop (y8.toInt.toNat + 1)) y5.toInt (y6.toInt.toNat + 1) false := by rw [x0n10]; exact xc_n0 (by omega) (fun hb p1 p2 => by have hb := of_decide_eq_true hb; omega)
            refine xq_p rfl rfl (xq_ge (n := 0) nk_i0 (fun z38 ez38 => ?_))
            refine xq_p (ls' := [some (.ref 62), some (.retAddr k0), some (.int y5), some (.int y6), some (.int z38), some (.int y8), some (.int z18)]) rfl rfl ?_
            refine xq_inc (ls' := fun z39 => [some (.ref 62), some (.retAddr k0), some (.int y5), some (.int z39), some (.int z38), some (.int y8), some (.int z18)]) rfl rfl (fun _ => rfl) (nm_addc nk_i1 (by omega) (by omega)) (fun z39 ez39 => ?_)
            refine xq_p rfl rfl ?_
            refine xq_inc (ls' := fun z40 => [some (.ref 62), some (.retAddr k0), some (.int y5), some (.int z39), some (.int z38), some (.int z40), some (.int z18)]) rfl rfl (fun _ => rfl) (nm_addc nk_i1 (by omega) (by omega)) (fun z40 ez40 => ?_)
            refine xq_p rfl rfl ?_
            exact ihn10 (by omega) y5 z39 z38 z40 (some (.int z18)) (by omega) (by omega) (by omega) (by omega) (by omega) (by omega) (by omega) (by omega) rfl (by rw [q37]; exact xc_eq (by omega) (by omega) (by omega) (decide_eq_false (by omega)).symm) (by omega)
          · refine xq_p rfl rfl ?_
            refine xq_gI S rfl rfl (by decide) rfl (fun z41 ez41 => ?_)
            have tz41 : z41.toInt = (hs_fI h 62 3).toInt := congrArg Int32.toInt ez41
            have rz41 : 0 ≤ z41.toInt ∧ z41.toInt ≤ 400 := by omega
            refine xq_p rfl rfl ?_
            refine xq_p rfl rfl (xq_ge (n := z41.toInt + y6.toInt) (nm_add (by omega) (by omega)) (fun z42 ez42 => ?_))
            refine xq_p rfl rfl ?_
            refine xq_gI S rfl rfl (by decide) rfl (fun z43 ez43 => ?_)
            have tz43 : z43.toInt = (hs_fI h 62 4).toInt := congrArg Int32.toInt ez43
            have rz43 : 0 ≤ z43.toInt ∧ z43.toInt ≤ 400 := by omega
            refine xq_ige rfl (fun c44 => ?_) (fun c44 => ?_)
            · have q45 : xc_w F s (xt_E F T s) (xs_w k0) 0 0 true = xc_w F s (xt_E F T s) ((xs_w k0).drop (y8.toInt.toNat + 1)) y5.toInt (y6.toInt.toNat + 1) false := by rw [x0n10]; exact xc_n0 (by omega) (fun hb p1 p2 => by have hb := of_decide_eq_true hb; omega)
              refine xq_p rfl rfl (xq_ge (n := 0) nk_i0 (fun z46 ez46 => ?_))
              refine xq_p (ls' := [some (.ref 62), some (.retAddr k0), some (.int y5), some (.int y6), some (.int z46), some (.int y8), some (.int z18)]) rfl rfl ?_
              refine xq_inc (ls' := fun z47 => [some (.ref 62), some (.retAddr k0), some (.int y5), some (.int z47), some (.int z46), some (.int y8), some (.int z18)]) rfl rfl (fun _ => rfl) (nm_addc nk_i1 (by omega) (by omega)) (fun z47 ez47 => ?_)
              refine xq_p rfl rfl ?_
              refine xq_inc (ls' := fun z48 => [some (.ref 62), some (.retAddr k0), some (.int y5), some (.int z47), some (.int z46), some (.int z48), some (.int z18)]) rfl rfl (fun _ => rfl) (nm_addc nk_i1 (by omega) (by omega)) (fun z48 ez48 => ?_)
              refine xq_p rfl rfl ?_
              exact ihn10 (by omega) y5 z47 z46 z48 (some (.int z18)) (by omega) (by omega) (by omega) (by omega) (by omega) (by omega) (by omega) (by omega) rfl (by rw [q45]; exact xc_eq (by omega) (by omega) (by omega) (decide_eq_false (by omega)).symm) (by omega)
            · refine xq_p rfl rfl ?_
              refine xq_gR S rfl rfl (by decide) rfl ?_
              refine xq_p rfl rfl ?_
              refine xq_gI S rfl rfl (by decide) rfl (fun z49 ez49 => ?_)
              have tz49 : z49.toInt = (hs_fI h 62 3).toInt := congrArg Int32.toInt ez49
              refine xq_p rfl rfl ?_
              refine xq_p rfl rfl (xq_ge (n := z49.toInt + y6.toInt) (nm_add (by omega) (by omega)) (fun z50 ez50 => ?_))
              refine xq_aL S rfl rfl (by decide) (fun z51 ez51 az51 bz51 => ?_)
              have tz51 : z51.toInt = (F (s + y6.toInt.toNat)).toInt := by rw [ez51, hF, show z50.toInt.toNat = (s + y6.toInt.toNat) by omega]
              refine xq_p rfl rfl ?_
              refine xq_ine rfl (fun c52 => ?_) (fun c52 => ?_)
              · have q53 : xc_w F s (xt_E F T s) (xs_w k0) 0 0 true = xc_w F s (xt_E F T s) ((xs_w k0).drop (y8.toInt.toNat + 1)) y5.toInt (y6.toInt.toNat + 1) false := by rw [x0n10]; exact xc_n0 (by omega) (fun hb p1 p2 => by have hb := of_decide_eq_true hb; omega)
                refine xq_p rfl rfl (xq_ge (n := 0) nk_i0 (fun z54 ez54 => ?_))
                refine xq_p (ls' := [some (.ref 62), some (.retAddr k0), some (.int y5), some (.int y6), some (.int z54), some (.int y8), some (.int z18)]) rfl rfl ?_
                refine xq_inc (ls' := fun z55 => [some (.ref 62), some (.retAddr k0), some (.int y5), some (.int z55), some (.int z54), some (.int y8), some (.int z18)]) rfl rfl (fun _ => rfl) (nm_addc nk_i1 (by omega) (by omega)) (fun z55 ez55 => ?_)
                refine xq_p rfl rfl ?_
                refine xq_inc (ls' := fun z56 => [some (.ref 62), some (.retAddr k0), some (.int y5), some (.int z55), some (.int z54), some (.int z56), some (.int z18)]) rfl rfl (fun _ => rfl) (nm_addc nk_i1 (by omega) (by omega)) (fun z56 ez56 => ?_)
                refine xq_p rfl rfl ?_
                exact ihn10 (by omega) y5 z55 z54 z56 (some (.int z18)) (by omega) (by omega) (by omega) (by omega) (by omega) (by omega) (by omega) (by omega) rfl (by rw [q53]; exact xc_eq (by omega) (by omega) (by omega) (decide_eq_false (by omega)).symm) (by omega)
              · have q57 : xc_w F s (xt_E F T s) (xs_w k0) 0 0 true = xc_w F s (xt_E F T s) ((xs_w k0).drop (y8.toInt.toNat + 1)) y5.toInt (y6.toInt.toNat + 1) true := by rw [x0n10]; exact xc_n1 (by omega) (decide_eq_true (by omega)) (by omega) (by omega)
                refine xq_p rfl rfl (xq_ge (n := 1) nk_i1 (fun z58 ez58 => ?_))
                refine xq_p rfl rfl ?_
                refine xq_p (ls' := [some (.ref 62), some (.retAddr k0), some (.int y5), some (.int y6), some (.int z58), some (.int y8), some (.int z18)]) rfl rfl ?_
                refine xq_inc (ls' := fun z59 => [some (.ref 62), some (.retAddr k0), some (.int y5), some (.int z59), some (.int z58), some (.int y8), some (.int z18)]) rfl rfl (fun _ => rfl) (nm_addc nk_i1 (by omega) (by omega)) (fun z59 ez59 => ?_)
                refine xq_p rfl rfl ?_
                refine xq_inc (ls' := fun z60 => [some (.ref 62), some (.retAddr k0), some (.int y5), some (.int z59), some (.int z58), some (.int z60), some (.int z18)]) rfl rfl (fun _ => rfl) (nm_addc nk_i1 (by omega) (by omega)) (fun z60 ez60 => ?_)
                refine xq_p rfl rfl ?_
                exact ihn10 (by omega) y5 z59 z58 z60 (some (.int z18)) (by omega) (by omega) (by omega) (by omega) (by omega) (by omega) (by omega) (by omega) rfl (by rw [q57]; exact xc_eq (by omega) (by omega) (by omega) (decide_eq_true (by omega)).symm) (by omega)
  exact L10_n10 N (Nat.le_refl _) z1 z2 z3 z4 (none) (by omega) (by omega) (by omega) (by omega) (by omega) (by omega) (by omega) (by omega) rfl (by rw [show z4.toInt.toNat = 0 by omega, show z2.toInt.toNat = 0 by omega, decide_eq_true (show z3.toInt = 1 by omega), show z1.toInt = 0 by omega]; rfl) (by omega)
end XFC
