/-! CONTRACTS (printed by wip/pm/cts.py) -/
section CT11
theorem ct_20 {X : pm_X} {d : Nat} {h : pm_H} {t1 : Nat} {x2 : Int32} (hd : 1 ≤ d) (ht1 : ty_tr t1) (ax2 : 0 ≤ x2.toInt) (bx2 : x2.toInt ≤ 7) : ty_M X ty_W0 d 20 [.ref 92, .ref t1, .int x2] h (ty_pi 0 1) := by
  intro J H hJ
  obtain ⟨d, rfl⟩ : ∃ e, d = e + 1 := ⟨d - 1, by omega⟩
  have I := H.1 h hJ
  have lt1 := ty_trl ht1
  refine hq_M.enter (q := (⟨"TrainBearers$Guess", "isAsSeen", "(LTrainBearers$Train;I)Z"⟩, _, 4, some .boolean, 2, 3, pm_c20)) rfl rfl ?_
  show hq_W X d 2 false (some .boolean) pm_c20 (0, [some (.ref 92), some (.ref t1), some (.int x2), none], [], h) (fun h' v => J h' ∧ (ty_pi 0 1) h' v)
  refine hq_p rfl rfl (ty_ge (n := 0) nk_i0 (fun z1 ez1 => ?_))
  refine hq_p (ls' := [some (.ref 92), some (.ref t1), some (.int x2), some (.int z1)]) rfl rfl ?_
  have L2_n11 : ∀ n11 : Nat, ∀ (y9 : Int32), (6 - y9.toInt).toNat = n11 → 0 ≤ y9.toInt → y9.toInt ≤ 6 → hq_W X d 2 false (some .boolean) pm_c20 (2, [some (.ref 92), some (.ref t1), some (.int x2), some (.int y9)], [], h) (fun h' v => J h' ∧ (ty_pi 0 1) h' v) := by
    intro n11
    induction n11 using Nat.strongRecOn with
    | ind n11 ihn11 =>
      intro y9 mn11 ay9 by9
      refine hq_p rfl rfl ?_
      refine hq_p rfl rfl ?_
      refine ty_gI I rfl (ty_trs ht1) (by omega) (by decide) rfl (ty_trf ht1 10) (fun z12 ez12 az12 bz12 => ?_)
      refine ty_ige rfl (fun c13 => ?_) (fun c13 => ?_)
      · refine hq_p rfl rfl (ty_ge (n := 1) nk_i1 (fun z14 ez14 => ?_))
        exact ty_rB rfl rfl (by omega) (by omega) ⟨hJ, _, rfl, by omega, by omega⟩
      · refine hq_p rfl rfl ?_
        refine hq_gR I.1 rfl rfl (by decide) (by decide) rfl ?_
        refine hq_p rfl rfl ?_
        refine hq_p rfl rfl (ty_ge (n := 8) nk_b8 (fun z15 ez15 => ?_))
        refine hq_p rfl rfl (ty_ge (n := 8 * x2.toInt) (nm_mulc ez15 (by omega) (by omega)) (fun z16 ez16 => ?_))
        refine hq_p rfl rfl ?_
        refine hq_gR I.1 rfl (ty_trs ht1) (by omega) (by decide) rfl ?_
        refine hq_p rfl rfl ?_
        refine ty_aL I rfl (ty_trs7 ht1) (by omega) (by omega) (by omega) (fun i _ => ty_le (ty_tra7 ht1 i)) (fun z17 ez17 az17 bz17 => ?_)
        refine hq_p rfl rfl (ty_ge (n := z16.toInt + z17.toInt) (nm_add (by omega) (by omega)) (fun z18 ez18 => ?_))
        refine ty_aL I rfl rfl (by decide) (by omega) (by omega) (fun _ _ => ty_le rfl) (fun z19 ez19 az19 bz19 => ?_)
        refine hq_p rfl rfl ?_
        refine hq_gR I.1 rfl (ty_trs ht1) (by omega) (by decide) rfl ?_
        refine hq_p rfl rfl ?_
        refine ty_aL I rfl (ty_trs8 ht1) (by omega) (by omega) (by omega) (fun i _ => ty_le (ty_tra8 ht1 i)) (fun z20 ez20 az20 bz20 => ?_)
        refine ty_ieq rfl (fun c21 => ?_) (fun c21 => ?_)
        · refine ty_inc (ls' := fun z22 => [some (.ref 92), some (.ref t1), some (.int x2), some (.int z22)]) rfl rfl (fun _ => rfl) (nm_addc nk_i1 (by omega) (by omega)) (fun z22 ez22 => ?_)
          refine hq_p rfl rfl ?_
          exact ihn11 ((6 - z22.toInt).toNat) (by omega) z22 rfl (by omega) (by omega)
        · clear c21
          refine hq_p rfl rfl (ty_ge (n := 0) nk_i0 (fun z23 ez23 => ?_))
          exact ty_rB rfl rfl (by omega) (by omega) ⟨hJ, _, rfl, by omega, by omega⟩
  exact L2_n11 _ z1 rfl (by omega) (by omega)
theorem ct_19 {X : pm_X} {d : Nat} {h : pm_H} {t1 : Nat} {t2 : Nat} (hd : 6 ≤ d) (ht1 : ty_tr t1) (ht2 : ty_ru t2) : ty_M X ty_Wc d 19 [.ref 92, .ref t1, .ref t2] h (ty_pi (-2147483648) 2147483647) := by
  intro J H hJ
  obtain ⟨d, rfl⟩ : ∃ e, d = e + 1 := ⟨d - 1, by omega⟩
  have I := H.1 h hJ
  have lt1 := ty_trl ht1
  have lt2 := ty_rul ht2
  refine hq_M.enter (q := (⟨"TrainBearers$Guess", "suspects", "(LTrainBearers$Train;LTrainBearers$Rules;)I"⟩, _, 7, some .int, 2, 3, pm_c19)) rfl rfl ?_
  show hq_W X d 2 false (some .int) pm_c19 (0, [some (.ref 92), some (.ref t1), some (.ref t2), none, none, none, none], [], h) (fun h' v => J h' ∧ (ty_pi (-2147483648) 2147483647) h' v)
  refine hq_p rfl rfl (ty_ge (n := 0) nk_i0 (fun z1 ez1 => ?_))
  refine hq_p (ls' := [some (.ref 92), some (.ref t1), some (.ref t2), some (.int z1), none, none, none]) rfl rfl ?_
  refine hq_p rfl rfl (ty_ge (n := 0) nk_i0 (fun z2 ez2 => ?_))
  refine hq_p (ls' := [some (.ref 92), some (.ref t1), some (.ref t2), some (.int z1), some (.int z2), none, none]) rfl rfl ?_
  have L5_n58 : ∀ n58 : Nat, ∀ (y48 : Int32) (y49 : Int32) (w50 : Option Value) (w51 : Option Value) (h52 : pm_H), (8 - y49.toInt).toNat = n58 → -2147483648 ≤ y48.toInt → y48.toInt ≤ 2147483647 → 0 ≤ y49.toInt → y49.toInt ≤ 8 → pm_two w50 = false → pm_two w51 = false → J h52 → hq_W X d 2 false (some .int) pm_c19 (5, [some (.ref 92), some (.ref t1), some (.ref t2), some (.int y48), some (.int y49), w50, w51], [], h52) (fun h' v => J h' ∧ (ty_pi (-2147483648) 2147483647) h' v) := by
    intro n58
    induction n58 using Nat.strongRecOn with
    | ind n58 ihn58 =>
      intro y48 y49 w50 w51 h52 mn58 ay48 by48 ay49 by49 kw50 kw51 Jh52
      have Ih52 := H.1 h52 Jh52
      refine hq_p rfl rfl ?_
      refine hq_p rfl rfl ?_
      refine ty_gI Ih52 rfl (ty_trs ht1) (by omega) (by decide) rfl (ty_trf ht1 3) (fun z59 ez59 az59 bz59 => ?_)
      refine ty_ige rfl (fun c60 => ?_) (fun c60 => ?_)
      · refine hq_p rfl rfl ?_
        exact hq_W.ret rfl rfl rfl ⟨Jh52, _, rfl, by omega, by omega⟩
      · refine hq_p rfl rfl ?_
        refine hq_gR Ih52.1 rfl (ty_trs ht1) (by omega) (by decide) rfl ?_
        refine hq_p rfl rfl ?_
        refine ty_aL Ih52 rfl (ty_trs5 ht1) (by omega) (by omega) (by omega) (fun i _ => ty_le (ty_tra5 ht1 i)) (fun z61 ez61 az61 bz61 => ?_)
        refine hq_p (ls' := [some (.ref 92), some (.ref t1), some (.ref t2), some (.int y48), some (.int y49), some (.int z61), w51]) rfl rfl ?_
        refine hq_p rfl rfl ?_
        refine hq_p rfl rfl (ty_ge (n := -1) nk_im1 (fun z62 ez62 => ?_))
        refine ty_ieq rfl (fun c63 => ?_) (fun c63 => ?_)
        · refine ty_inc (ls' := fun z64 => [some (.ref 92), some (.ref t1), some (.ref t2), some (.int y48), some (.int z64), some (.int z61), w51]) rfl rfl (fun _ => rfl) (nm_addc nk_i1 (by omega) (by omega)) (fun z64 ez64 => ?_)
          refine hq_p rfl rfl ?_
          exact ihn58 ((8 - z64.toInt).toNat) (by omega) y48 z64 (some (.int z61)) (w51) h52 rfl (by omega) (by omega) (by omega) (by omega) rfl kw51 Jh52
        · clear c63
          refine hq_p rfl rfl ?_
          refine hq_gR Ih52.1 rfl (ty_trs ht1) (by omega) (by decide) rfl ?_
          refine hq_p rfl rfl ?_
          refine hq_p rfl rfl (ty_ge (n := -1) nk_im1 (fun z65 ez65 => ?_))
          refine ty_aS (W := ty_Wc) H Jh52 rfl (ty_trs5 ht1) (by omega) (by omega) (by omega) (fun i e => by unfold ty_Wc; omega) (fun i _ => ty_eg (ty_tra5 ht1 i)) (by omega) (by omega) (fun e1 e2 w => by omega) (fun h66 eh66 Jh66 => ?_)
          have Ih66 := H.1 h66 Jh66
          refine hq_p rfl rfl (ty_ge (n := 0) nk_i0 (fun z67 ez67 => ?_))
          refine hq_p (ls' := [some (.ref 92), some (.ref t1), some (.ref t2), some (.int y48), some (.int y49), some (.int z61), some (.int z67)]) rfl rfl ?_
          have L40_n90 : ∀ n90 : Nat, ∀ (y86 : Int32) (h87 : pm_H), (8 - y86.toInt).toNat = n90 → 0 ≤ y86.toInt → y86.toInt ≤ 8 → J h87 → hq_W X d 2 false (some .int) pm_c19 (40, [some (.ref 92), some (.ref t1), some (.ref t2), some (.int y48), some (.int y49), some (.int z61), some (.int y86)], [], h87) (fun h' v => J h' ∧ (ty_pi (-2147483648) 2147483647) h' v) := by
            intro n90
            induction n90 using Nat.strongRecOn with
            | ind n90 ihn90 =>
              intro y86 h87 mn90 ay86 by86 Jh87
              have Ih87 := H.1 h87 Jh87
              refine hq_p rfl rfl ?_
              refine hq_p rfl rfl ?_
              refine ty_gI Ih87 rfl (ty_trs ht1) (by omega) (by decide) rfl (ty_trf ht1 0) (fun z91 ez91 az91 bz91 => ?_)
              refine ty_ige rfl (fun c92 => ?_) (fun c92 => ?_)
              · refine hq_p rfl rfl ?_
                refine hq_gR Ih87.1 rfl (ty_trs ht1) (by omega) (by decide) rfl ?_
                refine hq_p rfl rfl ?_
                refine hq_p rfl rfl ?_
                refine ty_aS (W := ty_Wc) H Jh87 rfl (ty_trs5 ht1) (by omega) (by omega) (by omega) (fun i e => by unfold ty_Wc; omega) (fun i _ => ty_eg (ty_tra5 ht1 i)) (by omega) (by omega) (fun e1 e2 w => by omega) (fun h93 eh93 Jh93 => ?_)
                have Ih93 := H.1 h93 Jh93
                refine hq_p rfl rfl ?_
                refine hq_p rfl rfl ?_
                refine hq_p rfl rfl ?_
                refine hq_p rfl rfl ?_
                refine ty_callp 0 Ih93 rfl (fun _ => rfl) rfl rfl rfl (hq_pre_o Ih93.1 (x := 92) (ci := 2) rfl (by decide) rfl rfl rfl rfl) (ct_20 (t1 := t1) (x2 := y49) (by omega) ht1 (by omega) (by omega)) (fun _ P94 => ?_)
                obtain ⟨z95, rfl, az95, bz95⟩ := P94
                refine ty_zeq rfl (fun c96 => ?_) (fun c96 => ?_)
                · refine hq_p rfl rfl (ty_ge (n := 0) nk_i0 (fun z97 ez97 => ?_))
                  refine hq_p rfl rfl (ty_ga (fun z98 az98 bz98 => ?_))
                  refine hq_p (ls' := [some (.ref 92), some (.ref t1), some (.ref t2), some (.int z98), some (.int y49), some (.int z61), some (.int y86)]) rfl rfl ?_
                  refine ty_inc (ls' := fun z99 => [some (.ref 92), some (.ref t1), some (.ref t2), some (.int z98), some (.int z99), some (.int z61), some (.int y86)]) rfl rfl (fun _ => rfl) (nm_addc nk_i1 (by omega) (by omega)) (fun z99 ez99 => ?_)
                  refine hq_p rfl rfl ?_
                  exact ihn58 ((8 - z99.toInt).toNat) (by omega) z98 z99 (some (.int z61)) (some (.int y86)) h93 rfl (by omega) (by omega) (by omega) (by omega) rfl rfl Jh93
                · replace c96 : 1 ≤ z95.toInt ∧ z95.toInt ≤ 1 := by omega
                  refine hq_p rfl rfl (ty_ge (n := 1) nk_i1 (fun z100 ez100 => ?_))
                  refine hq_p rfl rfl ?_
                  refine hq_p rfl rfl (ty_gb (c := z100 <<< (y49 &&& 31)) (lo := 1) (hi := 256) (by have q := nm_shl1 (x := z100) (y := y49) (by omega) (by omega) (by omega); omega) (fun z101 az101 bz101 => ?_))
                  refine hq_p rfl rfl ?_
                  refine hq_p rfl rfl (ty_ga (fun z102 az102 bz102 => ?_))
                  refine hq_p (ls' := [some (.ref 92), some (.ref t1), some (.ref t2), some (.int z102), some (.int y49), some (.int z61), some (.int y86)]) rfl rfl ?_
                  refine ty_inc (ls' := fun z103 => [some (.ref 92), some (.ref t1), some (.ref t2), some (.int z102), some (.int z103), some (.int z61), some (.int y86)]) rfl rfl (fun _ => rfl) (nm_addc nk_i1 (by omega) (by omega)) (fun z103 ez103 => ?_)
                  refine hq_p rfl rfl ?_
                  exact ihn58 ((8 - z103.toInt).toNat) (by omega) z102 z103 (some (.int z61)) (some (.int y86)) h93 rfl (by omega) (by omega) (by omega) (by omega) rfl rfl Jh93
              · refine hq_p rfl rfl ?_
                refine hq_gR Ih87.1 rfl rfl (by decide) (by decide) rfl ?_
                refine hq_p rfl rfl ?_
                refine hq_p rfl rfl (ty_ge (n := 8) nk_b8 (fun z104 ez104 => ?_))
                refine hq_p rfl rfl (ty_ge (n := 8 * y49.toInt) (nm_mulc ez104 (by omega) (by omega)) (fun z105 ez105 => ?_))
                refine hq_p rfl rfl ?_
                refine hq_p rfl rfl (ty_ge (n := z105.toInt + y86.toInt) (nm_add (by omega) (by omega)) (fun z106 ez106 => ?_))
                refine hq_p rfl rfl ?_
                refine hq_p rfl rfl ?_
                refine hq_p rfl rfl ?_
                refine ty_callj 0 (W := ty_Wc) H Jh87 rfl (fun _ => rfl) rfl rfl rfl (hq_pre_o Ih87.1 (x := t2) (ci := 4) (ty_rus ht2) (by omega) rfl rfl rfl rfl) (fun a k w => by unfold ty_Wu at w; unfold ty_Wc; omega) (by unfold ty_Wu ty_Wc; omega) (ct_48 (t0 := t2) (t1 := t1) (x2 := y86) (by omega) ht2 ht1) (fun h108 _ Jh108 P107 => ?_)
                have Ih108 := H.1 h108 Jh108
                obtain ⟨z109, rfl, az109, bz109⟩ := P107
                refine ty_aS (W := ty_Wc) H Jh108 rfl rfl (by decide) (by omega) (by omega) (fun i e => by unfold ty_Wc; omega) (fun _ _ => ty_eg rfl) (by omega) (by omega) (fun e1 e2 w => by omega) (fun h110 eh110 Jh110 => ?_)
                have Ih110 := H.1 h110 Jh110
                refine ty_inc (ls' := fun z111 => [some (.ref 92), some (.ref t1), some (.ref t2), some (.int y48), some (.int y49), some (.int z61), some (.int z111)]) rfl rfl (fun _ => rfl) (nm_addc nk_i1 (by omega) (by omega)) (fun z111 ez111 => ?_)
                refine hq_p rfl rfl ?_
                exact ihn90 ((8 - z111.toInt).toNat) (by omega) z111 h110 rfl (by omega) (by omega) Jh110
          exact L40_n90 _ z67 h66 rfl (by omega) (by omega) Jh66
  exact L5_n58 _ z1 z2 none none h rfl (by omega) (by omega) (by omega) (by omega) rfl rfl hJ
theorem ct_22 {X : pm_X} {d : Nat} {h : pm_H} {x1 : Int32} {x2 : Int32} (hd : 2 ≤ d) (ax2 : 0 ≤ x2.toInt) (bx2 : x2.toInt ≤ 7) : ty_M X ty_W0 d 22 [.ref 92, .int x1, .int x2] h (ty_pi 0 2147483647) := by
  intro J H hJ
  obtain ⟨d, rfl⟩ : ∃ e, d = e + 1 := ⟨d - 1, by omega⟩
  have I := H.1 h hJ
  have ax1 := nm_lo x1
  have bx1 := nm_hi x1
  refine hq_M.enter (q := (⟨"TrainBearers$Guess", "mostAlike", "(II)I"⟩, _, 8, some .int, 2, 3, pm_c22)) rfl rfl ?_
  show hq_W X d 2 false (some .int) pm_c22 (0, [some (.ref 92), some (.int x1), some (.int x2), none, none, none, none, none], [], h) (fun h' v => J h' ∧ (ty_pi 0 2147483647) h' v)
  refine hq_p rfl rfl (ty_ge (n := 0) nk_i0 (fun z1 ez1 => ?_))
  refine hq_p (ls' := [some (.ref 92), some (.int x1), some (.int x2), some (.int z1), none, none, none, none]) rfl rfl ?_
  refine hq_p rfl rfl (ty_ge (n := 0) nk_i0 (fun z2 ez2 => ?_))
  refine hq_p (ls' := [some (.ref 92), some (.int x1), some (.int x2), some (.int z1), some (.int z2), none, none, none]) rfl rfl ?_
  have L5_n58 : ∀ n58 : Nat, ∀ (y48 : Int32) (y49 : Int32) (w50 : Option Value) (w51 : Option Value) (w52 : Option Value), (8 - y49.toInt).toNat = n58 → 0 ≤ y48.toInt → y48.toInt ≤ 2147483647 → 0 ≤ y49.toInt → y49.toInt ≤ 8 → pm_two w50 = false → pm_two w51 = false → pm_two w52 = false → hq_W X d 2 false (some .int) pm_c22 (5, [some (.ref 92), some (.int x1), some (.int x2), some (.int y48), some (.int y49), w50, w51, w52], [], h) (fun h' v => J h' ∧ (ty_pi 0 2147483647) h' v) := by
    intro n58
    induction n58 using Nat.strongRecOn with
    | ind n58 ihn58 =>
      intro y48 y49 w50 w51 w52 mn58 ay48 by48 ay49 by49 kw50 kw51 kw52
      refine hq_p rfl rfl ?_
      refine hq_p rfl rfl (ty_ge (n := 8) nk_b8 (fun z59 ez59 => ?_))
      refine ty_ige rfl (fun c60 => ?_) (fun c60 => ?_)
      · refine hq_p rfl rfl ?_
        exact hq_W.ret rfl rfl rfl ⟨hJ, _, rfl, by omega, by omega⟩
      · refine hq_p rfl rfl (ty_ge (n := 0) nk_i0 (fun z61 ez61 => ?_))
        refine hq_p (ls' := [some (.ref 92), some (.int x1), some (.int x2), some (.int y48), some (.int y49), some (.int z61), w51, w52]) rfl rfl ?_
        refine hq_p rfl rfl (ty_ge (n := 0) nk_i0 (fun z62 ez62 => ?_))
        refine hq_p (ls' := [some (.ref 92), some (.int x1), some (.int x2), some (.int y48), some (.int y49), some (.int z61), some (.int z62), w52]) rfl rfl ?_
        have L18_n219 : ∀ n219 : Nat, ∀ (y213 : Int32) (y214 : Int32) (w215 : Option Value), (8 - y214.toInt).toNat = n219 → -2147483648 ≤ y213.toInt → y213.toInt ≤ 2147483647 → 0 ≤ y214.toInt → y214.toInt ≤ 8 → pm_two w215 = false → hq_W X d 2 false (some .int) pm_c22 (18, [some (.ref 92), some (.int x1), some (.int x2), some (.int y48), some (.int y49), some (.int y213), some (.int y214), w215], [], h) (fun h' v => J h' ∧ (ty_pi 0 2147483647) h' v) := by
          intro n219
          induction n219 using Nat.strongRecOn with
          | ind n219 ihn219 =>
            intro y213 y214 w215 mn219 ay213 by213 ay214 by214 kw215
            refine hq_p rfl rfl ?_
            refine hq_p rfl rfl (ty_ge (n := 8) nk_b8 (fun z220 ez220 => ?_))
            refine ty_ige rfl (fun c221 => ?_) (fun c221 => ?_)
            · refine hq_p rfl rfl ?_
              refine hq_p rfl rfl ?_
              refine ty_callp 1 I rfl (fun _ => rfl) rfl rfl rfl rfl (ct_258 (x0 := y48) (x1 := y213) (by omega)) (fun _ P222 => ?_)
              obtain ⟨z223, rfl, fz223, dz223, oz223⟩ := P222
              have iz223 : 0 ≤ z223.toInt ∧ z223.toInt ≤ 2147483647 := by omega
              clear oz223
              refine hq_p (ls' := [some (.ref 92), some (.int x1), some (.int x2), some (.int z223), some (.int y49), some (.int y213), some (.int y214), w215]) rfl rfl ?_
              refine ty_inc (ls' := fun z224 => [some (.ref 92), some (.int x1), some (.int x2), some (.int z223), some (.int z224), some (.int y213), some (.int y214), w215]) rfl rfl (fun _ => rfl) (nm_addc nk_i1 (by omega) (by omega)) (fun z224 ez224 => ?_)
              refine hq_p rfl rfl ?_
              exact ihn58 ((8 - z224.toInt).toNat) (by omega) z223 z224 (some (.int y213)) (some (.int y214)) (w215) rfl (by omega) (by omega) (by omega) (by omega) rfl rfl kw215
            · refine hq_p rfl rfl ?_
              refine hq_p rfl rfl ?_
              refine hq_p rfl rfl (ty_ga (fun z225 az225 bz225 => ?_))
              refine hq_p rfl rfl (ty_ge (n := 1) nk_i1 (fun z226 ez226 => ?_))
              refine hq_p rfl rfl (ty_gb (c := z225 &&& z226) (lo := 0) (hi := 1) (by have q := nm_and_r (x := z225) (y := z226) (by omega); omega) (fun z227 az227 bz227 => ?_))
              refine ty_zeq rfl (fun c228 => ?_) (fun c228 => ?_)
              · refine hq_p rfl rfl (ty_ge (n := 0) nk_i0 (fun z229 ez229 => ?_))
                refine hq_p (ls' := [some (.ref 92), some (.int x1), some (.int x2), some (.int y48), some (.int y49), some (.int y213), some (.int y214), some (.int z229)]) rfl rfl ?_
                refine hq_p rfl rfl ?_
                refine ty_zeq rfl (fun c230 => ?_) (fun c230 => ?_)
                · refine ty_inc (ls' := fun z231 => [some (.ref 92), some (.int x1), some (.int x2), some (.int y48), some (.int y49), some (.int y213), some (.int z231), some (.int z229)]) rfl rfl (fun _ => rfl) (nm_addc nk_i1 (by omega) (by omega)) (fun z231 ez231 => ?_)
                  refine hq_p rfl rfl ?_
                  exact ihn219 ((8 - z231.toInt).toNat) (by omega) y213 z231 (some (.int z229)) rfl (by omega) (by omega) (by omega) (by omega) rfl
                · exfalso; omega
              · replace c228 : 1 ≤ z227.toInt ∧ z227.toInt ≤ 1 := by omega
                refine hq_p rfl rfl ?_
                refine hq_p rfl rfl ?_
                refine hq_p rfl rfl (ty_ga (fun z232 az232 bz232 => ?_))
                refine hq_p rfl rfl (ty_ge (n := 1) nk_i1 (fun z233 ez233 => ?_))
                refine hq_p rfl rfl (ty_gb (c := z232 &&& z233) (lo := 0) (hi := 1) (by have q := nm_and_r (x := z232) (y := z233) (by omega); omega) (fun z234 az234 bz234 => ?_))
                refine ty_zeq rfl (fun c235 => ?_) (fun c235 => ?_)
                · refine hq_p rfl rfl (ty_ge (n := 0) nk_i0 (fun z236 ez236 => ?_))
                  refine hq_p (ls' := [some (.ref 92), some (.int x1), some (.int x2), some (.int y48), some (.int y49), some (.int y213), some (.int y214), some (.int z236)]) rfl rfl ?_
                  refine hq_p rfl rfl ?_
                  refine ty_zeq rfl (fun c237 => ?_) (fun c237 => ?_)
                  · refine ty_inc (ls' := fun z238 => [some (.ref 92), some (.int x1), some (.int x2), some (.int y48), some (.int y49), some (.int y213), some (.int z238), some (.int z236)]) rfl rfl (fun _ => rfl) (nm_addc nk_i1 (by omega) (by omega)) (fun z238 ez238 => ?_)
                    refine hq_p rfl rfl ?_
                    exact ihn219 ((8 - z238.toInt).toNat) (by omega) y213 z238 (some (.int z236)) rfl (by omega) (by omega) (by omega) (by omega) rfl
                  · exfalso; omega
                · replace c235 : 1 ≤ z234.toInt ∧ z234.toInt ≤ 1 := by omega
                  refine hq_p rfl rfl (ty_ge (n := 1) nk_i1 (fun z239 ez239 => ?_))
                  refine hq_p rfl rfl ?_
                  refine hq_p (ls' := [some (.ref 92), some (.int x1), some (.int x2), some (.int y48), some (.int y49), some (.int y213), some (.int y214), some (.int z239)]) rfl rfl ?_
                  refine hq_p rfl rfl ?_
                  refine ty_zeq rfl (fun c240 => ?_) (fun c240 => ?_)
                  · exfalso; omega
                  · clear c240
                    refine hq_p rfl rfl ?_
                    refine hq_gR I.1 rfl rfl (by decide) (by decide) rfl ?_
                    refine hq_p rfl rfl ?_
                    refine hq_p rfl rfl (ty_ge (n := 8) nk_b8 (fun z241 ez241 => ?_))
                    refine hq_p rfl rfl (ty_ge (n := 8 * y49.toInt) (nm_mulc ez241 (by omega) (by omega)) (fun z242 ez242 => ?_))
                    refine hq_p rfl rfl ?_
                    refine hq_p rfl rfl (ty_ge (n := z242.toInt + x2.toInt) (nm_add (by omega) (by omega)) (fun z243 ez243 => ?_))
                    refine ty_aL I rfl rfl (by decide) (by omega) (by omega) (fun _ _ => ty_le rfl) (fun z244 ez244 az244 bz244 => ?_)
                    refine hq_p rfl rfl ?_
                    refine hq_gR I.1 rfl rfl (by decide) (by decide) rfl ?_
                    refine hq_p rfl rfl ?_
                    refine hq_p rfl rfl (ty_ge (n := 8) nk_b8 (fun z245 ez245 => ?_))
                    refine hq_p rfl rfl (ty_ge (n := 8 * y214.toInt) (nm_mulc ez245 (by omega) (by omega)) (fun z246 ez246 => ?_))
                    refine hq_p rfl rfl ?_
                    refine hq_p rfl rfl (ty_ge (n := z246.toInt + x2.toInt) (nm_add (by omega) (by omega)) (fun z247 ez247 => ?_))
                    refine ty_aL I rfl rfl (by decide) (by omega) (by omega) (fun _ _ => ty_le rfl) (fun z248 ez248 az248 bz248 => ?_)
                    refine ty_ine rfl (fun c249 => ?_) (fun c249 => ?_)
                    · clear c249
                      refine ty_inc (ls' := fun z250 => [some (.ref 92), some (.int x1), some (.int x2), some (.int y48), some (.int y49), some (.int y213), some (.int z250), some (.int z239)]) rfl rfl (fun _ => rfl) (nm_addc nk_i1 (by omega) (by omega)) (fun z250 ez250 => ?_)
                      refine hq_p rfl rfl ?_
                      exact ihn219 ((8 - z250.toInt).toNat) (by omega) y213 z250 (some (.int z239)) rfl (by omega) (by omega) (by omega) (by omega) rfl
                    · refine ty_inca (ls' := fun z251 => [some (.ref 92), some (.int x1), some (.int x2), some (.int y48), some (.int y49), some (.int z251), some (.int y214), some (.int z239)]) rfl rfl (fun _ => rfl) (fun z251 az251 bz251 => ?_)
                      refine ty_inc (ls' := fun z252 => [some (.ref 92), some (.int x1), some (.int x2), some (.int y48), some (.int y49), some (.int z251), some (.int z252), some (.int z239)]) rfl rfl (fun _ => rfl) (nm_addc nk_i1 (by omega) (by omega)) (fun z252 ez252 => ?_)
                      refine hq_p rfl rfl ?_
                      exact ihn219 ((8 - z252.toInt).toNat) (by omega) z251 z252 (some (.int z239)) rfl (by omega) (by omega) (by omega) (by omega) rfl
        exact L18_n219 _ z61 z62 (w52) rfl (by omega) (by omega) (by omega) (by omega) kw52
  exact L5_n58 _ z1 z2 none none none rfl (by omega) (by omega) (by omega) (by omega) rfl rfl rfl
theorem ct_21 {X : pm_X} {d : Nat} {h : pm_H} {x1 : Int32} {x2 : Int32} (hd : 3 ≤ d)  : ty_M X ty_W0 d 21 [.ref 92, .int x1, .int x2] h (ty_pi (-1) 7) := by
  intro J H hJ
  obtain ⟨d, rfl⟩ : ∃ e, d = e + 1 := ⟨d - 1, by omega⟩
  have I := H.1 h hJ
  have ax1 := nm_lo x1
  have bx1 := nm_hi x1
  have ax2 := nm_lo x2
  have bx2 := nm_hi x2
  refine hq_M.enter (q := (⟨"TrainBearers$Guess", "tellingYard", "(II)I"⟩, _, 7, some .int, 2, 3, pm_c21)) rfl rfl ?_
  show hq_W X d 2 false (some .int) pm_c21 (0, [some (.ref 92), some (.int x1), some (.int x2), none, none, none, none], [], h) (fun h' v => J h' ∧ (ty_pi (-1) 7) h' v)
  refine hq_p rfl rfl ?_
  refine ty_zne rfl (fun c1 => ?_) (fun c1 => ?_)
  · clear c1
    refine hq_p rfl rfl (ty_ge (n := -1) nk_im1 (fun z2 ez2 => ?_))
    refine hq_p (ls' := [some (.ref 92), some (.int x1), some (.int x2), some (.int z2), none, none, none]) rfl rfl ?_
    refine hq_p rfl rfl (ty_ge (n := 9) nk_b9 (fun z3 ez3 => ?_))
    refine hq_p (ls' := [some (.ref 92), some (.int x1), some (.int x2), some (.int z2), some (.int z3), none, none]) rfl rfl ?_
    refine hq_p rfl rfl (ty_ge (n := 0) nk_i0 (fun z4 ez4 => ?_))
    refine hq_p (ls' := [some (.ref 92), some (.int x1), some (.int x2), some (.int z2), some (.int z3), some (.int z4), none]) rfl rfl ?_
    have L15_n49 : ∀ n49 : Nat, ∀ (y41 : Int32) (y42 : Int32) (y43 : Int32) (w44 : Option Value), (8 - y43.toInt).toNat = n49 → -1 ≤ y41.toInt → y41.toInt ≤ 7 → 0 ≤ y42.toInt → y42.toInt ≤ 9 → 0 ≤ y43.toInt → y43.toInt ≤ 8 → pm_two w44 = false → hq_W X d 2 false (some .int) pm_c21 (15, [some (.ref 92), some (.int x1), some (.int x2), some (.int y41), some (.int y42), some (.int y43), w44], [], h) (fun h' v => J h' ∧ (ty_pi (-1) 7) h' v) := by
      intro n49
      induction n49 using Nat.strongRecOn with
      | ind n49 ihn49 =>
        intro y41 y42 y43 w44 mn49 ay41 by41 ay42 by42 ay43 by43 kw44
        refine hq_p rfl rfl ?_
        refine hq_p rfl rfl ?_
        refine ty_ige rfl (fun c50 => ?_) (fun c50 => ?_)
        · refine hq_p rfl rfl ?_
          exact hq_W.ret rfl rfl rfl ⟨hJ, _, rfl, by omega, by omega⟩
        · refine hq_p rfl rfl ?_
          refine hq_p rfl rfl (ty_ge (n := 8) nk_b8 (fun z51 ez51 => ?_))
          refine ty_ige rfl (fun c52 => ?_) (fun c52 => ?_)
          · refine hq_p rfl rfl ?_
            exact hq_W.ret rfl rfl rfl ⟨hJ, _, rfl, by omega, by omega⟩
          · refine hq_p rfl rfl ?_
            refine hq_p rfl rfl ?_
            refine hq_p rfl rfl ?_
            refine ty_callp 0 I rfl (fun _ => rfl) rfl rfl rfl (hq_pre_o I.1 (x := 92) (ci := 2) rfl (by decide) rfl rfl rfl rfl) (ct_22 (x1 := x1) (x2 := y43) (by omega) (by omega) (by omega)) (fun _ P53 => ?_)
            obtain ⟨z54, rfl, az54, bz54⟩ := P53
            refine hq_p (ls' := [some (.ref 92), some (.int x1), some (.int x2), some (.int y41), some (.int y42), some (.int y43), some (.int z54)]) rfl rfl ?_
            refine hq_p rfl rfl ?_
            refine hq_p rfl rfl ?_
            refine ty_ige rfl (fun c55 => ?_) (fun c55 => ?_)
            · refine ty_inc (ls' := fun z56 => [some (.ref 92), some (.int x1), some (.int x2), some (.int y41), some (.int y42), some (.int z56), some (.int z54)]) rfl rfl (fun _ => rfl) (nm_addc nk_i1 (by omega) (by omega)) (fun z56 ez56 => ?_)
              refine hq_p rfl rfl ?_
              exact ihn49 ((8 - z56.toInt).toNat) (by omega) y41 y42 z56 (some (.int z54)) rfl (by omega) (by omega) (by omega) (by omega) (by omega) (by omega) rfl
            · refine hq_p rfl rfl ?_
              refine hq_p (ls' := [some (.ref 92), some (.int x1), some (.int x2), some (.int y41), some (.int z54), some (.int y43), some (.int z54)]) rfl rfl ?_
              refine hq_p rfl rfl ?_
              refine hq_p (ls' := [some (.ref 92), some (.int x1), some (.int x2), some (.int y43), some (.int z54), some (.int y43), some (.int z54)]) rfl rfl ?_
              refine ty_inc (ls' := fun z57 => [some (.ref 92), some (.int x1), some (.int x2), some (.int y43), some (.int z54), some (.int z57), some (.int z54)]) rfl rfl (fun _ => rfl) (nm_addc nk_i1 (by omega) (by omega)) (fun z57 ez57 => ?_)
              refine hq_p rfl rfl ?_
              exact ihn49 ((8 - z57.toInt).toNat) (by omega) y43 z54 z57 (some (.int z54)) rfl (by omega) (by omega) (by omega) (by omega) (by omega) (by omega) rfl
    exact L15_n49 _ z2 z3 z4 none rfl (by omega) (by omega) (by omega) (by omega) (by omega) (by omega) rfl
  · refine hq_p rfl rfl (ty_ge (n := -1) nk_im1 (fun z58 ez58 => ?_))
    exact hq_W.ret rfl rfl rfl ⟨hJ, _, rfl, by omega, by omega⟩
theorem ct_266 {X : pm_X} {d : Nat} {h : pm_H} {x1 : Int32} (hd : 1 ≤ d)  : ty_M X ty_Wc d 266 [.ref 95, .int x1] h ty_pv := by
  intro J H hJ
  obtain ⟨d, rfl⟩ : ∃ e, d = e + 1 := ⟨d - 1, by omega⟩
  have I := H.1 h hJ
  have ax1 := nm_lo x1
  have bx1 := nm_hi x1
  refine hq_M.enter (q := (⟨"java/util/Arrays", "fill", "([II)V"⟩, _, 4, none, 17, 2, pm_c266)) rfl rfl ?_
  show hq_W X d 17 false (none) pm_c266 (0, [some (.ref 95), some (.int x1), none, none], [], h) (fun h' v => J h' ∧ ty_pv h' v)
  refine hq_p rfl rfl (ty_ge (n := 0) nk_i0 (fun z1 ez1 => ?_))
  refine hq_p (ls' := [some (.ref 95), some (.int x1), some (.int z1), none]) rfl rfl ?_
  refine hq_p rfl rfl ?_
  refine hq_alen rfl (hs_iarr I.1 rfl (by decide)) rfl (ty_ge (c := Int32.ofNat 6) (n := 6) (by decide) (fun z2 ez2 => ?_))
  refine hq_p (ls' := [some (.ref 95), some (.int x1), some (.int z1), some (.int z2)]) rfl rfl ?_
  have L5_n21 : ∀ n21 : Nat, ∀ (y17 : Int32) (h18 : pm_H), (6 - y17.toInt).toNat = n21 → 0 ≤ y17.toInt → y17.toInt ≤ 6 → J h18 → hq_W X d 17 false (none) pm_c266 (5, [some (.ref 95), some (.int x1), some (.int y17), some (.int z2)], [], h18) (fun h' v => J h' ∧ ty_pv h' v) := by
    intro n21
    induction n21 using Nat.strongRecOn with
    | ind n21 ihn21 =>
      intro y17 h18 mn21 ay17 by17 Jh18
      have Ih18 := H.1 h18 Jh18
      refine hq_p rfl rfl ?_
      refine hq_p rfl rfl ?_
      refine ty_ige rfl (fun c22 => ?_) (fun c22 => ?_)
      · exact hq_W.ret rfl rfl rfl ⟨Jh18, rfl⟩
      · refine hq_p rfl rfl ?_
        refine hq_p rfl rfl ?_
        refine hq_p rfl rfl ?_
        refine ty_aS (W := ty_Wc) H Jh18 rfl rfl (by decide) (by omega) (by omega) (fun i e => by unfold ty_Wc; omega) (fun _ _ => ty_eg rfl) (by omega) (by omega) (fun e1 e2 w => by omega) (fun h23 eh23 Jh23 => ?_)
        have Ih23 := H.1 h23 Jh23
        refine ty_inc (ls' := fun z24 => [some (.ref 95), some (.int x1), some (.int z24), some (.int z2)]) rfl rfl (fun _ => rfl) (nm_addc nk_i1 (by omega) (by omega)) (fun z24 ez24 => ?_)
        refine hq_p rfl rfl ?_
        exact ihn21 ((6 - z24.toInt).toNat) (by omega) z24 h23 rfl (by omega) (by omega) Jh23
  exact L5_n21 _ z1 h rfl (by omega) (by omega) hJ
theorem ct_81 {X : pm_X} {d : Nat} {h : pm_H} {t1 : Nat} {x2 : Int32} {x3 : Int32} (hd : 3 ≤ d) (ht1 : ty_tr t1) (ax2 : 0 ≤ x2.toInt) (bx2 : x2.toInt ≤ 5) (ax3 : 0 ≤ x3.toInt) (bx3 : x3.toInt ≤ 5) : ty_M X ty_W0 d 81 [.ref 94, .ref t1, .int x2, .int x3] h (ty_pi (-2147483648) 1048576) := by
  intro J H hJ
  obtain ⟨d, rfl⟩ : ∃ e, d = e + 1 := ⟨d - 1, by omega⟩
  have I := H.1 h hJ
  have lt1 := ty_trl ht1
  refine hq_M.enter (q := (⟨"TrainBearers$Ways", "costBy", "(LTrainBearers$Train;II)I"⟩, _, 5, some .int, 9, 4, pm_c81)) rfl rfl ?_
  show hq_W X d 9 false (some .int) pm_c81 (0, [some (.ref 94), some (.ref t1), some (.int x2), some (.int x3), none], [], h) (fun h' v => J h' ∧ (ty_pi (-2147483648) 1048576) h' v)
  refine hq_p rfl rfl ?_
  refine hq_p rfl rfl ?_
  refine hq_p rfl rfl ?_
  refine ty_callp 0 I rfl (fun _ => rfl) rfl rfl rfl (hq_pre_o I.1 (x := t1) (ci := 8) (ty_trs ht1) (by omega) rfl rfl rfl rfl) (ct_75 (t0 := t1) (x1 := x2) (x2 := x3) (by omega) ht1) (fun _ P1 => ?_)
  obtain ⟨z2, rfl, az2, bz2⟩ := P1
  refine hq_p (ls' := [some (.ref 94), some (.ref t1), some (.int x2), some (.int x3), some (.int z2)]) rfl rfl ?_
  refine hq_p rfl rfl ?_
  refine hq_p rfl rfl (ty_ge (n := -1) nk_im1 (fun z3 ez3 => ?_))
  refine ty_ine rfl (fun c4 => ?_) (fun c4 => ?_)
  · clear c4
    refine hq_p rfl rfl (ty_ge (n := 1048576) nk_d1048576 (fun z5 ez5 => ?_))
    refine hq_p rfl rfl ?_
    refine hq_gR I.1 rfl rfl (by decide) (by decide) rfl ?_
    refine hq_p rfl rfl ?_
    refine ty_aL I rfl rfl (by decide) (by omega) (by omega) (fun _ _ => ty_le rfl) (fun z6 ez6 az6 bz6 => ?_)
    refine hq_p rfl rfl ?_
    refine hq_p rfl rfl (ty_ge (n := 16) nk_b16 (fun z7 ez7 => ?_))
    refine hq_p rfl rfl (ty_ga (fun z8 az8 bz8 => ?_))
    refine hq_p rfl rfl (ty_ga (fun z9 az9 bz9 => ?_))
    refine hq_p rfl rfl (ty_ge (n := 1) nk_i1 (fun z10 ez10 => ?_))
    refine hq_p rfl rfl (ty_ga (fun z11 az11 bz11 => ?_))
    refine ty_callp 1 I rfl (fun _ => rfl) rfl rfl rfl rfl (ct_259 (x0 := z5) (x1 := z11) (by omega)) (fun _ P12 => ?_)
    obtain ⟨z13, rfl, fz13, dz13, oz13⟩ := P12
    have iz13 : -2147483648 ≤ z13.toInt ∧ z13.toInt ≤ 1048576 := by omega
    clear oz13
    exact hq_W.ret rfl rfl rfl ⟨hJ, _, rfl, by omega, by omega⟩
  · refine hq_p rfl rfl (ty_ge (n := 1048576) nk_d1048576 (fun z14 ez14 => ?_))
    refine hq_p rfl rfl ?_
    exact hq_W.ret rfl rfl rfl ⟨hJ, _, rfl, by omega, by omega⟩
theorem ct_78 {X : pm_X} {d : Nat} {h : pm_H} {t1 : Nat} {x2 : Int32} (hd : 4 ≤ d) (ht1 : ty_tr t1) : ty_M X ty_Wc d 78 [.ref 94, .ref t1, .int x2] h (ty_pb (0 ≤ x2.toInt ∧ x2.toInt ≤ 5)) := by
  intro J H hJ
  obtain ⟨d, rfl⟩ : ∃ e, d = e + 1 := ⟨d - 1, by omega⟩
  have I := H.1 h hJ
  have lt1 := ty_trl ht1
  have ax2 := nm_lo x2
  have bx2 := nm_hi x2
  refine hq_M.enter (q := (⟨"TrainBearers$Ways", "measure", "(LTrainBearers$Train;I)Z"⟩, _, 6, some .boolean, 9, 3, pm_c78)) rfl rfl ?_
  show hq_W X d 9 false (some .boolean) pm_c78 (0, [some (.ref 94), some (.ref t1), some (.int x2), none, none, none], [], h) (fun h' v => J h' ∧ (ty_pb (0 ≤ x2.toInt ∧ x2.toInt ≤ 5)) h' v)
  refine hq_p rfl rfl ?_
  refine ty_callp 1 I rfl (fun _ => rfl) rfl rfl rfl rfl (ct_128 (x0 := x2) (by omega)) (fun _ P1 => ?_)
  obtain ⟨z2, rfl, az2, bz2, iz2⟩ := P1
  refine ty_zne rfl (fun c3 => ?_) (fun c3 => ?_)
  · replace c3 : 1 ≤ z2.toInt ∧ z2.toInt ≤ 1 := by omega
    have f4 := iz2 (by omega)
    clear iz2
    refine hq_p rfl rfl ?_
    refine hq_gR I.1 rfl rfl (by decide) (by decide) rfl ?_
    refine hq_p rfl rfl (ty_ge (n := 1048576) nk_d1048576 (fun z5 ez5 => ?_))
    refine ty_callj 1 (W := ty_Wc) H hJ rfl (fun _ => rfl) rfl rfl rfl rfl (fun _ _ w => w) (fun _ w => w) (ct_266 (x1 := z5) (by omega)) (fun h7 _ Jh7 P6 => ?_)
    have Ih7 := H.1 h7 Jh7
    subst P6
    refine hq_p rfl rfl ?_
    refine hq_gR Ih7.1 rfl rfl (by decide) (by decide) rfl ?_
    refine hq_p rfl rfl ?_
    refine hq_p rfl rfl (ty_ge (n := 0) nk_i0 (fun z8 ez8 => ?_))
    refine ty_aS (W := ty_Wc) H Jh7 rfl rfl (by decide) (by omega) (by omega) (fun i e => by unfold ty_Wc; omega) (fun _ _ => ty_eg rfl) (by omega) (by omega) (fun e1 e2 w => by omega) (fun h9 eh9 Jh9 => ?_)
    have Ih9 := H.1 h9 Jh9
    refine hq_p rfl rfl (ty_ge (n := 1) nk_i1 (fun z10 ez10 => ?_))
    refine hq_p (ls' := [some (.ref 94), some (.ref t1), some (.int x2), some (.int z10), none, none]) rfl rfl ?_
    have L27_n43 : ∀ n43 : Nat, ∀ (y35 : Int32) (w36 : Option Value) (w37 : Option Value) (h38 : pm_H), (6 - y35.toInt).toNat = n43 → 1 ≤ y35.toInt → y35.toInt ≤ 6 → pm_two w36 = false → pm_two w37 = false → J h38 → hq_W X d 9 false (some .boolean) pm_c78 (27, [some (.ref 94), some (.ref t1), some (.int x2), some (.int y35), w36, w37], [], h38) (fun h' v => J h' ∧ (ty_pb (0 ≤ x2.toInt ∧ x2.toInt ≤ 5)) h' v) := by
      intro n43
      induction n43 using Nat.strongRecOn with
      | ind n43 ihn43 =>
        intro y35 w36 w37 h38 mn43 ay35 by35 kw36 kw37 Jh38
        have Ih38 := H.1 h38 Jh38
        refine hq_p rfl rfl ?_
        refine hq_p rfl rfl (ty_ge (n := 6) nk_b6 (fun z44 ez44 => ?_))
        refine ty_ige rfl (fun c45 => ?_) (fun c45 => ?_)
        · refine hq_p rfl rfl ?_
          refine hq_gR Ih38.1 rfl rfl (by decide) (by decide) rfl ?_
          refine hq_p rfl rfl ?_
          refine ty_gI Ih38 rfl (ty_trs ht1) (by omega) (by decide) rfl (ty_trf ht1 8) (fun z46 ez46 az46 bz46 => ?_)
          refine ty_aL Ih38 rfl rfl (by decide) (by omega) (by omega) (fun _ _ => ty_le rfl) (fun z47 ez47 az47 bz47 => ?_)
          refine hq_p rfl rfl (ty_ge (n := 1048576) nk_d1048576 (fun z48 ez48 => ?_))
          refine ty_ige rfl (fun c49 => ?_) (fun c49 => ?_)
          · refine hq_p rfl rfl (ty_ge (n := 0) nk_i0 (fun z50 ez50 => ?_))
            exact ty_rB rfl rfl (by omega) (by omega) ⟨Jh38, _, rfl, by omega, by omega, fun q => by omega⟩
          · refine hq_p rfl rfl (ty_ge (n := 1) nk_i1 (fun z51 ez51 => ?_))
            refine hq_p rfl rfl ?_
            exact ty_rB rfl rfl (by omega) (by omega) ⟨Jh38, _, rfl, by omega, by omega, fun q => by omega⟩
        · refine hq_p rfl rfl (ty_ge (n := 0) nk_i0 (fun z52 ez52 => ?_))
          refine hq_p (ls' := [some (.ref 94), some (.ref t1), some (.int x2), some (.int y35), some (.int z52), w37]) rfl rfl ?_
          have L36_n80 : ∀ n80 : Nat, ∀ (y74 : Int32) (w75 : Option Value) (h76 : pm_H), (6 - y74.toInt).toNat = n80 → 0 ≤ y74.toInt → y74.toInt ≤ 6 → pm_two w75 = false → J h76 → hq_W X d 9 false (some .boolean) pm_c78 (36, [some (.ref 94), some (.ref t1), some (.int x2), some (.int y35), some (.int y74), w75], [], h76) (fun h' v => J h' ∧ (ty_pb (0 ≤ x2.toInt ∧ x2.toInt ≤ 5)) h' v) := by
            intro n80
            induction n80 using Nat.strongRecOn with
            | ind n80 ihn80 =>
              intro y74 w75 h76 mn80 ay74 by74 kw75 Jh76
              have Ih76 := H.1 h76 Jh76
              refine hq_p rfl rfl ?_
              refine hq_p rfl rfl (ty_ge (n := 6) nk_b6 (fun z81 ez81 => ?_))
              refine ty_ige rfl (fun c82 => ?_) (fun c82 => ?_)
              · refine ty_inc (ls' := fun z83 => [some (.ref 94), some (.ref t1), some (.int x2), some (.int z83), some (.int y74), w75]) rfl rfl (fun _ => rfl) (nm_addc nk_i1 (by omega) (by omega)) (fun z83 ez83 => ?_)
                refine hq_p rfl rfl ?_
                exact ihn43 ((6 - z83.toInt).toNat) (by omega) z83 (some (.int y74)) (w75) h76 rfl (by omega) (by omega) rfl kw75 Jh76
              · refine hq_p rfl rfl (ty_ge (n := 0) nk_i0 (fun z84 ez84 => ?_))
                refine hq_p (ls' := [some (.ref 94), some (.ref t1), some (.int x2), some (.int y35), some (.int y74), some (.int z84)]) rfl rfl ?_
                have L46_n103 : ∀ n103 : Nat, ∀ (y99 : Int32) (h100 : pm_H), (6 - y99.toInt).toNat = n103 → 0 ≤ y99.toInt → y99.toInt ≤ 6 → J h100 → hq_W X d 9 false (some .boolean) pm_c78 (46, [some (.ref 94), some (.ref t1), some (.int x2), some (.int y35), some (.int y74), some (.int y99)], [], h100) (fun h' v => J h' ∧ (ty_pb (0 ≤ x2.toInt ∧ x2.toInt ≤ 5)) h' v) := by
                  intro n103
                  induction n103 using Nat.strongRecOn with
                  | ind n103 ihn103 =>
                    intro y99 h100 mn103 ay99 by99 Jh100
                    have Ih100 := H.1 h100 Jh100
                    refine hq_p rfl rfl ?_
                    refine hq_p rfl rfl (ty_ge (n := 6) nk_b6 (fun z104 ez104 => ?_))
                    refine ty_ige rfl (fun c105 => ?_) (fun c105 => ?_)
                    · refine ty_inc (ls' := fun z106 => [some (.ref 94), some (.ref t1), some (.int x2), some (.int y35), some (.int z106), some (.int y99)]) rfl rfl (fun _ => rfl) (nm_addc nk_i1 (by omega) (by omega)) (fun z106 ez106 => ?_)
                      refine hq_p rfl rfl ?_
                      exact ihn80 ((6 - z106.toInt).toNat) (by omega) z106 (some (.int y99)) h100 rfl (by omega) (by omega) rfl Jh100
                    · refine hq_p rfl rfl ?_
                      refine hq_gR Ih100.1 rfl rfl (by decide) (by decide) rfl ?_
                      refine hq_p rfl rfl ?_
                      refine hq_p rfl rfl ?_
                      refine hq_gR Ih100.1 rfl rfl (by decide) (by decide) rfl ?_
                      refine hq_p rfl rfl ?_
                      refine ty_aL Ih100 rfl rfl (by decide) (by omega) (by omega) (fun _ _ => ty_le rfl) (fun z107 ez107 az107 bz107 => ?_)
                      refine hq_p rfl rfl ?_
                      refine hq_p rfl rfl ?_
                      refine hq_p rfl rfl ?_
                      refine hq_p rfl rfl ?_
                      refine ty_callp 0 Ih100 rfl (fun _ => rfl) rfl rfl rfl (hq_pre_o Ih100.1 (x := 94) (ci := 9) rfl (by decide) rfl rfl rfl rfl) (ct_81 (t1 := t1) (x2 := y74) (x3 := y99) (by omega) ht1 (by omega) (by omega) (by omega) (by omega)) (fun _ P108 => ?_)
                      obtain ⟨z109, rfl, az109, bz109⟩ := P108
                      refine ty_callp 1 Ih100 rfl (fun _ => rfl) rfl rfl rfl rfl (ct_259 (x0 := z107) (x1 := z109) (by omega)) (fun _ P110 => ?_)
                      obtain ⟨z111, rfl, fz111, dz111, oz111⟩ := P110
                      have iz111 : -2147483648 ≤ z111.toInt ∧ z111.toInt ≤ 1048576 := by omega
                      clear oz111
                      refine ty_aS (W := ty_Wc) H Jh100 rfl rfl (by decide) (by omega) (by omega) (fun i e => by unfold ty_Wc; omega) (fun _ _ => ty_eg rfl) (by omega) (by omega) (fun e1 e2 w => by omega) (fun h112 eh112 Jh112 => ?_)
                      have Ih112 := H.1 h112 Jh112
                      refine ty_inc (ls' := fun z113 => [some (.ref 94), some (.ref t1), some (.int x2), some (.int y35), some (.int y74), some (.int z113)]) rfl rfl (fun _ => rfl) (nm_addc nk_i1 (by omega) (by omega)) (fun z113 ez113 => ?_)
                      refine hq_p rfl rfl ?_
                      exact ihn103 ((6 - z113.toInt).toNat) (by omega) z113 h112 rfl (by omega) (by omega) Jh112
                exact L46_n103 _ z84 h76 rfl (by omega) (by omega) Jh76
          exact L36_n80 _ z52 (w37) h38 rfl (by omega) (by omega) kw37 Jh38
    exact L27_n43 _ z10 none none h9 rfl (by omega) (by omega) rfl rfl Jh9
  · clear iz2
    refine hq_p rfl rfl (ty_ge (n := 0) nk_i0 (fun z114 ez114 => ?_))
    exact ty_rB rfl rfl (by omega) (by omega) ⟨hJ, _, rfl, by omega, by omega, fun q => by omega⟩
theorem ct_79 {X : pm_X} {d : Nat} {h : pm_H} {x1 : Int32} (hd : 2 ≤ d)  : ty_M X ty_W0 d 79 [.ref 94, .int x1] h (ty_pi (-2147483648) 2147483647) := by
  intro J H hJ
  obtain ⟨d, rfl⟩ : ∃ e, d = e + 1 := ⟨d - 1, by omega⟩
  have I := H.1 h hJ
  have ax1 := nm_lo x1
  have bx1 := nm_hi x1
  refine hq_M.enter (q := (⟨"TrainBearers$Ways", "stilesFrom", "(I)I"⟩, _, 2, some .int, 9, 2, pm_c79)) rfl rfl ?_
  show hq_W X d 9 false (some .int) pm_c79 (0, [some (.ref 94), some (.int x1)], [], h) (fun h' v => J h' ∧ (ty_pi (-2147483648) 2147483647) h' v)
  refine hq_p rfl rfl ?_
  refine ty_callp 1 I rfl (fun _ => rfl) rfl rfl rfl rfl (ct_128 (x0 := x1) (by omega)) (fun _ P1 => ?_)
  obtain ⟨z2, rfl, az2, bz2, iz2⟩ := P1
  refine ty_zeq rfl (fun c3 => ?_) (fun c3 => ?_)
  · clear iz2
    refine hq_p rfl rfl (ty_ge (n := -1) nk_im1 (fun z4 ez4 => ?_))
    exact hq_W.ret rfl rfl rfl ⟨hJ, _, rfl, by omega, by omega⟩
  · replace c3 : 1 ≤ z2.toInt ∧ z2.toInt ≤ 1 := by omega
    have f5 := iz2 (by omega)
    clear iz2
    refine hq_p rfl rfl ?_
    refine hq_gR I.1 rfl rfl (by decide) (by decide) rfl ?_
    refine hq_p rfl rfl ?_
    refine ty_aL I rfl rfl (by decide) (by omega) (by omega) (fun _ _ => ty_le rfl) (fun z6 ez6 az6 bz6 => ?_)
    refine hq_p rfl rfl (ty_ge (n := 16) nk_b16 (fun z7 ez7 => ?_))
    refine hq_idiv rfl (nm_nz (by omega)) (ty_ga (fun z8 az8 bz8 => ?_))
    refine hq_p rfl rfl ?_
    exact hq_W.ret rfl rfl rfl ⟨hJ, _, rfl, by omega, by omega⟩
theorem ct_80 {X : pm_X} {d : Nat} {h : pm_H} {t1 : Nat} {x2 : Int32} (hd : 4 ≤ d) (ht1 : ty_tr t1) : ty_M X ty_W0 d 80 [.ref 94, .ref t1, .int x2] h (ty_pi (-1) 5) := by
  intro J H hJ
  obtain ⟨d, rfl⟩ : ∃ e, d = e + 1 := ⟨d - 1, by omega⟩
  have I := H.1 h hJ
  have lt1 := ty_trl ht1
  have ax2 := nm_lo x2
  have bx2 := nm_hi x2
  refine hq_M.enter (q := (⟨"TrainBearers$Ways", "nextPlace", "(LTrainBearers$Train;I)I"⟩, _, 4, some .int, 9, 3, pm_c80)) rfl rfl ?_
  show hq_W X d 9 false (some .int) pm_c80 (0, [some (.ref 94), some (.ref t1), some (.int x2), none], [], h) (fun h' v => J h' ∧ (ty_pi (-1) 5) h' v)
  refine hq_p rfl rfl ?_
  refine ty_callp 1 I rfl (fun _ => rfl) rfl rfl rfl rfl (ct_128 (x0 := x2) (by omega)) (fun _ P1 => ?_)
  obtain ⟨z2, rfl, az2, bz2, iz2⟩ := P1
  refine ty_zeq rfl (fun c3 => ?_) (fun c3 => ?_)
  · clear iz2
    refine hq_p rfl rfl (ty_ge (n := -1) nk_im1 (fun z4 ez4 => ?_))
    exact hq_W.ret rfl rfl rfl ⟨hJ, _, rfl, by omega, by omega⟩
  · replace c3 : 1 ≤ z2.toInt ∧ z2.toInt ≤ 1 := by omega
    have f5 := iz2 (by omega)
    clear iz2
    refine hq_p rfl rfl ?_
    refine hq_gR I.1 rfl rfl (by decide) (by decide) rfl ?_
    refine hq_p rfl rfl ?_
    refine ty_aL I rfl rfl (by decide) (by omega) (by omega) (fun _ _ => ty_le rfl) (fun z6 ez6 az6 bz6 => ?_)
    refine hq_p rfl rfl (ty_ge (n := 1048576) nk_d1048576 (fun z7 ez7 => ?_))
    refine ty_ilt rfl (fun c8 => ?_) (fun c8 => ?_)
    · refine hq_p rfl rfl (ty_ge (n := 0) nk_i0 (fun z9 ez9 => ?_))
      refine hq_p (ls' := [some (.ref 94), some (.ref t1), some (.int x2), some (.int z9)]) rfl rfl ?_
      have L22_n19 : ∀ n19 : Nat, ∀ (y17 : Int32), (6 - y17.toInt).toNat = n19 → 0 ≤ y17.toInt → y17.toInt ≤ 6 → hq_W X d 9 false (some .int) pm_c80 (22, [some (.ref 94), some (.ref t1), some (.int x2), some (.int y17)], [], h) (fun h' v => J h' ∧ (ty_pi (-1) 5) h' v) := by
        intro n19
        induction n19 using Nat.strongRecOn with
        | ind n19 ihn19 =>
          intro y17 mn19 ay17 by17
          refine hq_p rfl rfl ?_
          refine hq_p rfl rfl (ty_ge (n := 6) nk_b6 (fun z20 ez20 => ?_))
          refine ty_ige rfl (fun c21 => ?_) (fun c21 => ?_)
          · refine hq_p rfl rfl (ty_ge (n := -1) nk_im1 (fun z22 ez22 => ?_))
            exact hq_W.ret rfl rfl rfl ⟨hJ, _, rfl, by omega, by omega⟩
          · refine hq_p rfl rfl ?_
            refine hq_p rfl rfl ?_
            refine hq_p rfl rfl ?_
            refine hq_p rfl rfl ?_
            refine ty_callp 0 I rfl (fun _ => rfl) rfl rfl rfl (hq_pre_o I.1 (x := 94) (ci := 9) rfl (by decide) rfl rfl rfl rfl) (ct_81 (t1 := t1) (x2 := x2) (x3 := y17) (by omega) ht1 (by omega) (by omega) (by omega) (by omega)) (fun _ P23 => ?_)
            obtain ⟨z24, rfl, az24, bz24⟩ := P23
            refine hq_p rfl rfl ?_
            refine hq_gR I.1 rfl rfl (by decide) (by decide) rfl ?_
            refine hq_p rfl rfl ?_
            refine ty_aL I rfl rfl (by decide) (by omega) (by omega) (fun _ _ => ty_le rfl) (fun z25 ez25 az25 bz25 => ?_)
            refine ty_ine rfl (fun c26 => ?_) (fun c26 => ?_)
            · clear c26
              refine ty_inc (ls' := fun z27 => [some (.ref 94), some (.ref t1), some (.int x2), some (.int z27)]) rfl rfl (fun _ => rfl) (nm_addc nk_i1 (by omega) (by omega)) (fun z27 ez27 => ?_)
              refine hq_p rfl rfl ?_
              exact ihn19 ((6 - z27.toInt).toNat) (by omega) z27 rfl (by omega) (by omega)
            · refine hq_p rfl rfl ?_
              exact hq_W.ret rfl rfl rfl ⟨hJ, _, rfl, by omega, by omega⟩
      exact L22_n19 _ z9 rfl (by omega) (by omega)
    · refine hq_p rfl rfl (ty_ge (n := -1) nk_im1 (fun z28 ez28 => ?_))
      exact hq_W.ret rfl rfl rfl ⟨hJ, _, rfl, by omega, by omega⟩
theorem ct_7 {X : pm_X} {d : Nat} {h : pm_H} {x1 : Int32} {x2 : Int32} {x3 : Int32} (hd : 1 ≤ d) (ax1 : 0 ≤ x1.toInt) (bx1 : x1.toInt ≤ 7) (ax2 : 0 ≤ x2.toInt) (bx2 : x2.toInt ≤ 255) (ax3 : 0 ≤ x3.toInt) (bx3 : x3.toInt ≤ 36) : ty_M X ty_W0 d 7 [.ref 86, .int x1, .int x2, .int x3] h (ty_pi (-2147483648) 2147483647) := by
  intro J H hJ
  obtain ⟨d, rfl⟩ : ∃ e, d = e + 1 := ⟨d - 1, by omega⟩
  have I := H.1 h hJ
  refine hq_M.enter (q := (⟨"TrainBearers$Bearing", "worthWith", "(III)I"⟩, _, 4, some .int, 0, 4, pm_c7)) rfl rfl ?_
  show hq_W X d 0 false (some .int) pm_c7 (0, [some (.ref 86), some (.int x1), some (.int x2), some (.int x3)], [], h) (fun h' v => J h' ∧ (ty_pi (-2147483648) 2147483647) h' v)
  refine hq_p rfl rfl ?_
  refine hq_gR I.1 rfl rfl (by decide) (by decide) rfl ?_
  refine hq_p rfl rfl ?_
  refine hq_p rfl rfl (ty_ge (n := 37) nk_b37 (fun z1 ez1 => ?_))
  refine hq_p rfl rfl (ty_ge (n := 37 * x1.toInt) (nm_mulc ez1 (by omega) (by omega)) (fun z2 ez2 => ?_))
  refine hq_p rfl rfl ?_
  refine hq_p rfl rfl (ty_ge (n := z2.toInt + x3.toInt) (nm_add (by omega) (by omega)) (fun z3 ez3 => ?_))
  refine ty_aL I rfl rfl (by decide) (by omega) (by omega) (fun _ _ => ty_le rfl) (fun z4 ez4 az4 bz4 => ?_)
  refine hq_p rfl rfl ?_
  refine hq_gR I.1 rfl rfl (by decide) (by decide) rfl ?_
  refine hq_p rfl rfl ?_
  refine hq_p rfl rfl (ty_ge (n := 1) nk_i1 (fun z5 ez5 => ?_))
  refine hq_p rfl rfl (ty_ge (n := x1.toInt + z5.toInt) (nm_add (by omega) (by omega)) (fun z6 ez6 => ?_))
  refine hq_p rfl rfl (ty_ge (n := 256) nk_s256 (fun z7 ez7 => ?_))
  refine hq_p rfl rfl (ty_ge (n := 256 * z6.toInt) (nm_mulc ez7 (by omega) (by omega)) (fun z8 ez8 => ?_))
  refine hq_p rfl rfl ?_
  refine hq_p rfl rfl ?_
  refine hq_gR I.1 rfl rfl (by decide) (by decide) rfl ?_
  refine hq_p rfl rfl ?_
  refine ty_aL I rfl rfl (by decide) (by omega) (by omega) (fun _ _ => ty_le rfl) (fun z9 ez9 az9 bz9 => ?_)
  refine hq_p rfl rfl (ty_ge (n := -1) nk_im1 (fun z10 ez10 => ?_))
  refine hq_p rfl rfl (ty_ga (fun z11 az11 bz11 => ?_))
  refine hq_p rfl rfl (ty_gb (c := x2 &&& z11) (lo := 0) (hi := 255) (by have q := nm_and_l (x := x2) (y := z11) (by omega); omega) (fun z12 az12 bz12 => ?_))
  refine hq_p rfl rfl (ty_ge (n := z8.toInt + z12.toInt) (nm_add (by omega) (by omega)) (fun z13 ez13 => ?_))
  refine ty_aL I rfl rfl (by decide) (by omega) (by omega) (fun _ _ => ty_le rfl) (fun z14 ez14 az14 bz14 => ?_)
  refine hq_p rfl rfl (ty_ga (fun z15 az15 bz15 => ?_))
  exact hq_W.ret rfl rfl rfl ⟨hJ, _, rfl, by omega, by omega⟩
theorem ct_6 {X : pm_X} {d : Nat} {h : pm_H} {x1 : Int32} {x2 : Int32} (hd : 2 ≤ d) (ax1 : 0 ≤ x1.toInt) (bx1 : x1.toInt ≤ 7) (ax2 : 0 ≤ x2.toInt) (bx2 : x2.toInt ≤ 255) : ty_M X ty_W0 d 6 [.ref 86, .int x1, .int x2] h (ty_pi 0 255) := by
  intro J H hJ
  obtain ⟨d, rfl⟩ : ∃ e, d = e + 1 := ⟨d - 1, by omega⟩
  have I := H.1 h hJ
  refine hq_M.enter (q := (⟨"TrainBearers$Bearing", "firstBest", "(II)I"⟩, _, 4, some .int, 0, 3, pm_c6)) rfl rfl ?_
  show hq_W X d 0 false (some .int) pm_c6 (0, [some (.ref 86), some (.int x1), some (.int x2), none], [], h) (fun h' v => J h' ∧ (ty_pi 0 255) h' v)
  refine hq_p rfl rfl (ty_ge (n := 0) nk_i0 (fun z1 ez1 => ?_))
  refine hq_p (ls' := [some (.ref 86), some (.int x1), some (.int x2), some (.int z1)]) rfl rfl ?_
  have L2_n26 : ∀ n26 : Nat, ∀ (y24 : Int32), (37 - y24.toInt).toNat = n26 → 0 ≤ y24.toInt → y24.toInt ≤ 37 → hq_W X d 0 false (some .int) pm_c6 (2, [some (.ref 86), some (.int x1), some (.int x2), some (.int y24)], [], h) (fun h' v => J h' ∧ (ty_pi 0 255) h' v) := by
    intro n26
    induction n26 using Nat.strongRecOn with
    | ind n26 ihn26 =>
      intro y24 mn26 ay24 by24
      refine hq_p rfl rfl ?_
      refine hq_p rfl rfl (ty_ge (n := 37) nk_b37 (fun z27 ez27 => ?_))
      refine ty_ige rfl (fun c28 => ?_) (fun c28 => ?_)
      · refine hq_p rfl rfl (ty_ge (n := 0) nk_i0 (fun z29 ez29 => ?_))
        exact hq_W.ret rfl rfl rfl ⟨hJ, _, rfl, by omega, by omega⟩
      · refine hq_p rfl rfl ?_
        refine hq_gR I.1 rfl rfl (by decide) (by decide) rfl ?_
        refine hq_p rfl rfl ?_
        refine ty_aL I rfl rfl (by decide) (by omega) (by omega) (fun _ _ => ty_le rfl) (fun z30 ez30 az30 bz30 => ?_)
        refine hq_p rfl rfl ?_
        refine ty_igt rfl (fun c31 => ?_) (fun c31 => ?_)
        · refine hq_p rfl rfl (ty_ge (n := 0) nk_i0 (fun z32 ez32 => ?_))
          exact hq_W.ret rfl rfl rfl ⟨hJ, _, rfl, by omega, by omega⟩
        · refine hq_p rfl rfl ?_
          refine hq_gR I.1 rfl rfl (by decide) (by decide) rfl ?_
          refine hq_p rfl rfl ?_
          refine ty_aL I rfl rfl (by decide) (by omega) (by omega) (fun _ _ => ty_le rfl) (fun z33 ez33 az33 bz33 => ?_)
          refine hq_p rfl rfl ?_
          refine hq_p rfl rfl (ty_ge (n := -1) nk_im1 (fun z34 ez34 => ?_))
          refine hq_p rfl rfl (ty_ga (fun z35 az35 bz35 => ?_))
          refine hq_p rfl rfl (ty_gb (c := z33 &&& z35) (lo := 0) (hi := 255) (by have q := nm_and_l (x := z33) (y := z35) (by omega); omega) (fun z36 az36 bz36 => ?_))
          refine ty_zne rfl (fun c37 => ?_) (fun c37 => ?_)
          · replace c37 : 1 ≤ z36.toInt ∧ z36.toInt ≤ 255 := by omega
            refine ty_inc (ls' := fun z38 => [some (.ref 86), some (.int x1), some (.int x2), some (.int z38)]) rfl rfl (fun _ => rfl) (nm_addc nk_i1 (by omega) (by omega)) (fun z38 ez38 => ?_)
            refine hq_p rfl rfl ?_
            exact ihn26 ((37 - z38.toInt).toNat) (by omega) z38 rfl (by omega) (by omega)
          · refine hq_p rfl rfl ?_
            refine hq_p rfl rfl ?_
            refine hq_p rfl rfl ?_
            refine hq_p rfl rfl ?_
            refine ty_callp 0 I rfl (fun _ => rfl) rfl rfl rfl (hq_pre_o I.1 (x := 86) (ci := 0) rfl (by decide) rfl rfl rfl rfl) (ct_7 (x1 := x1) (x2 := x2) (x3 := y24) (by omega) (by omega) (by omega) (by omega) (by omega) (by omega) (by omega)) (fun _ P39 => ?_)
            obtain ⟨z40, rfl, az40, bz40⟩ := P39
            refine hq_p rfl rfl ?_
            refine hq_gR I.1 rfl rfl (by decide) (by decide) rfl ?_
            refine hq_p rfl rfl ?_
            refine hq_p rfl rfl (ty_ge (n := 256) nk_s256 (fun z41 ez41 => ?_))
            refine hq_p rfl rfl (ty_ge (n := 256 * x1.toInt) (nm_mulc ez41 (by omega) (by omega)) (fun z42 ez42 => ?_))
            refine hq_p rfl rfl ?_
            refine hq_p rfl rfl (ty_ge (n := z42.toInt + x2.toInt) (nm_add (by omega) (by omega)) (fun z43 ez43 => ?_))
            refine ty_aL I rfl rfl (by decide) (by omega) (by omega) (fun _ _ => ty_le rfl) (fun z44 ez44 az44 bz44 => ?_)
            refine ty_ine rfl (fun c45 => ?_) (fun c45 => ?_)
            · clear c45
              refine ty_inc (ls' := fun z46 => [some (.ref 86), some (.int x1), some (.int x2), some (.int z46)]) rfl rfl (fun _ => rfl) (nm_addc nk_i1 (by omega) (by omega)) (fun z46 ez46 => ?_)
              refine hq_p rfl rfl ?_
              exact ihn26 ((37 - z46.toInt).toNat) (by omega) z46 rfl (by omega) (by omega)
            · refine hq_p rfl rfl ?_
              refine hq_gR I.1 rfl rfl (by decide) (by decide) rfl ?_
              refine hq_p rfl rfl ?_
              refine ty_aL I rfl rfl (by decide) (by omega) (by omega) (fun _ _ => ty_le rfl) (fun z47 ez47 az47 bz47 => ?_)
              exact hq_W.ret rfl rfl rfl ⟨hJ, _, rfl, by omega, by omega⟩
  exact L2_n26 _ z1 rfl (by omega) (by omega)
theorem ct_5 {X : pm_X} {d : Nat} {h : pm_H} {x1 : Int32} {x2 : Int32} (hd : 2 ≤ d) (ax1 : 0 ≤ x1.toInt) (bx1 : x1.toInt ≤ 7) (ax2 : 0 ≤ x2.toInt) (bx2 : x2.toInt ≤ 255) : ty_M X ty_W0 d 5 [.ref 86, .int x1, .int x2] h (ty_pi (-2147483648) 1048576) := by
  intro J H hJ
  obtain ⟨d, rfl⟩ : ∃ e, d = e + 1 := ⟨d - 1, by omega⟩
  have I := H.1 h hJ
  refine hq_M.enter (q := (⟨"TrainBearers$Bearing", "bestOf", "(II)I"⟩, _, 5, some .int, 0, 3, pm_c5)) rfl rfl ?_
  show hq_W X d 0 false (some .int) pm_c5 (0, [some (.ref 86), some (.int x1), some (.int x2), none, none], [], h) (fun h' v => J h' ∧ (ty_pi (-2147483648) 1048576) h' v)
  refine hq_p rfl rfl (ty_ge (n := 1048576) nk_d1048576 (fun z1 ez1 => ?_))
  refine hq_p (ls' := [some (.ref 86), some (.int x1), some (.int x2), some (.int z1), none]) rfl rfl ?_
  refine hq_p rfl rfl (ty_ge (n := 0) nk_i0 (fun z2 ez2 => ?_))
  refine hq_p (ls' := [some (.ref 86), some (.int x1), some (.int x2), some (.int z1), some (.int z2)]) rfl rfl ?_
  have L6_n51 : ∀ n51 : Nat, ∀ (y47 : Int32) (y48 : Int32), (37 - y48.toInt).toNat = n51 → -2147483648 ≤ y47.toInt → y47.toInt ≤ 1048576 → 0 ≤ y48.toInt → y48.toInt ≤ 37 → hq_W X d 0 false (some .int) pm_c5 (6, [some (.ref 86), some (.int x1), some (.int x2), some (.int y47), some (.int y48)], [], h) (fun h' v => J h' ∧ (ty_pi (-2147483648) 1048576) h' v) := by
    intro n51
    induction n51 using Nat.strongRecOn with
    | ind n51 ihn51 =>
      intro y47 y48 mn51 ay47 by47 ay48 by48
      refine hq_p rfl rfl ?_
      refine hq_p rfl rfl (ty_ge (n := 37) nk_b37 (fun z52 ez52 => ?_))
      refine ty_ige rfl (fun c53 => ?_) (fun c53 => ?_)
      · refine hq_p rfl rfl ?_
        exact hq_W.ret rfl rfl rfl ⟨hJ, _, rfl, by omega, by omega⟩
      · refine hq_p rfl rfl ?_
        refine hq_gR I.1 rfl rfl (by decide) (by decide) rfl ?_
        refine hq_p rfl rfl ?_
        refine ty_aL I rfl rfl (by decide) (by omega) (by omega) (fun _ _ => ty_le rfl) (fun z54 ez54 az54 bz54 => ?_)
        refine hq_p rfl rfl ?_
        refine ty_igt rfl (fun c55 => ?_) (fun c55 => ?_)
        · refine hq_p rfl rfl ?_
          exact hq_W.ret rfl rfl rfl ⟨hJ, _, rfl, by omega, by omega⟩
        · refine hq_p rfl rfl ?_
          refine hq_gR I.1 rfl rfl (by decide) (by decide) rfl ?_
          refine hq_p rfl rfl ?_
          refine ty_aL I rfl rfl (by decide) (by omega) (by omega) (fun _ _ => ty_le rfl) (fun z56 ez56 az56 bz56 => ?_)
          refine hq_p rfl rfl ?_
          refine hq_p rfl rfl (ty_ge (n := -1) nk_im1 (fun z57 ez57 => ?_))
          refine hq_p rfl rfl (ty_ga (fun z58 az58 bz58 => ?_))
          refine hq_p rfl rfl (ty_gb (c := z56 &&& z58) (lo := 0) (hi := 255) (by have q := nm_and_l (x := z56) (y := z58) (by omega); omega) (fun z59 az59 bz59 => ?_))
          refine ty_zne rfl (fun c60 => ?_) (fun c60 => ?_)
          · replace c60 : 1 ≤ z59.toInt ∧ z59.toInt ≤ 255 := by omega
            refine ty_inc (ls' := fun z61 => [some (.ref 86), some (.int x1), some (.int x2), some (.int y47), some (.int z61)]) rfl rfl (fun _ => rfl) (nm_addc nk_i1 (by omega) (by omega)) (fun z61 ez61 => ?_)
            refine hq_p rfl rfl ?_
            exact ihn51 ((37 - z61.toInt).toNat) (by omega) y47 z61 rfl (by omega) (by omega) (by omega) (by omega)
          · refine hq_p rfl rfl ?_
            refine hq_p rfl rfl ?_
            refine hq_p rfl rfl ?_
            refine hq_p rfl rfl ?_
            refine hq_p rfl rfl ?_
            refine ty_callp 0 I rfl (fun _ => rfl) rfl rfl rfl (hq_pre_o I.1 (x := 86) (ci := 0) rfl (by decide) rfl rfl rfl rfl) (ct_7 (x1 := x1) (x2 := x2) (x3 := y48) (by omega) (by omega) (by omega) (by omega) (by omega) (by omega) (by omega)) (fun _ P62 => ?_)
            obtain ⟨z63, rfl, az63, bz63⟩ := P62
            refine ty_callp 1 I rfl (fun _ => rfl) rfl rfl rfl rfl (ct_259 (x0 := y47) (x1 := z63) (by omega)) (fun _ P64 => ?_)
            obtain ⟨z65, rfl, fz65, dz65, oz65⟩ := P64
            have iz65 : -2147483648 ≤ z65.toInt ∧ z65.toInt ≤ 1048576 := by omega
            clear oz65
            refine hq_p (ls' := [some (.ref 86), some (.int x1), some (.int x2), some (.int z65), some (.int y48)]) rfl rfl ?_
            refine ty_inc (ls' := fun z66 => [some (.ref 86), some (.int x1), some (.int x2), some (.int z65), some (.int z66)]) rfl rfl (fun _ => rfl) (nm_addc nk_i1 (by omega) (by omega)) (fun z66 ez66 => ?_)
            refine hq_p rfl rfl ?_
            exact ihn51 ((37 - z66.toInt).toNat) (by omega) z65 z66 rfl (by omega) (by omega) (by omega) (by omega)
  exact L6_n51 _ z1 z2 rfl (by omega) (by omega) (by omega) (by omega)
theorem ct_4 {X : pm_X} {d : Nat} {h : pm_H} {t1 : Nat} {t2 : Nat} {x3 : Int32} (hd : 5 ≤ d) (ht1 : ty_tr t1) (ht2 : ty_ru t2) (ax3 : 0 ≤ x3.toInt) (bx3 : x3.toInt ≤ 7) : ty_M X ty_Wc d 4 [.ref 86, .ref t1, .ref t2, .int x3] h ty_pv := by
  intro J H hJ
  obtain ⟨d, rfl⟩ : ∃ e, d = e + 1 := ⟨d - 1, by omega⟩
  have I := H.1 h hJ
  have lt1 := ty_trl ht1
  have lt2 := ty_rul ht2
  refine hq_M.enter (q := (⟨"TrainBearers$Bearing", "weigh", "(LTrainBearers$Train;LTrainBearers$Rules;I)V"⟩, _, 8, none, 0, 4, pm_c4)) rfl rfl ?_
  show hq_W X d 0 false (none) pm_c4 (0, [some (.ref 86), some (.ref t1), some (.ref t2), some (.int x3), none, none, none, none], [], h) (fun h' v => J h' ∧ ty_pv h' v)
  refine hq_p rfl rfl (ty_ge (n := 0) nk_i0 (fun z1 ez1 => ?_))
  refine hq_p (ls' := [some (.ref 86), some (.ref t1), some (.ref t2), some (.int x3), some (.int z1), none, none, none]) rfl rfl ?_
  refine hq_p rfl rfl (ty_ge (n := 0) nk_i0 (fun z2 ez2 => ?_))
  refine hq_p (ls' := [some (.ref 86), some (.ref t1), some (.ref t2), some (.int x3), some (.int z1), some (.int z2), none, none]) rfl rfl ?_
  have L6_n36 : ∀ n36 : Nat, ∀ (y30 : Int32) (y31 : Int32) (h32 : pm_H), (8 - y31.toInt).toNat = n36 → -2147483648 ≤ y30.toInt → y30.toInt ≤ 2147483647 → 0 ≤ y31.toInt → y31.toInt ≤ 8 → J h32 → hq_W X d 0 false (none) pm_c4 (6, [some (.ref 86), some (.ref t1), some (.ref t2), some (.int x3), some (.int y30), some (.int y31), none, none], [], h32) (fun h' v => J h' ∧ ty_pv h' v) := by
    intro n36
    induction n36 using Nat.strongRecOn with
    | ind n36 ihn36 =>
      intro y30 y31 h32 mn36 ay30 by30 ay31 by31 Jh32
      have Ih32 := H.1 h32 Jh32
      refine hq_p rfl rfl ?_
      refine hq_p rfl rfl ?_
      refine ty_gI Ih32 rfl (ty_trs ht1) (by omega) (by decide) rfl (ty_trf ht1 3) (fun z37 ez37 az37 bz37 => ?_)
      refine ty_ige rfl (fun c38 => ?_) (fun c38 => ?_)
      · refine hq_p rfl rfl (ty_ge (n := 0) nk_i0 (fun z39 ez39 => ?_))
        refine hq_p (ls' := [some (.ref 86), some (.ref t1), some (.ref t2), some (.int x3), some (.int y30), some (.int z39), none, none]) rfl rfl ?_
        have L59_n136 : ∀ n136 : Nat, ∀ (y128 : Int32) (w129 : Option Value) (w130 : Option Value) (h131 : pm_H), (37 - y128.toInt).toNat = n136 → 0 ≤ y128.toInt → y128.toInt ≤ 37 → pm_two w129 = false → pm_two w130 = false → J h131 → hq_W X d 0 false (none) pm_c4 (59, [some (.ref 86), some (.ref t1), some (.ref t2), some (.int x3), some (.int y30), some (.int y128), w129, w130], [], h131) (fun h' v => J h' ∧ ty_pv h' v) := by
          intro n136
          induction n136 using Nat.strongRecOn with
          | ind n136 ihn136 =>
            intro y128 w129 w130 h131 mn136 ay128 by128 kw129 kw130 Jh131
            have Ih131 := H.1 h131 Jh131
            refine hq_p rfl rfl ?_
            refine hq_p rfl rfl (ty_ge (n := 37) nk_b37 (fun z137 ez137 => ?_))
            refine ty_ige rfl (fun c138 => ?_) (fun c138 => ?_)
            · exact hq_W.ret rfl rfl rfl ⟨Jh131, rfl⟩
            · refine hq_p rfl rfl ?_
              refine hq_gR Ih131.1 rfl rfl (by decide) (by decide) rfl ?_
              refine hq_p rfl rfl ?_
              refine ty_aL Ih131 rfl rfl (by decide) (by omega) (by omega) (fun _ _ => ty_le rfl) (fun z139 ez139 az139 bz139 => ?_)
              refine hq_p rfl rfl ?_
              refine ty_gI Ih131 rfl rfl (by decide) (by decide) rfl rfl (fun z140 ez140 az140 bz140 => ?_)
              refine ty_igt rfl (fun c141 => ?_) (fun c141 => ?_)
              · exact hq_W.ret rfl rfl rfl ⟨Jh131, rfl⟩
              · refine hq_p rfl rfl ?_
                refine hq_gR Ih131.1 rfl (ty_trs ht1) (by omega) (by decide) rfl ?_
                refine hq_p rfl rfl ?_
                refine ty_aL Ih131 rfl (ty_trs1 ht1) (by omega) (by omega) (by omega) (fun i _ => ty_le (ty_tra1 ht1 i)) (fun z142 ez142 az142 bz142 => ?_)
                refine hq_p rfl rfl ?_
                refine hq_gR Ih131.1 rfl (ty_trs ht1) (by omega) (by decide) rfl ?_
                refine hq_p rfl rfl ?_
                refine ty_aL Ih131 rfl (ty_trs2 ht1) (by omega) (by omega) (by omega) (fun i _ => ty_le (ty_tra2 ht1 i)) (fun z143 ez143 az143 bz143 => ?_)
                refine hq_p rfl rfl (ty_ga (fun z144 az144 bz144 => ?_))
                refine hq_p (ls' := [some (.ref 86), some (.ref t1), some (.ref t2), some (.int x3), some (.int y30), some (.int y128), some (.int z144), w130]) rfl rfl ?_
                refine hq_p rfl rfl (ty_ge (n := 0) nk_i0 (fun z145 ez145 => ?_))
                refine hq_p (ls' := [some (.ref 86), some (.ref t1), some (.ref t2), some (.int x3), some (.int y30), some (.int y128), some (.int z144), some (.int z145)]) rfl rfl ?_
                have L98_n168 : ∀ n168 : Nat, ∀ (y164 : Int32) (y165 : Int32), (8 - y165.toInt).toNat = n168 → -2147483648 ≤ y164.toInt → y164.toInt ≤ 2147483647 → 0 ≤ y165.toInt → y165.toInt ≤ 8 → hq_W X d 0 false (none) pm_c4 (98, [some (.ref 86), some (.ref t1), some (.ref t2), some (.int x3), some (.int y30), some (.int y128), some (.int y164), some (.int y165)], [], h131) (fun h' v => J h' ∧ ty_pv h' v) := by
                  intro n168
                  induction n168 using Nat.strongRecOn with
                  | ind n168 ihn168 =>
                    intro y164 y165 mn168 ay164 by164 ay165 by165
                    refine hq_p rfl rfl ?_
                    refine hq_p rfl rfl ?_
                    refine ty_gI Ih131 rfl (ty_trs ht1) (by omega) (by decide) rfl (ty_trf ht1 3) (fun z169 ez169 az169 bz169 => ?_)
                    refine ty_ige rfl (fun c170 => ?_) (fun c170 => ?_)
                    · refine hq_p rfl rfl ?_
                      refine hq_gR Ih131.1 rfl rfl (by decide) (by decide) rfl ?_
                      refine hq_p rfl rfl ?_
                      refine hq_p rfl rfl (ty_ge (n := 37) nk_b37 (fun z171 ez171 => ?_))
                      refine hq_p rfl rfl (ty_ge (n := 37 * x3.toInt) (nm_mulc ez171 (by omega) (by omega)) (fun z172 ez172 => ?_))
                      refine hq_p rfl rfl ?_
                      refine hq_p rfl rfl (ty_ge (n := z172.toInt + y128.toInt) (nm_add (by omega) (by omega)) (fun z173 ez173 => ?_))
                      refine hq_p rfl rfl ?_
                      refine hq_gR Ih131.1 rfl rfl (by decide) (by decide) rfl ?_
                      refine hq_p rfl rfl ?_
                      refine ty_aL Ih131 rfl rfl (by decide) (by omega) (by omega) (fun _ _ => ty_le rfl) (fun z174 ez174 az174 bz174 => ?_)
                      refine hq_p rfl rfl ?_
                      refine hq_p rfl rfl (ty_gb (c := z174 &&& y30) (lo := 0) (hi := 255) (by have q := nm_and_l (x := z174) (y := y30) (by omega); omega) (fun z175 az175 bz175 => ?_))
                      refine ty_zeq rfl (fun c176 => ?_) (fun c176 => ?_)
                      · refine hq_p rfl rfl ?_
                        refine hq_p rfl rfl ?_
                        refine hq_p rfl rfl ?_
                        refine hq_p rfl rfl ?_
                        refine ty_callj 0 (W := ty_Wc) H Jh131 rfl (fun _ => rfl) rfl rfl rfl (hq_pre_o Ih131.1 (x := t2) (ci := 4) (ty_rus ht2) (by omega) rfl rfl rfl rfl) (fun a k w => by unfold ty_Wu at w; unfold ty_Wc; omega) (by unfold ty_Wu ty_Wc; omega) (ct_47 (t0 := t2) (t1 := t1) (x2 := x3) (x3 := y164) (by omega) ht2 ht1) (fun h178 _ Jh178 P177 => ?_)
                        have Ih178 := H.1 h178 Jh178
                        obtain ⟨z179, rfl, az179, bz179⟩ := P177
                        refine hq_p rfl rfl (ty_ge (n := 16) nk_b16 (fun z180 ez180 => ?_))
                        refine hq_p rfl rfl (ty_ge (n := 16 * z179.toInt) (nm_mulc ez180 (by omega) (by omega)) (fun z181 ez181 => ?_))
                        refine hq_p rfl rfl ?_
                        refine hq_gR Ih178.1 rfl rfl (by decide) (by decide) rfl ?_
                        refine hq_p rfl rfl ?_
                        refine ty_aL Ih178 rfl rfl (by decide) (by omega) (by omega) (fun _ _ => ty_le rfl) (fun z182 ez182 az182 bz182 => ?_)
                        refine ty_callp 1 Ih178 rfl (fun _ => rfl) rfl rfl rfl rfl (ct_257 (x0 := z182) (by omega)) (fun _ P183 => ?_)
                        obtain ⟨z184, rfl, az184, bz184⟩ := P183
                        refine hq_p rfl rfl (ty_ge (n := z181.toInt + z184.toInt) (nm_add (by omega) (by omega)) (fun z185 ez185 => ?_))
                        refine ty_aS (W := ty_Wc) H Jh178 rfl rfl (by decide) (by omega) (by omega) (fun i e => by unfold ty_Wc; omega) (fun _ _ => ty_eg rfl) (by omega) (by omega) (fun e1 e2 w => by omega) (fun h186 eh186 Jh186 => ?_)
                        have Ih186 := H.1 h186 Jh186
                        refine ty_inc (ls' := fun z187 => [some (.ref 86), some (.ref t1), some (.ref t2), some (.int x3), some (.int y30), some (.int z187), some (.int y164), some (.int y165)]) rfl rfl (fun _ => rfl) (nm_addc nk_i1 (by omega) (by omega)) (fun z187 ez187 => ?_)
                        refine hq_p rfl rfl ?_
                        exact ihn136 ((37 - z187.toInt).toNat) (by omega) z187 (some (.int y164)) (some (.int y165)) h186 rfl (by omega) (by omega) rfl rfl Jh186
                      · replace c176 : 1 ≤ z175.toInt ∧ z175.toInt ≤ 255 := by omega
                        refine hq_p rfl rfl (ty_ge (n := 1048576) nk_d1048576 (fun z188 ez188 => ?_))
                        refine hq_p rfl rfl ?_
                        refine ty_aS (W := ty_Wc) H Jh131 rfl rfl (by decide) (by omega) (by omega) (fun i e => by unfold ty_Wc; omega) (fun _ _ => ty_eg rfl) (by omega) (by omega) (fun e1 e2 w => by omega) (fun h189 eh189 Jh189 => ?_)
                        have Ih189 := H.1 h189 Jh189
                        refine ty_inc (ls' := fun z190 => [some (.ref 86), some (.ref t1), some (.ref t2), some (.int x3), some (.int y30), some (.int z190), some (.int y164), some (.int y165)]) rfl rfl (fun _ => rfl) (nm_addc nk_i1 (by omega) (by omega)) (fun z190 ez190 => ?_)
                        refine hq_p rfl rfl ?_
                        exact ihn136 ((37 - z190.toInt).toNat) (by omega) z190 (some (.int y164)) (some (.int y165)) h189 rfl (by omega) (by omega) rfl rfl Jh189
                    · refine hq_p rfl rfl ?_
                      refine hq_p rfl rfl ?_
                      refine hq_gR Ih131.1 rfl rfl (by decide) (by decide) rfl ?_
                      refine hq_p rfl rfl ?_
                      refine ty_aL Ih131 rfl rfl (by decide) (by omega) (by omega) (fun _ _ => ty_le rfl) (fun z191 ez191 az191 bz191 => ?_)
                      refine hq_p rfl rfl ?_
                      refine hq_p rfl rfl (ty_ga (fun z192 az192 bz192 => ?_))
                      refine hq_p rfl rfl (ty_ge (n := 1) nk_i1 (fun z193 ez193 => ?_))
                      refine hq_p rfl rfl (ty_gb (c := z192 &&& z193) (lo := 0) (hi := 1) (by have q := nm_and_r (x := z192) (y := z193) (by omega); omega) (fun z194 az194 bz194 => ?_))
                      refine hq_p rfl rfl ?_
                      refine hq_gR Ih131.1 rfl rfl (by decide) (by decide) rfl ?_
                      refine hq_p rfl rfl ?_
                      refine ty_aL Ih131 rfl rfl (by decide) (by omega) (by omega) (fun _ _ => ty_le rfl) (fun z195 ez195 az195 bz195 => ?_)
                      refine hq_p rfl rfl (ty_ga (fun z196 az196 bz196 => ?_))
                      refine hq_p rfl rfl (ty_ga (fun z197 az197 bz197 => ?_))
                      refine hq_p (ls' := [some (.ref 86), some (.ref t1), some (.ref t2), some (.int x3), some (.int y30), some (.int y128), some (.int z197), some (.int y165)]) rfl rfl ?_
                      refine ty_inc (ls' := fun z198 => [some (.ref 86), some (.ref t1), some (.ref t2), some (.int x3), some (.int y30), some (.int y128), some (.int z197), some (.int z198)]) rfl rfl (fun _ => rfl) (nm_addc nk_i1 (by omega) (by omega)) (fun z198 ez198 => ?_)
                      refine hq_p rfl rfl ?_
                      exact ihn168 ((8 - z198.toInt).toNat) (by omega) z197 z198 rfl (by omega) (by omega) (by omega) (by omega)
                exact L98_n168 _ z144 z145 rfl (by omega) (by omega) (by omega) (by omega)
        exact L59_n136 _ z39 none none h32 rfl (by omega) (by omega) rfl rfl Jh32
      · refine hq_p rfl rfl ?_
        refine hq_gR Ih32.1 rfl rfl (by decide) (by decide) rfl ?_
        refine hq_p rfl rfl ?_
        refine hq_p rfl rfl ?_
        refine hq_p rfl rfl ?_
        refine hq_p rfl rfl ?_
        refine hq_p rfl rfl ?_
        refine ty_callj 0 (W := ty_Wc) H Jh32 rfl (fun _ => rfl) rfl rfl rfl (hq_pre_o Ih32.1 (x := t2) (ci := 4) (ty_rus ht2) (by omega) rfl rfl rfl rfl) (fun a k w => by unfold ty_Wu at w; unfold ty_Wc; omega) (by unfold ty_Wu ty_Wc; omega) (ct_44 (t0 := t2) (t1 := t1) (x2 := y31) (x3 := x3) (by omega) ht2 ht1) (fun h200 _ Jh200 P199 => ?_)
        have Ih200 := H.1 h200 Jh200
        obtain ⟨z201, rfl, az201, bz201⟩ := P199
        refine ty_aS (W := ty_Wc) H Jh200 rfl rfl (by decide) (by omega) (by omega) (fun i e => by unfold ty_Wc; omega) (fun _ _ => ty_eg rfl) (by omega) (by omega) (fun e1 e2 w => by omega) (fun h202 eh202 Jh202 => ?_)
        have Ih202 := H.1 h202 Jh202
        refine hq_p rfl rfl ?_
        refine hq_p rfl rfl ?_
        refine hq_p rfl rfl ?_
        refine hq_p rfl rfl ?_
        refine ty_callj 0 (W := ty_Wc) H Jh202 rfl (fun _ => rfl) rfl rfl rfl (hq_pre_o Ih202.1 (x := t2) (ci := 4) (ty_rus ht2) (by omega) rfl rfl rfl rfl) (fun a k w => by unfold ty_Wu at w; unfold ty_Wc; omega) (by unfold ty_Wu ty_Wc; omega) (ct_45 (t0 := t2) (t1 := t1) (x2 := y31) (x3 := x3) (by omega) ht2 ht1) (fun h204 _ Jh204 P203 => ?_)
        have Ih204 := H.1 h204 Jh204
        obtain ⟨z205, rfl, az205, bz205⟩ := P203
        refine ty_zeq rfl (fun c206 => ?_) (fun c206 => ?_)
        · refine ty_inc (ls' := fun z207 => [some (.ref 86), some (.ref t1), some (.ref t2), some (.int x3), some (.int y30), some (.int z207), none, none]) rfl rfl (fun _ => rfl) (nm_addc nk_i1 (by omega) (by omega)) (fun z207 ez207 => ?_)
          refine hq_p rfl rfl ?_
          exact ihn36 ((8 - z207.toInt).toNat) (by omega) y30 z207 h204 rfl (by omega) (by omega) (by omega) (by omega) Jh204
        · replace c206 : 1 ≤ z205.toInt ∧ z205.toInt ≤ 1 := by omega
          refine hq_p rfl rfl ?_
          refine hq_p rfl rfl (ty_ge (n := 1) nk_i1 (fun z208 ez208 => ?_))
          refine hq_p rfl rfl ?_
          refine hq_p rfl rfl (ty_gb (c := z208 <<< (y31 &&& 31)) (lo := 1) (hi := 256) (by have q := nm_shl1 (x := z208) (y := y31) (by omega) (by omega) (by omega); omega) (fun z209 az209 bz209 => ?_))
          refine hq_p rfl rfl (ty_ga (fun z210 az210 bz210 => ?_))
          refine hq_p (ls' := [some (.ref 86), some (.ref t1), some (.ref t2), some (.int x3), some (.int z210), some (.int y31), none, none]) rfl rfl ?_
          refine ty_inc (ls' := fun z211 => [some (.ref 86), some (.ref t1), some (.ref t2), some (.int x3), some (.int z210), some (.int z211), none, none]) rfl rfl (fun _ => rfl) (nm_addc nk_i1 (by omega) (by omega)) (fun z211 ez211 => ?_)
          refine hq_p rfl rfl ?_
          exact ihn36 ((8 - z211.toInt).toNat) (by omega) z210 z211 h204 rfl (by omega) (by omega) (by omega) (by omega) Jh204
  exact L6_n36 _ z1 z2 h rfl (by omega) (by omega) (by omega) (by omega) hJ
theorem ct_3 {X : pm_X} {d : Nat} {h : pm_H} {t1 : Nat} {t2 : Nat} (hd : 6 ≤ d) (ht1 : ty_tr t1) (ht2 : ty_ru t2) : ty_M X ty_Wc d 3 [.ref 86, .ref t1, .ref t2] h ty_pv := by
  intro J H hJ
  obtain ⟨d, rfl⟩ : ∃ e, d = e + 1 := ⟨d - 1, by omega⟩
  have I := H.1 h hJ
  have lt1 := ty_trl ht1
  have lt2 := ty_rul ht2
  refine hq_M.enter (q := (⟨"TrainBearers$Bearing", "solve", "(LTrainBearers$Train;LTrainBearers$Rules;)V"⟩, _, 5, none, 0, 3, pm_c3)) rfl rfl ?_
  show hq_W X d 0 false (none) pm_c3 (0, [some (.ref 86), some (.ref t1), some (.ref t2), none, none], [], h) (fun h' v => J h' ∧ ty_pv h' v)
  refine hq_p rfl rfl ?_
  refine hq_p rfl rfl (ty_ge (n := 1) nk_i1 (fun z1 ez1 => ?_))
  refine hq_p rfl rfl ?_
  refine ty_gI I rfl (ty_trs ht1) (by omega) (by decide) rfl (ty_trf ht1 3) (fun z2 ez2 az2 bz2 => ?_)
  refine hq_p rfl rfl (ty_gb (c := z1 <<< (z2 &&& 31)) (lo := 1) (hi := 256) (by have q := nm_shl1 (x := z1) (y := z2) (by omega) (by omega) (by omega); omega) (fun z3 az3 bz3 => ?_))
  refine hq_p rfl rfl (ty_ge (n := 1) nk_i1 (fun z4 ez4 => ?_))
  refine hq_p rfl rfl (ty_ge (n := z3.toInt - z4.toInt) (nm_sub (by omega) (by omega)) (fun z5 ez5 => ?_))
  refine ty_pI (W := ty_Wc) H hJ rfl rfl (by decide) rfl rfl (by unfold ty_Wc; omega) rfl (by omega) (by omega) (fun h6 eh6 Jh6 => ?_)
  have wh6 : (hs_fI h6 86 4).toInt = z5.toInt := by rw [eh6]; exact congrArg Int32.toInt (ty_fI_eq I.1 rfl (by decide) rfl)
  have Ih6 := H.1 h6 Jh6
  refine hq_p rfl rfl (ty_ge (n := 0) nk_i0 (fun z7 ez7 => ?_))
  refine hq_p (ls' := [some (.ref 86), some (.ref t1), some (.ref t2), some (.int z7), none]) rfl rfl ?_
  have L14_n80 : ∀ n80 : Nat, ∀ (y76 : Int32) (h77 : pm_H), (256 - y76.toInt).toNat = n80 → 0 ≤ y76.toInt → y76.toInt ≤ 256 → J h77 → hq_W X d 0 false (none) pm_c3 (14, [some (.ref 86), some (.ref t1), some (.ref t2), some (.int y76), none], [], h77) (fun h' v => J h' ∧ ty_pv h' v) := by
    intro n80
    induction n80 using Nat.strongRecOn with
    | ind n80 ihn80 =>
      intro y76 h77 mn80 ay76 by76 Jh77
      have Ih77 := H.1 h77 Jh77
      refine hq_p rfl rfl ?_
      refine hq_p rfl rfl ?_
      refine ty_gI Ih77 rfl rfl (by decide) (by decide) rfl rfl (fun z81 ez81 az81 bz81 => ?_)
      refine ty_igt rfl (fun c82 => ?_) (fun c82 => ?_)
      · refine hq_p rfl rfl ?_
        refine ty_gI Ih77 rfl (ty_trs ht1) (by omega) (by decide) rfl (ty_trf ht1 0) (fun z83 ez83 az83 bz83 => ?_)
        refine hq_p rfl rfl (ty_ge (n := 1) nk_i1 (fun z84 ez84 => ?_))
        refine hq_p rfl rfl (ty_ge (n := z83.toInt - z84.toInt) (nm_sub (by omega) (by omega)) (fun z85 ez85 => ?_))
        refine hq_p (ls' := [some (.ref 86), some (.ref t1), some (.ref t2), some (.int z85), none]) rfl rfl ?_
        have L51_n95 : ∀ n95 : Nat, ∀ (y89 : Int32) (w90 : Option Value) (h91 : pm_H), (y89.toInt - (-1)).toNat = n95 → -1 ≤ y89.toInt → y89.toInt ≤ 7 → pm_two w90 = false → J h91 → hq_W X d 0 false (none) pm_c3 (51, [some (.ref 86), some (.ref t1), some (.ref t2), some (.int y89), w90], [], h91) (fun h' v => J h' ∧ ty_pv h' v) := by
          intro n95
          induction n95 using Nat.strongRecOn with
          | ind n95 ihn95 =>
            intro y89 w90 h91 mn95 ay89 by89 kw90 Jh91
            have Ih91 := H.1 h91 Jh91
            refine hq_p rfl rfl ?_
            refine ty_zlt rfl (fun c96 => ?_) (fun c96 => ?_)
            · refine hq_p rfl rfl ?_
              refine ty_gI Ih91 rfl rfl (by decide) (by decide) rfl rfl (fun z97 ez97 az97 bz97 => ?_)
              refine hq_p (ls' := [some (.ref 86), some (.ref t1), some (.ref t2), some (.int z97), w90]) rfl rfl ?_
              refine hq_p rfl rfl (ty_ge (n := 0) nk_i0 (fun z98 ez98 => ?_))
              refine hq_p (ls' := [some (.ref 86), some (.ref t1), some (.ref t2), some (.int z97), some (.int z98)]) rfl rfl ?_
              have L114_n132 : ∀ n132 : Nat, ∀ (y126 : Int32) (y127 : Int32) (h128 : pm_H), (8 - y127.toInt).toNat = n132 → 0 ≤ y126.toInt → y126.toInt ≤ 255 → 0 ≤ y127.toInt → y127.toInt ≤ 8 → J h128 → hq_W X d 0 false (none) pm_c3 (114, [some (.ref 86), some (.ref t1), some (.ref t2), some (.int y126), some (.int y127)], [], h128) (fun h' v => J h' ∧ ty_pv h' v) := by
                intro n132
                induction n132 using Nat.strongRecOn with
                | ind n132 ihn132 =>
                  intro y126 y127 h128 mn132 ay126 by126 ay127 by127 Jh128
                  have Ih128 := H.1 h128 Jh128
                  refine hq_p rfl rfl ?_
                  refine hq_p rfl rfl ?_
                  refine ty_gI Ih128 rfl (ty_trs ht1) (by omega) (by decide) rfl (ty_trf ht1 0) (fun z133 ez133 az133 bz133 => ?_)
                  refine ty_ige rfl (fun c134 => ?_) (fun c134 => ?_)
                  · exact hq_W.ret rfl rfl rfl ⟨Jh128, rfl⟩
                  · refine hq_p rfl rfl ?_
                    refine hq_gR Ih128.1 rfl rfl (by decide) (by decide) rfl ?_
                    refine hq_p rfl rfl ?_
                    refine hq_p rfl rfl ?_
                    refine hq_p rfl rfl ?_
                    refine hq_p rfl rfl ?_
                    refine ty_callp 0 Ih128 rfl (fun _ => rfl) rfl rfl rfl (hq_pre_o Ih128.1 (x := 86) (ci := 0) rfl (by decide) rfl rfl rfl rfl) (ct_6 (x1 := y127) (x2 := y126) (by omega) (by omega) (by omega) (by omega) (by omega)) (fun _ P135 => ?_)
                    obtain ⟨z136, rfl, az136, bz136⟩ := P135
                    refine ty_aS (W := ty_Wc) H Jh128 rfl rfl (by decide) (by omega) (by omega) (fun i e => by unfold ty_Wc; omega) (fun _ _ => ty_eg rfl) (by omega) (by omega) (fun e1 e2 w => by omega) (fun h137 eh137 Jh137 => ?_)
                    have Ih137 := H.1 h137 Jh137
                    refine hq_p rfl rfl ?_
                    refine hq_p rfl rfl ?_
                    refine hq_gR Ih137.1 rfl rfl (by decide) (by decide) rfl ?_
                    refine hq_p rfl rfl ?_
                    refine ty_aL Ih137 rfl rfl (by decide) (by omega) (by omega) (fun _ _ => ty_le rfl) (fun z138 ez138 az138 bz138 => ?_)
                    refine hq_p rfl rfl (ty_ge (n := -1) nk_im1 (fun z139 ez139 => ?_))
                    refine hq_p rfl rfl (ty_ga (fun z140 az140 bz140 => ?_))
                    refine hq_p rfl rfl (ty_gb (c := y126 &&& z140) (lo := 0) (hi := 255) (by have q := nm_and_l (x := y126) (y := z140) (by omega); omega) (fun z141 az141 bz141 => ?_))
                    refine hq_p (ls' := [some (.ref 86), some (.ref t1), some (.ref t2), some (.int z141), some (.int y127)]) rfl rfl ?_
                    refine ty_inc (ls' := fun z142 => [some (.ref 86), some (.ref t1), some (.ref t2), some (.int z141), some (.int z142)]) rfl rfl (fun _ => rfl) (nm_addc nk_i1 (by omega) (by omega)) (fun z142 ez142 => ?_)
                    refine hq_p rfl rfl ?_
                    exact ihn132 ((8 - z142.toInt).toNat) (by omega) z141 z142 h137 rfl (by omega) (by omega) (by omega) (by omega) Jh137
              exact L114_n132 _ z97 z98 h91 rfl (by omega) (by omega) (by omega) (by omega) Jh91
            · refine hq_p rfl rfl ?_
              refine hq_p rfl rfl ?_
              refine hq_p rfl rfl ?_
              refine hq_p rfl rfl ?_
              refine ty_callj 0 (W := ty_Wc) H Jh91 rfl (fun _ => rfl) rfl rfl rfl (hq_pre_o Ih91.1 (x := 86) (ci := 0) rfl (by decide) rfl rfl rfl rfl) (fun _ _ w => w) (fun _ w => w) (ct_4 (t1 := t1) (t2 := t2) (x3 := y89) (by omega) ht1 ht2 (by omega) (by omega)) (fun h144 _ Jh144 P143 => ?_)
              have Ih144 := H.1 h144 Jh144
              subst P143
              refine hq_p rfl rfl (ty_ge (n := 0) nk_i0 (fun z145 ez145 => ?_))
              refine hq_p (ls' := [some (.ref 86), some (.ref t1), some (.ref t2), some (.int y89), some (.int z145)]) rfl rfl ?_
              have L65_n218 : ∀ n218 : Nat, ∀ (y214 : Int32) (h215 : pm_H), (256 - y214.toInt).toNat = n218 → 0 ≤ y214.toInt → y214.toInt ≤ 256 → J h215 → hq_W X d 0 false (none) pm_c3 (65, [some (.ref 86), some (.ref t1), some (.ref t2), some (.int y89), some (.int y214)], [], h215) (fun h' v => J h' ∧ ty_pv h' v) := by
                intro n218
                induction n218 using Nat.strongRecOn with
                | ind n218 ihn218 =>
                  intro y214 h215 mn218 ay214 by214 Jh215
                  have Ih215 := H.1 h215 Jh215
                  refine hq_p rfl rfl ?_
                  refine hq_p rfl rfl ?_
                  refine ty_gI Ih215 rfl rfl (by decide) (by decide) rfl rfl (fun z219 ez219 az219 bz219 => ?_)
                  refine ty_igt rfl (fun c220 => ?_) (fun c220 => ?_)
                  · refine ty_inc (ls' := fun z221 => [some (.ref 86), some (.ref t1), some (.ref t2), some (.int z221), some (.int y214)]) rfl rfl (fun _ => rfl) (nm_addc nk_im1 (by omega) (by omega)) (fun z221 ez221 => ?_)
                    refine hq_p rfl rfl ?_
                    exact ihn95 ((z221.toInt - (-1)).toNat) (by omega) z221 (some (.int y214)) h215 rfl (by omega) (by omega) rfl Jh215
                  · refine hq_p rfl rfl ?_
                    refine hq_gR Ih215.1 rfl rfl (by decide) (by decide) rfl ?_
                    refine hq_p rfl rfl ?_
                    refine hq_p rfl rfl (ty_ge (n := 256) nk_s256 (fun z222 ez222 => ?_))
                    refine hq_p rfl rfl (ty_ge (n := 256 * y89.toInt) (nm_mulc ez222 (by omega) (by omega)) (fun z223 ez223 => ?_))
                    refine hq_p rfl rfl ?_
                    refine hq_p rfl rfl (ty_ge (n := z223.toInt + y214.toInt) (nm_add (by omega) (by omega)) (fun z224 ez224 => ?_))
                    refine hq_p rfl rfl ?_
                    refine hq_p rfl rfl ?_
                    refine hq_p rfl rfl ?_
                    refine ty_callp 0 Ih215 rfl (fun _ => rfl) rfl rfl rfl (hq_pre_o Ih215.1 (x := 86) (ci := 0) rfl (by decide) rfl rfl rfl rfl) (ct_5 (x1 := y89) (x2 := y214) (by omega) (by omega) (by omega) (by omega) (by omega)) (fun _ P225 => ?_)
                    obtain ⟨z226, rfl, az226, bz226⟩ := P225
                    refine ty_aS (W := ty_Wc) H Jh215 rfl rfl (by decide) (by omega) (by omega) (fun i e => by unfold ty_Wc; omega) (fun _ _ => ty_eg rfl) (by omega) (by omega) (fun e1 e2 w => by omega) (fun h227 eh227 Jh227 => ?_)
                    have Ih227 := H.1 h227 Jh227
                    refine ty_inc (ls' := fun z228 => [some (.ref 86), some (.ref t1), some (.ref t2), some (.int y89), some (.int z228)]) rfl rfl (fun _ => rfl) (nm_addc nk_i1 (by omega) (by omega)) (fun z228 ez228 => ?_)
                    refine hq_p rfl rfl ?_
                    exact ihn218 ((256 - z228.toInt).toNat) (by omega) z228 h227 rfl (by omega) (by omega) Jh227
              exact L65_n218 _ z145 h144 rfl (by omega) (by omega) Jh144
        exact L51_n95 _ z85 none h77 rfl (by omega) (by omega) rfl Jh77
      · refine hq_p rfl rfl ?_
        refine hq_gR Ih77.1 rfl rfl (by decide) (by decide) rfl ?_
        refine hq_p rfl rfl ?_
        refine ty_gI Ih77 rfl (ty_trs ht1) (by omega) (by decide) rfl (ty_trf ht1 0) (fun z229 ez229 az229 bz229 => ?_)
        refine hq_p rfl rfl (ty_ge (n := 256) nk_s256 (fun z230 ez230 => ?_))
        refine hq_p rfl rfl (ty_ge (n := 256 * z229.toInt) (nm_mulc ez230 (by omega) (by omega)) (fun z231 ez231 => ?_))
        refine hq_p rfl rfl ?_
        refine hq_p rfl rfl (ty_ge (n := z231.toInt + y76.toInt) (nm_add (by omega) (by omega)) (fun z232 ez232 => ?_))
        refine hq_p rfl rfl (ty_ge (n := 0) nk_i0 (fun z233 ez233 => ?_))
        refine ty_aS (W := ty_Wc) H Jh77 rfl rfl (by decide) (by omega) (by omega) (fun i e => by unfold ty_Wc; omega) (fun _ _ => ty_eg rfl) (by omega) (by omega) (fun e1 e2 w => by omega) (fun h234 eh234 Jh234 => ?_)
        have Ih234 := H.1 h234 Jh234
        refine ty_inc (ls' := fun z235 => [some (.ref 86), some (.ref t1), some (.ref t2), some (.int z235), none]) rfl rfl (fun _ => rfl) (nm_addc nk_i1 (by omega) (by omega)) (fun z235 ez235 => ?_)
        refine hq_p rfl rfl ?_
        exact ihn80 ((256 - z235.toInt).toNat) (by omega) z235 h234 rfl (by omega) (by omega) Jh234
  exact L14_n80 _ z7 h6 rfl (by omega) (by omega) Jh6
theorem ct_1 {X : pm_X} {d : Nat} {h : pm_H}  (hd : 1 ≤ d)  : ty_M X ty_W0 d 1 [.ref 86] h (ty_pi (-2147483648) 2147483647) := by
  intro J H hJ
  obtain ⟨d, rfl⟩ : ∃ e, d = e + 1 := ⟨d - 1, by omega⟩
  have I := H.1 h hJ
  refine hq_M.enter (q := (⟨"TrainBearers$Bearing", "leastBrought", "()I"⟩, _, 1, some .int, 0, 1, pm_c1)) rfl rfl ?_
  show hq_W X d 0 false (some .int) pm_c1 (0, [some (.ref 86)], [], h) (fun h' v => J h' ∧ (ty_pi (-2147483648) 2147483647) h' v)
  refine hq_p rfl rfl ?_
  refine hq_gR I.1 rfl rfl (by decide) (by decide) rfl ?_
  refine hq_p rfl rfl ?_
  refine ty_gI I rfl rfl (by decide) (by decide) rfl rfl (fun z1 ez1 az1 bz1 => ?_)
  refine ty_aL I rfl rfl (by decide) (by omega) (by omega) (fun _ _ => ty_le rfl) (fun z2 ez2 az2 bz2 => ?_)
  refine hq_p rfl rfl (ty_ge (n := 16) nk_b16 (fun z3 ez3 => ?_))
  refine hq_idiv rfl (nm_nz (by omega)) (ty_ga (fun z4 az4 bz4 => ?_))
  exact hq_W.ret rfl rfl rfl ⟨hJ, _, rfl, by omega, by omega⟩
theorem ct_2 {X : pm_X} {d : Nat} {h : pm_H}  (hd : 1 ≤ d)  : ty_M X ty_W0 d 2 [.ref 86] h (ty_pi (-2147483648) 2147483647) := by
  intro J H hJ
  obtain ⟨d, rfl⟩ : ∃ e, d = e + 1 := ⟨d - 1, by omega⟩
  have I := H.1 h hJ
  refine hq_M.enter (q := (⟨"TrainBearers$Bearing", "fewestGirls", "()I"⟩, _, 1, some .int, 0, 1, pm_c2)) rfl rfl ?_
  show hq_W X d 0 false (some .int) pm_c2 (0, [some (.ref 86)], [], h) (fun h' v => J h' ∧ (ty_pi (-2147483648) 2147483647) h' v)
  refine hq_p rfl rfl ?_
  refine hq_gR I.1 rfl rfl (by decide) (by decide) rfl ?_
  refine hq_p rfl rfl ?_
  refine ty_gI I rfl rfl (by decide) (by decide) rfl rfl (fun z1 ez1 az1 bz1 => ?_)
  refine ty_aL I rfl rfl (by decide) (by omega) (by omega) (fun _ _ => ty_le rfl) (fun z2 ez2 az2 bz2 => ?_)
  refine hq_p rfl rfl (ty_ge (n := 16) nk_b16 (fun z3 ez3 => ?_))
  refine hq_irem rfl (nm_nz (by omega)) (ty_ga (fun z4 az4 bz4 => ?_))
  exact hq_W.ret rfl rfl rfl ⟨hJ, _, rfl, by omega, by omega⟩
end CT11
