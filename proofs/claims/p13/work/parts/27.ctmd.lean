/-! CONTRACTS (printed by wip/pm/cts.py) -/
section CT6
theorem ct_230 {X : pm_X} {d : Nat} {h : pm_H} {x1 : Int32} {x2 : Int32} (hd : 7 ≤ d) (ax1 : 0 ≤ x1.toInt) (bx1 : x1.toInt ≤ 7) : ty_M X ty_Wy d 230 [.ref 97, .int x1, .int x2] h (ty_pi 0 29) := by
  intro J H hJ
  obtain ⟨d, rfl⟩ : ∃ e, d = e + 1 := ⟨d - 1, by omega⟩
  have I := H.1 h hJ
  have ax2 := nm_lo x2
  have bx2 := nm_hi x2
  refine hq_M.enter (q := (⟨"TrainBearersModel", "dipWithout", "(II)I"⟩, _, 3, some .int, 11, 3, pm_c230)) rfl rfl ?_
  show hq_W X d 11 false (some .int) pm_c230 (0, [some (.ref 97), some (.int x1), some (.int x2)], [], h) (fun h' v => J h' ∧ (ty_pi 0 29) h' v)
  refine hq_p rfl rfl ?_
  refine hq_p rfl rfl ?_
  refine hq_p rfl rfl ?_
  refine hq_p rfl rfl ?_
  refine ty_callp 0 I rfl (fun _ => rfl) rfl rfl rfl (hq_pre_o I.1 (x := 97) (ci := 11) rfl (by decide) rfl rfl rfl rfl) (ct_152 (x1 := x1) (by omega)) (fun _ P1 => ?_)
  obtain ⟨z2, rfl, az2, bz2⟩ := P1
  refine hq_p rfl rfl (ty_ge (n := 1) nk_i1 (fun z3 ez3 => ?_))
  refine hq_p rfl rfl ?_
  refine hq_p rfl rfl (ty_ga (fun z4 az4 bz4 => ?_))
  refine hq_p rfl rfl (ty_ge (n := -1) nk_im1 (fun z5 ez5 => ?_))
  refine hq_p rfl rfl (ty_ga (fun z6 az6 bz6 => ?_))
  refine hq_p rfl rfl (ty_ga (fun z7 az7 bz7 => ?_))
  refine ty_callj 0 (W := ty_Wy) H hJ rfl (fun _ => rfl) rfl rfl rfl (hq_pre_o I.1 (x := 97) (ci := 11) rfl (by decide) rfl rfl rfl rfl) (fun _ _ w => w) (fun _ w => w) (ct_207 (x1 := x1) (x2 := z7) (by omega) (by omega) (by omega)) (fun h9 _ Jh9 P8 => ?_)
  have Ih9 := H.1 h9 Jh9
  obtain ⟨z10, rfl, az10, bz10⟩ := P8
  exact hq_W.ret rfl rfl rfl ⟨Jh9, _, rfl, by omega, by omega⟩
theorem ct_231 {X : pm_X} {d : Nat} {h : pm_H}  (hd : 8 ≤ d)  : ty_M X ty_Wy d 231 [.ref 97] h (ty_pi (-2147483648) 2147483647) := by
  intro J H hJ
  obtain ⟨d, rfl⟩ : ∃ e, d = e + 1 := ⟨d - 1, by omega⟩
  have I := H.1 h hJ
  refine hq_M.enter (q := (⟨"TrainBearersModel", "whoLetGo", "()I"⟩, _, 5, some .int, 11, 1, pm_c231)) rfl rfl ?_
  show hq_W X d 11 false (some .int) pm_c231 (0, [some (.ref 97), none, none, none, none], [], h) (fun h' v => J h' ∧ (ty_pi (-2147483648) 2147483647) h' v)
  refine hq_p rfl rfl (ty_ge (n := 0) nk_i0 (fun z1 ez1 => ?_))
  refine hq_p (ls' := [some (.ref 97), some (.int z1), none, none, none]) rfl rfl ?_
  refine hq_p rfl rfl (ty_ge (n := 0) nk_i0 (fun z2 ez2 => ?_))
  refine hq_p (ls' := [some (.ref 97), some (.int z1), some (.int z2), none, none]) rfl rfl ?_
  have L4_n58 : ∀ n58 : Nat, ∀ (y48 : Int32) (y49 : Int32) (w50 : Option Value) (w51 : Option Value) (h52 : pm_H), (8 - y49.toInt).toNat = n58 → -2147483648 ≤ y48.toInt → y48.toInt ≤ 2147483647 → 0 ≤ y49.toInt → y49.toInt ≤ 8 → pm_two w50 = false → pm_two w51 = false → J h52 → hq_W X d 11 false (some .int) pm_c231 (4, [some (.ref 97), some (.int y48), some (.int y49), w50, w51], [], h52) (fun h' v => J h' ∧ (ty_pi (-2147483648) 2147483647) h' v) := by
    intro n58
    induction n58 using Nat.strongRecOn with
    | ind n58 ihn58 =>
      intro y48 y49 w50 w51 h52 mn58 ay48 by48 ay49 by49 kw50 kw51 Jh52
      have Ih52 := H.1 h52 Jh52
      refine hq_p rfl rfl ?_
      refine hq_p rfl rfl ?_
      refine hq_gR Ih52.1 rfl rfl (by decide) (by decide) rfl ?_
      refine hq_p rfl rfl (ty_ge (n := 1) nk_i1 (fun z59 ez59 => ?_))
      refine ty_aL Ih52 rfl rfl (by decide) (by omega) (by omega) (fun i e => ty_le (ty_w0 (by omega) (by omega))) (fun z60 ez60 az60 bz60 => ?_)
      rw [show z59.toInt.toNat = 1 by omega] at ez60
      refine ty_ige rfl (fun c61 => ?_) (fun c61 => ?_)
      · refine hq_p rfl rfl ?_
        exact hq_W.ret rfl rfl rfl ⟨Jh52, _, rfl, by omega, by omega⟩
      · refine hq_p rfl rfl ?_
        refine hq_gR Ih52.1 rfl rfl (by decide) (by decide) rfl ?_
        refine hq_p rfl rfl (ty_ge (n := 26) nk_b26 (fun z62 ez62 => ?_))
        refine hq_p rfl rfl ?_
        refine hq_p rfl rfl (ty_ge (n := z62.toInt + y49.toInt) (nm_add (by omega) (by omega)) (fun z63 ez63 => ?_))
        refine ty_aL Ih52 rfl rfl (by decide) (by omega) (by omega) (fun i e => ty_le (ty_w26 (by omega) (by omega))) (fun z64 ez64 az64 bz64 => ?_)
        refine hq_p rfl rfl (ty_ge (n := -1) nk_im1 (fun z65 ez65 => ?_))
        refine ty_ieq rfl (fun c66 => ?_) (fun c66 => ?_)
        · refine hq_p rfl rfl (ty_ge (n := 0) nk_i0 (fun z67 ez67 => ?_))
          refine hq_p (ls' := [some (.ref 97), some (.int y48), some (.int y49), some (.int z67), w51]) rfl rfl ?_
          refine hq_p rfl rfl (ty_ge (n := 0) nk_i0 (fun z68 ez68 => ?_))
          refine hq_p (ls' := [some (.ref 97), some (.int y48), some (.int y49), some (.int z67), some (.int z68)]) rfl rfl ?_
          refine hq_p rfl rfl ?_
          refine hq_p rfl rfl ?_
          refine hq_gR Ih52.1 rfl rfl (by decide) (by decide) rfl ?_
          refine hq_p rfl rfl (ty_ge (n := 2) nk_i2 (fun z72 ez72 => ?_))
          refine ty_aL Ih52 rfl rfl (by decide) (by omega) (by omega) (fun i e => ty_le (ty_w2 (by omega) (by omega))) (fun z73 ez73 az73 bz73 => ?_)
          rw [show z72.toInt.toNat = 2 by omega] at ez73
          refine ty_ige rfl (fun c74 => ?_) (fun c74 => ?_)
          · refine hq_p rfl rfl ?_
            refine hq_p rfl rfl ?_
            refine ty_zeq rfl (fun c75 => ?_) (fun c75 => ?_)
            · refine hq_p rfl rfl (ty_ge (n := 0) nk_i0 (fun z76 ez76 => ?_))
              refine hq_p rfl rfl (ty_ga (fun z77 az77 bz77 => ?_))
              refine hq_p (ls' := [some (.ref 97), some (.int z77), some (.int y49), some (.int z67), some (.int z68)]) rfl rfl ?_
              refine ty_inc (ls' := fun z78 => [some (.ref 97), some (.int z77), some (.int z78), some (.int z67), some (.int z68)]) rfl rfl (fun _ => rfl) (nm_addc nk_i1 (by omega) (by omega)) (fun z78 ez78 => ?_)
              refine hq_p rfl rfl ?_
              exact ihn58 ((8 - z78.toInt).toNat) (by omega) z77 z78 (some (.int z67)) (some (.int z68)) h52 rfl (by omega) (by omega) (by omega) (by omega) rfl rfl Jh52
            · exfalso; omega
          · refine hq_p rfl rfl ?_
            refine ty_zeq rfl (fun c79 => ?_) (fun c79 => ?_)
            · refine hq_p rfl rfl ?_
              refine hq_p rfl rfl ?_
              refine ty_zeq rfl (fun c80 => ?_) (fun c80 => ?_)
              · refine hq_p rfl rfl (ty_ge (n := 0) nk_i0 (fun z81 ez81 => ?_))
                refine hq_p rfl rfl (ty_ga (fun z82 az82 bz82 => ?_))
                refine hq_p (ls' := [some (.ref 97), some (.int z82), some (.int y49), some (.int z67), some (.int z68)]) rfl rfl ?_
                refine ty_inc (ls' := fun z83 => [some (.ref 97), some (.int z82), some (.int z83), some (.int z67), some (.int z68)]) rfl rfl (fun _ => rfl) (nm_addc nk_i1 (by omega) (by omega)) (fun z83 ez83 => ?_)
                refine hq_p rfl rfl ?_
                exact ihn58 ((8 - z83.toInt).toNat) (by omega) z82 z83 (some (.int z67)) (some (.int z68)) h52 rfl (by omega) (by omega) (by omega) (by omega) rfl rfl Jh52
              · exfalso; omega
            · exfalso; omega
        · replace c66 : 0 ≤ z64.toInt ∧ z64.toInt ≤ 7 := by omega
          refine hq_p rfl rfl (ty_ge (n := 1) nk_i1 (fun z84 ez84 => ?_))
          refine hq_p rfl rfl ?_
          refine hq_p (ls' := [some (.ref 97), some (.int y48), some (.int y49), some (.int z84), w51]) rfl rfl ?_
          refine hq_p rfl rfl (ty_ge (n := 0) nk_i0 (fun z85 ez85 => ?_))
          refine hq_p (ls' := [some (.ref 97), some (.int y48), some (.int y49), some (.int z84), some (.int z85)]) rfl rfl ?_
          have L36_n113 : ∀ n113 : Nat, ∀ (y107 : Int32) (y108 : Int32) (h109 : pm_H), (6 - y108.toInt).toNat = n113 → 0 ≤ y107.toInt → y107.toInt ≤ 1 → 0 ≤ y108.toInt → y108.toInt ≤ 6 → J h109 → hq_W X d 11 false (some .int) pm_c231 (36, [some (.ref 97), some (.int y48), some (.int y49), some (.int y107), some (.int y108)], [], h109) (fun h' v => J h' ∧ (ty_pi (-2147483648) 2147483647) h' v) := by
            intro n113
            induction n113 using Nat.strongRecOn with
            | ind n113 ihn113 =>
              intro y107 y108 h109 mn113 ay107 by107 ay108 by108 Jh109
              have Ih109 := H.1 h109 Jh109
              refine hq_p rfl rfl ?_
              refine hq_p rfl rfl ?_
              refine hq_gR Ih109.1 rfl rfl (by decide) (by decide) rfl ?_
              refine hq_p rfl rfl (ty_ge (n := 2) nk_i2 (fun z114 ez114 => ?_))
              refine ty_aL Ih109 rfl rfl (by decide) (by omega) (by omega) (fun i e => ty_le (ty_w2 (by omega) (by omega))) (fun z115 ez115 az115 bz115 => ?_)
              rw [show z114.toInt.toNat = 2 by omega] at ez115
              refine ty_ige rfl (fun c116 => ?_) (fun c116 => ?_)
              · refine hq_p rfl rfl ?_
                refine hq_p rfl rfl ?_
                refine ty_zeq rfl (fun c117 => ?_) (fun c117 => ?_)
                · refine hq_p rfl rfl (ty_ge (n := 0) nk_i0 (fun z118 ez118 => ?_))
                  refine hq_p rfl rfl (ty_ga (fun z119 az119 bz119 => ?_))
                  refine hq_p (ls' := [some (.ref 97), some (.int z119), some (.int y49), some (.int y107), some (.int y108)]) rfl rfl ?_
                  refine ty_inc (ls' := fun z120 => [some (.ref 97), some (.int z119), some (.int z120), some (.int y107), some (.int y108)]) rfl rfl (fun _ => rfl) (nm_addc nk_i1 (by omega) (by omega)) (fun z120 ez120 => ?_)
                  refine hq_p rfl rfl ?_
                  exact ihn58 ((8 - z120.toInt).toNat) (by omega) z119 z120 (some (.int y107)) (some (.int y108)) h109 rfl (by omega) (by omega) (by omega) (by omega) rfl rfl Jh109
                · replace c117 : 1 ≤ y107.toInt ∧ y107.toInt ≤ 1 := by omega
                  refine hq_p rfl rfl (ty_ge (n := 1) nk_i1 (fun z121 ez121 => ?_))
                  refine hq_p rfl rfl ?_
                  refine hq_p rfl rfl (ty_gb (c := z121 <<< (y49 &&& 31)) (lo := 1) (hi := 256) (by have q := nm_shl1 (x := z121) (y := y49) (by omega) (by omega) (by omega); omega) (fun z122 az122 bz122 => ?_))
                  refine hq_p rfl rfl ?_
                  refine hq_p rfl rfl (ty_ga (fun z123 az123 bz123 => ?_))
                  refine hq_p (ls' := [some (.ref 97), some (.int z123), some (.int y49), some (.int y107), some (.int y108)]) rfl rfl ?_
                  refine ty_inc (ls' := fun z124 => [some (.ref 97), some (.int z123), some (.int z124), some (.int y107), some (.int y108)]) rfl rfl (fun _ => rfl) (nm_addc nk_i1 (by omega) (by omega)) (fun z124 ez124 => ?_)
                  refine hq_p rfl rfl ?_
                  exact ihn58 ((8 - z124.toInt).toNat) (by omega) z123 z124 (some (.int y107)) (some (.int y108)) h109 rfl (by omega) (by omega) (by omega) (by omega) rfl rfl Jh109
              · refine hq_p rfl rfl ?_
                refine ty_zeq rfl (fun c125 => ?_) (fun c125 => ?_)
                · refine hq_p rfl rfl ?_
                  refine hq_p rfl rfl ?_
                  refine ty_zeq rfl (fun c126 => ?_) (fun c126 => ?_)
                  · refine hq_p rfl rfl (ty_ge (n := 0) nk_i0 (fun z127 ez127 => ?_))
                    refine hq_p rfl rfl (ty_ga (fun z128 az128 bz128 => ?_))
                    refine hq_p (ls' := [some (.ref 97), some (.int z128), some (.int y49), some (.int y107), some (.int y108)]) rfl rfl ?_
                    refine ty_inc (ls' := fun z129 => [some (.ref 97), some (.int z128), some (.int z129), some (.int y107), some (.int y108)]) rfl rfl (fun _ => rfl) (nm_addc nk_i1 (by omega) (by omega)) (fun z129 ez129 => ?_)
                    refine hq_p rfl rfl ?_
                    exact ihn58 ((8 - z129.toInt).toNat) (by omega) z128 z129 (some (.int y107)) (some (.int y108)) h109 rfl (by omega) (by omega) (by omega) (by omega) rfl rfl Jh109
                  · exfalso; omega
                · replace c125 : 1 ≤ y107.toInt ∧ y107.toInt ≤ 1 := by omega
                  refine hq_p rfl rfl ?_
                  refine hq_p rfl rfl ?_
                  refine hq_gR Ih109.1 rfl rfl (by decide) (by decide) rfl ?_
                  refine hq_p rfl rfl (ty_ge (n := 86) nk_b86 (fun z130 ez130 => ?_))
                  refine hq_p rfl rfl (ty_ge (n := 2) nk_i2 (fun z131 ez131 => ?_))
                  refine hq_p rfl rfl ?_
                  refine hq_p rfl rfl (ty_ge (n := 2 * y108.toInt) (nm_cmul ez131 (by omega) (by omega)) (fun z132 ez132 => ?_))
                  refine hq_p rfl rfl (ty_ge (n := z130.toInt + z132.toInt) (nm_add (by omega) (by omega)) (fun z133 ez133 => ?_))
                  refine ty_aL Ih109 rfl rfl (by decide) (by omega) (by omega) (fun i e => ty_le (ty_w86 (by omega) (by omega) (by omega))) (fun z134 ez134 az134 bz134 => ?_)
                  refine hq_p rfl rfl ?_
                  refine ty_callj 0 (W := ty_Wy) H Jh109 rfl (fun _ => rfl) rfl rfl rfl (hq_pre_o Ih109.1 (x := 97) (ci := 11) rfl (by decide) rfl rfl rfl rfl) (fun _ _ w => w) (fun _ w => w) (ct_230 (x1 := z134) (x2 := y49) (by omega) (by omega) (by omega)) (fun h136 _ Jh136 P135 => ?_)
                  have Ih136 := H.1 h136 Jh136
                  obtain ⟨z137, rfl, az137, bz137⟩ := P135
                  refine hq_p rfl rfl ?_
                  refine hq_gR Ih136.1 rfl rfl (by decide) (by decide) rfl ?_
                  refine hq_p rfl rfl (ty_ge (n := 86) nk_b86 (fun z138 ez138 => ?_))
                  refine hq_p rfl rfl (ty_ge (n := 2) nk_i2 (fun z139 ez139 => ?_))
                  refine hq_p rfl rfl ?_
                  refine hq_p rfl rfl (ty_ge (n := 2 * y108.toInt) (nm_cmul ez139 (by omega) (by omega)) (fun z140 ez140 => ?_))
                  refine hq_p rfl rfl (ty_ge (n := z138.toInt + z140.toInt) (nm_add (by omega) (by omega)) (fun z141 ez141 => ?_))
                  refine hq_p rfl rfl (ty_ge (n := 1) nk_i1 (fun z142 ez142 => ?_))
                  refine hq_p rfl rfl (ty_ge (n := z141.toInt + z142.toInt) (nm_add (by omega) (by omega)) (fun z143 ez143 => ?_))
                  refine ty_aL Ih136 rfl rfl (by decide) (by omega) (by omega) (fun i e => ty_le (ty_w87 (by omega) (by omega) (by omega))) (fun z144 ez144 az144 bz144 => ?_)
                  refine ty_ine rfl (fun c145 => ?_) (fun c145 => ?_)
                  · clear c145
                    refine hq_p rfl rfl (ty_ge (n := 0) nk_i0 (fun z146 ez146 => ?_))
                    refine hq_p (ls' := [some (.ref 97), some (.int y48), some (.int y49), some (.int z146), some (.int y108)]) rfl rfl ?_
                    refine ty_inc (ls' := fun z147 => [some (.ref 97), some (.int y48), some (.int y49), some (.int z146), some (.int z147)]) rfl rfl (fun _ => rfl) (nm_addc nk_i1 (by omega) (by omega)) (fun z147 ez147 => ?_)
                    refine hq_p rfl rfl ?_
                    exact ihn113 ((6 - z147.toInt).toNat) (by omega) z146 z147 h136 rfl (by omega) (by omega) (by omega) (by omega) Jh136
                  · refine hq_p rfl rfl (ty_ge (n := 1) nk_i1 (fun z148 ez148 => ?_))
                    refine hq_p rfl rfl ?_
                    refine hq_p (ls' := [some (.ref 97), some (.int y48), some (.int y49), some (.int z148), some (.int y108)]) rfl rfl ?_
                    refine ty_inc (ls' := fun z149 => [some (.ref 97), some (.int y48), some (.int y49), some (.int z148), some (.int z149)]) rfl rfl (fun _ => rfl) (nm_addc nk_i1 (by omega) (by omega)) (fun z149 ez149 => ?_)
                    refine hq_p rfl rfl ?_
                    exact ihn113 ((6 - z149.toInt).toNat) (by omega) z148 z149 h136 rfl (by omega) (by omega) (by omega) (by omega) Jh136
          exact L36_n113 _ z84 z85 h52 rfl (by omega) (by omega) (by omega) (by omega) Jh52
  exact L4_n58 _ z1 z2 none none h rfl (by omega) (by omega) (by omega) (by omega) rfl rfl hJ
theorem ct_232 {X : pm_X} {d : Nat} {h : pm_H}  (hd : 9 ≤ d)  : ty_M X ty_Wx d 232 [.ref 97] h (ty_pi (-2147483648) 2147483647) := by
  intro J H hJ
  obtain ⟨d, rfl⟩ : ∃ e, d = e + 1 := ⟨d - 1, by omega⟩
  have I := H.1 h hJ
  refine hq_M.enter (q := (⟨"TrainBearersModel", "letGo", "()I"⟩, _, 1, some .int, 11, 1, pm_c232)) rfl rfl ?_
  show hq_W X d 11 false (some .int) pm_c232 (0, [some (.ref 97)], [], h) (fun h' v => J h' ∧ (ty_pi (-2147483648) 2147483647) h' v)
  refine hq_p rfl rfl ?_
  refine hq_p rfl rfl (ty_ge (n := 0) nk_i0 (fun z1 ez1 => ?_))
  refine ty_pI (W := ty_Wx) H hJ rfl rfl (by decide) rfl rfl (by unfold ty_Wx; omega) rfl (by omega) (by omega) (fun h2 eh2 Jh2 => ?_)
  have wh2 : (hs_fI h2 97 0).toInt = z1.toInt := by rw [eh2]; exact congrArg Int32.toInt (ty_fI_eq I.1 rfl (by decide) rfl)
  have Ih2 := H.1 h2 Jh2
  refine hq_p rfl rfl ?_
  refine ty_callj 0 (W := ty_Wx) H Jh2 rfl (fun _ => rfl) rfl rfl rfl (hq_pre_o Ih2.1 (x := 97) (ci := 11) rfl (by decide) rfl rfl rfl rfl) (fun a k w => by unfold ty_Wy at w; unfold ty_Wx; omega) (by unfold ty_Wy ty_Wx; omega) (ct_231 (by omega)) (fun h4 _ Jh4 P3 => ?_)
  have Ih4 := H.1 h4 Jh4
  obtain ⟨z5, rfl, az5, bz5⟩ := P3
  exact hq_W.ret rfl rfl rfl ⟨Jh4, _, rfl, by omega, by omega⟩
theorem ct_233 {X : pm_X} {d : Nat} {h : pm_H} {x1 : Int32} (hd : 9 ≤ d)  : ty_M X ty_Wx d 233 [.ref 97, .int x1] h (ty_pi (-2147483648) 100000000) := by
  intro J H hJ
  obtain ⟨d, rfl⟩ : ∃ e, d = e + 1 := ⟨d - 1, by omega⟩
  have I := H.1 h hJ
  have ax1 := nm_lo x1
  have bx1 := nm_hi x1
  refine hq_M.enter (q := (⟨"TrainBearersModel", "look", "(I)I"⟩, _, 9, some .int, 11, 2, pm_c233)) rfl rfl ?_
  show hq_W X d 11 false (some .int) pm_c233 (0, [some (.ref 97), some (.int x1), none, none, none, none, none, none, none], [], h) (fun h' v => J h' ∧ (ty_pi (-2147483648) 100000000) h' v)
  refine hq_p rfl rfl ?_
  refine hq_p rfl rfl (ty_ge (n := 0) nk_i0 (fun z1 ez1 => ?_))
  refine ty_pI (W := ty_Wx) H hJ rfl rfl (by decide) rfl rfl (by unfold ty_Wx; omega) rfl (by omega) (by omega) (fun h2 eh2 Jh2 => ?_)
  have wh2 : (hs_fI h2 97 0).toInt = z1.toInt := by rw [eh2]; exact congrArg Int32.toInt (ty_fI_eq I.1 rfl (by decide) rfl)
  have Ih2 := H.1 h2 Jh2
  refine hq_p rfl rfl ?_
  refine ty_callj 0 (W := ty_Wx) H Jh2 rfl (fun _ => rfl) rfl rfl rfl (hq_pre_o Ih2.1 (x := 97) (ci := 11) rfl (by decide) rfl rfl rfl rfl) (fun a k w => by unfold ty_Wy at w; unfold ty_Wx; omega) (by unfold ty_Wy ty_Wx; omega) (ct_231 (by omega)) (fun h4 _ Jh4 P3 => ?_)
  have Ih4 := H.1 h4 Jh4
  obtain ⟨z5, rfl, az5, bz5⟩ := P3
  refine hq_p (ls' := [some (.ref 97), some (.int x1), some (.int z5), none, none, none, none, none, none]) rfl rfl ?_
  refine hq_p rfl rfl ?_
  refine hq_p rfl rfl (ty_gle (n := x1.toInt) (nm_i2l _) (fun z6 ez6 => ?_))
  refine hq_p rfl rfl (ty_gle (n := 0) (by decide) (fun z7 ez7 => ?_))
  refine hq_p rfl rfl (ty_gle (n := 1) (by decide) (fun z8 ez8 => ?_))
  refine ty_callp 1 Ih4 rfl (fun _ => rfl) rfl rfl rfl rfl (ct_136 (x0 := z6) (x1 := z7) (x2 := z8) (by omega)) (fun _ P9 => ?_)
  obtain ⟨z10, rfl, az10, bz10, iz10⟩ := P9
  refine ty_zeq rfl (fun c11 => ?_) (fun c11 => ?_)
  · clear iz10
    refine hq_p rfl rfl (ty_ge (n := -1) nk_im1 (fun z12 ez12 => ?_))
    exact hq_W.ret rfl rfl rfl ⟨Jh4, _, rfl, by omega, by omega⟩
  · replace c11 : 1 ≤ z10.toInt ∧ z10.toInt ≤ 1 := by omega
    have f13 := iz10 (by omega)
    clear iz10
    refine hq_p rfl rfl ?_
    refine ty_zne rfl (fun c14 => ?_) (fun c14 => ?_)
    · clear c14
      refine hq_p rfl rfl (ty_ge (n := 100000000) nk_d100000000 (fun z15 ez15 => ?_))
      refine hq_p (ls' := [some (.ref 97), some (.int x1), some (.int z5), some (.int z15), none, none, none, none, none]) rfl rfl ?_
      refine hq_p rfl rfl (ty_ge (n := -1) nk_im1 (fun z16 ez16 => ?_))
      refine hq_p (ls' := [some (.ref 97), some (.int x1), some (.int z5), some (.int z15), some (.int z16), none, none, none, none]) rfl rfl ?_
      refine hq_p rfl rfl (ty_ge (n := 0) nk_i0 (fun z17 ez17 => ?_))
      refine hq_p (ls' := [some (.ref 97), some (.int x1), some (.int z5), some (.int z15), some (.int z16), some (.int z17), none, none, none]) rfl rfl ?_
      have L35_n95 : ∀ n95 : Nat, ∀ (y81 : Int32) (y82 : Int32) (y83 : Int32) (w84 : Option Value) (w85 : Option Value) (w86 : Option Value) (h87 : pm_H), (8 - y83.toInt).toNat = n95 → -2147483648 ≤ y81.toInt → y81.toInt ≤ 100000000 → -1 ≤ y82.toInt → y82.toInt ≤ 7 → 0 ≤ y83.toInt → y83.toInt ≤ 8 → pm_two w84 = false → pm_two w85 = false → pm_two w86 = false → J h87 → hq_W X d 11 false (some .int) pm_c233 (35, [some (.ref 97), some (.int x1), some (.int z5), some (.int y81), some (.int y82), some (.int y83), w84, w85, w86], [], h87) (fun h' v => J h' ∧ (ty_pi (-2147483648) 100000000) h' v) := by
        intro n95
        induction n95 using Nat.strongRecOn with
        | ind n95 ihn95 =>
          intro y81 y82 y83 w84 w85 w86 h87 mn95 ay81 by81 ay82 by82 ay83 by83 kw84 kw85 kw86 Jh87
          have Ih87 := H.1 h87 Jh87
          refine hq_p rfl rfl ?_
          refine hq_p rfl rfl ?_
          refine hq_gR Ih87.1 rfl rfl (by decide) (by decide) rfl ?_
          refine hq_p rfl rfl (ty_ge (n := 0) nk_i0 (fun z96 ez96 => ?_))
          refine ty_aL Ih87 rfl rfl (by decide) (by omega) (by omega) (fun i e => ty_le (ty_w0 (by omega) (by omega))) (fun z97 ez97 az97 bz97 => ?_)
          rw [show z96.toInt.toNat = 0 by omega] at ez97
          refine ty_ige rfl (fun c98 => ?_) (fun c98 => ?_)
          · refine hq_p rfl rfl ?_
            refine ty_zne rfl (fun c99 => ?_) (fun c99 => ?_)
            · replace c99 : 1 ≤ x1.toInt ∧ x1.toInt ≤ 1 := by omega
              refine hq_p rfl rfl ?_
              exact hq_W.ret rfl rfl rfl ⟨Jh87, _, rfl, by omega, by omega⟩
            · refine hq_p rfl rfl ?_
              refine hq_p rfl rfl ?_
              exact hq_W.ret rfl rfl rfl ⟨Jh87, _, rfl, by omega, by omega⟩
          · refine hq_p rfl rfl (ty_ge (n := 0) nk_i0 (fun z100 ez100 => ?_))
            refine hq_p (ls' := [some (.ref 97), some (.int x1), some (.int z5), some (.int y81), some (.int y82), some (.int y83), some (.int z100), w85, w86]) rfl rfl ?_
            have L49_n153 : ∀ n153 : Nat, ∀ (y149 : Int32) (h150 : pm_H), (41 - y149.toInt).toNat = n153 → 0 ≤ y149.toInt → y149.toInt ≤ 41 → J h150 → hq_W X d 11 false (some .int) pm_c233 (49, [some (.ref 97), some (.int x1), some (.int z5), some (.int y81), some (.int y82), some (.int y83), some (.int y149), w85, w86], [], h150) (fun h' v => J h' ∧ (ty_pi (-2147483648) 100000000) h' v) := by
              intro n153
              induction n153 using Nat.strongRecOn with
              | ind n153 ihn153 =>
                intro y149 h150 mn153 ay149 by149 Jh150
                have Ih150 := H.1 h150 Jh150
                refine hq_p rfl rfl ?_
                refine hq_p rfl rfl (ty_ge (n := 41) nk_b41 (fun z154 ez154 => ?_))
                refine ty_ige rfl (fun c155 => ?_) (fun c155 => ?_)
                · refine hq_p rfl rfl (ty_ge (n := 0) nk_i0 (fun z156 ez156 => ?_))
                  refine hq_p (ls' := [some (.ref 97), some (.int x1), some (.int z5), some (.int y81), some (.int y82), some (.int y83), some (.int z156), w85, w86]) rfl rfl ?_
                  refine hq_p rfl rfl (ty_ge (n := 0) nk_i0 (fun z157 ez157 => ?_))
                  refine hq_p (ls' := [some (.ref 97), some (.int x1), some (.int z5), some (.int y81), some (.int y82), some (.int y83), some (.int z156), some (.int z157), w86]) rfl rfl ?_
                  have L76_n202 : ∀ n202 : Nat, ∀ (y194 : Int32) (y195 : Int32) (w196 : Option Value) (h197 : pm_H), (8 - y195.toInt).toNat = n202 → -2147483648 ≤ y194.toInt → y194.toInt ≤ 2147483647 → 0 ≤ y195.toInt → y195.toInt ≤ 8 → pm_two w196 = false → J h197 → hq_W X d 11 false (some .int) pm_c233 (76, [some (.ref 97), some (.int x1), some (.int z5), some (.int y81), some (.int y82), some (.int y83), some (.int y194), some (.int y195), w196], [], h197) (fun h' v => J h' ∧ (ty_pi (-2147483648) 100000000) h' v) := by
                    intro n202
                    induction n202 using Nat.strongRecOn with
                    | ind n202 ihn202 =>
                      intro y194 y195 w196 h197 mn202 ay194 by194 ay195 by195 kw196 Jh197
                      have Ih197 := H.1 h197 Jh197
                      refine hq_p rfl rfl ?_
                      refine hq_p rfl rfl ?_
                      refine hq_gR Ih197.1 rfl rfl (by decide) (by decide) rfl ?_
                      refine hq_p rfl rfl (ty_ge (n := 1) nk_i1 (fun z203 ez203 => ?_))
                      refine ty_aL Ih197 rfl rfl (by decide) (by omega) (by omega) (fun i e => ty_le (ty_w0 (by omega) (by omega))) (fun z204 ez204 az204 bz204 => ?_)
                      rw [show z203.toInt.toNat = 1 by omega] at ez204
                      refine ty_ige rfl (fun c205 => ?_) (fun c205 => ?_)
                      · refine hq_p rfl rfl ?_
                        refine hq_p rfl rfl ?_
                        refine ty_ige rfl (fun c206 => ?_) (fun c206 => ?_)
                        · refine hq_p rfl rfl ?_
                          refine hq_p (ls' := [some (.ref 97), some (.int x1), some (.int z5), some (.int y81), some (.int y82), some (.int y83), some (.int y194), some (.int y195), w196]) rfl rfl ?_
                          refine hq_p rfl rfl ?_
                          refine hq_p rfl rfl ?_
                          refine ty_ige rfl (fun c207 => ?_) (fun c207 => ?_)
                          · refine hq_p rfl rfl ?_
                            refine hq_p (ls' := [some (.ref 97), some (.int x1), some (.int z5), some (.int y81), some (.int y82), some (.int y83), some (.int y194), some (.int y195), w196]) rfl rfl ?_
                            refine ty_inc (ls' := fun z208 => [some (.ref 97), some (.int x1), some (.int z5), some (.int y81), some (.int y82), some (.int z208), some (.int y194), some (.int y195), w196]) rfl rfl (fun _ => rfl) (nm_addc nk_i1 (by omega) (by omega)) (fun z208 ez208 => ?_)
                            refine hq_p rfl rfl ?_
                            exact ihn95 ((8 - z208.toInt).toNat) (by omega) y81 y82 z208 (some (.int y194)) (some (.int y195)) (w196) h197 rfl (by omega) (by omega) (by omega) (by omega) (by omega) (by omega) rfl rfl kw196 Jh197
                          · refine hq_p rfl rfl ?_
                            refine hq_p rfl rfl ?_
                            refine hq_p (ls' := [some (.ref 97), some (.int x1), some (.int z5), some (.int y194), some (.int y82), some (.int y83), some (.int y194), some (.int y195), w196]) rfl rfl ?_
                            refine ty_inc (ls' := fun z209 => [some (.ref 97), some (.int x1), some (.int z5), some (.int y194), some (.int y82), some (.int z209), some (.int y194), some (.int y195), w196]) rfl rfl (fun _ => rfl) (nm_addc nk_i1 (by omega) (by omega)) (fun z209 ez209 => ?_)
                            refine hq_p rfl rfl ?_
                            exact ihn95 ((8 - z209.toInt).toNat) (by omega) y194 y82 z209 (some (.int y194)) (some (.int y195)) (w196) h197 rfl (by omega) (by omega) (by omega) (by omega) (by omega) (by omega) rfl rfl kw196 Jh197
                        · refine hq_p rfl rfl ?_
                          refine hq_p rfl rfl ?_
                          refine hq_p (ls' := [some (.ref 97), some (.int x1), some (.int z5), some (.int y81), some (.int y83), some (.int y83), some (.int y194), some (.int y195), w196]) rfl rfl ?_
                          refine hq_p rfl rfl ?_
                          refine hq_p rfl rfl ?_
                          refine ty_ige rfl (fun c210 => ?_) (fun c210 => ?_)
                          · refine hq_p rfl rfl ?_
                            refine hq_p (ls' := [some (.ref 97), some (.int x1), some (.int z5), some (.int y81), some (.int y83), some (.int y83), some (.int y194), some (.int y195), w196]) rfl rfl ?_
                            refine ty_inc (ls' := fun z211 => [some (.ref 97), some (.int x1), some (.int z5), some (.int y81), some (.int y83), some (.int z211), some (.int y194), some (.int y195), w196]) rfl rfl (fun _ => rfl) (nm_addc nk_i1 (by omega) (by omega)) (fun z211 ez211 => ?_)
                            refine hq_p rfl rfl ?_
                            exact ihn95 ((8 - z211.toInt).toNat) (by omega) y81 y83 z211 (some (.int y194)) (some (.int y195)) (w196) h197 rfl (by omega) (by omega) (by omega) (by omega) (by omega) (by omega) rfl rfl kw196 Jh197
                          · refine hq_p rfl rfl ?_
                            refine hq_p rfl rfl ?_
                            refine hq_p (ls' := [some (.ref 97), some (.int x1), some (.int z5), some (.int y194), some (.int y83), some (.int y83), some (.int y194), some (.int y195), w196]) rfl rfl ?_
                            refine ty_inc (ls' := fun z212 => [some (.ref 97), some (.int x1), some (.int z5), some (.int y194), some (.int y83), some (.int z212), some (.int y194), some (.int y195), w196]) rfl rfl (fun _ => rfl) (nm_addc nk_i1 (by omega) (by omega)) (fun z212 ez212 => ?_)
                            refine hq_p rfl rfl ?_
                            exact ihn95 ((8 - z212.toInt).toNat) (by omega) y194 y83 z212 (some (.int y194)) (some (.int y195)) (w196) h197 rfl (by omega) (by omega) (by omega) (by omega) (by omega) (by omega) rfl rfl kw196 Jh197
                      · refine hq_p rfl rfl ?_
                        refine hq_p rfl rfl ?_
                        refine ty_callp 1 Ih197 rfl (fun _ => rfl) rfl rfl rfl rfl (ct_137 (x0 := z5) (x1 := y195) (by omega)) (fun _ P213 => ?_)
                        obtain ⟨z214, rfl, az214, bz214⟩ := P213
                        refine ty_zeq rfl (fun c215 => ?_) (fun c215 => ?_)
                        · refine ty_inc (ls' := fun z216 => [some (.ref 97), some (.int x1), some (.int z5), some (.int y81), some (.int y82), some (.int y83), some (.int y194), some (.int z216), w196]) rfl rfl (fun _ => rfl) (nm_addc nk_i1 (by omega) (by omega)) (fun z216 ez216 => ?_)
                          refine hq_p rfl rfl ?_
                          exact ihn202 ((8 - z216.toInt).toNat) (by omega) y194 z216 (w196) h197 rfl (by omega) (by omega) (by omega) (by omega) kw196 Jh197
                        · replace c215 : 1 ≤ z214.toInt ∧ z214.toInt ≤ 1 := by omega
                          refine hq_p rfl rfl ?_
                          refine hq_p rfl rfl ?_
                          refine hq_p rfl rfl ?_
                          refine ty_callj 0 (W := ty_Wx) H Jh197 rfl (fun _ => rfl) rfl rfl rfl (hq_pre_o Ih197.1 (x := 97) (ci := 11) rfl (by decide) rfl rfl rfl rfl) (fun a k w => by unfold ty_Wy at w; unfold ty_Wx; omega) (by unfold ty_Wy ty_Wx; omega) (ct_230 (x1 := y83) (x2 := y195) (by omega) (by omega) (by omega)) (fun h218 _ Jh218 P217 => ?_)
                          have Ih218 := H.1 h218 Jh218
                          obtain ⟨z219, rfl, az219, bz219⟩ := P217
                          refine hq_p (ls' := [some (.ref 97), some (.int x1), some (.int z5), some (.int y81), some (.int y82), some (.int y83), some (.int y194), some (.int y195), some (.int z219)]) rfl rfl ?_
                          refine hq_p rfl rfl ?_
                          refine hq_gR Ih218.1 rfl rfl (by decide) (by decide) rfl ?_
                          refine hq_p rfl rfl ?_
                          refine hq_p rfl rfl ?_
                          refine ty_aL Ih218 rfl rfl (by decide) (by omega) (by omega) (fun _ _ => ty_le rfl) (fun z220 ez220 az220 bz220 => ?_)
                          refine hq_p rfl rfl (ty_ge (n := 1) nk_i1 (fun z221 ez221 => ?_))
                          refine hq_p rfl rfl (ty_ga (fun z222 az222 bz222 => ?_))
                          refine ty_aS (W := ty_Wx) H Jh218 rfl rfl (by decide) (by omega) (by omega) (fun i e => by unfold ty_Wx; omega) (fun _ _ => ty_eg rfl) (by omega) (by omega) (fun e1 e2 w => by omega) (fun h223 eh223 Jh223 => ?_)
                          have Ih223 := H.1 h223 Jh223
                          refine hq_p rfl rfl ?_
                          refine hq_gR Ih223.1 rfl rfl (by decide) (by decide) rfl ?_
                          refine hq_p rfl rfl ?_
                          refine ty_aL Ih223 rfl rfl (by decide) (by omega) (by omega) (fun _ _ => ty_le rfl) (fun z224 ez224 az224 bz224 => ?_)
                          refine hq_p rfl rfl ?_
                          refine ty_ile rfl (fun c225 => ?_) (fun c225 => ?_)
                          · refine hq_p rfl rfl ?_
                            refine hq_p (ls' := [some (.ref 97), some (.int x1), some (.int z5), some (.int y81), some (.int y82), some (.int y83), some (.int y194), some (.int y195), some (.int z219)]) rfl rfl ?_
                            refine ty_inc (ls' := fun z226 => [some (.ref 97), some (.int x1), some (.int z5), some (.int y81), some (.int y82), some (.int y83), some (.int y194), some (.int z226), some (.int z219)]) rfl rfl (fun _ => rfl) (nm_addc nk_i1 (by omega) (by omega)) (fun z226 ez226 => ?_)
                            refine hq_p rfl rfl ?_
                            exact ihn202 ((8 - z226.toInt).toNat) (by omega) y194 z226 (some (.int z219)) h223 rfl (by omega) (by omega) (by omega) (by omega) rfl Jh223
                          · refine hq_p rfl rfl ?_
                            refine hq_gR Ih223.1 rfl rfl (by decide) (by decide) rfl ?_
                            refine hq_p rfl rfl ?_
                            refine ty_aL Ih223 rfl rfl (by decide) (by omega) (by omega) (fun _ _ => ty_le rfl) (fun z227 ez227 az227 bz227 => ?_)
                            refine hq_p rfl rfl ?_
                            refine hq_p (ls' := [some (.ref 97), some (.int x1), some (.int z5), some (.int y81), some (.int y82), some (.int y83), some (.int z227), some (.int y195), some (.int z219)]) rfl rfl ?_
                            refine ty_inc (ls' := fun z228 => [some (.ref 97), some (.int x1), some (.int z5), some (.int y81), some (.int y82), some (.int y83), some (.int z227), some (.int z228), some (.int z219)]) rfl rfl (fun _ => rfl) (nm_addc nk_i1 (by omega) (by omega)) (fun z228 ez228 => ?_)
                            refine hq_p rfl rfl ?_
                            exact ihn202 ((8 - z228.toInt).toNat) (by omega) z227 z228 (some (.int z219)) h223 rfl (by omega) (by omega) (by omega) (by omega) rfl Jh223
                  exact L76_n202 _ z156 z157 (w86) h150 rfl (by omega) (by omega) (by omega) (by omega) kw86 Jh150
                · refine hq_p rfl rfl ?_
                  refine hq_gR Ih150.1 rfl rfl (by decide) (by decide) rfl ?_
                  refine hq_p rfl rfl ?_
                  refine hq_p rfl rfl (ty_ge (n := 0) nk_i0 (fun z229 ez229 => ?_))
                  refine ty_aS (W := ty_Wx) H Jh150 rfl rfl (by decide) (by omega) (by omega) (fun i e => by unfold ty_Wx; omega) (fun _ _ => ty_eg rfl) (by omega) (by omega) (fun e1 e2 w => by omega) (fun h230 eh230 Jh230 => ?_)
                  have Ih230 := H.1 h230 Jh230
                  refine ty_inc (ls' := fun z231 => [some (.ref 97), some (.int x1), some (.int z5), some (.int y81), some (.int y82), some (.int y83), some (.int z231), w85, w86]) rfl rfl (fun _ => rfl) (nm_addc nk_i1 (by omega) (by omega)) (fun z231 ez231 => ?_)
                  refine hq_p rfl rfl ?_
                  exact ihn153 ((41 - z231.toInt).toNat) (by omega) z231 h230 rfl (by omega) (by omega) Jh230
            exact L49_n153 _ z100 h87 rfl (by omega) (by omega) Jh87
      exact L35_n95 _ z15 z16 z17 none none none h4 rfl (by omega) (by omega) (by omega) (by omega) (by omega) (by omega) rfl rfl rfl Jh4
    · refine hq_p rfl rfl (ty_ge (n := -1) nk_im1 (fun z232 ez232 => ?_))
      exact hq_W.ret rfl rfl rfl ⟨Jh4, _, rfl, by omega, by omega⟩
end CT6
