/-! CONTRACTS (printed by wip/pm/cts.py) -/
section CT7
theorem ct_222 {X : pm_X} {d : Nat} {h : pm_H} {x1 : Int32} {x2 : Int32} (hd : 6 ≤ d) (ax1 : 0 ≤ x1.toInt) (bx1 : x1.toInt ≤ 7) : ty_M X ty_Wy d 222 [.ref 97, .int x1, .int x2] h (ty_pi (-2147483648) 2147483647) := by
  intro J H hJ
  obtain ⟨d, rfl⟩ : ∃ e, d = e + 1 := ⟨d - 1, by omega⟩
  have I := H.1 h hJ
  have ax2 := nm_lo x2
  have bx2 := nm_hi x2
  refine hq_M.enter (q := (⟨"TrainBearersModel", "costOf", "(II)I"⟩, _, 5, some .int, 11, 3, pm_c222)) rfl rfl ?_
  show hq_W X d 11 false (some .int) pm_c222 (0, [some (.ref 97), some (.int x1), some (.int x2), none, none], [], h) (fun h' v => J h' ∧ (ty_pi (-2147483648) 2147483647) h' v)
  refine hq_p rfl rfl ?_
  refine hq_gR I.1 rfl rfl (by decide) (by decide) rfl ?_
  refine hq_p rfl rfl (ty_ge (n := 34) nk_b34 (fun z1 ez1 => ?_))
  refine hq_p rfl rfl ?_
  refine hq_p rfl rfl (ty_ge (n := z1.toInt + x1.toInt) (nm_add (by omega) (by omega)) (fun z2 ez2 => ?_))
  refine ty_aL I rfl rfl (by decide) (by omega) (by omega) (fun i e => ty_le (ty_w34 (by omega) (by omega))) (fun z3 ez3 az3 bz3 => ?_)
  refine hq_p rfl rfl ?_
  refine hq_gR I.1 rfl rfl (by decide) (by decide) rfl ?_
  refine hq_p rfl rfl (ty_ge (n := 10) nk_b10 (fun z4 ez4 => ?_))
  refine hq_p rfl rfl ?_
  refine hq_p rfl rfl (ty_ge (n := z4.toInt + x1.toInt) (nm_add (by omega) (by omega)) (fun z5 ez5 => ?_))
  refine ty_aL I rfl rfl (by decide) (by omega) (by omega) (fun i e => ty_le (ty_w10 (by omega) (by omega))) (fun z6 ez6 az6 bz6 => ?_)
  refine hq_p rfl rfl (ty_ge (n := z3.toInt + z6.toInt) (nm_add (by omega) (by omega)) (fun z7 ez7 => ?_))
  refine hq_p (ls' := [some (.ref 97), some (.int x1), some (.int x2), some (.int z7), none]) rfl rfl ?_
  refine hq_p rfl rfl (ty_ge (n := 0) nk_i0 (fun z8 ez8 => ?_))
  refine hq_p (ls' := [some (.ref 97), some (.int x1), some (.int x2), some (.int z7), some (.int z8)]) rfl rfl ?_
  have L23_n31 : ∀ n31 : Nat, ∀ (y27 : Int32) (y28 : Int32), (8 - y28.toInt).toNat = n31 → -2147483648 ≤ y27.toInt → y27.toInt ≤ 2147483647 → 0 ≤ y28.toInt → y28.toInt ≤ 8 → hq_W X d 11 false (some .int) pm_c222 (23, [some (.ref 97), some (.int x1), some (.int x2), some (.int y27), some (.int y28)], [], h) (fun h' v => J h' ∧ (ty_pi (-2147483648) 2147483647) h' v) := by
    intro n31
    induction n31 using Nat.strongRecOn with
    | ind n31 ihn31 =>
      intro y27 y28 mn31 ay27 by27 ay28 by28
      refine hq_p rfl rfl ?_
      refine hq_p rfl rfl ?_
      refine hq_gR I.1 rfl rfl (by decide) (by decide) rfl ?_
      refine hq_p rfl rfl (ty_ge (n := 1) nk_i1 (fun z32 ez32 => ?_))
      refine ty_aL I rfl rfl (by decide) (by omega) (by omega) (fun i e => ty_le (ty_w0 (by omega) (by omega))) (fun z33 ez33 az33 bz33 => ?_)
      rw [show z32.toInt.toNat = 1 by omega] at ez33
      refine ty_ige rfl (fun c34 => ?_) (fun c34 => ?_)
      · refine hq_p rfl rfl (ty_ge (n := 100) nk_b100 (fun z35 ez35 => ?_))
        refine hq_p rfl rfl ?_
        refine hq_p rfl rfl ?_
        refine hq_p rfl rfl ?_
        refine ty_zge rfl (fun c36 => ?_) (fun c36 => ?_)
        · refine hq_p rfl rfl ?_
          refine ty_callj 0 (W := ty_Wy) H hJ rfl (fun _ => rfl) rfl rfl rfl (hq_pre_o I.1 (x := 97) (ci := 11) rfl (by decide) rfl rfl rfl rfl) (fun _ _ w => w) (fun _ w => w) (ct_206 (x1 := x1) (x2 := y27) (by omega) (by omega) (by omega)) (fun h38 _ Jh38 P37 => ?_)
          have Ih38 := H.1 h38 Jh38
          obtain ⟨z39, rfl, az39, bz39⟩ := P37
          refine hq_p rfl rfl (ty_ge (n := 100 * z39.toInt) (nm_cmul ez35 (by omega) (by omega)) (fun z40 ez40 => ?_))
          refine hq_p rfl rfl ?_
          refine ty_callp 1 Ih38 rfl (fun _ => rfl) rfl rfl rfl rfl (ct_138 (x0 := x2) (by omega)) (fun _ P41 => ?_)
          obtain ⟨z42, rfl, az42, bz42⟩ := P41
          refine hq_p rfl rfl (ty_ga (fun z43 az43 bz43 => ?_))
          exact hq_W.ret rfl rfl rfl ⟨Jh38, _, rfl, by omega, by omega⟩
        · refine hq_p rfl rfl (ty_ge (n := 0) nk_i0 (fun z44 ez44 => ?_))
          refine hq_p rfl rfl ?_
          refine ty_callj 0 (W := ty_Wy) H hJ rfl (fun _ => rfl) rfl rfl rfl (hq_pre_o I.1 (x := 97) (ci := 11) rfl (by decide) rfl rfl rfl rfl) (fun _ _ w => w) (fun _ w => w) (ct_206 (x1 := x1) (x2 := z44) (by omega) (by omega) (by omega)) (fun h46 _ Jh46 P45 => ?_)
          have Ih46 := H.1 h46 Jh46
          obtain ⟨z47, rfl, az47, bz47⟩ := P45
          refine hq_p rfl rfl (ty_ge (n := 100 * z47.toInt) (nm_cmul ez35 (by omega) (by omega)) (fun z48 ez48 => ?_))
          refine hq_p rfl rfl ?_
          refine ty_callp 1 Ih46 rfl (fun _ => rfl) rfl rfl rfl rfl (ct_138 (x0 := x2) (by omega)) (fun _ P49 => ?_)
          obtain ⟨z50, rfl, az50, bz50⟩ := P49
          refine hq_p rfl rfl (ty_ga (fun z51 az51 bz51 => ?_))
          exact hq_W.ret rfl rfl rfl ⟨Jh46, _, rfl, by omega, by omega⟩
      · refine hq_p rfl rfl ?_
        refine hq_p rfl rfl ?_
        refine ty_callp 1 I rfl (fun _ => rfl) rfl rfl rfl rfl (ct_137 (x0 := x2) (x1 := y28) (by omega)) (fun _ P52 => ?_)
        obtain ⟨z53, rfl, az53, bz53⟩ := P52
        refine ty_zeq rfl (fun c54 => ?_) (fun c54 => ?_)
        · refine ty_inc (ls' := fun z55 => [some (.ref 97), some (.int x1), some (.int x2), some (.int y27), some (.int z55)]) rfl rfl (fun _ => rfl) (nm_addc nk_i1 (by omega) (by omega)) (fun z55 ez55 => ?_)
          refine hq_p rfl rfl ?_
          exact ihn31 ((8 - z55.toInt).toNat) (by omega) y27 z55 rfl (by omega) (by omega) (by omega) (by omega)
        · replace c54 : 1 ≤ z53.toInt ∧ z53.toInt ≤ 1 := by omega
          refine hq_p rfl rfl ?_
          refine hq_gR I.1 rfl rfl (by decide) (by decide) rfl ?_
          refine hq_p rfl rfl (ty_ge (n := 8) nk_b8 (fun z56 ez56 => ?_))
          refine hq_p rfl rfl ?_
          refine hq_p rfl rfl (ty_ge (n := 8 * x1.toInt) (nm_cmul ez56 (by omega) (by omega)) (fun z57 ez57 => ?_))
          refine hq_p rfl rfl ?_
          refine hq_p rfl rfl (ty_ge (n := z57.toInt + y28.toInt) (nm_add (by omega) (by omega)) (fun z58 ez58 => ?_))
          refine ty_bL I rfl rfl (by decide) (by omega) (by omega) (fun z59 az59 bz59 => ?_)
          refine ty_zeq rfl (fun c60 => ?_) (fun c60 => ?_)
          · refine hq_p rfl rfl ?_
            refine hq_p rfl rfl ?_
            refine hq_gR I.1 rfl rfl (by decide) (by decide) rfl ?_
            refine hq_p rfl rfl (ty_ge (n := 8) nk_b8 (fun z61 ez61 => ?_))
            refine hq_p rfl rfl ?_
            refine hq_p rfl rfl (ty_ge (n := 8 * x1.toInt) (nm_cmul ez61 (by omega) (by omega)) (fun z62 ez62 => ?_))
            refine hq_p rfl rfl ?_
            refine hq_p rfl rfl (ty_ge (n := z62.toInt + y28.toInt) (nm_add (by omega) (by omega)) (fun z63 ez63 => ?_))
            refine ty_aL I rfl rfl (by decide) (by omega) (by omega) (fun _ _ => ty_le rfl) (fun z64 ez64 az64 bz64 => ?_)
            refine hq_p rfl rfl (ty_ga (fun z65 az65 bz65 => ?_))
            refine hq_p (ls' := [some (.ref 97), some (.int x1), some (.int x2), some (.int z65), some (.int y28)]) rfl rfl ?_
            refine ty_inc (ls' := fun z66 => [some (.ref 97), some (.int x1), some (.int x2), some (.int z65), some (.int z66)]) rfl rfl (fun _ => rfl) (nm_addc nk_i1 (by omega) (by omega)) (fun z66 ez66 => ?_)
            refine hq_p rfl rfl ?_
            exact ihn31 ((8 - z66.toInt).toNat) (by omega) z65 z66 rfl (by omega) (by omega) (by omega) (by omega)
          · clear c60
            refine hq_p rfl rfl (ty_ge (n := 100000000) nk_d100000000 (fun z67 ez67 => ?_))
            exact hq_W.ret rfl rfl rfl ⟨hJ, _, rfl, by omega, by omega⟩
  exact L23_n31 _ z7 z8 rfl (by omega) (by omega) (by omega) (by omega)
theorem ct_223 {X : pm_X} {d : Nat} {h : pm_H}  (hd : 7 ≤ d)  : ty_M X ty_Wx d 223 [.ref 97] h ty_pv := by
  intro J H hJ
  obtain ⟨d, rfl⟩ : ∃ e, d = e + 1 := ⟨d - 1, by omega⟩
  have I := H.1 h hJ
  refine hq_M.enter (q := (⟨"TrainBearersModel", "layCosts", "()V"⟩, _, 3, none, 11, 1, pm_c223)) rfl rfl ?_
  show hq_W X d 11 false (none) pm_c223 (0, [some (.ref 97), none, none], [], h) (fun h' v => J h' ∧ ty_pv h' v)
  refine hq_p rfl rfl (ty_ge (n := 0) nk_i0 (fun z1 ez1 => ?_))
  refine hq_p (ls' := [some (.ref 97), some (.int z1), none]) rfl rfl ?_
  have L2_n35 : ∀ n35 : Nat, ∀ (y29 : Int32) (w30 : Option Value) (h31 : pm_H), (8 - y29.toInt).toNat = n35 → 0 ≤ y29.toInt → y29.toInt ≤ 8 → pm_two w30 = false → J h31 → hq_W X d 11 false (none) pm_c223 (2, [some (.ref 97), some (.int y29), w30], [], h31) (fun h' v => J h' ∧ ty_pv h' v) := by
    intro n35
    induction n35 using Nat.strongRecOn with
    | ind n35 ihn35 =>
      intro y29 w30 h31 mn35 ay29 by29 kw30 Jh31
      have Ih31 := H.1 h31 Jh31
      refine hq_p rfl rfl ?_
      refine hq_p rfl rfl ?_
      refine hq_gR Ih31.1 rfl rfl (by decide) (by decide) rfl ?_
      refine hq_p rfl rfl (ty_ge (n := 0) nk_i0 (fun z36 ez36 => ?_))
      refine ty_aL Ih31 rfl rfl (by decide) (by omega) (by omega) (fun i e => ty_le (ty_w0 (by omega) (by omega))) (fun z37 ez37 az37 bz37 => ?_)
      rw [show z36.toInt.toNat = 0 by omega] at ez37
      refine ty_ige rfl (fun c38 => ?_) (fun c38 => ?_)
      · exact hq_W.ret rfl rfl rfl ⟨Jh31, rfl⟩
      · refine hq_p rfl rfl (ty_ge (n := 0) nk_i0 (fun z39 ez39 => ?_))
        refine hq_p (ls' := [some (.ref 97), some (.int y29), some (.int z39)]) rfl rfl ?_
        have L14_n62 : ∀ n62 : Nat, ∀ (y58 : Int32) (h59 : pm_H), (8 - y58.toInt).toNat = n62 → 0 ≤ y58.toInt → y58.toInt ≤ 8 → J h59 → hq_W X d 11 false (none) pm_c223 (14, [some (.ref 97), some (.int y29), some (.int y58)], [], h59) (fun h' v => J h' ∧ ty_pv h' v) := by
          intro n62
          induction n62 using Nat.strongRecOn with
          | ind n62 ihn62 =>
            intro y58 h59 mn62 ay58 by58 Jh59
            have Ih59 := H.1 h59 Jh59
            refine hq_p rfl rfl ?_
            refine hq_p rfl rfl ?_
            refine hq_gR Ih59.1 rfl rfl (by decide) (by decide) rfl ?_
            refine hq_p rfl rfl (ty_ge (n := 1) nk_i1 (fun z63 ez63 => ?_))
            refine ty_aL Ih59 rfl rfl (by decide) (by omega) (by omega) (fun i e => ty_le (ty_w0 (by omega) (by omega))) (fun z64 ez64 az64 bz64 => ?_)
            rw [show z63.toInt.toNat = 1 by omega] at ez64
            refine ty_ige rfl (fun c65 => ?_) (fun c65 => ?_)
            · refine hq_p rfl rfl (ty_ge (n := 0) nk_i0 (fun z66 ez66 => ?_))
              refine hq_p (ls' := [some (.ref 97), some (.int y29), some (.int z66)]) rfl rfl ?_
              have L66_n139 : ∀ n139 : Nat, ∀ (y135 : Int32) (h136 : pm_H), (256 - y135.toInt).toNat = n139 → 0 ≤ y135.toInt → y135.toInt ≤ 256 → J h136 → hq_W X d 11 false (none) pm_c223 (66, [some (.ref 97), some (.int y29), some (.int y135)], [], h136) (fun h' v => J h' ∧ ty_pv h' v) := by
                intro n139
                induction n139 using Nat.strongRecOn with
                | ind n139 ihn139 =>
                  intro y135 h136 mn139 ay135 by135 Jh136
                  have Ih136 := H.1 h136 Jh136
                  refine hq_p rfl rfl ?_
                  refine hq_p rfl rfl (ty_ge (n := 1) nk_i1 (fun z140 ez140 => ?_))
                  refine hq_p rfl rfl ?_
                  refine hq_gR Ih136.1 rfl rfl (by decide) (by decide) rfl ?_
                  refine hq_p rfl rfl (ty_ge (n := 1) nk_i1 (fun z141 ez141 => ?_))
                  refine ty_aL Ih136 rfl rfl (by decide) (by omega) (by omega) (fun i e => ty_le (ty_w0 (by omega) (by omega))) (fun z142 ez142 az142 bz142 => ?_)
                  rw [show z141.toInt.toNat = 1 by omega] at ez142
                  refine hq_p rfl rfl (ty_gb (c := z140 <<< (z142 &&& 31)) (lo := 1) (hi := 256) (by have q := nm_shl1 (x := z140) (y := z142) (by omega) (by omega) (by omega); omega) (fun z143 az143 bz143 => ?_))
                  refine ty_ige rfl (fun c144 => ?_) (fun c144 => ?_)
                  · refine ty_inc (ls' := fun z145 => [some (.ref 97), some (.int z145), some (.int y135)]) rfl rfl (fun _ => rfl) (nm_addc nk_i1 (by omega) (by omega)) (fun z145 ez145 => ?_)
                    refine hq_p rfl rfl ?_
                    exact ihn35 ((8 - z145.toInt).toNat) (by omega) z145 (some (.int y135)) h136 rfl (by omega) (by omega) rfl Jh136
                  · refine hq_p rfl rfl ?_
                    refine hq_gR Ih136.1 rfl rfl (by decide) (by decide) rfl ?_
                    refine hq_p rfl rfl (ty_ge (n := 256) nk_s256 (fun z146 ez146 => ?_))
                    refine hq_p rfl rfl ?_
                    refine hq_p rfl rfl (ty_ge (n := 256 * y29.toInt) (nm_cmul ez146 (by omega) (by omega)) (fun z147 ez147 => ?_))
                    refine hq_p rfl rfl ?_
                    refine hq_p rfl rfl (ty_ge (n := z147.toInt + y135.toInt) (nm_add (by omega) (by omega)) (fun z148 ez148 => ?_))
                    refine hq_p rfl rfl ?_
                    refine ty_callp 1 Ih136 rfl (fun _ => rfl) rfl rfl rfl rfl (ct_138 (x0 := y135) (by omega)) (fun _ P149 => ?_)
                    obtain ⟨z150, rfl, az150, bz150⟩ := P149
                    refine hq_p rfl rfl (ty_ge (n := 2) nk_i2 (fun z151 ez151 => ?_))
                    refine ty_ile rfl (fun c152 => ?_) (fun c152 => ?_)
                    · refine hq_p rfl rfl ?_
                      refine hq_p rfl rfl ?_
                      refine hq_p rfl rfl ?_
                      refine ty_callj 0 (W := ty_Wx) H Jh136 rfl (fun _ => rfl) rfl rfl rfl (hq_pre_o Ih136.1 (x := 97) (ci := 11) rfl (by decide) rfl rfl rfl rfl) (fun a k w => by unfold ty_Wy at w; unfold ty_Wx; omega) (by unfold ty_Wy ty_Wx; omega) (ct_222 (x1 := y29) (x2 := y135) (by omega) (by omega) (by omega)) (fun h154 _ Jh154 P153 => ?_)
                      have Ih154 := H.1 h154 Jh154
                      obtain ⟨z155, rfl, az155, bz155⟩ := P153
                      refine ty_aS (W := ty_Wx) H Jh154 rfl rfl (by decide) (by omega) (by omega) (fun i e => by unfold ty_Wx; omega) (fun _ _ => ty_eg rfl) (by omega) (by omega) (fun e1 e2 w => by omega) (fun h156 eh156 Jh156 => ?_)
                      have Ih156 := H.1 h156 Jh156
                      refine ty_inc (ls' := fun z157 => [some (.ref 97), some (.int y29), some (.int z157)]) rfl rfl (fun _ => rfl) (nm_addc nk_i1 (by omega) (by omega)) (fun z157 ez157 => ?_)
                      refine hq_p rfl rfl ?_
                      exact ihn139 ((256 - z157.toInt).toNat) (by omega) z157 h156 rfl (by omega) (by omega) Jh156
                    · refine hq_p rfl rfl (ty_ge (n := 100000000) nk_d100000000 (fun z158 ez158 => ?_))
                      refine hq_p rfl rfl ?_
                      refine ty_aS (W := ty_Wx) H Jh136 rfl rfl (by decide) (by omega) (by omega) (fun i e => by unfold ty_Wx; omega) (fun _ _ => ty_eg rfl) (by omega) (by omega) (fun e1 e2 w => by omega) (fun h159 eh159 Jh159 => ?_)
                      have Ih159 := H.1 h159 Jh159
                      refine ty_inc (ls' := fun z160 => [some (.ref 97), some (.int y29), some (.int z160)]) rfl rfl (fun _ => rfl) (nm_addc nk_i1 (by omega) (by omega)) (fun z160 ez160 => ?_)
                      refine hq_p rfl rfl ?_
                      exact ihn139 ((256 - z160.toInt).toNat) (by omega) z160 h159 rfl (by omega) (by omega) Jh159
              exact L66_n139 _ z66 h59 rfl (by omega) (by omega) Jh59
            · refine hq_p rfl rfl ?_
              refine hq_gR Ih59.1 rfl rfl (by decide) (by decide) rfl ?_
              refine hq_p rfl rfl (ty_ge (n := 8) nk_b8 (fun z161 ez161 => ?_))
              refine hq_p rfl rfl ?_
              refine hq_p rfl rfl (ty_ge (n := 8 * y29.toInt) (nm_cmul ez161 (by omega) (by omega)) (fun z162 ez162 => ?_))
              refine hq_p rfl rfl ?_
              refine hq_p rfl rfl (ty_ge (n := z162.toInt + y58.toInt) (nm_add (by omega) (by omega)) (fun z163 ez163 => ?_))
              refine hq_p rfl rfl ?_
              refine hq_p rfl rfl ?_
              refine hq_p rfl rfl ?_
              refine ty_callj 0 (W := ty_Wx) H Jh59 rfl (fun _ => rfl) rfl rfl rfl (hq_pre_o Ih59.1 (x := 97) (ci := 11) rfl (by decide) rfl rfl rfl rfl) (fun a k w => by unfold ty_Wy at w; unfold ty_Wx; omega) (by unfold ty_Wy ty_Wx; omega) (ct_203 (x1 := y58) (x2 := y29) (by omega) (by omega) (by omega) (by omega) (by omega)) (fun h165 _ Jh165 P164 => ?_)
              have Ih165 := H.1 h165 Jh165
              obtain ⟨z166, rfl, az166, bz166⟩ := P164
              refine ty_aS (W := ty_Wx) H Jh165 rfl rfl (by decide) (by omega) (by omega) (fun i e => by unfold ty_Wx; omega) (fun _ _ => ty_eg rfl) (by omega) (by omega) (fun e1 e2 w => by omega) (fun h167 eh167 Jh167 => ?_)
              have Ih167 := H.1 h167 Jh167
              refine hq_p rfl rfl ?_
              refine hq_gR Ih167.1 rfl rfl (by decide) (by decide) rfl ?_
              refine hq_p rfl rfl (ty_ge (n := 8) nk_b8 (fun z168 ez168 => ?_))
              refine hq_p rfl rfl ?_
              refine hq_p rfl rfl (ty_ge (n := 8 * y29.toInt) (nm_cmul ez168 (by omega) (by omega)) (fun z169 ez169 => ?_))
              refine hq_p rfl rfl ?_
              refine hq_p rfl rfl (ty_ge (n := z169.toInt + y58.toInt) (nm_add (by omega) (by omega)) (fun z170 ez170 => ?_))
              refine hq_p rfl rfl ?_
              refine hq_p rfl rfl ?_
              refine hq_p rfl rfl ?_
              refine ty_callj 0 (W := ty_Wx) H Jh167 rfl (fun _ => rfl) rfl rfl rfl (hq_pre_o Ih167.1 (x := 97) (ci := 11) rfl (by decide) rfl rfl rfl rfl) (fun a k w => by unfold ty_Wy at w; unfold ty_Wx; omega) (by unfold ty_Wy ty_Wx; omega) (ct_204 (x1 := y58) (x2 := y29) (by omega) (by omega) (by omega) (by omega) (by omega)) (fun h172 _ Jh172 P171 => ?_)
              have Ih172 := H.1 h172 Jh172
              obtain ⟨z173, rfl, az173, bz173⟩ := P171
              refine ty_bS (W := ty_Wx) H Jh172 rfl rfl (by decide) (by omega) (by omega) (fun i e => by unfold ty_Wx; omega) (fun _ => rfl) (by omega) (fun h174 eh174 Jh174 => ?_)
              have Ih174 := H.1 h174 Jh174
              refine ty_inc (ls' := fun z175 => [some (.ref 97), some (.int y29), some (.int z175)]) rfl rfl (fun _ => rfl) (nm_addc nk_i1 (by omega) (by omega)) (fun z175 ez175 => ?_)
              refine hq_p rfl rfl ?_
              exact ihn62 ((8 - z175.toInt).toNat) (by omega) z175 h174 rfl (by omega) (by omega) Jh174
        exact L14_n62 _ z39 h31 rfl (by omega) (by omega) Jh31
  exact L2_n35 _ z1 none h rfl (by omega) (by omega) rfl hJ
theorem ct_224 {X : pm_X} {d : Nat} {h : pm_H} {x1 : Int32} {x2 : Int32} {x3 : Int32} (hd : 1 ≤ d) (ax1 : 0 ≤ x1.toInt) (bx1 : x1.toInt ≤ 7) (ax2 : 0 ≤ x2.toInt) (bx2 : x2.toInt ≤ 255) (ax3 : 0 ≤ x3.toInt) (bx3 : x3.toInt ≤ 255) : ty_M X ty_W0 d 224 [.ref 97, .int x1, .int x2, .int x3] h (ty_pi (-2147483648) 2147483647) := by
  intro J H hJ
  obtain ⟨d, rfl⟩ : ∃ e, d = e + 1 := ⟨d - 1, by omega⟩
  have I := H.1 h hJ
  refine hq_M.enter (q := (⟨"TrainBearersModel", "with", "(III)I"⟩, _, 4, some .int, 11, 4, pm_c224)) rfl rfl ?_
  show hq_W X d 11 false (some .int) pm_c224 (0, [some (.ref 97), some (.int x1), some (.int x2), some (.int x3)], [], h) (fun h' v => J h' ∧ (ty_pi (-2147483648) 2147483647) h' v)
  refine hq_p rfl rfl ?_
  refine hq_p rfl rfl ?_
  refine hq_p rfl rfl (ty_gb (c := x2 &&& x3) (lo := 0) (hi := 255) (by have q := nm_and_r (x := x2) (y := x3) (by omega); omega) (fun z1 az1 bz1 => ?_))
  refine ty_zne rfl (fun c2 => ?_) (fun c2 => ?_)
  · replace c2 : 1 ≤ z1.toInt ∧ z1.toInt ≤ 255 := by omega
    refine hq_p rfl rfl (ty_ge (n := 100000000) nk_d100000000 (fun z3 ez3 => ?_))
    refine hq_p rfl rfl ?_
    exact hq_W.ret rfl rfl rfl ⟨hJ, _, rfl, by omega, by omega⟩
  · refine hq_p rfl rfl ?_
    refine hq_gR I.1 rfl rfl (by decide) (by decide) rfl ?_
    refine hq_p rfl rfl (ty_ge (n := 256) nk_s256 (fun z4 ez4 => ?_))
    refine hq_p rfl rfl ?_
    refine hq_p rfl rfl (ty_ge (n := 256 * x1.toInt) (nm_cmul ez4 (by omega) (by omega)) (fun z5 ez5 => ?_))
    refine hq_p rfl rfl ?_
    refine hq_p rfl rfl (ty_ge (n := z5.toInt + x3.toInt) (nm_add (by omega) (by omega)) (fun z6 ez6 => ?_))
    refine ty_aL I rfl rfl (by decide) (by omega) (by omega) (fun _ _ => ty_le rfl) (fun z7 ez7 az7 bz7 => ?_)
    refine hq_p rfl rfl (ty_ge (n := 100000000) nk_d100000000 (fun z8 ez8 => ?_))
    refine ty_ine rfl (fun c9 => ?_) (fun c9 => ?_)
    · clear c9
      refine hq_p rfl rfl ?_
      refine hq_gR I.1 rfl rfl (by decide) (by decide) rfl ?_
      refine hq_p rfl rfl (ty_ge (n := 256) nk_s256 (fun z10 ez10 => ?_))
      refine hq_p rfl rfl ?_
      refine hq_p rfl rfl (ty_ge (n := 256 * x1.toInt) (nm_cmul ez10 (by omega) (by omega)) (fun z11 ez11 => ?_))
      refine hq_p rfl rfl ?_
      refine hq_p rfl rfl (ty_ge (n := z11.toInt + x3.toInt) (nm_add (by omega) (by omega)) (fun z12 ez12 => ?_))
      refine ty_aL I rfl rfl (by decide) (by omega) (by omega) (fun _ _ => ty_le rfl) (fun z13 ez13 az13 bz13 => ?_)
      refine hq_p rfl rfl ?_
      refine hq_gR I.1 rfl rfl (by decide) (by decide) rfl ?_
      refine hq_p rfl rfl (ty_ge (n := 256) nk_s256 (fun z14 ez14 => ?_))
      refine hq_p rfl rfl ?_
      refine hq_p rfl rfl (ty_ge (n := 1) nk_i1 (fun z15 ez15 => ?_))
      refine hq_p rfl rfl (ty_ge (n := x1.toInt + z15.toInt) (nm_add (by omega) (by omega)) (fun z16 ez16 => ?_))
      refine hq_p rfl rfl (ty_ge (n := 256 * z16.toInt) (nm_cmul ez14 (by omega) (by omega)) (fun z17 ez17 => ?_))
      refine hq_p rfl rfl ?_
      refine hq_p rfl rfl ?_
      refine hq_p rfl rfl (ty_gb (c := x2 ||| x3) (lo := 0) (hi := 255) (by have q := nm_or8 (x := x2) (y := x3) (by omega) (by omega) (by omega) (by omega); omega) (fun z18 az18 bz18 => ?_))
      refine hq_p rfl rfl (ty_ge (n := z17.toInt + z18.toInt) (nm_add (by omega) (by omega)) (fun z19 ez19 => ?_))
      refine ty_aL I rfl rfl (by decide) (by omega) (by omega) (fun _ _ => ty_le rfl) (fun z20 ez20 az20 bz20 => ?_)
      refine hq_p rfl rfl (ty_ga (fun z21 az21 bz21 => ?_))
      exact hq_W.ret rfl rfl rfl ⟨hJ, _, rfl, by omega, by omega⟩
    · refine hq_p rfl rfl (ty_ge (n := 100000000) nk_d100000000 (fun z22 ez22 => ?_))
      refine hq_p rfl rfl ?_
      exact hq_W.ret rfl rfl rfl ⟨hJ, _, rfl, by omega, by omega⟩
theorem ct_225 {X : pm_X} {d : Nat} {h : pm_H}  (hd : 2 ≤ d)  : ty_M X ty_Wx d 225 [.ref 97] h ty_pv := by
  intro J H hJ
  obtain ⟨d, rfl⟩ : ∃ e, d = e + 1 := ⟨d - 1, by omega⟩
  have I := H.1 h hJ
  refine hq_M.enter (q := (⟨"TrainBearersModel", "layBorne", "()V"⟩, _, 7, none, 11, 1, pm_c225)) rfl rfl ?_
  show hq_W X d 11 false (none) pm_c225 (0, [some (.ref 97), none, none, none, none, none, none], [], h) (fun h' v => J h' ∧ ty_pv h' v)
  refine hq_p rfl rfl ?_
  refine hq_gR I.1 rfl rfl (by decide) (by decide) rfl ?_
  refine hq_p rfl rfl (ty_ge (n := 0) nk_i0 (fun z1 ez1 => ?_))
  refine ty_aL I rfl rfl (by decide) (by omega) (by omega) (fun i e => ty_le (ty_w0 (by omega) (by omega))) (fun z2 ez2 az2 bz2 => ?_)
  rw [show z1.toInt.toNat = 0 by omega] at ez2
  refine hq_p (ls' := [some (.ref 97), some (.int z2), none, none, none, none, none]) rfl rfl ?_
  refine hq_p rfl rfl (ty_ge (n := 0) nk_i0 (fun z3 ez3 => ?_))
  refine hq_p (ls' := [some (.ref 97), some (.int z2), some (.int z3), none, none, none, none]) rfl rfl ?_
  have L9_n76 : ∀ n76 : Nat, ∀ (y72 : Int32) (h73 : pm_H), (256 - y72.toInt).toNat = n76 → 0 ≤ y72.toInt → y72.toInt ≤ 256 → J h73 → hq_W X d 11 false (none) pm_c225 (9, [some (.ref 97), some (.int z2), some (.int y72), none, none, none, none], [], h73) (fun h' v => J h' ∧ ty_pv h' v) := by
    intro n76
    induction n76 using Nat.strongRecOn with
    | ind n76 ihn76 =>
      intro y72 h73 mn76 ay72 by72 Jh73
      have Ih73 := H.1 h73 Jh73
      refine hq_p rfl rfl ?_
      refine hq_p rfl rfl (ty_ge (n := 256) nk_s256 (fun z77 ez77 => ?_))
      refine ty_ige rfl (fun c78 => ?_) (fun c78 => ?_)
      · refine hq_p rfl rfl ?_
        refine hq_p rfl rfl (ty_ge (n := 1) nk_i1 (fun z79 ez79 => ?_))
        refine hq_p rfl rfl (ty_ge (n := z2.toInt - z79.toInt) (nm_sub (by omega) (by omega)) (fun z80 ez80 => ?_))
        refine hq_p (ls' := [some (.ref 97), some (.int z2), some (.int z80), none, none, none, none]) rfl rfl ?_
        have L39_n99 : ∀ n99 : Nat, ∀ (y87 : Int32) (w88 : Option Value) (w89 : Option Value) (w90 : Option Value) (w91 : Option Value) (h92 : pm_H), (y87.toInt - (-1)).toNat = n99 → -1 ≤ y87.toInt → y87.toInt ≤ 7 → pm_two w88 = false → pm_two w89 = false → pm_two w90 = false → pm_two w91 = false → J h92 → hq_W X d 11 false (none) pm_c225 (39, [some (.ref 97), some (.int z2), some (.int y87), w88, w89, w90, w91], [], h92) (fun h' v => J h' ∧ ty_pv h' v) := by
          intro n99
          induction n99 using Nat.strongRecOn with
          | ind n99 ihn99 =>
            intro y87 w88 w89 w90 w91 h92 mn99 ay87 by87 kw88 kw89 kw90 kw91 Jh92
            have Ih92 := H.1 h92 Jh92
            refine hq_p rfl rfl ?_
            refine ty_zlt rfl (fun c100 => ?_) (fun c100 => ?_)
            · exact hq_W.ret rfl rfl rfl ⟨Jh92, rfl⟩
            · refine hq_p rfl rfl (ty_ge (n := 0) nk_i0 (fun z101 ez101 => ?_))
              refine hq_p (ls' := [some (.ref 97), some (.int z2), some (.int y87), some (.int z101), w89, w90, w91]) rfl rfl ?_
              have L45_n282 : ∀ n282 : Nat, ∀ (y272 : Int32) (w273 : Option Value) (w274 : Option Value) (w275 : Option Value) (h276 : pm_H), (256 - y272.toInt).toNat = n282 → 0 ≤ y272.toInt → y272.toInt ≤ 256 → pm_two w273 = false → pm_two w274 = false → pm_two w275 = false → J h276 → hq_W X d 11 false (none) pm_c225 (45, [some (.ref 97), some (.int z2), some (.int y87), some (.int y272), w273, w274, w275], [], h276) (fun h' v => J h' ∧ ty_pv h' v) := by
                intro n282
                induction n282 using Nat.strongRecOn with
                | ind n282 ihn282 =>
                  intro y272 w273 w274 w275 h276 mn282 ay272 by272 kw273 kw274 kw275 Jh276
                  have Ih276 := H.1 h276 Jh276
                  refine hq_p rfl rfl ?_
                  refine hq_p rfl rfl (ty_ge (n := 1) nk_i1 (fun z283 ez283 => ?_))
                  refine hq_p rfl rfl ?_
                  refine hq_gR Ih276.1 rfl rfl (by decide) (by decide) rfl ?_
                  refine hq_p rfl rfl (ty_ge (n := 1) nk_i1 (fun z284 ez284 => ?_))
                  refine ty_aL Ih276 rfl rfl (by decide) (by omega) (by omega) (fun i e => ty_le (ty_w0 (by omega) (by omega))) (fun z285 ez285 az285 bz285 => ?_)
                  rw [show z284.toInt.toNat = 1 by omega] at ez285
                  refine hq_p rfl rfl (ty_gb (c := z283 <<< (z285 &&& 31)) (lo := 1) (hi := 256) (by have q := nm_shl1 (x := z283) (y := z285) (by omega) (by omega) (by omega); omega) (fun z286 az286 bz286 => ?_))
                  refine ty_ige rfl (fun c287 => ?_) (fun c287 => ?_)
                  · refine ty_inc (ls' := fun z288 => [some (.ref 97), some (.int z2), some (.int z288), some (.int y272), w273, w274, w275]) rfl rfl (fun _ => rfl) (nm_addc nk_im1 (by omega) (by omega)) (fun z288 ez288 => ?_)
                    refine hq_p rfl rfl ?_
                    exact ihn99 ((z288.toInt - (-1)).toNat) (by omega) z288 (some (.int y272)) (w273) (w274) (w275) h276 rfl (by omega) (by omega) rfl kw273 kw274 kw275 Jh276
                  · refine hq_p rfl rfl (ty_ge (n := 100000000) nk_d100000000 (fun z289 ez289 => ?_))
                    refine hq_p (ls' := [some (.ref 97), some (.int z2), some (.int y87), some (.int y272), some (.int z289), w274, w275]) rfl rfl ?_
                    refine hq_p rfl rfl (ty_ge (n := 0) nk_i0 (fun z290 ez290 => ?_))
                    refine hq_p (ls' := [some (.ref 97), some (.int z2), some (.int y87), some (.int y272), some (.int z289), some (.int z290), w275]) rfl rfl ?_
                    have L64_n399 : ∀ n399 : Nat, ∀ (y393 : Int32) (y394 : Int32) (w395 : Option Value), (256 - y394.toInt).toNat = n399 → -2147483648 ≤ y393.toInt → y393.toInt ≤ 100000000 → 0 ≤ y394.toInt → y394.toInt ≤ 256 → pm_two w395 = false → hq_W X d 11 false (none) pm_c225 (64, [some (.ref 97), some (.int z2), some (.int y87), some (.int y272), some (.int y393), some (.int y394), w395], [], h276) (fun h' v => J h' ∧ ty_pv h' v) := by
                      intro n399
                      induction n399 using Nat.strongRecOn with
                      | ind n399 ihn399 =>
                        intro y393 y394 w395 mn399 ay393 by393 ay394 by394 kw395
                        refine hq_p rfl rfl ?_
                        refine hq_p rfl rfl (ty_ge (n := 1) nk_i1 (fun z400 ez400 => ?_))
                        refine hq_p rfl rfl ?_
                        refine hq_gR Ih276.1 rfl rfl (by decide) (by decide) rfl ?_
                        refine hq_p rfl rfl (ty_ge (n := 1) nk_i1 (fun z401 ez401 => ?_))
                        refine ty_aL Ih276 rfl rfl (by decide) (by omega) (by omega) (fun i e => ty_le (ty_w0 (by omega) (by omega))) (fun z402 ez402 az402 bz402 => ?_)
                        rw [show z401.toInt.toNat = 1 by omega] at ez402
                        refine hq_p rfl rfl (ty_gb (c := z400 <<< (z402 &&& 31)) (lo := 1) (hi := 256) (by have q := nm_shl1 (x := z400) (y := z402) (by omega) (by omega) (by omega); omega) (fun z403 az403 bz403 => ?_))
                        refine ty_ige rfl (fun c404 => ?_) (fun c404 => ?_)
                        · refine hq_p rfl rfl ?_
                          refine hq_gR Ih276.1 rfl rfl (by decide) (by decide) rfl ?_
                          refine hq_p rfl rfl (ty_ge (n := 256) nk_s256 (fun z405 ez405 => ?_))
                          refine hq_p rfl rfl ?_
                          refine hq_p rfl rfl (ty_ge (n := 256 * y87.toInt) (nm_cmul ez405 (by omega) (by omega)) (fun z406 ez406 => ?_))
                          refine hq_p rfl rfl ?_
                          refine hq_p rfl rfl (ty_ge (n := z406.toInt + y272.toInt) (nm_add (by omega) (by omega)) (fun z407 ez407 => ?_))
                          refine hq_p rfl rfl ?_
                          refine ty_aS (W := ty_Wx) H Jh276 rfl rfl (by decide) (by omega) (by omega) (fun i e => by unfold ty_Wx; omega) (fun _ _ => ty_eg rfl) (by omega) (by omega) (fun e1 e2 w => by omega) (fun h408 eh408 Jh408 => ?_)
                          have Ih408 := H.1 h408 Jh408
                          refine ty_inc (ls' := fun z409 => [some (.ref 97), some (.int z2), some (.int y87), some (.int z409), some (.int y393), some (.int y394), w395]) rfl rfl (fun _ => rfl) (nm_addc nk_i1 (by omega) (by omega)) (fun z409 ez409 => ?_)
                          refine hq_p rfl rfl ?_
                          exact ihn282 ((256 - z409.toInt).toNat) (by omega) z409 (some (.int y393)) (some (.int y394)) (w395) h408 rfl (by omega) (by omega) rfl rfl kw395 Jh408
                        · refine hq_p rfl rfl ?_
                          refine hq_p rfl rfl ?_
                          refine hq_p rfl rfl ?_
                          refine hq_p rfl rfl ?_
                          refine ty_callp 0 Ih276 rfl (fun _ => rfl) rfl rfl rfl (hq_pre_o Ih276.1 (x := 97) (ci := 11) rfl (by decide) rfl rfl rfl rfl) (ct_224 (x1 := y87) (x2 := y272) (x3 := y394) (by omega) (by omega) (by omega) (by omega) (by omega) (by omega) (by omega)) (fun _ P410 => ?_)
                          obtain ⟨z411, rfl, az411, bz411⟩ := P410
                          refine hq_p (ls' := [some (.ref 97), some (.int z2), some (.int y87), some (.int y272), some (.int y393), some (.int y394), some (.int z411)]) rfl rfl ?_
                          refine hq_p rfl rfl ?_
                          refine hq_p rfl rfl ?_
                          refine ty_ige rfl (fun c412 => ?_) (fun c412 => ?_)
                          · refine hq_p rfl rfl ?_
                            refine hq_p (ls' := [some (.ref 97), some (.int z2), some (.int y87), some (.int y272), some (.int y393), some (.int y394), some (.int z411)]) rfl rfl ?_
                            refine ty_inc (ls' := fun z413 => [some (.ref 97), some (.int z2), some (.int y87), some (.int y272), some (.int y393), some (.int z413), some (.int z411)]) rfl rfl (fun _ => rfl) (nm_addc nk_i1 (by omega) (by omega)) (fun z413 ez413 => ?_)
                            refine hq_p rfl rfl ?_
                            exact ihn399 ((256 - z413.toInt).toNat) (by omega) y393 z413 (some (.int z411)) rfl (by omega) (by omega) (by omega) (by omega) rfl
                          · refine hq_p rfl rfl ?_
                            refine hq_p rfl rfl ?_
                            refine hq_p (ls' := [some (.ref 97), some (.int z2), some (.int y87), some (.int y272), some (.int z411), some (.int y394), some (.int z411)]) rfl rfl ?_
                            refine ty_inc (ls' := fun z414 => [some (.ref 97), some (.int z2), some (.int y87), some (.int y272), some (.int z411), some (.int z414), some (.int z411)]) rfl rfl (fun _ => rfl) (nm_addc nk_i1 (by omega) (by omega)) (fun z414 ez414 => ?_)
                            refine hq_p rfl rfl ?_
                            exact ihn399 ((256 - z414.toInt).toNat) (by omega) z411 z414 (some (.int z411)) rfl (by omega) (by omega) (by omega) (by omega) rfl
                    exact L64_n399 _ z289 z290 (w275) rfl (by omega) (by omega) (by omega) (by omega) kw275
              exact L45_n282 _ z101 (w89) (w90) (w91) h92 rfl (by omega) (by omega) kw89 kw90 kw91 Jh92
        exact L39_n99 _ z80 none none none none h73 rfl (by omega) (by omega) rfl rfl rfl rfl Jh73
      · refine hq_p rfl rfl ?_
        refine hq_gR Ih73.1 rfl rfl (by decide) (by decide) rfl ?_
        refine hq_p rfl rfl (ty_ge (n := 256) nk_s256 (fun z415 ez415 => ?_))
        refine hq_p rfl rfl ?_
        refine hq_p rfl rfl (ty_ge (n := 256 * z2.toInt) (nm_cmul ez415 (by omega) (by omega)) (fun z416 ez416 => ?_))
        refine hq_p rfl rfl ?_
        refine hq_p rfl rfl (ty_ge (n := z416.toInt + y72.toInt) (nm_add (by omega) (by omega)) (fun z417 ez417 => ?_))
        refine hq_p rfl rfl (ty_ge (n := 0) nk_i0 (fun z418 ez418 => ?_))
        refine ty_aS (W := ty_Wx) H Jh73 rfl rfl (by decide) (by omega) (by omega) (fun i e => by unfold ty_Wx; omega) (fun _ _ => ty_eg rfl) (by omega) (by omega) (fun e1 e2 w => by omega) (fun h419 eh419 Jh419 => ?_)
        have Ih419 := H.1 h419 Jh419
        refine ty_inc (ls' := fun z420 => [some (.ref 97), some (.int z2), some (.int z420), none, none, none, none]) rfl rfl (fun _ => rfl) (nm_addc nk_i1 (by omega) (by omega)) (fun z420 ez420 => ?_)
        refine hq_p rfl rfl ?_
        exact ihn76 ((256 - z420.toInt).toNat) (by omega) z420 h419 rfl (by omega) (by omega) Jh419
  exact L9_n76 _ z3 h rfl (by omega) (by omega) hJ
end CT7
