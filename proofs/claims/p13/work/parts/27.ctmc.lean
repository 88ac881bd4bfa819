/-! CONTRACTS (printed by wip/pm/cts.py) -/
section CT5
set_option maxRecDepth 8000 in
set_option maxHeartbeats 20000000 in
theorem ct_227 {X : pm_X} {d : Nat} {h : pm_H} {x1 : Int32} (hd : 8 ≤ d)  : ty_M X ty_Wx d 227 [.ref 97, .int x1] h (ty_pi (-1) 792) := by
  intro J H hJ
  obtain ⟨d, rfl⟩ : ∃ e, d = e + 1 := ⟨d - 1, by omega⟩
  have I := H.1 h hJ
  have ax1 := nm_lo x1
  have bx1 := nm_hi x1
  refine hq_M.enter (q := (⟨"TrainBearersModel", "exchanged", "(I)I"⟩, _, 10, some .int, 11, 2, pm_c227)) rfl rfl ?_
  show hq_W X d 11 false (some .int) pm_c227 (0, [some (.ref 97), some (.int x1), none, none, none, none, none, none, none, none], [], h) (fun h' v => J h' ∧ (ty_pi (-1) 792) h' v)
  refine hq_p rfl rfl ?_
  refine hq_p rfl rfl (ty_ge (n := 0) nk_i0 (fun z1 ez1 => ?_))
  refine ty_pI (W := ty_Wx) H hJ rfl rfl (by decide) rfl rfl (by unfold ty_Wx; omega) rfl (by omega) (by omega) (fun h2 eh2 Jh2 => ?_)
  have wh2 : (hs_fI h2 97 0).toInt = z1.toInt := by rw [eh2]; exact congrArg Int32.toInt (ty_fI_eq I.1 rfl (by decide) rfl)
  have Ih2 := H.1 h2 Jh2
  refine hq_p rfl rfl ?_
  refine hq_p rfl rfl (ty_gle (n := x1.toInt) (nm_i2l _) (fun z3 ez3 => ?_))
  refine hq_p rfl rfl (ty_gle (n := 0) (by decide) (fun z4 ez4 => ?_))
  refine hq_p rfl rfl (ty_gle (n := 1) (by decide) (fun z5 ez5 => ?_))
  refine ty_callp 1 Ih2 rfl (fun _ => rfl) rfl rfl rfl rfl (ct_136 (x0 := z3) (x1 := z4) (x2 := z5) (by omega)) (fun _ P6 => ?_)
  obtain ⟨z7, rfl, az7, bz7, iz7⟩ := P6
  refine ty_zne rfl (fun c8 => ?_) (fun c8 => ?_)
  · replace c8 : 1 ≤ z7.toInt ∧ z7.toInt ≤ 1 := by omega
    have f9 := iz7 (by omega)
    clear iz7
    refine hq_p rfl rfl ?_
    refine ty_callj 0 (W := ty_Wx) H Jh2 rfl (fun _ => rfl) rfl rfl rfl (hq_pre_o Ih2.1 (x := 97) (ci := 11) rfl (by decide) rfl rfl rfl rfl) (fun a k w => by unfold ty_Wy at w; unfold ty_Wx; omega) (by unfold ty_Wy ty_Wx; omega) (ct_208 (by omega)) (fun h11 _ Jh11 P10 => ?_)
    have Ih11 := H.1 h11 Jh11
    obtain ⟨z12, rfl, az12, bz12⟩ := P10
    refine hq_p (ls' := [some (.ref 97), some (.int x1), some (.int z12), none, none, none, none, none, none, none]) rfl rfl ?_
    refine hq_p rfl rfl (ty_ge (n := -1) nk_im1 (fun z13 ez13 => ?_))
    refine hq_p (ls' := [some (.ref 97), some (.int x1), some (.int z12), some (.int z13), none, none, none, none, none, none]) rfl rfl ?_
    refine hq_p rfl rfl (ty_ge (n := 0) nk_i0 (fun z14 ez14 => ?_))
    refine hq_p (ls' := [some (.ref 97), some (.int x1), some (.int z12), some (.int z13), some (.int z14), none, none, none, none, none]) rfl rfl ?_
    have L27_n114 : ∀ n114 : Nat, ∀ (y96 : Int32) (y97 : Int32) (y98 : Int32) (w99 : Option Value) (w100 : Option Value) (w101 : Option Value) (w102 : Option Value) (w103 : Option Value) (h104 : pm_H), (8 - y98.toInt).toNat = n114 → 0 ≤ y96.toInt → y96.toInt ≤ 792 → -1 ≤ y97.toInt → y97.toInt ≤ 96 → 0 ≤ y98.toInt → y98.toInt ≤ 8 → pm_two w99 = false → pm_two w100 = false → pm_two w101 = false → pm_two w102 = false → pm_two w103 = false → J h104 → hq_W X d 11 false (some .int) pm_c227 (27, [some (.ref 97), some (.int x1), some (.int y96), some (.int y97), some (.int y98), w99, w100, w101, w102, w103], [], h104) (fun h' v => J h' ∧ (ty_pi (-1) 792) h' v) := by
      intro n114
      induction n114 using Nat.strongRecOn with
      | ind n114 ihn114 =>
        intro y96 y97 y98 w99 w100 w101 w102 w103 h104 mn114 ay96 by96 ay97 by97 ay98 by98 kw99 kw100 kw101 kw102 kw103 Jh104
        have Ih104 := H.1 h104 Jh104
        refine hq_p rfl rfl ?_
        refine hq_p rfl rfl ?_
        refine hq_gR Ih104.1 rfl rfl (by decide) (by decide) rfl ?_
        refine hq_p rfl rfl (ty_ge (n := 1) nk_i1 (fun z115 ez115 => ?_))
        refine ty_aL Ih104 rfl rfl (by decide) (by omega) (by omega) (fun i e => ty_le (ty_w0 (by omega) (by omega))) (fun z116 ez116 az116 bz116 => ?_)
        rw [show z115.toInt.toNat = 1 by omega] at ez116
        refine ty_ige rfl (fun c117 => ?_) (fun c117 => ?_)
        · refine hq_p rfl rfl ?_
          refine hq_p rfl rfl (ty_ge (n := -1) nk_im1 (fun z118 ez118 => ?_))
          refine ty_ieq rfl (fun c119 => ?_) (fun c119 => ?_)
          · refine hq_p rfl rfl ?_
            refine hq_p rfl rfl ?_
            exact hq_W.ret rfl rfl rfl ⟨Jh104, _, rfl, by omega, by omega⟩
          · replace c119 : 0 ≤ y97.toInt ∧ y97.toInt ≤ 96 := by omega
            refine hq_p rfl rfl ?_
            refine ty_zne rfl (fun c120 => ?_) (fun c120 => ?_)
            · replace c120 : 1 ≤ x1.toInt ∧ x1.toInt ≤ 1 := by omega
              refine hq_p rfl rfl ?_
              exact hq_W.ret rfl rfl rfl ⟨Jh104, _, rfl, by omega, by omega⟩
            · refine hq_p rfl rfl ?_
              refine hq_p rfl rfl ?_
              exact hq_W.ret rfl rfl rfl ⟨Jh104, _, rfl, by omega, by omega⟩
        · refine hq_p rfl rfl ?_
          refine hq_p rfl rfl (ty_ge (n := 1) nk_i1 (fun z121 ez121 => ?_))
          refine hq_p rfl rfl (ty_ge (n := y98.toInt + z121.toInt) (nm_add (by omega) (by omega)) (fun z122 ez122 => ?_))
          refine hq_p (ls' := [some (.ref 97), some (.int x1), some (.int y96), some (.int y97), some (.int y98), some (.int z122), w100, w101, w102, w103]) rfl rfl ?_
          have L44_n147 : ∀ n147 : Nat, ∀ (y131 : Int32) (y132 : Int32) (y133 : Int32) (w134 : Option Value) (w135 : Option Value) (w136 : Option Value) (w137 : Option Value) (h138 : pm_H), (8 - y133.toInt).toNat = n147 → 0 ≤ y131.toInt → y131.toInt ≤ 792 → -1 ≤ y132.toInt → y132.toInt ≤ 96 → 1 ≤ y133.toInt → y133.toInt ≤ 8 → pm_two w134 = false → pm_two w135 = false → pm_two w136 = false → pm_two w137 = false → J h138 → hq_W X d 11 false (some .int) pm_c227 (44, [some (.ref 97), some (.int x1), some (.int y131), some (.int y132), some (.int y98), some (.int y133), w134, w135, w136, w137], [], h138) (fun h' v => J h' ∧ (ty_pi (-1) 792) h' v) := by
            intro n147
            induction n147 using Nat.strongRecOn with
            | ind n147 ihn147 =>
              intro y131 y132 y133 w134 w135 w136 w137 h138 mn147 ay131 by131 ay132 by132 ay133 by133 kw134 kw135 kw136 kw137 Jh138
              have Ih138 := H.1 h138 Jh138
              refine hq_p rfl rfl ?_
              refine hq_p rfl rfl ?_
              refine hq_gR Ih138.1 rfl rfl (by decide) (by decide) rfl ?_
              refine hq_p rfl rfl (ty_ge (n := 1) nk_i1 (fun z148 ez148 => ?_))
              refine ty_aL Ih138 rfl rfl (by decide) (by omega) (by omega) (fun i e => ty_le (ty_w0 (by omega) (by omega))) (fun z149 ez149 az149 bz149 => ?_)
              rw [show z148.toInt.toNat = 1 by omega] at ez149
              refine ty_ige rfl (fun c150 => ?_) (fun c150 => ?_)
              · refine ty_inc (ls' := fun z151 => [some (.ref 97), some (.int x1), some (.int y131), some (.int y132), some (.int z151), some (.int y133), w134, w135, w136, w137]) rfl rfl (fun _ => rfl) (nm_addc nk_i1 (by omega) (by omega)) (fun z151 ez151 => ?_)
                refine hq_p rfl rfl ?_
                exact ihn114 ((8 - z151.toInt).toNat) (by omega) y131 y132 z151 (some (.int y133)) (w134) (w135) (w136) (w137) h138 rfl (by omega) (by omega) (by omega) (by omega) (by omega) (by omega) rfl kw134 kw135 kw136 kw137 Jh138
              · refine hq_p rfl rfl ?_
                refine hq_gR Ih138.1 rfl rfl (by decide) (by decide) rfl ?_
                refine hq_p rfl rfl (ty_ge (n := 26) nk_b26 (fun z152 ez152 => ?_))
                refine hq_p rfl rfl ?_
                refine hq_p rfl rfl (ty_ge (n := z152.toInt + y98.toInt) (nm_add (by omega) (by omega)) (fun z153 ez153 => ?_))
                refine ty_aL Ih138 rfl rfl (by decide) (by omega) (by omega) (fun i e => ty_le (ty_w26 (by omega) (by omega))) (fun z154 ez154 az154 bz154 => ?_)
                refine hq_p (ls' := [some (.ref 97), some (.int x1), some (.int y131), some (.int y132), some (.int y98), some (.int y133), some (.int z154), w135, w136, w137]) rfl rfl ?_
                refine hq_p rfl rfl ?_
                refine hq_gR Ih138.1 rfl rfl (by decide) (by decide) rfl ?_
                refine hq_p rfl rfl (ty_ge (n := 26) nk_b26 (fun z155 ez155 => ?_))
                refine hq_p rfl rfl ?_
                refine hq_p rfl rfl (ty_ge (n := z155.toInt + y133.toInt) (nm_add (by omega) (by omega)) (fun z156 ez156 => ?_))
                refine ty_aL Ih138 rfl rfl (by decide) (by omega) (by omega) (fun i e => ty_le (ty_w26 (by omega) (by omega))) (fun z157 ez157 az157 bz157 => ?_)
                refine hq_p (ls' := [some (.ref 97), some (.int x1), some (.int y131), some (.int y132), some (.int y98), some (.int y133), some (.int z154), some (.int z157), w136, w137]) rfl rfl ?_
                refine hq_p rfl rfl ?_
                refine hq_p rfl rfl ?_
                refine ty_ieq rfl (fun c158 => ?_) (fun c158 => ?_)
                · refine hq_p rfl rfl (ty_ge (n := 0) nk_i0 (fun z159 ez159 => ?_))
                  refine hq_p (ls' := [some (.ref 97), some (.int x1), some (.int y131), some (.int y132), some (.int y98), some (.int y133), some (.int z154), some (.int z157), some (.int z159), w137]) rfl rfl ?_
                  refine hq_p rfl rfl ?_
                  refine ty_zeq rfl (fun c160 => ?_) (fun c160 => ?_)
                  · refine ty_inc (ls' := fun z161 => [some (.ref 97), some (.int x1), some (.int y131), some (.int y132), some (.int y98), some (.int z161), some (.int z154), some (.int z157), some (.int z159), w137]) rfl rfl (fun _ => rfl) (nm_addc nk_i1 (by omega) (by omega)) (fun z161 ez161 => ?_)
                    refine hq_p rfl rfl ?_
                    exact ihn147 ((8 - z161.toInt).toNat) (by omega) y131 y132 z161 (some (.int z154)) (some (.int z157)) (some (.int z159)) (w137) h138 rfl (by omega) (by omega) (by omega) (by omega) (by omega) (by omega) rfl rfl rfl kw137 Jh138
                  · exfalso; omega
                · clear c158
                  refine hq_p rfl rfl ?_
                  refine hq_p rfl rfl (ty_ge (n := -1) nk_im1 (fun z162 ez162 => ?_))
                  refine ty_ieq rfl (fun c163 => ?_) (fun c163 => ?_)
                  · refine hq_p rfl rfl ?_
                    refine hq_p rfl rfl (ty_ge (n := -1) nk_im1 (fun z164 ez164 => ?_))
                    refine ty_ieq rfl (fun c165 => ?_) (fun c165 => ?_)
                    · refine hq_p rfl rfl (ty_ge (n := 1) nk_i1 (fun z166 ez166 => ?_))
                      refine hq_p rfl rfl ?_
                      refine hq_p (ls' := [some (.ref 97), some (.int x1), some (.int y131), some (.int y132), some (.int y98), some (.int y133), some (.int z154), some (.int z157), some (.int z166), w137]) rfl rfl ?_
                      refine hq_p rfl rfl ?_
                      refine ty_zeq rfl (fun c167 => ?_) (fun c167 => ?_)
                      · exfalso; omega
                      · clear c167
                        refine hq_p rfl rfl ?_
                        refine hq_gR Ih138.1 rfl rfl (by decide) (by decide) rfl ?_
                        refine hq_p rfl rfl (ty_ge (n := 26) nk_b26 (fun z168 ez168 => ?_))
                        refine hq_p rfl rfl ?_
                        refine hq_p rfl rfl (ty_ge (n := z168.toInt + y98.toInt) (nm_add (by omega) (by omega)) (fun z169 ez169 => ?_))
                        refine hq_p rfl rfl ?_
                        refine ty_aS (W := ty_Wx) H Jh138 rfl rfl (by decide) (by omega) (by omega) (fun i e => by unfold ty_Wx; omega) (fun i e => ty_eg (ty_w26 (by omega) (by omega))) (by omega) (by omega) (fun e1 e2 w => by omega) (fun h170 eh170 Jh170 => ?_)
                        have Ih170 := H.1 h170 Jh170
                        refine hq_p rfl rfl ?_
                        refine hq_gR Ih170.1 rfl rfl (by decide) (by decide) rfl ?_
                        refine hq_p rfl rfl (ty_ge (n := 26) nk_b26 (fun z171 ez171 => ?_))
                        refine hq_p rfl rfl ?_
                        refine hq_p rfl rfl (ty_ge (n := z171.toInt + y133.toInt) (nm_add (by omega) (by omega)) (fun z172 ez172 => ?_))
                        refine hq_p rfl rfl ?_
                        refine ty_aS (W := ty_Wx) H Jh170 rfl rfl (by decide) (by omega) (by omega) (fun i e => by unfold ty_Wx; omega) (fun i e => ty_eg (ty_w26 (by omega) (by omega))) (by omega) (by omega) (fun e1 e2 w => by omega) (fun h173 eh173 Jh173 => ?_)
                        have Ih173 := H.1 h173 Jh173
                        refine hq_p rfl rfl ?_
                        refine ty_callj 0 (W := ty_Wx) H Jh173 rfl (fun _ => rfl) rfl rfl rfl (hq_pre_o Ih173.1 (x := 97) (ci := 11) rfl (by decide) rfl rfl rfl rfl) (fun a k w => by unfold ty_Wy at w; unfold ty_Wx; omega) (by unfold ty_Wy ty_Wx; omega) (ct_208 (by omega)) (fun h175 _ Jh175 P174 => ?_)
                        have Ih175 := H.1 h175 Jh175
                        obtain ⟨z176, rfl, az176, bz176⟩ := P174
                        refine hq_p (ls' := [some (.ref 97), some (.int x1), some (.int y131), some (.int y132), some (.int y98), some (.int y133), some (.int z154), some (.int z157), some (.int z166), some (.int z176)]) rfl rfl ?_
                        refine hq_p rfl rfl ?_
                        refine hq_gR Ih175.1 rfl rfl (by decide) (by decide) rfl ?_
                        refine hq_p rfl rfl (ty_ge (n := 26) nk_b26 (fun z177 ez177 => ?_))
                        refine hq_p rfl rfl ?_
                        refine hq_p rfl rfl (ty_ge (n := z177.toInt + y98.toInt) (nm_add (by omega) (by omega)) (fun z178 ez178 => ?_))
                        refine hq_p rfl rfl ?_
                        refine ty_aS (W := ty_Wx) H Jh175 rfl rfl (by decide) (by omega) (by omega) (fun i e => by unfold ty_Wx; omega) (fun i e => ty_eg (ty_w26 (by omega) (by omega))) (by omega) (by omega) (fun e1 e2 w => by omega) (fun h179 eh179 Jh179 => ?_)
                        have Ih179 := H.1 h179 Jh179
                        refine hq_p rfl rfl ?_
                        refine hq_gR Ih179.1 rfl rfl (by decide) (by decide) rfl ?_
                        refine hq_p rfl rfl (ty_ge (n := 26) nk_b26 (fun z180 ez180 => ?_))
                        refine hq_p rfl rfl ?_
                        refine hq_p rfl rfl (ty_ge (n := z180.toInt + y133.toInt) (nm_add (by omega) (by omega)) (fun z181 ez181 => ?_))
                        refine hq_p rfl rfl ?_
                        refine ty_aS (W := ty_Wx) H Jh179 rfl rfl (by decide) (by omega) (by omega) (fun i e => by unfold ty_Wx; omega) (fun i e => ty_eg (ty_w26 (by omega) (by omega))) (by omega) (by omega) (fun e1 e2 w => by omega) (fun h182 eh182 Jh182 => ?_)
                        have Ih182 := H.1 h182 Jh182
                        refine hq_p rfl rfl ?_
                        refine hq_p rfl rfl ?_
                        refine ty_ige rfl (fun c183 => ?_) (fun c183 => ?_)
                        · refine hq_p rfl rfl ?_
                          refine hq_p (ls' := [some (.ref 97), some (.int x1), some (.int y131), some (.int y132), some (.int y98), some (.int y133), some (.int z154), some (.int z157), some (.int z166), some (.int z176)]) rfl rfl ?_
                          refine hq_p rfl rfl ?_
                          refine hq_p rfl rfl ?_
                          refine ty_ige rfl (fun c184 => ?_) (fun c184 => ?_)
                          · refine hq_p rfl rfl ?_
                            refine hq_p (ls' := [some (.ref 97), some (.int x1), some (.int y131), some (.int y132), some (.int y98), some (.int y133), some (.int z154), some (.int z157), some (.int z166), some (.int z176)]) rfl rfl ?_
                            refine ty_inc (ls' := fun z185 => [some (.ref 97), some (.int x1), some (.int y131), some (.int y132), some (.int y98), some (.int z185), some (.int z154), some (.int z157), some (.int z166), some (.int z176)]) rfl rfl (fun _ => rfl) (nm_addc nk_i1 (by omega) (by omega)) (fun z185 ez185 => ?_)
                            refine hq_p rfl rfl ?_
                            exact ihn147 ((8 - z185.toInt).toNat) (by omega) y131 y132 z185 (some (.int z154)) (some (.int z157)) (some (.int z166)) (some (.int z176)) h182 rfl (by omega) (by omega) (by omega) (by omega) (by omega) (by omega) rfl rfl rfl rfl Jh182
                          · refine hq_p rfl rfl ?_
                            refine hq_p rfl rfl ?_
                            refine hq_p (ls' := [some (.ref 97), some (.int x1), some (.int z176), some (.int y132), some (.int y98), some (.int y133), some (.int z154), some (.int z157), some (.int z166), some (.int z176)]) rfl rfl ?_
                            refine ty_inc (ls' := fun z186 => [some (.ref 97), some (.int x1), some (.int z176), some (.int y132), some (.int y98), some (.int z186), some (.int z154), some (.int z157), some (.int z166), some (.int z176)]) rfl rfl (fun _ => rfl) (nm_addc nk_i1 (by omega) (by omega)) (fun z186 ez186 => ?_)
                            refine hq_p rfl rfl ?_
                            exact ihn147 ((8 - z186.toInt).toNat) (by omega) z176 y132 z186 (some (.int z154)) (some (.int z157)) (some (.int z166)) (some (.int z176)) h182 rfl (by omega) (by omega) (by omega) (by omega) (by omega) (by omega) rfl rfl rfl rfl Jh182
                        · refine hq_p rfl rfl (ty_ge (n := 10) nk_b10 (fun z187 ez187 => ?_))
                          refine hq_p rfl rfl ?_
                          refine hq_p rfl rfl (ty_ge (n := 10 * y98.toInt) (nm_cmul ez187 (by omega) (by omega)) (fun z188 ez188 => ?_))
                          refine hq_p rfl rfl ?_
                          refine hq_p rfl rfl (ty_ge (n := z188.toInt + y133.toInt) (nm_add (by omega) (by omega)) (fun z189 ez189 => ?_))
                          refine hq_p rfl rfl ?_
                          refine hq_p (ls' := [some (.ref 97), some (.int x1), some (.int y131), some (.int z189), some (.int y98), some (.int y133), some (.int z154), some (.int z157), some (.int z166), some (.int z176)]) rfl rfl ?_
                          refine hq_p rfl rfl ?_
                          refine hq_p rfl rfl ?_
                          refine ty_ige rfl (fun c190 => ?_) (fun c190 => ?_)
                          · refine hq_p rfl rfl ?_
                            refine hq_p (ls' := [some (.ref 97), some (.int x1), some (.int y131), some (.int z189), some (.int y98), some (.int y133), some (.int z154), some (.int z157), some (.int z166), some (.int z176)]) rfl rfl ?_
                            refine ty_inc (ls' := fun z191 => [some (.ref 97), some (.int x1), some (.int y131), some (.int z189), some (.int y98), some (.int z191), some (.int z154), some (.int z157), some (.int z166), some (.int z176)]) rfl rfl (fun _ => rfl) (nm_addc nk_i1 (by omega) (by omega)) (fun z191 ez191 => ?_)
                            refine hq_p rfl rfl ?_
                            exact ihn147 ((8 - z191.toInt).toNat) (by omega) y131 z189 z191 (some (.int z154)) (some (.int z157)) (some (.int z166)) (some (.int z176)) h182 rfl (by omega) (by omega) (by omega) (by omega) (by omega) (by omega) rfl rfl rfl rfl Jh182
                          · refine hq_p rfl rfl ?_
                            refine hq_p rfl rfl ?_
                            refine hq_p (ls' := [some (.ref 97), some (.int x1), some (.int z176), some (.int z189), some (.int y98), some (.int y133), some (.int z154), some (.int z157), some (.int z166), some (.int z176)]) rfl rfl ?_
                            refine ty_inc (ls' := fun z192 => [some (.ref 97), some (.int x1), some (.int z176), some (.int z189), some (.int y98), some (.int z192), some (.int z154), some (.int z157), some (.int z166), some (.int z176)]) rfl rfl (fun _ => rfl) (nm_addc nk_i1 (by omega) (by omega)) (fun z192 ez192 => ?_)
                            refine hq_p rfl rfl ?_
                            exact ihn147 ((8 - z192.toInt).toNat) (by omega) z176 z189 z192 (some (.int z154)) (some (.int z157)) (some (.int z166)) (some (.int z176)) h182 rfl (by omega) (by omega) (by omega) (by omega) (by omega) (by omega) rfl rfl rfl rfl Jh182
                    · replace c165 : 0 ≤ z154.toInt ∧ z154.toInt ≤ 7 := by omega
                      refine hq_p rfl rfl ?_
                      refine hq_p rfl rfl ?_
                      refine hq_p rfl rfl ?_
                      refine ty_callj 0 (W := ty_Wx) H Jh138 rfl (fun _ => rfl) rfl rfl rfl (hq_pre_o Ih138.1 (x := 97) (ci := 11) rfl (by decide) rfl rfl rfl rfl) (fun a k w => by unfold ty_Wy at w; unfold ty_Wx; omega) (by unfold ty_Wy ty_Wx; omega) (ct_204 (x1 := y133) (x2 := z154) (by omega) (by omega) (by omega) (by omega) (by omega)) (fun h194 _ Jh194 P193 => ?_)
                      have Ih194 := H.1 h194 Jh194
                      obtain ⟨z195, rfl, az195, bz195⟩ := P193
                      refine ty_zne rfl (fun c196 => ?_) (fun c196 => ?_)
                      · replace c196 : 1 ≤ z195.toInt ∧ z195.toInt ≤ 1 := by omega
                        refine hq_p rfl rfl (ty_ge (n := 0) nk_i0 (fun z197 ez197 => ?_))
                        refine hq_p (ls' := [some (.ref 97), some (.int x1), some (.int y131), some (.int y132), some (.int y98), some (.int y133), some (.int z154), some (.int z157), some (.int z197), w137]) rfl rfl ?_
                        refine hq_p rfl rfl ?_
                        refine ty_zeq rfl (fun c198 => ?_) (fun c198 => ?_)
                        · refine ty_inc (ls' := fun z199 => [some (.ref 97), some (.int x1), some (.int y131), some (.int y132), some (.int y98), some (.int z199), some (.int z154), some (.int z157), some (.int z197), w137]) rfl rfl (fun _ => rfl) (nm_addc nk_i1 (by omega) (by omega)) (fun z199 ez199 => ?_)
                          refine hq_p rfl rfl ?_
                          exact ihn147 ((8 - z199.toInt).toNat) (by omega) y131 y132 z199 (some (.int z154)) (some (.int z157)) (some (.int z197)) (w137) h194 rfl (by omega) (by omega) (by omega) (by omega) (by omega) (by omega) rfl rfl rfl kw137 Jh194
                        · exfalso; omega
                      · refine hq_p rfl rfl (ty_ge (n := 1) nk_i1 (fun z200 ez200 => ?_))
                        refine hq_p rfl rfl ?_
                        refine hq_p (ls' := [some (.ref 97), some (.int x1), some (.int y131), some (.int y132), some (.int y98), some (.int y133), some (.int z154), some (.int z157), some (.int z200), w137]) rfl rfl ?_
                        refine hq_p rfl rfl ?_
                        refine ty_zeq rfl (fun c201 => ?_) (fun c201 => ?_)
                        · exfalso; omega
                        · clear c201
                          refine hq_p rfl rfl ?_
                          refine hq_gR Ih194.1 rfl rfl (by decide) (by decide) rfl ?_
                          refine hq_p rfl rfl (ty_ge (n := 26) nk_b26 (fun z202 ez202 => ?_))
                          refine hq_p rfl rfl ?_
                          refine hq_p rfl rfl (ty_ge (n := z202.toInt + y98.toInt) (nm_add (by omega) (by omega)) (fun z203 ez203 => ?_))
                          refine hq_p rfl rfl ?_
                          refine ty_aS (W := ty_Wx) H Jh194 rfl rfl (by decide) (by omega) (by omega) (fun i e => by unfold ty_Wx; omega) (fun i e => ty_eg (ty_w26 (by omega) (by omega))) (by omega) (by omega) (fun e1 e2 w => by omega) (fun h204 eh204 Jh204 => ?_)
                          have Ih204 := H.1 h204 Jh204
                          refine hq_p rfl rfl ?_
                          refine hq_gR Ih204.1 rfl rfl (by decide) (by decide) rfl ?_
                          refine hq_p rfl rfl (ty_ge (n := 26) nk_b26 (fun z205 ez205 => ?_))
                          refine hq_p rfl rfl ?_
                          refine hq_p rfl rfl (ty_ge (n := z205.toInt + y133.toInt) (nm_add (by omega) (by omega)) (fun z206 ez206 => ?_))
                          refine hq_p rfl rfl ?_
                          refine ty_aS (W := ty_Wx) H Jh204 rfl rfl (by decide) (by omega) (by omega) (fun i e => by unfold ty_Wx; omega) (fun i e => ty_eg (ty_w26 (by omega) (by omega))) (by omega) (by omega) (fun e1 e2 w => by omega) (fun h207 eh207 Jh207 => ?_)
                          have Ih207 := H.1 h207 Jh207
                          refine hq_p rfl rfl ?_
                          refine ty_callj 0 (W := ty_Wx) H Jh207 rfl (fun _ => rfl) rfl rfl rfl (hq_pre_o Ih207.1 (x := 97) (ci := 11) rfl (by decide) rfl rfl rfl rfl) (fun a k w => by unfold ty_Wy at w; unfold ty_Wx; omega) (by unfold ty_Wy ty_Wx; omega) (ct_208 (by omega)) (fun h209 _ Jh209 P208 => ?_)
                          have Ih209 := H.1 h209 Jh209
                          obtain ⟨z210, rfl, az210, bz210⟩ := P208
                          refine hq_p (ls' := [some (.ref 97), some (.int x1), some (.int y131), some (.int y132), some (.int y98), some (.int y133), some (.int z154), some (.int z157), some (.int z200), some (.int z210)]) rfl rfl ?_
                          refine hq_p rfl rfl ?_
                          refine hq_gR Ih209.1 rfl rfl (by decide) (by decide) rfl ?_
                          refine hq_p rfl rfl (ty_ge (n := 26) nk_b26 (fun z211 ez211 => ?_))
                          refine hq_p rfl rfl ?_
                          refine hq_p rfl rfl (ty_ge (n := z211.toInt + y98.toInt) (nm_add (by omega) (by omega)) (fun z212 ez212 => ?_))
                          refine hq_p rfl rfl ?_
                          refine ty_aS (W := ty_Wx) H Jh209 rfl rfl (by decide) (by omega) (by omega) (fun i e => by unfold ty_Wx; omega) (fun i e => ty_eg (ty_w26 (by omega) (by omega))) (by omega) (by omega) (fun e1 e2 w => by omega) (fun h213 eh213 Jh213 => ?_)
                          have Ih213 := H.1 h213 Jh213
                          refine hq_p rfl rfl ?_
                          refine hq_gR Ih213.1 rfl rfl (by decide) (by decide) rfl ?_
                          refine hq_p rfl rfl (ty_ge (n := 26) nk_b26 (fun z214 ez214 => ?_))
                          refine hq_p rfl rfl ?_
                          refine hq_p rfl rfl (ty_ge (n := z214.toInt + y133.toInt) (nm_add (by omega) (by omega)) (fun z215 ez215 => ?_))
                          refine hq_p rfl rfl ?_
                          refine ty_aS (W := ty_Wx) H Jh213 rfl rfl (by decide) (by omega) (by omega) (fun i e => by unfold ty_Wx; omega) (fun i e => ty_eg (ty_w26 (by omega) (by omega))) (by omega) (by omega) (fun e1 e2 w => by omega) (fun h216 eh216 Jh216 => ?_)
                          have Ih216 := H.1 h216 Jh216
                          refine hq_p rfl rfl ?_
                          refine hq_p rfl rfl ?_
                          refine ty_ige rfl (fun c217 => ?_) (fun c217 => ?_)
                          · refine hq_p rfl rfl ?_
                            refine hq_p (ls' := [some (.ref 97), some (.int x1), some (.int y131), some (.int y132), some (.int y98), some (.int y133), some (.int z154), some (.int z157), some (.int z200), some (.int z210)]) rfl rfl ?_
                            refine hq_p rfl rfl ?_
                            refine hq_p rfl rfl ?_
                            refine ty_ige rfl (fun c218 => ?_) (fun c218 => ?_)
                            · refine hq_p rfl rfl ?_
                              refine hq_p (ls' := [some (.ref 97), some (.int x1), some (.int y131), some (.int y132), some (.int y98), some (.int y133), some (.int z154), some (.int z157), some (.int z200), some (.int z210)]) rfl rfl ?_
                              refine ty_inc (ls' := fun z219 => [some (.ref 97), some (.int x1), some (.int y131), some (.int y132), some (.int y98), some (.int z219), some (.int z154), some (.int z157), some (.int z200), some (.int z210)]) rfl rfl (fun _ => rfl) (nm_addc nk_i1 (by omega) (by omega)) (fun z219 ez219 => ?_)
                              refine hq_p rfl rfl ?_
                              exact ihn147 ((8 - z219.toInt).toNat) (by omega) y131 y132 z219 (some (.int z154)) (some (.int z157)) (some (.int z200)) (some (.int z210)) h216 rfl (by omega) (by omega) (by omega) (by omega) (by omega) (by omega) rfl rfl rfl rfl Jh216
                            · refine hq_p rfl rfl ?_
                              refine hq_p rfl rfl ?_
                              refine hq_p (ls' := [some (.ref 97), some (.int x1), some (.int z210), some (.int y132), some (.int y98), some (.int y133), some (.int z154), some (.int z157), some (.int z200), some (.int z210)]) rfl rfl ?_
                              refine ty_inc (ls' := fun z220 => [some (.ref 97), some (.int x1), some (.int z210), some (.int y132), some (.int y98), some (.int z220), some (.int z154), some (.int z157), some (.int z200), some (.int z210)]) rfl rfl (fun _ => rfl) (nm_addc nk_i1 (by omega) (by omega)) (fun z220 ez220 => ?_)
                              refine hq_p rfl rfl ?_
                              exact ihn147 ((8 - z220.toInt).toNat) (by omega) z210 y132 z220 (some (.int z154)) (some (.int z157)) (some (.int z200)) (some (.int z210)) h216 rfl (by omega) (by omega) (by omega) (by omega) (by omega) (by omega) rfl rfl rfl rfl Jh216
                          · refine hq_p rfl rfl (ty_ge (n := 10) nk_b10 (fun z221 ez221 => ?_))
                            refine hq_p rfl rfl ?_
                            refine hq_p rfl rfl (ty_ge (n := 10 * y98.toInt) (nm_cmul ez221 (by omega) (by omega)) (fun z222 ez222 => ?_))
                            refine hq_p rfl rfl ?_
                            refine hq_p rfl rfl (ty_ge (n := z222.toInt + y133.toInt) (nm_add (by omega) (by omega)) (fun z223 ez223 => ?_))
                            refine hq_p rfl rfl ?_
                            refine hq_p (ls' := [some (.ref 97), some (.int x1), some (.int y131), some (.int z223), some (.int y98), some (.int y133), some (.int z154), some (.int z157), some (.int z200), some (.int z210)]) rfl rfl ?_
                            refine hq_p rfl rfl ?_
                            refine hq_p rfl rfl ?_
                            refine ty_ige rfl (fun c224 => ?_) (fun c224 => ?_)
                            · refine hq_p rfl rfl ?_
                              refine hq_p (ls' := [some (.ref 97), some (.int x1), some (.int y131), some (.int z223), some (.int y98), some (.int y133), some (.int z154), some (.int z157), some (.int z200), some (.int z210)]) rfl rfl ?_
                              refine ty_inc (ls' := fun z225 => [some (.ref 97), some (.int x1), some (.int y131), some (.int z223), some (.int y98), some (.int z225), some (.int z154), some (.int z157), some (.int z200), some (.int z210)]) rfl rfl (fun _ => rfl) (nm_addc nk_i1 (by omega) (by omega)) (fun z225 ez225 => ?_)
                              refine hq_p rfl rfl ?_
                              exact ihn147 ((8 - z225.toInt).toNat) (by omega) y131 z223 z225 (some (.int z154)) (some (.int z157)) (some (.int z200)) (some (.int z210)) h216 rfl (by omega) (by omega) (by omega) (by omega) (by omega) (by omega) rfl rfl rfl rfl Jh216
                            · refine hq_p rfl rfl ?_
                              refine hq_p rfl rfl ?_
                              refine hq_p (ls' := [some (.ref 97), some (.int x1), some (.int z210), some (.int z223), some (.int y98), some (.int y133), some (.int z154), some (.int z157), some (.int z200), some (.int z210)]) rfl rfl ?_
                              refine ty_inc (ls' := fun z226 => [some (.ref 97), some (.int x1), some (.int z210), some (.int z223), some (.int y98), some (.int z226), some (.int z154), some (.int z157), some (.int z200), some (.int z210)]) rfl rfl (fun _ => rfl) (nm_addc nk_i1 (by omega) (by omega)) (fun z226 ez226 => ?_)
                              refine hq_p rfl rfl ?_
                              exact ihn147 ((8 - z226.toInt).toNat) (by omega) z210 z223 z226 (some (.int z154)) (some (.int z157)) (some (.int z200)) (some (.int z210)) h216 rfl (by omega) (by omega) (by omega) (by omega) (by omega) (by omega) rfl rfl rfl rfl Jh216
                  · replace c163 : 0 ≤ z157.toInt ∧ z157.toInt ≤ 7 := by omega
                    refine hq_p rfl rfl ?_
                    refine hq_p rfl rfl ?_
                    refine hq_p rfl rfl ?_
                    refine ty_callj 0 (W := ty_Wx) H Jh138 rfl (fun _ => rfl) rfl rfl rfl (hq_pre_o Ih138.1 (x := 97) (ci := 11) rfl (by decide) rfl rfl rfl rfl) (fun a k w => by unfold ty_Wy at w; unfold ty_Wx; omega) (by unfold ty_Wy ty_Wx; omega) (ct_204 (x1 := y98) (x2 := z157) (by omega) (by omega) (by omega) (by omega) (by omega)) (fun h228 _ Jh228 P227 => ?_)
                    have Ih228 := H.1 h228 Jh228
                    obtain ⟨z229, rfl, az229, bz229⟩ := P227
                    refine ty_zne rfl (fun c230 => ?_) (fun c230 => ?_)
                    · replace c230 : 1 ≤ z229.toInt ∧ z229.toInt ≤ 1 := by omega
                      refine hq_p rfl rfl (ty_ge (n := 0) nk_i0 (fun z231 ez231 => ?_))
                      refine hq_p (ls' := [some (.ref 97), some (.int x1), some (.int y131), some (.int y132), some (.int y98), some (.int y133), some (.int z154), some (.int z157), some (.int z231), w137]) rfl rfl ?_
                      refine hq_p rfl rfl ?_
                      refine ty_zeq rfl (fun c232 => ?_) (fun c232 => ?_)
                      · refine ty_inc (ls' := fun z233 => [some (.ref 97), some (.int x1), some (.int y131), some (.int y132), some (.int y98), some (.int z233), some (.int z154), some (.int z157), some (.int z231), w137]) rfl rfl (fun _ => rfl) (nm_addc nk_i1 (by omega) (by omega)) (fun z233 ez233 => ?_)
                        refine hq_p rfl rfl ?_
                        exact ihn147 ((8 - z233.toInt).toNat) (by omega) y131 y132 z233 (some (.int z154)) (some (.int z157)) (some (.int z231)) (w137) h228 rfl (by omega) (by omega) (by omega) (by omega) (by omega) (by omega) rfl rfl rfl kw137 Jh228
                      · exfalso; omega
                    · refine hq_p rfl rfl ?_
                      refine hq_p rfl rfl (ty_ge (n := -1) nk_im1 (fun z234 ez234 => ?_))
                      refine ty_ieq rfl (fun c235 => ?_) (fun c235 => ?_)
                      · refine hq_p rfl rfl (ty_ge (n := 1) nk_i1 (fun z236 ez236 => ?_))
                        refine hq_p rfl rfl ?_
                        refine hq_p (ls' := [some (.ref 97), some (.int x1), some (.int y131), some (.int y132), some (.int y98), some (.int y133), some (.int z154), some (.int z157), some (.int z236), w137]) rfl rfl ?_
                        refine hq_p rfl rfl ?_
                        refine ty_zeq rfl (fun c237 => ?_) (fun c237 => ?_)
                        · exfalso; omega
                        · clear c237
                          refine hq_p rfl rfl ?_
                          refine hq_gR Ih228.1 rfl rfl (by decide) (by decide) rfl ?_
                          refine hq_p rfl rfl (ty_ge (n := 26) nk_b26 (fun z238 ez238 => ?_))
                          refine hq_p rfl rfl ?_
                          refine hq_p rfl rfl (ty_ge (n := z238.toInt + y98.toInt) (nm_add (by omega) (by omega)) (fun z239 ez239 => ?_))
                          refine hq_p rfl rfl ?_
                          refine ty_aS (W := ty_Wx) H Jh228 rfl rfl (by decide) (by omega) (by omega) (fun i e => by unfold ty_Wx; omega) (fun i e => ty_eg (ty_w26 (by omega) (by omega))) (by omega) (by omega) (fun e1 e2 w => by omega) (fun h240 eh240 Jh240 => ?_)
                          have Ih240 := H.1 h240 Jh240
                          refine hq_p rfl rfl ?_
                          refine hq_gR Ih240.1 rfl rfl (by decide) (by decide) rfl ?_
                          refine hq_p rfl rfl (ty_ge (n := 26) nk_b26 (fun z241 ez241 => ?_))
                          refine hq_p rfl rfl ?_
                          refine hq_p rfl rfl (ty_ge (n := z241.toInt + y133.toInt) (nm_add (by omega) (by omega)) (fun z242 ez242 => ?_))
                          refine hq_p rfl rfl ?_
                          refine ty_aS (W := ty_Wx) H Jh240 rfl rfl (by decide) (by omega) (by omega) (fun i e => by unfold ty_Wx; omega) (fun i e => ty_eg (ty_w26 (by omega) (by omega))) (by omega) (by omega) (fun e1 e2 w => by omega) (fun h243 eh243 Jh243 => ?_)
                          have Ih243 := H.1 h243 Jh243
                          refine hq_p rfl rfl ?_
                          refine ty_callj 0 (W := ty_Wx) H Jh243 rfl (fun _ => rfl) rfl rfl rfl (hq_pre_o Ih243.1 (x := 97) (ci := 11) rfl (by decide) rfl rfl rfl rfl) (fun a k w => by unfold ty_Wy at w; unfold ty_Wx; omega) (by unfold ty_Wy ty_Wx; omega) (ct_208 (by omega)) (fun h245 _ Jh245 P244 => ?_)
                          have Ih245 := H.1 h245 Jh245
                          obtain ⟨z246, rfl, az246, bz246⟩ := P244
                          refine hq_p (ls' := [some (.ref 97), some (.int x1), some (.int y131), some (.int y132), some (.int y98), some (.int y133), some (.int z154), some (.int z157), some (.int z236), some (.int z246)]) rfl rfl ?_
                          refine hq_p rfl rfl ?_
                          refine hq_gR Ih245.1 rfl rfl (by decide) (by decide) rfl ?_
                          refine hq_p rfl rfl (ty_ge (n := 26) nk_b26 (fun z247 ez247 => ?_))
                          refine hq_p rfl rfl ?_
                          refine hq_p rfl rfl (ty_ge (n := z247.toInt + y98.toInt) (nm_add (by omega) (by omega)) (fun z248 ez248 => ?_))
                          refine hq_p rfl rfl ?_
                          refine ty_aS (W := ty_Wx) H Jh245 rfl rfl (by decide) (by omega) (by omega) (fun i e => by unfold ty_Wx; omega) (fun i e => ty_eg (ty_w26 (by omega) (by omega))) (by omega) (by omega) (fun e1 e2 w => by omega) (fun h249 eh249 Jh249 => ?_)
                          have Ih249 := H.1 h249 Jh249
                          refine hq_p rfl rfl ?_
                          refine hq_gR Ih249.1 rfl rfl (by decide) (by decide) rfl ?_
                          refine hq_p rfl rfl (ty_ge (n := 26) nk_b26 (fun z250 ez250 => ?_))
                          refine hq_p rfl rfl ?_
                          refine hq_p rfl rfl (ty_ge (n := z250.toInt + y133.toInt) (nm_add (by omega) (by omega)) (fun z251 ez251 => ?_))
                          refine hq_p rfl rfl ?_
                          refine ty_aS (W := ty_Wx) H Jh249 rfl rfl (by decide) (by omega) (by omega) (fun i e => by unfold ty_Wx; omega) (fun i e => ty_eg (ty_w26 (by omega) (by omega))) (by omega) (by omega) (fun e1 e2 w => by omega) (fun h252 eh252 Jh252 => ?_)
                          have Ih252 := H.1 h252 Jh252
                          refine hq_p rfl rfl ?_
                          refine hq_p rfl rfl ?_
                          refine ty_ige rfl (fun c253 => ?_) (fun c253 => ?_)
                          · refine hq_p rfl rfl ?_
                            refine hq_p (ls' := [some (.ref 97), some (.int x1), some (.int y131), some (.int y132), some (.int y98), some (.int y133), some (.int z154), some (.int z157), some (.int z236), some (.int z246)]) rfl rfl ?_
                            refine hq_p rfl rfl ?_
                            refine hq_p rfl rfl ?_
                            refine ty_ige rfl (fun c254 => ?_) (fun c254 => ?_)
                            · refine hq_p rfl rfl ?_
                              refine hq_p (ls' := [some (.ref 97), some (.int x1), some (.int y131), some (.int y132), some (.int y98), some (.int y133), some (.int z154), some (.int z157), some (.int z236), some (.int z246)]) rfl rfl ?_
                              refine ty_inc (ls' := fun z255 => [some (.ref 97), some (.int x1), some (.int y131), some (.int y132), some (.int y98), some (.int z255), some (.int z154), some (.int z157), some (.int z236), some (.int z246)]) rfl rfl (fun _ => rfl) (nm_addc nk_i1 (by omega) (by omega)) (fun z255 ez255 => ?_)
                              refine hq_p rfl rfl ?_
                              exact ihn147 ((8 - z255.toInt).toNat) (by omega) y131 y132 z255 (some (.int z154)) (some (.int z157)) (some (.int z236)) (some (.int z246)) h252 rfl (by omega) (by omega) (by omega) (by omega) (by omega) (by omega) rfl rfl rfl rfl Jh252
                            · refine hq_p rfl rfl ?_
                              refine hq_p rfl rfl ?_
                              refine hq_p (ls' := [some (.ref 97), some (.int x1), some (.int z246), some (.int y132), some (.int y98), some (.int y133), some (.int z154), some (.int z157), some (.int z236), some (.int z246)]) rfl rfl ?_
                              refine ty_inc (ls' := fun z256 => [some (.ref 97), some (.int x1), some (.int z246), some (.int y132), some (.int y98), some (.int z256), some (.int z154), some (.int z157), some (.int z236), some (.int z246)]) rfl rfl (fun _ => rfl) (nm_addc nk_i1 (by omega) (by omega)) (fun z256 ez256 => ?_)
                              refine hq_p rfl rfl ?_
                              exact ihn147 ((8 - z256.toInt).toNat) (by omega) z246 y132 z256 (some (.int z154)) (some (.int z157)) (some (.int z236)) (some (.int z246)) h252 rfl (by omega) (by omega) (by omega) (by omega) (by omega) (by omega) rfl rfl rfl rfl Jh252
                          · refine hq_p rfl rfl (ty_ge (n := 10) nk_b10 (fun z257 ez257 => ?_))
                            refine hq_p rfl rfl ?_
                            refine hq_p rfl rfl (ty_ge (n := 10 * y98.toInt) (nm_cmul ez257 (by omega) (by omega)) (fun z258 ez258 => ?_))
                            refine hq_p rfl rfl ?_
                            refine hq_p rfl rfl (ty_ge (n := z258.toInt + y133.toInt) (nm_add (by omega) (by omega)) (fun z259 ez259 => ?_))
                            refine hq_p rfl rfl ?_
                            refine hq_p (ls' := [some (.ref 97), some (.int x1), some (.int y131), some (.int z259), some (.int y98), some (.int y133), some (.int z154), some (.int z157), some (.int z236), some (.int z246)]) rfl rfl ?_
                            refine hq_p rfl rfl ?_
                            refine hq_p rfl rfl ?_
                            refine ty_ige rfl (fun c260 => ?_) (fun c260 => ?_)
                            · refine hq_p rfl rfl ?_
                              refine hq_p (ls' := [some (.ref 97), some (.int x1), some (.int y131), some (.int z259), some (.int y98), some (.int y133), some (.int z154), some (.int z157), some (.int z236), some (.int z246)]) rfl rfl ?_
                              refine ty_inc (ls' := fun z261 => [some (.ref 97), some (.int x1), some (.int y131), some (.int z259), some (.int y98), some (.int z261), some (.int z154), some (.int z157), some (.int z236), some (.int z246)]) rfl rfl (fun _ => rfl) (nm_addc nk_i1 (by omega) (by omega)) (fun z261 ez261 => ?_)
                              refine hq_p rfl rfl ?_
                              exact ihn147 ((8 - z261.toInt).toNat) (by omega) y131 z259 z261 (some (.int z154)) (some (.int z157)) (some (.int z236)) (some (.int z246)) h252 rfl (by omega) (by omega) (by omega) (by omega) (by omega) (by omega) rfl rfl rfl rfl Jh252
                            · refine hq_p rfl rfl ?_
                              refine hq_p rfl rfl ?_
                              refine hq_p (ls' := [some (.ref 97), some (.int x1), some (.int z246), some (.int z259), some (.int y98), some (.int y133), some (.int z154), some (.int z157), some (.int z236), some (.int z246)]) rfl rfl ?_
                              refine ty_inc (ls' := fun z262 => [some (.ref 97), some (.int x1), some (.int z246), some (.int z259), some (.int y98), some (.int z262), some (.int z154), some (.int z157), some (.int z236), some (.int z246)]) rfl rfl (fun _ => rfl) (nm_addc nk_i1 (by omega) (by omega)) (fun z262 ez262 => ?_)
                              refine hq_p rfl rfl ?_
                              exact ihn147 ((8 - z262.toInt).toNat) (by omega) z246 z259 z262 (some (.int z154)) (some (.int z157)) (some (.int z236)) (some (.int z246)) h252 rfl (by omega) (by omega) (by omega) (by omega) (by omega) (by omega) rfl rfl rfl rfl Jh252
                      · replace c235 : 0 ≤ z154.toInt ∧ z154.toInt ≤ 7 := by omega
                        refine hq_p rfl rfl ?_
                        refine hq_p rfl rfl ?_
                        refine hq_p rfl rfl ?_
                        refine ty_callj 0 (W := ty_Wx) H Jh228 rfl (fun _ => rfl) rfl rfl rfl (hq_pre_o Ih228.1 (x := 97) (ci := 11) rfl (by decide) rfl rfl rfl rfl) (fun a k w => by unfold ty_Wy at w; unfold ty_Wx; omega) (by unfold ty_Wy ty_Wx; omega) (ct_204 (x1 := y133) (x2 := z154) (by omega) (by omega) (by omega) (by omega) (by omega)) (fun h264 _ Jh264 P263 => ?_)
                        have Ih264 := H.1 h264 Jh264
                        obtain ⟨z265, rfl, az265, bz265⟩ := P263
                        refine ty_zne rfl (fun c266 => ?_) (fun c266 => ?_)
                        · replace c266 : 1 ≤ z265.toInt ∧ z265.toInt ≤ 1 := by omega
                          refine hq_p rfl rfl (ty_ge (n := 0) nk_i0 (fun z267 ez267 => ?_))
                          refine hq_p (ls' := [some (.ref 97), some (.int x1), some (.int y131), some (.int y132), some (.int y98), some (.int y133), some (.int z154), some (.int z157), some (.int z267), w137]) rfl rfl ?_
                          refine hq_p rfl rfl ?_
                          refine ty_zeq rfl (fun c268 => ?_) (fun c268 => ?_)
                          · refine ty_inc (ls' := fun z269 => [some (.ref 97), some (.int x1), some (.int y131), some (.int y132), some (.int y98), some (.int z269), some (.int z154), some (.int z157), some (.int z267), w137]) rfl rfl (fun _ => rfl) (nm_addc nk_i1 (by omega) (by omega)) (fun z269 ez269 => ?_)
                            refine hq_p rfl rfl ?_
                            exact ihn147 ((8 - z269.toInt).toNat) (by omega) y131 y132 z269 (some (.int z154)) (some (.int z157)) (some (.int z267)) (w137) h264 rfl (by omega) (by omega) (by omega) (by omega) (by omega) (by omega) rfl rfl rfl kw137 Jh264
                          · exfalso; omega
                        · refine hq_p rfl rfl (ty_ge (n := 1) nk_i1 (fun z270 ez270 => ?_))
                          refine hq_p rfl rfl ?_
                          refine hq_p (ls' := [some (.ref 97), some (.int x1), some (.int y131), some (.int y132), some (.int y98), some (.int y133), some (.int z154), some (.int z157), some (.int z270), w137]) rfl rfl ?_
                          refine hq_p rfl rfl ?_
                          refine ty_zeq rfl (fun c271 => ?_) (fun c271 => ?_)
                          · exfalso; omega
                          · clear c271
                            refine hq_p rfl rfl ?_
                            refine hq_gR Ih264.1 rfl rfl (by decide) (by decide) rfl ?_
                            refine hq_p rfl rfl (ty_ge (n := 26) nk_b26 (fun z272 ez272 => ?_))
                            refine hq_p rfl rfl ?_
                            refine hq_p rfl rfl (ty_ge (n := z272.toInt + y98.toInt) (nm_add (by omega) (by omega)) (fun z273 ez273 => ?_))
                            refine hq_p rfl rfl ?_
                            refine ty_aS (W := ty_Wx) H Jh264 rfl rfl (by decide) (by omega) (by omega) (fun i e => by unfold ty_Wx; omega) (fun i e => ty_eg (ty_w26 (by omega) (by omega))) (by omega) (by omega) (fun e1 e2 w => by omega) (fun h274 eh274 Jh274 => ?_)
                            have Ih274 := H.1 h274 Jh274
                            refine hq_p rfl rfl ?_
                            refine hq_gR Ih274.1 rfl rfl (by decide) (by decide) rfl ?_
                            refine hq_p rfl rfl (ty_ge (n := 26) nk_b26 (fun z275 ez275 => ?_))
                            refine hq_p rfl rfl ?_
                            refine hq_p rfl rfl (ty_ge (n := z275.toInt + y133.toInt) (nm_add (by omega) (by omega)) (fun z276 ez276 => ?_))
                            refine hq_p rfl rfl ?_
                            refine ty_aS (W := ty_Wx) H Jh274 rfl rfl (by decide) (by omega) (by omega) (fun i e => by unfold ty_Wx; omega) (fun i e => ty_eg (ty_w26 (by omega) (by omega))) (by omega) (by omega) (fun e1 e2 w => by omega) (fun h277 eh277 Jh277 => ?_)
                            have Ih277 := H.1 h277 Jh277
                            refine hq_p rfl rfl ?_
                            refine ty_callj 0 (W := ty_Wx) H Jh277 rfl (fun _ => rfl) rfl rfl rfl (hq_pre_o Ih277.1 (x := 97) (ci := 11) rfl (by decide) rfl rfl rfl rfl) (fun a k w => by unfold ty_Wy at w; unfold ty_Wx; omega) (by unfold ty_Wy ty_Wx; omega) (ct_208 (by omega)) (fun h279 _ Jh279 P278 => ?_)
                            have Ih279 := H.1 h279 Jh279
                            obtain ⟨z280, rfl, az280, bz280⟩ := P278
                            refine hq_p (ls' := [some (.ref 97), some (.int x1), some (.int y131), some (.int y132), some (.int y98), some (.int y133), some (.int z154), some (.int z157), some (.int z270), some (.int z280)]) rfl rfl ?_
                            refine hq_p rfl rfl ?_
                            refine hq_gR Ih279.1 rfl rfl (by decide) (by decide) rfl ?_
                            refine hq_p rfl rfl (ty_ge (n := 26) nk_b26 (fun z281 ez281 => ?_))
                            refine hq_p rfl rfl ?_
                            refine hq_p rfl rfl (ty_ge (n := z281.toInt + y98.toInt) (nm_add (by omega) (by omega)) (fun z282 ez282 => ?_))
                            refine hq_p rfl rfl ?_
                            refine ty_aS (W := ty_Wx) H Jh279 rfl rfl (by decide) (by omega) (by omega) (fun i e => by unfold ty_Wx; omega) (fun i e => ty_eg (ty_w26 (by omega) (by omega))) (by omega) (by omega) (fun e1 e2 w => by omega) (fun h283 eh283 Jh283 => ?_)
                            have Ih283 := H.1 h283 Jh283
                            refine hq_p rfl rfl ?_
                            refine hq_gR Ih283.1 rfl rfl (by decide) (by decide) rfl ?_
                            refine hq_p rfl rfl (ty_ge (n := 26) nk_b26 (fun z284 ez284 => ?_))
                            refine hq_p rfl rfl ?_
                            refine hq_p rfl rfl (ty_ge (n := z284.toInt + y133.toInt) (nm_add (by omega) (by omega)) (fun z285 ez285 => ?_))
                            refine hq_p rfl rfl ?_
                            refine ty_aS (W := ty_Wx) H Jh283 rfl rfl (by decide) (by omega) (by omega) (fun i e => by unfold ty_Wx; omega) (fun i e => ty_eg (ty_w26 (by omega) (by omega))) (by omega) (by omega) (fun e1 e2 w => by omega) (fun h286 eh286 Jh286 => ?_)
                            have Ih286 := H.1 h286 Jh286
                            refine hq_p rfl rfl ?_
                            refine hq_p rfl rfl ?_
                            refine ty_ige rfl (fun c287 => ?_) (fun c287 => ?_)
                            · refine hq_p rfl rfl ?_
                              refine hq_p (ls' := [some (.ref 97), some (.int x1), some (.int y131), some (.int y132), some (.int y98), some (.int y133), some (.int z154), some (.int z157), some (.int z270), some (.int z280)]) rfl rfl ?_
                              refine hq_p rfl rfl ?_
                              refine hq_p rfl rfl ?_
                              refine ty_ige rfl (fun c288 => ?_) (fun c288 => ?_)
                              · refine hq_p rfl rfl ?_
                                refine hq_p (ls' := [some (.ref 97), some (.int x1), some (.int y131), some (.int y132), some (.int y98), some (.int y133), some (.int z154), some (.int z157), some (.int z270), some (.int z280)]) rfl rfl ?_
                                refine ty_inc (ls' := fun z289 => [some (.ref 97), some (.int x1), some (.int y131), some (.int y132), some (.int y98), some (.int z289), some (.int z154), some (.int z157), some (.int z270), some (.int z280)]) rfl rfl (fun _ => rfl) (nm_addc nk_i1 (by omega) (by omega)) (fun z289 ez289 => ?_)
                                refine hq_p rfl rfl ?_
                                exact ihn147 ((8 - z289.toInt).toNat) (by omega) y131 y132 z289 (some (.int z154)) (some (.int z157)) (some (.int z270)) (some (.int z280)) h286 rfl (by omega) (by omega) (by omega) (by omega) (by omega) (by omega) rfl rfl rfl rfl Jh286
                              · refine hq_p rfl rfl ?_
                                refine hq_p rfl rfl ?_
                                refine hq_p (ls' := [some (.ref 97), some (.int x1), some (.int z280), some (.int y132), some (.int y98), some (.int y133), some (.int z154), some (.int z157), some (.int z270), some (.int z280)]) rfl rfl ?_
                                refine ty_inc (ls' := fun z290 => [some (.ref 97), some (.int x1), some (.int z280), some (.int y132), some (.int y98), some (.int z290), some (.int z154), some (.int z157), some (.int z270), some (.int z280)]) rfl rfl (fun _ => rfl) (nm_addc nk_i1 (by omega) (by omega)) (fun z290 ez290 => ?_)
                                refine hq_p rfl rfl ?_
                                exact ihn147 ((8 - z290.toInt).toNat) (by omega) z280 y132 z290 (some (.int z154)) (some (.int z157)) (some (.int z270)) (some (.int z280)) h286 rfl (by omega) (by omega) (by omega) (by omega) (by omega) (by omega) rfl rfl rfl rfl Jh286
                            · refine hq_p rfl rfl (ty_ge (n := 10) nk_b10 (fun z291 ez291 => ?_))
                              refine hq_p rfl rfl ?_
                              refine hq_p rfl rfl (ty_ge (n := 10 * y98.toInt) (nm_cmul ez291 (by omega) (by omega)) (fun z292 ez292 => ?_))
                              refine hq_p rfl rfl ?_
                              refine hq_p rfl rfl (ty_ge (n := z292.toInt + y133.toInt) (nm_add (by omega) (by omega)) (fun z293 ez293 => ?_))
                              refine hq_p rfl rfl ?_
                              refine hq_p (ls' := [some (.ref 97), some (.int x1), some (.int y131), some (.int z293), some (.int y98), some (.int y133), some (.int z154), some (.int z157), some (.int z270), some (.int z280)]) rfl rfl ?_
                              refine hq_p rfl rfl ?_
                              refine hq_p rfl rfl ?_
                              refine ty_ige rfl (fun c294 => ?_) (fun c294 => ?_)
                              · refine hq_p rfl rfl ?_
                                refine hq_p (ls' := [some (.ref 97), some (.int x1), some (.int y131), some (.int z293), some (.int y98), some (.int y133), some (.int z154), some (.int z157), some (.int z270), some (.int z280)]) rfl rfl ?_
                                refine ty_inc (ls' := fun z295 => [some (.ref 97), some (.int x1), some (.int y131), some (.int z293), some (.int y98), some (.int z295), some (.int z154), some (.int z157), some (.int z270), some (.int z280)]) rfl rfl (fun _ => rfl) (nm_addc nk_i1 (by omega) (by omega)) (fun z295 ez295 => ?_)
                                refine hq_p rfl rfl ?_
                                exact ihn147 ((8 - z295.toInt).toNat) (by omega) y131 z293 z295 (some (.int z154)) (some (.int z157)) (some (.int z270)) (some (.int z280)) h286 rfl (by omega) (by omega) (by omega) (by omega) (by omega) (by omega) rfl rfl rfl rfl Jh286
                              · refine hq_p rfl rfl ?_
                                refine hq_p rfl rfl ?_
                                refine hq_p (ls' := [some (.ref 97), some (.int x1), some (.int z280), some (.int z293), some (.int y98), some (.int y133), some (.int z154), some (.int z157), some (.int z270), some (.int z280)]) rfl rfl ?_
                                refine ty_inc (ls' := fun z296 => [some (.ref 97), some (.int x1), some (.int z280), some (.int z293), some (.int y98), some (.int z296), some (.int z154), some (.int z157), some (.int z270), some (.int z280)]) rfl rfl (fun _ => rfl) (nm_addc nk_i1 (by omega) (by omega)) (fun z296 ez296 => ?_)
                                refine hq_p rfl rfl ?_
                                exact ihn147 ((8 - z296.toInt).toNat) (by omega) z280 z293 z296 (some (.int z154)) (some (.int z157)) (some (.int z270)) (some (.int z280)) h286 rfl (by omega) (by omega) (by omega) (by omega) (by omega) (by omega) rfl rfl rfl rfl Jh286
          exact L44_n147 _ y96 y97 z122 (w100) (w101) (w102) (w103) h104 rfl (by omega) (by omega) (by omega) (by omega) (by omega) (by omega) kw100 kw101 kw102 kw103 Jh104
    exact L27_n114 _ z12 z13 z14 none none none none none h11 rfl (by omega) (by omega) (by omega) (by omega) (by omega) (by omega) rfl rfl rfl rfl rfl Jh11
  · clear iz7
    refine hq_p rfl rfl (ty_ge (n := -1) nk_im1 (fun z297 ez297 => ?_))
    exact hq_W.ret rfl rfl rfl ⟨Jh2, _, rfl, by omega, by omega⟩
end CT5
