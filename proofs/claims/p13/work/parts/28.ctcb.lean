/-! CONTRACTS (printed by wip/pm/cts.py) -/
section CT9
set_option maxRecDepth 8000 in
set_option maxHeartbeats 20000000 in
theorem ct_58a {X : pm_X} {d : Nat} {h : pm_H} {x2 : Int32} (hd : 2 ≤ d)  : ty_M X ty_Wu d 58 [.ref 81, .ref 64, .int x2, .ref 83] h (ty_pi (-2147483648) 2147483647) := by
  intro J H hJ
  obtain ⟨d, rfl⟩ : ∃ e, d = e + 1 := ⟨d - 1, by omega⟩
  have I := H.1 h hJ
  have ax2 := nm_lo x2
  have bx2 := nm_hi x2
  refine hq_M.enter (q := (⟨"TrainBearers$Sums", "ask", "(LTrainBearers$Text;I[I)I"⟩, _, 10, some .int, 6, 4, pm_c58)) rfl rfl ?_
  show hq_W X d 6 false (some .int) pm_c58 (0, [some (.ref 81), some (.ref 64), some (.int x2), some (.ref 83), none, none, none, none, none, none], [], h) (fun h' v => J h' ∧ (ty_pi (-2147483648) 2147483647) h' v)
  refine hq_p rfl rfl (ty_ge (n := 0) nk_i0 (fun z1 ez1 => ?_))
  refine hq_p (ls' := [some (.ref 81), some (.ref 64), some (.int x2), some (.ref 83), some (.int z1), none, none, none, none, none]) rfl rfl ?_
  refine hq_p rfl rfl (ty_ge (n := 0) nk_i0 (fun z2 ez2 => ?_))
  refine hq_p rfl rfl ?_
  refine ty_callp 1 I rfl (fun _ => rfl) rfl rfl rfl rfl (ct_258 (x0 := z2) (x1 := x2) (by omega)) (fun _ P3 => ?_)
  obtain ⟨z4, rfl, fz4, dz4, oz4⟩ := P3
  have iz4 : 0 ≤ z4.toInt ∧ z4.toInt ≤ 2147483647 := by omega
  clear oz4
  refine hq_p (ls' := [some (.ref 81), some (.ref 64), some (.int x2), some (.ref 83), some (.int z1), some (.int z4), none, none, none, none]) rfl rfl ?_
  have L10_n194 : ∀ n194 : Nat, ∀ (y187 : Int32) (y188 : Int32) (w189 : Option Value) (w190 : Option Value) (w191 : Option Value) (w192 : Option Value) (h193 : pm_H), (1001 - y188.toInt).toNat = n194 → 0 ≤ y187.toInt → y187.toInt ≤ 51 → 0 ≤ y188.toInt → y188.toInt ≤ 2147483647 → pm_two w189 = false → pm_two w190 = false → pm_two w192 = false → J h193 → hq_W X d 6 false (some .int) pm_c58 (10, [some (.ref 81), some (.ref 64), some (.int x2), some (.ref 83), some (.int y187), some (.int y188), w189, w190, w191, w192], [], h193) (fun h' v => J h' ∧ (ty_pi (-2147483648) 2147483647) h' v) := by
    intro n194
    induction n194 using Nat.strongRecOn with
    | ind n194 ihn194 =>
      intro y187 y188 w189 w190 w191 w192 h193 mn194 ay187 by187 ay188 by188 kw189 kw190 kw192 Jh193
      have Ih193 := H.1 h193 Jh193
      refine hq_p rfl rfl ?_
      refine hq_p rfl rfl ?_
      refine ty_gI Ih193 rfl rfl (by decide) (by decide) rfl rfl (fun z195 ez195 az195 bz195 => ?_)
      refine ty_ige rfl (fun c196 => ?_) (fun c196 => ?_)
      · refine hq_p rfl rfl ?_
        refine ty_zle rfl (fun c197 => ?_) (fun c197 => ?_)
        · refine hq_p rfl rfl (ty_ge (n := -2000000000) nk_dm2000000000 (fun z198 ez198 => ?_))
          exact hq_W.ret rfl rfl rfl ⟨Jh193, _, rfl, by omega, by omega⟩
        · refine hq_p rfl rfl ?_
          refine hq_gR Ih193.1 rfl rfl (by decide) (by decide) rfl ?_
          refine hq_p rfl rfl ?_
          refine hq_p rfl rfl (ty_ge (n := 1) nk_i1 (fun z199 ez199 => ?_))
          refine hq_p rfl rfl (ty_ge (n := y187.toInt - z199.toInt) (nm_sub (by omega) (by omega)) (fun z200 ez200 => ?_))
          refine ty_lL Ih193 rfl rfl (by decide) (by omega) (by omega) (fun z201 ez201 az201 bz201 => ?_)
          refine hq_p rfl rfl (ty_ga (fun z202 az202 bz202 => ?_))
          refine hq_p rfl rfl ?_
          exact hq_W.ret rfl rfl rfl ⟨Jh193, _, rfl, by omega, by omega⟩
      · refine hq_p rfl rfl ?_
        refine hq_gR Ih193.1 rfl rfl (by decide) (by decide) rfl ?_
        refine hq_p rfl rfl ?_
        refine ty_aL Ih193 rfl rfl (by decide) (by omega) (by omega) (fun _ _ => ty_le rfl) (fun z203 ez203 az203 bz203 => ?_)
        refine ty_zeq rfl (fun c204 => ?_) (fun c204 => ?_)
        · refine hq_p rfl rfl ?_
          refine ty_zle rfl (fun c205 => ?_) (fun c205 => ?_)
          · refine hq_p rfl rfl (ty_ge (n := -2000000000) nk_dm2000000000 (fun z206 ez206 => ?_))
            exact hq_W.ret rfl rfl rfl ⟨Jh193, _, rfl, by omega, by omega⟩
          · refine hq_p rfl rfl ?_
            refine hq_gR Ih193.1 rfl rfl (by decide) (by decide) rfl ?_
            refine hq_p rfl rfl ?_
            refine hq_p rfl rfl (ty_ge (n := 1) nk_i1 (fun z207 ez207 => ?_))
            refine hq_p rfl rfl (ty_ge (n := y187.toInt - z207.toInt) (nm_sub (by omega) (by omega)) (fun z208 ez208 => ?_))
            refine ty_lL Ih193 rfl rfl (by decide) (by omega) (by omega) (fun z209 ez209 az209 bz209 => ?_)
            refine hq_p rfl rfl (ty_ga (fun z210 az210 bz210 => ?_))
            refine hq_p rfl rfl ?_
            exact hq_W.ret rfl rfl rfl ⟨Jh193, _, rfl, by omega, by omega⟩
        · clear c204
          refine hq_p rfl rfl ?_
          refine hq_gR Ih193.1 rfl rfl (by decide) (by decide) rfl ?_
          refine hq_p rfl rfl ?_
          refine ty_aL Ih193 rfl rfl (by decide) (by omega) (by omega) (fun _ _ => ty_le rfl) (fun z211 ez211 az211 bz211 => ?_)
          refine hq_p (ls' := [some (.ref 81), some (.ref 64), some (.int x2), some (.ref 83), some (.int y187), some (.int y188), some (.int z211), w190, w191, w192]) rfl rfl ?_
          refine hq_p rfl rfl ?_
          refine hq_gR Ih193.1 rfl rfl (by decide) (by decide) rfl ?_
          refine hq_p rfl rfl ?_
          refine ty_aL Ih193 rfl rfl (by decide) (by omega) (by omega) (fun _ _ => ty_le rfl) (fun z212 ez212 az212 bz212 => ?_)
          refine hq_p (ls' := [some (.ref 81), some (.ref 64), some (.int x2), some (.ref 83), some (.int y187), some (.int y188), some (.int z211), some (.int z212), w191, w192]) rfl rfl ?_
          refine hq_p rfl rfl ?_
          refine hq_p rfl rfl (ty_ge (n := 1) nk_i1 (fun z213 ez213 => ?_))
          refine ty_ieq rfl (fun c214 => ?_) (fun c214 => ?_)
          · refine hq_p rfl rfl ?_
            refine ty_zlt rfl (fun c215 => ?_) (fun c215 => ?_)
            · exfalso; omega
            · refine hq_p rfl rfl ?_
              refine hq_p rfl rfl ?_
              refine hq_alen rfl (hs_iarr Ih193.1 rfl (by decide)) rfl (ty_ge (c := Int32.ofNat 21) (n := 21) (by decide) (fun z216 ez216 => ?_))
              refine ty_ige rfl (fun c217 => ?_) (fun c217 => ?_)
              · refine hq_p rfl rfl (ty_ge (n := 0) nk_i0 (fun z218 ez218 => ?_))
                refine hq_p (ls' := [some (.ref 81), some (.ref 64), some (.int x2), some (.ref 83), some (.int y187), some (.int y188), some (.int z211), some (.int z212), some (.int z218), w192]) rfl rfl ?_
                refine hq_p rfl rfl ?_
                refine hq_p rfl rfl ?_
                refine hq_gR Ih193.1 rfl rfl (by decide) (by decide) rfl ?_
                refine hq_alen rfl (hs_larr Ih193.1 rfl (by decide)) rfl (ty_ge (c := Int32.ofNat 51) (n := 51) (by decide) (fun z219 ez219 => ?_))
                refine ty_ige rfl (fun c220 => ?_) (fun c220 => ?_)
                · refine hq_p rfl rfl (ty_ge (n := -2000000000) nk_dm2000000000 (fun z221 ez221 => ?_))
                  exact hq_W.ret rfl rfl rfl ⟨Jh193, _, rfl, by omega, by omega⟩
                · refine hq_p rfl rfl ?_
                  refine hq_p rfl rfl (ty_ge (n := 2) nk_i2 (fun z222 ez222 => ?_))
                  refine ty_ine rfl (fun c223 => ?_) (fun c223 => ?_)
                  · clear c223
                    refine hq_p rfl rfl ?_
                    refine hq_gR Ih193.1 rfl rfl (by decide) (by decide) rfl ?_
                    refine hq_p rfl rfl ?_
                    refine hq_p rfl rfl ?_
                    refine hq_p rfl rfl (ty_ge (n := 1) nk_i1 (fun z224 ez224 => ?_))
                    refine ty_ine rfl (fun c225 => ?_) (fun c225 => ?_)
                    · exfalso; omega
                    · refine hq_p rfl rfl ?_
                      refine hq_p rfl rfl (ty_gle (n := z212.toInt) (nm_i2l _) (fun z226 ez226 => ?_))
                      refine hq_p rfl rfl ?_
                      refine ty_lS (W := ty_Wu) H Jh193 rfl rfl (by decide) (by omega) (by omega) (fun i e => by unfold ty_Wu; omega) (fun h227 eh227 Jh227 => ?_)
                      have Ih227 := H.1 h227 Jh227
                      refine ty_inc (ls' := fun z228 => [some (.ref 81), some (.ref 64), some (.int x2), some (.ref 83), some (.int z228), some (.int y188), some (.int z211), some (.int z212), some (.int z218), w192]) rfl rfl (fun _ => rfl) (nm_addc nk_i1 (by omega) (by omega)) (fun z228 ez228 => ?_)
                      refine hq_p rfl rfl ?_
                      refine ty_inc (ls' := fun z229 => [some (.ref 81), some (.ref 64), some (.int x2), some (.ref 83), some (.int z228), some (.int z229), some (.int z211), some (.int z212), some (.int z218), w192]) rfl rfl (fun _ => rfl) (nm_addc nk_i1 (by omega) (by omega)) (fun z229 ez229 => ?_)
                      refine hq_p rfl rfl ?_
                      exact ihn194 ((1001 - z229.toInt).toNat) (by omega) z228 z229 (some (.int z211)) (some (.int z212)) (some (.int z218)) (w192) h227 rfl (by omega) (by omega) (by omega) (by omega) rfl rfl kw192 Jh227
                  · exfalso; omega
              · refine hq_p rfl rfl (ty_ge (n := 1) nk_i1 (fun z230 ez230 => ?_))
                refine hq_p rfl rfl ?_
                refine hq_p (ls' := [some (.ref 81), some (.ref 64), some (.int x2), some (.ref 83), some (.int y187), some (.int y188), some (.int z211), some (.int z212), some (.int z230), w192]) rfl rfl ?_
                refine hq_p rfl rfl ?_
                refine hq_p rfl rfl ?_
                refine hq_gR Ih193.1 rfl rfl (by decide) (by decide) rfl ?_
                refine hq_alen rfl (hs_larr Ih193.1 rfl (by decide)) rfl (ty_ge (c := Int32.ofNat 51) (n := 51) (by decide) (fun z231 ez231 => ?_))
                refine ty_ige rfl (fun c232 => ?_) (fun c232 => ?_)
                · refine hq_p rfl rfl (ty_ge (n := -2000000000) nk_dm2000000000 (fun z233 ez233 => ?_))
                  exact hq_W.ret rfl rfl rfl ⟨Jh193, _, rfl, by omega, by omega⟩
                · refine hq_p rfl rfl ?_
                  refine hq_p rfl rfl (ty_ge (n := 2) nk_i2 (fun z234 ez234 => ?_))
                  refine ty_ine rfl (fun c235 => ?_) (fun c235 => ?_)
                  · clear c235
                    refine hq_p rfl rfl ?_
                    refine hq_gR Ih193.1 rfl rfl (by decide) (by decide) rfl ?_
                    refine hq_p rfl rfl ?_
                    refine hq_p rfl rfl ?_
                    refine hq_p rfl rfl (ty_ge (n := 1) nk_i1 (fun z236 ez236 => ?_))
                    refine ty_ine rfl (fun c237 => ?_) (fun c237 => ?_)
                    · exfalso; omega
                    · refine hq_p rfl rfl ?_
                      refine hq_p rfl rfl (ty_gle (n := z212.toInt) (nm_i2l _) (fun z238 ez238 => ?_))
                      refine hq_p rfl rfl ?_
                      refine ty_lS (W := ty_Wu) H Jh193 rfl rfl (by decide) (by omega) (by omega) (fun i e => by unfold ty_Wu; omega) (fun h239 eh239 Jh239 => ?_)
                      have Ih239 := H.1 h239 Jh239
                      refine ty_inc (ls' := fun z240 => [some (.ref 81), some (.ref 64), some (.int x2), some (.ref 83), some (.int z240), some (.int y188), some (.int z211), some (.int z212), some (.int z230), w192]) rfl rfl (fun _ => rfl) (nm_addc nk_i1 (by omega) (by omega)) (fun z240 ez240 => ?_)
                      refine hq_p rfl rfl ?_
                      refine ty_inc (ls' := fun z241 => [some (.ref 81), some (.ref 64), some (.int x2), some (.ref 83), some (.int z240), some (.int z241), some (.int z211), some (.int z212), some (.int z230), w192]) rfl rfl (fun _ => rfl) (nm_addc nk_i1 (by omega) (by omega)) (fun z241 ez241 => ?_)
                      refine hq_p rfl rfl ?_
                      exact ihn194 ((1001 - z241.toInt).toNat) (by omega) z240 z241 (some (.int z211)) (some (.int z212)) (some (.int z230)) (w192) h239 rfl (by omega) (by omega) (by omega) (by omega) rfl rfl kw192 Jh239
                  · exfalso; omega
          · clear c214
            refine hq_p rfl rfl ?_
            refine hq_p rfl rfl (ty_ge (n := 2) nk_i2 (fun z242 ez242 => ?_))
            refine ty_ine rfl (fun c243 => ?_) (fun c243 => ?_)
            · clear c243
              refine hq_p rfl rfl ?_
              refine hq_p rfl rfl (ty_ge (n := 3) nk_i3 (fun z244 ez244 => ?_))
              refine ty_ine rfl (fun c245 => ?_) (fun c245 => ?_)
              · clear c245
                refine hq_p rfl rfl ?_
                refine hq_p rfl rfl (ty_ge (n := 4) nk_i4 (fun z246 ez246 => ?_))
                refine ty_ieq rfl (fun c247 => ?_) (fun c247 => ?_)
                · refine hq_p rfl rfl ?_
                  refine ty_zle rfl (fun c248 => ?_) (fun c248 => ?_)
                  · refine hq_p rfl rfl ?_
                    refine hq_p rfl rfl (ty_ge (n := 1) nk_i1 (fun z249 ez249 => ?_))
                    refine ty_ile rfl (fun c250 => ?_) (fun c250 => ?_)
                    · refine ty_inc (ls' := fun z251 => [some (.ref 81), some (.ref 64), some (.int x2), some (.ref 83), some (.int y187), some (.int z251), some (.int z211), some (.int z212), w191, w192]) rfl rfl (fun _ => rfl) (nm_addc nk_i1 (by omega) (by omega)) (fun z251 ez251 => ?_)
                      refine hq_p rfl rfl ?_
                      exact ihn194 ((1001 - z251.toInt).toNat) (by omega) y187 z251 (some (.int z211)) (some (.int z212)) (w191) (w192) h193 rfl (by omega) (by omega) (by omega) (by omega) rfl rfl kw192 Jh193
                    · exfalso; omega
                  · refine hq_p rfl rfl ?_
                    refine hq_gR Ih193.1 rfl rfl (by decide) (by decide) rfl ?_
                    refine hq_p rfl rfl ?_
                    refine hq_p rfl rfl (ty_ge (n := 1) nk_i1 (fun z252 ez252 => ?_))
                    refine hq_p rfl rfl (ty_ge (n := y187.toInt - z252.toInt) (nm_sub (by omega) (by omega)) (fun z253 ez253 => ?_))
                    refine ty_lL Ih193 rfl rfl (by decide) (by omega) (by omega) (fun z254 ez254 az254 bz254 => ?_)
                    refine hq_p rfl rfl ?_
                    refine hq_p rfl rfl (ty_ge (n := 5) nk_i5 (fun z255 ez255 => ?_))
                    refine ty_ine rfl (fun c256 => ?_) (fun c256 => ?_)
                    · clear c256
                      refine hq_p rfl rfl (ty_ge (n := 0) nk_i0 (fun z257 ez257 => ?_))
                      refine hq_p rfl rfl (ty_gle (n := z257.toInt) (nm_i2l _) (fun z258 ez258 => ?_))
                      refine hq_p rfl rfl (ty_gc (fun z259 ez259 => ?_))
                      refine ty_zne rfl (fun c260 => ?_) (fun c260 => ?_)
                      · replace ez259 : z254.toInt ≠ 0 := by omega
                        clear c260
                        refine ty_inc (ls' := fun z261 => [some (.ref 81), some (.ref 64), some (.int x2), some (.ref 83), some (.int z261), some (.int y188), some (.int z211), some (.int z212), w191, w192]) rfl rfl (fun _ => rfl) (nm_addc nk_im1 (by omega) (by omega)) (fun z261 ez261 => ?_)
                        refine hq_p rfl rfl ?_
                        refine ty_inc (ls' := fun z262 => [some (.ref 81), some (.ref 64), some (.int x2), some (.ref 83), some (.int z261), some (.int z262), some (.int z211), some (.int z212), w191, w192]) rfl rfl (fun _ => rfl) (nm_addc nk_i1 (by omega) (by omega)) (fun z262 ez262 => ?_)
                        refine hq_p rfl rfl ?_
                        exact ihn194 ((1001 - z262.toInt).toNat) (by omega) z261 z262 (some (.int z211)) (some (.int z212)) (w191) (w192) h193 rfl (by omega) (by omega) (by omega) (by omega) rfl rfl kw192 Jh193
                      · replace ez259 : z254.toInt = z258.toInt := by omega
                        clear c260
                        refine hq_p rfl rfl ?_
                        refine hq_p rfl rfl ?_
                        refine hq_p rfl rfl (ty_ge (n := 1) nk_i1 (fun z263 ez263 => ?_))
                        refine hq_p rfl rfl (ty_ge (n := z212.toInt - z263.toInt) (nm_sub (by omega) (by omega)) (fun z264 ez264 => ?_))
                        refine ty_callp 1 Ih193 rfl (fun _ => rfl) rfl rfl rfl rfl (ct_258 (x0 := y188) (x1 := z264) (by omega)) (fun _ P265 => ?_)
                        obtain ⟨z266, rfl, fz266, dz266, oz266⟩ := P265
                        have iz266 : 0 ≤ z266.toInt ∧ z266.toInt ≤ 999 := by omega
                        clear oz266
                        refine hq_p (ls' := [some (.ref 81), some (.ref 64), some (.int x2), some (.ref 83), some (.int y187), some (.int z266), some (.int z211), some (.int z212), w191, w192]) rfl rfl ?_
                        refine hq_p rfl rfl ?_
                        refine ty_inc (ls' := fun z267 => [some (.ref 81), some (.ref 64), some (.int x2), some (.ref 83), some (.int y187), some (.int z267), some (.int z211), some (.int z212), w191, w192]) rfl rfl (fun _ => rfl) (nm_addc nk_i1 (by omega) (by omega)) (fun z267 ez267 => ?_)
                        refine hq_p rfl rfl ?_
                        exact ihn194 ((1001 - z267.toInt).toNat) (by omega) y187 z267 (some (.int z211)) (some (.int z212)) (w191) (w192) h193 rfl (by omega) (by omega) (by omega) (by omega) rfl rfl kw192 Jh193
                    · exfalso; omega
                · clear c247
                  refine hq_p rfl rfl ?_
                  refine hq_p rfl rfl (ty_ge (n := 5) nk_i5 (fun z268 ez268 => ?_))
                  refine ty_ine rfl (fun c269 => ?_) (fun c269 => ?_)
                  · clear c269
                    refine hq_p rfl rfl ?_
                    refine hq_p rfl rfl (ty_ge (n := 1) nk_i1 (fun z270 ez270 => ?_))
                    refine ty_ile rfl (fun c271 => ?_) (fun c271 => ?_)
                    · refine ty_inc (ls' := fun z272 => [some (.ref 81), some (.ref 64), some (.int x2), some (.ref 83), some (.int y187), some (.int z272), some (.int z211), some (.int z212), w191, w192]) rfl rfl (fun _ => rfl) (nm_addc nk_i1 (by omega) (by omega)) (fun z272 ez272 => ?_)
                      refine hq_p rfl rfl ?_
                      exact ihn194 ((1001 - z272.toInt).toNat) (by omega) y187 z272 (some (.int z211)) (some (.int z212)) (w191) (w192) h193 rfl (by omega) (by omega) (by omega) (by omega) rfl rfl kw192 Jh193
                    · refine hq_p rfl rfl ?_
                      refine hq_p rfl rfl ?_
                      refine hq_gR Ih193.1 rfl rfl (by decide) (by decide) rfl ?_
                      refine hq_p rfl rfl ?_
                      refine hq_p rfl rfl (ty_ge (n := 2) nk_i2 (fun z273 ez273 => ?_))
                      refine hq_p rfl rfl (ty_ge (n := y187.toInt - z273.toInt) (nm_sub (by omega) (by omega)) (fun z274 ez274 => ?_))
                      refine ty_lL Ih193 rfl rfl (by decide) (by omega) (by omega) (fun z275 ez275 az275 bz275 => ?_)
                      refine hq_p rfl rfl ?_
                      refine hq_gR Ih193.1 rfl rfl (by decide) (by decide) rfl ?_
                      refine hq_p rfl rfl ?_
                      refine hq_p rfl rfl (ty_ge (n := 1) nk_i1 (fun z276 ez276 => ?_))
                      refine hq_p rfl rfl (ty_ge (n := y187.toInt - z276.toInt) (nm_sub (by omega) (by omega)) (fun z277 ez277 => ?_))
                      refine ty_lL Ih193 rfl rfl (by decide) (by omega) (by omega) (fun z278 ez278 az278 bz278 => ?_)
                      refine ty_callp 1 Ih193 rfl (fun _ => rfl) rfl rfl rfl rfl (ct_59 (x0 := z211) (x1 := z275) (x2 := z278) (by omega)) (fun _ P279 => ?_)
                      obtain ⟨z280, rfl⟩ := P279
                      refine hq_p (ls' := [some (.ref 81), some (.ref 64), some (.int x2), some (.ref 83), some (.int y187), some (.int y188), some (.int z211), some (.int z212), some (.long z280), none]) rfl rfl ?_
                      refine hq_p rfl rfl ?_
                      refine hq_p rfl rfl (ty_gle (n := 1000000000) (by decide) (fun z281 ez281 => ?_))
                      refine hq_p rfl rfl (ty_gc (fun z282 ez282 => ?_))
                      refine ty_zgt rfl (fun c283 => ?_) (fun c283 => ?_)
                      · replace ez282 : z280.toInt > z281.toInt := by omega
                        clear c283
                        refine hq_p rfl rfl (ty_ge (n := -2000000000) nk_dm2000000000 (fun z284 ez284 => ?_))
                        exact hq_W.ret rfl rfl rfl ⟨Jh193, _, rfl, by omega, by omega⟩
                      · replace ez282 : z280.toInt ≤ z281.toInt := by omega
                        clear c283
                        refine hq_p rfl rfl ?_
                        refine hq_p rfl rfl (ty_gle (n := -1000000000) (by decide) (fun z285 ez285 => ?_))
                        refine hq_p rfl rfl (ty_gc (fun z286 ez286 => ?_))
                        refine ty_zge rfl (fun c287 => ?_) (fun c287 => ?_)
                        · replace ez286 : z280.toInt ≥ z285.toInt := by omega
                          clear c287
                          refine ty_inc (ls' := fun z288 => [some (.ref 81), some (.ref 64), some (.int x2), some (.ref 83), some (.int z288), some (.int y188), some (.int z211), some (.int z212), some (.long z280), none]) rfl rfl (fun _ => rfl) (nm_addc nk_im1 (by omega) (by omega)) (fun z288 ez288 => ?_)
                          refine hq_p rfl rfl ?_
                          refine hq_gR Ih193.1 rfl rfl (by decide) (by decide) rfl ?_
                          refine hq_p rfl rfl ?_
                          refine hq_p rfl rfl (ty_ge (n := 1) nk_i1 (fun z289 ez289 => ?_))
                          refine hq_p rfl rfl (ty_ge (n := z288.toInt - z289.toInt) (nm_sub (by omega) (by omega)) (fun z290 ez290 => ?_))
                          refine hq_p rfl rfl ?_
                          refine ty_lS (W := ty_Wu) H Jh193 rfl rfl (by decide) (by omega) (by omega) (fun i e => by unfold ty_Wu; omega) (fun h291 eh291 Jh291 => ?_)
                          have Ih291 := H.1 h291 Jh291
                          refine ty_inc (ls' := fun z292 => [some (.ref 81), some (.ref 64), some (.int x2), some (.ref 83), some (.int z288), some (.int z292), some (.int z211), some (.int z212), some (.long z280), none]) rfl rfl (fun _ => rfl) (nm_addc nk_i1 (by omega) (by omega)) (fun z292 ez292 => ?_)
                          refine hq_p rfl rfl ?_
                          exact ihn194 ((1001 - z292.toInt).toNat) (by omega) z288 z292 (some (.int z211)) (some (.int z212)) (some (.long z280)) none h291 rfl (by omega) (by omega) (by omega) (by omega) rfl rfl rfl Jh291
                        · replace ez286 : z280.toInt < z285.toInt := by omega
                          clear c287
                          refine hq_p rfl rfl (ty_ge (n := -2000000000) nk_dm2000000000 (fun z293 ez293 => ?_))
                          exact hq_W.ret rfl rfl rfl ⟨Jh193, _, rfl, by omega, by omega⟩
                  · refine hq_p rfl rfl ?_
                    refine ty_zle rfl (fun c294 => ?_) (fun c294 => ?_)
                    · refine hq_p rfl rfl ?_
                      refine hq_p rfl rfl (ty_ge (n := 1) nk_i1 (fun z295 ez295 => ?_))
                      refine ty_ile rfl (fun c296 => ?_) (fun c296 => ?_)
                      · refine ty_inc (ls' := fun z297 => [some (.ref 81), some (.ref 64), some (.int x2), some (.ref 83), some (.int y187), some (.int z297), some (.int z211), some (.int z212), w191, w192]) rfl rfl (fun _ => rfl) (nm_addc nk_i1 (by omega) (by omega)) (fun z297 ez297 => ?_)
                        refine hq_p rfl rfl ?_
                        exact ihn194 ((1001 - z297.toInt).toNat) (by omega) y187 z297 (some (.int z211)) (some (.int z212)) (w191) (w192) h193 rfl (by omega) (by omega) (by omega) (by omega) rfl rfl kw192 Jh193
                      · exfalso; omega
                    · refine hq_p rfl rfl ?_
                      refine hq_gR Ih193.1 rfl rfl (by decide) (by decide) rfl ?_
                      refine hq_p rfl rfl ?_
                      refine hq_p rfl rfl (ty_ge (n := 1) nk_i1 (fun z298 ez298 => ?_))
                      refine hq_p rfl rfl (ty_ge (n := y187.toInt - z298.toInt) (nm_sub (by omega) (by omega)) (fun z299 ez299 => ?_))
                      refine ty_lL Ih193 rfl rfl (by decide) (by omega) (by omega) (fun z300 ez300 az300 bz300 => ?_)
                      refine hq_p rfl rfl ?_
                      refine hq_p rfl rfl (ty_ge (n := 5) nk_i5 (fun z301 ez301 => ?_))
                      refine ty_ine rfl (fun c302 => ?_) (fun c302 => ?_)
                      · exfalso; omega
                      · refine hq_p rfl rfl (ty_ge (n := 1) nk_i1 (fun z303 ez303 => ?_))
                        refine hq_p rfl rfl ?_
                        refine hq_p rfl rfl (ty_gle (n := z303.toInt) (nm_i2l _) (fun z304 ez304 => ?_))
                        refine hq_p rfl rfl (ty_gc (fun z305 ez305 => ?_))
                        refine ty_zne rfl (fun c306 => ?_) (fun c306 => ?_)
                        · clear ez305 c306
                          refine ty_inc (ls' := fun z307 => [some (.ref 81), some (.ref 64), some (.int x2), some (.ref 83), some (.int z307), some (.int y188), some (.int z211), some (.int z212), w191, w192]) rfl rfl (fun _ => rfl) (nm_addc nk_im1 (by omega) (by omega)) (fun z307 ez307 => ?_)
                          refine hq_p rfl rfl ?_
                          refine ty_inc (ls' := fun z308 => [some (.ref 81), some (.ref 64), some (.int x2), some (.ref 83), some (.int z307), some (.int z308), some (.int z211), some (.int z212), w191, w192]) rfl rfl (fun _ => rfl) (nm_addc nk_i1 (by omega) (by omega)) (fun z308 ez308 => ?_)
                          refine hq_p rfl rfl ?_
                          exact ihn194 ((1001 - z308.toInt).toNat) (by omega) z307 z308 (some (.int z211)) (some (.int z212)) (w191) (w192) h193 rfl (by omega) (by omega) (by omega) (by omega) rfl rfl kw192 Jh193
                        · replace ez305 : z300.toInt = z304.toInt := by omega
                          clear c306
                          refine hq_p rfl rfl ?_
                          refine hq_p rfl rfl ?_
                          refine hq_p rfl rfl (ty_ge (n := 1) nk_i1 (fun z309 ez309 => ?_))
                          refine hq_p rfl rfl (ty_ge (n := z212.toInt - z309.toInt) (nm_sub (by omega) (by omega)) (fun z310 ez310 => ?_))
                          refine ty_callp 1 Ih193 rfl (fun _ => rfl) rfl rfl rfl rfl (ct_258 (x0 := y188) (x1 := z310) (by omega)) (fun _ P311 => ?_)
                          obtain ⟨z312, rfl, fz312, dz312, oz312⟩ := P311
                          have iz312 : 0 ≤ z312.toInt ∧ z312.toInt ≤ 999 := by omega
                          clear oz312
                          refine hq_p (ls' := [some (.ref 81), some (.ref 64), some (.int x2), some (.ref 83), some (.int y187), some (.int z312), some (.int z211), some (.int z212), w191, w192]) rfl rfl ?_
                          refine hq_p rfl rfl ?_
                          refine ty_inc (ls' := fun z313 => [some (.ref 81), some (.ref 64), some (.int x2), some (.ref 83), some (.int y187), some (.int z313), some (.int z211), some (.int z212), w191, w192]) rfl rfl (fun _ => rfl) (nm_addc nk_i1 (by omega) (by omega)) (fun z313 ez313 => ?_)
                          refine hq_p rfl rfl ?_
                          exact ihn194 ((1001 - z313.toInt).toNat) (by omega) y187 z313 (some (.int z211)) (some (.int z212)) (w191) (w192) h193 rfl (by omega) (by omega) (by omega) (by omega) rfl rfl kw192 Jh193
              · refine hq_p rfl rfl ?_
                refine ty_zle rfl (fun c314 => ?_) (fun c314 => ?_)
                · refine hq_p rfl rfl ?_
                  refine hq_p rfl rfl (ty_ge (n := 4) nk_i4 (fun z315 ez315 => ?_))
                  refine ty_ieq rfl (fun c316 => ?_) (fun c316 => ?_)
                  · exfalso; omega
                  · clear c316
                    refine hq_p rfl rfl ?_
                    refine hq_p rfl rfl (ty_ge (n := 5) nk_i5 (fun z317 ez317 => ?_))
                    refine ty_ine rfl (fun c318 => ?_) (fun c318 => ?_)
                    · clear c318
                      refine hq_p rfl rfl ?_
                      refine hq_p rfl rfl (ty_ge (n := 1) nk_i1 (fun z319 ez319 => ?_))
                      refine ty_ile rfl (fun c320 => ?_) (fun c320 => ?_)
                      · refine ty_inc (ls' := fun z321 => [some (.ref 81), some (.ref 64), some (.int x2), some (.ref 83), some (.int y187), some (.int z321), some (.int z211), some (.int z212), w191, w192]) rfl rfl (fun _ => rfl) (nm_addc nk_i1 (by omega) (by omega)) (fun z321 ez321 => ?_)
                        refine hq_p rfl rfl ?_
                        exact ihn194 ((1001 - z321.toInt).toNat) (by omega) y187 z321 (some (.int z211)) (some (.int z212)) (w191) (w192) h193 rfl (by omega) (by omega) (by omega) (by omega) rfl rfl kw192 Jh193
                      · exfalso; omega
                    · exfalso; omega
                · refine hq_p rfl rfl ?_
                  refine hq_gR Ih193.1 rfl rfl (by decide) (by decide) rfl ?_
                  refine hq_p rfl rfl ?_
                  refine hq_p rfl rfl (ty_ge (n := 1) nk_i1 (fun z322 ez322 => ?_))
                  refine hq_p rfl rfl (ty_ge (n := y187.toInt - z322.toInt) (nm_sub (by omega) (by omega)) (fun z323 ez323 => ?_))
                  refine hq_p rfl rfl (ty_gle (n := 1) (by decide) (fun z324 ez324 => ?_))
                  refine hq_p rfl rfl ?_
                  refine hq_gR Ih193.1 rfl rfl (by decide) (by decide) rfl ?_
                  refine hq_p rfl rfl ?_
                  refine hq_p rfl rfl (ty_ge (n := 1) nk_i1 (fun z325 ez325 => ?_))
                  refine hq_p rfl rfl (ty_ge (n := y187.toInt - z325.toInt) (nm_sub (by omega) (by omega)) (fun z326 ez326 => ?_))
                  refine ty_lL Ih193 rfl rfl (by decide) (by omega) (by omega) (fun z327 ez327 az327 bz327 => ?_)
                  refine hq_p rfl rfl (ty_gla (fun z328 az328 bz328 => ?_))
                  refine ty_lS (W := ty_Wu) H Jh193 rfl rfl (by decide) (by omega) (by omega) (fun i e => by unfold ty_Wu; omega) (fun h329 eh329 Jh329 => ?_)
                  have Ih329 := H.1 h329 Jh329
                  refine hq_p rfl rfl ?_
                  refine ty_inc (ls' := fun z330 => [some (.ref 81), some (.ref 64), some (.int x2), some (.ref 83), some (.int y187), some (.int z330), some (.int z211), some (.int z212), w191, w192]) rfl rfl (fun _ => rfl) (nm_addc nk_i1 (by omega) (by omega)) (fun z330 ez330 => ?_)
                  refine hq_p rfl rfl ?_
                  exact ihn194 ((1001 - z330.toInt).toNat) (by omega) y187 z330 (some (.int z211)) (some (.int z212)) (w191) (w192) h329 rfl (by omega) (by omega) (by omega) (by omega) rfl rfl kw192 Jh329
            · refine hq_p rfl rfl ?_
              refine ty_zlt rfl (fun c331 => ?_) (fun c331 => ?_)
              · exfalso; omega
              · refine hq_p rfl rfl ?_
                refine hq_p rfl rfl ?_
                refine hq_alen rfl (hs_iarr Ih193.1 rfl (by decide)) rfl (ty_ge (c := Int32.ofNat 21) (n := 21) (by decide) (fun z332 ez332 => ?_))
                refine ty_ige rfl (fun c333 => ?_) (fun c333 => ?_)
                · refine hq_p rfl rfl (ty_ge (n := 0) nk_i0 (fun z334 ez334 => ?_))
                  refine hq_p (ls' := [some (.ref 81), some (.ref 64), some (.int x2), some (.ref 83), some (.int y187), some (.int y188), some (.int z211), some (.int z212), some (.int z334), w192]) rfl rfl ?_
                  refine hq_p rfl rfl ?_
                  refine hq_p rfl rfl ?_
                  refine hq_gR Ih193.1 rfl rfl (by decide) (by decide) rfl ?_
                  refine hq_alen rfl (hs_larr Ih193.1 rfl (by decide)) rfl (ty_ge (c := Int32.ofNat 51) (n := 51) (by decide) (fun z335 ez335 => ?_))
                  refine ty_ige rfl (fun c336 => ?_) (fun c336 => ?_)
                  · refine hq_p rfl rfl (ty_ge (n := -2000000000) nk_dm2000000000 (fun z337 ez337 => ?_))
                    exact hq_W.ret rfl rfl rfl ⟨Jh193, _, rfl, by omega, by omega⟩
                  · refine hq_p rfl rfl ?_
                    refine hq_p rfl rfl (ty_ge (n := 2) nk_i2 (fun z338 ez338 => ?_))
                    refine ty_ine rfl (fun c339 => ?_) (fun c339 => ?_)
                    · exfalso; omega
                    · refine hq_p rfl rfl ?_
                      refine ty_zne rfl (fun c340 => ?_) (fun c340 => ?_)
                      · exfalso; omega
                      · refine hq_p rfl rfl (ty_ge (n := -2000000000) nk_dm2000000000 (fun z341 ez341 => ?_))
                        exact hq_W.ret rfl rfl rfl ⟨Jh193, _, rfl, by omega, by omega⟩
                · refine hq_p rfl rfl (ty_ge (n := 1) nk_i1 (fun z342 ez342 => ?_))
                  refine hq_p rfl rfl ?_
                  refine hq_p (ls' := [some (.ref 81), some (.ref 64), some (.int x2), some (.ref 83), some (.int y187), some (.int y188), some (.int z211), some (.int z212), some (.int z342), w192]) rfl rfl ?_
                  refine hq_p rfl rfl ?_
                  refine hq_p rfl rfl ?_
                  refine hq_gR Ih193.1 rfl rfl (by decide) (by decide) rfl ?_
                  refine hq_alen rfl (hs_larr Ih193.1 rfl (by decide)) rfl (ty_ge (c := Int32.ofNat 51) (n := 51) (by decide) (fun z343 ez343 => ?_))
                  refine ty_ige rfl (fun c344 => ?_) (fun c344 => ?_)
                  · refine hq_p rfl rfl (ty_ge (n := -2000000000) nk_dm2000000000 (fun z345 ez345 => ?_))
                    exact hq_W.ret rfl rfl rfl ⟨Jh193, _, rfl, by omega, by omega⟩
                  · refine hq_p rfl rfl ?_
                    refine hq_p rfl rfl (ty_ge (n := 2) nk_i2 (fun z346 ez346 => ?_))
                    refine ty_ine rfl (fun c347 => ?_) (fun c347 => ?_)
                    · exfalso; omega
                    · refine hq_p rfl rfl ?_
                      refine ty_zne rfl (fun c348 => ?_) (fun c348 => ?_)
                      · clear c348
                        refine hq_p rfl rfl ?_
                        refine hq_gR Ih193.1 rfl rfl (by decide) (by decide) rfl ?_
                        refine hq_p rfl rfl ?_
                        refine hq_p rfl rfl ?_
                        refine hq_p rfl rfl (ty_ge (n := 1) nk_i1 (fun z349 ez349 => ?_))
                        refine ty_ine rfl (fun c350 => ?_) (fun c350 => ?_)
                        · clear c350
                          refine hq_p rfl rfl ?_
                          refine hq_p rfl rfl ?_
                          refine ty_aL Ih193 rfl rfl (by decide) (by omega) (by omega) (fun _ _ => ty_le rfl) (fun z351 ez351 az351 bz351 => ?_)
                          refine hq_p rfl rfl (ty_gle (n := z351.toInt) (nm_i2l _) (fun z352 ez352 => ?_))
                          refine ty_lS (W := ty_Wu) H Jh193 rfl rfl (by decide) (by omega) (by omega) (fun i e => by unfold ty_Wu; omega) (fun h353 eh353 Jh353 => ?_)
                          have Ih353 := H.1 h353 Jh353
                          refine ty_inc (ls' := fun z354 => [some (.ref 81), some (.ref 64), some (.int x2), some (.ref 83), some (.int z354), some (.int y188), some (.int z211), some (.int z212), some (.int z342), w192]) rfl rfl (fun _ => rfl) (nm_addc nk_i1 (by omega) (by omega)) (fun z354 ez354 => ?_)
                          refine hq_p rfl rfl ?_
                          refine ty_inc (ls' := fun z355 => [some (.ref 81), some (.ref 64), some (.int x2), some (.ref 83), some (.int z354), some (.int z355), some (.int z211), some (.int z212), some (.int z342), w192]) rfl rfl (fun _ => rfl) (nm_addc nk_i1 (by omega) (by omega)) (fun z355 ez355 => ?_)
                          refine hq_p rfl rfl ?_
                          exact ihn194 ((1001 - z355.toInt).toNat) (by omega) z354 z355 (some (.int z211)) (some (.int z212)) (some (.int z342)) (w192) h353 rfl (by omega) (by omega) (by omega) (by omega) rfl rfl kw192 Jh353
                        · exfalso; omega
                      · exfalso; omega
  exact L10_n194 _ z1 z4 none none none none h rfl (by omega) (by omega) (by omega) (by omega) rfl rfl rfl hJ
end CT9
