/-! SMALL METHODS, exactly -/
section PFA
theorem xf_69 {X : pm_X} {N d : Nat} {h : pm_H} {t0 : Nat} {x1 : Int32} (S : hs_Shape h) (ht0 : ty_tr t0) : xq_M X N d 69 [.ref t0, .int x1] h (fun h1 v => h1 = h ∧ (∃ z : Int32, v = some (.int z) ∧ ((z.toInt = 1 ∧ (0 ≤ x1.toInt ∧ x1.toInt < (hs_fI h t0 0).toInt)) ∨ (z.toInt = 0 ∧ (x1.toInt < 0 ∨ (hs_fI h t0 0).toInt ≤ x1.toInt))))) := by
  have sz := S.1
  have lt0 := ty_trl ht0
  have ax1 := nm_lo x1
  have bx1 := nm_hi x1
  refine xq_M.enter (q := (⟨"TrainBearers$Train", "hasYard", "(I)Z"⟩, _, 2, some .boolean, 8, 2, pm_c69)) rfl (fun d => ?_)
  show xq_W X (pm_rn X N d) 8 false (some .boolean) pm_c69 N (0, [some (.ref t0), some (.int x1)], [], h) (fun h1 v => h1 = h ∧ (∃ z : Int32, v = some (.int z) ∧ ((z.toInt = 1 ∧ (0 ≤ x1.toInt ∧ x1.toInt < (hs_fI h t0 0).toInt)) ∨ (z.toInt = 0 ∧ (x1.toInt < 0 ∨ (hs_fI h t0 0).toInt ≤ x1.toInt)))))
  refine xq_p rfl rfl ?_
  refine xq_zlt rfl (fun c1 => ?_) (fun c1 => ?_)
  · refine xq_p rfl rfl (xq_ge (n := 0) nk_i0 (fun z2 ez2 => ?_))
    refine xq_r rfl ⟨rfl, ?_⟩
    first | exact ⟨_, rfl, by omega⟩ | exact rfl | omega
  · refine xq_p rfl rfl ?_
    refine xq_p rfl rfl ?_
    refine xq_gI S rfl (ty_trs ht0) (by omega) rfl (fun z3 ez3 => ?_)
    have tz3 : z3.toInt = (hs_fI h t0 0).toInt := congrArg Int32.toInt ez3
    refine xq_ige rfl (fun c4 => ?_) (fun c4 => ?_)
    · refine xq_p rfl rfl (xq_ge (n := 0) nk_i0 (fun z5 ez5 => ?_))
      refine xq_r rfl ⟨rfl, ?_⟩
      first | exact ⟨_, rfl, by omega⟩ | exact rfl | omega
    · refine xq_p rfl rfl (xq_ge (n := 1) nk_i1 (fun z6 ez6 => ?_))
      refine xq_p rfl rfl ?_
      refine xq_r rfl ⟨rfl, ?_⟩
      first | exact ⟨_, rfl, by omega⟩ | exact rfl | omega

theorem xf_70 {X : pm_X} {N d : Nat} {h : pm_H} {t0 : Nat} {x1 : Int32} (S : hs_Shape h) (ht0 : ty_tr t0) : xq_M X N d 70 [.ref t0, .int x1] h (fun h1 v => h1 = h ∧ (∃ z : Int32, v = some (.int z) ∧ ((z.toInt = 1 ∧ (0 ≤ x1.toInt ∧ x1.toInt < (hs_fI h t0 3).toInt)) ∨ (z.toInt = 0 ∧ (x1.toInt < 0 ∨ (hs_fI h t0 3).toInt ≤ x1.toInt))))) := by
  have sz := S.1
  have lt0 := ty_trl ht0
  have ax1 := nm_lo x1
  have bx1 := nm_hi x1
  refine xq_M.enter (q := (⟨"TrainBearers$Train", "hasGirl", "(I)Z"⟩, _, 2, some .boolean, 8, 2, pm_c70)) rfl (fun d => ?_)
  show xq_W X (pm_rn X N d) 8 false (some .boolean) pm_c70 N (0, [some (.ref t0), some (.int x1)], [], h) (fun h1 v => h1 = h ∧ (∃ z : Int32, v = some (.int z) ∧ ((z.toInt = 1 ∧ (0 ≤ x1.toInt ∧ x1.toInt < (hs_fI h t0 3).toInt)) ∨ (z.toInt = 0 ∧ (x1.toInt < 0 ∨ (hs_fI h t0 3).toInt ≤ x1.toInt)))))
  refine xq_p rfl rfl ?_
  refine xq_zlt rfl (fun c1 => ?_) (fun c1 => ?_)
  · refine xq_p rfl rfl (xq_ge (n := 0) nk_i0 (fun z2 ez2 => ?_))
    refine xq_r rfl ⟨rfl, ?_⟩
    first | exact ⟨_, rfl, by omega⟩ | exact rfl | omega
  · refine xq_p rfl rfl ?_
    refine xq_p rfl rfl ?_
    refine xq_gI S rfl (ty_trs ht0) (by omega) rfl (fun z3 ez3 => ?_)
    have tz3 : z3.toInt = (hs_fI h t0 3).toInt := congrArg Int32.toInt ez3
    refine xq_ige rfl (fun c4 => ?_) (fun c4 => ?_)
    · refine xq_p rfl rfl (xq_ge (n := 0) nk_i0 (fun z5 ez5 => ?_))
      refine xq_r rfl ⟨rfl, ?_⟩
      first | exact ⟨_, rfl, by omega⟩ | exact rfl | omega
    · refine xq_p rfl rfl (xq_ge (n := 1) nk_i1 (fun z6 ez6 => ?_))
      refine xq_p rfl rfl ?_
      refine xq_r rfl ⟨rfl, ?_⟩
      first | exact ⟨_, rfl, by omega⟩ | exact rfl | omega

theorem xf_71 {X : pm_X} {N d : Nat} {h : pm_H} {t0 : Nat} {x1 : Int32} (S : hs_Shape h) (ht0 : ty_tr t0) : xq_M X N d 71 [.ref t0, .int x1] h (fun h1 v => h1 = h ∧ (∃ z : Int32, v = some (.int z) ∧ ((z.toInt = 1 ∧ (0 ≤ x1.toInt ∧ x1.toInt < (hs_fI h t0 14).toInt)) ∨ (z.toInt = 0 ∧ (x1.toInt < 0 ∨ (hs_fI h t0 14).toInt ≤ x1.toInt))))) := by
  have sz := S.1
  have lt0 := ty_trl ht0
  have ax1 := nm_lo x1
  have bx1 := nm_hi x1
  refine xq_M.enter (q := (⟨"TrainBearers$Train", "hasLaw", "(I)Z"⟩, _, 2, some .boolean, 8, 2, pm_c71)) rfl (fun d => ?_)
  show xq_W X (pm_rn X N d) 8 false (some .boolean) pm_c71 N (0, [some (.ref t0), some (.int x1)], [], h) (fun h1 v => h1 = h ∧ (∃ z : Int32, v = some (.int z) ∧ ((z.toInt = 1 ∧ (0 ≤ x1.toInt ∧ x1.toInt < (hs_fI h t0 14).toInt)) ∨ (z.toInt = 0 ∧ (x1.toInt < 0 ∨ (hs_fI h t0 14).toInt ≤ x1.toInt)))))
  refine xq_p rfl rfl ?_
  refine xq_zlt rfl (fun c1 => ?_) (fun c1 => ?_)
  · refine xq_p rfl rfl (xq_ge (n := 0) nk_i0 (fun z2 ez2 => ?_))
    refine xq_r rfl ⟨rfl, ?_⟩
    first | exact ⟨_, rfl, by omega⟩ | exact rfl | omega
  · refine xq_p rfl rfl ?_
    refine xq_p rfl rfl ?_
    refine xq_gI S rfl (ty_trs ht0) (by omega) rfl (fun z3 ez3 => ?_)
    have tz3 : z3.toInt = (hs_fI h t0 14).toInt := congrArg Int32.toInt ez3
    refine xq_ige rfl (fun c4 => ?_) (fun c4 => ?_)
    · refine xq_p rfl rfl (xq_ge (n := 0) nk_i0 (fun z5 ez5 => ?_))
      refine xq_r rfl ⟨rfl, ?_⟩
      first | exact ⟨_, rfl, by omega⟩ | exact rfl | omega
    · refine xq_p rfl rfl (xq_ge (n := 1) nk_i1 (fun z6 ez6 => ?_))
      refine xq_p rfl rfl ?_
      refine xq_r rfl ⟨rfl, ?_⟩
      first | exact ⟨_, rfl, by omega⟩ | exact rfl | omega

theorem xf_128 {X : pm_X} {N d : Nat} {h : pm_H} {x0 : Int32} (S : hs_Shape h)  : xq_M X N d 128 [.int x0] h (fun h1 v => h1 = h ∧ (∃ z : Int32, v = some (.int z) ∧ ((z.toInt = 1 ∧ (0 ≤ x0.toInt ∧ x0.toInt < 6)) ∨ (z.toInt = 0 ∧ (x0.toInt < 0 ∨ 6 ≤ x0.toInt))))) := by
  have sz := S.1
  have ax0 := nm_lo x0
  have bx0 := nm_hi x0
  refine xq_M.enter (q := (⟨"TrainBearers", "isPlace", "(I)Z"⟩, _, 1, some .boolean, 10, 1, pm_c128)) rfl (fun d => ?_)
  show xq_W X (pm_rn X N d) 10 false (some .boolean) pm_c128 N (0, [some (.int x0)], [], h) (fun h1 v => h1 = h ∧ (∃ z : Int32, v = some (.int z) ∧ ((z.toInt = 1 ∧ (0 ≤ x0.toInt ∧ x0.toInt < 6)) ∨ (z.toInt = 0 ∧ (x0.toInt < 0 ∨ 6 ≤ x0.toInt)))))
  refine xq_p rfl rfl ?_
  refine xq_zlt rfl (fun c1 => ?_) (fun c1 => ?_)
  · refine xq_p rfl rfl (xq_ge (n := 0) nk_i0 (fun z2 ez2 => ?_))
    refine xq_r rfl ⟨rfl, ?_⟩
    first | exact ⟨_, rfl, by omega⟩ | exact rfl | omega
  · refine xq_p rfl rfl ?_
    refine xq_p rfl rfl (xq_ge (n := 6) nk_b6 (fun z3 ez3 => ?_))
    refine xq_ige rfl (fun c4 => ?_) (fun c4 => ?_)
    · refine xq_p rfl rfl (xq_ge (n := 0) nk_i0 (fun z5 ez5 => ?_))
      refine xq_r rfl ⟨rfl, ?_⟩
      first | exact ⟨_, rfl, by omega⟩ | exact rfl | omega
    · refine xq_p rfl rfl (xq_ge (n := 1) nk_i1 (fun z6 ez6 => ?_))
      refine xq_p rfl rfl ?_
      refine xq_r rfl ⟨rfl, ?_⟩
      first | exact ⟨_, rfl, by omega⟩ | exact rfl | omega

theorem xf_258 {X : pm_X} {N d : Nat} {h : pm_H} {x0 : Int32} {x1 : Int32} (S : hs_Shape h)  : xq_M X N d 258 [.int x0, .int x1] h (fun h1 v => h1 = h ∧ (∃ z : Int32, v = some (.int z) ∧ ((x0.toInt ≤ x1.toInt ∧ z = x1) ∨ (x1.toInt ≤ x0.toInt ∧ z = x0)))) := by
  have sz := S.1
  have ax0 := nm_lo x0
  have bx0 := nm_hi x0
  have ax1 := nm_lo x1
  have bx1 := nm_hi x1
  refine xq_M.enter (q := (⟨"java/lang/Math", "max", "(II)I"⟩, _, 2, some .int, 14, 2, pm_c258)) rfl (fun d => ?_)
  show xq_W X (pm_rn X N d) 14 false (some .int) pm_c258 N (0, [some (.int x0), some (.int x1)], [], h) (fun h1 v => h1 = h ∧ (∃ z : Int32, v = some (.int z) ∧ ((x0.toInt ≤ x1.toInt ∧ z = x1) ∨ (x1.toInt ≤ x0.toInt ∧ z = x0))))
  refine xq_p rfl rfl ?_
  refine xq_p rfl rfl ?_
  refine xq_ilt rfl (fun c1 => ?_) (fun c1 => ?_)
  · refine xq_p rfl rfl ?_
    refine xq_r rfl ⟨rfl, ?_⟩
    exact ⟨_, rfl, by first | exact Or.inl ⟨by omega, rfl⟩ | exact Or.inr ⟨by omega, rfl⟩⟩
  · refine xq_p rfl rfl ?_
    refine xq_p rfl rfl ?_
    refine xq_r rfl ⟨rfl, ?_⟩
    exact ⟨_, rfl, by first | exact Or.inl ⟨by omega, rfl⟩ | exact Or.inr ⟨by omega, rfl⟩⟩

theorem xf_259 {X : pm_X} {N d : Nat} {h : pm_H} {x0 : Int32} {x1 : Int32} (S : hs_Shape h)  : xq_M X N d 259 [.int x0, .int x1] h (fun h1 v => h1 = h ∧ (∃ z : Int32, v = some (.int z) ∧ ((x0.toInt ≤ x1.toInt ∧ z = x0) ∨ (x1.toInt ≤ x0.toInt ∧ z = x1)))) := by
  have sz := S.1
  have ax0 := nm_lo x0
  have bx0 := nm_hi x0
  have ax1 := nm_lo x1
  have bx1 := nm_hi x1
  refine xq_M.enter (q := (⟨"java/lang/Math", "min", "(II)I"⟩, _, 2, some .int, 14, 2, pm_c259)) rfl (fun d => ?_)
  show xq_W X (pm_rn X N d) 14 false (some .int) pm_c259 N (0, [some (.int x0), some (.int x1)], [], h) (fun h1 v => h1 = h ∧ (∃ z : Int32, v = some (.int z) ∧ ((x0.toInt ≤ x1.toInt ∧ z = x0) ∨ (x1.toInt ≤ x0.toInt ∧ z = x1))))
  refine xq_p rfl rfl ?_
  refine xq_p rfl rfl ?_
  refine xq_igt rfl (fun c1 => ?_) (fun c1 => ?_)
  · refine xq_p rfl rfl ?_
    refine xq_r rfl ⟨rfl, ?_⟩
    exact ⟨_, rfl, by first | exact Or.inl ⟨by omega, rfl⟩ | exact Or.inr ⟨by omega, rfl⟩⟩
  · refine xq_p rfl rfl ?_
    refine xq_p rfl rfl ?_
    refine xq_r rfl ⟨rfl, ?_⟩
    exact ⟨_, rfl, by first | exact Or.inl ⟨by omega, rfl⟩ | exact Or.inr ⟨by omega, rfl⟩⟩

theorem xf_136 {X : pm_X} {N d : Nat} {h : pm_H} {x0 : Int64} {x1 : Int64} {x2 : Int64} (S : hs_Shape h)  : xq_M X N d 136 [.long x0, .long x1, .long x2] h (fun h1 v => h1 = h ∧ (∃ z : Int32, v = some (.int z) ∧ ((z.toInt = 1 ∧ (x1.toInt ≤ x0.toInt ∧ x0.toInt ≤ x2.toInt)) ∨ (z.toInt = 0 ∧ (x0.toInt < x1.toInt ∨ x2.toInt < x0.toInt))))) := by
  have sz := S.1
  have ax0 := nm_llo x0
  have bx0 := nm_lhi x0
  have ax1 := nm_llo x1
  have bx1 := nm_lhi x1
  have ax2 := nm_llo x2
  have bx2 := nm_lhi x2
  refine xq_M.enter (q := (⟨"TrainBearersModel", "in", "(JJJ)Z"⟩, _, 6, some .boolean, 11, 3, pm_c136)) rfl (fun d => ?_)
  show xq_W X (pm_rn X N d) 11 false (some .boolean) pm_c136 N (0, [some (.long x0), none, some (.long x1), none, some (.long x2), none], [], h) (fun h1 v => h1 = h ∧ (∃ z : Int32, v = some (.int z) ∧ ((z.toInt = 1 ∧ (x1.toInt ≤ x0.toInt ∧ x0.toInt ≤ x2.toInt)) ∨ (z.toInt = 0 ∧ (x0.toInt < x1.toInt ∨ x2.toInt < x0.toInt)))))
  refine xq_p rfl rfl ?_
  refine xq_p rfl rfl ?_
  refine xq_p rfl rfl (xq_gc (fun z1 ez1 => ?_))
  refine xq_zlt rfl (fun c2 => ?_) (fun c2 => ?_)
  · have lc2 : x0.toInt < x1.toInt := by omega
    clear ez1 c2
    refine xq_p rfl rfl (xq_ge (n := 0) nk_i0 (fun z3 ez3 => ?_))
    refine xq_r rfl ⟨rfl, ?_⟩
    first | exact ⟨_, rfl, by omega⟩ | exact rfl | omega
  · have lc2 : x0.toInt ≥ x1.toInt := by omega
    clear ez1 c2
    refine xq_p rfl rfl ?_
    refine xq_p rfl rfl ?_
    refine xq_p rfl rfl (xq_gc (fun z4 ez4 => ?_))
    refine xq_zgt rfl (fun c5 => ?_) (fun c5 => ?_)
    · have lc5 : x0.toInt > x2.toInt := by omega
      clear ez4 c5
      refine xq_p rfl rfl (xq_ge (n := 0) nk_i0 (fun z6 ez6 => ?_))
      refine xq_r rfl ⟨rfl, ?_⟩
      first | exact ⟨_, rfl, by omega⟩ | exact rfl | omega
    · have lc5 : x0.toInt ≤ x2.toInt := by omega
      clear ez4 c5
      refine xq_p rfl rfl (xq_ge (n := 1) nk_i1 (fun z7 ez7 => ?_))
      refine xq_p rfl rfl ?_
      refine xq_r rfl ⟨rfl, ?_⟩
      first | exact ⟨_, rfl, by omega⟩ | exact rfl | omega

theorem xf_151 {X : pm_X} {N d : Nat} {h : pm_H} {x0 : Int32} (S : hs_Shape h)  : xq_M X N d 151 [.int x0] h (fun h1 v => h1 = h ∧ (∃ z : Int32, v = some (.int z) ∧ ((z.toInt = 1 ∧ (0 ≤ x0.toInt ∧ x0.toInt < 6)) ∨ (z.toInt = 0 ∧ (x0.toInt < 0 ∨ 6 ≤ x0.toInt))))) := by
  have sz := S.1
  have ax0 := nm_lo x0
  have bx0 := nm_hi x0
  refine xq_M.enter (q := (⟨"TrainBearersModel", "isPlace", "(I)Z"⟩, _, 1, some .boolean, 11, 1, pm_c151)) rfl (fun d => ?_)
  show xq_W X (pm_rn X N d) 11 false (some .boolean) pm_c151 N (0, [some (.int x0)], [], h) (fun h1 v => h1 = h ∧ (∃ z : Int32, v = some (.int z) ∧ ((z.toInt = 1 ∧ (0 ≤ x0.toInt ∧ x0.toInt < 6)) ∨ (z.toInt = 0 ∧ (x0.toInt < 0 ∨ 6 ≤ x0.toInt)))))
  refine xq_p rfl rfl ?_
  refine xq_p rfl rfl (xq_gle (n := x0.toInt) (nm_i2l _) (fun z1 ez1 => ?_))
  refine xq_p rfl rfl (xq_gle (n := 0) (by decide) (fun z2 ez2 => ?_))
  refine xq_p rfl rfl (xq_gle (n := 5) (by decide) (fun z3 ez3 => ?_))
  refine xq_callp 1 rfl (fun _ => rfl) rfl rfl (xf_136 (x0 := z1) (x1 := z2) (x2 := z3)  S ) (fun v5 P4 => ?_)
  obtain ⟨z6, rfl, ⟨ez6, Pz6⟩ | ⟨ez6, Pz6⟩⟩ := P4
  · refine xq_r rfl ⟨rfl, ?_⟩
    first | exact ⟨_, rfl, by omega⟩ | exact rfl | omega
  · refine xq_r rfl ⟨rfl, ?_⟩
    first | exact ⟨_, rfl, by omega⟩ | exact rfl | omega

theorem xf_149 {X : pm_X} {N d : Nat} {h : pm_H} {x1 : Int32} (S : hs_Shape h)  : xq_M X N d 149 [.ref 97, .int x1] h (fun h1 v => h1 = h ∧ (∃ z : Int32, v = some (.int z) ∧ ((z.toInt = 1 ∧ (0 ≤ x1.toInt ∧ x1.toInt < (hs_aI h 99 (0)).toInt)) ∨ (z.toInt = 0 ∧ (x1.toInt < 0 ∨ (hs_aI h 99 (0)).toInt ≤ x1.toInt))))) := by
  have sz := S.1
  have ax1 := nm_lo x1
  have bx1 := nm_hi x1
  refine xq_M.enter (q := (⟨"TrainBearersModel", "isYard", "(I)Z"⟩, _, 2, some .boolean, 11, 2, pm_c149)) rfl (fun d => ?_)
  show xq_W X (pm_rn X N d) 11 false (some .boolean) pm_c149 N (0, [some (.ref 97), some (.int x1)], [], h) (fun h1 v => h1 = h ∧ (∃ z : Int32, v = some (.int z) ∧ ((z.toInt = 1 ∧ (0 ≤ x1.toInt ∧ x1.toInt < (hs_aI h 99 (0)).toInt)) ∨ (z.toInt = 0 ∧ (x1.toInt < 0 ∨ (hs_aI h 99 (0)).toInt ≤ x1.toInt)))))
  refine xq_p rfl rfl ?_
  refine xq_p rfl rfl (xq_gle (n := x1.toInt) (nm_i2l _) (fun z1 ez1 => ?_))
  refine xq_p rfl rfl (xq_gle (n := 0) (by decide) (fun z2 ez2 => ?_))
  refine xq_p rfl rfl ?_
  refine xq_gR S rfl rfl (by decide) rfl ?_
  refine xq_p rfl rfl (xq_ge (n := 0) nk_i0 (fun z3 ez3 => ?_))
  refine xq_aL S rfl rfl (by decide) (fun z4 ez4 az4 bz4 => ?_)
  have tz4 : z4.toInt = (hs_aI h 99 0).toInt := by rw [ez4, show z3.toInt.toNat = 0 by omega]
  have nlz4 := nm_lo z4
  have nhz4 := nm_hi z4
  refine xq_p rfl rfl (xq_gle (n := z4.toInt) (nm_i2l _) (fun z5 ez5 => ?_))
  refine xq_p rfl rfl (xq_gle (n := 1) (by decide) (fun z6 ez6 => ?_))
  refine xq_p rfl rfl (xq_gle (n := z5.toInt - z6.toInt) (nm_lsub (by omega) (by omega)) (fun z7 ez7 => ?_))
  refine xq_callp 1 rfl (fun _ => rfl) rfl rfl (xf_136 (x0 := z1) (x1 := z2) (x2 := z7)  S ) (fun v9 P8 => ?_)
  obtain ⟨z10, rfl, ⟨ez10, Pz10⟩ | ⟨ez10, Pz10⟩⟩ := P8
  · refine xq_r rfl ⟨rfl, ?_⟩
    first | exact ⟨_, rfl, by omega⟩ | exact rfl | omega
  · refine xq_r rfl ⟨rfl, ?_⟩
    first | exact ⟨_, rfl, by omega⟩ | exact rfl | omega

theorem xf_150 {X : pm_X} {N d : Nat} {h : pm_H} {x1 : Int32} (S : hs_Shape h)  : xq_M X N d 150 [.ref 97, .int x1] h (fun h1 v => h1 = h ∧ (∃ z : Int32, v = some (.int z) ∧ ((z.toInt = 1 ∧ (0 ≤ x1.toInt ∧ x1.toInt < (hs_aI h 99 (1)).toInt)) ∨ (z.toInt = 0 ∧ (x1.toInt < 0 ∨ (hs_aI h 99 (1)).toInt ≤ x1.toInt))))) := by
  have sz := S.1
  have ax1 := nm_lo x1
  have bx1 := nm_hi x1
  refine xq_M.enter (q := (⟨"TrainBearersModel", "isGirl", "(I)Z"⟩, _, 2, some .boolean, 11, 2, pm_c150)) rfl (fun d => ?_)
  show xq_W X (pm_rn X N d) 11 false (some .boolean) pm_c150 N (0, [some (.ref 97), some (.int x1)], [], h) (fun h1 v => h1 = h ∧ (∃ z : Int32, v = some (.int z) ∧ ((z.toInt = 1 ∧ (0 ≤ x1.toInt ∧ x1.toInt < (hs_aI h 99 (1)).toInt)) ∨ (z.toInt = 0 ∧ (x1.toInt < 0 ∨ (hs_aI h 99 (1)).toInt ≤ x1.toInt)))))
  refine xq_p rfl rfl ?_
  refine xq_p rfl rfl (xq_gle (n := x1.toInt) (nm_i2l _) (fun z1 ez1 => ?_))
  refine xq_p rfl rfl (xq_gle (n := 0) (by decide) (fun z2 ez2 => ?_))
  refine xq_p rfl rfl ?_
  refine xq_gR S rfl rfl (by decide) rfl ?_
  refine xq_p rfl rfl (xq_ge (n := 1) nk_i1 (fun z3 ez3 => ?_))
  refine xq_aL S rfl rfl (by decide) (fun z4 ez4 az4 bz4 => ?_)
  have tz4 : z4.toInt = (hs_aI h 99 1).toInt := by rw [ez4, show z3.toInt.toNat = 1 by omega]
  have nlz4 := nm_lo z4
  have nhz4 := nm_hi z4
  refine xq_p rfl rfl (xq_gle (n := z4.toInt) (nm_i2l _) (fun z5 ez5 => ?_))
  refine xq_p rfl rfl (xq_gle (n := 1) (by decide) (fun z6 ez6 => ?_))
  refine xq_p rfl rfl (xq_gle (n := z5.toInt - z6.toInt) (nm_lsub (by omega) (by omega)) (fun z7 ez7 => ?_))
  refine xq_callp 1 rfl (fun _ => rfl) rfl rfl (xf_136 (x0 := z1) (x1 := z2) (x2 := z7)  S ) (fun v9 P8 => ?_)
  obtain ⟨z10, rfl, ⟨ez10, Pz10⟩ | ⟨ez10, Pz10⟩⟩ := P8
  · refine xq_r rfl ⟨rfl, ?_⟩
    first | exact ⟨_, rfl, by omega⟩ | exact rfl | omega
  · refine xq_r rfl ⟨rfl, ?_⟩
    first | exact ⟨_, rfl, by omega⟩ | exact rfl | omega
end PFA
