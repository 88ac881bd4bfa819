/-! STRINGS -/
section XFB
theorem xk_d1 : ((1 : Int32)).toInt = 1 := by decide
theorem xb_tab : (pm_strB.all (fun l => l.all (fun c => (((c &&& 255).toUInt32 % 65536).toInt32 == c) && (decide (32 ≤ c.toInt) && decide (c.toInt ≤ 122))))) = true := by decide +kernel
theorem xb_sb {k j : Nat} (hk : k < 23) (hj : (j : Int) < ty_sn k) : ((xq_sb k j &&& 255).toUInt32 % 65536).toInt32 = xq_sb k j ∧ 32 ≤ (xq_sb k j).toInt ∧ (xq_sb k j).toInt ≤ 122 := by
  have hl : k < pm_strB.length := hk
  have q := List.all_eq_true.mp xb_tab (pm_strB[k]'hl) (List.getElem_mem hl)
  have e : pm_strB.getD k [] = pm_strB[k]'hl := by rw [List.getD_eq_getElem?_getD, List.getElem?_eq_getElem hl]; rfl
  unfold ty_sn at hj
  unfold xq_sb
  rw [e] at hj ⊢
  have hj : j < (pm_strB[k]'hl).length := by omega
  have e2 : (pm_strB[k]'hl).getD j 0 = (pm_strB[k]'hl)[j]'hj := by rw [List.getD_eq_getElem?_getD, List.getElem?_eq_getElem hj]; rfl
  have p := List.all_eq_true.mp q _ (List.getElem_mem hj)
  rw [e2]
  rw [Bool.and_eq_true, Bool.and_eq_true, decide_eq_true_eq, decide_eq_true_eq] at p
  exact ⟨eq_of_beq p.1, p.2.1, p.2.2⟩
theorem xf_262 {X : pm_X} {N d : Nat} {h : pm_H} {k0 : Nat} (S : hs_Shape h) (hk0 : k0 < 23) : xq_M X N d 262 [.retAddr k0] h (fun h1 v => h1 = h ∧ (∃ z : Int32, v = some (.int z) ∧ (z.toInt = 0))) := by
  have sz := S.1
  have snk0 := ty_sn0 hk0
  refine xq_M.enter (q := (⟨"java/lang/String", "coder", "()B"⟩, _, 1, some .byte, 15, 1, pm_c262)) rfl (fun d => ?_)
  show xq_W X (pm_rn X N d) 15 false (some .byte) pm_c262 N (0, [some (.retAddr k0)], [], h) (fun h1 v => h1 = h ∧ (∃ z : Int32, v = some (.int z) ∧ (z.toInt = 0)))
  refine xq_p rfl rfl (xq_ge (n := 1) xk_d1 (fun z1 ez1 => ?_))
  refine xq_zeq rfl (fun c2 => ?_) (fun c2 => ?_)
  · exfalso; omega
  · refine xq_p rfl rfl ?_
    refine xq_sc0 hk0 rfl (by decide) (xq_ge (c := 0) (n := 0) nm_0 (fun z3 ez3 => ?_))
    refine xq_p rfl rfl ?_
    refine xq_r rfl ⟨rfl, ?_⟩
    first | exact ⟨_, rfl, by omega⟩ | exact rfl | omega

theorem xf_263 {X : pm_X} {N d : Nat} {h : pm_H} {k0 : Nat} (S : hs_Shape h) (hk0 : k0 < 23) : xq_M X N d 263 [.retAddr k0] h (fun h1 v => h1 = h ∧ (∃ z : Int32, v = some (.int z) ∧ (z.toInt = 1))) := by
  have sz := S.1
  have snk0 := ty_sn0 hk0
  refine xq_M.enter (q := (⟨"java/lang/String", "isLatin1", "()Z"⟩, _, 1, some .boolean, 15, 1, pm_c263)) rfl (fun d => ?_)
  show xq_W X (pm_rn X N d) 15 false (some .boolean) pm_c263 N (0, [some (.retAddr k0)], [], h) (fun h1 v => h1 = h ∧ (∃ z : Int32, v = some (.int z) ∧ (z.toInt = 1)))
  refine xq_p rfl rfl (xq_ge (n := 1) xk_d1 (fun z1 ez1 => ?_))
  refine xq_zeq rfl (fun c2 => ?_) (fun c2 => ?_)
  · exfalso; omega
  · refine xq_p rfl rfl ?_
    refine xq_sc0 hk0 rfl (by decide) (xq_ge (c := 0) (n := 0) nm_0 (fun z3 ez3 => ?_))
    refine xq_zne rfl (fun c4 => ?_) (fun c4 => ?_)
    · exfalso; omega
    · refine xq_p rfl rfl (xq_ge (n := 1) nk_i1 (fun z5 ez5 => ?_))
      refine xq_p rfl rfl ?_
      refine xq_r rfl ⟨rfl, ?_⟩
      first | exact ⟨_, rfl, by omega⟩ | exact rfl | omega

theorem xf_260 {X : pm_X} {N d : Nat} {h : pm_H} {k0 : Nat} (hX : ty_SX X) (S : hs_Shape h) (hk0 : k0 < 23) : xq_M X N d 260 [.retAddr k0] h (fun h1 v => h1 = h ∧ (∃ z : Int32, v = some (.int z) ∧ (z.toInt = ty_sn k0))) := by
  have sz := S.1
  have snk0 := ty_sn0 hk0
  refine xq_M.enter (q := (⟨"java/lang/String", "length", "()I"⟩, _, 1, some .int, 15, 1, pm_c260)) rfl (fun d => ?_)
  show xq_W X (pm_rn X N d) 15 false (some .int) pm_c260 N (0, [some (.retAddr k0)], [], h) (fun h1 v => h1 = h ∧ (∃ z : Int32, v = some (.int z) ∧ (z.toInt = ty_sn k0)))
  refine xq_p rfl rfl ?_
  refine xq_sv0 hk0 rfl ?_
  refine xq_al (ty_sB hX hk0) rfl (xq_ge (n := ty_sn k0) (ty_snI hk0) (fun z1 ez1 => ?_))
  refine xq_p rfl rfl ?_
  refine xq_callp 0 rfl (fun _ => rfl) rfl rfl (xf_262 (k0 := k0)  S hk0) (fun v3 P2 => ?_)
  obtain ⟨z4, rfl, Pz4⟩ := P2
  have rz4 : 0 ≤ z4.toInt ∧ z4.toInt ≤ 0 := by omega
  refine xq_p rfl rfl (xq_ge (n := z1.toInt) (nm_shr0 (by omega)) (fun z5 ez5 => ?_))
  refine xq_r rfl ⟨rfl, ?_⟩
  exact ⟨_, rfl, by omega⟩

theorem xf_268 {X : pm_X} {N d : Nat} {h : pm_H} {x0 : Int32} {x1 : Int32} (S : hs_Shape h)  : xq_M X N d 268 [.int x0, .int x1, .retAddr 300] h (fun h1 v => h1 = h ∧ (∃ z : Int32, v = some (.int z) ∧ (z = x0 ∧ 0 ≤ x0.toInt ∧ x0.toInt < x1.toInt))) := by
  have sz := S.1
  have ax0 := nm_lo x0
  have bx0 := nm_hi x0
  have ax1 := nm_lo x1
  have bx1 := nm_hi x1
  refine xq_M.enter (q := (⟨"jdk/internal/util/Preconditions", "checkIndex", "(IILjava/util/function/BiFunction;)I"⟩, _, 3, some .int, 18, 3, pm_c268)) rfl (fun d => ?_)
  show xq_W X (pm_rn X N d) 18 false (some .int) pm_c268 N (0, [some (.int x0), some (.int x1), some (.retAddr 300)], [], h) (fun h1 v => h1 = h ∧ (∃ z : Int32, v = some (.int z) ∧ (z = x0 ∧ 0 ≤ x0.toInt ∧ x0.toInt < x1.toInt)))
  refine xq_p rfl rfl ?_
  refine xq_zlt rfl (fun c1 => ?_) (fun c1 => ?_)
  · refine xq_p rfl rfl ?_
    refine xq_p rfl rfl ?_
    refine xq_p rfl rfl ?_
    exact xq_no rfl rfl
  · refine xq_p rfl rfl ?_
    refine xq_p rfl rfl ?_
    refine xq_ilt rfl (fun c2 => ?_) (fun c2 => ?_)
    · refine xq_p rfl rfl ?_
      refine xq_r rfl ⟨rfl, ?_⟩
      exact ⟨_, rfl, rfl, by omega, by omega⟩
    · refine xq_p rfl rfl ?_
      refine xq_p rfl rfl ?_
      refine xq_p rfl rfl ?_
      exact xq_no rfl rfl

theorem xf_264 {X : pm_X} {N d : Nat} {h : pm_H} {x0 : Int32} {x1 : Int32} (S : hs_Shape h)  : xq_M X N d 264 [.int x0, .int x1] h (fun h1 v => h1 = h ∧ (v = none ∧ (0 ≤ x0.toInt ∧ x0.toInt < x1.toInt))) := by
  have sz := S.1
  have ax0 := nm_lo x0
  have bx0 := nm_hi x0
  have ax1 := nm_lo x1
  have bx1 := nm_hi x1
  refine xq_M.enter (q := (⟨"java/lang/String", "checkIndex", "(II)V"⟩, _, 2, none, 15, 2, pm_c264)) rfl (fun d => ?_)
  show xq_W X (pm_rn X N d) 15 false (none) pm_c264 N (0, [some (.int x0), some (.int x1)], [], h) (fun h1 v => h1 = h ∧ (v = none ∧ (0 ≤ x0.toInt ∧ x0.toInt < x1.toInt)))
  refine xq_p rfl rfl ?_
  refine xq_p rfl rfl ?_
  refine xq_p rfl rfl ?_
  refine xq_callp 1 rfl (fun _ => rfl) rfl rfl (xf_268 (x0 := x0) (x1 := x1)  S ) (fun v2 P1 => ?_)
  obtain ⟨z3, rfl, Pz3⟩ := P1
  refine xq_p rfl rfl ?_
  refine xq_rv rfl rfl ⟨rfl, ?_⟩
  exact ⟨rfl, by omega⟩

theorem xf_265 {X : pm_X} {N d : Nat} {h : pm_H} {k0 : Nat} {x1 : Int32} (hX : ty_SX X) (S : hs_Shape h) (hk0 : k0 < 23) : xq_M X N d 265 [.retAddr (100 + k0), .int x1] h (fun h1 v => h1 = h ∧ (∃ z : Int32, v = some (.int z) ∧ (z = xq_sb k0 x1.toInt.toNat ∧ 0 ≤ x1.toInt ∧ x1.toInt < ty_sn k0))) := by
  have sz := S.1
  have ax1 := nm_lo x1
  have bx1 := nm_hi x1
  refine xq_M.enter (q := (⟨"java/lang/StringLatin1", "charAt", "([BI)C"⟩, _, 2, some .char, 16, 2, pm_c265)) rfl (fun d => ?_)
  show xq_W X (pm_rn X N d) 16 false (some .char) pm_c265 N (0, [some (.retAddr (100 + k0)), some (.int x1)], [], h) (fun h1 v => h1 = h ∧ (∃ z : Int32, v = some (.int z) ∧ (z = xq_sb k0 x1.toInt.toNat ∧ 0 ≤ x1.toInt ∧ x1.toInt < ty_sn k0)))
  refine xq_p rfl rfl ?_
  refine xq_p rfl rfl ?_
  refine xq_al (ty_sB hX hk0) rfl (xq_ge (n := ty_sn k0) (ty_snI hk0) (fun z1 ez1 => ?_))
  refine xq_callp 1 rfl (fun _ => rfl) rfl rfl (xf_264 (x0 := x1) (x1 := z1)  S ) (fun v3 P2 => ?_)
  obtain ⟨rfl, P2⟩ := P2
  refine xq_p rfl rfl ?_
  refine xq_p rfl rfl ?_
  refine xq_sbl hX hk0 rfl (fun z4 ez4 az4 bz4 => ?_)
  refine xq_p rfl rfl (xq_ge (n := 255) nk_s255 (fun z5 ez5 => ?_))
  refine xq_p rfl rfl (xq_gi (fun z6 ez6 => ?_))
  replace ez6 : z6 = z4 &&& z5 := ez6
  have bz6 : 0 ≤ z6.toInt ∧ z6.toInt ≤ 255 := by rw [ez6]; have q := nm_and_r (x := z4) (y := z5) (by omega); omega
  refine xq_p rfl rfl (xq_gi (fun z7 ez7 => ?_))
  replace ez7 : z7 = (z6.toUInt32 % 65536).toInt32 := ez7
  have ez_and : z6 = z4 &&& 255 := by rw [ez6, show z5 = 255 from nm_eqi.mpr (by rw [ez5]; decide)]
  have ez_b : z4 = xq_sb k0 x1.toInt.toNat := ez4
  refine xq_r rfl ⟨rfl, ?_⟩
  exact ⟨_, rfl, by rw [ez7, ez_and, ez_b]; exact (xb_sb hk0 (by omega)).1, by omega, by omega⟩

theorem xf_261 {X : pm_X} {N d : Nat} {h : pm_H} {k0 : Nat} {x1 : Int32} (hX : ty_SX X) (S : hs_Shape h) (hk0 : k0 < 23) : xq_M X N d 261 [.retAddr k0, .int x1] h (fun h1 v => h1 = h ∧ (∃ z : Int32, v = some (.int z) ∧ (z = xq_sb k0 x1.toInt.toNat ∧ 0 ≤ x1.toInt ∧ x1.toInt < ty_sn k0))) := by
  have sz := S.1
  have snk0 := ty_sn0 hk0
  have ax1 := nm_lo x1
  have bx1 := nm_hi x1
  refine xq_M.enter (q := (⟨"java/lang/String", "charAt", "(I)C"⟩, _, 2, some .char, 15, 2, pm_c261)) rfl (fun d => ?_)
  show xq_W X (pm_rn X N d) 15 false (some .char) pm_c261 N (0, [some (.retAddr k0), some (.int x1)], [], h) (fun h1 v => h1 = h ∧ (∃ z : Int32, v = some (.int z) ∧ (z = xq_sb k0 x1.toInt.toNat ∧ 0 ≤ x1.toInt ∧ x1.toInt < ty_sn k0)))
  refine xq_p rfl rfl ?_
  refine xq_callp 0 rfl (fun _ => rfl) rfl rfl (xf_263 (k0 := k0)  S hk0) (fun v2 P1 => ?_)
  obtain ⟨z3, rfl, Pz3⟩ := P1
  have rz3 : 1 ≤ z3.toInt ∧ z3.toInt ≤ 1 := by omega
  refine xq_zeq rfl (fun c4 => ?_) (fun c4 => ?_)
  · exfalso; omega
  · refine xq_p rfl rfl ?_
    refine xq_sv0 hk0 rfl ?_
    refine xq_p rfl rfl ?_
    refine xq_callp 1 rfl (fun _ => rfl) rfl rfl (xf_265 (k0 := k0) (x1 := x1) hX S hk0) (fun v6 P5 => ?_)
    obtain ⟨z7, rfl, Pz7⟩ := P5
    refine xq_r rfl ⟨rfl, ?_⟩
    exact ⟨_, rfl, Pz7⟩
end XFB
