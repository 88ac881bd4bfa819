/-! CONTRACTS (printed by wip/pm/cts.py) -/
section CT31
def ty_Wdp (a k : Nat) : Prop := a = 200 ∨ (a = 97 ∧ (k = 34 ∨ k = 38 ∨ k = 39 ∨ k = 40)) ∨ a = 115 ∨ a = 117 ∨ a = 118
def ty_Wj (a k : Nat) : Prop := a = 200 ∨ (a = 97 ∧ (k = 34 ∨ k = 38 ∨ k = 39 ∨ k = 40)) ∨ a = 115 ∨ a = 117 ∨ a = 118 ∨ a = 119 ∨ (a = 99 ∧ 8 ≤ k ∧ k < 26)
/-- one draw -/
def ty_Wdr (a k : Nat) : Prop := a = 97 ∧ k = 55
def ty_Whz (a k : Nat) : Prop := a = 202 ∨ (a = 99 ∧ (k = 5 ∨ (18 ≤ k ∧ k < 26)))
theorem ct_139e {X : pm_X} {d : Nat} {h : pm_H} {x0 : Int64} {x1 : Int32} {x2 : Int32} (hd : 1 ≤ d) (ax1 : 0 ≤ x1.toInt) (bx1 : x1.toInt ≤ 0) (ax2 : 0 ≤ x2.toInt) (bx2 : x2.toInt ≤ 10000) : ty_M X ty_W0 d 139 [.long x0, .int x1, .int x2] h (fun _ v => ∃ z : Int32, v = some (.int z) ∧ 0 ≤ z.toInt ∧ z.toInt ≤ x2.toInt ∧ (x0.toInt ≤ z.toInt ∨ z.toInt = x2.toInt)) := by
  intro J H hJ
  obtain ⟨d, rfl⟩ : ∃ e, d = e + 1 := ⟨d - 1, by omega⟩
  have I := H.1 h hJ
  have ax0 := nm_llo x0
  have bx0 := nm_lhi x0
  refine hq_M.enter (q := (⟨"TrainBearersModel", "within", "(JII)I"⟩, _, 4, some .int, 11, 3, pm_c139)) rfl rfl ?_
  show hq_W X d 11 false (some .int) pm_c139 (0, [some (.long x0), none, some (.int x1), some (.int x2)], [], h) (fun h' v => J h' ∧ (fun _ v => ∃ z : Int32, v = some (.int z) ∧ 0 ≤ z.toInt ∧ z.toInt ≤ x2.toInt ∧ (x0.toInt ≤ z.toInt ∨ z.toInt = x2.toInt)) h' v)
  refine hq_p rfl rfl ?_
  refine hq_p rfl rfl ?_
  refine hq_p rfl rfl (ty_gle (n := x1.toInt) (nm_i2l _) (fun z1 ez1 => ?_))
  refine hq_p rfl rfl (ty_gc (fun z2 ez2 => ?_))
  refine ty_zge rfl (fun c3 => ?_) (fun c3 => ?_)
  · replace ez2 : x0.toInt ≥ z1.toInt := by omega
    clear c3
    refine hq_p rfl rfl ?_
    refine hq_p rfl rfl ?_
    refine hq_p rfl rfl (ty_gle (n := x2.toInt) (nm_i2l _) (fun z4 ez4 => ?_))
    refine hq_p rfl rfl (ty_gc (fun z5 ez5 => ?_))
    refine ty_zle rfl (fun c6 => ?_) (fun c6 => ?_)
    · replace ez5 : x0.toInt ≤ z4.toInt := by omega
      clear c6
      refine hq_p rfl rfl ?_
      refine hq_p rfl rfl (ty_ge (n := x0.toInt) (nm_l2i (by omega) (by omega)) (fun z7 ez7 => ?_))
      exact hq_W.ret rfl rfl rfl ⟨hJ, _, rfl, by omega, by omega, by omega⟩
    · replace ez5 : x0.toInt > z4.toInt := by omega
      clear c6
      refine hq_p rfl rfl ?_
      refine hq_p rfl rfl ?_
      exact hq_W.ret rfl rfl rfl ⟨hJ, _, rfl, by omega, by omega, by omega⟩
  · replace ez2 : x0.toInt < z1.toInt := by omega
    clear c3
    refine hq_p rfl rfl ?_
    refine hq_p rfl rfl ?_
    exact hq_W.ret rfl rfl rfl ⟨hJ, _, rfl, by omega, by omega, by omega⟩
theorem ct_214b {X : pm_X} {d : Nat} {h : pm_H}  (hd : 7 ≤ d)  : ty_M X ty_Wdp d 214 [.ref 97] h ty_pv := by
  intro J H hJ
  obtain ⟨d, rfl⟩ : ∃ e, d = e + 1 := ⟨d - 1, by omega⟩
  have I := H.1 h hJ
  refine hq_M.enter (q := (⟨"TrainBearersModel", "layDips", "()V"⟩, _, 2, none, 11, 1, pm_c214)) rfl rfl ?_
  show hq_W X d 11 false (none) pm_c214 (0, [some (.ref 97), none], [], h) (fun h' v => J h' ∧ ty_pv h' v)
  refine hq_p rfl rfl (ty_ge (n := 0) nk_i0 (fun z1 ez1 => ?_))
  refine hq_p (ls' := [some (.ref 97), some (.int z1)]) rfl rfl ?_
  have L2_n24 : ∀ n24 : Nat, ∀ (y20 : Int32) (h21 : pm_H), (8 - y20.toInt).toNat = n24 → 0 ≤ y20.toInt → y20.toInt ≤ 8 → J h21 → hq_W X d 11 false (none) pm_c214 (2, [some (.ref 97), some (.int y20)], [], h21) (fun h' v => J h' ∧ ty_pv h' v) := by
    intro n24
    induction n24 using Nat.strongRecOn with
    | ind n24 ihn24 =>
      intro y20 h21 mn24 ay20 by20 Jh21
      have Ih21 := H.1 h21 Jh21
      refine hq_p rfl rfl ?_
      refine hq_p rfl rfl ?_
      refine hq_gR Ih21.1 rfl rfl (by decide) (by decide) rfl ?_
      refine hq_p rfl rfl (ty_ge (n := 0) nk_i0 (fun z25 ez25 => ?_))
      refine ty_aL Ih21 rfl rfl (by decide) (by omega) (by omega) (fun i e => ty_le (ty_w0 (by omega) (by omega))) (fun z26 ez26 az26 bz26 => ?_)
      rw [show z25.toInt.toNat = 0 by omega] at ez26
      refine ty_ige rfl (fun c27 => ?_) (fun c27 => ?_)
      · exact hq_W.ret rfl rfl rfl ⟨Jh21, rfl⟩
      · refine hq_p rfl rfl ?_
        refine hq_gR Ih21.1 rfl rfl (by decide) (by decide) rfl ?_
        refine hq_p rfl rfl ?_
        refine hq_p rfl rfl ?_
        refine hq_p rfl rfl ?_
        refine hq_p rfl rfl ?_
        refine hq_p rfl rfl ?_
        refine ty_callp 0 Ih21 rfl (fun _ => rfl) rfl rfl rfl (hq_pre_o Ih21.1 (x := 97) (ci := 11) rfl (by decide) rfl rfl rfl rfl) (ct_152 (x1 := y20) (by omega)) (fun _ P28 => ?_)
        obtain ⟨z29, rfl, az29, bz29⟩ := P28
        refine ty_callj 0 (W := ty_Wdp) H Jh21 rfl (fun _ => rfl) rfl rfl rfl (hq_pre_o Ih21.1 (x := 97) (ci := 11) rfl (by decide) rfl rfl rfl rfl) (fun a k w => by unfold ty_Wy at w; unfold ty_Wdp; omega) (by unfold ty_Wy ty_Wdp; omega) (ct_207 (x1 := y20) (x2 := z29) (by omega) (by omega) (by omega)) (fun h31 _ Jh31 P30 => ?_)
        have Ih31 := H.1 h31 Jh31
        obtain ⟨z32, rfl, az32, bz32⟩ := P30
        refine ty_aS (W := ty_Wdp) H Jh31 rfl rfl (by decide) (by omega) (by omega) (fun i e => by unfold ty_Wdp; omega) (fun _ _ => ty_eg rfl) (by omega) (by omega) (fun e1 e2 w => by omega) (fun h33 eh33 Jh33 => ?_)
        have Ih33 := H.1 h33 Jh33
        refine ty_inc (ls' := fun z34 => [some (.ref 97), some (.int z34)]) rfl rfl (fun _ => rfl) (nm_addc nk_i1 (by omega) (by omega)) (fun z34 ez34 => ?_)
        refine hq_p rfl rfl ?_
        exact ihn24 ((8 - z34.toInt).toNat) (by omega) z34 h33 rfl (by omega) (by omega) Jh33
  exact L2_n24 _ z1 h rfl (by omega) (by omega) hJ
set_option maxRecDepth 8000 in
theorem ct_216b {X : pm_X} {d : Nat} {h : pm_H} {x1 : Int32} (hd : 8 ≤ d) (ax1 : 0 ≤ x1.toInt) (bx1 : x1.toInt ≤ 5) : ty_M X ty_Wj d 216 [.ref 97, .int x1] h (fun h1 v => (∃ z : Int32, v = some (.int z) ∧ 0 ≤ z.toInt ∧ z.toInt ≤ 792) ∧ (hs_aI h1 99 8).toInt = x1.toInt ∧ (hs_aI h 99 9).toInt ≤ (hs_aI h1 99 9).toInt) := by
  intro J H hJ
  obtain ⟨d, rfl⟩ : ∃ e, d = e + 1 := ⟨d - 1, by omega⟩
  have I := H.1 h hJ
  obtain ⟨q9, eq9⟩ : ∃ q : Int32, q.toInt = (hs_aI h 99 9).toInt := ⟨_, rfl⟩
  have gq90 : 0 ≤ (hs_aI h 99 9).toInt := (I.2.2.2.1 99 9 (by decide) (by decide)).1
  have gq91 : (hs_aI h 99 9).toInt ≤ 9999 := (I.2.2.2.1 99 9 (by decide) (by decide)).2
  refine hq_M.enter (q := (⟨"TrainBearersModel", "walkIt", "(I)I"⟩, _, 5, some .int, 11, 2, pm_c216)) rfl rfl ?_
  show hq_W X d 11 false (some .int) pm_c216 (0, [some (.ref 97), some (.int x1), none, none, none], [], h) (fun h' v => J h' ∧ (fun h1 v => (∃ z : Int32, v = some (.int z) ∧ 0 ≤ z.toInt ∧ z.toInt ≤ 792) ∧ (hs_aI h1 99 8).toInt = x1.toInt ∧ (hs_aI h 99 9).toInt ≤ (hs_aI h1 99 9).toInt) h' v)
  refine hq_p rfl rfl ?_
  refine hq_gR I.1 rfl rfl (by decide) (by decide) rfl ?_
  refine hq_p rfl rfl (ty_ge (n := 50) nk_b50 (fun z1 ez1 => ?_))
  refine hq_p rfl rfl (ty_ge (n := 6) nk_b6 (fun z2 ez2 => ?_))
  refine hq_p rfl rfl ?_
  refine hq_gR I.1 rfl rfl (by decide) (by decide) rfl ?_
  refine hq_p rfl rfl (ty_ge (n := 8) nk_b8 (fun z3 ez3 => ?_))
  refine ty_aL I rfl rfl (by decide) (by omega) (by omega) (fun i e => ty_le (ty_w8 (by omega) (by omega))) (fun z4 ez4 az4 bz4 => ?_)
  rw [show z3.toInt.toNat = 8 by omega] at ez4
  refine hq_p rfl rfl (ty_ge (n := 6 * z4.toInt) (nm_cmul ez2 (by omega) (by omega)) (fun z5 ez5 => ?_))
  refine hq_p rfl rfl (ty_ge (n := z1.toInt + z5.toInt) (nm_add (by omega) (by omega)) (fun z6 ez6 => ?_))
  refine hq_p rfl rfl ?_
  refine hq_p rfl rfl (ty_ge (n := z6.toInt + x1.toInt) (nm_add (by omega) (by omega)) (fun z7 ez7 => ?_))
  refine ty_aL I rfl rfl (by decide) (by omega) (by omega) (fun i e => ty_le (ty_w50 (by omega) (by omega))) (fun z8 ez8 az8 bz8 => ?_)
  refine hq_p (ls' := [some (.ref 97), some (.int x1), some (.int z8), none, none]) rfl rfl ?_
  refine hq_p rfl rfl ?_
  refine ty_callm 0 [(1, 99, 9)] (W := ty_Wj) H hJ rfl (fun _ => rfl) rfl rfl rfl (hq_pre_o I.1 (x := 97) (ci := 11) rfl (by decide) rfl rfl rfl rfl) (fun a k w => by unfold ty_Wy at w; unfold ty_Wj; omega) (by unfold ty_Wy ty_Wj; omega) (ct_208 (by omega)) ⟨⟨rfl, show ¬ ty_Wy 99 9 by unfold ty_Wy; omega⟩, trivial⟩ (fun h10 _ Jh10 gh10 P9 => ?_)
  obtain ⟨gh10_0, _⟩ := gh10
  have gh10_0 : (hs_aI h10 99 9).toInt = (hs_aI h 99 9).toInt := gh10_0
  have Ih10 := H.1 h10 Jh10
  obtain ⟨z11, rfl, az11, bz11⟩ := P9
  refine hq_p (ls' := [some (.ref 97), some (.int x1), some (.int z8), some (.int z11), none]) rfl rfl ?_
  refine hq_p rfl rfl ?_
  refine ty_callm 0 [(1, 99, 9)] (W := ty_Wj) H Jh10 rfl (fun _ => rfl) rfl rfl rfl (hq_pre_o Ih10.1 (x := 97) (ci := 11) rfl (by decide) rfl rfl rfl rfl) (fun a k w => by unfold ty_Wdp at w; unfold ty_Wj; omega) (by unfold ty_Wdp ty_Wj; omega) (ct_214b (by omega)) ⟨⟨rfl, show ¬ ty_Wdp 99 9 by unfold ty_Wdp; omega⟩, trivial⟩ (fun h13 _ Jh13 gh13 P12 => ?_)
  obtain ⟨gh13_0, _⟩ := gh13
  have gh13_0 : (hs_aI h13 99 9).toInt = (hs_aI h10 99 9).toInt := gh13_0
  have Ih13 := H.1 h13 Jh13
  subst P12
  refine hq_p rfl rfl (ty_ge (n := 0) nk_i0 (fun z14 ez14 => ?_))
  refine hq_p (ls' := [some (.ref 97), some (.int x1), some (.int z8), some (.int z11), some (.int z14)]) rfl rfl ?_
  have L33_n37 : ∀ n37 : Nat, ∀ (y33 : Int32) (h34 : pm_H), (8 - y33.toInt).toNat = n37 → 0 ≤ y33.toInt → y33.toInt ≤ 8 → (hs_aI h34 99 9).toInt = (hs_aI h13 99 9).toInt → J h34 → hq_W X d 11 false (some .int) pm_c216 (33, [some (.ref 97), some (.int x1), some (.int z8), some (.int z11), some (.int y33)], [], h34) (fun h' v => J h' ∧ (fun h1 v => (∃ z : Int32, v = some (.int z) ∧ 0 ≤ z.toInt ∧ z.toInt ≤ 792) ∧ (hs_aI h1 99 8).toInt = x1.toInt ∧ (hs_aI h 99 9).toInt ≤ (hs_aI h1 99 9).toInt) h' v) := by
    intro n37
    induction n37 using Nat.strongRecOn with
    | ind n37 ihn37 =>
      intro y33 h34 mn37 ay33 by33 x0n37 Jh34
      have Ih34 := H.1 h34 Jh34
      refine hq_p rfl rfl ?_
      refine hq_p rfl rfl ?_
      refine hq_gR Ih34.1 rfl rfl (by decide) (by decide) rfl ?_
      refine hq_p rfl rfl (ty_ge (n := 1) nk_i1 (fun z38 ez38 => ?_))
      refine ty_aL Ih34 rfl rfl (by decide) (by omega) (by omega) (fun i e => ty_le (ty_w0 (by omega) (by omega))) (fun z39 ez39 az39 bz39 => ?_)
      rw [show z38.toInt.toNat = 1 by omega] at ez39
      refine ty_ige rfl (fun c40 => ?_) (fun c40 => ?_)
      · refine hq_p rfl rfl ?_
        refine hq_gR Ih34.1 rfl rfl (by decide) (by decide) rfl ?_
        refine hq_p rfl rfl (ty_ge (n := 9) nk_b9 (fun z41 ez41 => ?_))
        refine hq_p rfl rfl ?_
        refine hq_gR Ih34.1 rfl rfl (by decide) (by decide) rfl ?_
        refine hq_p rfl rfl (ty_ge (n := 9) nk_b9 (fun z42 ez42 => ?_))
        refine ty_aL Ih34 rfl rfl (by decide) (by omega) (by omega) (fun i e => ty_le (ty_w9 (by omega) (by omega))) (fun z43 ez43 az43 bz43 => ?_)
        rw [show z42.toInt.toNat = 9 by omega] at ez43
        refine hq_p rfl rfl ?_
        refine hq_p rfl rfl (ty_ge (n := z43.toInt + z11.toInt) (nm_add (by omega) (by omega)) (fun z44 ez44 => ?_))
        refine hq_p rfl rfl (ty_gle (n := z44.toInt) (nm_i2l _) (fun z45 ez45 => ?_))
        refine hq_p rfl rfl (ty_ge (n := 0) nk_i0 (fun z46 ez46 => ?_))
        refine hq_p rfl rfl (ty_ge (n := 9999) nk_s9999 (fun z47 ez47 => ?_))
        refine ty_callp 1 Ih34 rfl (fun _ => rfl) rfl rfl rfl rfl (ct_139e (x0 := z45) (x1 := z46) (x2 := z47) (by omega) (by omega) (by omega) (by omega) (by omega)) (fun _ P48 => ?_)
        obtain ⟨z49, rfl, az49, bz49, oz49⟩ := P48
        have m9 : (hs_aI h 99 9).toInt ≤ z49.toInt := by omega
        clear oz49
        refine ty_aS (W := ty_Wj) H Jh34 rfl rfl (by decide) (by omega) (by omega) (fun i e => by unfold ty_Wj; omega) (fun i e => ty_eg (ty_w9 (by omega) (by omega))) (by omega) (by omega) (fun e1 e2 w => by omega) (fun h50 eh50 Jh50 => ?_)
        have Ih50 := H.1 h50 Jh50
        have w9 : (hs_aI h50 99 9).toInt = z49.toInt := by rw [eh50, ty_aI_eq (show 9 = z41.toInt.toNat by omega)]
        refine hq_p rfl rfl (ty_ge (n := 0) nk_i0 (fun z51 ez51 => ?_))
        refine hq_p (ls' := [some (.ref 97), some (.int x1), some (.int z8), some (.int z11), some (.int z51)]) rfl rfl ?_
        have L109_n74 : ∀ n74 : Nat, ∀ (y70 : Int32) (h71 : pm_H), (8 - y70.toInt).toNat = n74 → 0 ≤ y70.toInt → y70.toInt ≤ 8 → (hs_aI h71 99 9).toInt = (hs_aI h50 99 9).toInt → J h71 → hq_W X d 11 false (some .int) pm_c216 (109, [some (.ref 97), some (.int x1), some (.int z8), some (.int z11), some (.int y70)], [], h71) (fun h' v => J h' ∧ (fun h1 v => (∃ z : Int32, v = some (.int z) ∧ 0 ≤ z.toInt ∧ z.toInt ≤ 792) ∧ (hs_aI h1 99 8).toInt = x1.toInt ∧ (hs_aI h 99 9).toInt ≤ (hs_aI h1 99 9).toInt) h' v) := by
          intro n74
          induction n74 using Nat.strongRecOn with
          | ind n74 ihn74 =>
            intro y70 h71 mn74 ay70 by70 x0n74 Jh71
            have Ih71 := H.1 h71 Jh71
            refine hq_p rfl rfl ?_
            refine hq_p rfl rfl ?_
            refine hq_gR Ih71.1 rfl rfl (by decide) (by decide) rfl ?_
            refine hq_p rfl rfl (ty_ge (n := 0) nk_i0 (fun z75 ez75 => ?_))
            refine ty_aL Ih71 rfl rfl (by decide) (by omega) (by omega) (fun i e => ty_le (ty_w0 (by omega) (by omega))) (fun z76 ez76 az76 bz76 => ?_)
            rw [show z75.toInt.toNat = 0 by omega] at ez76
            refine ty_ige rfl (fun c77 => ?_) (fun c77 => ?_)
            · refine hq_p rfl rfl (ty_ge (n := 0) nk_i0 (fun z78 ez78 => ?_))
              refine hq_p (ls' := [some (.ref 97), some (.int x1), some (.int z8), some (.int z11), some (.int z78)]) rfl rfl ?_
              have L172_n101 : ∀ n101 : Nat, ∀ (y97 : Int32) (h98 : pm_H), (8 - y97.toInt).toNat = n101 → 0 ≤ y97.toInt → y97.toInt ≤ 8 → (hs_aI h98 99 9).toInt = (hs_aI h71 99 9).toInt → J h98 → hq_W X d 11 false (some .int) pm_c216 (172, [some (.ref 97), some (.int x1), some (.int z8), some (.int z11), some (.int y97)], [], h98) (fun h' v => J h' ∧ (fun h1 v => (∃ z : Int32, v = some (.int z) ∧ 0 ≤ z.toInt ∧ z.toInt ≤ 792) ∧ (hs_aI h1 99 8).toInt = x1.toInt ∧ (hs_aI h 99 9).toInt ≤ (hs_aI h1 99 9).toInt) h' v) := by
                intro n101
                induction n101 using Nat.strongRecOn with
                | ind n101 ihn101 =>
                  intro y97 h98 mn101 ay97 by97 x0n101 Jh98
                  have Ih98 := H.1 h98 Jh98
                  refine hq_p rfl rfl ?_
                  refine hq_p rfl rfl ?_
                  refine hq_gR Ih98.1 rfl rfl (by decide) (by decide) rfl ?_
                  refine hq_p rfl rfl (ty_ge (n := 1) nk_i1 (fun z102 ez102 => ?_))
                  refine ty_aL Ih98 rfl rfl (by decide) (by omega) (by omega) (fun i e => ty_le (ty_w0 (by omega) (by omega))) (fun z103 ez103 az103 bz103 => ?_)
                  rw [show z102.toInt.toNat = 1 by omega] at ez103
                  refine ty_ige rfl (fun c104 => ?_) (fun c104 => ?_)
                  · refine hq_p rfl rfl ?_
                    refine hq_gR Ih98.1 rfl rfl (by decide) (by decide) rfl ?_
                    refine hq_p rfl rfl (ty_ge (n := 8) nk_b8 (fun z105 ez105 => ?_))
                    refine hq_p rfl rfl ?_
                    refine ty_aS (W := ty_Wj) H Jh98 rfl rfl (by decide) (by omega) (by omega) (fun i e => by unfold ty_Wj; omega) (fun i e => ty_eg (ty_w8 (by omega) (by omega))) (by omega) (by omega) (fun e1 e2 w => by omega) (fun h106 eh106 Jh106 => ?_)
                    have Ih106 := H.1 h106 Jh106
                    have r107 : (hs_aI h106 99 9).toInt = (hs_aI h98 99 9).toInt := by rw [eh106]; exact congrArg Int32.toInt (ty_aI_sA (by omega))
                    refine hq_p rfl rfl ?_
                    exact hq_W.ret rfl rfl rfl ⟨Jh106, ⟨_, rfl, by omega, by omega⟩, (by rw [eh106, ty_aI_eq (show 8 = z105.toInt.toNat by omega)]), by omega⟩
                  · refine hq_p rfl rfl ?_
                    refine hq_gR Ih98.1 rfl rfl (by decide) (by decide) rfl ?_
                    refine hq_p rfl rfl (ty_ge (n := 18) nk_b18 (fun z108 ez108 => ?_))
                    refine hq_p rfl rfl ?_
                    refine hq_p rfl rfl (ty_ge (n := z108.toInt + y97.toInt) (nm_add (by omega) (by omega)) (fun z109 ez109 => ?_))
                    refine hq_p rfl rfl ?_
                    refine hq_gR Ih98.1 rfl rfl (by decide) (by decide) rfl ?_
                    refine hq_p rfl rfl (ty_ge (n := 18) nk_b18 (fun z110 ez110 => ?_))
                    refine hq_p rfl rfl ?_
                    refine hq_p rfl rfl (ty_ge (n := z110.toInt + y97.toInt) (nm_add (by omega) (by omega)) (fun z111 ez111 => ?_))
                    refine ty_aL Ih98 rfl rfl (by decide) (by omega) (by omega) (fun i e => ty_le (ty_w18 (by omega) (by omega))) (fun z112 ez112 az112 bz112 => ?_)
                    refine hq_p rfl rfl ?_
                    refine hq_gR Ih98.1 rfl rfl (by decide) (by decide) rfl ?_
                    refine hq_p rfl rfl ?_
                    refine ty_aL Ih98 rfl rfl (by decide) (by omega) (by omega) (fun _ _ => ty_le rfl) (fun z113 ez113 az113 bz113 => ?_)
                    refine hq_p rfl rfl (ty_ga (fun z114 az114 bz114 => ?_))
                    refine hq_p rfl rfl (ty_gle (n := z114.toInt) (nm_i2l _) (fun z115 ez115 => ?_))
                    refine hq_p rfl rfl (ty_ge (n := 0) nk_i0 (fun z116 ez116 => ?_))
                    refine hq_p rfl rfl (ty_ge (n := 9) nk_b9 (fun z117 ez117 => ?_))
                    refine ty_callp 1 Ih98 rfl (fun _ => rfl) rfl rfl rfl rfl (ct_139e (x0 := z115) (x1 := z116) (x2 := z117) (by omega) (by omega) (by omega) (by omega) (by omega)) (fun _ P118 => ?_)
                    obtain ⟨z119, rfl, az119, bz119, oz119⟩ := P118
                    clear oz119
                    refine ty_aS (W := ty_Wj) H Jh98 rfl rfl (by decide) (by omega) (by omega) (fun i e => by unfold ty_Wj; omega) (fun i e => ty_eg (ty_w18 (by omega) (by omega))) (by omega) (by omega) (fun e1 e2 w => by omega) (fun h120 eh120 Jh120 => ?_)
                    have Ih120 := H.1 h120 Jh120
                    refine ty_inc (ls' := fun z121 => [some (.ref 97), some (.int x1), some (.int z8), some (.int z11), some (.int z121)]) rfl rfl (fun _ => rfl) (nm_addc nk_i1 (by omega) (by omega)) (fun z121 ez121 => ?_)
                    refine hq_p rfl rfl ?_
                    have r122 : (hs_aI h120 99 9).toInt = (hs_aI h98 99 9).toInt := by rw [eh120]; exact congrArg Int32.toInt (ty_aI_sA (by omega))
                    exact ihn101 ((8 - z121.toInt).toNat) (by omega) z121 h120 rfl (by omega) (by omega) (by omega) Jh120
              exact L172_n101 _ z78 h71 rfl (by omega) (by omega) (by omega) Jh71
            · refine hq_p rfl rfl ?_
              refine hq_gR Ih71.1 rfl rfl (by decide) (by decide) rfl ?_
              refine hq_p rfl rfl (ty_ge (n := 10) nk_b10 (fun z123 ez123 => ?_))
              refine hq_p rfl rfl ?_
              refine hq_p rfl rfl (ty_ge (n := z123.toInt + y70.toInt) (nm_add (by omega) (by omega)) (fun z124 ez124 => ?_))
              refine hq_p rfl rfl ?_
              refine hq_gR Ih71.1 rfl rfl (by decide) (by decide) rfl ?_
              refine hq_p rfl rfl (ty_ge (n := 10) nk_b10 (fun z125 ez125 => ?_))
              refine hq_p rfl rfl ?_
              refine hq_p rfl rfl (ty_ge (n := z125.toInt + y70.toInt) (nm_add (by omega) (by omega)) (fun z126 ez126 => ?_))
              refine ty_aL Ih71 rfl rfl (by decide) (by omega) (by omega) (fun i e => ty_le (ty_w10 (by omega) (by omega))) (fun z127 ez127 az127 bz127 => ?_)
              refine hq_p rfl rfl ?_
              refine hq_gR Ih71.1 rfl rfl (by decide) (by decide) rfl ?_
              refine hq_p rfl rfl ?_
              refine ty_aL Ih71 rfl rfl (by decide) (by omega) (by omega) (fun _ _ => ty_le rfl) (fun z128 ez128 az128 bz128 => ?_)
              refine ty_zle rfl (fun c129 => ?_) (fun c129 => ?_)
              · refine hq_p rfl rfl (ty_ge (n := 0) nk_i0 (fun z130 ez130 => ?_))
                refine hq_p rfl rfl (ty_ge (n := z127.toInt + z130.toInt) (nm_add (by omega) (by omega)) (fun z131 ez131 => ?_))
                refine hq_p rfl rfl (ty_gle (n := z131.toInt) (nm_i2l _) (fun z132 ez132 => ?_))
                refine hq_p rfl rfl (ty_ge (n := 0) nk_i0 (fun z133 ez133 => ?_))
                refine hq_p rfl rfl (ty_ge (n := 9) nk_b9 (fun z134 ez134 => ?_))
                refine ty_callp 1 Ih71 rfl (fun _ => rfl) rfl rfl rfl rfl (ct_139e (x0 := z132) (x1 := z133) (x2 := z134) (by omega) (by omega) (by omega) (by omega) (by omega)) (fun _ P135 => ?_)
                obtain ⟨z136, rfl, az136, bz136, oz136⟩ := P135
                clear oz136
                refine ty_aS (W := ty_Wj) H Jh71 rfl rfl (by decide) (by omega) (by omega) (fun i e => by unfold ty_Wj; omega) (fun i e => ty_eg (ty_w10 (by omega) (by omega))) (by omega) (by omega) (fun e1 e2 w => by omega) (fun h137 eh137 Jh137 => ?_)
                have Ih137 := H.1 h137 Jh137
                refine ty_inc (ls' := fun z138 => [some (.ref 97), some (.int x1), some (.int z8), some (.int z11), some (.int z138)]) rfl rfl (fun _ => rfl) (nm_addc nk_i1 (by omega) (by omega)) (fun z138 ez138 => ?_)
                refine hq_p rfl rfl ?_
                have r139 : (hs_aI h137 99 9).toInt = (hs_aI h71 99 9).toInt := by rw [eh137]; exact congrArg Int32.toInt (ty_aI_sA (by omega))
                exact ihn74 ((8 - z138.toInt).toNat) (by omega) z138 h137 rfl (by omega) (by omega) (by omega) Jh137
              · refine hq_p rfl rfl (ty_ge (n := 1) nk_i1 (fun z140 ez140 => ?_))
                refine hq_p rfl rfl ?_
                refine hq_p rfl rfl (ty_ge (n := z127.toInt + z140.toInt) (nm_add (by omega) (by omega)) (fun z141 ez141 => ?_))
                refine hq_p rfl rfl (ty_gle (n := z141.toInt) (nm_i2l _) (fun z142 ez142 => ?_))
                refine hq_p rfl rfl (ty_ge (n := 0) nk_i0 (fun z143 ez143 => ?_))
                refine hq_p rfl rfl (ty_ge (n := 9) nk_b9 (fun z144 ez144 => ?_))
                refine ty_callp 1 Ih71 rfl (fun _ => rfl) rfl rfl rfl rfl (ct_139e (x0 := z142) (x1 := z143) (x2 := z144) (by omega) (by omega) (by omega) (by omega) (by omega)) (fun _ P145 => ?_)
                obtain ⟨z146, rfl, az146, bz146, oz146⟩ := P145
                clear oz146
                refine ty_aS (W := ty_Wj) H Jh71 rfl rfl (by decide) (by omega) (by omega) (fun i e => by unfold ty_Wj; omega) (fun i e => ty_eg (ty_w10 (by omega) (by omega))) (by omega) (by omega) (fun e1 e2 w => by omega) (fun h147 eh147 Jh147 => ?_)
                have Ih147 := H.1 h147 Jh147
                refine ty_inc (ls' := fun z148 => [some (.ref 97), some (.int x1), some (.int z8), some (.int z11), some (.int z148)]) rfl rfl (fun _ => rfl) (nm_addc nk_i1 (by omega) (by omega)) (fun z148 ez148 => ?_)
                refine hq_p rfl rfl ?_
                have r149 : (hs_aI h147 99 9).toInt = (hs_aI h71 99 9).toInt := by rw [eh147]; exact congrArg Int32.toInt (ty_aI_sA (by omega))
                exact ihn74 ((8 - z148.toInt).toNat) (by omega) z148 h147 rfl (by omega) (by omega) (by omega) Jh147
        exact L109_n74 _ z51 h50 rfl (by omega) (by omega) (by omega) Jh50
      · refine hq_p rfl rfl ?_
        refine hq_gR Ih34.1 rfl rfl (by decide) (by decide) rfl ?_
        refine hq_p rfl rfl ?_
        refine hq_p rfl rfl ?_
        refine hq_gR Ih34.1 rfl rfl (by decide) (by decide) rfl ?_
        refine hq_p rfl rfl (ty_ge (n := 26) nk_b26 (fun z150 ez150 => ?_))
        refine hq_p rfl rfl ?_
        refine hq_p rfl rfl (ty_ge (n := z150.toInt + y33.toInt) (nm_add (by omega) (by omega)) (fun z151 ez151 => ?_))
        refine ty_aL Ih34 rfl rfl (by decide) (by omega) (by omega) (fun i e => ty_le (ty_w26 (by omega) (by omega))) (fun z152 ez152 az152 bz152 => ?_)
        refine hq_p rfl rfl (ty_ge (n := -1) nk_im1 (fun z153 ez153 => ?_))
        refine ty_ine rfl (fun c154 => ?_) (fun c154 => ?_)
        · replace c154 : 0 ≤ z152.toInt ∧ z152.toInt ≤ 7 := by omega
          refine hq_p rfl rfl ?_
          refine hq_p rfl rfl ?_
          refine hq_p rfl rfl ?_
          refine ty_callm 0 [(1, 99, 9)] (W := ty_Wj) H Jh34 rfl (fun _ => rfl) rfl rfl rfl (hq_pre_o Ih34.1 (x := 97) (ci := 11) rfl (by decide) rfl rfl rfl rfl) (fun a k w => by unfold ty_Wy at w; unfold ty_Wj; omega) (by unfold ty_Wy ty_Wj; omega) (ct_205 (x1 := y33) (x2 := z8) (by omega) (by omega) (by omega)) ⟨⟨rfl, show ¬ ty_Wy 99 9 by unfold ty_Wy; omega⟩, trivial⟩ (fun h156 _ Jh156 gh156 P155 => ?_)
          obtain ⟨gh156_0, _⟩ := gh156
          have gh156_0 : (hs_aI h156 99 9).toInt = (hs_aI h34 99 9).toInt := gh156_0
          have Ih156 := H.1 h156 Jh156
          obtain ⟨z157, rfl, az157, bz157⟩ := P155
          refine ty_aS (W := ty_Wj) H Jh156 rfl rfl (by decide) (by omega) (by omega) (fun i e => by unfold ty_Wj; omega) (fun _ _ => ty_eg rfl) (by omega) (by omega) (fun e1 e2 w => by omega) (fun h158 eh158 Jh158 => ?_)
          have Ih158 := H.1 h158 Jh158
          refine ty_inc (ls' := fun z159 => [some (.ref 97), some (.int x1), some (.int z8), some (.int z11), some (.int z159)]) rfl rfl (fun _ => rfl) (nm_addc nk_i1 (by omega) (by omega)) (fun z159 ez159 => ?_)
          refine hq_p rfl rfl ?_
          have r160 : (hs_aI h158 99 9).toInt = (hs_aI h156 99 9).toInt := by rw [eh158]; exact congrArg Int32.toInt (ty_aI_ne (by omega))
          exact ihn37 ((8 - z159.toInt).toNat) (by omega) z159 h158 rfl (by omega) (by omega) (by omega) Jh158
        · refine hq_p rfl rfl (ty_ge (n := 0) nk_i0 (fun z161 ez161 => ?_))
          refine hq_p rfl rfl ?_
          refine ty_aS (W := ty_Wj) H Jh34 rfl rfl (by decide) (by omega) (by omega) (fun i e => by unfold ty_Wj; omega) (fun _ _ => ty_eg rfl) (by omega) (by omega) (fun e1 e2 w => by omega) (fun h162 eh162 Jh162 => ?_)
          have Ih162 := H.1 h162 Jh162
          refine ty_inc (ls' := fun z163 => [some (.ref 97), some (.int x1), some (.int z8), some (.int z11), some (.int z163)]) rfl rfl (fun _ => rfl) (nm_addc nk_i1 (by omega) (by omega)) (fun z163 ez163 => ?_)
          refine hq_p rfl rfl ?_
          have r164 : (hs_aI h162 99 9).toInt = (hs_aI h34 99 9).toInt := by rw [eh162]; exact congrArg Int32.toInt (ty_aI_ne (by omega))
          exact ihn37 ((8 - z163.toInt).toNat) (by omega) z163 h162 rfl (by omega) (by omega) (by omega) Jh162
  exact L33_n37 _ z14 h13 rfl (by omega) (by omega) (by omega) Jh13
end CT31
