/-! WP RULES of the loop-free methods (printed by wip/pm/wpall.py) -/
theorem wp_125 {X : pm_X} {d : Nat} {h : pm_H} {Q : pm_H → Option Value → Prop} {x1 : Int32} (hd : 1 ≤ d) (S : hs_Shape h)
    (b1 : ∀ h1, h1 = hs_sF h 0 10 14 (.int x1) → hs_Shape h1 → h1.1 = h.1 → h1.2.1 = h.2.1 → (pm_cmp0 .ge x1 = false) → (pm_cmp .le x1 (-(Int32.ofNat 7)) = false) → 0 ≤ ((-x1)).toInt ∧ ((-x1)).toInt < (7 : Nat))
    (b2 : ∀ h1, h1 = hs_sF h 0 10 14 (.int x1) → hs_Shape h1 → h1.1 = h.1 → h1.2.1 = h.2.1 → (pm_cmp0 .ge x1 = false) → (pm_cmp .le x1 (-(Int32.ofNat 7)) = false) → 0 ≤ ((-x1)).toInt ∧ ((-x1)).toInt < (7 : Nat))
    (k1 : ∀ h1, h1 = hs_sF h 0 10 14 (.int x1) → hs_Shape h1 → h1.1 = h.1 → h1.2.1 = h.2.1 → (pm_cmp0 .ge x1 = true) → Q h1 (some (.int x1)))
    (k2 : ∀ h1, h1 = hs_sF h 0 10 14 (.int x1) → hs_Shape h1 → h1.1 = h.1 → h1.2.1 = h.2.1 → (pm_cmp0 .ge x1 = false) → (pm_cmp .le x1 (-(Int32.ofNat 7)) = true) → Q h1 (some (.int x1)))
    (k3 : ∀ h1, h1 = hs_sF h 0 10 14 (.int x1) → hs_Shape h1 → h1.1 = h.1 → h1.2.1 = h.2.1 → (pm_cmp0 .ge x1 = false) → (pm_cmp .le x1 (-(Int32.ofNat 7)) = false) → ∀ h4, h4 = hs_sA h1 96 0 7 ((-x1)).toNatClampNeg ((hs_aI h1 96 ((-x1)).toNatClampNeg) + (Int32.ofInt 1)) → hs_Shape h4 → h4.1 = h1.1 → h4.2.1 = h1.2.1 → Q h4 (some (.int x1)))
    : hq_M X d 125 [.ref 0, .int x1] h Q := by
  obtain ⟨d, rfl⟩ : ∃ e, d = e + 1 := ⟨d - 1, by omega⟩
  refine hq_M.enter (q := (⟨"TrainBearers", "refuse", "(I)I"⟩, _, 2, some .int, 10, 2, pm_c125)) rfl rfl ?_
  show hq_W X d 10 false (some .int) pm_c125 (0, [some (.ref 0), some (.int x1)], [], h) Q
  refine hq_p rfl rfl ?_
  refine hq_p rfl rfl ?_
  refine hq_pFo S rfl rfl (by decide) rfl rfl ⟨_, rfl⟩ (fun h1 e1 S1 p1 q1 => ?_)
  refine hq_p rfl rfl ?_
  refine hq_if rfl (fun c2 => ?_) (fun c2 => ?_)
  · refine hq_p rfl rfl ?_
    exact hq_W.ret rfl rfl rfl (k1 h1 e1 S1 p1 q1 c2)
  · refine hq_p rfl rfl ?_
    refine hq_p rfl rfl ?_
    refine hq_gR S1 rfl rfl (by decide) (by decide) rfl ?_
    refine hq_alen rfl (hs_iarr S1 (a := 96) rfl (by decide)) rfl ?_
    refine hq_p rfl rfl ?_
    refine hq_ifi rfl (fun c3 => ?_) (fun c3 => ?_)
    · refine hq_p rfl rfl ?_
      exact hq_W.ret rfl rfl rfl (k2 h1 e1 S1 p1 q1 c2 c3)
    · refine hq_p rfl rfl ?_
      refine hq_gR S1 rfl rfl (by decide) (by decide) rfl ?_
      refine hq_p rfl rfl ?_
      refine hq_p rfl rfl ?_
      refine hq_p rfl rfl ?_
      refine hq_aL S1 rfl rfl (by decide) (b1 h1 e1 S1 p1 q1 c2 c3).1 (b1 h1 e1 S1 p1 q1 c2 c3).2 ?_
      refine hq_p rfl rfl ?_
      refine hq_p rfl rfl ?_
      refine hq_aSo S1 rfl rfl (by decide) (b2 h1 e1 S1 p1 q1 c2 c3).1 (b2 h1 e1 S1 p1 q1 c2 c3).2 (fun h4 e4 S4 p4 q4 => ?_)
      refine hq_p rfl rfl ?_
      exact hq_W.ret rfl rfl rfl (k3 h1 e1 S1 p1 q1 c2 c3 h4 e4 S4 p4 q4)
theorem wp_128 {X : pm_X} {d : Nat} {h : pm_H} {Q : pm_H → Option Value → Prop} {x1 : Int32} (hd : 1 ≤ d) (S : hs_Shape h)
    (k1 : (pm_cmp0 .lt x1 = true) → Q h (some (.int (Int32.ofInt 0))))
    (k2 : (pm_cmp0 .lt x1 = false) → (pm_cmp .ge x1 (Int8.ofInt (6)).toInt32 = true) → Q h (some (.int (Int32.ofInt 0))))
    (k3 : (pm_cmp0 .lt x1 = false) → (pm_cmp .ge x1 (Int8.ofInt (6)).toInt32 = false) → Q h (some (.int (Int32.ofInt 1))))
    : hq_M X d 128 [.int x1] h Q := by
  obtain ⟨d, rfl⟩ : ∃ e, d = e + 1 := ⟨d - 1, by omega⟩
  refine hq_M.enter (q := (⟨"TrainBearers", "isPlace", "(I)Z"⟩, _, 1, some .boolean, 10, 1, pm_c128)) rfl rfl ?_
  show hq_W X d 10 false (some .boolean) pm_c128 (0, [some (.int x1)], [], h) Q
  refine hq_p rfl rfl ?_
  refine hq_if rfl (fun c1 => ?_) (fun c1 => ?_)
  · refine hq_p rfl rfl ?_
    exact hq_W.ret rfl rfl rfl (k1 c1)
  · refine hq_p rfl rfl ?_
    refine hq_p rfl rfl ?_
    refine hq_ifi rfl (fun c2 => ?_) (fun c2 => ?_)
    · refine hq_p rfl rfl ?_
      exact hq_W.ret rfl rfl rfl (k2 c1 c2)
    · refine hq_p rfl rfl ?_
      refine hq_p rfl rfl ?_
      exact hq_W.ret rfl rfl rfl (k3 c1 c2)
theorem wp_129 {X : pm_X} {d : Nat} {h : pm_H} {Q : pm_H → Option Value → Prop} {x1 : Int32} {x2 : Int32} {x3 : Int32} (hd : 2 ≤ d) (S : hs_Shape h)
    (k1 : (pm_cmp0 .lt x1 = true) → (pm_cmp0 .eq (Int32.ofInt 0) = true) → Q h (some (.int (Int32.ofInt 0))))
    (k2 : (pm_cmp0 .lt x1 = false) → (pm_cmp .ge x1 (Int8.ofInt (6)).toInt32 = true) → (pm_cmp0 .eq (Int32.ofInt 0) = true) → Q h (some (.int (Int32.ofInt 0))))
    (k3 : (pm_cmp0 .lt x1 = false) → (pm_cmp .ge x1 (Int8.ofInt (6)).toInt32 = false) → (pm_cmp0 .eq (Int32.ofInt 1) = false) → (pm_cmp0 .lt x2 = true) → (pm_cmp0 .eq (Int32.ofInt 0) = true) → Q h (some (.int (Int32.ofInt 0))))
    (k4 : (pm_cmp0 .lt x1 = false) → (pm_cmp .ge x1 (Int8.ofInt (6)).toInt32 = false) → (pm_cmp0 .eq (Int32.ofInt 1) = false) → (pm_cmp0 .lt x2 = false) → (pm_cmp .ge x2 (Int8.ofInt (6)).toInt32 = true) → (pm_cmp0 .eq (Int32.ofInt 0) = true) → Q h (some (.int (Int32.ofInt 0))))
    (k5 : (pm_cmp0 .lt x1 = false) → (pm_cmp .ge x1 (Int8.ofInt (6)).toInt32 = false) → (pm_cmp0 .eq (Int32.ofInt 1) = false) → (pm_cmp0 .lt x2 = false) → (pm_cmp .ge x2 (Int8.ofInt (6)).toInt32 = false) → (pm_cmp0 .eq (Int32.ofInt 1) = false) → (pm_cmp .eq x1 x2 = true) → Q h (some (.int (Int32.ofInt 0))))
    (k6 : (pm_cmp0 .lt x1 = false) → (pm_cmp .ge x1 (Int8.ofInt (6)).toInt32 = false) → (pm_cmp0 .eq (Int32.ofInt 1) = false) → (pm_cmp0 .lt x2 = false) → (pm_cmp .ge x2 (Int8.ofInt (6)).toInt32 = false) → (pm_cmp0 .eq (Int32.ofInt 1) = false) → (pm_cmp .eq x1 x2 = false) → (pm_cmp .lt x3 (Int32.ofInt (-1)) = true) → Q h (some (.int (Int32.ofInt 0))))
    (k7 : (pm_cmp0 .lt x1 = false) → (pm_cmp .ge x1 (Int8.ofInt (6)).toInt32 = false) → (pm_cmp0 .eq (Int32.ofInt 1) = false) → (pm_cmp0 .lt x2 = false) → (pm_cmp .ge x2 (Int8.ofInt (6)).toInt32 = false) → (pm_cmp0 .eq (Int32.ofInt 1) = false) → (pm_cmp .eq x1 x2 = false) → (pm_cmp .lt x3 (Int32.ofInt (-1)) = false) → (pm_cmp .gt x3 (Int8.ofInt (9)).toInt32 = true) → Q h (some (.int (Int32.ofInt 0))))
    (k8 : (pm_cmp0 .lt x1 = false) → (pm_cmp .ge x1 (Int8.ofInt (6)).toInt32 = false) → (pm_cmp0 .eq (Int32.ofInt 1) = false) → (pm_cmp0 .lt x2 = false) → (pm_cmp .ge x2 (Int8.ofInt (6)).toInt32 = false) → (pm_cmp0 .eq (Int32.ofInt 1) = false) → (pm_cmp .eq x1 x2 = false) → (pm_cmp .lt x3 (Int32.ofInt (-1)) = false) → (pm_cmp .gt x3 (Int8.ofInt (9)).toInt32 = false) → Q h (some (.int (Int32.ofInt 1))))
    : hq_M X d 129 [.int x1, .int x2, .int x3] h Q := by
  obtain ⟨d, rfl⟩ : ∃ e, d = e + 1 := ⟨d - 1, by omega⟩
  refine hq_M.enter (q := (⟨"TrainBearers", "canBeLane", "(III)Z"⟩, _, 3, some .boolean, 10, 3, pm_c129)) rfl rfl ?_
  show hq_W X d 10 false (some .boolean) pm_c129 (0, [some (.int x1), some (.int x2), some (.int x3)], [], h) Q
  refine hq_p rfl rfl ?_
  refine hq_inv 1 rfl (fun _ => rfl) rfl rfl rfl rfl ?_
  refine wp_128 (x1 := x1) (by omega) S  ?_ ?_ ?_
  · intro c1
    refine ⟨by omega, by omega, ?_⟩
    refine hq_if rfl (fun c2 => ?_) (fun c2 => ?_)
    · refine hq_p rfl rfl ?_
      exact hq_W.ret rfl rfl rfl (k1 c1 c2)
    · exact absurd c2 (by decide)
  · intro c3 c4
    refine ⟨by omega, by omega, ?_⟩
    refine hq_if rfl (fun c5 => ?_) (fun c5 => ?_)
    · refine hq_p rfl rfl ?_
      exact hq_W.ret rfl rfl rfl (k2 c3 c4 c5)
    · exact absurd c5 (by decide)
  · intro c6 c7
    refine ⟨by omega, by omega, ?_⟩
    refine hq_if rfl (fun c8 => ?_) (fun c8 => ?_)
    · exact absurd c8 (by decide)
    · refine hq_p rfl rfl ?_
      refine hq_inv 1 rfl (fun _ => rfl) rfl rfl rfl rfl ?_
      refine wp_128 (x1 := x2) (by omega) S  ?_ ?_ ?_
      · intro c9
        refine ⟨by omega, by omega, ?_⟩
        refine hq_if rfl (fun c10 => ?_) (fun c10 => ?_)
        · refine hq_p rfl rfl ?_
          exact hq_W.ret rfl rfl rfl (k3 c6 c7 c8 c9 c10)
        · exact absurd c10 (by decide)
      · intro c11 c12
        refine ⟨by omega, by omega, ?_⟩
        refine hq_if rfl (fun c13 => ?_) (fun c13 => ?_)
        · refine hq_p rfl rfl ?_
          exact hq_W.ret rfl rfl rfl (k4 c6 c7 c8 c11 c12 c13)
        · exact absurd c13 (by decide)
      · intro c14 c15
        refine ⟨by omega, by omega, ?_⟩
        refine hq_if rfl (fun c16 => ?_) (fun c16 => ?_)
        · exact absurd (c8.symm.trans c16) (by decide)
        · refine hq_p rfl rfl ?_
          refine hq_p rfl rfl ?_
          refine hq_ifi rfl (fun c17 => ?_) (fun c17 => ?_)
          · refine hq_p rfl rfl ?_
            exact hq_W.ret rfl rfl rfl (k5 c6 c7 c8 c14 c15 c16 c17)
          · refine hq_p rfl rfl ?_
            refine hq_p rfl rfl ?_
            refine hq_ifi rfl (fun c18 => ?_) (fun c18 => ?_)
            · refine hq_p rfl rfl ?_
              exact hq_W.ret rfl rfl rfl (k6 c6 c7 c8 c14 c15 c16 c17 c18)
            · refine hq_p rfl rfl ?_
              refine hq_p rfl rfl ?_
              refine hq_ifi rfl (fun c19 => ?_) (fun c19 => ?_)
              · refine hq_p rfl rfl ?_
                exact hq_W.ret rfl rfl rfl (k7 c6 c7 c8 c14 c15 c16 c17 c18 c19)
              · refine hq_p rfl rfl ?_
                refine hq_p rfl rfl ?_
                exact hq_W.ret rfl rfl rfl (k8 c6 c7 c8 c14 c15 c16 c17 c18 c19)
theorem wp_92 {X : pm_X} {d : Nat} {h : pm_H} {Q : pm_H → Option Value → Prop} {x1 : Int32} (hd : 1 ≤ d) (S : hs_Shape h)
    (k1 : (pm_cmp0 .lt x1 = true) → Q h (some (.int (Int32.ofInt (-1)))))
    (k2 : (pm_cmp0 .lt x1 = false) → (pm_cmp .le x1 (hs_fI h 62 1) = true) → ∀ h3, h3 = hs_sF h 62 3 1 (.int x1) → hs_Shape h3 → h3.1 = h.1 → h3.2.1 = h.2.1 → Q h3 (some (.int x1)))
    (k3 : (pm_cmp0 .lt x1 = false) → (pm_cmp .le x1 (hs_fI h 62 1) = false) → Q h (some (.int (Int32.ofInt (-1)))))
    : hq_M X d 92 [.ref 0, .int x1] h Q := by
  obtain ⟨d, rfl⟩ : ∃ e, d = e + 1 := ⟨d - 1, by omega⟩
  refine hq_M.enter (q := (⟨"TrainBearers", "end", "(I)I"⟩, _, 2, some .int, 10, 2, pm_c92)) rfl rfl ?_
  show hq_W X d 10 false (some .int) pm_c92 (0, [some (.ref 0), some (.int x1)], [], h) Q
  refine hq_p rfl rfl ?_
  refine hq_if rfl (fun c1 => ?_) (fun c1 => ?_)
  · refine hq_p rfl rfl ?_
    exact hq_W.ret rfl rfl rfl (k1 c1)
  · refine hq_p rfl rfl ?_
    refine hq_p rfl rfl ?_
    refine hq_gR S rfl rfl (by decide) (by decide) rfl ?_
    refine hq_gI S rfl rfl (by decide) (by decide) rfl ?_
    refine hq_ifi rfl (fun c2 => ?_) (fun c2 => ?_)
    · refine hq_p rfl rfl ?_
      refine hq_gR S rfl rfl (by decide) (by decide) rfl ?_
      refine hq_p rfl rfl ?_
      refine hq_pFo S rfl rfl (by decide) rfl rfl ⟨_, rfl⟩ (fun h3 e3 S3 p3 q3 => ?_)
      refine hq_p rfl rfl ?_
      exact hq_W.ret rfl rfl rfl (k2 c1 c2 h3 e3 S3 p3 q3)
    · refine hq_p rfl rfl ?_
      exact hq_W.ret rfl rfl rfl (k3 c1 c2)
theorem wp_94 {X : pm_X} {d : Nat} {h : pm_H} {Q : pm_H → Option Value → Prop}  (hd : 1 ≤ d) (S : hs_Shape h)
    (k1 : Q h (some (.int (hs_fI h 0 15))))
    : hq_M X d 94 [.ref 0] h Q := by
  obtain ⟨d, rfl⟩ : ∃ e, d = e + 1 := ⟨d - 1, by omega⟩
  refine hq_M.enter (q := (⟨"TrainBearers", "puddles", "()I"⟩, _, 1, some .int, 10, 1, pm_c94)) rfl rfl ?_
  show hq_W X d 10 false (some .int) pm_c94 (0, [some (.ref 0)], [], h) Q
  refine hq_p rfl rfl ?_
  refine hq_gI S rfl rfl (by decide) (by decide) rfl ?_
  exact hq_W.ret rfl rfl rfl (k1)
theorem wp_97 {X : pm_X} {d : Nat} {h : pm_H} {Q : pm_H → Option Value → Prop}  (hd : 1 ≤ d) (S : hs_Shape h)
    (k1 : Q h (some (.int (hs_fI h 62 2))))
    : hq_M X d 97 [.ref 0] h Q := by
  obtain ⟨d, rfl⟩ : ∃ e, d = e + 1 := ⟨d - 1, by omega⟩
  refine hq_M.enter (q := (⟨"TrainBearers", "fault", "()I"⟩, _, 1, some .int, 10, 1, pm_c97)) rfl rfl ?_
  show hq_W X d 10 false (some .int) pm_c97 (0, [some (.ref 0)], [], h) Q
  refine hq_p rfl rfl ?_
  refine hq_gR S rfl rfl (by decide) (by decide) rfl ?_
  refine hq_gI S rfl rfl (by decide) (by decide) rfl ?_
  exact hq_W.ret rfl rfl rfl (k1)
theorem wp_98 {X : pm_X} {d : Nat} {h : pm_H} {Q : pm_H → Option Value → Prop}  (hd : 1 ≤ d) (S : hs_Shape h)
    (k1 : Q h (some (.int (hs_fI h 76 5))))
    : hq_M X d 98 [.ref 0] h Q := by
  obtain ⟨d, rfl⟩ : ∃ e, d = e + 1 := ⟨d - 1, by omega⟩
  refine hq_M.enter (q := (⟨"TrainBearers", "stopped", "()I"⟩, _, 1, some .int, 10, 1, pm_c98)) rfl rfl ?_
  show hq_W X d 10 false (some .int) pm_c98 (0, [some (.ref 0)], [], h) Q
  refine hq_p rfl rfl ?_
  refine hq_gR S rfl rfl (by decide) (by decide) rfl ?_
  refine hq_gI S rfl rfl (by decide) (by decide) rfl ?_
  exact hq_W.ret rfl rfl rfl (k1)
theorem wp_69_23 {X : pm_X} {d : Nat} {h : pm_H} {Q : pm_H → Option Value → Prop} {x1 : Int32} (hd : 1 ≤ d) (S : hs_Shape h)
    (k1 : (pm_cmp0 .lt x1 = true) → Q h (some (.int (Int32.ofInt 0))))
    (k2 : (pm_cmp0 .lt x1 = false) → (pm_cmp .ge x1 (hs_fI h 23 0) = true) → Q h (some (.int (Int32.ofInt 0))))
    (k3 : (pm_cmp0 .lt x1 = false) → (pm_cmp .ge x1 (hs_fI h 23 0) = false) → Q h (some (.int (Int32.ofInt 1))))
    : hq_M X d 69 [.ref 23, .int x1] h Q := by
  obtain ⟨d, rfl⟩ : ∃ e, d = e + 1 := ⟨d - 1, by omega⟩
  refine hq_M.enter (q := (⟨"TrainBearers$Train", "hasYard", "(I)Z"⟩, _, 2, some .boolean, 8, 2, pm_c69)) rfl rfl ?_
  show hq_W X d 8 false (some .boolean) pm_c69 (0, [some (.ref 23), some (.int x1)], [], h) Q
  refine hq_p rfl rfl ?_
  refine hq_if rfl (fun c1 => ?_) (fun c1 => ?_)
  · refine hq_p rfl rfl ?_
    exact hq_W.ret rfl rfl rfl (k1 c1)
  · refine hq_p rfl rfl ?_
    refine hq_p rfl rfl ?_
    refine hq_gI S rfl rfl (by decide) (by decide) rfl ?_
    refine hq_ifi rfl (fun c2 => ?_) (fun c2 => ?_)
    · refine hq_p rfl rfl ?_
      exact hq_W.ret rfl rfl rfl (k2 c1 c2)
    · refine hq_p rfl rfl ?_
      refine hq_p rfl rfl ?_
      exact hq_W.ret rfl rfl rfl (k3 c1 c2)
theorem wp_70_23 {X : pm_X} {d : Nat} {h : pm_H} {Q : pm_H → Option Value → Prop} {x1 : Int32} (hd : 1 ≤ d) (S : hs_Shape h)
    (k1 : (pm_cmp0 .lt x1 = true) → Q h (some (.int (Int32.ofInt 0))))
    (k2 : (pm_cmp0 .lt x1 = false) → (pm_cmp .ge x1 (hs_fI h 23 3) = true) → Q h (some (.int (Int32.ofInt 0))))
    (k3 : (pm_cmp0 .lt x1 = false) → (pm_cmp .ge x1 (hs_fI h 23 3) = false) → Q h (some (.int (Int32.ofInt 1))))
    : hq_M X d 70 [.ref 23, .int x1] h Q := by
  obtain ⟨d, rfl⟩ : ∃ e, d = e + 1 := ⟨d - 1, by omega⟩
  refine hq_M.enter (q := (⟨"TrainBearers$Train", "hasGirl", "(I)Z"⟩, _, 2, some .boolean, 8, 2, pm_c70)) rfl rfl ?_
  show hq_W X d 8 false (some .boolean) pm_c70 (0, [some (.ref 23), some (.int x1)], [], h) Q
  refine hq_p rfl rfl ?_
  refine hq_if rfl (fun c1 => ?_) (fun c1 => ?_)
  · refine hq_p rfl rfl ?_
    exact hq_W.ret rfl rfl rfl (k1 c1)
  · refine hq_p rfl rfl ?_
    refine hq_p rfl rfl ?_
    refine hq_gI S rfl rfl (by decide) (by decide) rfl ?_
    refine hq_ifi rfl (fun c2 => ?_) (fun c2 => ?_)
    · refine hq_p rfl rfl ?_
      exact hq_W.ret rfl rfl rfl (k2 c1 c2)
    · refine hq_p rfl rfl ?_
      refine hq_p rfl rfl ?_
      exact hq_W.ret rfl rfl rfl (k3 c1 c2)
theorem wp_119 {X : pm_X} {d : Nat} {h : pm_H} {Q : pm_H → Option Value → Prop} {x1 : Int32} {x2 : Int32} (hd : 2 ≤ d) (S : hs_Shape h)
    (b1 : (pm_cmp0 .ne x2 = true) → (pm_cmp .ne x2 (Int32.ofInt 1) = true) → (pm_cmp .ne x2 (Int32.ofInt 2) = false) → (pm_cmp0 .lt x1 = false) → (pm_cmp .ge x1 (hs_fI h 23 0) = false) → (pm_cmp0 .eq (Int32.ofInt 1) = false) → 0 ≤ (x1).toInt ∧ (x1).toInt < (8 : Nat))
    (b2 : (pm_cmp0 .ne x2 = true) → (pm_cmp .ne x2 (Int32.ofInt 1) = false) → (pm_cmp0 .lt x1 = false) → (pm_cmp .ge x1 (hs_fI h 23 3) = true) → (pm_cmp0 .eq (Int32.ofInt 0) = true) → (pm_cmp .ne x2 (Int32.ofInt 2) = false) → (pm_cmp0 .lt x1 = false) → (pm_cmp .ge x1 (hs_fI h 23 0) = false) → (pm_cmp0 .eq (Int32.ofInt 1) = false) → 0 ≤ (x1).toInt ∧ (x1).toInt < (8 : Nat))
    (b3 : (pm_cmp0 .ne x2 = true) → (pm_cmp .ne x2 (Int32.ofInt 1) = false) → (pm_cmp0 .lt x1 = false) → (pm_cmp .ge x1 (hs_fI h 23 3) = false) → (pm_cmp0 .eq (Int32.ofInt 1) = false) → 0 ≤ (x1).toInt ∧ (x1).toInt < (8 : Nat))
    (b4 : (pm_cmp0 .ne x2 = false) → (pm_cmp0 .lt x1 = false) → (pm_cmp .ge x1 (hs_fI h 23 3) = true) → (pm_cmp0 .eq (Int32.ofInt 0) = true) → (pm_cmp .ne x2 (Int32.ofInt 1) = true) → (pm_cmp .ne x2 (Int32.ofInt 2) = false) → (pm_cmp0 .lt x1 = false) → (pm_cmp .ge x1 (hs_fI h 23 0) = false) → (pm_cmp0 .eq (Int32.ofInt 1) = false) → 0 ≤ (x1).toInt ∧ (x1).toInt < (8 : Nat))
    (b5 : (pm_cmp0 .ne x2 = false) → (pm_cmp0 .lt x1 = false) → (pm_cmp .ge x1 (hs_fI h 23 3) = true) → (pm_cmp0 .eq (Int32.ofInt 0) = true) → (pm_cmp .ne x2 (Int32.ofInt 1) = false) → (pm_cmp0 .lt x1 = false) → (pm_cmp .ge x1 (hs_fI h 23 3) = true) → (pm_cmp0 .eq (Int32.ofInt 0) = true) → (pm_cmp .ne x2 (Int32.ofInt 2) = false) → (pm_cmp0 .lt x1 = false) → (pm_cmp .ge x1 (hs_fI h 23 0) = false) → (pm_cmp0 .eq (Int32.ofInt 1) = false) → 0 ≤ (x1).toInt ∧ (x1).toInt < (8 : Nat))
    (b6 : (pm_cmp0 .ne x2 = false) → (pm_cmp0 .lt x1 = false) → (pm_cmp .ge x1 (hs_fI h 23 3) = false) → (pm_cmp0 .eq (Int32.ofInt 1) = false) → 0 ≤ (x1).toInt ∧ (x1).toInt < (8 : Nat))
    (k1 : (pm_cmp0 .ne x2 = true) → (pm_cmp .ne x2 (Int32.ofInt 1) = true) → (pm_cmp .ne x2 (Int32.ofInt 2) = true) → Q h (some (.int (Int32.ofInt (-1)))))
    (k2 : (pm_cmp0 .ne x2 = true) → (pm_cmp .ne x2 (Int32.ofInt 1) = true) → (pm_cmp .ne x2 (Int32.ofInt 2) = false) → (pm_cmp0 .lt x1 = true) → (pm_cmp0 .eq (Int32.ofInt 0) = true) → Q h (some (.int (Int32.ofInt (-1)))))
    (k3 : (pm_cmp0 .ne x2 = true) → (pm_cmp .ne x2 (Int32.ofInt 1) = true) → (pm_cmp .ne x2 (Int32.ofInt 2) = false) → (pm_cmp0 .lt x1 = false) → (pm_cmp .ge x1 (hs_fI h 23 0) = true) → (pm_cmp0 .eq (Int32.ofInt 0) = true) → Q h (some (.int (Int32.ofInt (-1)))))
    (k4 : (pm_cmp0 .ne x2 = true) → (pm_cmp .ne x2 (Int32.ofInt 1) = true) → (pm_cmp .ne x2 (Int32.ofInt 2) = false) → (pm_cmp0 .lt x1 = false) → (pm_cmp .ge x1 (hs_fI h 23 0) = false) → (pm_cmp0 .eq (Int32.ofInt 1) = false) → Q h (some (.int (hs_aI h 25 (x1).toNatClampNeg))))
    (k5 : (pm_cmp0 .ne x2 = true) → (pm_cmp .ne x2 (Int32.ofInt 1) = false) → (pm_cmp0 .lt x1 = true) → (pm_cmp0 .eq (Int32.ofInt 0) = true) → (pm_cmp .ne x2 (Int32.ofInt 2) = true) → Q h (some (.int (Int32.ofInt (-1)))))
    (k6 : (pm_cmp0 .ne x2 = true) → (pm_cmp .ne x2 (Int32.ofInt 1) = false) → (pm_cmp0 .lt x1 = true) → (pm_cmp0 .eq (Int32.ofInt 0) = true) → (pm_cmp .ne x2 (Int32.ofInt 2) = false) → (pm_cmp0 .lt x1 = true) → (pm_cmp0 .eq (Int32.ofInt 0) = true) → Q h (some (.int (Int32.ofInt (-1)))))
    (k7 : (pm_cmp0 .ne x2 = true) → (pm_cmp .ne x2 (Int32.ofInt 1) = false) → (pm_cmp0 .lt x1 = false) → (pm_cmp .ge x1 (hs_fI h 23 3) = true) → (pm_cmp0 .eq (Int32.ofInt 0) = true) → (pm_cmp .ne x2 (Int32.ofInt 2) = true) → Q h (some (.int (Int32.ofInt (-1)))))
    (k8 : (pm_cmp0 .ne x2 = true) → (pm_cmp .ne x2 (Int32.ofInt 1) = false) → (pm_cmp0 .lt x1 = false) → (pm_cmp .ge x1 (hs_fI h 23 3) = true) → (pm_cmp0 .eq (Int32.ofInt 0) = true) → (pm_cmp .ne x2 (Int32.ofInt 2) = false) → (pm_cmp0 .lt x1 = false) → (pm_cmp .ge x1 (hs_fI h 23 0) = true) → (pm_cmp0 .eq (Int32.ofInt 0) = true) → Q h (some (.int (Int32.ofInt (-1)))))
    (k9 : (pm_cmp0 .ne x2 = true) → (pm_cmp .ne x2 (Int32.ofInt 1) = false) → (pm_cmp0 .lt x1 = false) → (pm_cmp .ge x1 (hs_fI h 23 3) = true) → (pm_cmp0 .eq (Int32.ofInt 0) = true) → (pm_cmp .ne x2 (Int32.ofInt 2) = false) → (pm_cmp0 .lt x1 = false) → (pm_cmp .ge x1 (hs_fI h 23 0) = false) → (pm_cmp0 .eq (Int32.ofInt 1) = false) → Q h (some (.int (hs_aI h 25 (x1).toNatClampNeg))))
    (k10 : (pm_cmp0 .ne x2 = true) → (pm_cmp .ne x2 (Int32.ofInt 1) = false) → (pm_cmp0 .lt x1 = false) → (pm_cmp .ge x1 (hs_fI h 23 3) = false) → (pm_cmp0 .eq (Int32.ofInt 1) = false) → Q h (some (.int (hs_aI h 28 (x1).toNatClampNeg))))
    (k11 : (pm_cmp0 .ne x2 = false) → (pm_cmp0 .lt x1 = true) → (pm_cmp0 .eq (Int32.ofInt 0) = true) → (pm_cmp .ne x2 (Int32.ofInt 1) = true) → (pm_cmp .ne x2 (Int32.ofInt 2) = true) → Q h (some (.int (Int32.ofInt (-1)))))
    (k12 : (pm_cmp0 .ne x2 = false) → (pm_cmp0 .lt x1 = true) → (pm_cmp0 .eq (Int32.ofInt 0) = true) → (pm_cmp .ne x2 (Int32.ofInt 1) = true) → (pm_cmp .ne x2 (Int32.ofInt 2) = false) → (pm_cmp0 .lt x1 = true) → (pm_cmp0 .eq (Int32.ofInt 0) = true) → Q h (some (.int (Int32.ofInt (-1)))))
    (k13 : (pm_cmp0 .ne x2 = false) → (pm_cmp0 .lt x1 = true) → (pm_cmp0 .eq (Int32.ofInt 0) = true) → (pm_cmp .ne x2 (Int32.ofInt 1) = false) → (pm_cmp0 .lt x1 = true) → (pm_cmp0 .eq (Int32.ofInt 0) = true) → (pm_cmp .ne x2 (Int32.ofInt 2) = true) → Q h (some (.int (Int32.ofInt (-1)))))
    (k14 : (pm_cmp0 .ne x2 = false) → (pm_cmp0 .lt x1 = true) → (pm_cmp0 .eq (Int32.ofInt 0) = true) → (pm_cmp .ne x2 (Int32.ofInt 1) = false) → (pm_cmp0 .lt x1 = true) → (pm_cmp0 .eq (Int32.ofInt 0) = true) → (pm_cmp .ne x2 (Int32.ofInt 2) = false) → (pm_cmp0 .lt x1 = true) → (pm_cmp0 .eq (Int32.ofInt 0) = true) → Q h (some (.int (Int32.ofInt (-1)))))
    (k15 : (pm_cmp0 .ne x2 = false) → (pm_cmp0 .lt x1 = false) → (pm_cmp .ge x1 (hs_fI h 23 3) = true) → (pm_cmp0 .eq (Int32.ofInt 0) = true) → (pm_cmp .ne x2 (Int32.ofInt 1) = true) → (pm_cmp .ne x2 (Int32.ofInt 2) = true) → Q h (some (.int (Int32.ofInt (-1)))))
    (k16 : (pm_cmp0 .ne x2 = false) → (pm_cmp0 .lt x1 = false) → (pm_cmp .ge x1 (hs_fI h 23 3) = true) → (pm_cmp0 .eq (Int32.ofInt 0) = true) → (pm_cmp .ne x2 (Int32.ofInt 1) = true) → (pm_cmp .ne x2 (Int32.ofInt 2) = false) → (pm_cmp0 .lt x1 = false) → (pm_cmp .ge x1 (hs_fI h 23 0) = true) → (pm_cmp0 .eq (Int32.ofInt 0) = true) → Q h (some (.int (Int32.ofInt (-1)))))
    (k17 : (pm_cmp0 .ne x2 = false) → (pm_cmp0 .lt x1 = false) → (pm_cmp .ge x1 (hs_fI h 23 3) = true) → (pm_cmp0 .eq (Int32.ofInt 0) = true) → (pm_cmp .ne x2 (Int32.ofInt 1) = true) → (pm_cmp .ne x2 (Int32.ofInt 2) = false) → (pm_cmp0 .lt x1 = false) → (pm_cmp .ge x1 (hs_fI h 23 0) = false) → (pm_cmp0 .eq (Int32.ofInt 1) = false) → Q h (some (.int (hs_aI h 25 (x1).toNatClampNeg))))
    (k18 : (pm_cmp0 .ne x2 = false) → (pm_cmp0 .lt x1 = false) → (pm_cmp .ge x1 (hs_fI h 23 3) = true) → (pm_cmp0 .eq (Int32.ofInt 0) = true) → (pm_cmp .ne x2 (Int32.ofInt 1) = false) → (pm_cmp0 .lt x1 = false) → (pm_cmp .ge x1 (hs_fI h 23 3) = true) → (pm_cmp0 .eq (Int32.ofInt 0) = true) → (pm_cmp .ne x2 (Int32.ofInt 2) = true) → Q h (some (.int (Int32.ofInt (-1)))))
    (k19 : (pm_cmp0 .ne x2 = false) → (pm_cmp0 .lt x1 = false) → (pm_cmp .ge x1 (hs_fI h 23 3) = true) → (pm_cmp0 .eq (Int32.ofInt 0) = true) → (pm_cmp .ne x2 (Int32.ofInt 1) = false) → (pm_cmp0 .lt x1 = false) → (pm_cmp .ge x1 (hs_fI h 23 3) = true) → (pm_cmp0 .eq (Int32.ofInt 0) = true) → (pm_cmp .ne x2 (Int32.ofInt 2) = false) → (pm_cmp0 .lt x1 = false) → (pm_cmp .ge x1 (hs_fI h 23 0) = true) → (pm_cmp0 .eq (Int32.ofInt 0) = true) → Q h (some (.int (Int32.ofInt (-1)))))
    (k20 : (pm_cmp0 .ne x2 = false) → (pm_cmp0 .lt x1 = false) → (pm_cmp .ge x1 (hs_fI h 23 3) = true) → (pm_cmp0 .eq (Int32.ofInt 0) = true) → (pm_cmp .ne x2 (Int32.ofInt 1) = false) → (pm_cmp0 .lt x1 = false) → (pm_cmp .ge x1 (hs_fI h 23 3) = true) → (pm_cmp0 .eq (Int32.ofInt 0) = true) → (pm_cmp .ne x2 (Int32.ofInt 2) = false) → (pm_cmp0 .lt x1 = false) → (pm_cmp .ge x1 (hs_fI h 23 0) = false) → (pm_cmp0 .eq (Int32.ofInt 1) = false) → Q h (some (.int (hs_aI h 25 (x1).toNatClampNeg))))
    (k21 : (pm_cmp0 .ne x2 = false) → (pm_cmp0 .lt x1 = false) → (pm_cmp .ge x1 (hs_fI h 23 3) = false) → (pm_cmp0 .eq (Int32.ofInt 1) = false) → Q h (some (.int (hs_aI h 27 (x1).toNatClampNeg))))
    : hq_M X d 119 [.ref 0, .int x1, .int x2] h Q := by
  obtain ⟨d, rfl⟩ : ∃ e, d = e + 1 := ⟨d - 1, by omega⟩
  refine hq_M.enter (q := (⟨"TrainBearers", "drawn", "(II)I"⟩, _, 3, some .int, 10, 3, pm_c119)) rfl rfl ?_
  show hq_W X d 10 false (some .int) pm_c119 (0, [some (.ref 0), some (.int x1), some (.int x2)], [], h) Q
  refine hq_p rfl rfl ?_
  refine hq_if rfl (fun c1 => ?_) (fun c1 => ?_)
  · refine hq_p rfl rfl ?_
    refine hq_p rfl rfl ?_
    refine hq_ifi rfl (fun c2 => ?_) (fun c2 => ?_)
    · refine hq_p rfl rfl ?_
      refine hq_p rfl rfl ?_
      refine hq_ifi rfl (fun c3 => ?_) (fun c3 => ?_)
      · refine hq_p rfl rfl ?_
        exact hq_W.ret rfl rfl rfl (k1 c1 c2 c3)
      · refine hq_p rfl rfl ?_
        refine hq_gR S rfl rfl (by decide) (by decide) rfl ?_
        refine hq_p rfl rfl ?_
        refine hq_inv 0 rfl (fun _ => rfl) rfl rfl rfl (hq_pre_o S (x := 23) (ci := 8) rfl (by decide) rfl rfl rfl rfl) ?_
        refine wp_69_23 (x1 := x1) (by omega) S  ?_ ?_ ?_
        · intro c4
          refine ⟨by omega, by omega, ?_⟩
          refine hq_if rfl (fun c5 => ?_) (fun c5 => ?_)
          · refine hq_p rfl rfl ?_
            exact hq_W.ret rfl rfl rfl (k2 c1 c2 c3 c4 c5)
          · exact absurd c5 (by decide)
        · intro c6 c7
          refine ⟨by omega, by omega, ?_⟩
          refine hq_if rfl (fun c8 => ?_) (fun c8 => ?_)
          · refine hq_p rfl rfl ?_
            exact hq_W.ret rfl rfl rfl (k3 c1 c2 c3 c6 c7 c8)
          · exact absurd c8 (by decide)
        · intro c9 c10
          refine ⟨by omega, by omega, ?_⟩
          refine hq_if rfl (fun c11 => ?_) (fun c11 => ?_)
          · exact absurd c11 (by decide)
          · refine hq_p rfl rfl ?_
            refine hq_gR S rfl rfl (by decide) (by decide) rfl ?_
            refine hq_gR S rfl rfl (by decide) (by decide) rfl ?_
            refine hq_p rfl rfl ?_
            refine hq_aL S rfl rfl (by decide) (b1 c1 c2 c3 c9 c10 c11).1 (b1 c1 c2 c3 c9 c10 c11).2 ?_
            exact hq_W.ret rfl rfl rfl (k4 c1 c2 c3 c9 c10 c11)
    · refine hq_p rfl rfl ?_
      refine hq_gR S rfl rfl (by decide) (by decide) rfl ?_
      refine hq_p rfl rfl ?_
      refine hq_inv 0 rfl (fun _ => rfl) rfl rfl rfl (hq_pre_o S (x := 23) (ci := 8) rfl (by decide) rfl rfl rfl rfl) ?_
      refine wp_70_23 (x1 := x1) (by omega) S  ?_ ?_ ?_
      · intro c12
        refine ⟨by omega, by omega, ?_⟩
        refine hq_if rfl (fun c13 => ?_) (fun c13 => ?_)
        · refine hq_p rfl rfl ?_
          refine hq_p rfl rfl ?_
          refine hq_ifi rfl (fun c14 => ?_) (fun c14 => ?_)
          · refine hq_p rfl rfl ?_
            exact hq_W.ret rfl rfl rfl (k5 c1 c2 c12 c13 c14)
          · refine hq_p rfl rfl ?_
            refine hq_gR S rfl rfl (by decide) (by decide) rfl ?_
            refine hq_p rfl rfl ?_
            refine hq_inv 0 rfl (fun _ => rfl) rfl rfl rfl (hq_pre_o S (x := 23) (ci := 8) rfl (by decide) rfl rfl rfl rfl) ?_
            refine wp_69_23 (x1 := x1) (by omega) S  ?_ ?_ ?_
            · intro c15
              refine ⟨by omega, by omega, ?_⟩
              refine hq_if rfl (fun c16 => ?_) (fun c16 => ?_)
              · refine hq_p rfl rfl ?_
                exact hq_W.ret rfl rfl rfl (k6 c1 c2 c12 c13 c14 c15 c16)
              · exact absurd (c13.symm.trans c16) (by decide)
            · intro c17 c18
              exact absurd (c12.symm.trans c17) (by decide)
            · intro c19 c20
              exact absurd (c12.symm.trans c19) (by decide)
        · exact absurd c13 (by decide)
      · intro c21 c22
        refine ⟨by omega, by omega, ?_⟩
        refine hq_if rfl (fun c23 => ?_) (fun c23 => ?_)
        · refine hq_p rfl rfl ?_
          refine hq_p rfl rfl ?_
          refine hq_ifi rfl (fun c24 => ?_) (fun c24 => ?_)
          · refine hq_p rfl rfl ?_
            exact hq_W.ret rfl rfl rfl (k7 c1 c2 c21 c22 c23 c24)
          · refine hq_p rfl rfl ?_
            refine hq_gR S rfl rfl (by decide) (by decide) rfl ?_
            refine hq_p rfl rfl ?_
            refine hq_inv 0 rfl (fun _ => rfl) rfl rfl rfl (hq_pre_o S (x := 23) (ci := 8) rfl (by decide) rfl rfl rfl rfl) ?_
            refine wp_69_23 (x1 := x1) (by omega) S  ?_ ?_ ?_
            · intro c25
              exact absurd (c21.symm.trans c25) (by decide)
            · intro c26 c27
              refine ⟨by omega, by omega, ?_⟩
              refine hq_if rfl (fun c28 => ?_) (fun c28 => ?_)
              · refine hq_p rfl rfl ?_
                exact hq_W.ret rfl rfl rfl (k8 c1 c2 c21 c22 c23 c24 c26 c27 c28)
              · exact absurd (c23.symm.trans c28) (by decide)
            · intro c29 c30
              refine ⟨by omega, by omega, ?_⟩
              refine hq_if rfl (fun c31 => ?_) (fun c31 => ?_)
              · exact absurd c31 (by decide)
              · refine hq_p rfl rfl ?_
                refine hq_gR S rfl rfl (by decide) (by decide) rfl ?_
                refine hq_gR S rfl rfl (by decide) (by decide) rfl ?_
                refine hq_p rfl rfl ?_
                refine hq_aL S rfl rfl (by decide) (b2 c1 c2 c21 c22 c23 c24 c29 c30 c31).1 (b2 c1 c2 c21 c22 c23 c24 c29 c30 c31).2 ?_
                exact hq_W.ret rfl rfl rfl (k9 c1 c2 c21 c22 c23 c24 c29 c30 c31)
        · exact absurd c23 (by decide)
      · intro c32 c33
        refine ⟨by omega, by omega, ?_⟩
        refine hq_if rfl (fun c34 => ?_) (fun c34 => ?_)
        · exact absurd c34 (by decide)
        · refine hq_p rfl rfl ?_
          refine hq_gR S rfl rfl (by decide) (by decide) rfl ?_
          refine hq_gR S rfl rfl (by decide) (by decide) rfl ?_
          refine hq_p rfl rfl ?_
          refine hq_aL S rfl rfl (by decide) (b3 c1 c2 c32 c33 c34).1 (b3 c1 c2 c32 c33 c34).2 ?_
          exact hq_W.ret rfl rfl rfl (k10 c1 c2 c32 c33 c34)
  · refine hq_p rfl rfl ?_
    refine hq_gR S rfl rfl (by decide) (by decide) rfl ?_
    refine hq_p rfl rfl ?_
    refine hq_inv 0 rfl (fun _ => rfl) rfl rfl rfl (hq_pre_o S (x := 23) (ci := 8) rfl (by decide) rfl rfl rfl rfl) ?_
    refine wp_70_23 (x1 := x1) (by omega) S  ?_ ?_ ?_
    · intro c35
      refine ⟨by omega, by omega, ?_⟩
      refine hq_if rfl (fun c36 => ?_) (fun c36 => ?_)
      · refine hq_p rfl rfl ?_
        refine hq_p rfl rfl ?_
        refine hq_ifi rfl (fun c37 => ?_) (fun c37 => ?_)
        · refine hq_p rfl rfl ?_
          refine hq_p rfl rfl ?_
          refine hq_ifi rfl (fun c38 => ?_) (fun c38 => ?_)
          · refine hq_p rfl rfl ?_
            exact hq_W.ret rfl rfl rfl (k11 c1 c35 c36 c37 c38)
          · refine hq_p rfl rfl ?_
            refine hq_gR S rfl rfl (by decide) (by decide) rfl ?_
            refine hq_p rfl rfl ?_
            refine hq_inv 0 rfl (fun _ => rfl) rfl rfl rfl (hq_pre_o S (x := 23) (ci := 8) rfl (by decide) rfl rfl rfl rfl) ?_
            refine wp_69_23 (x1 := x1) (by omega) S  ?_ ?_ ?_
            · intro c39
              refine ⟨by omega, by omega, ?_⟩
              refine hq_if rfl (fun c40 => ?_) (fun c40 => ?_)
              · refine hq_p rfl rfl ?_
                exact hq_W.ret rfl rfl rfl (k12 c1 c35 c36 c37 c38 c39 c40)
              · exact absurd (c36.symm.trans c40) (by decide)
            · intro c41 c42
              exact absurd (c35.symm.trans c41) (by decide)
            · intro c43 c44
              exact absurd (c35.symm.trans c43) (by decide)
        · refine hq_p rfl rfl ?_
          refine hq_gR S rfl rfl (by decide) (by decide) rfl ?_
          refine hq_p rfl rfl ?_
          refine hq_inv 0 rfl (fun _ => rfl) rfl rfl rfl (hq_pre_o S (x := 23) (ci := 8) rfl (by decide) rfl rfl rfl rfl) ?_
          refine wp_70_23 (x1 := x1) (by omega) S  ?_ ?_ ?_
          · intro c45
            refine ⟨by omega, by omega, ?_⟩
            refine hq_if rfl (fun c46 => ?_) (fun c46 => ?_)
            · refine hq_p rfl rfl ?_
              refine hq_p rfl rfl ?_
              refine hq_ifi rfl (fun c47 => ?_) (fun c47 => ?_)
              · refine hq_p rfl rfl ?_
                exact hq_W.ret rfl rfl rfl (k13 c1 c35 c36 c37 c45 c46 c47)
              · refine hq_p rfl rfl ?_
                refine hq_gR S rfl rfl (by decide) (by decide) rfl ?_
                refine hq_p rfl rfl ?_
                refine hq_inv 0 rfl (fun _ => rfl) rfl rfl rfl (hq_pre_o S (x := 23) (ci := 8) rfl (by decide) rfl rfl rfl rfl) ?_
                refine wp_69_23 (x1 := x1) (by omega) S  ?_ ?_ ?_
                · intro c48
                  refine ⟨by omega, by omega, ?_⟩
                  refine hq_if rfl (fun c49 => ?_) (fun c49 => ?_)
                  · refine hq_p rfl rfl ?_
                    exact hq_W.ret rfl rfl rfl (k14 c1 c35 c36 c37 c45 c46 c47 c48 c49)
                  · exact absurd (c36.symm.trans c49) (by decide)
                · intro c50 c51
                  exact absurd (c35.symm.trans c50) (by decide)
                · intro c52 c53
                  exact absurd (c35.symm.trans c52) (by decide)
            · exact absurd (c36.symm.trans c46) (by decide)
          · intro c54 c55
            exact absurd (c35.symm.trans c54) (by decide)
          · intro c56 c57
            exact absurd (c35.symm.trans c56) (by decide)
      · exact absurd c36 (by decide)
    · intro c58 c59
      refine ⟨by omega, by omega, ?_⟩
      refine hq_if rfl (fun c60 => ?_) (fun c60 => ?_)
      · refine hq_p rfl rfl ?_
        refine hq_p rfl rfl ?_
        refine hq_ifi rfl (fun c61 => ?_) (fun c61 => ?_)
        · refine hq_p rfl rfl ?_
          refine hq_p rfl rfl ?_
          refine hq_ifi rfl (fun c62 => ?_) (fun c62 => ?_)
          · refine hq_p rfl rfl ?_
            exact hq_W.ret rfl rfl rfl (k15 c1 c58 c59 c60 c61 c62)
          · refine hq_p rfl rfl ?_
            refine hq_gR S rfl rfl (by decide) (by decide) rfl ?_
            refine hq_p rfl rfl ?_
            refine hq_inv 0 rfl (fun _ => rfl) rfl rfl rfl (hq_pre_o S (x := 23) (ci := 8) rfl (by decide) rfl rfl rfl rfl) ?_
            refine wp_69_23 (x1 := x1) (by omega) S  ?_ ?_ ?_
            · intro c63
              exact absurd (c58.symm.trans c63) (by decide)
            · intro c64 c65
              refine ⟨by omega, by omega, ?_⟩
              refine hq_if rfl (fun c66 => ?_) (fun c66 => ?_)
              · refine hq_p rfl rfl ?_
                exact hq_W.ret rfl rfl rfl (k16 c1 c58 c59 c60 c61 c62 c64 c65 c66)
              · exact absurd (c60.symm.trans c66) (by decide)
            · intro c67 c68
              refine ⟨by omega, by omega, ?_⟩
              refine hq_if rfl (fun c69 => ?_) (fun c69 => ?_)
              · exact absurd c69 (by decide)
              · refine hq_p rfl rfl ?_
                refine hq_gR S rfl rfl (by decide) (by decide) rfl ?_
                refine hq_gR S rfl rfl (by decide) (by decide) rfl ?_
                refine hq_p rfl rfl ?_
                refine hq_aL S rfl rfl (by decide) (b4 c1 c58 c59 c60 c61 c62 c67 c68 c69).1 (b4 c1 c58 c59 c60 c61 c62 c67 c68 c69).2 ?_
                exact hq_W.ret rfl rfl rfl (k17 c1 c58 c59 c60 c61 c62 c67 c68 c69)
        · refine hq_p rfl rfl ?_
          refine hq_gR S rfl rfl (by decide) (by decide) rfl ?_
          refine hq_p rfl rfl ?_
          refine hq_inv 0 rfl (fun _ => rfl) rfl rfl rfl (hq_pre_o S (x := 23) (ci := 8) rfl (by decide) rfl rfl rfl rfl) ?_
          refine wp_70_23 (x1 := x1) (by omega) S  ?_ ?_ ?_
          · intro c70
            exact absurd (c58.symm.trans c70) (by decide)
          · intro c71 c72
            refine ⟨by omega, by omega, ?_⟩
            refine hq_if rfl (fun c73 => ?_) (fun c73 => ?_)
            · refine hq_p rfl rfl ?_
              refine hq_p rfl rfl ?_
              refine hq_ifi rfl (fun c74 => ?_) (fun c74 => ?_)
              · refine hq_p rfl rfl ?_
                exact hq_W.ret rfl rfl rfl (k18 c1 c58 c59 c60 c61 c71 c72 c73 c74)
              · refine hq_p rfl rfl ?_
                refine hq_gR S rfl rfl (by decide) (by decide) rfl ?_
                refine hq_p rfl rfl ?_
                refine hq_inv 0 rfl (fun _ => rfl) rfl rfl rfl (hq_pre_o S (x := 23) (ci := 8) rfl (by decide) rfl rfl rfl rfl) ?_
                refine wp_69_23 (x1 := x1) (by omega) S  ?_ ?_ ?_
                · intro c75
                  exact absurd (c58.symm.trans c75) (by decide)
                · intro c76 c77
                  refine ⟨by omega, by omega, ?_⟩
                  refine hq_if rfl (fun c78 => ?_) (fun c78 => ?_)
                  · refine hq_p rfl rfl ?_
                    exact hq_W.ret rfl rfl rfl (k19 c1 c58 c59 c60 c61 c71 c72 c73 c74 c76 c77 c78)
                  · exact absurd (c60.symm.trans c78) (by decide)
                · intro c79 c80
                  refine ⟨by omega, by omega, ?_⟩
                  refine hq_if rfl (fun c81 => ?_) (fun c81 => ?_)
                  · exact absurd c81 (by decide)
                  · refine hq_p rfl rfl ?_
                    refine hq_gR S rfl rfl (by decide) (by decide) rfl ?_
                    refine hq_gR S rfl rfl (by decide) (by decide) rfl ?_
                    refine hq_p rfl rfl ?_
                    refine hq_aL S rfl rfl (by decide) (b5 c1 c58 c59 c60 c61 c71 c72 c73 c74 c79 c80 c81).1 (b5 c1 c58 c59 c60 c61 c71 c72 c73 c74 c79 c80 c81).2 ?_
                    exact hq_W.ret rfl rfl rfl (k20 c1 c58 c59 c60 c61 c71 c72 c73 c74 c79 c80 c81)
            · exact absurd (c60.symm.trans c73) (by decide)
          · intro c82 c83
            exact absurd (c59.symm.trans c83) (by decide)
      · exact absurd c60 (by decide)
    · intro c84 c85
      refine ⟨by omega, by omega, ?_⟩
      refine hq_if rfl (fun c86 => ?_) (fun c86 => ?_)
      · exact absurd c86 (by decide)
      · refine hq_p rfl rfl ?_
        refine hq_gR S rfl rfl (by decide) (by decide) rfl ?_
        refine hq_gR S rfl rfl (by decide) (by decide) rfl ?_
        refine hq_p rfl rfl ?_
        refine hq_aL S rfl rfl (by decide) (b6 c1 c84 c85 c86).1 (b6 c1 c84 c85 c86).2 ?_
        exact hq_W.ret rfl rfl rfl (k21 c1 c84 c85 c86)
theorem wp_123 {X : pm_X} {d : Nat} {h : pm_H} {Q : pm_H → Option Value → Prop}  (hd : 1 ≤ d) (S : hs_Shape h)
    (k1 : Q h (some (.int (hs_fI h 0 14))))
    : hq_M X d 123 [.ref 0] h Q := by
  obtain ⟨d, rfl⟩ : ∃ e, d = e + 1 := ⟨d - 1, by omega⟩
  refine hq_M.enter (q := (⟨"TrainBearers", "status", "()I"⟩, _, 1, some .int, 10, 1, pm_c123)) rfl rfl ?_
  show hq_W X d 10 false (some .int) pm_c123 (0, [some (.ref 0)], [], h) Q
  refine hq_p rfl rfl ?_
  refine hq_gI S rfl rfl (by decide) (by decide) rfl ?_
  exact hq_W.ret rfl rfl rfl (k1)
theorem wp_126 {X : pm_X} {d : Nat} {h : pm_H} {Q : pm_H → Option Value → Prop} {x1 : Int32} (hd : 1 ≤ d) (S : hs_Shape h)
    (k1 : ∀ h1, h1 = hs_sF h 0 10 14 (.int (Int32.ofInt 0)) → hs_Shape h1 → h1.1 = h.1 → h1.2.1 = h.2.1 → Q h1 (some (.int x1)))
    : hq_M X d 126 [.ref 0, .int x1] h Q := by
  obtain ⟨d, rfl⟩ : ∃ e, d = e + 1 := ⟨d - 1, by omega⟩
  refine hq_M.enter (q := (⟨"TrainBearers", "accept", "(I)I"⟩, _, 2, some .int, 10, 2, pm_c126)) rfl rfl ?_
  show hq_W X d 10 false (some .int) pm_c126 (0, [some (.ref 0), some (.int x1)], [], h) Q
  refine hq_p rfl rfl ?_
  refine hq_p rfl rfl ?_
  refine hq_pFo S rfl rfl (by decide) rfl rfl ⟨_, rfl⟩ (fun h1 e1 S1 p1 q1 => ?_)
  refine hq_p rfl rfl ?_
  exact hq_W.ret rfl rfl rfl (k1 h1 e1 S1 p1 q1)
theorem wp_127 {X : pm_X} {d : Nat} {h : pm_H} {Q : pm_H → Option Value → Prop} {x1 : Int32} (hd : 2 ≤ d) (S : hs_Shape h)
    (b1 : (pm_cmp0 .ge x1 = false) → ∀ h3, h3 = hs_sF h 0 10 14 (.int x1) → hs_Shape h3 → h3.1 = h.1 → h3.2.1 = h.2.1 → (pm_cmp0 .ge x1 = false) → (pm_cmp .le x1 (-(Int32.ofNat 7)) = false) → 0 ≤ ((-x1)).toInt ∧ ((-x1)).toInt < (7 : Nat))
    (b2 : (pm_cmp0 .ge x1 = false) → ∀ h6, h6 = hs_sF h 0 10 14 (.int x1) → hs_Shape h6 → h6.1 = h.1 → h6.2.1 = h.2.1 → (pm_cmp0 .ge x1 = false) → (pm_cmp .le x1 (-(Int32.ofNat 7)) = false) → 0 ≤ ((-x1)).toInt ∧ ((-x1)).toInt < (7 : Nat))
    (k1 : (pm_cmp0 .ge x1 = true) → ∀ h2, h2 = hs_sF h 0 10 14 (.int (Int32.ofInt 0)) → hs_Shape h2 → h2.1 = h.1 → h2.2.1 = h.2.1 → Q h2 (some (.int x1)))
    (k2 : (pm_cmp0 .ge x1 = false) → ∀ h11, h11 = hs_sF h 0 10 14 (.int x1) → hs_Shape h11 → h11.1 = h.1 → h11.2.1 = h.2.1 → (pm_cmp0 .ge x1 = false) → (pm_cmp .le x1 (-(Int32.ofNat 7)) = true) → Q h11 (some (.int x1)))
    (k3 : (pm_cmp0 .ge x1 = false) → ∀ h14, h14 = hs_sF h 0 10 14 (.int x1) → hs_Shape h14 → h14.1 = h.1 → h14.2.1 = h.2.1 → (pm_cmp0 .ge x1 = false) → (pm_cmp .le x1 (-(Int32.ofNat 7)) = false) → ∀ h17, h17 = hs_sA h14 96 0 7 ((-x1)).toNatClampNeg ((hs_aI h14 96 ((-x1)).toNatClampNeg) + (Int32.ofInt 1)) → hs_Shape h17 → h17.1 = h14.1 → h17.2.1 = h14.2.1 → Q h17 (some (.int x1)))
    : hq_M X d 127 [.ref 0, .int x1] h Q := by
  obtain ⟨d, rfl⟩ : ∃ e, d = e + 1 := ⟨d - 1, by omega⟩
  refine hq_M.enter (q := (⟨"TrainBearers", "settle", "(I)I"⟩, _, 2, some .int, 10, 2, pm_c127)) rfl rfl ?_
  show hq_W X d 10 false (some .int) pm_c127 (0, [some (.ref 0), some (.int x1)], [], h) Q
  refine hq_p rfl rfl ?_
  refine hq_if rfl (fun c1 => ?_) (fun c1 => ?_)
  · refine hq_p rfl rfl ?_
    refine hq_p rfl rfl ?_
    refine hq_inv 0 rfl (fun _ => rfl) rfl rfl rfl (hq_pre_o S (x := 0) (ci := 10) rfl (by decide) rfl rfl rfl rfl) ?_
    refine wp_126 (x1 := x1) (by omega) S  ?_
    · intro h2 e2 S2 p2 q2
      refine ⟨by omega, by omega, ?_⟩
      exact hq_W.ret rfl rfl rfl (k1 c1 h2 e2 S2 p2 q2)
  · refine hq_p rfl rfl ?_
    refine hq_p rfl rfl ?_
    refine hq_inv 0 rfl (fun _ => rfl) rfl rfl rfl (hq_pre_o S (x := 0) (ci := 10) rfl (by decide) rfl rfl rfl rfl) ?_
    refine wp_125 (x1 := x1) (by omega) S (fun h3 e3 S3 p3 q3 c4 c5 => b1 c1 h3 e3 S3 p3 q3 c4 c5) (fun h6 e6 S6 p6 q6 c7 c8 => b2 c1 h6 e6 S6 p6 q6 c7 c8) ?_ ?_ ?_
    · intro h9 e9 S9 p9 q9 c10
      exact absurd (c1.symm.trans c10) (by decide)
    · intro h11 e11 S11 p11 q11 c12 c13
      refine ⟨by omega, by omega, ?_⟩
      refine hq_p rfl rfl ?_
      exact hq_W.ret rfl rfl rfl (k2 c1 h11 e11 S11 p11 q11 c12 c13)
    · intro h14 e14 S14 p14 q14 c15 c16 h17 e17 S17 p17 q17
      refine ⟨by omega, by omega, ?_⟩
      refine hq_p rfl rfl ?_
      exact hq_W.ret rfl rfl rfl (k3 c1 h14 e14 S14 p14 q14 c15 c16 h17 e17 S17 p17 q17)
theorem wp_259 {X : pm_X} {d : Nat} {h : pm_H} {Q : pm_H → Option Value → Prop} {x1 : Int32} {x2 : Int32} (hd : 1 ≤ d) (S : hs_Shape h)
    (k1 : (pm_cmp .gt x1 x2 = true) → Q h (some (.int x2)))
    (k2 : (pm_cmp .gt x1 x2 = false) → Q h (some (.int x1)))
    : hq_M X d 259 [.int x1, .int x2] h Q := by
  obtain ⟨d, rfl⟩ : ∃ e, d = e + 1 := ⟨d - 1, by omega⟩
  refine hq_M.enter (q := (⟨"java/lang/Math", "min", "(II)I"⟩, _, 2, some .int, 14, 2, pm_c259)) rfl rfl ?_
  show hq_W X d 14 false (some .int) pm_c259 (0, [some (.int x1), some (.int x2)], [], h) Q
  refine hq_p rfl rfl ?_
  refine hq_p rfl rfl ?_
  refine hq_ifi rfl (fun c1 => ?_) (fun c1 => ?_)
  · refine hq_p rfl rfl ?_
    exact hq_W.ret rfl rfl rfl (k1 c1)
  · refine hq_p rfl rfl ?_
    refine hq_p rfl rfl ?_
    exact hq_W.ret rfl rfl rfl (k2 c1)
theorem wp_258 {X : pm_X} {d : Nat} {h : pm_H} {Q : pm_H → Option Value → Prop} {x1 : Int32} {x2 : Int32} (hd : 1 ≤ d) (S : hs_Shape h)
    (k1 : (pm_cmp .lt x1 x2 = true) → Q h (some (.int x2)))
    (k2 : (pm_cmp .lt x1 x2 = false) → Q h (some (.int x1)))
    : hq_M X d 258 [.int x1, .int x2] h Q := by
  obtain ⟨d, rfl⟩ : ∃ e, d = e + 1 := ⟨d - 1, by omega⟩
  refine hq_M.enter (q := (⟨"java/lang/Math", "max", "(II)I"⟩, _, 2, some .int, 14, 2, pm_c258)) rfl rfl ?_
  show hq_W X d 14 false (some .int) pm_c258 (0, [some (.int x1), some (.int x2)], [], h) Q
  refine hq_p rfl rfl ?_
  refine hq_p rfl rfl ?_
  refine hq_ifi rfl (fun c1 => ?_) (fun c1 => ?_)
  · refine hq_p rfl rfl ?_
    exact hq_W.ret rfl rfl rfl (k1 c1)
  · refine hq_p rfl rfl ?_
    refine hq_p rfl rfl ?_
    exact hq_W.ret rfl rfl rfl (k2 c1)
theorem wp_130 {X : pm_X} {d : Nat} {h : pm_H} {Q : pm_H → Option Value → Prop} {x1 : Int32} {x2 : Int32} (hd : 2 ≤ d) (S : hs_Shape h)
    (k1 : (pm_cmp .gt x2 x1 = true) → (pm_cmp .lt (Int32.ofInt 0) x1 = true) → Q h (some (.int x1)))
    (k2 : (pm_cmp .gt x2 x1 = true) → (pm_cmp .lt (Int32.ofInt 0) x1 = false) → Q h (some (.int (Int32.ofInt 0))))
    (k3 : (pm_cmp .gt x2 x1 = false) → (pm_cmp .lt (Int32.ofInt 0) x2 = true) → Q h (some (.int x2)))
    (k4 : (pm_cmp .gt x2 x1 = false) → (pm_cmp .lt (Int32.ofInt 0) x2 = false) → Q h (some (.int (Int32.ofInt 0))))
    : hq_M X d 130 [.int x1, .int x2] h Q := by
  obtain ⟨d, rfl⟩ : ∃ e, d = e + 1 := ⟨d - 1, by omega⟩
  refine hq_M.enter (q := (⟨"TrainBearers", "within", "(II)I"⟩, _, 2, some .int, 10, 2, pm_c130)) rfl rfl ?_
  show hq_W X d 10 false (some .int) pm_c130 (0, [some (.int x1), some (.int x2)], [], h) Q
  refine hq_p rfl rfl ?_
  refine hq_p rfl rfl ?_
  refine hq_p rfl rfl ?_
  refine hq_inv 1 rfl (fun _ => rfl) rfl rfl rfl rfl ?_
  refine wp_259 (x1 := x2) (x2 := x1) (by omega) S  ?_ ?_
  · intro c1
    refine ⟨by omega, by omega, ?_⟩
    refine hq_inv 1 rfl (fun _ => rfl) rfl rfl rfl rfl ?_
    refine wp_258 (x1 := (Int32.ofInt 0)) (x2 := x1) (by omega) S  ?_ ?_
    · intro c2
      refine ⟨by omega, by omega, ?_⟩
      exact hq_W.ret rfl rfl rfl (k1 c1 c2)
    · intro c3
      refine ⟨by omega, by omega, ?_⟩
      exact hq_W.ret rfl rfl rfl (k2 c1 c3)
  · intro c4
    refine ⟨by omega, by omega, ?_⟩
    refine hq_inv 1 rfl (fun _ => rfl) rfl rfl rfl rfl ?_
    refine wp_258 (x1 := (Int32.ofInt 0)) (x2 := x2) (by omega) S  ?_ ?_
    · intro c5
      refine ⟨by omega, by omega, ?_⟩
      exact hq_W.ret rfl rfl rfl (k3 c4 c5)
    · intro c6
      refine ⟨by omega, by omega, ?_⟩
      exact hq_W.ret rfl rfl rfl (k4 c4 c6)
theorem wp_136 {X : pm_X} {d : Nat} {h : pm_H} {Q : pm_H → Option Value → Prop} {x1 : Int64} {x2 : Int64} {x3 : Int64} (hd : 1 ≤ d) (S : hs_Shape h)
    (k1 : (pm_cmp0 .lt (lg_cmp x1 x2) = true) → Q h (some (.int (Int32.ofInt 0))))
    (k2 : (pm_cmp0 .lt (lg_cmp x1 x2) = false) → (pm_cmp0 .gt (lg_cmp x1 x3) = true) → Q h (some (.int (Int32.ofInt 0))))
    (k3 : (pm_cmp0 .lt (lg_cmp x1 x2) = false) → (pm_cmp0 .gt (lg_cmp x1 x3) = false) → Q h (some (.int (Int32.ofInt 1))))
    : hq_M X d 136 [.long x1, .long x2, .long x3] h Q := by
  obtain ⟨d, rfl⟩ : ∃ e, d = e + 1 := ⟨d - 1, by omega⟩
  refine hq_M.enter (q := (⟨"TrainBearersModel", "in", "(JJJ)Z"⟩, _, 6, some .boolean, 11, 3, pm_c136)) rfl rfl ?_
  show hq_W X d 11 false (some .boolean) pm_c136 (0, [some (.long x1), none, some (.long x2), none, some (.long x3), none], [], h) Q
  refine hq_p rfl rfl ?_
  refine hq_p rfl rfl ?_
  refine hq_p rfl rfl ?_
  refine hq_if rfl (fun c1 => ?_) (fun c1 => ?_)
  · refine hq_p rfl rfl ?_
    exact hq_W.ret rfl rfl rfl (k1 c1)
  · refine hq_p rfl rfl ?_
    refine hq_p rfl rfl ?_
    refine hq_p rfl rfl ?_
    refine hq_if rfl (fun c2 => ?_) (fun c2 => ?_)
    · refine hq_p rfl rfl ?_
      exact hq_W.ret rfl rfl rfl (k2 c1 c2)
    · refine hq_p rfl rfl ?_
      refine hq_p rfl rfl ?_
      exact hq_W.ret rfl rfl rfl (k3 c1 c2)
theorem wp_137 {X : pm_X} {d : Nat} {h : pm_H} {Q : pm_H → Option Value → Prop} {x1 : Int32} {x2 : Int32} (hd : 1 ≤ d) (S : hs_Shape h)
    (k1 : (pm_cmp .ne ((x1 >>> (x2 &&& 31)) &&& (Int32.ofInt 1)) (Int32.ofInt 1) = true) → Q h (some (.int (Int32.ofInt 0))))
    (k2 : (pm_cmp .ne ((x1 >>> (x2 &&& 31)) &&& (Int32.ofInt 1)) (Int32.ofInt 1) = false) → Q h (some (.int (Int32.ofInt 1))))
    : hq_M X d 137 [.int x1, .int x2] h Q := by
  obtain ⟨d, rfl⟩ : ∃ e, d = e + 1 := ⟨d - 1, by omega⟩
  refine hq_M.enter (q := (⟨"TrainBearersModel", "is", "(II)Z"⟩, _, 2, some .boolean, 11, 2, pm_c137)) rfl rfl ?_
  show hq_W X d 11 false (some .boolean) pm_c137 (0, [some (.int x1), some (.int x2)], [], h) Q
  refine hq_p rfl rfl ?_
  refine hq_p rfl rfl ?_
  refine hq_p rfl rfl ?_
  refine hq_p rfl rfl ?_
  refine hq_p rfl rfl ?_
  refine hq_p rfl rfl ?_
  refine hq_ifi rfl (fun c1 => ?_) (fun c1 => ?_)
  · refine hq_p rfl rfl ?_
    exact hq_W.ret rfl rfl rfl (k1 c1)
  · refine hq_p rfl rfl ?_
    refine hq_p rfl rfl ?_
    exact hq_W.ret rfl rfl rfl (k2 c1)
theorem wp_139 {X : pm_X} {d : Nat} {h : pm_H} {Q : pm_H → Option Value → Prop} {x1 : Int64} {x2 : Int32} {x3 : Int32} (hd : 1 ≤ d) (S : hs_Shape h)
    (k1 : (pm_cmp0 .ge (lg_cmp x1 (x2).toInt64) = true) → (pm_cmp0 .le (lg_cmp x1 (x3).toInt64) = true) → Q h (some (.int (x1).toInt32)))
    (k2 : (pm_cmp0 .ge (lg_cmp x1 (x2).toInt64) = true) → (pm_cmp0 .le (lg_cmp x1 (x3).toInt64) = false) → Q h (some (.int x3)))
    (k3 : (pm_cmp0 .ge (lg_cmp x1 (x2).toInt64) = false) → Q h (some (.int x2)))
    : hq_M X d 139 [.long x1, .int x2, .int x3] h Q := by
  obtain ⟨d, rfl⟩ : ∃ e, d = e + 1 := ⟨d - 1, by omega⟩
  refine hq_M.enter (q := (⟨"TrainBearersModel", "within", "(JII)I"⟩, _, 4, some .int, 11, 3, pm_c139)) rfl rfl ?_
  show hq_W X d 11 false (some .int) pm_c139 (0, [some (.long x1), none, some (.int x2), some (.int x3)], [], h) Q
  refine hq_p rfl rfl ?_
  refine hq_p rfl rfl ?_
  refine hq_p rfl rfl ?_
  refine hq_p rfl rfl ?_
  refine hq_if rfl (fun c1 => ?_) (fun c1 => ?_)
  · refine hq_p rfl rfl ?_
    refine hq_p rfl rfl ?_
    refine hq_p rfl rfl ?_
    refine hq_p rfl rfl ?_
    refine hq_if rfl (fun c2 => ?_) (fun c2 => ?_)
    · refine hq_p rfl rfl ?_
      refine hq_p rfl rfl ?_
      exact hq_W.ret rfl rfl rfl (k1 c1 c2)
    · refine hq_p rfl rfl ?_
      refine hq_p rfl rfl ?_
      exact hq_W.ret rfl rfl rfl (k2 c1 c2)
  · refine hq_p rfl rfl ?_
    refine hq_p rfl rfl ?_
    exact hq_W.ret rfl rfl rfl (k3 c1)
theorem wp_140 {X : pm_X} {d : Nat} {h : pm_H} {Q : pm_H → Option Value → Prop} {x1 : Int32} (hd : 1 ≤ d) (S : hs_Shape h)
    (b1 : (pm_cmp0 .ge x1 = false) → ∀ h4, h4 = hs_sF h 97 11 1 (.int x1) → hs_Shape h4 → h4.1 = h.1 → h4.2.1 = h.2.1 → (pm_cmp0 .ge x1 = false) → 0 ≤ ((-x1)).toInt ∧ ((-x1)).toInt < (7 : Nat))
    (b2 : (pm_cmp0 .ge x1 = false) → ∀ h4, h4 = hs_sF h 97 11 1 (.int x1) → hs_Shape h4 → h4.1 = h.1 → h4.2.1 = h.2.1 → (pm_cmp0 .ge x1 = false) → 0 ≤ ((-x1)).toInt ∧ ((-x1)).toInt < (7 : Nat))
    (k1 : (pm_cmp0 .ge x1 = true) → ∀ h2, h2 = hs_sF h 97 11 1 (.int (Int32.ofInt 0)) → hs_Shape h2 → h2.1 = h.1 → h2.2.1 = h.2.1 → (pm_cmp0 .ge x1 = true) → Q h2 (some (.int x1)))
    (k2 : (pm_cmp0 .ge x1 = false) → ∀ h4, h4 = hs_sF h 97 11 1 (.int x1) → hs_Shape h4 → h4.1 = h.1 → h4.2.1 = h.2.1 → (pm_cmp0 .ge x1 = false) → ∀ h6, h6 = hs_sA h4 98 0 7 ((-x1)).toNatClampNeg ((hs_aI h4 98 ((-x1)).toNatClampNeg) + (Int32.ofInt 1)) → hs_Shape h6 → h6.1 = h4.1 → h6.2.1 = h4.2.1 → Q h6 (some (.int x1)))
    : hq_M X d 140 [.ref 97, .int x1] h Q := by
  obtain ⟨d, rfl⟩ : ∃ e, d = e + 1 := ⟨d - 1, by omega⟩
  refine hq_M.enter (q := (⟨"TrainBearersModel", "tell", "(I)I"⟩, _, 2, some .int, 11, 2, pm_c140)) rfl rfl ?_
  show hq_W X d 11 false (some .int) pm_c140 (0, [some (.ref 97), some (.int x1)], [], h) Q
  refine hq_p rfl rfl ?_
  refine hq_p rfl rfl ?_
  refine hq_if rfl (fun c1 => ?_) (fun c1 => ?_)
  · refine hq_p rfl rfl ?_
    refine hq_pFo S rfl rfl (by decide) rfl rfl ⟨_, rfl⟩ (fun h2 e2 S2 p2 q2 => ?_)
    refine hq_p rfl rfl ?_
    refine hq_if rfl (fun c3 => ?_) (fun c3 => ?_)
    · refine hq_p rfl rfl ?_
      exact hq_W.ret rfl rfl rfl (k1 c1 h2 e2 S2 p2 q2 c3)
    · exact absurd (c1.symm.trans c3) (by decide)
  · refine hq_p rfl rfl ?_
    refine hq_p rfl rfl ?_
    refine hq_pFo S rfl rfl (by decide) rfl rfl ⟨_, rfl⟩ (fun h4 e4 S4 p4 q4 => ?_)
    refine hq_p rfl rfl ?_
    refine hq_if rfl (fun c5 => ?_) (fun c5 => ?_)
    · exact absurd (c1.symm.trans c5) (by decide)
    · refine hq_p rfl rfl ?_
      refine hq_gR S4 rfl rfl (by decide) (by decide) rfl ?_
      refine hq_p rfl rfl ?_
      refine hq_p rfl rfl ?_
      refine hq_p rfl rfl ?_
      refine hq_aL S4 rfl rfl (by decide) (b1 c1 h4 e4 S4 p4 q4 c5).1 (b1 c1 h4 e4 S4 p4 q4 c5).2 ?_
      refine hq_p rfl rfl ?_
      refine hq_p rfl rfl ?_
      refine hq_aSo S4 rfl rfl (by decide) (b2 c1 h4 e4 S4 p4 q4 c5).1 (b2 c1 h4 e4 S4 p4 q4 c5).2 (fun h6 e6 S6 p6 q6 => ?_)
      refine hq_p rfl rfl ?_
      exact hq_W.ret rfl rfl rfl (k2 c1 h4 e4 S4 p4 q4 c5 h6 e6 S6 p6 q6)
theorem wp_141 {X : pm_X} {d : Nat} {h : pm_H} {Q : pm_H → Option Value → Prop} {x1 : Int32} {x2 : Int32} (hd : 1 ≤ d) (S : hs_Shape h)
    (b1 : 0 ≤ (x1).toInt ∧ (x1).toInt < (5498 : Nat))
    (b2 : 0 ≤ (x1).toInt ∧ (x1).toInt < (5498 : Nat))
    (k1 : ∀ h1, h1 = hs_sA h 99 0 5498 (x1).toNatClampNeg x2 → hs_Shape h1 → h1.1 = h.1 → h1.2.1 = h.2.1 → ∀ h2, h2 = hs_sF h1 97 11 1 (.int (Int32.ofInt 0)) → hs_Shape h2 → h2.1 = h1.1 → h2.2.1 = h1.2.1 → Q h2 (some (.int (hs_aI h 99 (x1).toNatClampNeg))))
    : hq_M X d 141 [.ref 97, .int x1, .int x2] h Q := by
  obtain ⟨d, rfl⟩ : ∃ e, d = e + 1 := ⟨d - 1, by omega⟩
  refine hq_M.enter (q := (⟨"TrainBearersModel", "change", "(II)I"⟩, _, 4, some .int, 11, 3, pm_c141)) rfl rfl ?_
  show hq_W X d 11 false (some .int) pm_c141 (0, [some (.ref 97), some (.int x1), some (.int x2), none], [], h) Q
  refine hq_p rfl rfl ?_
  refine hq_gR S rfl rfl (by decide) (by decide) rfl ?_
  refine hq_p rfl rfl ?_
  refine hq_aL S rfl rfl (by decide) (b1).1 (b1).2 ?_
  refine hq_p rfl rfl ?_
  refine hq_p rfl rfl ?_
  refine hq_gR S rfl rfl (by decide) (by decide) rfl ?_
  refine hq_p rfl rfl ?_
  refine hq_p rfl rfl ?_
  refine hq_aSo S rfl rfl (by decide) (b2).1 (b2).2 (fun h1 e1 S1 p1 q1 => ?_)
  refine hq_p rfl rfl ?_
  refine hq_p rfl rfl ?_
  refine hq_pFo S1 rfl rfl (by decide) rfl rfl ⟨_, rfl⟩ (fun h2 e2 S2 p2 q2 => ?_)
  refine hq_p rfl rfl ?_
  exact hq_W.ret rfl rfl rfl (k1 h1 e1 S1 p1 q1 h2 e2 S2 p2 q2)
theorem wp_142 {X : pm_X} {d : Nat} {h : pm_H} {Q : pm_H → Option Value → Prop} {x1 : Int32} (hd : 2 ≤ d) (S : hs_Shape h)
    (b1 : (pm_cmp0 .ge x1 = true) → ∀ h2, h2 = hs_sF h 97 11 8 (.int (Int32.ofInt 0)) → hs_Shape h2 → h2.1 = h.1 → h2.2.1 = h.2.1 → (pm_cmp0 .ge x1 = false) → ∀ h4, h4 = hs_sF h2 97 11 1 (.int x1) → hs_Shape h4 → h4.1 = h2.1 → h4.2.1 = h2.2.1 → (pm_cmp0 .ge x1 = false) → 0 ≤ ((-x1)).toInt ∧ ((-x1)).toInt < (7 : Nat))
    (b2 : (pm_cmp0 .ge x1 = true) → ∀ h2, h2 = hs_sF h 97 11 8 (.int (Int32.ofInt 0)) → hs_Shape h2 → h2.1 = h.1 → h2.2.1 = h.2.1 → (pm_cmp0 .ge x1 = false) → ∀ h7, h7 = hs_sF h2 97 11 1 (.int x1) → hs_Shape h7 → h7.1 = h2.1 → h7.2.1 = h2.2.1 → (pm_cmp0 .ge x1 = false) → 0 ≤ ((-x1)).toInt ∧ ((-x1)).toInt < (7 : Nat))
    (b3 : (pm_cmp0 .ge x1 = false) → ∀ h16, h16 = hs_sF h 97 11 8 (.int (hs_fI h 97 8)) → hs_Shape h16 → h16.1 = h.1 → h16.2.1 = h.2.1 → (pm_cmp0 .ge x1 = false) → ∀ h18, h18 = hs_sF h16 97 11 1 (.int x1) → hs_Shape h18 → h18.1 = h16.1 → h18.2.1 = h16.2.1 → (pm_cmp0 .ge x1 = false) → 0 ≤ ((-x1)).toInt ∧ ((-x1)).toInt < (7 : Nat))
    (b4 : (pm_cmp0 .ge x1 = false) → ∀ h16, h16 = hs_sF h 97 11 8 (.int (hs_fI h 97 8)) → hs_Shape h16 → h16.1 = h.1 → h16.2.1 = h.2.1 → (pm_cmp0 .ge x1 = false) → ∀ h21, h21 = hs_sF h16 97 11 1 (.int x1) → hs_Shape h21 → h21.1 = h16.1 → h21.2.1 = h16.2.1 → (pm_cmp0 .ge x1 = false) → 0 ≤ ((-x1)).toInt ∧ ((-x1)).toInt < (7 : Nat))
    (k1 : (pm_cmp0 .ge x1 = true) → ∀ h2, h2 = hs_sF h 97 11 8 (.int (Int32.ofInt 0)) → hs_Shape h2 → h2.1 = h.1 → h2.2.1 = h.2.1 → (pm_cmp0 .ge x1 = true) → ∀ h10, h10 = hs_sF h2 97 11 1 (.int (Int32.ofInt 0)) → hs_Shape h10 → h10.1 = h2.1 → h10.2.1 = h2.2.1 → (pm_cmp0 .ge x1 = true) → Q h10 (some (.int x1)))
    (k2 : (pm_cmp0 .ge x1 = false) → ∀ h16, h16 = hs_sF h 97 11 8 (.int (hs_fI h 97 8)) → hs_Shape h16 → h16.1 = h.1 → h16.2.1 = h.2.1 → (pm_cmp0 .ge x1 = false) → ∀ h27, h27 = hs_sF h16 97 11 1 (.int x1) → hs_Shape h27 → h27.1 = h16.1 → h27.2.1 = h16.2.1 → (pm_cmp0 .ge x1 = false) → ∀ h29, h29 = hs_sA h27 98 0 7 ((-x1)).toNatClampNeg ((hs_aI h27 98 ((-x1)).toNatClampNeg) + (Int32.ofInt 1)) → hs_Shape h29 → h29.1 = h27.1 → h29.2.1 = h27.2.1 → Q h29 (some (.int x1)))
    : hq_M X d 142 [.ref 97, .int x1] h Q := by
  obtain ⟨d, rfl⟩ : ∃ e, d = e + 1 := ⟨d - 1, by omega⟩
  refine hq_M.enter (q := (⟨"TrainBearersModel", "settled", "(I)I"⟩, _, 2, some .int, 11, 2, pm_c142)) rfl rfl ?_
  show hq_W X d 11 false (some .int) pm_c142 (0, [some (.ref 97), some (.int x1)], [], h) Q
  refine hq_p rfl rfl ?_
  refine hq_p rfl rfl ?_
  refine hq_if rfl (fun c1 => ?_) (fun c1 => ?_)
  · refine hq_p rfl rfl ?_
    refine hq_pFo S rfl rfl (by decide) rfl rfl ⟨_, rfl⟩ (fun h2 e2 S2 p2 q2 => ?_)
    refine hq_p rfl rfl ?_
    refine hq_p rfl rfl ?_
    refine hq_inv 0 rfl (fun _ => rfl) rfl rfl rfl (hq_pre_o S2 (x := 97) (ci := 11) rfl (by decide) rfl rfl rfl rfl) ?_
    refine wp_140 (x1 := x1) (by omega) S2 (fun c3 h4 e4 S4 p4 q4 c5 => b1 c1 h2 e2 S2 p2 q2 c3 h4 e4 S4 p4 q4 c5) (fun c6 h7 e7 S7 p7 q7 c8 => b2 c1 h2 e2 S2 p2 q2 c6 h7 e7 S7 p7 q7 c8) ?_ ?_
    · intro c9 h10 e10 S10 p10 q10 c11
      refine ⟨by omega, by omega, ?_⟩
      exact hq_W.ret rfl rfl rfl (k1 c1 h2 e2 S2 p2 q2 c9 h10 e10 S10 p10 q10 c11)
    · intro c12 h13 e13 S13 p13 q13 c14 h15 e15 S15 p15 q15
      exact absurd (c1.symm.trans c12) (by decide)
  · refine hq_p rfl rfl ?_
    refine hq_gI S rfl rfl (by decide) (by decide) rfl ?_
    refine hq_p rfl rfl ?_
    refine hq_pFo S rfl rfl (by decide) rfl rfl ⟨_, rfl⟩ (fun h16 e16 S16 p16 q16 => ?_)
    refine hq_p rfl rfl ?_
    refine hq_p rfl rfl ?_
    refine hq_inv 0 rfl (fun _ => rfl) rfl rfl rfl (hq_pre_o S16 (x := 97) (ci := 11) rfl (by decide) rfl rfl rfl rfl) ?_
    refine wp_140 (x1 := x1) (by omega) S16 (fun c17 h18 e18 S18 p18 q18 c19 => b3 c1 h16 e16 S16 p16 q16 c17 h18 e18 S18 p18 q18 c19) (fun c20 h21 e21 S21 p21 q21 c22 => b4 c1 h16 e16 S16 p16 q16 c20 h21 e21 S21 p21 q21 c22) ?_ ?_
    · intro c23 h24 e24 S24 p24 q24 c25
      exact absurd (c1.symm.trans c23) (by decide)
    · intro c26 h27 e27 S27 p27 q27 c28 h29 e29 S29 p29 q29
      refine ⟨by omega, by omega, ?_⟩
      exact hq_W.ret rfl rfl rfl (k2 c1 h16 e16 S16 p16 q16 c26 h27 e27 S27 p27 q27 c28 h29 e29 S29 p29 q29)
theorem wp_149 {X : pm_X} {d : Nat} {h : pm_H} {Q : pm_H → Option Value → Prop} {x1 : Int32} (hd : 2 ≤ d) (S : hs_Shape h)
    (b1 : 0 ≤ ((Int32.ofInt 0)).toInt ∧ ((Int32.ofInt 0)).toInt < (5498 : Nat))
    (k1 : (pm_cmp0 .lt (lg_cmp (x1).toInt64 (Int64.ofNat 0)) = true) → Q h (some (.int (Int32.ofInt 0))))
    (k2 : (pm_cmp0 .lt (lg_cmp (x1).toInt64 (Int64.ofNat 0)) = false) → (pm_cmp0 .gt (lg_cmp (x1).toInt64 (((hs_aI h 99 ((Int32.ofInt 0)).toNatClampNeg)).toInt64 - (Int64.ofNat 1))) = true) → Q h (some (.int (Int32.ofInt 0))))
    (k3 : (pm_cmp0 .lt (lg_cmp (x1).toInt64 (Int64.ofNat 0)) = false) → (pm_cmp0 .gt (lg_cmp (x1).toInt64 (((hs_aI h 99 ((Int32.ofInt 0)).toNatClampNeg)).toInt64 - (Int64.ofNat 1))) = false) → Q h (some (.int (Int32.ofInt 1))))
    : hq_M X d 149 [.ref 97, .int x1] h Q := by
  obtain ⟨d, rfl⟩ : ∃ e, d = e + 1 := ⟨d - 1, by omega⟩
  refine hq_M.enter (q := (⟨"TrainBearersModel", "isYard", "(I)Z"⟩, _, 2, some .boolean, 11, 2, pm_c149)) rfl rfl ?_
  show hq_W X d 11 false (some .boolean) pm_c149 (0, [some (.ref 97), some (.int x1)], [], h) Q
  refine hq_p rfl rfl ?_
  refine hq_p rfl rfl ?_
  refine hq_p rfl rfl ?_
  refine hq_p rfl rfl ?_
  refine hq_gR S rfl rfl (by decide) (by decide) rfl ?_
  refine hq_p rfl rfl ?_
  refine hq_aL S rfl rfl (by decide) (b1).1 (b1).2 ?_
  refine hq_p rfl rfl ?_
  refine hq_p rfl rfl ?_
  refine hq_p rfl rfl ?_
  refine hq_inv 1 rfl (fun _ => rfl) rfl rfl rfl rfl ?_
  refine wp_136 (x1 := (x1).toInt64) (x2 := (Int64.ofNat 0)) (x3 := (((hs_aI h 99 ((Int32.ofInt 0)).toNatClampNeg)).toInt64 - (Int64.ofNat 1))) (by omega) S  ?_ ?_ ?_
  · intro c1
    refine ⟨by omega, by omega, ?_⟩
    exact hq_W.ret rfl rfl rfl (k1 c1)
  · intro c2 c3
    refine ⟨by omega, by omega, ?_⟩
    exact hq_W.ret rfl rfl rfl (k2 c2 c3)
  · intro c4 c5
    refine ⟨by omega, by omega, ?_⟩
    exact hq_W.ret rfl rfl rfl (k3 c4 c5)
theorem wp_150 {X : pm_X} {d : Nat} {h : pm_H} {Q : pm_H → Option Value → Prop} {x1 : Int32} (hd : 2 ≤ d) (S : hs_Shape h)
    (b1 : 0 ≤ ((Int32.ofInt 1)).toInt ∧ ((Int32.ofInt 1)).toInt < (5498 : Nat))
    (k1 : (pm_cmp0 .lt (lg_cmp (x1).toInt64 (Int64.ofNat 0)) = true) → Q h (some (.int (Int32.ofInt 0))))
    (k2 : (pm_cmp0 .lt (lg_cmp (x1).toInt64 (Int64.ofNat 0)) = false) → (pm_cmp0 .gt (lg_cmp (x1).toInt64 (((hs_aI h 99 ((Int32.ofInt 1)).toNatClampNeg)).toInt64 - (Int64.ofNat 1))) = true) → Q h (some (.int (Int32.ofInt 0))))
    (k3 : (pm_cmp0 .lt (lg_cmp (x1).toInt64 (Int64.ofNat 0)) = false) → (pm_cmp0 .gt (lg_cmp (x1).toInt64 (((hs_aI h 99 ((Int32.ofInt 1)).toNatClampNeg)).toInt64 - (Int64.ofNat 1))) = false) → Q h (some (.int (Int32.ofInt 1))))
    : hq_M X d 150 [.ref 97, .int x1] h Q := by
  obtain ⟨d, rfl⟩ : ∃ e, d = e + 1 := ⟨d - 1, by omega⟩
  refine hq_M.enter (q := (⟨"TrainBearersModel", "isGirl", "(I)Z"⟩, _, 2, some .boolean, 11, 2, pm_c150)) rfl rfl ?_
  show hq_W X d 11 false (some .boolean) pm_c150 (0, [some (.ref 97), some (.int x1)], [], h) Q
  refine hq_p rfl rfl ?_
  refine hq_p rfl rfl ?_
  refine hq_p rfl rfl ?_
  refine hq_p rfl rfl ?_
  refine hq_gR S rfl rfl (by decide) (by decide) rfl ?_
  refine hq_p rfl rfl ?_
  refine hq_aL S rfl rfl (by decide) (b1).1 (b1).2 ?_
  refine hq_p rfl rfl ?_
  refine hq_p rfl rfl ?_
  refine hq_p rfl rfl ?_
  refine hq_inv 1 rfl (fun _ => rfl) rfl rfl rfl rfl ?_
  refine wp_136 (x1 := (x1).toInt64) (x2 := (Int64.ofNat 0)) (x3 := (((hs_aI h 99 ((Int32.ofInt 1)).toNatClampNeg)).toInt64 - (Int64.ofNat 1))) (by omega) S  ?_ ?_ ?_
  · intro c1
    refine ⟨by omega, by omega, ?_⟩
    exact hq_W.ret rfl rfl rfl (k1 c1)
  · intro c2 c3
    refine ⟨by omega, by omega, ?_⟩
    exact hq_W.ret rfl rfl rfl (k2 c2 c3)
  · intro c4 c5
    refine ⟨by omega, by omega, ?_⟩
    exact hq_W.ret rfl rfl rfl (k3 c4 c5)
theorem wp_151 {X : pm_X} {d : Nat} {h : pm_H} {Q : pm_H → Option Value → Prop} {x1 : Int32} (hd : 2 ≤ d) (S : hs_Shape h)
    (k1 : (pm_cmp0 .lt (lg_cmp (x1).toInt64 (Int64.ofNat 0)) = true) → Q h (some (.int (Int32.ofInt 0))))
    (k2 : (pm_cmp0 .lt (lg_cmp (x1).toInt64 (Int64.ofNat 0)) = false) → (pm_cmp0 .gt (lg_cmp (x1).toInt64 (5 : Int64)) = true) → Q h (some (.int (Int32.ofInt 0))))
    (k3 : (pm_cmp0 .lt (lg_cmp (x1).toInt64 (Int64.ofNat 0)) = false) → (pm_cmp0 .gt (lg_cmp (x1).toInt64 (5 : Int64)) = false) → Q h (some (.int (Int32.ofInt 1))))
    : hq_M X d 151 [.int x1] h Q := by
  obtain ⟨d, rfl⟩ : ∃ e, d = e + 1 := ⟨d - 1, by omega⟩
  refine hq_M.enter (q := (⟨"TrainBearersModel", "isPlace", "(I)Z"⟩, _, 1, some .boolean, 11, 1, pm_c151)) rfl rfl ?_
  show hq_W X d 11 false (some .boolean) pm_c151 (0, [some (.int x1)], [], h) Q
  refine hq_p rfl rfl ?_
  refine hq_p rfl rfl ?_
  refine hq_p rfl rfl ?_
  refine hq_p rfl rfl ?_
  refine hq_inv 1 rfl (fun _ => rfl) rfl rfl rfl rfl ?_
  refine wp_136 (x1 := (x1).toInt64) (x2 := (Int64.ofNat 0)) (x3 := (5 : Int64)) (by omega) S  ?_ ?_ ?_
  · intro c1
    refine ⟨by omega, by omega, ?_⟩
    exact hq_W.ret rfl rfl rfl (k1 c1)
  · intro c2 c3
    refine ⟨by omega, by omega, ?_⟩
    exact hq_W.ret rfl rfl rfl (k2 c2 c3)
  · intro c4 c5
    refine ⟨by omega, by omega, ?_⟩
    exact hq_W.ret rfl rfl rfl (k3 c4 c5)
theorem wp_154 {X : pm_X} {d : Nat} {h : pm_H} {Q : pm_H → Option Value → Prop} {x1 : Int32} (hd : 3 ≤ d) (S : hs_Shape h)
    (b1 : ∀ h1, h1 = hs_sF h 97 11 0 (.int (Int32.ofInt 0)) → hs_Shape h1 → h1.1 = h.1 → h1.2.1 = h.2.1 → (pm_cmp0 .lt (lg_cmp (x1).toInt64 (Int64.ofNat 1)) = true) → (pm_cmp0 .ne (Int32.ofInt 0) = false) → (pm_cmp0 .ge (Int32.ofInt (-1)) = false) → ∀ h5, h5 = hs_sF h1 97 11 1 (.int (Int32.ofInt (-1))) → hs_Shape h5 → h5.1 = h1.1 → h5.2.1 = h1.2.1 → (pm_cmp0 .ge (Int32.ofInt (-1)) = false) → 0 ≤ ((-(Int32.ofInt (-1)))).toInt ∧ ((-(Int32.ofInt (-1)))).toInt < (7 : Nat))
    (b2 : ∀ h1, h1 = hs_sF h 97 11 0 (.int (Int32.ofInt 0)) → hs_Shape h1 → h1.1 = h.1 → h1.2.1 = h.2.1 → (pm_cmp0 .lt (lg_cmp (x1).toInt64 (Int64.ofNat 1)) = true) → (pm_cmp0 .ne (Int32.ofInt 0) = false) → (pm_cmp0 .ge (Int32.ofInt (-1)) = false) → ∀ h8, h8 = hs_sF h1 97 11 1 (.int (Int32.ofInt (-1))) → hs_Shape h8 → h8.1 = h1.1 → h8.2.1 = h1.2.1 → (pm_cmp0 .ge (Int32.ofInt (-1)) = false) → 0 ≤ ((-(Int32.ofInt (-1)))).toInt ∧ ((-(Int32.ofInt (-1)))).toInt < (7 : Nat))
    (b3 : ∀ h1, h1 = hs_sF h 97 11 0 (.int (Int32.ofInt 0)) → hs_Shape h1 → h1.1 = h.1 → h1.2.1 = h.2.1 → (pm_cmp0 .lt (lg_cmp (x1).toInt64 (Int64.ofNat 1)) = false) → (pm_cmp0 .gt (lg_cmp (x1).toInt64 (20 : Int64)) = true) → (pm_cmp0 .ne (Int32.ofInt 0) = false) → (pm_cmp0 .ge (Int32.ofInt (-1)) = false) → ∀ h21, h21 = hs_sF h1 97 11 1 (.int (Int32.ofInt (-1))) → hs_Shape h21 → h21.1 = h1.1 → h21.2.1 = h1.2.1 → (pm_cmp0 .ge (Int32.ofInt (-1)) = false) → 0 ≤ ((-(Int32.ofInt (-1)))).toInt ∧ ((-(Int32.ofInt (-1)))).toInt < (7 : Nat))
    (b4 : ∀ h1, h1 = hs_sF h 97 11 0 (.int (Int32.ofInt 0)) → hs_Shape h1 → h1.1 = h.1 → h1.2.1 = h.2.1 → (pm_cmp0 .lt (lg_cmp (x1).toInt64 (Int64.ofNat 1)) = false) → (pm_cmp0 .gt (lg_cmp (x1).toInt64 (20 : Int64)) = true) → (pm_cmp0 .ne (Int32.ofInt 0) = false) → (pm_cmp0 .ge (Int32.ofInt (-1)) = false) → ∀ h24, h24 = hs_sF h1 97 11 1 (.int (Int32.ofInt (-1))) → hs_Shape h24 → h24.1 = h1.1 → h24.2.1 = h1.2.1 → (pm_cmp0 .ge (Int32.ofInt (-1)) = false) → 0 ≤ ((-(Int32.ofInt (-1)))).toInt ∧ ((-(Int32.ofInt (-1)))).toInt < (7 : Nat))
    (b5 : ∀ h1, h1 = hs_sF h 97 11 0 (.int (Int32.ofInt 0)) → hs_Shape h1 → h1.1 = h.1 → h1.2.1 = h.2.1 → (pm_cmp0 .lt (lg_cmp (x1).toInt64 (Int64.ofNat 1)) = false) → (pm_cmp0 .gt (lg_cmp (x1).toInt64 (20 : Int64)) = false) → (pm_cmp0 .ne (Int32.ofInt 1) = true) → 0 ≤ ((Int32.ofInt 0)).toInt ∧ ((Int32.ofInt 0)).toInt < (5498 : Nat))
    (b6 : ∀ h1, h1 = hs_sF h 97 11 0 (.int (Int32.ofInt 0)) → hs_Shape h1 → h1.1 = h.1 → h1.2.1 = h.2.1 → (pm_cmp0 .lt (lg_cmp (x1).toInt64 (Int64.ofNat 1)) = false) → (pm_cmp0 .gt (lg_cmp (x1).toInt64 (20 : Int64)) = false) → (pm_cmp0 .ne (Int32.ofInt 1) = true) → (pm_cmp .ne (hs_aI h1 99 ((Int32.ofInt 0)).toNatClampNeg) (Int8.ofInt (8)).toInt32 = true) → 0 ≤ (((Int8.ofInt (34)).toInt32 + (hs_aI h1 99 ((Int32.ofInt 0)).toNatClampNeg))).toInt ∧ (((Int8.ofInt (34)).toInt32 + (hs_aI h1 99 ((Int32.ofInt 0)).toNatClampNeg))).toInt < (5498 : Nat))
    (b7 : ∀ h1, h1 = hs_sF h 97 11 0 (.int (Int32.ofInt 0)) → hs_Shape h1 → h1.1 = h.1 → h1.2.1 = h.2.1 → (pm_cmp0 .lt (lg_cmp (x1).toInt64 (Int64.ofNat 1)) = false) → (pm_cmp0 .gt (lg_cmp (x1).toInt64 (20 : Int64)) = false) → (pm_cmp0 .ne (Int32.ofInt 1) = true) → (pm_cmp .ne (hs_aI h1 99 ((Int32.ofInt 0)).toNatClampNeg) (Int8.ofInt (8)).toInt32 = true) → ∀ h37, h37 = hs_sA h1 99 0 5498 (((Int8.ofInt (34)).toInt32 + (hs_aI h1 99 ((Int32.ofInt 0)).toNatClampNeg))).toNatClampNeg x1 → hs_Shape h37 → h37.1 = h1.1 → h37.2.1 = h1.2.1 → 0 ≤ (((Int8.ofInt (10)).toInt32 + (hs_aI h1 99 ((Int32.ofInt 0)).toNatClampNeg))).toInt ∧ (((Int8.ofInt (10)).toInt32 + (hs_aI h1 99 ((Int32.ofInt 0)).toNatClampNeg))).toInt < (5498 : Nat))
    (b8 : ∀ h1, h1 = hs_sF h 97 11 0 (.int (Int32.ofInt 0)) → hs_Shape h1 → h1.1 = h.1 → h1.2.1 = h.2.1 → (pm_cmp0 .lt (lg_cmp (x1).toInt64 (Int64.ofNat 1)) = false) → (pm_cmp0 .gt (lg_cmp (x1).toInt64 (20 : Int64)) = false) → (pm_cmp0 .ne (Int32.ofInt 1) = true) → (pm_cmp .ne (hs_aI h1 99 ((Int32.ofInt 0)).toNatClampNeg) (Int8.ofInt (8)).toInt32 = true) → ∀ h37, h37 = hs_sA h1 99 0 5498 (((Int8.ofInt (34)).toInt32 + (hs_aI h1 99 ((Int32.ofInt 0)).toNatClampNeg))).toNatClampNeg x1 → hs_Shape h37 → h37.1 = h1.1 → h37.2.1 = h1.2.1 → ∀ h38, h38 = hs_sA h37 99 0 5498 (((Int8.ofInt (10)).toInt32 + (hs_aI h1 99 ((Int32.ofInt 0)).toNatClampNeg))).toNatClampNeg (Int32.ofInt 0) → hs_Shape h38 → h38.1 = h37.1 → h38.2.1 = h37.2.1 → 0 ≤ ((Int32.ofInt 0)).toInt ∧ ((Int32.ofInt 0)).toInt < (5498 : Nat))
    (b9 : ∀ h1, h1 = hs_sF h 97 11 0 (.int (Int32.ofInt 0)) → hs_Shape h1 → h1.1 = h.1 → h1.2.1 = h.2.1 → (pm_cmp0 .lt (lg_cmp (x1).toInt64 (Int64.ofNat 1)) = false) → (pm_cmp0 .gt (lg_cmp (x1).toInt64 (20 : Int64)) = false) → (pm_cmp0 .ne (Int32.ofInt 1) = true) → (pm_cmp .ne (hs_aI h1 99 ((Int32.ofInt 0)).toNatClampNeg) (Int8.ofInt (8)).toInt32 = true) → ∀ h37, h37 = hs_sA h1 99 0 5498 (((Int8.ofInt (34)).toInt32 + (hs_aI h1 99 ((Int32.ofInt 0)).toNatClampNeg))).toNatClampNeg x1 → hs_Shape h37 → h37.1 = h1.1 → h37.2.1 = h1.2.1 → ∀ h38, h38 = hs_sA h37 99 0 5498 (((Int8.ofInt (10)).toInt32 + (hs_aI h1 99 ((Int32.ofInt 0)).toNatClampNeg))).toNatClampNeg (Int32.ofInt 0) → hs_Shape h38 → h38.1 = h37.1 → h38.2.1 = h37.2.1 → 0 ≤ ((Int32.ofInt 0)).toInt ∧ ((Int32.ofInt 0)).toInt < (5498 : Nat))
    (b10 : ∀ h1, h1 = hs_sF h 97 11 0 (.int (Int32.ofInt 0)) → hs_Shape h1 → h1.1 = h.1 → h1.2.1 = h.2.1 → (pm_cmp0 .lt (lg_cmp (x1).toInt64 (Int64.ofNat 1)) = false) → (pm_cmp0 .gt (lg_cmp (x1).toInt64 (20 : Int64)) = false) → (pm_cmp0 .ne (Int32.ofInt 1) = true) → (pm_cmp .ne (hs_aI h1 99 ((Int32.ofInt 0)).toNatClampNeg) (Int8.ofInt (8)).toInt32 = true) → ∀ h37, h37 = hs_sA h1 99 0 5498 (((Int8.ofInt (34)).toInt32 + (hs_aI h1 99 ((Int32.ofInt 0)).toNatClampNeg))).toNatClampNeg x1 → hs_Shape h37 → h37.1 = h1.1 → h37.2.1 = h1.2.1 → ∀ h38, h38 = hs_sA h37 99 0 5498 (((Int8.ofInt (10)).toInt32 + (hs_aI h1 99 ((Int32.ofInt 0)).toNatClampNeg))).toNatClampNeg (Int32.ofInt 0) → hs_Shape h38 → h38.1 = h37.1 → h38.2.1 = h37.2.1 → ∀ h39, h39 = hs_sA h38 99 0 5498 ((Int32.ofInt 0)).toNatClampNeg ((hs_aI h38 99 ((Int32.ofInt 0)).toNatClampNeg) + (Int32.ofInt 1)) → hs_Shape h39 → h39.1 = h38.1 → h39.2.1 = h38.2.1 → (pm_cmp0 .ge (hs_aI h1 99 ((Int32.ofInt 0)).toNatClampNeg) = true) → ∀ h41, h41 = hs_sF h39 97 11 8 (.int (Int32.ofInt 0)) → hs_Shape h41 → h41.1 = h39.1 → h41.2.1 = h39.2.1 → (pm_cmp0 .ge (hs_aI h1 99 ((Int32.ofInt 0)).toNatClampNeg) = false) → ∀ h43, h43 = hs_sF h41 97 11 1 (.int (hs_aI h1 99 ((Int32.ofInt 0)).toNatClampNeg)) → hs_Shape h43 → h43.1 = h41.1 → h43.2.1 = h41.2.1 → (pm_cmp0 .ge (hs_aI h1 99 ((Int32.ofInt 0)).toNatClampNeg) = false) → 0 ≤ ((-(hs_aI h1 99 ((Int32.ofInt 0)).toNatClampNeg))).toInt ∧ ((-(hs_aI h1 99 ((Int32.ofInt 0)).toNatClampNeg))).toInt < (7 : Nat))
    (b11 : ∀ h1, h1 = hs_sF h 97 11 0 (.int (Int32.ofInt 0)) → hs_Shape h1 → h1.1 = h.1 → h1.2.1 = h.2.1 → (pm_cmp0 .lt (lg_cmp (x1).toInt64 (Int64.ofNat 1)) = false) → (pm_cmp0 .gt (lg_cmp (x1).toInt64 (20 : Int64)) = false) → (pm_cmp0 .ne (Int32.ofInt 1) = true) → (pm_cmp .ne (hs_aI h1 99 ((Int32.ofInt 0)).toNatClampNeg) (Int8.ofInt (8)).toInt32 = true) → ∀ h37, h37 = hs_sA h1 99 0 5498 (((Int8.ofInt (34)).toInt32 + (hs_aI h1 99 ((Int32.ofInt 0)).toNatClampNeg))).toNatClampNeg x1 → hs_Shape h37 → h37.1 = h1.1 → h37.2.1 = h1.2.1 → ∀ h38, h38 = hs_sA h37 99 0 5498 (((Int8.ofInt (10)).toInt32 + (hs_aI h1 99 ((Int32.ofInt 0)).toNatClampNeg))).toNatClampNeg (Int32.ofInt 0) → hs_Shape h38 → h38.1 = h37.1 → h38.2.1 = h37.2.1 → ∀ h39, h39 = hs_sA h38 99 0 5498 ((Int32.ofInt 0)).toNatClampNeg ((hs_aI h38 99 ((Int32.ofInt 0)).toNatClampNeg) + (Int32.ofInt 1)) → hs_Shape h39 → h39.1 = h38.1 → h39.2.1 = h38.2.1 → (pm_cmp0 .ge (hs_aI h1 99 ((Int32.ofInt 0)).toNatClampNeg) = true) → ∀ h46, h46 = hs_sF h39 97 11 8 (.int (Int32.ofInt 0)) → hs_Shape h46 → h46.1 = h39.1 → h46.2.1 = h39.2.1 → (pm_cmp0 .ge (hs_aI h1 99 ((Int32.ofInt 0)).toNatClampNeg) = false) → ∀ h48, h48 = hs_sF h46 97 11 1 (.int (hs_aI h1 99 ((Int32.ofInt 0)).toNatClampNeg)) → hs_Shape h48 → h48.1 = h46.1 → h48.2.1 = h46.2.1 → (pm_cmp0 .ge (hs_aI h1 99 ((Int32.ofInt 0)).toNatClampNeg) = false) → 0 ≤ ((-(hs_aI h1 99 ((Int32.ofInt 0)).toNatClampNeg))).toInt ∧ ((-(hs_aI h1 99 ((Int32.ofInt 0)).toNatClampNeg))).toInt < (7 : Nat))
    (b12 : ∀ h1, h1 = hs_sF h 97 11 0 (.int (Int32.ofInt 0)) → hs_Shape h1 → h1.1 = h.1 → h1.2.1 = h.2.1 → (pm_cmp0 .lt (lg_cmp (x1).toInt64 (Int64.ofNat 1)) = false) → (pm_cmp0 .gt (lg_cmp (x1).toInt64 (20 : Int64)) = false) → (pm_cmp0 .ne (Int32.ofInt 1) = true) → (pm_cmp .ne (hs_aI h1 99 ((Int32.ofInt 0)).toNatClampNeg) (Int8.ofInt (8)).toInt32 = true) → ∀ h37, h37 = hs_sA h1 99 0 5498 (((Int8.ofInt (34)).toInt32 + (hs_aI h1 99 ((Int32.ofInt 0)).toNatClampNeg))).toNatClampNeg x1 → hs_Shape h37 → h37.1 = h1.1 → h37.2.1 = h1.2.1 → ∀ h38, h38 = hs_sA h37 99 0 5498 (((Int8.ofInt (10)).toInt32 + (hs_aI h1 99 ((Int32.ofInt 0)).toNatClampNeg))).toNatClampNeg (Int32.ofInt 0) → hs_Shape h38 → h38.1 = h37.1 → h38.2.1 = h37.2.1 → ∀ h39, h39 = hs_sA h38 99 0 5498 ((Int32.ofInt 0)).toNatClampNeg ((hs_aI h38 99 ((Int32.ofInt 0)).toNatClampNeg) + (Int32.ofInt 1)) → hs_Shape h39 → h39.1 = h38.1 → h39.2.1 = h38.2.1 → (pm_cmp0 .ge (hs_aI h1 99 ((Int32.ofInt 0)).toNatClampNeg) = false) → ∀ h51, h51 = hs_sF h39 97 11 8 (.int (hs_fI h39 97 8)) → hs_Shape h51 → h51.1 = h39.1 → h51.2.1 = h39.2.1 → (pm_cmp0 .ge (hs_aI h1 99 ((Int32.ofInt 0)).toNatClampNeg) = false) → ∀ h53, h53 = hs_sF h51 97 11 1 (.int (hs_aI h1 99 ((Int32.ofInt 0)).toNatClampNeg)) → hs_Shape h53 → h53.1 = h51.1 → h53.2.1 = h51.2.1 → (pm_cmp0 .ge (hs_aI h1 99 ((Int32.ofInt 0)).toNatClampNeg) = false) → 0 ≤ ((-(hs_aI h1 99 ((Int32.ofInt 0)).toNatClampNeg))).toInt ∧ ((-(hs_aI h1 99 ((Int32.ofInt 0)).toNatClampNeg))).toInt < (7 : Nat))
    (b13 : ∀ h1, h1 = hs_sF h 97 11 0 (.int (Int32.ofInt 0)) → hs_Shape h1 → h1.1 = h.1 → h1.2.1 = h.2.1 → (pm_cmp0 .lt (lg_cmp (x1).toInt64 (Int64.ofNat 1)) = false) → (pm_cmp0 .gt (lg_cmp (x1).toInt64 (20 : Int64)) = false) → (pm_cmp0 .ne (Int32.ofInt 1) = true) → (pm_cmp .ne (hs_aI h1 99 ((Int32.ofInt 0)).toNatClampNeg) (Int8.ofInt (8)).toInt32 = true) → ∀ h37, h37 = hs_sA h1 99 0 5498 (((Int8.ofInt (34)).toInt32 + (hs_aI h1 99 ((Int32.ofInt 0)).toNatClampNeg))).toNatClampNeg x1 → hs_Shape h37 → h37.1 = h1.1 → h37.2.1 = h1.2.1 → ∀ h38, h38 = hs_sA h37 99 0 5498 (((Int8.ofInt (10)).toInt32 + (hs_aI h1 99 ((Int32.ofInt 0)).toNatClampNeg))).toNatClampNeg (Int32.ofInt 0) → hs_Shape h38 → h38.1 = h37.1 → h38.2.1 = h37.2.1 → ∀ h39, h39 = hs_sA h38 99 0 5498 ((Int32.ofInt 0)).toNatClampNeg ((hs_aI h38 99 ((Int32.ofInt 0)).toNatClampNeg) + (Int32.ofInt 1)) → hs_Shape h39 → h39.1 = h38.1 → h39.2.1 = h38.2.1 → (pm_cmp0 .ge (hs_aI h1 99 ((Int32.ofInt 0)).toNatClampNeg) = false) → ∀ h56, h56 = hs_sF h39 97 11 8 (.int (hs_fI h39 97 8)) → hs_Shape h56 → h56.1 = h39.1 → h56.2.1 = h39.2.1 → (pm_cmp0 .ge (hs_aI h1 99 ((Int32.ofInt 0)).toNatClampNeg) = false) → ∀ h58, h58 = hs_sF h56 97 11 1 (.int (hs_aI h1 99 ((Int32.ofInt 0)).toNatClampNeg)) → hs_Shape h58 → h58.1 = h56.1 → h58.2.1 = h56.2.1 → (pm_cmp0 .ge (hs_aI h1 99 ((Int32.ofInt 0)).toNatClampNeg) = false) → 0 ≤ ((-(hs_aI h1 99 ((Int32.ofInt 0)).toNatClampNeg))).toInt ∧ ((-(hs_aI h1 99 ((Int32.ofInt 0)).toNatClampNeg))).toInt < (7 : Nat))
    (b14 : ∀ h1, h1 = hs_sF h 97 11 0 (.int (Int32.ofInt 0)) → hs_Shape h1 → h1.1 = h.1 → h1.2.1 = h.2.1 → (pm_cmp0 .lt (lg_cmp (x1).toInt64 (Int64.ofNat 1)) = false) → (pm_cmp0 .gt (lg_cmp (x1).toInt64 (20 : Int64)) = false) → (pm_cmp0 .ne (Int32.ofInt 1) = true) → (pm_cmp .ne (hs_aI h1 99 ((Int32.ofInt 0)).toNatClampNeg) (Int8.ofInt (8)).toInt32 = false) → (pm_cmp0 .ge (Int8.ofInt (-5)).toInt32 = false) → ∀ h72, h72 = hs_sF h1 97 11 1 (.int (Int8.ofInt (-5)).toInt32) → hs_Shape h72 → h72.1 = h1.1 → h72.2.1 = h1.2.1 → (pm_cmp0 .ge (Int8.ofInt (-5)).toInt32 = false) → 0 ≤ ((-(Int8.ofInt (-5)).toInt32)).toInt ∧ ((-(Int8.ofInt (-5)).toInt32)).toInt < (7 : Nat))
    (b15 : ∀ h1, h1 = hs_sF h 97 11 0 (.int (Int32.ofInt 0)) → hs_Shape h1 → h1.1 = h.1 → h1.2.1 = h.2.1 → (pm_cmp0 .lt (lg_cmp (x1).toInt64 (Int64.ofNat 1)) = false) → (pm_cmp0 .gt (lg_cmp (x1).toInt64 (20 : Int64)) = false) → (pm_cmp0 .ne (Int32.ofInt 1) = true) → (pm_cmp .ne (hs_aI h1 99 ((Int32.ofInt 0)).toNatClampNeg) (Int8.ofInt (8)).toInt32 = false) → (pm_cmp0 .ge (Int8.ofInt (-5)).toInt32 = false) → ∀ h75, h75 = hs_sF h1 97 11 1 (.int (Int8.ofInt (-5)).toInt32) → hs_Shape h75 → h75.1 = h1.1 → h75.2.1 = h1.2.1 → (pm_cmp0 .ge (Int8.ofInt (-5)).toInt32 = false) → 0 ≤ ((-(Int8.ofInt (-5)).toInt32)).toInt ∧ ((-(Int8.ofInt (-5)).toInt32)).toInt < (7 : Nat))
    (k1 : ∀ h1, h1 = hs_sF h 97 11 0 (.int (Int32.ofInt 0)) → hs_Shape h1 → h1.1 = h.1 → h1.2.1 = h.2.1 → (pm_cmp0 .lt (lg_cmp (x1).toInt64 (Int64.ofNat 1)) = true) → (pm_cmp0 .ne (Int32.ofInt 0) = false) → (pm_cmp0 .ge (Int32.ofInt (-1)) = false) → ∀ h14, h14 = hs_sF h1 97 11 1 (.int (Int32.ofInt (-1))) → hs_Shape h14 → h14.1 = h1.1 → h14.2.1 = h1.2.1 → (pm_cmp0 .ge (Int32.ofInt (-1)) = false) → ∀ h16, h16 = hs_sA h14 98 0 7 ((-(Int32.ofInt (-1)))).toNatClampNeg ((hs_aI h14 98 ((-(Int32.ofInt (-1)))).toNatClampNeg) + (Int32.ofInt 1)) → hs_Shape h16 → h16.1 = h14.1 → h16.2.1 = h14.2.1 → Q h16 (some (.int (Int32.ofInt (-1)))))
    (k2 : ∀ h1, h1 = hs_sF h 97 11 0 (.int (Int32.ofInt 0)) → hs_Shape h1 → h1.1 = h.1 → h1.2.1 = h.2.1 → (pm_cmp0 .lt (lg_cmp (x1).toInt64 (Int64.ofNat 1)) = false) → (pm_cmp0 .gt (lg_cmp (x1).toInt64 (20 : Int64)) = true) → (pm_cmp0 .ne (Int32.ofInt 0) = false) → (pm_cmp0 .ge (Int32.ofInt (-1)) = false) → ∀ h30, h30 = hs_sF h1 97 11 1 (.int (Int32.ofInt (-1))) → hs_Shape h30 → h30.1 = h1.1 → h30.2.1 = h1.2.1 → (pm_cmp0 .ge (Int32.ofInt (-1)) = false) → ∀ h32, h32 = hs_sA h30 98 0 7 ((-(Int32.ofInt (-1)))).toNatClampNeg ((hs_aI h30 98 ((-(Int32.ofInt (-1)))).toNatClampNeg) + (Int32.ofInt 1)) → hs_Shape h32 → h32.1 = h30.1 → h32.2.1 = h30.2.1 → Q h32 (some (.int (Int32.ofInt (-1)))))
    (k3 : ∀ h1, h1 = hs_sF h 97 11 0 (.int (Int32.ofInt 0)) → hs_Shape h1 → h1.1 = h.1 → h1.2.1 = h.2.1 → (pm_cmp0 .lt (lg_cmp (x1).toInt64 (Int64.ofNat 1)) = false) → (pm_cmp0 .gt (lg_cmp (x1).toInt64 (20 : Int64)) = false) → (pm_cmp0 .ne (Int32.ofInt 1) = true) → (pm_cmp .ne (hs_aI h1 99 ((Int32.ofInt 0)).toNatClampNeg) (Int8.ofInt (8)).toInt32 = true) → ∀ h37, h37 = hs_sA h1 99 0 5498 (((Int8.ofInt (34)).toInt32 + (hs_aI h1 99 ((Int32.ofInt 0)).toNatClampNeg))).toNatClampNeg x1 → hs_Shape h37 → h37.1 = h1.1 → h37.2.1 = h1.2.1 → ∀ h38, h38 = hs_sA h37 99 0 5498 (((Int8.ofInt (10)).toInt32 + (hs_aI h1 99 ((Int32.ofInt 0)).toNatClampNeg))).toNatClampNeg (Int32.ofInt 0) → hs_Shape h38 → h38.1 = h37.1 → h38.2.1 = h37.2.1 → ∀ h39, h39 = hs_sA h38 99 0 5498 ((Int32.ofInt 0)).toNatClampNeg ((hs_aI h38 99 ((Int32.ofInt 0)).toNatClampNeg) + (Int32.ofInt 1)) → hs_Shape h39 → h39.1 = h38.1 → h39.2.1 = h38.2.1 → (pm_cmp0 .ge (hs_aI h1 99 ((Int32.ofInt 0)).toNatClampNeg) = true) → ∀ h61, h61 = hs_sF h39 97 11 8 (.int (Int32.ofInt 0)) → hs_Shape h61 → h61.1 = h39.1 → h61.2.1 = h39.2.1 → (pm_cmp0 .ge (hs_aI h1 99 ((Int32.ofInt 0)).toNatClampNeg) = true) → ∀ h63, h63 = hs_sF h61 97 11 1 (.int (Int32.ofInt 0)) → hs_Shape h63 → h63.1 = h61.1 → h63.2.1 = h61.2.1 → (pm_cmp0 .ge (hs_aI h1 99 ((Int32.ofInt 0)).toNatClampNeg) = true) → Q h63 (some (.int (hs_aI h1 99 ((Int32.ofInt 0)).toNatClampNeg))))
    (k4 : ∀ h1, h1 = hs_sF h 97 11 0 (.int (Int32.ofInt 0)) → hs_Shape h1 → h1.1 = h.1 → h1.2.1 = h.2.1 → (pm_cmp0 .lt (lg_cmp (x1).toInt64 (Int64.ofNat 1)) = false) → (pm_cmp0 .gt (lg_cmp (x1).toInt64 (20 : Int64)) = false) → (pm_cmp0 .ne (Int32.ofInt 1) = true) → (pm_cmp .ne (hs_aI h1 99 ((Int32.ofInt 0)).toNatClampNeg) (Int8.ofInt (8)).toInt32 = true) → ∀ h37, h37 = hs_sA h1 99 0 5498 (((Int8.ofInt (34)).toInt32 + (hs_aI h1 99 ((Int32.ofInt 0)).toNatClampNeg))).toNatClampNeg x1 → hs_Shape h37 → h37.1 = h1.1 → h37.2.1 = h1.2.1 → ∀ h38, h38 = hs_sA h37 99 0 5498 (((Int8.ofInt (10)).toInt32 + (hs_aI h1 99 ((Int32.ofInt 0)).toNatClampNeg))).toNatClampNeg (Int32.ofInt 0) → hs_Shape h38 → h38.1 = h37.1 → h38.2.1 = h37.2.1 → ∀ h39, h39 = hs_sA h38 99 0 5498 ((Int32.ofInt 0)).toNatClampNeg ((hs_aI h38 99 ((Int32.ofInt 0)).toNatClampNeg) + (Int32.ofInt 1)) → hs_Shape h39 → h39.1 = h38.1 → h39.2.1 = h38.2.1 → (pm_cmp0 .ge (hs_aI h1 99 ((Int32.ofInt 0)).toNatClampNeg) = false) → ∀ h66, h66 = hs_sF h39 97 11 8 (.int (hs_fI h39 97 8)) → hs_Shape h66 → h66.1 = h39.1 → h66.2.1 = h39.2.1 → (pm_cmp0 .ge (hs_aI h1 99 ((Int32.ofInt 0)).toNatClampNeg) = false) → ∀ h68, h68 = hs_sF h66 97 11 1 (.int (hs_aI h1 99 ((Int32.ofInt 0)).toNatClampNeg)) → hs_Shape h68 → h68.1 = h66.1 → h68.2.1 = h66.2.1 → (pm_cmp0 .ge (hs_aI h1 99 ((Int32.ofInt 0)).toNatClampNeg) = false) → ∀ h70, h70 = hs_sA h68 98 0 7 ((-(hs_aI h1 99 ((Int32.ofInt 0)).toNatClampNeg))).toNatClampNeg ((hs_aI h68 98 ((-(hs_aI h1 99 ((Int32.ofInt 0)).toNatClampNeg))).toNatClampNeg) + (Int32.ofInt 1)) → hs_Shape h70 → h70.1 = h68.1 → h70.2.1 = h68.2.1 → Q h70 (some (.int (hs_aI h1 99 ((Int32.ofInt 0)).toNatClampNeg))))
    (k5 : ∀ h1, h1 = hs_sF h 97 11 0 (.int (Int32.ofInt 0)) → hs_Shape h1 → h1.1 = h.1 → h1.2.1 = h.2.1 → (pm_cmp0 .lt (lg_cmp (x1).toInt64 (Int64.ofNat 1)) = false) → (pm_cmp0 .gt (lg_cmp (x1).toInt64 (20 : Int64)) = false) → (pm_cmp0 .ne (Int32.ofInt 1) = true) → (pm_cmp .ne (hs_aI h1 99 ((Int32.ofInt 0)).toNatClampNeg) (Int8.ofInt (8)).toInt32 = false) → (pm_cmp0 .ge (Int8.ofInt (-5)).toInt32 = true) → ∀ h78, h78 = hs_sF h1 97 11 1 (.int (Int32.ofInt 0)) → hs_Shape h78 → h78.1 = h1.1 → h78.2.1 = h1.2.1 → (pm_cmp0 .ge (Int8.ofInt (-5)).toInt32 = true) → Q h78 (some (.int (Int8.ofInt (-5)).toInt32)))
    (k6 : ∀ h1, h1 = hs_sF h 97 11 0 (.int (Int32.ofInt 0)) → hs_Shape h1 → h1.1 = h.1 → h1.2.1 = h.2.1 → (pm_cmp0 .lt (lg_cmp (x1).toInt64 (Int64.ofNat 1)) = false) → (pm_cmp0 .gt (lg_cmp (x1).toInt64 (20 : Int64)) = false) → (pm_cmp0 .ne (Int32.ofInt 1) = true) → (pm_cmp .ne (hs_aI h1 99 ((Int32.ofInt 0)).toNatClampNeg) (Int8.ofInt (8)).toInt32 = false) → (pm_cmp0 .ge (Int8.ofInt (-5)).toInt32 = false) → ∀ h81, h81 = hs_sF h1 97 11 1 (.int (Int8.ofInt (-5)).toInt32) → hs_Shape h81 → h81.1 = h1.1 → h81.2.1 = h1.2.1 → (pm_cmp0 .ge (Int8.ofInt (-5)).toInt32 = false) → ∀ h83, h83 = hs_sA h81 98 0 7 ((-(Int8.ofInt (-5)).toInt32)).toNatClampNeg ((hs_aI h81 98 ((-(Int8.ofInt (-5)).toInt32)).toNatClampNeg) + (Int32.ofInt 1)) → hs_Shape h83 → h83.1 = h81.1 → h83.2.1 = h81.2.1 → Q h83 (some (.int (Int8.ofInt (-5)).toInt32)))
    : hq_M X d 154 [.ref 97, .int x1] h Q := by
  obtain ⟨d, rfl⟩ : ∃ e, d = e + 1 := ⟨d - 1, by omega⟩
  refine hq_M.enter (q := (⟨"TrainBearersModel", "yard", "(I)I"⟩, _, 3, some .int, 11, 2, pm_c154)) rfl rfl ?_
  show hq_W X d 11 false (some .int) pm_c154 (0, [some (.ref 97), some (.int x1), none], [], h) Q
  refine hq_p rfl rfl ?_
  refine hq_p rfl rfl ?_
  refine hq_pFo S rfl rfl (by decide) rfl rfl ⟨_, rfl⟩ (fun h1 e1 S1 p1 q1 => ?_)
  refine hq_p rfl rfl ?_
  refine hq_p rfl rfl ?_
  refine hq_p rfl rfl ?_
  refine hq_p rfl rfl ?_
  refine hq_inv 1 rfl (fun _ => rfl) rfl rfl rfl rfl ?_
  refine wp_136 (x1 := (x1).toInt64) (x2 := (Int64.ofNat 1)) (x3 := (20 : Int64)) (by omega) S1  ?_ ?_ ?_
  · intro c2
    refine ⟨by omega, by omega, ?_⟩
    refine hq_if rfl (fun c3 => ?_) (fun c3 => ?_)
    · exact absurd c3 (by decide)
    · refine hq_p rfl rfl ?_
      refine hq_p rfl rfl ?_
      refine hq_inv 0 rfl (fun _ => rfl) rfl rfl rfl (hq_pre_o S1 (x := 97) (ci := 11) rfl (by decide) rfl rfl rfl rfl) ?_
      refine wp_140 (x1 := (Int32.ofInt (-1))) (by omega) S1 (fun c4 h5 e5 S5 p5 q5 c6 => b1 h1 e1 S1 p1 q1 c2 c3 c4 h5 e5 S5 p5 q5 c6) (fun c7 h8 e8 S8 p8 q8 c9 => b2 h1 e1 S1 p1 q1 c2 c3 c7 h8 e8 S8 p8 q8 c9) ?_ ?_
      · intro c10 h11 e11 S11 p11 q11 c12
        exact absurd c10 (by decide)
      · intro c13 h14 e14 S14 p14 q14 c15 h16 e16 S16 p16 q16
        refine ⟨by omega, by omega, ?_⟩
        exact hq_W.ret rfl rfl rfl (k1 h1 e1 S1 p1 q1 c2 c3 c13 h14 e14 S14 p14 q14 c15 h16 e16 S16 p16 q16)
  · intro c17 c18
    refine ⟨by omega, by omega, ?_⟩
    refine hq_if rfl (fun c19 => ?_) (fun c19 => ?_)
    · exact absurd c19 (by decide)
    · refine hq_p rfl rfl ?_
      refine hq_p rfl rfl ?_
      refine hq_inv 0 rfl (fun _ => rfl) rfl rfl rfl (hq_pre_o S1 (x := 97) (ci := 11) rfl (by decide) rfl rfl rfl rfl) ?_
      refine wp_140 (x1 := (Int32.ofInt (-1))) (by omega) S1 (fun c20 h21 e21 S21 p21 q21 c22 => b3 h1 e1 S1 p1 q1 c17 c18 c19 c20 h21 e21 S21 p21 q21 c22) (fun c23 h24 e24 S24 p24 q24 c25 => b4 h1 e1 S1 p1 q1 c17 c18 c19 c23 h24 e24 S24 p24 q24 c25) ?_ ?_
      · intro c26 h27 e27 S27 p27 q27 c28
        exact absurd c26 (by decide)
      · intro c29 h30 e30 S30 p30 q30 c31 h32 e32 S32 p32 q32
        refine ⟨by omega, by omega, ?_⟩
        exact hq_W.ret rfl rfl rfl (k2 h1 e1 S1 p1 q1 c17 c18 c19 c29 h30 e30 S30 p30 q30 c31 h32 e32 S32 p32 q32)
  · intro c33 c34
    refine ⟨by omega, by omega, ?_⟩
    refine hq_if rfl (fun c35 => ?_) (fun c35 => ?_)
    · refine hq_p rfl rfl ?_
      refine hq_gR S1 rfl rfl (by decide) (by decide) rfl ?_
      refine hq_p rfl rfl ?_
      refine hq_aL S1 rfl rfl (by decide) (b5 h1 e1 S1 p1 q1 c33 c34 c35).1 (b5 h1 e1 S1 p1 q1 c33 c34 c35).2 ?_
      refine hq_p rfl rfl ?_
      refine hq_p rfl rfl ?_
      refine hq_p rfl rfl ?_
      refine hq_ifi rfl (fun c36 => ?_) (fun c36 => ?_)
      · refine hq_p rfl rfl ?_
        refine hq_gR S1 rfl rfl (by decide) (by decide) rfl ?_
        refine hq_p rfl rfl ?_
        refine hq_p rfl rfl ?_
        refine hq_p rfl rfl ?_
        refine hq_p rfl rfl ?_
        refine hq_aSo S1 rfl rfl (by decide) (b6 h1 e1 S1 p1 q1 c33 c34 c35 c36).1 (b6 h1 e1 S1 p1 q1 c33 c34 c35 c36).2 (fun h37 e37 S37 p37 q37 => ?_)
        refine hq_p rfl rfl ?_
        refine hq_gR S37 rfl rfl (by decide) (by decide) rfl ?_
        refine hq_p rfl rfl ?_
        refine hq_p rfl rfl ?_
        refine hq_p rfl rfl ?_
        refine hq_p rfl rfl ?_
        refine hq_aSo S37 rfl rfl (by decide) (b7 h1 e1 S1 p1 q1 c33 c34 c35 c36 h37 e37 S37 p37 q37).1 (b7 h1 e1 S1 p1 q1 c33 c34 c35 c36 h37 e37 S37 p37 q37).2 (fun h38 e38 S38 p38 q38 => ?_)
        refine hq_p rfl rfl ?_
        refine hq_gR S38 rfl rfl (by decide) (by decide) rfl ?_
        refine hq_p rfl rfl ?_
        refine hq_p rfl rfl ?_
        refine hq_aL S38 rfl rfl (by decide) (b8 h1 e1 S1 p1 q1 c33 c34 c35 c36 h37 e37 S37 p37 q37 h38 e38 S38 p38 q38).1 (b8 h1 e1 S1 p1 q1 c33 c34 c35 c36 h37 e37 S37 p37 q37 h38 e38 S38 p38 q38).2 ?_
        refine hq_p rfl rfl ?_
        refine hq_p rfl rfl ?_
        refine hq_aSo S38 rfl rfl (by decide) (b9 h1 e1 S1 p1 q1 c33 c34 c35 c36 h37 e37 S37 p37 q37 h38 e38 S38 p38 q38).1 (b9 h1 e1 S1 p1 q1 c33 c34 c35 c36 h37 e37 S37 p37 q37 h38 e38 S38 p38 q38).2 (fun h39 e39 S39 p39 q39 => ?_)
        refine hq_p rfl rfl ?_
        refine hq_p rfl rfl ?_
        refine hq_inv 0 rfl (fun _ => rfl) rfl rfl rfl (hq_pre_o S39 (x := 97) (ci := 11) rfl (by decide) rfl rfl rfl rfl) ?_
        refine wp_142 (x1 := (hs_aI h1 99 ((Int32.ofInt 0)).toNatClampNeg)) (by omega) S39 (fun c40 h41 e41 S41 p41 q41 c42 h43 e43 S43 p43 q43 c44 => b10 h1 e1 S1 p1 q1 c33 c34 c35 c36 h37 e37 S37 p37 q37 h38 e38 S38 p38 q38 h39 e39 S39 p39 q39 c40 h41 e41 S41 p41 q41 c42 h43 e43 S43 p43 q43 c44) (fun c45 h46 e46 S46 p46 q46 c47 h48 e48 S48 p48 q48 c49 => b11 h1 e1 S1 p1 q1 c33 c34 c35 c36 h37 e37 S37 p37 q37 h38 e38 S38 p38 q38 h39 e39 S39 p39 q39 c45 h46 e46 S46 p46 q46 c47 h48 e48 S48 p48 q48 c49) (fun c50 h51 e51 S51 p51 q51 c52 h53 e53 S53 p53 q53 c54 => b12 h1 e1 S1 p1 q1 c33 c34 c35 c36 h37 e37 S37 p37 q37 h38 e38 S38 p38 q38 h39 e39 S39 p39 q39 c50 h51 e51 S51 p51 q51 c52 h53 e53 S53 p53 q53 c54) (fun c55 h56 e56 S56 p56 q56 c57 h58 e58 S58 p58 q58 c59 => b13 h1 e1 S1 p1 q1 c33 c34 c35 c36 h37 e37 S37 p37 q37 h38 e38 S38 p38 q38 h39 e39 S39 p39 q39 c55 h56 e56 S56 p56 q56 c57 h58 e58 S58 p58 q58 c59) ?_ ?_
        · intro c60 h61 e61 S61 p61 q61 c62 h63 e63 S63 p63 q63 c64
          refine ⟨by omega, by omega, ?_⟩
          exact hq_W.ret rfl rfl rfl (k3 h1 e1 S1 p1 q1 c33 c34 c35 c36 h37 e37 S37 p37 q37 h38 e38 S38 p38 q38 h39 e39 S39 p39 q39 c60 h61 e61 S61 p61 q61 c62 h63 e63 S63 p63 q63 c64)
        · intro c65 h66 e66 S66 p66 q66 c67 h68 e68 S68 p68 q68 c69 h70 e70 S70 p70 q70
          refine ⟨by omega, by omega, ?_⟩
          exact hq_W.ret rfl rfl rfl (k4 h1 e1 S1 p1 q1 c33 c34 c35 c36 h37 e37 S37 p37 q37 h38 e38 S38 p38 q38 h39 e39 S39 p39 q39 c65 h66 e66 S66 p66 q66 c67 h68 e68 S68 p68 q68 c69 h70 e70 S70 p70 q70)
      · refine hq_p rfl rfl ?_
        refine hq_p rfl rfl ?_
        refine hq_inv 0 rfl (fun _ => rfl) rfl rfl rfl (hq_pre_o S1 (x := 97) (ci := 11) rfl (by decide) rfl rfl rfl rfl) ?_
        refine wp_140 (x1 := (Int8.ofInt (-5)).toInt32) (by omega) S1 (fun c71 h72 e72 S72 p72 q72 c73 => b14 h1 e1 S1 p1 q1 c33 c34 c35 c36 c71 h72 e72 S72 p72 q72 c73) (fun c74 h75 e75 S75 p75 q75 c76 => b15 h1 e1 S1 p1 q1 c33 c34 c35 c36 c74 h75 e75 S75 p75 q75 c76) ?_ ?_
        · intro c77 h78 e78 S78 p78 q78 c79
          refine ⟨by omega, by omega, ?_⟩
          exact hq_W.ret rfl rfl rfl (k5 h1 e1 S1 p1 q1 c33 c34 c35 c36 c77 h78 e78 S78 p78 q78 c79)
        · intro c80 h81 e81 S81 p81 q81 c82 h83 e83 S83 p83 q83
          refine ⟨by omega, by omega, ?_⟩
          exact hq_W.ret rfl rfl rfl (k6 h1 e1 S1 p1 q1 c33 c34 c35 c36 c80 h81 e81 S81 p81 q81 c82 h83 e83 S83 p83 q83)
    · exact absurd c35 (by decide)
theorem wp_156 {X : pm_X} {d : Nat} {h : pm_H} {Q : pm_H → Option Value → Prop} {x1 : Int32} (hd : 3 ≤ d) (S : hs_Shape h)
    (b1 : ∀ h1, h1 = hs_sF h 97 11 0 (.int (Int32.ofInt 0)) → hs_Shape h1 → h1.1 = h.1 → h1.2.1 = h.2.1 → (pm_cmp0 .lt (lg_cmp (x1).toInt64 (Int64.ofNat 0)) = true) → (pm_cmp0 .ne (Int32.ofInt 0) = false) → (pm_cmp0 .ge (Int32.ofInt (-1)) = false) → ∀ h5, h5 = hs_sF h1 97 11 1 (.int (Int32.ofInt (-1))) → hs_Shape h5 → h5.1 = h1.1 → h5.2.1 = h1.2.1 → (pm_cmp0 .ge (Int32.ofInt (-1)) = false) → 0 ≤ ((-(Int32.ofInt (-1)))).toInt ∧ ((-(Int32.ofInt (-1)))).toInt < (7 : Nat))
    (b2 : ∀ h1, h1 = hs_sF h 97 11 0 (.int (Int32.ofInt 0)) → hs_Shape h1 → h1.1 = h.1 → h1.2.1 = h.2.1 → (pm_cmp0 .lt (lg_cmp (x1).toInt64 (Int64.ofNat 0)) = true) → (pm_cmp0 .ne (Int32.ofInt 0) = false) → (pm_cmp0 .ge (Int32.ofInt (-1)) = false) → ∀ h8, h8 = hs_sF h1 97 11 1 (.int (Int32.ofInt (-1))) → hs_Shape h8 → h8.1 = h1.1 → h8.2.1 = h1.2.1 → (pm_cmp0 .ge (Int32.ofInt (-1)) = false) → 0 ≤ ((-(Int32.ofInt (-1)))).toInt ∧ ((-(Int32.ofInt (-1)))).toInt < (7 : Nat))
    (b3 : ∀ h1, h1 = hs_sF h 97 11 0 (.int (Int32.ofInt 0)) → hs_Shape h1 → h1.1 = h.1 → h1.2.1 = h.2.1 → (pm_cmp0 .lt (lg_cmp (x1).toInt64 (Int64.ofNat 0)) = false) → (pm_cmp0 .gt (lg_cmp (x1).toInt64 (9 : Int64)) = true) → (pm_cmp0 .ne (Int32.ofInt 0) = false) → (pm_cmp0 .ge (Int32.ofInt (-1)) = false) → ∀ h21, h21 = hs_sF h1 97 11 1 (.int (Int32.ofInt (-1))) → hs_Shape h21 → h21.1 = h1.1 → h21.2.1 = h1.2.1 → (pm_cmp0 .ge (Int32.ofInt (-1)) = false) → 0 ≤ ((-(Int32.ofInt (-1)))).toInt ∧ ((-(Int32.ofInt (-1)))).toInt < (7 : Nat))
    (b4 : ∀ h1, h1 = hs_sF h 97 11 0 (.int (Int32.ofInt 0)) → hs_Shape h1 → h1.1 = h.1 → h1.2.1 = h.2.1 → (pm_cmp0 .lt (lg_cmp (x1).toInt64 (Int64.ofNat 0)) = false) → (pm_cmp0 .gt (lg_cmp (x1).toInt64 (9 : Int64)) = true) → (pm_cmp0 .ne (Int32.ofInt 0) = false) → (pm_cmp0 .ge (Int32.ofInt (-1)) = false) → ∀ h24, h24 = hs_sF h1 97 11 1 (.int (Int32.ofInt (-1))) → hs_Shape h24 → h24.1 = h1.1 → h24.2.1 = h1.2.1 → (pm_cmp0 .ge (Int32.ofInt (-1)) = false) → 0 ≤ ((-(Int32.ofInt (-1)))).toInt ∧ ((-(Int32.ofInt (-1)))).toInt < (7 : Nat))
    (b5 : ∀ h1, h1 = hs_sF h 97 11 0 (.int (Int32.ofInt 0)) → hs_Shape h1 → h1.1 = h.1 → h1.2.1 = h.2.1 → (pm_cmp0 .lt (lg_cmp (x1).toInt64 (Int64.ofNat 0)) = false) → (pm_cmp0 .gt (lg_cmp (x1).toInt64 (9 : Int64)) = false) → (pm_cmp0 .ne (Int32.ofInt 1) = true) → 0 ≤ ((Int32.ofInt 1)).toInt ∧ ((Int32.ofInt 1)).toInt < (5498 : Nat))
    (b6 : ∀ h1, h1 = hs_sF h 97 11 0 (.int (Int32.ofInt 0)) → hs_Shape h1 → h1.1 = h.1 → h1.2.1 = h.2.1 → (pm_cmp0 .lt (lg_cmp (x1).toInt64 (Int64.ofNat 0)) = false) → (pm_cmp0 .gt (lg_cmp (x1).toInt64 (9 : Int64)) = false) → (pm_cmp0 .ne (Int32.ofInt 1) = true) → (pm_cmp .ne (hs_aI h1 99 ((Int32.ofInt 1)).toNatClampNeg) (Int8.ofInt (8)).toInt32 = true) → 0 ≤ (((Int8.ofInt (42)).toInt32 + (hs_aI h1 99 ((Int32.ofInt 1)).toNatClampNeg))).toInt ∧ (((Int8.ofInt (42)).toInt32 + (hs_aI h1 99 ((Int32.ofInt 1)).toNatClampNeg))).toInt < (5498 : Nat))
    (b7 : ∀ h1, h1 = hs_sF h 97 11 0 (.int (Int32.ofInt 0)) → hs_Shape h1 → h1.1 = h.1 → h1.2.1 = h.2.1 → (pm_cmp0 .lt (lg_cmp (x1).toInt64 (Int64.ofNat 0)) = false) → (pm_cmp0 .gt (lg_cmp (x1).toInt64 (9 : Int64)) = false) → (pm_cmp0 .ne (Int32.ofInt 1) = true) → (pm_cmp .ne (hs_aI h1 99 ((Int32.ofInt 1)).toNatClampNeg) (Int8.ofInt (8)).toInt32 = true) → ∀ h37, h37 = hs_sA h1 99 0 5498 (((Int8.ofInt (42)).toInt32 + (hs_aI h1 99 ((Int32.ofInt 1)).toNatClampNeg))).toNatClampNeg x1 → hs_Shape h37 → h37.1 = h1.1 → h37.2.1 = h1.2.1 → 0 ≤ (((Int8.ofInt (18)).toInt32 + (hs_aI h1 99 ((Int32.ofInt 1)).toNatClampNeg))).toInt ∧ (((Int8.ofInt (18)).toInt32 + (hs_aI h1 99 ((Int32.ofInt 1)).toNatClampNeg))).toInt < (5498 : Nat))
    (b8 : ∀ h1, h1 = hs_sF h 97 11 0 (.int (Int32.ofInt 0)) → hs_Shape h1 → h1.1 = h.1 → h1.2.1 = h.2.1 → (pm_cmp0 .lt (lg_cmp (x1).toInt64 (Int64.ofNat 0)) = false) → (pm_cmp0 .gt (lg_cmp (x1).toInt64 (9 : Int64)) = false) → (pm_cmp0 .ne (Int32.ofInt 1) = true) → (pm_cmp .ne (hs_aI h1 99 ((Int32.ofInt 1)).toNatClampNeg) (Int8.ofInt (8)).toInt32 = true) → ∀ h37, h37 = hs_sA h1 99 0 5498 (((Int8.ofInt (42)).toInt32 + (hs_aI h1 99 ((Int32.ofInt 1)).toNatClampNeg))).toNatClampNeg x1 → hs_Shape h37 → h37.1 = h1.1 → h37.2.1 = h1.2.1 → ∀ h38, h38 = hs_sA h37 99 0 5498 (((Int8.ofInt (18)).toInt32 + (hs_aI h1 99 ((Int32.ofInt 1)).toNatClampNeg))).toNatClampNeg (Int32.ofInt 0) → hs_Shape h38 → h38.1 = h37.1 → h38.2.1 = h37.2.1 → 0 ≤ (((Int8.ofInt (26)).toInt32 + (hs_aI h1 99 ((Int32.ofInt 1)).toNatClampNeg))).toInt ∧ (((Int8.ofInt (26)).toInt32 + (hs_aI h1 99 ((Int32.ofInt 1)).toNatClampNeg))).toInt < (5498 : Nat))
    (b9 : ∀ h1, h1 = hs_sF h 97 11 0 (.int (Int32.ofInt 0)) → hs_Shape h1 → h1.1 = h.1 → h1.2.1 = h.2.1 → (pm_cmp0 .lt (lg_cmp (x1).toInt64 (Int64.ofNat 0)) = false) → (pm_cmp0 .gt (lg_cmp (x1).toInt64 (9 : Int64)) = false) → (pm_cmp0 .ne (Int32.ofInt 1) = true) → (pm_cmp .ne (hs_aI h1 99 ((Int32.ofInt 1)).toNatClampNeg) (Int8.ofInt (8)).toInt32 = true) → ∀ h37, h37 = hs_sA h1 99 0 5498 (((Int8.ofInt (42)).toInt32 + (hs_aI h1 99 ((Int32.ofInt 1)).toNatClampNeg))).toNatClampNeg x1 → hs_Shape h37 → h37.1 = h1.1 → h37.2.1 = h1.2.1 → ∀ h38, h38 = hs_sA h37 99 0 5498 (((Int8.ofInt (18)).toInt32 + (hs_aI h1 99 ((Int32.ofInt 1)).toNatClampNeg))).toNatClampNeg (Int32.ofInt 0) → hs_Shape h38 → h38.1 = h37.1 → h38.2.1 = h37.2.1 → ∀ h39, h39 = hs_sA h38 99 0 5498 (((Int8.ofInt (26)).toInt32 + (hs_aI h1 99 ((Int32.ofInt 1)).toNatClampNeg))).toNatClampNeg (Int32.ofInt (-1)) → hs_Shape h39 → h39.1 = h38.1 → h39.2.1 = h38.2.1 → 0 ≤ ((Int32.ofInt 1)).toInt ∧ ((Int32.ofInt 1)).toInt < (5498 : Nat))
    (b10 : ∀ h1, h1 = hs_sF h 97 11 0 (.int (Int32.ofInt 0)) → hs_Shape h1 → h1.1 = h.1 → h1.2.1 = h.2.1 → (pm_cmp0 .lt (lg_cmp (x1).toInt64 (Int64.ofNat 0)) = false) → (pm_cmp0 .gt (lg_cmp (x1).toInt64 (9 : Int64)) = false) → (pm_cmp0 .ne (Int32.ofInt 1) = true) → (pm_cmp .ne (hs_aI h1 99 ((Int32.ofInt 1)).toNatClampNeg) (Int8.ofInt (8)).toInt32 = true) → ∀ h37, h37 = hs_sA h1 99 0 5498 (((Int8.ofInt (42)).toInt32 + (hs_aI h1 99 ((Int32.ofInt 1)).toNatClampNeg))).toNatClampNeg x1 → hs_Shape h37 → h37.1 = h1.1 → h37.2.1 = h1.2.1 → ∀ h38, h38 = hs_sA h37 99 0 5498 (((Int8.ofInt (18)).toInt32 + (hs_aI h1 99 ((Int32.ofInt 1)).toNatClampNeg))).toNatClampNeg (Int32.ofInt 0) → hs_Shape h38 → h38.1 = h37.1 → h38.2.1 = h37.2.1 → ∀ h39, h39 = hs_sA h38 99 0 5498 (((Int8.ofInt (26)).toInt32 + (hs_aI h1 99 ((Int32.ofInt 1)).toNatClampNeg))).toNatClampNeg (Int32.ofInt (-1)) → hs_Shape h39 → h39.1 = h38.1 → h39.2.1 = h38.2.1 → 0 ≤ ((Int32.ofInt 1)).toInt ∧ ((Int32.ofInt 1)).toInt < (5498 : Nat))
    (b11 : ∀ h1, h1 = hs_sF h 97 11 0 (.int (Int32.ofInt 0)) → hs_Shape h1 → h1.1 = h.1 → h1.2.1 = h.2.1 → (pm_cmp0 .lt (lg_cmp (x1).toInt64 (Int64.ofNat 0)) = false) → (pm_cmp0 .gt (lg_cmp (x1).toInt64 (9 : Int64)) = false) → (pm_cmp0 .ne (Int32.ofInt 1) = true) → (pm_cmp .ne (hs_aI h1 99 ((Int32.ofInt 1)).toNatClampNeg) (Int8.ofInt (8)).toInt32 = true) → ∀ h37, h37 = hs_sA h1 99 0 5498 (((Int8.ofInt (42)).toInt32 + (hs_aI h1 99 ((Int32.ofInt 1)).toNatClampNeg))).toNatClampNeg x1 → hs_Shape h37 → h37.1 = h1.1 → h37.2.1 = h1.2.1 → ∀ h38, h38 = hs_sA h37 99 0 5498 (((Int8.ofInt (18)).toInt32 + (hs_aI h1 99 ((Int32.ofInt 1)).toNatClampNeg))).toNatClampNeg (Int32.ofInt 0) → hs_Shape h38 → h38.1 = h37.1 → h38.2.1 = h37.2.1 → ∀ h39, h39 = hs_sA h38 99 0 5498 (((Int8.ofInt (26)).toInt32 + (hs_aI h1 99 ((Int32.ofInt 1)).toNatClampNeg))).toNatClampNeg (Int32.ofInt (-1)) → hs_Shape h39 → h39.1 = h38.1 → h39.2.1 = h38.2.1 → ∀ h40, h40 = hs_sA h39 99 0 5498 ((Int32.ofInt 1)).toNatClampNeg ((hs_aI h39 99 ((Int32.ofInt 1)).toNatClampNeg) + (Int32.ofInt 1)) → hs_Shape h40 → h40.1 = h39.1 → h40.2.1 = h39.2.1 → (pm_cmp0 .ge (hs_aI h1 99 ((Int32.ofInt 1)).toNatClampNeg) = true) → ∀ h42, h42 = hs_sF h40 97 11 8 (.int (Int32.ofInt 0)) → hs_Shape h42 → h42.1 = h40.1 → h42.2.1 = h40.2.1 → (pm_cmp0 .ge (hs_aI h1 99 ((Int32.ofInt 1)).toNatClampNeg) = false) → ∀ h44, h44 = hs_sF h42 97 11 1 (.int (hs_aI h1 99 ((Int32.ofInt 1)).toNatClampNeg)) → hs_Shape h44 → h44.1 = h42.1 → h44.2.1 = h42.2.1 → (pm_cmp0 .ge (hs_aI h1 99 ((Int32.ofInt 1)).toNatClampNeg) = false) → 0 ≤ ((-(hs_aI h1 99 ((Int32.ofInt 1)).toNatClampNeg))).toInt ∧ ((-(hs_aI h1 99 ((Int32.ofInt 1)).toNatClampNeg))).toInt < (7 : Nat))
    (b12 : ∀ h1, h1 = hs_sF h 97 11 0 (.int (Int32.ofInt 0)) → hs_Shape h1 → h1.1 = h.1 → h1.2.1 = h.2.1 → (pm_cmp0 .lt (lg_cmp (x1).toInt64 (Int64.ofNat 0)) = false) → (pm_cmp0 .gt (lg_cmp (x1).toInt64 (9 : Int64)) = false) → (pm_cmp0 .ne (Int32.ofInt 1) = true) → (pm_cmp .ne (hs_aI h1 99 ((Int32.ofInt 1)).toNatClampNeg) (Int8.ofInt (8)).toInt32 = true) → ∀ h37, h37 = hs_sA h1 99 0 5498 (((Int8.ofInt (42)).toInt32 + (hs_aI h1 99 ((Int32.ofInt 1)).toNatClampNeg))).toNatClampNeg x1 → hs_Shape h37 → h37.1 = h1.1 → h37.2.1 = h1.2.1 → ∀ h38, h38 = hs_sA h37 99 0 5498 (((Int8.ofInt (18)).toInt32 + (hs_aI h1 99 ((Int32.ofInt 1)).toNatClampNeg))).toNatClampNeg (Int32.ofInt 0) → hs_Shape h38 → h38.1 = h37.1 → h38.2.1 = h37.2.1 → ∀ h39, h39 = hs_sA h38 99 0 5498 (((Int8.ofInt (26)).toInt32 + (hs_aI h1 99 ((Int32.ofInt 1)).toNatClampNeg))).toNatClampNeg (Int32.ofInt (-1)) → hs_Shape h39 → h39.1 = h38.1 → h39.2.1 = h38.2.1 → ∀ h40, h40 = hs_sA h39 99 0 5498 ((Int32.ofInt 1)).toNatClampNeg ((hs_aI h39 99 ((Int32.ofInt 1)).toNatClampNeg) + (Int32.ofInt 1)) → hs_Shape h40 → h40.1 = h39.1 → h40.2.1 = h39.2.1 → (pm_cmp0 .ge (hs_aI h1 99 ((Int32.ofInt 1)).toNatClampNeg) = true) → ∀ h47, h47 = hs_sF h40 97 11 8 (.int (Int32.ofInt 0)) → hs_Shape h47 → h47.1 = h40.1 → h47.2.1 = h40.2.1 → (pm_cmp0 .ge (hs_aI h1 99 ((Int32.ofInt 1)).toNatClampNeg) = false) → ∀ h49, h49 = hs_sF h47 97 11 1 (.int (hs_aI h1 99 ((Int32.ofInt 1)).toNatClampNeg)) → hs_Shape h49 → h49.1 = h47.1 → h49.2.1 = h47.2.1 → (pm_cmp0 .ge (hs_aI h1 99 ((Int32.ofInt 1)).toNatClampNeg) = false) → 0 ≤ ((-(hs_aI h1 99 ((Int32.ofInt 1)).toNatClampNeg))).toInt ∧ ((-(hs_aI h1 99 ((Int32.ofInt 1)).toNatClampNeg))).toInt < (7 : Nat))
    (b13 : ∀ h1, h1 = hs_sF h 97 11 0 (.int (Int32.ofInt 0)) → hs_Shape h1 → h1.1 = h.1 → h1.2.1 = h.2.1 → (pm_cmp0 .lt (lg_cmp (x1).toInt64 (Int64.ofNat 0)) = false) → (pm_cmp0 .gt (lg_cmp (x1).toInt64 (9 : Int64)) = false) → (pm_cmp0 .ne (Int32.ofInt 1) = true) → (pm_cmp .ne (hs_aI h1 99 ((Int32.ofInt 1)).toNatClampNeg) (Int8.ofInt (8)).toInt32 = true) → ∀ h37, h37 = hs_sA h1 99 0 5498 (((Int8.ofInt (42)).toInt32 + (hs_aI h1 99 ((Int32.ofInt 1)).toNatClampNeg))).toNatClampNeg x1 → hs_Shape h37 → h37.1 = h1.1 → h37.2.1 = h1.2.1 → ∀ h38, h38 = hs_sA h37 99 0 5498 (((Int8.ofInt (18)).toInt32 + (hs_aI h1 99 ((Int32.ofInt 1)).toNatClampNeg))).toNatClampNeg (Int32.ofInt 0) → hs_Shape h38 → h38.1 = h37.1 → h38.2.1 = h37.2.1 → ∀ h39, h39 = hs_sA h38 99 0 5498 (((Int8.ofInt (26)).toInt32 + (hs_aI h1 99 ((Int32.ofInt 1)).toNatClampNeg))).toNatClampNeg (Int32.ofInt (-1)) → hs_Shape h39 → h39.1 = h38.1 → h39.2.1 = h38.2.1 → ∀ h40, h40 = hs_sA h39 99 0 5498 ((Int32.ofInt 1)).toNatClampNeg ((hs_aI h39 99 ((Int32.ofInt 1)).toNatClampNeg) + (Int32.ofInt 1)) → hs_Shape h40 → h40.1 = h39.1 → h40.2.1 = h39.2.1 → (pm_cmp0 .ge (hs_aI h1 99 ((Int32.ofInt 1)).toNatClampNeg) = false) → ∀ h52, h52 = hs_sF h40 97 11 8 (.int (hs_fI h40 97 8)) → hs_Shape h52 → h52.1 = h40.1 → h52.2.1 = h40.2.1 → (pm_cmp0 .ge (hs_aI h1 99 ((Int32.ofInt 1)).toNatClampNeg) = false) → ∀ h54, h54 = hs_sF h52 97 11 1 (.int (hs_aI h1 99 ((Int32.ofInt 1)).toNatClampNeg)) → hs_Shape h54 → h54.1 = h52.1 → h54.2.1 = h52.2.1 → (pm_cmp0 .ge (hs_aI h1 99 ((Int32.ofInt 1)).toNatClampNeg) = false) → 0 ≤ ((-(hs_aI h1 99 ((Int32.ofInt 1)).toNatClampNeg))).toInt ∧ ((-(hs_aI h1 99 ((Int32.ofInt 1)).toNatClampNeg))).toInt < (7 : Nat))
    (b14 : ∀ h1, h1 = hs_sF h 97 11 0 (.int (Int32.ofInt 0)) → hs_Shape h1 → h1.1 = h.1 → h1.2.1 = h.2.1 → (pm_cmp0 .lt (lg_cmp (x1).toInt64 (Int64.ofNat 0)) = false) → (pm_cmp0 .gt (lg_cmp (x1).toInt64 (9 : Int64)) = false) → (pm_cmp0 .ne (Int32.ofInt 1) = true) → (pm_cmp .ne (hs_aI h1 99 ((Int32.ofInt 1)).toNatClampNeg) (Int8.ofInt (8)).toInt32 = true) → ∀ h37, h37 = hs_sA h1 99 0 5498 (((Int8.ofInt (42)).toInt32 + (hs_aI h1 99 ((Int32.ofInt 1)).toNatClampNeg))).toNatClampNeg x1 → hs_Shape h37 → h37.1 = h1.1 → h37.2.1 = h1.2.1 → ∀ h38, h38 = hs_sA h37 99 0 5498 (((Int8.ofInt (18)).toInt32 + (hs_aI h1 99 ((Int32.ofInt 1)).toNatClampNeg))).toNatClampNeg (Int32.ofInt 0) → hs_Shape h38 → h38.1 = h37.1 → h38.2.1 = h37.2.1 → ∀ h39, h39 = hs_sA h38 99 0 5498 (((Int8.ofInt (26)).toInt32 + (hs_aI h1 99 ((Int32.ofInt 1)).toNatClampNeg))).toNatClampNeg (Int32.ofInt (-1)) → hs_Shape h39 → h39.1 = h38.1 → h39.2.1 = h38.2.1 → ∀ h40, h40 = hs_sA h39 99 0 5498 ((Int32.ofInt 1)).toNatClampNeg ((hs_aI h39 99 ((Int32.ofInt 1)).toNatClampNeg) + (Int32.ofInt 1)) → hs_Shape h40 → h40.1 = h39.1 → h40.2.1 = h39.2.1 → (pm_cmp0 .ge (hs_aI h1 99 ((Int32.ofInt 1)).toNatClampNeg) = false) → ∀ h57, h57 = hs_sF h40 97 11 8 (.int (hs_fI h40 97 8)) → hs_Shape h57 → h57.1 = h40.1 → h57.2.1 = h40.2.1 → (pm_cmp0 .ge (hs_aI h1 99 ((Int32.ofInt 1)).toNatClampNeg) = false) → ∀ h59, h59 = hs_sF h57 97 11 1 (.int (hs_aI h1 99 ((Int32.ofInt 1)).toNatClampNeg)) → hs_Shape h59 → h59.1 = h57.1 → h59.2.1 = h57.2.1 → (pm_cmp0 .ge (hs_aI h1 99 ((Int32.ofInt 1)).toNatClampNeg) = false) → 0 ≤ ((-(hs_aI h1 99 ((Int32.ofInt 1)).toNatClampNeg))).toInt ∧ ((-(hs_aI h1 99 ((Int32.ofInt 1)).toNatClampNeg))).toInt < (7 : Nat))
    (b15 : ∀ h1, h1 = hs_sF h 97 11 0 (.int (Int32.ofInt 0)) → hs_Shape h1 → h1.1 = h.1 → h1.2.1 = h.2.1 → (pm_cmp0 .lt (lg_cmp (x1).toInt64 (Int64.ofNat 0)) = false) → (pm_cmp0 .gt (lg_cmp (x1).toInt64 (9 : Int64)) = false) → (pm_cmp0 .ne (Int32.ofInt 1) = true) → (pm_cmp .ne (hs_aI h1 99 ((Int32.ofInt 1)).toNatClampNeg) (Int8.ofInt (8)).toInt32 = false) → (pm_cmp0 .ge (Int8.ofInt (-5)).toInt32 = false) → ∀ h73, h73 = hs_sF h1 97 11 1 (.int (Int8.ofInt (-5)).toInt32) → hs_Shape h73 → h73.1 = h1.1 → h73.2.1 = h1.2.1 → (pm_cmp0 .ge (Int8.ofInt (-5)).toInt32 = false) → 0 ≤ ((-(Int8.ofInt (-5)).toInt32)).toInt ∧ ((-(Int8.ofInt (-5)).toInt32)).toInt < (7 : Nat))
    (b16 : ∀ h1, h1 = hs_sF h 97 11 0 (.int (Int32.ofInt 0)) → hs_Shape h1 → h1.1 = h.1 → h1.2.1 = h.2.1 → (pm_cmp0 .lt (lg_cmp (x1).toInt64 (Int64.ofNat 0)) = false) → (pm_cmp0 .gt (lg_cmp (x1).toInt64 (9 : Int64)) = false) → (pm_cmp0 .ne (Int32.ofInt 1) = true) → (pm_cmp .ne (hs_aI h1 99 ((Int32.ofInt 1)).toNatClampNeg) (Int8.ofInt (8)).toInt32 = false) → (pm_cmp0 .ge (Int8.ofInt (-5)).toInt32 = false) → ∀ h76, h76 = hs_sF h1 97 11 1 (.int (Int8.ofInt (-5)).toInt32) → hs_Shape h76 → h76.1 = h1.1 → h76.2.1 = h1.2.1 → (pm_cmp0 .ge (Int8.ofInt (-5)).toInt32 = false) → 0 ≤ ((-(Int8.ofInt (-5)).toInt32)).toInt ∧ ((-(Int8.ofInt (-5)).toInt32)).toInt < (7 : Nat))
    (k1 : ∀ h1, h1 = hs_sF h 97 11 0 (.int (Int32.ofInt 0)) → hs_Shape h1 → h1.1 = h.1 → h1.2.1 = h.2.1 → (pm_cmp0 .lt (lg_cmp (x1).toInt64 (Int64.ofNat 0)) = true) → (pm_cmp0 .ne (Int32.ofInt 0) = false) → (pm_cmp0 .ge (Int32.ofInt (-1)) = false) → ∀ h14, h14 = hs_sF h1 97 11 1 (.int (Int32.ofInt (-1))) → hs_Shape h14 → h14.1 = h1.1 → h14.2.1 = h1.2.1 → (pm_cmp0 .ge (Int32.ofInt (-1)) = false) → ∀ h16, h16 = hs_sA h14 98 0 7 ((-(Int32.ofInt (-1)))).toNatClampNeg ((hs_aI h14 98 ((-(Int32.ofInt (-1)))).toNatClampNeg) + (Int32.ofInt 1)) → hs_Shape h16 → h16.1 = h14.1 → h16.2.1 = h14.2.1 → Q h16 (some (.int (Int32.ofInt (-1)))))
    (k2 : ∀ h1, h1 = hs_sF h 97 11 0 (.int (Int32.ofInt 0)) → hs_Shape h1 → h1.1 = h.1 → h1.2.1 = h.2.1 → (pm_cmp0 .lt (lg_cmp (x1).toInt64 (Int64.ofNat 0)) = false) → (pm_cmp0 .gt (lg_cmp (x1).toInt64 (9 : Int64)) = true) → (pm_cmp0 .ne (Int32.ofInt 0) = false) → (pm_cmp0 .ge (Int32.ofInt (-1)) = false) → ∀ h30, h30 = hs_sF h1 97 11 1 (.int (Int32.ofInt (-1))) → hs_Shape h30 → h30.1 = h1.1 → h30.2.1 = h1.2.1 → (pm_cmp0 .ge (Int32.ofInt (-1)) = false) → ∀ h32, h32 = hs_sA h30 98 0 7 ((-(Int32.ofInt (-1)))).toNatClampNeg ((hs_aI h30 98 ((-(Int32.ofInt (-1)))).toNatClampNeg) + (Int32.ofInt 1)) → hs_Shape h32 → h32.1 = h30.1 → h32.2.1 = h30.2.1 → Q h32 (some (.int (Int32.ofInt (-1)))))
    (k3 : ∀ h1, h1 = hs_sF h 97 11 0 (.int (Int32.ofInt 0)) → hs_Shape h1 → h1.1 = h.1 → h1.2.1 = h.2.1 → (pm_cmp0 .lt (lg_cmp (x1).toInt64 (Int64.ofNat 0)) = false) → (pm_cmp0 .gt (lg_cmp (x1).toInt64 (9 : Int64)) = false) → (pm_cmp0 .ne (Int32.ofInt 1) = true) → (pm_cmp .ne (hs_aI h1 99 ((Int32.ofInt 1)).toNatClampNeg) (Int8.ofInt (8)).toInt32 = true) → ∀ h37, h37 = hs_sA h1 99 0 5498 (((Int8.ofInt (42)).toInt32 + (hs_aI h1 99 ((Int32.ofInt 1)).toNatClampNeg))).toNatClampNeg x1 → hs_Shape h37 → h37.1 = h1.1 → h37.2.1 = h1.2.1 → ∀ h38, h38 = hs_sA h37 99 0 5498 (((Int8.ofInt (18)).toInt32 + (hs_aI h1 99 ((Int32.ofInt 1)).toNatClampNeg))).toNatClampNeg (Int32.ofInt 0) → hs_Shape h38 → h38.1 = h37.1 → h38.2.1 = h37.2.1 → ∀ h39, h39 = hs_sA h38 99 0 5498 (((Int8.ofInt (26)).toInt32 + (hs_aI h1 99 ((Int32.ofInt 1)).toNatClampNeg))).toNatClampNeg (Int32.ofInt (-1)) → hs_Shape h39 → h39.1 = h38.1 → h39.2.1 = h38.2.1 → ∀ h40, h40 = hs_sA h39 99 0 5498 ((Int32.ofInt 1)).toNatClampNeg ((hs_aI h39 99 ((Int32.ofInt 1)).toNatClampNeg) + (Int32.ofInt 1)) → hs_Shape h40 → h40.1 = h39.1 → h40.2.1 = h39.2.1 → (pm_cmp0 .ge (hs_aI h1 99 ((Int32.ofInt 1)).toNatClampNeg) = true) → ∀ h62, h62 = hs_sF h40 97 11 8 (.int (Int32.ofInt 0)) → hs_Shape h62 → h62.1 = h40.1 → h62.2.1 = h40.2.1 → (pm_cmp0 .ge (hs_aI h1 99 ((Int32.ofInt 1)).toNatClampNeg) = true) → ∀ h64, h64 = hs_sF h62 97 11 1 (.int (Int32.ofInt 0)) → hs_Shape h64 → h64.1 = h62.1 → h64.2.1 = h62.2.1 → (pm_cmp0 .ge (hs_aI h1 99 ((Int32.ofInt 1)).toNatClampNeg) = true) → Q h64 (some (.int (hs_aI h1 99 ((Int32.ofInt 1)).toNatClampNeg))))
    (k4 : ∀ h1, h1 = hs_sF h 97 11 0 (.int (Int32.ofInt 0)) → hs_Shape h1 → h1.1 = h.1 → h1.2.1 = h.2.1 → (pm_cmp0 .lt (lg_cmp (x1).toInt64 (Int64.ofNat 0)) = false) → (pm_cmp0 .gt (lg_cmp (x1).toInt64 (9 : Int64)) = false) → (pm_cmp0 .ne (Int32.ofInt 1) = true) → (pm_cmp .ne (hs_aI h1 99 ((Int32.ofInt 1)).toNatClampNeg) (Int8.ofInt (8)).toInt32 = true) → ∀ h37, h37 = hs_sA h1 99 0 5498 (((Int8.ofInt (42)).toInt32 + (hs_aI h1 99 ((Int32.ofInt 1)).toNatClampNeg))).toNatClampNeg x1 → hs_Shape h37 → h37.1 = h1.1 → h37.2.1 = h1.2.1 → ∀ h38, h38 = hs_sA h37 99 0 5498 (((Int8.ofInt (18)).toInt32 + (hs_aI h1 99 ((Int32.ofInt 1)).toNatClampNeg))).toNatClampNeg (Int32.ofInt 0) → hs_Shape h38 → h38.1 = h37.1 → h38.2.1 = h37.2.1 → ∀ h39, h39 = hs_sA h38 99 0 5498 (((Int8.ofInt (26)).toInt32 + (hs_aI h1 99 ((Int32.ofInt 1)).toNatClampNeg))).toNatClampNeg (Int32.ofInt (-1)) → hs_Shape h39 → h39.1 = h38.1 → h39.2.1 = h38.2.1 → ∀ h40, h40 = hs_sA h39 99 0 5498 ((Int32.ofInt 1)).toNatClampNeg ((hs_aI h39 99 ((Int32.ofInt 1)).toNatClampNeg) + (Int32.ofInt 1)) → hs_Shape h40 → h40.1 = h39.1 → h40.2.1 = h39.2.1 → (pm_cmp0 .ge (hs_aI h1 99 ((Int32.ofInt 1)).toNatClampNeg) = false) → ∀ h67, h67 = hs_sF h40 97 11 8 (.int (hs_fI h40 97 8)) → hs_Shape h67 → h67.1 = h40.1 → h67.2.1 = h40.2.1 → (pm_cmp0 .ge (hs_aI h1 99 ((Int32.ofInt 1)).toNatClampNeg) = false) → ∀ h69, h69 = hs_sF h67 97 11 1 (.int (hs_aI h1 99 ((Int32.ofInt 1)).toNatClampNeg)) → hs_Shape h69 → h69.1 = h67.1 → h69.2.1 = h67.2.1 → (pm_cmp0 .ge (hs_aI h1 99 ((Int32.ofInt 1)).toNatClampNeg) = false) → ∀ h71, h71 = hs_sA h69 98 0 7 ((-(hs_aI h1 99 ((Int32.ofInt 1)).toNatClampNeg))).toNatClampNeg ((hs_aI h69 98 ((-(hs_aI h1 99 ((Int32.ofInt 1)).toNatClampNeg))).toNatClampNeg) + (Int32.ofInt 1)) → hs_Shape h71 → h71.1 = h69.1 → h71.2.1 = h69.2.1 → Q h71 (some (.int (hs_aI h1 99 ((Int32.ofInt 1)).toNatClampNeg))))
    (k5 : ∀ h1, h1 = hs_sF h 97 11 0 (.int (Int32.ofInt 0)) → hs_Shape h1 → h1.1 = h.1 → h1.2.1 = h.2.1 → (pm_cmp0 .lt (lg_cmp (x1).toInt64 (Int64.ofNat 0)) = false) → (pm_cmp0 .gt (lg_cmp (x1).toInt64 (9 : Int64)) = false) → (pm_cmp0 .ne (Int32.ofInt 1) = true) → (pm_cmp .ne (hs_aI h1 99 ((Int32.ofInt 1)).toNatClampNeg) (Int8.ofInt (8)).toInt32 = false) → (pm_cmp0 .ge (Int8.ofInt (-5)).toInt32 = true) → ∀ h79, h79 = hs_sF h1 97 11 1 (.int (Int32.ofInt 0)) → hs_Shape h79 → h79.1 = h1.1 → h79.2.1 = h1.2.1 → (pm_cmp0 .ge (Int8.ofInt (-5)).toInt32 = true) → Q h79 (some (.int (Int8.ofInt (-5)).toInt32)))
    (k6 : ∀ h1, h1 = hs_sF h 97 11 0 (.int (Int32.ofInt 0)) → hs_Shape h1 → h1.1 = h.1 → h1.2.1 = h.2.1 → (pm_cmp0 .lt (lg_cmp (x1).toInt64 (Int64.ofNat 0)) = false) → (pm_cmp0 .gt (lg_cmp (x1).toInt64 (9 : Int64)) = false) → (pm_cmp0 .ne (Int32.ofInt 1) = true) → (pm_cmp .ne (hs_aI h1 99 ((Int32.ofInt 1)).toNatClampNeg) (Int8.ofInt (8)).toInt32 = false) → (pm_cmp0 .ge (Int8.ofInt (-5)).toInt32 = false) → ∀ h82, h82 = hs_sF h1 97 11 1 (.int (Int8.ofInt (-5)).toInt32) → hs_Shape h82 → h82.1 = h1.1 → h82.2.1 = h1.2.1 → (pm_cmp0 .ge (Int8.ofInt (-5)).toInt32 = false) → ∀ h84, h84 = hs_sA h82 98 0 7 ((-(Int8.ofInt (-5)).toInt32)).toNatClampNeg ((hs_aI h82 98 ((-(Int8.ofInt (-5)).toInt32)).toNatClampNeg) + (Int32.ofInt 1)) → hs_Shape h84 → h84.1 = h82.1 → h84.2.1 = h82.2.1 → Q h84 (some (.int (Int8.ofInt (-5)).toInt32)))
    : hq_M X d 156 [.ref 97, .int x1] h Q := by
  obtain ⟨d, rfl⟩ : ∃ e, d = e + 1 := ⟨d - 1, by omega⟩
  refine hq_M.enter (q := (⟨"TrainBearersModel", "girl", "(I)I"⟩, _, 3, some .int, 11, 2, pm_c156)) rfl rfl ?_
  show hq_W X d 11 false (some .int) pm_c156 (0, [some (.ref 97), some (.int x1), none], [], h) Q
  refine hq_p rfl rfl ?_
  refine hq_p rfl rfl ?_
  refine hq_pFo S rfl rfl (by decide) rfl rfl ⟨_, rfl⟩ (fun h1 e1 S1 p1 q1 => ?_)
  refine hq_p rfl rfl ?_
  refine hq_p rfl rfl ?_
  refine hq_p rfl rfl ?_
  refine hq_p rfl rfl ?_
  refine hq_inv 1 rfl (fun _ => rfl) rfl rfl rfl rfl ?_
  refine wp_136 (x1 := (x1).toInt64) (x2 := (Int64.ofNat 0)) (x3 := (9 : Int64)) (by omega) S1  ?_ ?_ ?_
  · intro c2
    refine ⟨by omega, by omega, ?_⟩
    refine hq_if rfl (fun c3 => ?_) (fun c3 => ?_)
    · exact absurd c3 (by decide)
    · refine hq_p rfl rfl ?_
      refine hq_p rfl rfl ?_
      refine hq_inv 0 rfl (fun _ => rfl) rfl rfl rfl (hq_pre_o S1 (x := 97) (ci := 11) rfl (by decide) rfl rfl rfl rfl) ?_
      refine wp_140 (x1 := (Int32.ofInt (-1))) (by omega) S1 (fun c4 h5 e5 S5 p5 q5 c6 => b1 h1 e1 S1 p1 q1 c2 c3 c4 h5 e5 S5 p5 q5 c6) (fun c7 h8 e8 S8 p8 q8 c9 => b2 h1 e1 S1 p1 q1 c2 c3 c7 h8 e8 S8 p8 q8 c9) ?_ ?_
      · intro c10 h11 e11 S11 p11 q11 c12
        exact absurd c10 (by decide)
      · intro c13 h14 e14 S14 p14 q14 c15 h16 e16 S16 p16 q16
        refine ⟨by omega, by omega, ?_⟩
        exact hq_W.ret rfl rfl rfl (k1 h1 e1 S1 p1 q1 c2 c3 c13 h14 e14 S14 p14 q14 c15 h16 e16 S16 p16 q16)
  · intro c17 c18
    refine ⟨by omega, by omega, ?_⟩
    refine hq_if rfl (fun c19 => ?_) (fun c19 => ?_)
    · exact absurd c19 (by decide)
    · refine hq_p rfl rfl ?_
      refine hq_p rfl rfl ?_
      refine hq_inv 0 rfl (fun _ => rfl) rfl rfl rfl (hq_pre_o S1 (x := 97) (ci := 11) rfl (by decide) rfl rfl rfl rfl) ?_
      refine wp_140 (x1 := (Int32.ofInt (-1))) (by omega) S1 (fun c20 h21 e21 S21 p21 q21 c22 => b3 h1 e1 S1 p1 q1 c17 c18 c19 c20 h21 e21 S21 p21 q21 c22) (fun c23 h24 e24 S24 p24 q24 c25 => b4 h1 e1 S1 p1 q1 c17 c18 c19 c23 h24 e24 S24 p24 q24 c25) ?_ ?_
      · intro c26 h27 e27 S27 p27 q27 c28
        exact absurd c26 (by decide)
      · intro c29 h30 e30 S30 p30 q30 c31 h32 e32 S32 p32 q32
        refine ⟨by omega, by omega, ?_⟩
        exact hq_W.ret rfl rfl rfl (k2 h1 e1 S1 p1 q1 c17 c18 c19 c29 h30 e30 S30 p30 q30 c31 h32 e32 S32 p32 q32)
  · intro c33 c34
    refine ⟨by omega, by omega, ?_⟩
    refine hq_if rfl (fun c35 => ?_) (fun c35 => ?_)
    · refine hq_p rfl rfl ?_
      refine hq_gR S1 rfl rfl (by decide) (by decide) rfl ?_
      refine hq_p rfl rfl ?_
      refine hq_aL S1 rfl rfl (by decide) (b5 h1 e1 S1 p1 q1 c33 c34 c35).1 (b5 h1 e1 S1 p1 q1 c33 c34 c35).2 ?_
      refine hq_p rfl rfl ?_
      refine hq_p rfl rfl ?_
      refine hq_p rfl rfl ?_
      refine hq_ifi rfl (fun c36 => ?_) (fun c36 => ?_)
      · refine hq_p rfl rfl ?_
        refine hq_gR S1 rfl rfl (by decide) (by decide) rfl ?_
        refine hq_p rfl rfl ?_
        refine hq_p rfl rfl ?_
        refine hq_p rfl rfl ?_
        refine hq_p rfl rfl ?_
        refine hq_aSo S1 rfl rfl (by decide) (b6 h1 e1 S1 p1 q1 c33 c34 c35 c36).1 (b6 h1 e1 S1 p1 q1 c33 c34 c35 c36).2 (fun h37 e37 S37 p37 q37 => ?_)
        refine hq_p rfl rfl ?_
        refine hq_gR S37 rfl rfl (by decide) (by decide) rfl ?_
        refine hq_p rfl rfl ?_
        refine hq_p rfl rfl ?_
        refine hq_p rfl rfl ?_
        refine hq_p rfl rfl ?_
        refine hq_aSo S37 rfl rfl (by decide) (b7 h1 e1 S1 p1 q1 c33 c34 c35 c36 h37 e37 S37 p37 q37).1 (b7 h1 e1 S1 p1 q1 c33 c34 c35 c36 h37 e37 S37 p37 q37).2 (fun h38 e38 S38 p38 q38 => ?_)
        refine hq_p rfl rfl ?_
        refine hq_gR S38 rfl rfl (by decide) (by decide) rfl ?_
        refine hq_p rfl rfl ?_
        refine hq_p rfl rfl ?_
        refine hq_p rfl rfl ?_
        refine hq_p rfl rfl ?_
        refine hq_aSo S38 rfl rfl (by decide) (b8 h1 e1 S1 p1 q1 c33 c34 c35 c36 h37 e37 S37 p37 q37 h38 e38 S38 p38 q38).1 (b8 h1 e1 S1 p1 q1 c33 c34 c35 c36 h37 e37 S37 p37 q37 h38 e38 S38 p38 q38).2 (fun h39 e39 S39 p39 q39 => ?_)
        refine hq_p rfl rfl ?_
        refine hq_gR S39 rfl rfl (by decide) (by decide) rfl ?_
        refine hq_p rfl rfl ?_
        refine hq_p rfl rfl ?_
        refine hq_aL S39 rfl rfl (by decide) (b9 h1 e1 S1 p1 q1 c33 c34 c35 c36 h37 e37 S37 p37 q37 h38 e38 S38 p38 q38 h39 e39 S39 p39 q39).1 (b9 h1 e1 S1 p1 q1 c33 c34 c35 c36 h37 e37 S37 p37 q37 h38 e38 S38 p38 q38 h39 e39 S39 p39 q39).2 ?_
        refine hq_p rfl rfl ?_
        refine hq_p rfl rfl ?_
        refine hq_aSo S39 rfl rfl (by decide) (b10 h1 e1 S1 p1 q1 c33 c34 c35 c36 h37 e37 S37 p37 q37 h38 e38 S38 p38 q38 h39 e39 S39 p39 q39).1 (b10 h1 e1 S1 p1 q1 c33 c34 c35 c36 h37 e37 S37 p37 q37 h38 e38 S38 p38 q38 h39 e39 S39 p39 q39).2 (fun h40 e40 S40 p40 q40 => ?_)
        refine hq_p rfl rfl ?_
        refine hq_p rfl rfl ?_
        refine hq_inv 0 rfl (fun _ => rfl) rfl rfl rfl (hq_pre_o S40 (x := 97) (ci := 11) rfl (by decide) rfl rfl rfl rfl) ?_
        refine wp_142 (x1 := (hs_aI h1 99 ((Int32.ofInt 1)).toNatClampNeg)) (by omega) S40 (fun c41 h42 e42 S42 p42 q42 c43 h44 e44 S44 p44 q44 c45 => b11 h1 e1 S1 p1 q1 c33 c34 c35 c36 h37 e37 S37 p37 q37 h38 e38 S38 p38 q38 h39 e39 S39 p39 q39 h40 e40 S40 p40 q40 c41 h42 e42 S42 p42 q42 c43 h44 e44 S44 p44 q44 c45) (fun c46 h47 e47 S47 p47 q47 c48 h49 e49 S49 p49 q49 c50 => b12 h1 e1 S1 p1 q1 c33 c34 c35 c36 h37 e37 S37 p37 q37 h38 e38 S38 p38 q38 h39 e39 S39 p39 q39 h40 e40 S40 p40 q40 c46 h47 e47 S47 p47 q47 c48 h49 e49 S49 p49 q49 c50) (fun c51 h52 e52 S52 p52 q52 c53 h54 e54 S54 p54 q54 c55 => b13 h1 e1 S1 p1 q1 c33 c34 c35 c36 h37 e37 S37 p37 q37 h38 e38 S38 p38 q38 h39 e39 S39 p39 q39 h40 e40 S40 p40 q40 c51 h52 e52 S52 p52 q52 c53 h54 e54 S54 p54 q54 c55) (fun c56 h57 e57 S57 p57 q57 c58 h59 e59 S59 p59 q59 c60 => b14 h1 e1 S1 p1 q1 c33 c34 c35 c36 h37 e37 S37 p37 q37 h38 e38 S38 p38 q38 h39 e39 S39 p39 q39 h40 e40 S40 p40 q40 c56 h57 e57 S57 p57 q57 c58 h59 e59 S59 p59 q59 c60) ?_ ?_
        · intro c61 h62 e62 S62 p62 q62 c63 h64 e64 S64 p64 q64 c65
          refine ⟨by omega, by omega, ?_⟩
          exact hq_W.ret rfl rfl rfl (k3 h1 e1 S1 p1 q1 c33 c34 c35 c36 h37 e37 S37 p37 q37 h38 e38 S38 p38 q38 h39 e39 S39 p39 q39 h40 e40 S40 p40 q40 c61 h62 e62 S62 p62 q62 c63 h64 e64 S64 p64 q64 c65)
        · intro c66 h67 e67 S67 p67 q67 c68 h69 e69 S69 p69 q69 c70 h71 e71 S71 p71 q71
          refine ⟨by omega, by omega, ?_⟩
          exact hq_W.ret rfl rfl rfl (k4 h1 e1 S1 p1 q1 c33 c34 c35 c36 h37 e37 S37 p37 q37 h38 e38 S38 p38 q38 h39 e39 S39 p39 q39 h40 e40 S40 p40 q40 c66 h67 e67 S67 p67 q67 c68 h69 e69 S69 p69 q69 c70 h71 e71 S71 p71 q71)
      · refine hq_p rfl rfl ?_
        refine hq_p rfl rfl ?_
        refine hq_inv 0 rfl (fun _ => rfl) rfl rfl rfl (hq_pre_o S1 (x := 97) (ci := 11) rfl (by decide) rfl rfl rfl rfl) ?_
        refine wp_140 (x1 := (Int8.ofInt (-5)).toInt32) (by omega) S1 (fun c72 h73 e73 S73 p73 q73 c74 => b15 h1 e1 S1 p1 q1 c33 c34 c35 c36 c72 h73 e73 S73 p73 q73 c74) (fun c75 h76 e76 S76 p76 q76 c77 => b16 h1 e1 S1 p1 q1 c33 c34 c35 c36 c75 h76 e76 S76 p76 q76 c77) ?_ ?_
        · intro c78 h79 e79 S79 p79 q79 c80
          refine ⟨by omega, by omega, ?_⟩
          exact hq_W.ret rfl rfl rfl (k5 h1 e1 S1 p1 q1 c33 c34 c35 c36 c78 h79 e79 S79 p79 q79 c80)
        · intro c81 h82 e82 S82 p82 q82 c83 h84 e84 S84 p84 q84
          refine ⟨by omega, by omega, ?_⟩
          exact hq_W.ret rfl rfl rfl (k6 h1 e1 S1 p1 q1 c33 c34 c35 c36 c81 h82 e82 S82 p82 q82 c83 h84 e84 S84 p84 q84)
    · exact absurd c35 (by decide)
theorem wp_159 {X : pm_X} {d : Nat} {h : pm_H} {Q : pm_H → Option Value → Prop} {x1 : Int32} {x2 : Int32} {x3 : Int32} (hd : 3 ≤ d) (S : hs_Shape h)
    (k1 : (pm_cmp0 .lt (lg_cmp (x1).toInt64 (Int64.ofNat 0)) = true) → (pm_cmp0 .eq (Int32.ofInt 0) = true) → Q h (some (.int (Int32.ofInt 0))))
    (k2 : (pm_cmp0 .lt (lg_cmp (x1).toInt64 (Int64.ofNat 0)) = false) → (pm_cmp0 .gt (lg_cmp (x1).toInt64 (5 : Int64)) = true) → (pm_cmp0 .eq (Int32.ofInt 0) = true) → Q h (some (.int (Int32.ofInt 0))))
    (k3 : (pm_cmp0 .lt (lg_cmp (x1).toInt64 (Int64.ofNat 0)) = false) → (pm_cmp0 .gt (lg_cmp (x1).toInt64 (5 : Int64)) = false) → (pm_cmp0 .eq (Int32.ofInt 1) = false) → (pm_cmp0 .lt (lg_cmp (x2).toInt64 (Int64.ofNat 0)) = true) → (pm_cmp0 .eq (Int32.ofInt 0) = true) → Q h (some (.int (Int32.ofInt 0))))
    (k4 : (pm_cmp0 .lt (lg_cmp (x1).toInt64 (Int64.ofNat 0)) = false) → (pm_cmp0 .gt (lg_cmp (x1).toInt64 (5 : Int64)) = false) → (pm_cmp0 .eq (Int32.ofInt 1) = false) → (pm_cmp0 .lt (lg_cmp (x2).toInt64 (Int64.ofNat 0)) = false) → (pm_cmp0 .gt (lg_cmp (x2).toInt64 (5 : Int64)) = true) → (pm_cmp0 .eq (Int32.ofInt 0) = true) → Q h (some (.int (Int32.ofInt 0))))
    (k5 : (pm_cmp0 .lt (lg_cmp (x1).toInt64 (Int64.ofNat 0)) = false) → (pm_cmp0 .gt (lg_cmp (x1).toInt64 (5 : Int64)) = false) → (pm_cmp0 .eq (Int32.ofInt 1) = false) → (pm_cmp0 .lt (lg_cmp (x2).toInt64 (Int64.ofNat 0)) = false) → (pm_cmp0 .gt (lg_cmp (x2).toInt64 (5 : Int64)) = false) → (pm_cmp0 .eq (Int32.ofInt 1) = false) → (pm_cmp .eq x1 x2 = true) → Q h (some (.int (Int32.ofInt 0))))
    (k6 : (pm_cmp0 .lt (lg_cmp (x1).toInt64 (Int64.ofNat 0)) = false) → (pm_cmp0 .gt (lg_cmp (x1).toInt64 (5 : Int64)) = false) → (pm_cmp0 .eq (Int32.ofInt 1) = false) → (pm_cmp0 .lt (lg_cmp (x2).toInt64 (Int64.ofNat 0)) = false) → (pm_cmp0 .gt (lg_cmp (x2).toInt64 (5 : Int64)) = false) → (pm_cmp0 .eq (Int32.ofInt 1) = false) → (pm_cmp .eq x1 x2 = false) → (pm_cmp0 .lt (lg_cmp (x3).toInt64 (-1 : Int64)) = true) → (pm_cmp0 .eq (Int32.ofInt 0) = true) → Q h (some (.int (Int32.ofInt 0))))
    (k7 : (pm_cmp0 .lt (lg_cmp (x1).toInt64 (Int64.ofNat 0)) = false) → (pm_cmp0 .gt (lg_cmp (x1).toInt64 (5 : Int64)) = false) → (pm_cmp0 .eq (Int32.ofInt 1) = false) → (pm_cmp0 .lt (lg_cmp (x2).toInt64 (Int64.ofNat 0)) = false) → (pm_cmp0 .gt (lg_cmp (x2).toInt64 (5 : Int64)) = false) → (pm_cmp0 .eq (Int32.ofInt 1) = false) → (pm_cmp .eq x1 x2 = false) → (pm_cmp0 .lt (lg_cmp (x3).toInt64 (-1 : Int64)) = false) → (pm_cmp0 .gt (lg_cmp (x3).toInt64 (9 : Int64)) = true) → (pm_cmp0 .eq (Int32.ofInt 0) = true) → Q h (some (.int (Int32.ofInt 0))))
    (k8 : (pm_cmp0 .lt (lg_cmp (x1).toInt64 (Int64.ofNat 0)) = false) → (pm_cmp0 .gt (lg_cmp (x1).toInt64 (5 : Int64)) = false) → (pm_cmp0 .eq (Int32.ofInt 1) = false) → (pm_cmp0 .lt (lg_cmp (x2).toInt64 (Int64.ofNat 0)) = false) → (pm_cmp0 .gt (lg_cmp (x2).toInt64 (5 : Int64)) = false) → (pm_cmp0 .eq (Int32.ofInt 1) = false) → (pm_cmp .eq x1 x2 = false) → (pm_cmp0 .lt (lg_cmp (x3).toInt64 (-1 : Int64)) = false) → (pm_cmp0 .gt (lg_cmp (x3).toInt64 (9 : Int64)) = false) → (pm_cmp0 .eq (Int32.ofInt 1) = false) → Q h (some (.int (Int32.ofInt 1))))
    : hq_M X d 159 [.int x1, .int x2, .int x3] h Q := by
  obtain ⟨d, rfl⟩ : ∃ e, d = e + 1 := ⟨d - 1, by omega⟩
  refine hq_M.enter (q := (⟨"TrainBearersModel", "isLane", "(III)Z"⟩, _, 3, some .boolean, 11, 3, pm_c159)) rfl rfl ?_
  show hq_W X d 11 false (some .boolean) pm_c159 (0, [some (.int x1), some (.int x2), some (.int x3)], [], h) Q
  refine hq_p rfl rfl ?_
  refine hq_inv 1 rfl (fun _ => rfl) rfl rfl rfl rfl ?_
  refine wp_151 (x1 := x1) (by omega) S  ?_ ?_ ?_
  · intro c1
    refine ⟨by omega, by omega, ?_⟩
    refine hq_if rfl (fun c2 => ?_) (fun c2 => ?_)
    · refine hq_p rfl rfl ?_
      exact hq_W.ret rfl rfl rfl (k1 c1 c2)
    · exact absurd c2 (by decide)
  · intro c3 c4
    refine ⟨by omega, by omega, ?_⟩
    refine hq_if rfl (fun c5 => ?_) (fun c5 => ?_)
    · refine hq_p rfl rfl ?_
      exact hq_W.ret rfl rfl rfl (k2 c3 c4 c5)
    · exact absurd c5 (by decide)
  · intro c6 c7
    refine ⟨by omega, by omega, ?_⟩
    refine hq_if rfl (fun c8 => ?_) (fun c8 => ?_)
    · exact absurd c8 (by decide)
    · refine hq_p rfl rfl ?_
      refine hq_inv 1 rfl (fun _ => rfl) rfl rfl rfl rfl ?_
      refine wp_151 (x1 := x2) (by omega) S  ?_ ?_ ?_
      · intro c9
        refine ⟨by omega, by omega, ?_⟩
        refine hq_if rfl (fun c10 => ?_) (fun c10 => ?_)
        · refine hq_p rfl rfl ?_
          exact hq_W.ret rfl rfl rfl (k3 c6 c7 c8 c9 c10)
        · exact absurd c10 (by decide)
      · intro c11 c12
        refine ⟨by omega, by omega, ?_⟩
        refine hq_if rfl (fun c13 => ?_) (fun c13 => ?_)
        · refine hq_p rfl rfl ?_
          exact hq_W.ret rfl rfl rfl (k4 c6 c7 c8 c11 c12 c13)
        · exact absurd c13 (by decide)
      · intro c14 c15
        refine ⟨by omega, by omega, ?_⟩
        refine hq_if rfl (fun c16 => ?_) (fun c16 => ?_)
        · exact absurd (c8.symm.trans c16) (by decide)
        · refine hq_p rfl rfl ?_
          refine hq_p rfl rfl ?_
          refine hq_ifi rfl (fun c17 => ?_) (fun c17 => ?_)
          · refine hq_p rfl rfl ?_
            exact hq_W.ret rfl rfl rfl (k5 c6 c7 c8 c14 c15 c16 c17)
          · refine hq_p rfl rfl ?_
            refine hq_p rfl rfl ?_
            refine hq_p rfl rfl ?_
            refine hq_p rfl rfl ?_
            refine hq_inv 1 rfl (fun _ => rfl) rfl rfl rfl rfl ?_
            refine wp_136 (x1 := (x3).toInt64) (x2 := (-1 : Int64)) (x3 := (9 : Int64)) (by omega) S  ?_ ?_ ?_
            · intro c18
              refine ⟨by omega, by omega, ?_⟩
              refine hq_if rfl (fun c19 => ?_) (fun c19 => ?_)
              · refine hq_p rfl rfl ?_
                exact hq_W.ret rfl rfl rfl (k6 c6 c7 c8 c14 c15 c16 c17 c18 c19)
              · exact absurd c19 (by decide)
            · intro c20 c21
              refine ⟨by omega, by omega, ?_⟩
              refine hq_if rfl (fun c22 => ?_) (fun c22 => ?_)
              · refine hq_p rfl rfl ?_
                exact hq_W.ret rfl rfl rfl (k7 c6 c7 c8 c14 c15 c16 c17 c20 c21 c22)
              · exact absurd c22 (by decide)
            · intro c23 c24
              refine ⟨by omega, by omega, ?_⟩
              refine hq_if rfl (fun c25 => ?_) (fun c25 => ?_)
              · exact absurd (c8.symm.trans c25) (by decide)
              · refine hq_p rfl rfl ?_
                refine hq_p rfl rfl ?_
                exact hq_W.ret rfl rfl rfl (k8 c6 c7 c8 c14 c15 c16 c17 c23 c24 c25)
theorem wp_160 {X : pm_X} {d : Nat} {h : pm_H} {Q : pm_H → Option Value → Prop} {x1 : Int32} {x2 : Int32} {x3 : Int32} (hd : 1 ≤ d) (S : hs_Shape h)
    (b1 : 0 ≤ ((((Int8.ofInt (50)).toInt32 + ((Int8.ofInt (6)).toInt32 * x1)) + x2)).toInt ∧ ((((Int8.ofInt (50)).toInt32 + ((Int8.ofInt (6)).toInt32 * x1)) + x2)).toInt < (5498 : Nat))
    (b2 : ∀ h1, h1 = hs_sA h 99 0 5498 ((((Int8.ofInt (50)).toInt32 + ((Int8.ofInt (6)).toInt32 * x1)) + x2)).toNatClampNeg x3 → hs_Shape h1 → h1.1 = h.1 → h1.2.1 = h.2.1 → 0 ≤ ((((Int8.ofInt (50)).toInt32 + ((Int8.ofInt (6)).toInt32 * x2)) + x1)).toInt ∧ ((((Int8.ofInt (50)).toInt32 + ((Int8.ofInt (6)).toInt32 * x2)) + x1)).toInt < (5498 : Nat))
    (k1 : ∀ h1, h1 = hs_sA h 99 0 5498 ((((Int8.ofInt (50)).toInt32 + ((Int8.ofInt (6)).toInt32 * x1)) + x2)).toNatClampNeg x3 → hs_Shape h1 → h1.1 = h.1 → h1.2.1 = h.2.1 → ∀ h2, h2 = hs_sA h1 99 0 5498 ((((Int8.ofInt (50)).toInt32 + ((Int8.ofInt (6)).toInt32 * x2)) + x1)).toNatClampNeg x3 → hs_Shape h2 → h2.1 = h1.1 → h2.2.1 = h1.2.1 → Q h2 none)
    : hq_M X d 160 [.ref 97, .int x1, .int x2, .int x3] h Q := by
  obtain ⟨d, rfl⟩ : ∃ e, d = e + 1 := ⟨d - 1, by omega⟩
  refine hq_M.enter (q := (⟨"TrainBearersModel", "setLane", "(III)V"⟩, _, 4, none, 11, 4, pm_c160)) rfl rfl ?_
  show hq_W X d 11 false (none) pm_c160 (0, [some (.ref 97), some (.int x1), some (.int x2), some (.int x3)], [], h) Q
  refine hq_p rfl rfl ?_
  refine hq_gR S rfl rfl (by decide) (by decide) rfl ?_
  refine hq_p rfl rfl ?_
  refine hq_p rfl rfl ?_
  refine hq_p rfl rfl ?_
  refine hq_p rfl rfl ?_
  refine hq_p rfl rfl ?_
  refine hq_p rfl rfl ?_
  refine hq_p rfl rfl ?_
  refine hq_p rfl rfl ?_
  refine hq_aSo S rfl rfl (by decide) (b1).1 (b1).2 (fun h1 e1 S1 p1 q1 => ?_)
  refine hq_p rfl rfl ?_
  refine hq_gR S1 rfl rfl (by decide) (by decide) rfl ?_
  refine hq_p rfl rfl ?_
  refine hq_p rfl rfl ?_
  refine hq_p rfl rfl ?_
  refine hq_p rfl rfl ?_
  refine hq_p rfl rfl ?_
  refine hq_p rfl rfl ?_
  refine hq_p rfl rfl ?_
  refine hq_p rfl rfl ?_
  refine hq_aSo S1 rfl rfl (by decide) (b2 h1 e1 S1 p1 q1).1 (b2 h1 e1 S1 p1 q1).2 (fun h2 e2 S2 p2 q2 => ?_)
  exact hq_W.ret rfl rfl rfl (k1 h1 e1 S1 p1 q1 h2 e2 S2 p2 q2)
theorem wp_161 {X : pm_X} {d : Nat} {h : pm_H} {Q : pm_H → Option Value → Prop} {x1 : Int32} {x2 : Int32} {x3 : Int32} (hd : 4 ≤ d) (S : hs_Shape h)
    (b1 : ∀ h1, h1 = hs_sF h 97 11 0 (.int (Int32.ofInt 0)) → hs_Shape h1 → h1.1 = h.1 → h1.2.1 = h.2.1 → (pm_cmp0 .lt (lg_cmp (x1).toInt64 (Int64.ofNat 0)) = true) → (pm_cmp0 .eq (Int32.ofInt 0) = true) → (pm_cmp0 .ne (Int32.ofInt 0) = false) → (pm_cmp0 .ge (Int32.ofInt (-1)) = false) → ∀ h6, h6 = hs_sF h1 97 11 1 (.int (Int32.ofInt (-1))) → hs_Shape h6 → h6.1 = h1.1 → h6.2.1 = h1.2.1 → (pm_cmp0 .ge (Int32.ofInt (-1)) = false) → 0 ≤ ((-(Int32.ofInt (-1)))).toInt ∧ ((-(Int32.ofInt (-1)))).toInt < (7 : Nat))
    (b2 : ∀ h1, h1 = hs_sF h 97 11 0 (.int (Int32.ofInt 0)) → hs_Shape h1 → h1.1 = h.1 → h1.2.1 = h.2.1 → (pm_cmp0 .lt (lg_cmp (x1).toInt64 (Int64.ofNat 0)) = true) → (pm_cmp0 .eq (Int32.ofInt 0) = true) → (pm_cmp0 .ne (Int32.ofInt 0) = false) → (pm_cmp0 .ge (Int32.ofInt (-1)) = false) → ∀ h9, h9 = hs_sF h1 97 11 1 (.int (Int32.ofInt (-1))) → hs_Shape h9 → h9.1 = h1.1 → h9.2.1 = h1.2.1 → (pm_cmp0 .ge (Int32.ofInt (-1)) = false) → 0 ≤ ((-(Int32.ofInt (-1)))).toInt ∧ ((-(Int32.ofInt (-1)))).toInt < (7 : Nat))
    (b3 : ∀ h1, h1 = hs_sF h 97 11 0 (.int (Int32.ofInt 0)) → hs_Shape h1 → h1.1 = h.1 → h1.2.1 = h.2.1 → (pm_cmp0 .lt (lg_cmp (x1).toInt64 (Int64.ofNat 0)) = false) → (pm_cmp0 .gt (lg_cmp (x1).toInt64 (5 : Int64)) = true) → (pm_cmp0 .eq (Int32.ofInt 0) = true) → (pm_cmp0 .ne (Int32.ofInt 0) = false) → (pm_cmp0 .ge (Int32.ofInt (-1)) = false) → ∀ h23, h23 = hs_sF h1 97 11 1 (.int (Int32.ofInt (-1))) → hs_Shape h23 → h23.1 = h1.1 → h23.2.1 = h1.2.1 → (pm_cmp0 .ge (Int32.ofInt (-1)) = false) → 0 ≤ ((-(Int32.ofInt (-1)))).toInt ∧ ((-(Int32.ofInt (-1)))).toInt < (7 : Nat))
    (b4 : ∀ h1, h1 = hs_sF h 97 11 0 (.int (Int32.ofInt 0)) → hs_Shape h1 → h1.1 = h.1 → h1.2.1 = h.2.1 → (pm_cmp0 .lt (lg_cmp (x1).toInt64 (Int64.ofNat 0)) = false) → (pm_cmp0 .gt (lg_cmp (x1).toInt64 (5 : Int64)) = true) → (pm_cmp0 .eq (Int32.ofInt 0) = true) → (pm_cmp0 .ne (Int32.ofInt 0) = false) → (pm_cmp0 .ge (Int32.ofInt (-1)) = false) → ∀ h26, h26 = hs_sF h1 97 11 1 (.int (Int32.ofInt (-1))) → hs_Shape h26 → h26.1 = h1.1 → h26.2.1 = h1.2.1 → (pm_cmp0 .ge (Int32.ofInt (-1)) = false) → 0 ≤ ((-(Int32.ofInt (-1)))).toInt ∧ ((-(Int32.ofInt (-1)))).toInt < (7 : Nat))
    (b5 : ∀ h1, h1 = hs_sF h 97 11 0 (.int (Int32.ofInt 0)) → hs_Shape h1 → h1.1 = h.1 → h1.2.1 = h.2.1 → (pm_cmp0 .lt (lg_cmp (x1).toInt64 (Int64.ofNat 0)) = false) → (pm_cmp0 .gt (lg_cmp (x1).toInt64 (5 : Int64)) = false) → (pm_cmp0 .eq (Int32.ofInt 1) = false) → (pm_cmp0 .lt (lg_cmp (x2).toInt64 (Int64.ofNat 0)) = true) → (pm_cmp0 .eq (Int32.ofInt 0) = true) → (pm_cmp0 .ne (Int32.ofInt 0) = false) → (pm_cmp0 .ge (Int32.ofInt (-1)) = false) → ∀ h42, h42 = hs_sF h1 97 11 1 (.int (Int32.ofInt (-1))) → hs_Shape h42 → h42.1 = h1.1 → h42.2.1 = h1.2.1 → (pm_cmp0 .ge (Int32.ofInt (-1)) = false) → 0 ≤ ((-(Int32.ofInt (-1)))).toInt ∧ ((-(Int32.ofInt (-1)))).toInt < (7 : Nat))
    (b6 : ∀ h1, h1 = hs_sF h 97 11 0 (.int (Int32.ofInt 0)) → hs_Shape h1 → h1.1 = h.1 → h1.2.1 = h.2.1 → (pm_cmp0 .lt (lg_cmp (x1).toInt64 (Int64.ofNat 0)) = false) → (pm_cmp0 .gt (lg_cmp (x1).toInt64 (5 : Int64)) = false) → (pm_cmp0 .eq (Int32.ofInt 1) = false) → (pm_cmp0 .lt (lg_cmp (x2).toInt64 (Int64.ofNat 0)) = true) → (pm_cmp0 .eq (Int32.ofInt 0) = true) → (pm_cmp0 .ne (Int32.ofInt 0) = false) → (pm_cmp0 .ge (Int32.ofInt (-1)) = false) → ∀ h45, h45 = hs_sF h1 97 11 1 (.int (Int32.ofInt (-1))) → hs_Shape h45 → h45.1 = h1.1 → h45.2.1 = h1.2.1 → (pm_cmp0 .ge (Int32.ofInt (-1)) = false) → 0 ≤ ((-(Int32.ofInt (-1)))).toInt ∧ ((-(Int32.ofInt (-1)))).toInt < (7 : Nat))
    (b7 : ∀ h1, h1 = hs_sF h 97 11 0 (.int (Int32.ofInt 0)) → hs_Shape h1 → h1.1 = h.1 → h1.2.1 = h.2.1 → (pm_cmp0 .lt (lg_cmp (x1).toInt64 (Int64.ofNat 0)) = false) → (pm_cmp0 .gt (lg_cmp (x1).toInt64 (5 : Int64)) = false) → (pm_cmp0 .eq (Int32.ofInt 1) = false) → (pm_cmp0 .lt (lg_cmp (x2).toInt64 (Int64.ofNat 0)) = false) → (pm_cmp0 .gt (lg_cmp (x2).toInt64 (5 : Int64)) = true) → (pm_cmp0 .eq (Int32.ofInt 0) = true) → (pm_cmp0 .ne (Int32.ofInt 0) = false) → (pm_cmp0 .ge (Int32.ofInt (-1)) = false) → ∀ h62, h62 = hs_sF h1 97 11 1 (.int (Int32.ofInt (-1))) → hs_Shape h62 → h62.1 = h1.1 → h62.2.1 = h1.2.1 → (pm_cmp0 .ge (Int32.ofInt (-1)) = false) → 0 ≤ ((-(Int32.ofInt (-1)))).toInt ∧ ((-(Int32.ofInt (-1)))).toInt < (7 : Nat))
    (b8 : ∀ h1, h1 = hs_sF h 97 11 0 (.int (Int32.ofInt 0)) → hs_Shape h1 → h1.1 = h.1 → h1.2.1 = h.2.1 → (pm_cmp0 .lt (lg_cmp (x1).toInt64 (Int64.ofNat 0)) = false) → (pm_cmp0 .gt (lg_cmp (x1).toInt64 (5 : Int64)) = false) → (pm_cmp0 .eq (Int32.ofInt 1) = false) → (pm_cmp0 .lt (lg_cmp (x2).toInt64 (Int64.ofNat 0)) = false) → (pm_cmp0 .gt (lg_cmp (x2).toInt64 (5 : Int64)) = true) → (pm_cmp0 .eq (Int32.ofInt 0) = true) → (pm_cmp0 .ne (Int32.ofInt 0) = false) → (pm_cmp0 .ge (Int32.ofInt (-1)) = false) → ∀ h65, h65 = hs_sF h1 97 11 1 (.int (Int32.ofInt (-1))) → hs_Shape h65 → h65.1 = h1.1 → h65.2.1 = h1.2.1 → (pm_cmp0 .ge (Int32.ofInt (-1)) = false) → 0 ≤ ((-(Int32.ofInt (-1)))).toInt ∧ ((-(Int32.ofInt (-1)))).toInt < (7 : Nat))
    (b9 : ∀ h1, h1 = hs_sF h 97 11 0 (.int (Int32.ofInt 0)) → hs_Shape h1 → h1.1 = h.1 → h1.2.1 = h.2.1 → (pm_cmp0 .lt (lg_cmp (x1).toInt64 (Int64.ofNat 0)) = false) → (pm_cmp0 .gt (lg_cmp (x1).toInt64 (5 : Int64)) = false) → (pm_cmp0 .eq (Int32.ofInt 1) = false) → (pm_cmp0 .lt (lg_cmp (x2).toInt64 (Int64.ofNat 0)) = false) → (pm_cmp0 .gt (lg_cmp (x2).toInt64 (5 : Int64)) = false) → (pm_cmp0 .eq (Int32.ofInt 1) = false) → (pm_cmp .eq x1 x2 = true) → (pm_cmp0 .ne (Int32.ofInt 0) = false) → (pm_cmp0 .ge (Int32.ofInt (-1)) = false) → ∀ h83, h83 = hs_sF h1 97 11 1 (.int (Int32.ofInt (-1))) → hs_Shape h83 → h83.1 = h1.1 → h83.2.1 = h1.2.1 → (pm_cmp0 .ge (Int32.ofInt (-1)) = false) → 0 ≤ ((-(Int32.ofInt (-1)))).toInt ∧ ((-(Int32.ofInt (-1)))).toInt < (7 : Nat))
    (b10 : ∀ h1, h1 = hs_sF h 97 11 0 (.int (Int32.ofInt 0)) → hs_Shape h1 → h1.1 = h.1 → h1.2.1 = h.2.1 → (pm_cmp0 .lt (lg_cmp (x1).toInt64 (Int64.ofNat 0)) = false) → (pm_cmp0 .gt (lg_cmp (x1).toInt64 (5 : Int64)) = false) → (pm_cmp0 .eq (Int32.ofInt 1) = false) → (pm_cmp0 .lt (lg_cmp (x2).toInt64 (Int64.ofNat 0)) = false) → (pm_cmp0 .gt (lg_cmp (x2).toInt64 (5 : Int64)) = false) → (pm_cmp0 .eq (Int32.ofInt 1) = false) → (pm_cmp .eq x1 x2 = true) → (pm_cmp0 .ne (Int32.ofInt 0) = false) → (pm_cmp0 .ge (Int32.ofInt (-1)) = false) → ∀ h86, h86 = hs_sF h1 97 11 1 (.int (Int32.ofInt (-1))) → hs_Shape h86 → h86.1 = h1.1 → h86.2.1 = h1.2.1 → (pm_cmp0 .ge (Int32.ofInt (-1)) = false) → 0 ≤ ((-(Int32.ofInt (-1)))).toInt ∧ ((-(Int32.ofInt (-1)))).toInt < (7 : Nat))
    (b11 : ∀ h1, h1 = hs_sF h 97 11 0 (.int (Int32.ofInt 0)) → hs_Shape h1 → h1.1 = h.1 → h1.2.1 = h.2.1 → (pm_cmp0 .lt (lg_cmp (x1).toInt64 (Int64.ofNat 0)) = false) → (pm_cmp0 .gt (lg_cmp (x1).toInt64 (5 : Int64)) = false) → (pm_cmp0 .eq (Int32.ofInt 1) = false) → (pm_cmp0 .lt (lg_cmp (x2).toInt64 (Int64.ofNat 0)) = false) → (pm_cmp0 .gt (lg_cmp (x2).toInt64 (5 : Int64)) = false) → (pm_cmp0 .eq (Int32.ofInt 1) = false) → (pm_cmp .eq x1 x2 = false) → (pm_cmp0 .lt (lg_cmp (x3).toInt64 (-1 : Int64)) = true) → (pm_cmp0 .eq (Int32.ofInt 0) = true) → (pm_cmp0 .ne (Int32.ofInt 0) = false) → (pm_cmp0 .ge (Int32.ofInt (-1)) = false) → ∀ h106, h106 = hs_sF h1 97 11 1 (.int (Int32.ofInt (-1))) → hs_Shape h106 → h106.1 = h1.1 → h106.2.1 = h1.2.1 → (pm_cmp0 .ge (Int32.ofInt (-1)) = false) → 0 ≤ ((-(Int32.ofInt (-1)))).toInt ∧ ((-(Int32.ofInt (-1)))).toInt < (7 : Nat))
    (b12 : ∀ h1, h1 = hs_sF h 97 11 0 (.int (Int32.ofInt 0)) → hs_Shape h1 → h1.1 = h.1 → h1.2.1 = h.2.1 → (pm_cmp0 .lt (lg_cmp (x1).toInt64 (Int64.ofNat 0)) = false) → (pm_cmp0 .gt (lg_cmp (x1).toInt64 (5 : Int64)) = false) → (pm_cmp0 .eq (Int32.ofInt 1) = false) → (pm_cmp0 .lt (lg_cmp (x2).toInt64 (Int64.ofNat 0)) = false) → (pm_cmp0 .gt (lg_cmp (x2).toInt64 (5 : Int64)) = false) → (pm_cmp0 .eq (Int32.ofInt 1) = false) → (pm_cmp .eq x1 x2 = false) → (pm_cmp0 .lt (lg_cmp (x3).toInt64 (-1 : Int64)) = true) → (pm_cmp0 .eq (Int32.ofInt 0) = true) → (pm_cmp0 .ne (Int32.ofInt 0) = false) → (pm_cmp0 .ge (Int32.ofInt (-1)) = false) → ∀ h109, h109 = hs_sF h1 97 11 1 (.int (Int32.ofInt (-1))) → hs_Shape h109 → h109.1 = h1.1 → h109.2.1 = h1.2.1 → (pm_cmp0 .ge (Int32.ofInt (-1)) = false) → 0 ≤ ((-(Int32.ofInt (-1)))).toInt ∧ ((-(Int32.ofInt (-1)))).toInt < (7 : Nat))
    (b13 : ∀ h1, h1 = hs_sF h 97 11 0 (.int (Int32.ofInt 0)) → hs_Shape h1 → h1.1 = h.1 → h1.2.1 = h.2.1 → (pm_cmp0 .lt (lg_cmp (x1).toInt64 (Int64.ofNat 0)) = false) → (pm_cmp0 .gt (lg_cmp (x1).toInt64 (5 : Int64)) = false) → (pm_cmp0 .eq (Int32.ofInt 1) = false) → (pm_cmp0 .lt (lg_cmp (x2).toInt64 (Int64.ofNat 0)) = false) → (pm_cmp0 .gt (lg_cmp (x2).toInt64 (5 : Int64)) = false) → (pm_cmp0 .eq (Int32.ofInt 1) = false) → (pm_cmp .eq x1 x2 = false) → (pm_cmp0 .lt (lg_cmp (x3).toInt64 (-1 : Int64)) = false) → (pm_cmp0 .gt (lg_cmp (x3).toInt64 (9 : Int64)) = true) → (pm_cmp0 .eq (Int32.ofInt 0) = true) → (pm_cmp0 .ne (Int32.ofInt 0) = false) → (pm_cmp0 .ge (Int32.ofInt (-1)) = false) → ∀ h130, h130 = hs_sF h1 97 11 1 (.int (Int32.ofInt (-1))) → hs_Shape h130 → h130.1 = h1.1 → h130.2.1 = h1.2.1 → (pm_cmp0 .ge (Int32.ofInt (-1)) = false) → 0 ≤ ((-(Int32.ofInt (-1)))).toInt ∧ ((-(Int32.ofInt (-1)))).toInt < (7 : Nat))
    (b14 : ∀ h1, h1 = hs_sF h 97 11 0 (.int (Int32.ofInt 0)) → hs_Shape h1 → h1.1 = h.1 → h1.2.1 = h.2.1 → (pm_cmp0 .lt (lg_cmp (x1).toInt64 (Int64.ofNat 0)) = false) → (pm_cmp0 .gt (lg_cmp (x1).toInt64 (5 : Int64)) = false) → (pm_cmp0 .eq (Int32.ofInt 1) = false) → (pm_cmp0 .lt (lg_cmp (x2).toInt64 (Int64.ofNat 0)) = false) → (pm_cmp0 .gt (lg_cmp (x2).toInt64 (5 : Int64)) = false) → (pm_cmp0 .eq (Int32.ofInt 1) = false) → (pm_cmp .eq x1 x2 = false) → (pm_cmp0 .lt (lg_cmp (x3).toInt64 (-1 : Int64)) = false) → (pm_cmp0 .gt (lg_cmp (x3).toInt64 (9 : Int64)) = true) → (pm_cmp0 .eq (Int32.ofInt 0) = true) → (pm_cmp0 .ne (Int32.ofInt 0) = false) → (pm_cmp0 .ge (Int32.ofInt (-1)) = false) → ∀ h133, h133 = hs_sF h1 97 11 1 (.int (Int32.ofInt (-1))) → hs_Shape h133 → h133.1 = h1.1 → h133.2.1 = h1.2.1 → (pm_cmp0 .ge (Int32.ofInt (-1)) = false) → 0 ≤ ((-(Int32.ofInt (-1)))).toInt ∧ ((-(Int32.ofInt (-1)))).toInt < (7 : Nat))
    (b15 : ∀ h1, h1 = hs_sF h 97 11 0 (.int (Int32.ofInt 0)) → hs_Shape h1 → h1.1 = h.1 → h1.2.1 = h.2.1 → (pm_cmp0 .lt (lg_cmp (x1).toInt64 (Int64.ofNat 0)) = false) → (pm_cmp0 .gt (lg_cmp (x1).toInt64 (5 : Int64)) = false) → (pm_cmp0 .eq (Int32.ofInt 1) = false) → (pm_cmp0 .lt (lg_cmp (x2).toInt64 (Int64.ofNat 0)) = false) → (pm_cmp0 .gt (lg_cmp (x2).toInt64 (5 : Int64)) = false) → (pm_cmp0 .eq (Int32.ofInt 1) = false) → (pm_cmp .eq x1 x2 = false) → (pm_cmp0 .lt (lg_cmp (x3).toInt64 (-1 : Int64)) = false) → (pm_cmp0 .gt (lg_cmp (x3).toInt64 (9 : Int64)) = false) → (pm_cmp0 .eq (Int32.ofInt 1) = false) → (pm_cmp0 .ne (Int32.ofInt 1) = true) → 0 ≤ ((((Int8.ofInt (50)).toInt32 + ((Int8.ofInt (6)).toInt32 * x1)) + x2)).toInt ∧ ((((Int8.ofInt (50)).toInt32 + ((Int8.ofInt (6)).toInt32 * x1)) + x2)).toInt < (5498 : Nat))
    (b16 : ∀ h1, h1 = hs_sF h 97 11 0 (.int (Int32.ofInt 0)) → hs_Shape h1 → h1.1 = h.1 → h1.2.1 = h.2.1 → (pm_cmp0 .lt (lg_cmp (x1).toInt64 (Int64.ofNat 0)) = false) → (pm_cmp0 .gt (lg_cmp (x1).toInt64 (5 : Int64)) = false) → (pm_cmp0 .eq (Int32.ofInt 1) = false) → (pm_cmp0 .lt (lg_cmp (x2).toInt64 (Int64.ofNat 0)) = false) → (pm_cmp0 .gt (lg_cmp (x2).toInt64 (5 : Int64)) = false) → (pm_cmp0 .eq (Int32.ofInt 1) = false) → (pm_cmp .eq x1 x2 = false) → (pm_cmp0 .lt (lg_cmp (x3).toInt64 (-1 : Int64)) = false) → (pm_cmp0 .gt (lg_cmp (x3).toInt64 (9 : Int64)) = false) → (pm_cmp0 .eq (Int32.ofInt 1) = false) → (pm_cmp0 .ne (Int32.ofInt 1) = true) → 0 ≤ ((((Int8.ofInt (50)).toInt32 + ((Int8.ofInt (6)).toInt32 * x1)) + x2)).toInt ∧ ((((Int8.ofInt (50)).toInt32 + ((Int8.ofInt (6)).toInt32 * x1)) + x2)).toInt < (5498 : Nat))
    (b17 : ∀ h1, h1 = hs_sF h 97 11 0 (.int (Int32.ofInt 0)) → hs_Shape h1 → h1.1 = h.1 → h1.2.1 = h.2.1 → (pm_cmp0 .lt (lg_cmp (x1).toInt64 (Int64.ofNat 0)) = false) → (pm_cmp0 .gt (lg_cmp (x1).toInt64 (5 : Int64)) = false) → (pm_cmp0 .eq (Int32.ofInt 1) = false) → (pm_cmp0 .lt (lg_cmp (x2).toInt64 (Int64.ofNat 0)) = false) → (pm_cmp0 .gt (lg_cmp (x2).toInt64 (5 : Int64)) = false) → (pm_cmp0 .eq (Int32.ofInt 1) = false) → (pm_cmp .eq x1 x2 = false) → (pm_cmp0 .lt (lg_cmp (x3).toInt64 (-1 : Int64)) = false) → (pm_cmp0 .gt (lg_cmp (x3).toInt64 (9 : Int64)) = false) → (pm_cmp0 .eq (Int32.ofInt 1) = false) → (pm_cmp0 .ne (Int32.ofInt 1) = true) → ∀ h153, h153 = hs_sA h1 99 0 5498 ((((Int8.ofInt (50)).toInt32 + ((Int8.ofInt (6)).toInt32 * x1)) + x2)).toNatClampNeg x3 → hs_Shape h153 → h153.1 = h1.1 → h153.2.1 = h1.2.1 → 0 ≤ ((((Int8.ofInt (50)).toInt32 + ((Int8.ofInt (6)).toInt32 * x2)) + x1)).toInt ∧ ((((Int8.ofInt (50)).toInt32 + ((Int8.ofInt (6)).toInt32 * x2)) + x1)).toInt < (5498 : Nat))
    (k1 : ∀ h1, h1 = hs_sF h 97 11 0 (.int (Int32.ofInt 0)) → hs_Shape h1 → h1.1 = h.1 → h1.2.1 = h.2.1 → (pm_cmp0 .lt (lg_cmp (x1).toInt64 (Int64.ofNat 0)) = true) → (pm_cmp0 .eq (Int32.ofInt 0) = true) → (pm_cmp0 .ne (Int32.ofInt 0) = false) → (pm_cmp0 .ge (Int32.ofInt (-1)) = false) → ∀ h15, h15 = hs_sF h1 97 11 1 (.int (Int32.ofInt (-1))) → hs_Shape h15 → h15.1 = h1.1 → h15.2.1 = h1.2.1 → (pm_cmp0 .ge (Int32.ofInt (-1)) = false) → ∀ h17, h17 = hs_sA h15 98 0 7 ((-(Int32.ofInt (-1)))).toNatClampNeg ((hs_aI h15 98 ((-(Int32.ofInt (-1)))).toNatClampNeg) + (Int32.ofInt 1)) → hs_Shape h17 → h17.1 = h15.1 → h17.2.1 = h15.2.1 → Q h17 (some (.int (Int32.ofInt (-1)))))
    (k2 : ∀ h1, h1 = hs_sF h 97 11 0 (.int (Int32.ofInt 0)) → hs_Shape h1 → h1.1 = h.1 → h1.2.1 = h.2.1 → (pm_cmp0 .lt (lg_cmp (x1).toInt64 (Int64.ofNat 0)) = false) → (pm_cmp0 .gt (lg_cmp (x1).toInt64 (5 : Int64)) = true) → (pm_cmp0 .eq (Int32.ofInt 0) = true) → (pm_cmp0 .ne (Int32.ofInt 0) = false) → (pm_cmp0 .ge (Int32.ofInt (-1)) = false) → ∀ h32, h32 = hs_sF h1 97 11 1 (.int (Int32.ofInt (-1))) → hs_Shape h32 → h32.1 = h1.1 → h32.2.1 = h1.2.1 → (pm_cmp0 .ge (Int32.ofInt (-1)) = false) → ∀ h34, h34 = hs_sA h32 98 0 7 ((-(Int32.ofInt (-1)))).toNatClampNeg ((hs_aI h32 98 ((-(Int32.ofInt (-1)))).toNatClampNeg) + (Int32.ofInt 1)) → hs_Shape h34 → h34.1 = h32.1 → h34.2.1 = h32.2.1 → Q h34 (some (.int (Int32.ofInt (-1)))))
    (k3 : ∀ h1, h1 = hs_sF h 97 11 0 (.int (Int32.ofInt 0)) → hs_Shape h1 → h1.1 = h.1 → h1.2.1 = h.2.1 → (pm_cmp0 .lt (lg_cmp (x1).toInt64 (Int64.ofNat 0)) = false) → (pm_cmp0 .gt (lg_cmp (x1).toInt64 (5 : Int64)) = false) → (pm_cmp0 .eq (Int32.ofInt 1) = false) → (pm_cmp0 .lt (lg_cmp (x2).toInt64 (Int64.ofNat 0)) = true) → (pm_cmp0 .eq (Int32.ofInt 0) = true) → (pm_cmp0 .ne (Int32.ofInt 0) = false) → (pm_cmp0 .ge (Int32.ofInt (-1)) = false) → ∀ h51, h51 = hs_sF h1 97 11 1 (.int (Int32.ofInt (-1))) → hs_Shape h51 → h51.1 = h1.1 → h51.2.1 = h1.2.1 → (pm_cmp0 .ge (Int32.ofInt (-1)) = false) → ∀ h53, h53 = hs_sA h51 98 0 7 ((-(Int32.ofInt (-1)))).toNatClampNeg ((hs_aI h51 98 ((-(Int32.ofInt (-1)))).toNatClampNeg) + (Int32.ofInt 1)) → hs_Shape h53 → h53.1 = h51.1 → h53.2.1 = h51.2.1 → Q h53 (some (.int (Int32.ofInt (-1)))))
    (k4 : ∀ h1, h1 = hs_sF h 97 11 0 (.int (Int32.ofInt 0)) → hs_Shape h1 → h1.1 = h.1 → h1.2.1 = h.2.1 → (pm_cmp0 .lt (lg_cmp (x1).toInt64 (Int64.ofNat 0)) = false) → (pm_cmp0 .gt (lg_cmp (x1).toInt64 (5 : Int64)) = false) → (pm_cmp0 .eq (Int32.ofInt 1) = false) → (pm_cmp0 .lt (lg_cmp (x2).toInt64 (Int64.ofNat 0)) = false) → (pm_cmp0 .gt (lg_cmp (x2).toInt64 (5 : Int64)) = true) → (pm_cmp0 .eq (Int32.ofInt 0) = true) → (pm_cmp0 .ne (Int32.ofInt 0) = false) → (pm_cmp0 .ge (Int32.ofInt (-1)) = false) → ∀ h71, h71 = hs_sF h1 97 11 1 (.int (Int32.ofInt (-1))) → hs_Shape h71 → h71.1 = h1.1 → h71.2.1 = h1.2.1 → (pm_cmp0 .ge (Int32.ofInt (-1)) = false) → ∀ h73, h73 = hs_sA h71 98 0 7 ((-(Int32.ofInt (-1)))).toNatClampNeg ((hs_aI h71 98 ((-(Int32.ofInt (-1)))).toNatClampNeg) + (Int32.ofInt 1)) → hs_Shape h73 → h73.1 = h71.1 → h73.2.1 = h71.2.1 → Q h73 (some (.int (Int32.ofInt (-1)))))
    (k5 : ∀ h1, h1 = hs_sF h 97 11 0 (.int (Int32.ofInt 0)) → hs_Shape h1 → h1.1 = h.1 → h1.2.1 = h.2.1 → (pm_cmp0 .lt (lg_cmp (x1).toInt64 (Int64.ofNat 0)) = false) → (pm_cmp0 .gt (lg_cmp (x1).toInt64 (5 : Int64)) = false) → (pm_cmp0 .eq (Int32.ofInt 1) = false) → (pm_cmp0 .lt (lg_cmp (x2).toInt64 (Int64.ofNat 0)) = false) → (pm_cmp0 .gt (lg_cmp (x2).toInt64 (5 : Int64)) = false) → (pm_cmp0 .eq (Int32.ofInt 1) = false) → (pm_cmp .eq x1 x2 = true) → (pm_cmp0 .ne (Int32.ofInt 0) = false) → (pm_cmp0 .ge (Int32.ofInt (-1)) = false) → ∀ h92, h92 = hs_sF h1 97 11 1 (.int (Int32.ofInt (-1))) → hs_Shape h92 → h92.1 = h1.1 → h92.2.1 = h1.2.1 → (pm_cmp0 .ge (Int32.ofInt (-1)) = false) → ∀ h94, h94 = hs_sA h92 98 0 7 ((-(Int32.ofInt (-1)))).toNatClampNeg ((hs_aI h92 98 ((-(Int32.ofInt (-1)))).toNatClampNeg) + (Int32.ofInt 1)) → hs_Shape h94 → h94.1 = h92.1 → h94.2.1 = h92.2.1 → Q h94 (some (.int (Int32.ofInt (-1)))))
    (k6 : ∀ h1, h1 = hs_sF h 97 11 0 (.int (Int32.ofInt 0)) → hs_Shape h1 → h1.1 = h.1 → h1.2.1 = h.2.1 → (pm_cmp0 .lt (lg_cmp (x1).toInt64 (Int64.ofNat 0)) = false) → (pm_cmp0 .gt (lg_cmp (x1).toInt64 (5 : Int64)) = false) → (pm_cmp0 .eq (Int32.ofInt 1) = false) → (pm_cmp0 .lt (lg_cmp (x2).toInt64 (Int64.ofNat 0)) = false) → (pm_cmp0 .gt (lg_cmp (x2).toInt64 (5 : Int64)) = false) → (pm_cmp0 .eq (Int32.ofInt 1) = false) → (pm_cmp .eq x1 x2 = false) → (pm_cmp0 .lt (lg_cmp (x3).toInt64 (-1 : Int64)) = true) → (pm_cmp0 .eq (Int32.ofInt 0) = true) → (pm_cmp0 .ne (Int32.ofInt 0) = false) → (pm_cmp0 .ge (Int32.ofInt (-1)) = false) → ∀ h115, h115 = hs_sF h1 97 11 1 (.int (Int32.ofInt (-1))) → hs_Shape h115 → h115.1 = h1.1 → h115.2.1 = h1.2.1 → (pm_cmp0 .ge (Int32.ofInt (-1)) = false) → ∀ h117, h117 = hs_sA h115 98 0 7 ((-(Int32.ofInt (-1)))).toNatClampNeg ((hs_aI h115 98 ((-(Int32.ofInt (-1)))).toNatClampNeg) + (Int32.ofInt 1)) → hs_Shape h117 → h117.1 = h115.1 → h117.2.1 = h115.2.1 → Q h117 (some (.int (Int32.ofInt (-1)))))
    (k7 : ∀ h1, h1 = hs_sF h 97 11 0 (.int (Int32.ofInt 0)) → hs_Shape h1 → h1.1 = h.1 → h1.2.1 = h.2.1 → (pm_cmp0 .lt (lg_cmp (x1).toInt64 (Int64.ofNat 0)) = false) → (pm_cmp0 .gt (lg_cmp (x1).toInt64 (5 : Int64)) = false) → (pm_cmp0 .eq (Int32.ofInt 1) = false) → (pm_cmp0 .lt (lg_cmp (x2).toInt64 (Int64.ofNat 0)) = false) → (pm_cmp0 .gt (lg_cmp (x2).toInt64 (5 : Int64)) = false) → (pm_cmp0 .eq (Int32.ofInt 1) = false) → (pm_cmp .eq x1 x2 = false) → (pm_cmp0 .lt (lg_cmp (x3).toInt64 (-1 : Int64)) = false) → (pm_cmp0 .gt (lg_cmp (x3).toInt64 (9 : Int64)) = true) → (pm_cmp0 .eq (Int32.ofInt 0) = true) → (pm_cmp0 .ne (Int32.ofInt 0) = false) → (pm_cmp0 .ge (Int32.ofInt (-1)) = false) → ∀ h139, h139 = hs_sF h1 97 11 1 (.int (Int32.ofInt (-1))) → hs_Shape h139 → h139.1 = h1.1 → h139.2.1 = h1.2.1 → (pm_cmp0 .ge (Int32.ofInt (-1)) = false) → ∀ h141, h141 = hs_sA h139 98 0 7 ((-(Int32.ofInt (-1)))).toNatClampNeg ((hs_aI h139 98 ((-(Int32.ofInt (-1)))).toNatClampNeg) + (Int32.ofInt 1)) → hs_Shape h141 → h141.1 = h139.1 → h141.2.1 = h139.2.1 → Q h141 (some (.int (Int32.ofInt (-1)))))
    (k8 : ∀ h1, h1 = hs_sF h 97 11 0 (.int (Int32.ofInt 0)) → hs_Shape h1 → h1.1 = h.1 → h1.2.1 = h.2.1 → (pm_cmp0 .lt (lg_cmp (x1).toInt64 (Int64.ofNat 0)) = false) → (pm_cmp0 .gt (lg_cmp (x1).toInt64 (5 : Int64)) = false) → (pm_cmp0 .eq (Int32.ofInt 1) = false) → (pm_cmp0 .lt (lg_cmp (x2).toInt64 (Int64.ofNat 0)) = false) → (pm_cmp0 .gt (lg_cmp (x2).toInt64 (5 : Int64)) = false) → (pm_cmp0 .eq (Int32.ofInt 1) = false) → (pm_cmp .eq x1 x2 = false) → (pm_cmp0 .lt (lg_cmp (x3).toInt64 (-1 : Int64)) = false) → (pm_cmp0 .gt (lg_cmp (x3).toInt64 (9 : Int64)) = false) → (pm_cmp0 .eq (Int32.ofInt 1) = false) → (pm_cmp0 .ne (Int32.ofInt 1) = true) → ∀ h154, h154 = hs_sA h1 99 0 5498 ((((Int8.ofInt (50)).toInt32 + ((Int8.ofInt (6)).toInt32 * x1)) + x2)).toNatClampNeg x3 → hs_Shape h154 → h154.1 = h1.1 → h154.2.1 = h1.2.1 → ∀ h155, h155 = hs_sA h154 99 0 5498 ((((Int8.ofInt (50)).toInt32 + ((Int8.ofInt (6)).toInt32 * x2)) + x1)).toNatClampNeg x3 → hs_Shape h155 → h155.1 = h154.1 → h155.2.1 = h154.2.1 → ∀ h156, h156 = hs_sF h155 97 11 1 (.int (Int32.ofInt 0)) → hs_Shape h156 → h156.1 = h155.1 → h156.2.1 = h155.2.1 → Q h156 (some (.int (hs_aI h1 99 ((((Int8.ofInt (50)).toInt32 + ((Int8.ofInt (6)).toInt32 * x1)) + x2)).toNatClampNeg))))
    : hq_M X d 161 [.ref 97, .int x1, .int x2, .int x3] h Q := by
  obtain ⟨d, rfl⟩ : ∃ e, d = e + 1 := ⟨d - 1, by omega⟩
  refine hq_M.enter (q := (⟨"TrainBearersModel", "lane", "(III)I"⟩, _, 5, some .int, 11, 4, pm_c161)) rfl rfl ?_
  show hq_W X d 11 false (some .int) pm_c161 (0, [some (.ref 97), some (.int x1), some (.int x2), some (.int x3), none], [], h) Q
  refine hq_p rfl rfl ?_
  refine hq_p rfl rfl ?_
  refine hq_pFo S rfl rfl (by decide) rfl rfl ⟨_, rfl⟩ (fun h1 e1 S1 p1 q1 => ?_)
  refine hq_p rfl rfl ?_
  refine hq_p rfl rfl ?_
  refine hq_p rfl rfl ?_
  refine hq_inv 1 rfl (fun _ => rfl) rfl rfl rfl rfl ?_
  refine wp_159 (x1 := x1) (x2 := x2) (x3 := x3) (by omega) S1  ?_ ?_ ?_ ?_ ?_ ?_ ?_ ?_
  · intro c2 c3
    refine ⟨by omega, by omega, ?_⟩
    refine hq_if rfl (fun c4 => ?_) (fun c4 => ?_)
    · exact absurd c4 (by decide)
    · refine hq_p rfl rfl ?_
      refine hq_p rfl rfl ?_
      refine hq_inv 0 rfl (fun _ => rfl) rfl rfl rfl (hq_pre_o S1 (x := 97) (ci := 11) rfl (by decide) rfl rfl rfl rfl) ?_
      refine wp_140 (x1 := (Int32.ofInt (-1))) (by omega) S1 (fun c5 h6 e6 S6 p6 q6 c7 => b1 h1 e1 S1 p1 q1 c2 c3 c4 c5 h6 e6 S6 p6 q6 c7) (fun c8 h9 e9 S9 p9 q9 c10 => b2 h1 e1 S1 p1 q1 c2 c3 c4 c8 h9 e9 S9 p9 q9 c10) ?_ ?_
      · intro c11 h12 e12 S12 p12 q12 c13
        exact absurd c11 (by decide)
      · intro c14 h15 e15 S15 p15 q15 c16 h17 e17 S17 p17 q17
        refine ⟨by omega, by omega, ?_⟩
        exact hq_W.ret rfl rfl rfl (k1 h1 e1 S1 p1 q1 c2 c3 c4 c14 h15 e15 S15 p15 q15 c16 h17 e17 S17 p17 q17)
  · intro c18 c19 c20
    refine ⟨by omega, by omega, ?_⟩
    refine hq_if rfl (fun c21 => ?_) (fun c21 => ?_)
    · exact absurd c21 (by decide)
    · refine hq_p rfl rfl ?_
      refine hq_p rfl rfl ?_
      refine hq_inv 0 rfl (fun _ => rfl) rfl rfl rfl (hq_pre_o S1 (x := 97) (ci := 11) rfl (by decide) rfl rfl rfl rfl) ?_
      refine wp_140 (x1 := (Int32.ofInt (-1))) (by omega) S1 (fun c22 h23 e23 S23 p23 q23 c24 => b3 h1 e1 S1 p1 q1 c18 c19 c20 c21 c22 h23 e23 S23 p23 q23 c24) (fun c25 h26 e26 S26 p26 q26 c27 => b4 h1 e1 S1 p1 q1 c18 c19 c20 c21 c25 h26 e26 S26 p26 q26 c27) ?_ ?_
      · intro c28 h29 e29 S29 p29 q29 c30
        exact absurd c28 (by decide)
      · intro c31 h32 e32 S32 p32 q32 c33 h34 e34 S34 p34 q34
        refine ⟨by omega, by omega, ?_⟩
        exact hq_W.ret rfl rfl rfl (k2 h1 e1 S1 p1 q1 c18 c19 c20 c21 c31 h32 e32 S32 p32 q32 c33 h34 e34 S34 p34 q34)
  · intro c35 c36 c37 c38 c39
    refine ⟨by omega, by omega, ?_⟩
    refine hq_if rfl (fun c40 => ?_) (fun c40 => ?_)
    · exact absurd c40 (by decide)
    · refine hq_p rfl rfl ?_
      refine hq_p rfl rfl ?_
      refine hq_inv 0 rfl (fun _ => rfl) rfl rfl rfl (hq_pre_o S1 (x := 97) (ci := 11) rfl (by decide) rfl rfl rfl rfl) ?_
      refine wp_140 (x1 := (Int32.ofInt (-1))) (by omega) S1 (fun c41 h42 e42 S42 p42 q42 c43 => b5 h1 e1 S1 p1 q1 c35 c36 c37 c38 c39 c40 c41 h42 e42 S42 p42 q42 c43) (fun c44 h45 e45 S45 p45 q45 c46 => b6 h1 e1 S1 p1 q1 c35 c36 c37 c38 c39 c40 c44 h45 e45 S45 p45 q45 c46) ?_ ?_
      · intro c47 h48 e48 S48 p48 q48 c49
        exact absurd c47 (by decide)
      · intro c50 h51 e51 S51 p51 q51 c52 h53 e53 S53 p53 q53
        refine ⟨by omega, by omega, ?_⟩
        exact hq_W.ret rfl rfl rfl (k3 h1 e1 S1 p1 q1 c35 c36 c37 c38 c39 c40 c50 h51 e51 S51 p51 q51 c52 h53 e53 S53 p53 q53)
  · intro c54 c55 c56 c57 c58 c59
    refine ⟨by omega, by omega, ?_⟩
    refine hq_if rfl (fun c60 => ?_) (fun c60 => ?_)
    · exact absurd c60 (by decide)
    · refine hq_p rfl rfl ?_
      refine hq_p rfl rfl ?_
      refine hq_inv 0 rfl (fun _ => rfl) rfl rfl rfl (hq_pre_o S1 (x := 97) (ci := 11) rfl (by decide) rfl rfl rfl rfl) ?_
      refine wp_140 (x1 := (Int32.ofInt (-1))) (by omega) S1 (fun c61 h62 e62 S62 p62 q62 c63 => b7 h1 e1 S1 p1 q1 c54 c55 c56 c57 c58 c59 c60 c61 h62 e62 S62 p62 q62 c63) (fun c64 h65 e65 S65 p65 q65 c66 => b8 h1 e1 S1 p1 q1 c54 c55 c56 c57 c58 c59 c60 c64 h65 e65 S65 p65 q65 c66) ?_ ?_
      · intro c67 h68 e68 S68 p68 q68 c69
        exact absurd c67 (by decide)
      · intro c70 h71 e71 S71 p71 q71 c72 h73 e73 S73 p73 q73
        refine ⟨by omega, by omega, ?_⟩
        exact hq_W.ret rfl rfl rfl (k4 h1 e1 S1 p1 q1 c54 c55 c56 c57 c58 c59 c60 c70 h71 e71 S71 p71 q71 c72 h73 e73 S73 p73 q73)
  · intro c74 c75 c76 c77 c78 c79 c80
    refine ⟨by omega, by omega, ?_⟩
    refine hq_if rfl (fun c81 => ?_) (fun c81 => ?_)
    · exact absurd c81 (by decide)
    · refine hq_p rfl rfl ?_
      refine hq_p rfl rfl ?_
      refine hq_inv 0 rfl (fun _ => rfl) rfl rfl rfl (hq_pre_o S1 (x := 97) (ci := 11) rfl (by decide) rfl rfl rfl rfl) ?_
      refine wp_140 (x1 := (Int32.ofInt (-1))) (by omega) S1 (fun c82 h83 e83 S83 p83 q83 c84 => b9 h1 e1 S1 p1 q1 c74 c75 c76 c77 c78 c79 c80 c81 c82 h83 e83 S83 p83 q83 c84) (fun c85 h86 e86 S86 p86 q86 c87 => b10 h1 e1 S1 p1 q1 c74 c75 c76 c77 c78 c79 c80 c81 c85 h86 e86 S86 p86 q86 c87) ?_ ?_
      · intro c88 h89 e89 S89 p89 q89 c90
        exact absurd c88 (by decide)
      · intro c91 h92 e92 S92 p92 q92 c93 h94 e94 S94 p94 q94
        refine ⟨by omega, by omega, ?_⟩
        exact hq_W.ret rfl rfl rfl (k5 h1 e1 S1 p1 q1 c74 c75 c76 c77 c78 c79 c80 c81 c91 h92 e92 S92 p92 q92 c93 h94 e94 S94 p94 q94)
  · intro c95 c96 c97 c98 c99 c100 c101 c102 c103
    refine ⟨by omega, by omega, ?_⟩
    refine hq_if rfl (fun c104 => ?_) (fun c104 => ?_)
    · exact absurd c104 (by decide)
    · refine hq_p rfl rfl ?_
      refine hq_p rfl rfl ?_
      refine hq_inv 0 rfl (fun _ => rfl) rfl rfl rfl (hq_pre_o S1 (x := 97) (ci := 11) rfl (by decide) rfl rfl rfl rfl) ?_
      refine wp_140 (x1 := (Int32.ofInt (-1))) (by omega) S1 (fun c105 h106 e106 S106 p106 q106 c107 => b11 h1 e1 S1 p1 q1 c95 c96 c97 c98 c99 c100 c101 c102 c103 c104 c105 h106 e106 S106 p106 q106 c107) (fun c108 h109 e109 S109 p109 q109 c110 => b12 h1 e1 S1 p1 q1 c95 c96 c97 c98 c99 c100 c101 c102 c103 c104 c108 h109 e109 S109 p109 q109 c110) ?_ ?_
      · intro c111 h112 e112 S112 p112 q112 c113
        exact absurd c111 (by decide)
      · intro c114 h115 e115 S115 p115 q115 c116 h117 e117 S117 p117 q117
        refine ⟨by omega, by omega, ?_⟩
        exact hq_W.ret rfl rfl rfl (k6 h1 e1 S1 p1 q1 c95 c96 c97 c98 c99 c100 c101 c102 c103 c104 c114 h115 e115 S115 p115 q115 c116 h117 e117 S117 p117 q117)
  · intro c118 c119 c120 c121 c122 c123 c124 c125 c126 c127
    refine ⟨by omega, by omega, ?_⟩
    refine hq_if rfl (fun c128 => ?_) (fun c128 => ?_)
    · exact absurd c128 (by decide)
    · refine hq_p rfl rfl ?_
      refine hq_p rfl rfl ?_
      refine hq_inv 0 rfl (fun _ => rfl) rfl rfl rfl (hq_pre_o S1 (x := 97) (ci := 11) rfl (by decide) rfl rfl rfl rfl) ?_
      refine wp_140 (x1 := (Int32.ofInt (-1))) (by omega) S1 (fun c129 h130 e130 S130 p130 q130 c131 => b13 h1 e1 S1 p1 q1 c118 c119 c120 c121 c122 c123 c124 c125 c126 c127 c128 c129 h130 e130 S130 p130 q130 c131) (fun c132 h133 e133 S133 p133 q133 c134 => b14 h1 e1 S1 p1 q1 c118 c119 c120 c121 c122 c123 c124 c125 c126 c127 c128 c132 h133 e133 S133 p133 q133 c134) ?_ ?_
      · intro c135 h136 e136 S136 p136 q136 c137
        exact absurd c135 (by decide)
      · intro c138 h139 e139 S139 p139 q139 c140 h141 e141 S141 p141 q141
        refine ⟨by omega, by omega, ?_⟩
        exact hq_W.ret rfl rfl rfl (k7 h1 e1 S1 p1 q1 c118 c119 c120 c121 c122 c123 c124 c125 c126 c127 c128 c138 h139 e139 S139 p139 q139 c140 h141 e141 S141 p141 q141)
  · intro c142 c143 c144 c145 c146 c147 c148 c149 c150 c151
    refine ⟨by omega, by omega, ?_⟩
    refine hq_if rfl (fun c152 => ?_) (fun c152 => ?_)
    · refine hq_p rfl rfl ?_
      refine hq_gR S1 rfl rfl (by decide) (by decide) rfl ?_
      refine hq_p rfl rfl ?_
      refine hq_p rfl rfl ?_
      refine hq_p rfl rfl ?_
      refine hq_p rfl rfl ?_
      refine hq_p rfl rfl ?_
      refine hq_p rfl rfl ?_
      refine hq_p rfl rfl ?_
      refine hq_aL S1 rfl rfl (by decide) (b15 h1 e1 S1 p1 q1 c142 c143 c144 c145 c146 c147 c148 c149 c150 c151 c152).1 (b15 h1 e1 S1 p1 q1 c142 c143 c144 c145 c146 c147 c148 c149 c150 c151 c152).2 ?_
      refine hq_p rfl rfl ?_
      refine hq_p rfl rfl ?_
      refine hq_p rfl rfl ?_
      refine hq_p rfl rfl ?_
      refine hq_p rfl rfl ?_
      refine hq_inv 0 rfl (fun _ => rfl) rfl rfl rfl (hq_pre_o S1 (x := 97) (ci := 11) rfl (by decide) rfl rfl rfl rfl) ?_
      refine wp_160 (x1 := x1) (x2 := x2) (x3 := x3) (by omega) S1 (b16 h1 e1 S1 p1 q1 c142 c143 c144 c145 c146 c147 c148 c149 c150 c151 c152) (fun h153 e153 S153 p153 q153 => b17 h1 e1 S1 p1 q1 c142 c143 c144 c145 c146 c147 c148 c149 c150 c151 c152 h153 e153 S153 p153 q153) ?_
      · intro h154 e154 S154 p154 q154 h155 e155 S155 p155 q155
        refine ⟨by omega, by omega, ?_⟩
        refine hq_p rfl rfl ?_
        refine hq_p rfl rfl ?_
        refine hq_pFo S155 rfl rfl (by decide) rfl rfl ⟨_, rfl⟩ (fun h156 e156 S156 p156 q156 => ?_)
        refine hq_p rfl rfl ?_
        exact hq_W.ret rfl rfl rfl (k8 h1 e1 S1 p1 q1 c142 c143 c144 c145 c146 c147 c148 c149 c150 c151 c152 h154 e154 S154 p154 q154 h155 e155 S155 p155 q155 h156 e156 S156 p156 q156)
    · exact absurd c152 (by decide)
theorem wp_162 {X : pm_X} {d : Nat} {h : pm_H} {Q : pm_H → Option Value → Prop} {x1 : Int32} {x2 : Int32} (hd : 3 ≤ d) (S : hs_Shape h)
    (b1 : ∀ h1, h1 = hs_sF h 97 11 0 (.int (Int32.ofInt 0)) → hs_Shape h1 → h1.1 = h.1 → h1.2.1 = h.2.1 → (pm_cmp0 .lt (lg_cmp (x1).toInt64 (Int64.ofNat 0)) = false) → (pm_cmp0 .gt (lg_cmp (x1).toInt64 (5 : Int64)) = false) → (pm_cmp0 .eq (Int32.ofInt 1) = false) → (pm_cmp0 .lt (lg_cmp (x2).toInt64 (Int64.ofNat 0)) = false) → (pm_cmp0 .gt (lg_cmp (x2).toInt64 (5 : Int64)) = false) → (pm_cmp0 .eq (Int32.ofInt 1) = false) → 0 ≤ ((((Int8.ofInt (50)).toInt32 + ((Int8.ofInt (6)).toInt32 * x1)) + x2)).toInt ∧ ((((Int8.ofInt (50)).toInt32 + ((Int8.ofInt (6)).toInt32 * x1)) + x2)).toInt < (5498 : Nat))
    (k1 : ∀ h1, h1 = hs_sF h 97 11 0 (.int (Int32.ofInt 0)) → hs_Shape h1 → h1.1 = h.1 → h1.2.1 = h.2.1 → (pm_cmp0 .lt (lg_cmp (x1).toInt64 (Int64.ofNat 0)) = true) → (pm_cmp0 .eq (Int32.ofInt 0) = true) → Q h1 (some (.int (Int32.ofInt (-1)))))
    (k2 : ∀ h1, h1 = hs_sF h 97 11 0 (.int (Int32.ofInt 0)) → hs_Shape h1 → h1.1 = h.1 → h1.2.1 = h.2.1 → (pm_cmp0 .lt (lg_cmp (x1).toInt64 (Int64.ofNat 0)) = false) → (pm_cmp0 .gt (lg_cmp (x1).toInt64 (5 : Int64)) = true) → (pm_cmp0 .eq (Int32.ofInt 0) = true) → Q h1 (some (.int (Int32.ofInt (-1)))))
    (k3 : ∀ h1, h1 = hs_sF h 97 11 0 (.int (Int32.ofInt 0)) → hs_Shape h1 → h1.1 = h.1 → h1.2.1 = h.2.1 → (pm_cmp0 .lt (lg_cmp (x1).toInt64 (Int64.ofNat 0)) = false) → (pm_cmp0 .gt (lg_cmp (x1).toInt64 (5 : Int64)) = false) → (pm_cmp0 .eq (Int32.ofInt 1) = false) → (pm_cmp0 .lt (lg_cmp (x2).toInt64 (Int64.ofNat 0)) = true) → (pm_cmp0 .eq (Int32.ofInt 0) = true) → Q h1 (some (.int (Int32.ofInt (-1)))))
    (k4 : ∀ h1, h1 = hs_sF h 97 11 0 (.int (Int32.ofInt 0)) → hs_Shape h1 → h1.1 = h.1 → h1.2.1 = h.2.1 → (pm_cmp0 .lt (lg_cmp (x1).toInt64 (Int64.ofNat 0)) = false) → (pm_cmp0 .gt (lg_cmp (x1).toInt64 (5 : Int64)) = false) → (pm_cmp0 .eq (Int32.ofInt 1) = false) → (pm_cmp0 .lt (lg_cmp (x2).toInt64 (Int64.ofNat 0)) = false) → (pm_cmp0 .gt (lg_cmp (x2).toInt64 (5 : Int64)) = true) → (pm_cmp0 .eq (Int32.ofInt 0) = true) → Q h1 (some (.int (Int32.ofInt (-1)))))
    (k5 : ∀ h1, h1 = hs_sF h 97 11 0 (.int (Int32.ofInt 0)) → hs_Shape h1 → h1.1 = h.1 → h1.2.1 = h.2.1 → (pm_cmp0 .lt (lg_cmp (x1).toInt64 (Int64.ofNat 0)) = false) → (pm_cmp0 .gt (lg_cmp (x1).toInt64 (5 : Int64)) = false) → (pm_cmp0 .eq (Int32.ofInt 1) = false) → (pm_cmp0 .lt (lg_cmp (x2).toInt64 (Int64.ofNat 0)) = false) → (pm_cmp0 .gt (lg_cmp (x2).toInt64 (5 : Int64)) = false) → (pm_cmp0 .eq (Int32.ofInt 1) = false) → Q h1 (some (.int (hs_aI h1 99 ((((Int8.ofInt (50)).toInt32 + ((Int8.ofInt (6)).toInt32 * x1)) + x2)).toNatClampNeg))))
    : hq_M X d 162 [.ref 97, .int x1, .int x2] h Q := by
  obtain ⟨d, rfl⟩ : ∃ e, d = e + 1 := ⟨d - 1, by omega⟩
  refine hq_M.enter (q := (⟨"TrainBearersModel", "stiles", "(II)I"⟩, _, 3, some .int, 11, 3, pm_c162)) rfl rfl ?_
  show hq_W X d 11 false (some .int) pm_c162 (0, [some (.ref 97), some (.int x1), some (.int x2)], [], h) Q
  refine hq_p rfl rfl ?_
  refine hq_p rfl rfl ?_
  refine hq_pFo S rfl rfl (by decide) rfl rfl ⟨_, rfl⟩ (fun h1 e1 S1 p1 q1 => ?_)
  refine hq_p rfl rfl ?_
  refine hq_inv 1 rfl (fun _ => rfl) rfl rfl rfl rfl ?_
  refine wp_151 (x1 := x1) (by omega) S1  ?_ ?_ ?_
  · intro c2
    refine ⟨by omega, by omega, ?_⟩
    refine hq_if rfl (fun c3 => ?_) (fun c3 => ?_)
    · refine hq_p rfl rfl ?_
      exact hq_W.ret rfl rfl rfl (k1 h1 e1 S1 p1 q1 c2 c3)
    · exact absurd c3 (by decide)
  · intro c4 c5
    refine ⟨by omega, by omega, ?_⟩
    refine hq_if rfl (fun c6 => ?_) (fun c6 => ?_)
    · refine hq_p rfl rfl ?_
      exact hq_W.ret rfl rfl rfl (k2 h1 e1 S1 p1 q1 c4 c5 c6)
    · exact absurd c6 (by decide)
  · intro c7 c8
    refine ⟨by omega, by omega, ?_⟩
    refine hq_if rfl (fun c9 => ?_) (fun c9 => ?_)
    · exact absurd c9 (by decide)
    · refine hq_p rfl rfl ?_
      refine hq_inv 1 rfl (fun _ => rfl) rfl rfl rfl rfl ?_
      refine wp_151 (x1 := x2) (by omega) S1  ?_ ?_ ?_
      · intro c10
        refine ⟨by omega, by omega, ?_⟩
        refine hq_if rfl (fun c11 => ?_) (fun c11 => ?_)
        · refine hq_p rfl rfl ?_
          exact hq_W.ret rfl rfl rfl (k3 h1 e1 S1 p1 q1 c7 c8 c9 c10 c11)
        · exact absurd c11 (by decide)
      · intro c12 c13
        refine ⟨by omega, by omega, ?_⟩
        refine hq_if rfl (fun c14 => ?_) (fun c14 => ?_)
        · refine hq_p rfl rfl ?_
          exact hq_W.ret rfl rfl rfl (k4 h1 e1 S1 p1 q1 c7 c8 c9 c12 c13 c14)
        · exact absurd c14 (by decide)
      · intro c15 c16
        refine ⟨by omega, by omega, ?_⟩
        refine hq_if rfl (fun c17 => ?_) (fun c17 => ?_)
        · exact absurd (c9.symm.trans c17) (by decide)
        · refine hq_p rfl rfl ?_
          refine hq_gR S1 rfl rfl (by decide) (by decide) rfl ?_
          refine hq_p rfl rfl ?_
          refine hq_p rfl rfl ?_
          refine hq_p rfl rfl ?_
          refine hq_p rfl rfl ?_
          refine hq_p rfl rfl ?_
          refine hq_p rfl rfl ?_
          refine hq_p rfl rfl ?_
          refine hq_aL S1 rfl rfl (by decide) (b1 h1 e1 S1 p1 q1 c7 c8 c9 c15 c16 c17).1 (b1 h1 e1 S1 p1 q1 c7 c8 c9 c15 c16 c17).2 ?_
          refine hq_p rfl rfl ?_
          exact hq_W.ret rfl rfl rfl (k5 h1 e1 S1 p1 q1 c7 c8 c9 c15 c16 c17)
theorem wp_163 {X : pm_X} {d : Nat} {h : pm_H} {Q : pm_H → Option Value → Prop} {x1 : Int32} {x2 : Int32} (hd : 2 ≤ d) (S : hs_Shape h)
    (b1 : ∀ h1, h1 = hs_sF h 97 11 0 (.int (Int32.ofInt 0)) → hs_Shape h1 → h1.1 = h.1 → h1.2.1 = h.2.1 → (pm_cmp0 .ne x1 = true) → (pm_cmp .ne x1 (Int32.ofInt 1) = true) → (pm_cmp .ne x1 (Int32.ofInt 2) = true) → (pm_cmp0 .ne (Int32.ofInt 0) = false) → (pm_cmp0 .ge (Int32.ofInt (-1)) = false) → ∀ h7, h7 = hs_sF h1 97 11 1 (.int (Int32.ofInt (-1))) → hs_Shape h7 → h7.1 = h1.1 → h7.2.1 = h1.2.1 → (pm_cmp0 .ge (Int32.ofInt (-1)) = false) → 0 ≤ ((-(Int32.ofInt (-1)))).toInt ∧ ((-(Int32.ofInt (-1)))).toInt < (7 : Nat))
    (b2 : ∀ h1, h1 = hs_sF h 97 11 0 (.int (Int32.ofInt 0)) → hs_Shape h1 → h1.1 = h.1 → h1.2.1 = h.2.1 → (pm_cmp0 .ne x1 = true) → (pm_cmp .ne x1 (Int32.ofInt 1) = true) → (pm_cmp .ne x1 (Int32.ofInt 2) = true) → (pm_cmp0 .ne (Int32.ofInt 0) = false) → (pm_cmp0 .ge (Int32.ofInt (-1)) = false) → ∀ h10, h10 = hs_sF h1 97 11 1 (.int (Int32.ofInt (-1))) → hs_Shape h10 → h10.1 = h1.1 → h10.2.1 = h1.2.1 → (pm_cmp0 .ge (Int32.ofInt (-1)) = false) → 0 ≤ ((-(Int32.ofInt (-1)))).toInt ∧ ((-(Int32.ofInt (-1)))).toInt < (7 : Nat))
    (b3 : ∀ h1, h1 = hs_sF h 97 11 0 (.int (Int32.ofInt 0)) → hs_Shape h1 → h1.1 = h.1 → h1.2.1 = h.2.1 → (pm_cmp0 .ne x1 = true) → (pm_cmp .ne x1 (Int32.ofInt 1) = true) → (pm_cmp .ne x1 (Int32.ofInt 2) = false) → (pm_cmp0 .lt (lg_cmp (x2).toInt64 (Int64.ofNat 0)) = true) → (pm_cmp0 .eq (Int32.ofInt 0) = true) → (pm_cmp0 .ne (Int32.ofInt 0) = false) → (pm_cmp0 .ge (Int32.ofInt (-1)) = false) → ∀ h23, h23 = hs_sF h1 97 11 1 (.int (Int32.ofInt (-1))) → hs_Shape h23 → h23.1 = h1.1 → h23.2.1 = h1.2.1 → (pm_cmp0 .ge (Int32.ofInt (-1)) = false) → 0 ≤ ((-(Int32.ofInt (-1)))).toInt ∧ ((-(Int32.ofInt (-1)))).toInt < (7 : Nat))
    (b4 : ∀ h1, h1 = hs_sF h 97 11 0 (.int (Int32.ofInt 0)) → hs_Shape h1 → h1.1 = h.1 → h1.2.1 = h.2.1 → (pm_cmp0 .ne x1 = true) → (pm_cmp .ne x1 (Int32.ofInt 1) = true) → (pm_cmp .ne x1 (Int32.ofInt 2) = false) → (pm_cmp0 .lt (lg_cmp (x2).toInt64 (Int64.ofNat 0)) = true) → (pm_cmp0 .eq (Int32.ofInt 0) = true) → (pm_cmp0 .ne (Int32.ofInt 0) = false) → (pm_cmp0 .ge (Int32.ofInt (-1)) = false) → ∀ h26, h26 = hs_sF h1 97 11 1 (.int (Int32.ofInt (-1))) → hs_Shape h26 → h26.1 = h1.1 → h26.2.1 = h1.2.1 → (pm_cmp0 .ge (Int32.ofInt (-1)) = false) → 0 ≤ ((-(Int32.ofInt (-1)))).toInt ∧ ((-(Int32.ofInt (-1)))).toInt < (7 : Nat))
    (b5 : ∀ h1, h1 = hs_sF h 97 11 0 (.int (Int32.ofInt 0)) → hs_Shape h1 → h1.1 = h.1 → h1.2.1 = h.2.1 → (pm_cmp0 .ne x1 = true) → (pm_cmp .ne x1 (Int32.ofInt 1) = true) → (pm_cmp .ne x1 (Int32.ofInt 2) = false) → (pm_cmp0 .lt (lg_cmp (x2).toInt64 (Int64.ofNat 0)) = false) → (pm_cmp0 .gt (lg_cmp (x2).toInt64 (9 : Int64)) = true) → (pm_cmp0 .eq (Int32.ofInt 0) = true) → (pm_cmp0 .ne (Int32.ofInt 0) = false) → (pm_cmp0 .ge (Int32.ofInt (-1)) = false) → ∀ h40, h40 = hs_sF h1 97 11 1 (.int (Int32.ofInt (-1))) → hs_Shape h40 → h40.1 = h1.1 → h40.2.1 = h1.2.1 → (pm_cmp0 .ge (Int32.ofInt (-1)) = false) → 0 ≤ ((-(Int32.ofInt (-1)))).toInt ∧ ((-(Int32.ofInt (-1)))).toInt < (7 : Nat))
    (b6 : ∀ h1, h1 = hs_sF h 97 11 0 (.int (Int32.ofInt 0)) → hs_Shape h1 → h1.1 = h.1 → h1.2.1 = h.2.1 → (pm_cmp0 .ne x1 = true) → (pm_cmp .ne x1 (Int32.ofInt 1) = true) → (pm_cmp .ne x1 (Int32.ofInt 2) = false) → (pm_cmp0 .lt (lg_cmp (x2).toInt64 (Int64.ofNat 0)) = false) → (pm_cmp0 .gt (lg_cmp (x2).toInt64 (9 : Int64)) = true) → (pm_cmp0 .eq (Int32.ofInt 0) = true) → (pm_cmp0 .ne (Int32.ofInt 0) = false) → (pm_cmp0 .ge (Int32.ofInt (-1)) = false) → ∀ h43, h43 = hs_sF h1 97 11 1 (.int (Int32.ofInt (-1))) → hs_Shape h43 → h43.1 = h1.1 → h43.2.1 = h1.2.1 → (pm_cmp0 .ge (Int32.ofInt (-1)) = false) → 0 ≤ ((-(Int32.ofInt (-1)))).toInt ∧ ((-(Int32.ofInt (-1)))).toInt < (7 : Nat))
    (b7 : ∀ h1, h1 = hs_sF h 97 11 0 (.int (Int32.ofInt 0)) → hs_Shape h1 → h1.1 = h.1 → h1.2.1 = h.2.1 → (pm_cmp0 .ne x1 = true) → (pm_cmp .ne x1 (Int32.ofInt 1) = true) → (pm_cmp .ne x1 (Int32.ofInt 2) = false) → (pm_cmp0 .lt (lg_cmp (x2).toInt64 (Int64.ofNat 0)) = false) → (pm_cmp0 .gt (lg_cmp (x2).toInt64 (9 : Int64)) = false) → (pm_cmp0 .eq (Int32.ofInt 1) = false) → (pm_cmp0 .ne (Int32.ofInt 1) = true) → ∀ h56, h56 = hs_sF h1 97 11 8 (.int (Int32.ofInt 0)) → hs_Shape h56 → h56.1 = h1.1 → h56.2.1 = h1.2.1 → 0 ≤ (((Int32.ofInt 5) + x1)).toInt ∧ (((Int32.ofInt 5) + x1)).toInt < (5498 : Nat))
    (b8 : ∀ h1, h1 = hs_sF h 97 11 0 (.int (Int32.ofInt 0)) → hs_Shape h1 → h1.1 = h.1 → h1.2.1 = h.2.1 → (pm_cmp0 .ne x1 = true) → (pm_cmp .ne x1 (Int32.ofInt 1) = true) → (pm_cmp .ne x1 (Int32.ofInt 2) = false) → (pm_cmp0 .lt (lg_cmp (x2).toInt64 (Int64.ofNat 0)) = false) → (pm_cmp0 .gt (lg_cmp (x2).toInt64 (9 : Int64)) = false) → (pm_cmp0 .eq (Int32.ofInt 1) = false) → (pm_cmp0 .ne (Int32.ofInt 1) = true) → ∀ h56, h56 = hs_sF h1 97 11 8 (.int (Int32.ofInt 0)) → hs_Shape h56 → h56.1 = h1.1 → h56.2.1 = h1.2.1 → 0 ≤ (((Int32.ofInt 5) + x1)).toInt ∧ (((Int32.ofInt 5) + x1)).toInt < (5498 : Nat))
    (b9 : ∀ h1, h1 = hs_sF h 97 11 0 (.int (Int32.ofInt 0)) → hs_Shape h1 → h1.1 = h.1 → h1.2.1 = h.2.1 → (pm_cmp0 .ne x1 = true) → (pm_cmp .ne x1 (Int32.ofInt 1) = false) → (pm_cmp0 .lt (lg_cmp (x2).toInt64 (Int64.ofNat 0)) = true) → (pm_cmp0 .ne (Int32.ofInt 0) = false) → (pm_cmp0 .ge (Int32.ofInt (-1)) = false) → ∀ h62, h62 = hs_sF h1 97 11 1 (.int (Int32.ofInt (-1))) → hs_Shape h62 → h62.1 = h1.1 → h62.2.1 = h1.2.1 → (pm_cmp0 .ge (Int32.ofInt (-1)) = false) → 0 ≤ ((-(Int32.ofInt (-1)))).toInt ∧ ((-(Int32.ofInt (-1)))).toInt < (7 : Nat))
    (b10 : ∀ h1, h1 = hs_sF h 97 11 0 (.int (Int32.ofInt 0)) → hs_Shape h1 → h1.1 = h.1 → h1.2.1 = h.2.1 → (pm_cmp0 .ne x1 = true) → (pm_cmp .ne x1 (Int32.ofInt 1) = false) → (pm_cmp0 .lt (lg_cmp (x2).toInt64 (Int64.ofNat 0)) = true) → (pm_cmp0 .ne (Int32.ofInt 0) = false) → (pm_cmp0 .ge (Int32.ofInt (-1)) = false) → ∀ h65, h65 = hs_sF h1 97 11 1 (.int (Int32.ofInt (-1))) → hs_Shape h65 → h65.1 = h1.1 → h65.2.1 = h1.2.1 → (pm_cmp0 .ge (Int32.ofInt (-1)) = false) → 0 ≤ ((-(Int32.ofInt (-1)))).toInt ∧ ((-(Int32.ofInt (-1)))).toInt < (7 : Nat))
    (b11 : ∀ h1, h1 = hs_sF h 97 11 0 (.int (Int32.ofInt 0)) → hs_Shape h1 → h1.1 = h.1 → h1.2.1 = h.2.1 → (pm_cmp0 .ne x1 = true) → (pm_cmp .ne x1 (Int32.ofInt 1) = false) → (pm_cmp0 .lt (lg_cmp (x2).toInt64 (Int64.ofNat 0)) = false) → (pm_cmp0 .gt (lg_cmp (x2).toInt64 (10 : Int64)) = true) → (pm_cmp0 .ne (Int32.ofInt 0) = false) → (pm_cmp0 .ge (Int32.ofInt (-1)) = false) → ∀ h78, h78 = hs_sF h1 97 11 1 (.int (Int32.ofInt (-1))) → hs_Shape h78 → h78.1 = h1.1 → h78.2.1 = h1.2.1 → (pm_cmp0 .ge (Int32.ofInt (-1)) = false) → 0 ≤ ((-(Int32.ofInt (-1)))).toInt ∧ ((-(Int32.ofInt (-1)))).toInt < (7 : Nat))
    (b12 : ∀ h1, h1 = hs_sF h 97 11 0 (.int (Int32.ofInt 0)) → hs_Shape h1 → h1.1 = h.1 → h1.2.1 = h.2.1 → (pm_cmp0 .ne x1 = true) → (pm_cmp .ne x1 (Int32.ofInt 1) = false) → (pm_cmp0 .lt (lg_cmp (x2).toInt64 (Int64.ofNat 0)) = false) → (pm_cmp0 .gt (lg_cmp (x2).toInt64 (10 : Int64)) = true) → (pm_cmp0 .ne (Int32.ofInt 0) = false) → (pm_cmp0 .ge (Int32.ofInt (-1)) = false) → ∀ h81, h81 = hs_sF h1 97 11 1 (.int (Int32.ofInt (-1))) → hs_Shape h81 → h81.1 = h1.1 → h81.2.1 = h1.2.1 → (pm_cmp0 .ge (Int32.ofInt (-1)) = false) → 0 ≤ ((-(Int32.ofInt (-1)))).toInt ∧ ((-(Int32.ofInt (-1)))).toInt < (7 : Nat))
    (b13 : ∀ h1, h1 = hs_sF h 97 11 0 (.int (Int32.ofInt 0)) → hs_Shape h1 → h1.1 = h.1 → h1.2.1 = h.2.1 → (pm_cmp0 .ne x1 = true) → (pm_cmp .ne x1 (Int32.ofInt 1) = false) → (pm_cmp0 .lt (lg_cmp (x2).toInt64 (Int64.ofNat 0)) = false) → (pm_cmp0 .gt (lg_cmp (x2).toInt64 (10 : Int64)) = false) → (pm_cmp0 .ne (Int32.ofInt 1) = true) → ∀ h93, h93 = hs_sF h1 97 11 8 (.int (Int32.ofInt 0)) → hs_Shape h93 → h93.1 = h1.1 → h93.2.1 = h1.2.1 → 0 ≤ (((Int32.ofInt 5) + x1)).toInt ∧ (((Int32.ofInt 5) + x1)).toInt < (5498 : Nat))
    (b14 : ∀ h1, h1 = hs_sF h 97 11 0 (.int (Int32.ofInt 0)) → hs_Shape h1 → h1.1 = h.1 → h1.2.1 = h.2.1 → (pm_cmp0 .ne x1 = true) → (pm_cmp .ne x1 (Int32.ofInt 1) = false) → (pm_cmp0 .lt (lg_cmp (x2).toInt64 (Int64.ofNat 0)) = false) → (pm_cmp0 .gt (lg_cmp (x2).toInt64 (10 : Int64)) = false) → (pm_cmp0 .ne (Int32.ofInt 1) = true) → ∀ h93, h93 = hs_sF h1 97 11 8 (.int (Int32.ofInt 0)) → hs_Shape h93 → h93.1 = h1.1 → h93.2.1 = h1.2.1 → 0 ≤ (((Int32.ofInt 5) + x1)).toInt ∧ (((Int32.ofInt 5) + x1)).toInt < (5498 : Nat))
    (b15 : ∀ h1, h1 = hs_sF h 97 11 0 (.int (Int32.ofInt 0)) → hs_Shape h1 → h1.1 = h.1 → h1.2.1 = h.2.1 → (pm_cmp0 .ne x1 = false) → (pm_cmp0 .lt (lg_cmp (x2).toInt64 (Int64.ofNat 0)) = true) → (pm_cmp0 .ne (Int32.ofInt 0) = false) → (pm_cmp0 .ge (Int32.ofInt (-1)) = false) → ∀ h99, h99 = hs_sF h1 97 11 1 (.int (Int32.ofInt (-1))) → hs_Shape h99 → h99.1 = h1.1 → h99.2.1 = h1.2.1 → (pm_cmp0 .ge (Int32.ofInt (-1)) = false) → 0 ≤ ((-(Int32.ofInt (-1)))).toInt ∧ ((-(Int32.ofInt (-1)))).toInt < (7 : Nat))
    (b16 : ∀ h1, h1 = hs_sF h 97 11 0 (.int (Int32.ofInt 0)) → hs_Shape h1 → h1.1 = h.1 → h1.2.1 = h.2.1 → (pm_cmp0 .ne x1 = false) → (pm_cmp0 .lt (lg_cmp (x2).toInt64 (Int64.ofNat 0)) = true) → (pm_cmp0 .ne (Int32.ofInt 0) = false) → (pm_cmp0 .ge (Int32.ofInt (-1)) = false) → ∀ h102, h102 = hs_sF h1 97 11 1 (.int (Int32.ofInt (-1))) → hs_Shape h102 → h102.1 = h1.1 → h102.2.1 = h1.2.1 → (pm_cmp0 .ge (Int32.ofInt (-1)) = false) → 0 ≤ ((-(Int32.ofInt (-1)))).toInt ∧ ((-(Int32.ofInt (-1)))).toInt < (7 : Nat))
    (b17 : ∀ h1, h1 = hs_sF h 97 11 0 (.int (Int32.ofInt 0)) → hs_Shape h1 → h1.1 = h.1 → h1.2.1 = h.2.1 → (pm_cmp0 .ne x1 = false) → (pm_cmp0 .lt (lg_cmp (x2).toInt64 (Int64.ofNat 0)) = false) → (pm_cmp0 .gt (lg_cmp (x2).toInt64 (999 : Int64)) = true) → (pm_cmp0 .ne (Int32.ofInt 0) = false) → (pm_cmp0 .ge (Int32.ofInt (-1)) = false) → ∀ h115, h115 = hs_sF h1 97 11 1 (.int (Int32.ofInt (-1))) → hs_Shape h115 → h115.1 = h1.1 → h115.2.1 = h1.2.1 → (pm_cmp0 .ge (Int32.ofInt (-1)) = false) → 0 ≤ ((-(Int32.ofInt (-1)))).toInt ∧ ((-(Int32.ofInt (-1)))).toInt < (7 : Nat))
    (b18 : ∀ h1, h1 = hs_sF h 97 11 0 (.int (Int32.ofInt 0)) → hs_Shape h1 → h1.1 = h.1 → h1.2.1 = h.2.1 → (pm_cmp0 .ne x1 = false) → (pm_cmp0 .lt (lg_cmp (x2).toInt64 (Int64.ofNat 0)) = false) → (pm_cmp0 .gt (lg_cmp (x2).toInt64 (999 : Int64)) = true) → (pm_cmp0 .ne (Int32.ofInt 0) = false) → (pm_cmp0 .ge (Int32.ofInt (-1)) = false) → ∀ h118, h118 = hs_sF h1 97 11 1 (.int (Int32.ofInt (-1))) → hs_Shape h118 → h118.1 = h1.1 → h118.2.1 = h1.2.1 → (pm_cmp0 .ge (Int32.ofInt (-1)) = false) → 0 ≤ ((-(Int32.ofInt (-1)))).toInt ∧ ((-(Int32.ofInt (-1)))).toInt < (7 : Nat))
    (b19 : ∀ h1, h1 = hs_sF h 97 11 0 (.int (Int32.ofInt 0)) → hs_Shape h1 → h1.1 = h.1 → h1.2.1 = h.2.1 → (pm_cmp0 .ne x1 = false) → (pm_cmp0 .lt (lg_cmp (x2).toInt64 (Int64.ofNat 0)) = false) → (pm_cmp0 .gt (lg_cmp (x2).toInt64 (999 : Int64)) = false) → (pm_cmp0 .ne (Int32.ofInt 1) = true) → ∀ h130, h130 = hs_sF h1 97 11 8 (.int (Int32.ofInt 0)) → hs_Shape h130 → h130.1 = h1.1 → h130.2.1 = h1.2.1 → 0 ≤ (((Int32.ofInt 5) + x1)).toInt ∧ (((Int32.ofInt 5) + x1)).toInt < (5498 : Nat))
    (b20 : ∀ h1, h1 = hs_sF h 97 11 0 (.int (Int32.ofInt 0)) → hs_Shape h1 → h1.1 = h.1 → h1.2.1 = h.2.1 → (pm_cmp0 .ne x1 = false) → (pm_cmp0 .lt (lg_cmp (x2).toInt64 (Int64.ofNat 0)) = false) → (pm_cmp0 .gt (lg_cmp (x2).toInt64 (999 : Int64)) = false) → (pm_cmp0 .ne (Int32.ofInt 1) = true) → ∀ h130, h130 = hs_sF h1 97 11 8 (.int (Int32.ofInt 0)) → hs_Shape h130 → h130.1 = h1.1 → h130.2.1 = h1.2.1 → 0 ≤ (((Int32.ofInt 5) + x1)).toInt ∧ (((Int32.ofInt 5) + x1)).toInt < (5498 : Nat))
    (k1 : ∀ h1, h1 = hs_sF h 97 11 0 (.int (Int32.ofInt 0)) → hs_Shape h1 → h1.1 = h.1 → h1.2.1 = h.2.1 → (pm_cmp0 .ne x1 = true) → (pm_cmp .ne x1 (Int32.ofInt 1) = true) → (pm_cmp .ne x1 (Int32.ofInt 2) = true) → (pm_cmp0 .ne (Int32.ofInt 0) = false) → (pm_cmp0 .ge (Int32.ofInt (-1)) = false) → ∀ h16, h16 = hs_sF h1 97 11 1 (.int (Int32.ofInt (-1))) → hs_Shape h16 → h16.1 = h1.1 → h16.2.1 = h1.2.1 → (pm_cmp0 .ge (Int32.ofInt (-1)) = false) → ∀ h18, h18 = hs_sA h16 98 0 7 ((-(Int32.ofInt (-1)))).toNatClampNeg ((hs_aI h16 98 ((-(Int32.ofInt (-1)))).toNatClampNeg) + (Int32.ofInt 1)) → hs_Shape h18 → h18.1 = h16.1 → h18.2.1 = h16.2.1 → Q h18 (some (.int (Int32.ofInt (-1)))))
    (k2 : ∀ h1, h1 = hs_sF h 97 11 0 (.int (Int32.ofInt 0)) → hs_Shape h1 → h1.1 = h.1 → h1.2.1 = h.2.1 → (pm_cmp0 .ne x1 = true) → (pm_cmp .ne x1 (Int32.ofInt 1) = true) → (pm_cmp .ne x1 (Int32.ofInt 2) = false) → (pm_cmp0 .lt (lg_cmp (x2).toInt64 (Int64.ofNat 0)) = true) → (pm_cmp0 .eq (Int32.ofInt 0) = true) → (pm_cmp0 .ne (Int32.ofInt 0) = false) → (pm_cmp0 .ge (Int32.ofInt (-1)) = false) → ∀ h32, h32 = hs_sF h1 97 11 1 (.int (Int32.ofInt (-1))) → hs_Shape h32 → h32.1 = h1.1 → h32.2.1 = h1.2.1 → (pm_cmp0 .ge (Int32.ofInt (-1)) = false) → ∀ h34, h34 = hs_sA h32 98 0 7 ((-(Int32.ofInt (-1)))).toNatClampNeg ((hs_aI h32 98 ((-(Int32.ofInt (-1)))).toNatClampNeg) + (Int32.ofInt 1)) → hs_Shape h34 → h34.1 = h32.1 → h34.2.1 = h32.2.1 → Q h34 (some (.int (Int32.ofInt (-1)))))
    (k3 : ∀ h1, h1 = hs_sF h 97 11 0 (.int (Int32.ofInt 0)) → hs_Shape h1 → h1.1 = h.1 → h1.2.1 = h.2.1 → (pm_cmp0 .ne x1 = true) → (pm_cmp .ne x1 (Int32.ofInt 1) = true) → (pm_cmp .ne x1 (Int32.ofInt 2) = false) → (pm_cmp0 .lt (lg_cmp (x2).toInt64 (Int64.ofNat 0)) = false) → (pm_cmp0 .gt (lg_cmp (x2).toInt64 (9 : Int64)) = true) → (pm_cmp0 .eq (Int32.ofInt 0) = true) → (pm_cmp0 .ne (Int32.ofInt 0) = false) → (pm_cmp0 .ge (Int32.ofInt (-1)) = false) → ∀ h49, h49 = hs_sF h1 97 11 1 (.int (Int32.ofInt (-1))) → hs_Shape h49 → h49.1 = h1.1 → h49.2.1 = h1.2.1 → (pm_cmp0 .ge (Int32.ofInt (-1)) = false) → ∀ h51, h51 = hs_sA h49 98 0 7 ((-(Int32.ofInt (-1)))).toNatClampNeg ((hs_aI h49 98 ((-(Int32.ofInt (-1)))).toNatClampNeg) + (Int32.ofInt 1)) → hs_Shape h51 → h51.1 = h49.1 → h51.2.1 = h49.2.1 → Q h51 (some (.int (Int32.ofInt (-1)))))
    (k4 : ∀ h1, h1 = hs_sF h 97 11 0 (.int (Int32.ofInt 0)) → hs_Shape h1 → h1.1 = h.1 → h1.2.1 = h.2.1 → (pm_cmp0 .ne x1 = true) → (pm_cmp .ne x1 (Int32.ofInt 1) = true) → (pm_cmp .ne x1 (Int32.ofInt 2) = false) → (pm_cmp0 .lt (lg_cmp (x2).toInt64 (Int64.ofNat 0)) = false) → (pm_cmp0 .gt (lg_cmp (x2).toInt64 (9 : Int64)) = false) → (pm_cmp0 .eq (Int32.ofInt 1) = false) → (pm_cmp0 .ne (Int32.ofInt 1) = true) → ∀ h56, h56 = hs_sF h1 97 11 8 (.int (Int32.ofInt 0)) → hs_Shape h56 → h56.1 = h1.1 → h56.2.1 = h1.2.1 → ∀ h57, h57 = hs_sA h56 99 0 5498 (((Int32.ofInt 5) + x1)).toNatClampNeg x2 → hs_Shape h57 → h57.1 = h56.1 → h57.2.1 = h56.2.1 → ∀ h58, h58 = hs_sF h57 97 11 1 (.int (Int32.ofInt 0)) → hs_Shape h58 → h58.1 = h57.1 → h58.2.1 = h57.2.1 → Q h58 (some (.int (hs_aI h56 99 (((Int32.ofInt 5) + x1)).toNatClampNeg))))
    (k5 : ∀ h1, h1 = hs_sF h 97 11 0 (.int (Int32.ofInt 0)) → hs_Shape h1 → h1.1 = h.1 → h1.2.1 = h.2.1 → (pm_cmp0 .ne x1 = true) → (pm_cmp .ne x1 (Int32.ofInt 1) = false) → (pm_cmp0 .lt (lg_cmp (x2).toInt64 (Int64.ofNat 0)) = true) → (pm_cmp0 .ne (Int32.ofInt 0) = false) → (pm_cmp0 .ge (Int32.ofInt (-1)) = false) → ∀ h71, h71 = hs_sF h1 97 11 1 (.int (Int32.ofInt (-1))) → hs_Shape h71 → h71.1 = h1.1 → h71.2.1 = h1.2.1 → (pm_cmp0 .ge (Int32.ofInt (-1)) = false) → ∀ h73, h73 = hs_sA h71 98 0 7 ((-(Int32.ofInt (-1)))).toNatClampNeg ((hs_aI h71 98 ((-(Int32.ofInt (-1)))).toNatClampNeg) + (Int32.ofInt 1)) → hs_Shape h73 → h73.1 = h71.1 → h73.2.1 = h71.2.1 → Q h73 (some (.int (Int32.ofInt (-1)))))
    (k6 : ∀ h1, h1 = hs_sF h 97 11 0 (.int (Int32.ofInt 0)) → hs_Shape h1 → h1.1 = h.1 → h1.2.1 = h.2.1 → (pm_cmp0 .ne x1 = true) → (pm_cmp .ne x1 (Int32.ofInt 1) = false) → (pm_cmp0 .lt (lg_cmp (x2).toInt64 (Int64.ofNat 0)) = false) → (pm_cmp0 .gt (lg_cmp (x2).toInt64 (10 : Int64)) = true) → (pm_cmp0 .ne (Int32.ofInt 0) = false) → (pm_cmp0 .ge (Int32.ofInt (-1)) = false) → ∀ h87, h87 = hs_sF h1 97 11 1 (.int (Int32.ofInt (-1))) → hs_Shape h87 → h87.1 = h1.1 → h87.2.1 = h1.2.1 → (pm_cmp0 .ge (Int32.ofInt (-1)) = false) → ∀ h89, h89 = hs_sA h87 98 0 7 ((-(Int32.ofInt (-1)))).toNatClampNeg ((hs_aI h87 98 ((-(Int32.ofInt (-1)))).toNatClampNeg) + (Int32.ofInt 1)) → hs_Shape h89 → h89.1 = h87.1 → h89.2.1 = h87.2.1 → Q h89 (some (.int (Int32.ofInt (-1)))))
    (k7 : ∀ h1, h1 = hs_sF h 97 11 0 (.int (Int32.ofInt 0)) → hs_Shape h1 → h1.1 = h.1 → h1.2.1 = h.2.1 → (pm_cmp0 .ne x1 = true) → (pm_cmp .ne x1 (Int32.ofInt 1) = false) → (pm_cmp0 .lt (lg_cmp (x2).toInt64 (Int64.ofNat 0)) = false) → (pm_cmp0 .gt (lg_cmp (x2).toInt64 (10 : Int64)) = false) → (pm_cmp0 .ne (Int32.ofInt 1) = true) → ∀ h93, h93 = hs_sF h1 97 11 8 (.int (Int32.ofInt 0)) → hs_Shape h93 → h93.1 = h1.1 → h93.2.1 = h1.2.1 → ∀ h94, h94 = hs_sA h93 99 0 5498 (((Int32.ofInt 5) + x1)).toNatClampNeg x2 → hs_Shape h94 → h94.1 = h93.1 → h94.2.1 = h93.2.1 → ∀ h95, h95 = hs_sF h94 97 11 1 (.int (Int32.ofInt 0)) → hs_Shape h95 → h95.1 = h94.1 → h95.2.1 = h94.2.1 → Q h95 (some (.int (hs_aI h93 99 (((Int32.ofInt 5) + x1)).toNatClampNeg))))
    (k8 : ∀ h1, h1 = hs_sF h 97 11 0 (.int (Int32.ofInt 0)) → hs_Shape h1 → h1.1 = h.1 → h1.2.1 = h.2.1 → (pm_cmp0 .ne x1 = false) → (pm_cmp0 .lt (lg_cmp (x2).toInt64 (Int64.ofNat 0)) = true) → (pm_cmp0 .ne (Int32.ofInt 0) = false) → (pm_cmp0 .ge (Int32.ofInt (-1)) = false) → ∀ h108, h108 = hs_sF h1 97 11 1 (.int (Int32.ofInt (-1))) → hs_Shape h108 → h108.1 = h1.1 → h108.2.1 = h1.2.1 → (pm_cmp0 .ge (Int32.ofInt (-1)) = false) → ∀ h110, h110 = hs_sA h108 98 0 7 ((-(Int32.ofInt (-1)))).toNatClampNeg ((hs_aI h108 98 ((-(Int32.ofInt (-1)))).toNatClampNeg) + (Int32.ofInt 1)) → hs_Shape h110 → h110.1 = h108.1 → h110.2.1 = h108.2.1 → Q h110 (some (.int (Int32.ofInt (-1)))))
    (k9 : ∀ h1, h1 = hs_sF h 97 11 0 (.int (Int32.ofInt 0)) → hs_Shape h1 → h1.1 = h.1 → h1.2.1 = h.2.1 → (pm_cmp0 .ne x1 = false) → (pm_cmp0 .lt (lg_cmp (x2).toInt64 (Int64.ofNat 0)) = false) → (pm_cmp0 .gt (lg_cmp (x2).toInt64 (999 : Int64)) = true) → (pm_cmp0 .ne (Int32.ofInt 0) = false) → (pm_cmp0 .ge (Int32.ofInt (-1)) = false) → ∀ h124, h124 = hs_sF h1 97 11 1 (.int (Int32.ofInt (-1))) → hs_Shape h124 → h124.1 = h1.1 → h124.2.1 = h1.2.1 → (pm_cmp0 .ge (Int32.ofInt (-1)) = false) → ∀ h126, h126 = hs_sA h124 98 0 7 ((-(Int32.ofInt (-1)))).toNatClampNeg ((hs_aI h124 98 ((-(Int32.ofInt (-1)))).toNatClampNeg) + (Int32.ofInt 1)) → hs_Shape h126 → h126.1 = h124.1 → h126.2.1 = h124.2.1 → Q h126 (some (.int (Int32.ofInt (-1)))))
    (k10 : ∀ h1, h1 = hs_sF h 97 11 0 (.int (Int32.ofInt 0)) → hs_Shape h1 → h1.1 = h.1 → h1.2.1 = h.2.1 → (pm_cmp0 .ne x1 = false) → (pm_cmp0 .lt (lg_cmp (x2).toInt64 (Int64.ofNat 0)) = false) → (pm_cmp0 .gt (lg_cmp (x2).toInt64 (999 : Int64)) = false) → (pm_cmp0 .ne (Int32.ofInt 1) = true) → ∀ h130, h130 = hs_sF h1 97 11 8 (.int (Int32.ofInt 0)) → hs_Shape h130 → h130.1 = h1.1 → h130.2.1 = h1.2.1 → ∀ h131, h131 = hs_sA h130 99 0 5498 (((Int32.ofInt 5) + x1)).toNatClampNeg x2 → hs_Shape h131 → h131.1 = h130.1 → h131.2.1 = h130.2.1 → ∀ h132, h132 = hs_sF h131 97 11 1 (.int (Int32.ofInt 0)) → hs_Shape h132 → h132.1 = h131.1 → h132.2.1 = h131.2.1 → Q h132 (some (.int (hs_aI h130 99 (((Int32.ofInt 5) + x1)).toNatClampNeg))))
    : hq_M X d 163 [.ref 97, .int x1, .int x2] h Q := by
  obtain ⟨d, rfl⟩ : ∃ e, d = e + 1 := ⟨d - 1, by omega⟩
  refine hq_M.enter (q := (⟨"TrainBearersModel", "terms", "(II)I"⟩, _, 4, some .int, 11, 3, pm_c163)) rfl rfl ?_
  show hq_W X d 11 false (some .int) pm_c163 (0, [some (.ref 97), some (.int x1), some (.int x2), none], [], h) Q
  refine hq_p rfl rfl ?_
  refine hq_p rfl rfl ?_
  refine hq_pFo S rfl rfl (by decide) rfl rfl ⟨_, rfl⟩ (fun h1 e1 S1 p1 q1 => ?_)
  refine hq_p rfl rfl ?_
  refine hq_if rfl (fun c2 => ?_) (fun c2 => ?_)
  · refine hq_p rfl rfl ?_
    refine hq_p rfl rfl ?_
    refine hq_ifi rfl (fun c3 => ?_) (fun c3 => ?_)
    · refine hq_p rfl rfl ?_
      refine hq_p rfl rfl ?_
      refine hq_ifi rfl (fun c4 => ?_) (fun c4 => ?_)
      · refine hq_p rfl rfl ?_
        refine hq_p rfl rfl ?_
        refine hq_p rfl rfl ?_
        refine hq_if rfl (fun c5 => ?_) (fun c5 => ?_)
        · exact absurd c5 (by decide)
        · refine hq_p rfl rfl ?_
          refine hq_p rfl rfl ?_
          refine hq_inv 0 rfl (fun _ => rfl) rfl rfl rfl (hq_pre_o S1 (x := 97) (ci := 11) rfl (by decide) rfl rfl rfl rfl) ?_
          refine wp_140 (x1 := (Int32.ofInt (-1))) (by omega) S1 (fun c6 h7 e7 S7 p7 q7 c8 => b1 h1 e1 S1 p1 q1 c2 c3 c4 c5 c6 h7 e7 S7 p7 q7 c8) (fun c9 h10 e10 S10 p10 q10 c11 => b2 h1 e1 S1 p1 q1 c2 c3 c4 c5 c9 h10 e10 S10 p10 q10 c11) ?_ ?_
          · intro c12 h13 e13 S13 p13 q13 c14
            exact absurd c12 (by decide)
          · intro c15 h16 e16 S16 p16 q16 c17 h18 e18 S18 p18 q18
            refine ⟨by omega, by omega, ?_⟩
            exact hq_W.ret rfl rfl rfl (k1 h1 e1 S1 p1 q1 c2 c3 c4 c5 c15 h16 e16 S16 p16 q16 c17 h18 e18 S18 p18 q18)
      · refine hq_p rfl rfl ?_
        refine hq_p rfl rfl ?_
        refine hq_p rfl rfl ?_
        refine hq_p rfl rfl ?_
        refine hq_inv 1 rfl (fun _ => rfl) rfl rfl rfl rfl ?_
        refine wp_136 (x1 := (x2).toInt64) (x2 := (Int64.ofNat 0)) (x3 := (9 : Int64)) (by omega) S1  ?_ ?_ ?_
        · intro c19
          refine ⟨by omega, by omega, ?_⟩
          refine hq_if rfl (fun c20 => ?_) (fun c20 => ?_)
          · refine hq_p rfl rfl ?_
            refine hq_p rfl rfl ?_
            refine hq_p rfl rfl ?_
            refine hq_if rfl (fun c21 => ?_) (fun c21 => ?_)
            · exact absurd c21 (by decide)
            · refine hq_p rfl rfl ?_
              refine hq_p rfl rfl ?_
              refine hq_inv 0 rfl (fun _ => rfl) rfl rfl rfl (hq_pre_o S1 (x := 97) (ci := 11) rfl (by decide) rfl rfl rfl rfl) ?_
              refine wp_140 (x1 := (Int32.ofInt (-1))) (by omega) S1 (fun c22 h23 e23 S23 p23 q23 c24 => b3 h1 e1 S1 p1 q1 c2 c3 c4 c19 c20 c21 c22 h23 e23 S23 p23 q23 c24) (fun c25 h26 e26 S26 p26 q26 c27 => b4 h1 e1 S1 p1 q1 c2 c3 c4 c19 c20 c21 c25 h26 e26 S26 p26 q26 c27) ?_ ?_
              · intro c28 h29 e29 S29 p29 q29 c30
                exact absurd c28 (by decide)
              · intro c31 h32 e32 S32 p32 q32 c33 h34 e34 S34 p34 q34
                refine ⟨by omega, by omega, ?_⟩
                exact hq_W.ret rfl rfl rfl (k2 h1 e1 S1 p1 q1 c2 c3 c4 c19 c20 c21 c31 h32 e32 S32 p32 q32 c33 h34 e34 S34 p34 q34)
          · exact absurd c20 (by decide)
        · intro c35 c36
          refine ⟨by omega, by omega, ?_⟩
          refine hq_if rfl (fun c37 => ?_) (fun c37 => ?_)
          · refine hq_p rfl rfl ?_
            refine hq_p rfl rfl ?_
            refine hq_p rfl rfl ?_
            refine hq_if rfl (fun c38 => ?_) (fun c38 => ?_)
            · exact absurd c38 (by decide)
            · refine hq_p rfl rfl ?_
              refine hq_p rfl rfl ?_
              refine hq_inv 0 rfl (fun _ => rfl) rfl rfl rfl (hq_pre_o S1 (x := 97) (ci := 11) rfl (by decide) rfl rfl rfl rfl) ?_
              refine wp_140 (x1 := (Int32.ofInt (-1))) (by omega) S1 (fun c39 h40 e40 S40 p40 q40 c41 => b5 h1 e1 S1 p1 q1 c2 c3 c4 c35 c36 c37 c38 c39 h40 e40 S40 p40 q40 c41) (fun c42 h43 e43 S43 p43 q43 c44 => b6 h1 e1 S1 p1 q1 c2 c3 c4 c35 c36 c37 c38 c42 h43 e43 S43 p43 q43 c44) ?_ ?_
              · intro c45 h46 e46 S46 p46 q46 c47
                exact absurd c45 (by decide)
              · intro c48 h49 e49 S49 p49 q49 c50 h51 e51 S51 p51 q51
                refine ⟨by omega, by omega, ?_⟩
                exact hq_W.ret rfl rfl rfl (k3 h1 e1 S1 p1 q1 c2 c3 c4 c35 c36 c37 c38 c48 h49 e49 S49 p49 q49 c50 h51 e51 S51 p51 q51)
          · exact absurd c37 (by decide)
        · intro c52 c53
          refine ⟨by omega, by omega, ?_⟩
          refine hq_if rfl (fun c54 => ?_) (fun c54 => ?_)
          · exact absurd c54 (by decide)
          · refine hq_p rfl rfl ?_
            refine hq_p rfl rfl ?_
            refine hq_p rfl rfl ?_
            refine hq_p rfl rfl ?_
            refine hq_if rfl (fun c55 => ?_) (fun c55 => ?_)
            · refine hq_p rfl rfl ?_
              refine hq_p rfl rfl ?_
              refine hq_pFo S1 rfl rfl (by decide) rfl rfl ⟨_, rfl⟩ (fun h56 e56 S56 p56 q56 => ?_)
              refine hq_p rfl rfl ?_
              refine hq_p rfl rfl ?_
              refine hq_p rfl rfl ?_
              refine hq_p rfl rfl ?_
              refine hq_p rfl rfl ?_
              refine hq_inv 0 rfl (fun _ => rfl) rfl rfl rfl (hq_pre_o S56 (x := 97) (ci := 11) rfl (by decide) rfl rfl rfl rfl) ?_
              refine wp_141 (x1 := ((Int32.ofInt 5) + x1)) (x2 := x2) (by omega) S56 (b7 h1 e1 S1 p1 q1 c2 c3 c4 c52 c53 c54 c55 h56 e56 S56 p56 q56) (b8 h1 e1 S1 p1 q1 c2 c3 c4 c52 c53 c54 c55 h56 e56 S56 p56 q56) ?_
              · intro h57 e57 S57 p57 q57 h58 e58 S58 p58 q58
                refine ⟨by omega, by omega, ?_⟩
                exact hq_W.ret rfl rfl rfl (k4 h1 e1 S1 p1 q1 c2 c3 c4 c52 c53 c54 c55 h56 e56 S56 p56 q56 h57 e57 S57 p57 q57 h58 e58 S58 p58 q58)
            · exact absurd c55 (by decide)
    · refine hq_p rfl rfl ?_
      refine hq_p rfl rfl ?_
      refine hq_p rfl rfl ?_
      refine hq_p rfl rfl ?_
      refine hq_inv 1 rfl (fun _ => rfl) rfl rfl rfl rfl ?_
      refine wp_136 (x1 := (x2).toInt64) (x2 := (Int64.ofNat 0)) (x3 := (10 : Int64)) (by omega) S1  ?_ ?_ ?_
      · intro c59
        refine ⟨by omega, by omega, ?_⟩
        refine hq_p rfl rfl ?_
        refine hq_p rfl rfl ?_
        refine hq_p rfl rfl ?_
        refine hq_if rfl (fun c60 => ?_) (fun c60 => ?_)
        · exact absurd c60 (by decide)
        · refine hq_p rfl rfl ?_
          refine hq_p rfl rfl ?_
          refine hq_inv 0 rfl (fun _ => rfl) rfl rfl rfl (hq_pre_o S1 (x := 97) (ci := 11) rfl (by decide) rfl rfl rfl rfl) ?_
          refine wp_140 (x1 := (Int32.ofInt (-1))) (by omega) S1 (fun c61 h62 e62 S62 p62 q62 c63 => b9 h1 e1 S1 p1 q1 c2 c3 c59 c60 c61 h62 e62 S62 p62 q62 c63) (fun c64 h65 e65 S65 p65 q65 c66 => b10 h1 e1 S1 p1 q1 c2 c3 c59 c60 c64 h65 e65 S65 p65 q65 c66) ?_ ?_
          · intro c67 h68 e68 S68 p68 q68 c69
            exact absurd c67 (by decide)
          · intro c70 h71 e71 S71 p71 q71 c72 h73 e73 S73 p73 q73
            refine ⟨by omega, by omega, ?_⟩
            exact hq_W.ret rfl rfl rfl (k5 h1 e1 S1 p1 q1 c2 c3 c59 c60 c70 h71 e71 S71 p71 q71 c72 h73 e73 S73 p73 q73)
      · intro c74 c75
        refine ⟨by omega, by omega, ?_⟩
        refine hq_p rfl rfl ?_
        refine hq_p rfl rfl ?_
        refine hq_p rfl rfl ?_
        refine hq_if rfl (fun c76 => ?_) (fun c76 => ?_)
        · exact absurd c76 (by decide)
        · refine hq_p rfl rfl ?_
          refine hq_p rfl rfl ?_
          refine hq_inv 0 rfl (fun _ => rfl) rfl rfl rfl (hq_pre_o S1 (x := 97) (ci := 11) rfl (by decide) rfl rfl rfl rfl) ?_
          refine wp_140 (x1 := (Int32.ofInt (-1))) (by omega) S1 (fun c77 h78 e78 S78 p78 q78 c79 => b11 h1 e1 S1 p1 q1 c2 c3 c74 c75 c76 c77 h78 e78 S78 p78 q78 c79) (fun c80 h81 e81 S81 p81 q81 c82 => b12 h1 e1 S1 p1 q1 c2 c3 c74 c75 c76 c80 h81 e81 S81 p81 q81 c82) ?_ ?_
          · intro c83 h84 e84 S84 p84 q84 c85
            exact absurd c83 (by decide)
          · intro c86 h87 e87 S87 p87 q87 c88 h89 e89 S89 p89 q89
            refine ⟨by omega, by omega, ?_⟩
            exact hq_W.ret rfl rfl rfl (k6 h1 e1 S1 p1 q1 c2 c3 c74 c75 c76 c86 h87 e87 S87 p87 q87 c88 h89 e89 S89 p89 q89)
      · intro c90 c91
        refine ⟨by omega, by omega, ?_⟩
        refine hq_p rfl rfl ?_
        refine hq_p rfl rfl ?_
        refine hq_p rfl rfl ?_
        refine hq_if rfl (fun c92 => ?_) (fun c92 => ?_)
        · refine hq_p rfl rfl ?_
          refine hq_p rfl rfl ?_
          refine hq_pFo S1 rfl rfl (by decide) rfl rfl ⟨_, rfl⟩ (fun h93 e93 S93 p93 q93 => ?_)
          refine hq_p rfl rfl ?_
          refine hq_p rfl rfl ?_
          refine hq_p rfl rfl ?_
          refine hq_p rfl rfl ?_
          refine hq_p rfl rfl ?_
          refine hq_inv 0 rfl (fun _ => rfl) rfl rfl rfl (hq_pre_o S93 (x := 97) (ci := 11) rfl (by decide) rfl rfl rfl rfl) ?_
          refine wp_141 (x1 := ((Int32.ofInt 5) + x1)) (x2 := x2) (by omega) S93 (b13 h1 e1 S1 p1 q1 c2 c3 c90 c91 c92 h93 e93 S93 p93 q93) (b14 h1 e1 S1 p1 q1 c2 c3 c90 c91 c92 h93 e93 S93 p93 q93) ?_
          · intro h94 e94 S94 p94 q94 h95 e95 S95 p95 q95
            refine ⟨by omega, by omega, ?_⟩
            exact hq_W.ret rfl rfl rfl (k7 h1 e1 S1 p1 q1 c2 c3 c90 c91 c92 h93 e93 S93 p93 q93 h94 e94 S94 p94 q94 h95 e95 S95 p95 q95)
        · exact absurd c92 (by decide)
  · refine hq_p rfl rfl ?_
    refine hq_p rfl rfl ?_
    refine hq_p rfl rfl ?_
    refine hq_p rfl rfl ?_
    refine hq_inv 1 rfl (fun _ => rfl) rfl rfl rfl rfl ?_
    refine wp_136 (x1 := (x2).toInt64) (x2 := (Int64.ofNat 0)) (x3 := (999 : Int64)) (by omega) S1  ?_ ?_ ?_
    · intro c96
      refine ⟨by omega, by omega, ?_⟩
      refine hq_p rfl rfl ?_
      refine hq_p rfl rfl ?_
      refine hq_p rfl rfl ?_
      refine hq_if rfl (fun c97 => ?_) (fun c97 => ?_)
      · exact absurd c97 (by decide)
      · refine hq_p rfl rfl ?_
        refine hq_p rfl rfl ?_
        refine hq_inv 0 rfl (fun _ => rfl) rfl rfl rfl (hq_pre_o S1 (x := 97) (ci := 11) rfl (by decide) rfl rfl rfl rfl) ?_
        refine wp_140 (x1 := (Int32.ofInt (-1))) (by omega) S1 (fun c98 h99 e99 S99 p99 q99 c100 => b15 h1 e1 S1 p1 q1 c2 c96 c97 c98 h99 e99 S99 p99 q99 c100) (fun c101 h102 e102 S102 p102 q102 c103 => b16 h1 e1 S1 p1 q1 c2 c96 c97 c101 h102 e102 S102 p102 q102 c103) ?_ ?_
        · intro c104 h105 e105 S105 p105 q105 c106
          exact absurd c104 (by decide)
        · intro c107 h108 e108 S108 p108 q108 c109 h110 e110 S110 p110 q110
          refine ⟨by omega, by omega, ?_⟩
          exact hq_W.ret rfl rfl rfl (k8 h1 e1 S1 p1 q1 c2 c96 c97 c107 h108 e108 S108 p108 q108 c109 h110 e110 S110 p110 q110)
    · intro c111 c112
      refine ⟨by omega, by omega, ?_⟩
      refine hq_p rfl rfl ?_
      refine hq_p rfl rfl ?_
      refine hq_p rfl rfl ?_
      refine hq_if rfl (fun c113 => ?_) (fun c113 => ?_)
      · exact absurd c113 (by decide)
      · refine hq_p rfl rfl ?_
        refine hq_p rfl rfl ?_
        refine hq_inv 0 rfl (fun _ => rfl) rfl rfl rfl (hq_pre_o S1 (x := 97) (ci := 11) rfl (by decide) rfl rfl rfl rfl) ?_
        refine wp_140 (x1 := (Int32.ofInt (-1))) (by omega) S1 (fun c114 h115 e115 S115 p115 q115 c116 => b17 h1 e1 S1 p1 q1 c2 c111 c112 c113 c114 h115 e115 S115 p115 q115 c116) (fun c117 h118 e118 S118 p118 q118 c119 => b18 h1 e1 S1 p1 q1 c2 c111 c112 c113 c117 h118 e118 S118 p118 q118 c119) ?_ ?_
        · intro c120 h121 e121 S121 p121 q121 c122
          exact absurd c120 (by decide)
        · intro c123 h124 e124 S124 p124 q124 c125 h126 e126 S126 p126 q126
          refine ⟨by omega, by omega, ?_⟩
          exact hq_W.ret rfl rfl rfl (k9 h1 e1 S1 p1 q1 c2 c111 c112 c113 c123 h124 e124 S124 p124 q124 c125 h126 e126 S126 p126 q126)
    · intro c127 c128
      refine ⟨by omega, by omega, ?_⟩
      refine hq_p rfl rfl ?_
      refine hq_p rfl rfl ?_
      refine hq_p rfl rfl ?_
      refine hq_if rfl (fun c129 => ?_) (fun c129 => ?_)
      · refine hq_p rfl rfl ?_
        refine hq_p rfl rfl ?_
        refine hq_pFo S1 rfl rfl (by decide) rfl rfl ⟨_, rfl⟩ (fun h130 e130 S130 p130 q130 => ?_)
        refine hq_p rfl rfl ?_
        refine hq_p rfl rfl ?_
        refine hq_p rfl rfl ?_
        refine hq_p rfl rfl ?_
        refine hq_p rfl rfl ?_
        refine hq_inv 0 rfl (fun _ => rfl) rfl rfl rfl (hq_pre_o S130 (x := 97) (ci := 11) rfl (by decide) rfl rfl rfl rfl) ?_
        refine wp_141 (x1 := ((Int32.ofInt 5) + x1)) (x2 := x2) (by omega) S130 (b19 h1 e1 S1 p1 q1 c2 c127 c128 c129 h130 e130 S130 p130 q130) (b20 h1 e1 S1 p1 q1 c2 c127 c128 c129 h130 e130 S130 p130 q130) ?_
        · intro h131 e131 S131 p131 q131 h132 e132 S132 p132 q132
          refine ⟨by omega, by omega, ?_⟩
          exact hq_W.ret rfl rfl rfl (k10 h1 e1 S1 p1 q1 c2 c127 c128 c129 h130 e130 S130 p130 q130 h131 e131 S131 p131 q131 h132 e132 S132 p132 q132)
      · exact absurd c129 (by decide)
theorem wp_165 {X : pm_X} {d : Nat} {h : pm_H} {Q : pm_H → Option Value → Prop}  (hd : 1 ≤ d) (S : hs_Shape h)
    (k1 : ∀ h1, h1 = hs_sF h 97 11 0 (.int (Int32.ofInt 0)) → hs_Shape h1 → h1.1 = h.1 → h1.2.1 = h.2.1 → Q h1 (some (.int (hs_fI h1 97 11))))
    : hq_M X d 165 [.ref 97] h Q := by
  obtain ⟨d, rfl⟩ : ∃ e, d = e + 1 := ⟨d - 1, by omega⟩
  refine hq_M.enter (q := (⟨"TrainBearersModel", "puddles", "()I"⟩, _, 1, some .int, 11, 1, pm_c165)) rfl rfl ?_
  show hq_W X d 11 false (some .int) pm_c165 (0, [some (.ref 97)], [], h) Q
  refine hq_p rfl rfl ?_
  refine hq_p rfl rfl ?_
  refine hq_pFo S rfl rfl (by decide) rfl rfl ⟨_, rfl⟩ (fun h1 e1 S1 p1 q1 => ?_)
  refine hq_p rfl rfl ?_
  refine hq_gI S1 rfl rfl (by decide) (by decide) rfl ?_
  exact hq_W.ret rfl rfl rfl (k1 h1 e1 S1 p1 q1)
theorem wp_168 {X : pm_X} {d : Nat} {h : pm_H} {Q : pm_H → Option Value → Prop} {x1 : Int32} (hd : 1 ≤ d) (S : hs_Shape h)
    (k1 : ∀ h1, h1 = hs_sF h 97 11 0 (.int (Int32.ofInt 0)) → hs_Shape h1 → h1.1 = h.1 → h1.2.1 = h.2.1 → (pm_cmp0 .lt x1 = true) → Q h1 (some (.int (Int32.ofInt (-1)))))
    (k2 : ∀ h1, h1 = hs_sF h 97 11 0 (.int (Int32.ofInt 0)) → hs_Shape h1 → h1.1 = h.1 → h1.2.1 = h.2.1 → (pm_cmp0 .lt x1 = false) → (pm_cmp .le x1 (hs_fI h1 97 13) = true) → ∀ h4, h4 = hs_sF h1 97 11 13 (.int x1) → hs_Shape h4 → h4.1 = h1.1 → h4.2.1 = h1.2.1 → Q h4 (some (.int x1)))
    (k3 : ∀ h1, h1 = hs_sF h 97 11 0 (.int (Int32.ofInt 0)) → hs_Shape h1 → h1.1 = h.1 → h1.2.1 = h.2.1 → (pm_cmp0 .lt x1 = false) → (pm_cmp .le x1 (hs_fI h1 97 13) = false) → Q h1 (some (.int (Int32.ofInt (-1)))))
    : hq_M X d 168 [.ref 97, .int x1] h Q := by
  obtain ⟨d, rfl⟩ : ∃ e, d = e + 1 := ⟨d - 1, by omega⟩
  refine hq_M.enter (q := (⟨"TrainBearersModel", "end", "(I)I"⟩, _, 2, some .int, 11, 2, pm_c168)) rfl rfl ?_
  show hq_W X d 11 false (some .int) pm_c168 (0, [some (.ref 97), some (.int x1)], [], h) Q
  refine hq_p rfl rfl ?_
  refine hq_p rfl rfl ?_
  refine hq_pFo S rfl rfl (by decide) rfl rfl ⟨_, rfl⟩ (fun h1 e1 S1 p1 q1 => ?_)
  refine hq_p rfl rfl ?_
  refine hq_if rfl (fun c2 => ?_) (fun c2 => ?_)
  · refine hq_p rfl rfl ?_
    exact hq_W.ret rfl rfl rfl (k1 h1 e1 S1 p1 q1 c2)
  · refine hq_p rfl rfl ?_
    refine hq_p rfl rfl ?_
    refine hq_gI S1 rfl rfl (by decide) (by decide) rfl ?_
    refine hq_ifi rfl (fun c3 => ?_) (fun c3 => ?_)
    · refine hq_p rfl rfl ?_
      refine hq_p rfl rfl ?_
      refine hq_pFo S1 rfl rfl (by decide) rfl rfl ⟨_, rfl⟩ (fun h4 e4 S4 p4 q4 => ?_)
      refine hq_p rfl rfl ?_
      exact hq_W.ret rfl rfl rfl (k2 h1 e1 S1 p1 q1 c2 c3 h4 e4 S4 p4 q4)
    · refine hq_p rfl rfl ?_
      exact hq_W.ret rfl rfl rfl (k3 h1 e1 S1 p1 q1 c2 c3)
theorem wp_169 {X : pm_X} {d : Nat} {h : pm_H} {Q : pm_H → Option Value → Prop} {x1 : Int32} (hd : 1 ≤ d) (S : hs_Shape h)
    (k1 : (pm_cmp .lt x1 (Int8.ofInt (97)).toInt32 = true) → Q h (some (.int (Int32.ofInt 0))))
    (k2 : (pm_cmp .lt x1 (Int8.ofInt (97)).toInt32 = false) → (pm_cmp .gt x1 (Int8.ofInt (122)).toInt32 = true) → Q h (some (.int (Int32.ofInt 0))))
    (k3 : (pm_cmp .lt x1 (Int8.ofInt (97)).toInt32 = false) → (pm_cmp .gt x1 (Int8.ofInt (122)).toInt32 = false) → Q h (some (.int (Int32.ofInt 1))))
    : hq_M X d 169 [.int x1] h Q := by
  obtain ⟨d, rfl⟩ : ∃ e, d = e + 1 := ⟨d - 1, by omega⟩
  refine hq_M.enter (q := (⟨"TrainBearersModel", "isSmall", "(I)Z"⟩, _, 1, some .boolean, 11, 1, pm_c169)) rfl rfl ?_
  show hq_W X d 11 false (some .boolean) pm_c169 (0, [some (.int x1)], [], h) Q
  refine hq_p rfl rfl ?_
  refine hq_p rfl rfl ?_
  refine hq_ifi rfl (fun c1 => ?_) (fun c1 => ?_)
  · refine hq_p rfl rfl ?_
    exact hq_W.ret rfl rfl rfl (k1 c1)
  · refine hq_p rfl rfl ?_
    refine hq_p rfl rfl ?_
    refine hq_ifi rfl (fun c2 => ?_) (fun c2 => ?_)
    · refine hq_p rfl rfl ?_
      exact hq_W.ret rfl rfl rfl (k2 c1 c2)
    · refine hq_p rfl rfl ?_
      refine hq_p rfl rfl ?_
      exact hq_W.ret rfl rfl rfl (k3 c1 c2)
theorem wp_170 {X : pm_X} {d : Nat} {h : pm_H} {Q : pm_H → Option Value → Prop} {x1 : Int32} (hd : 1 ≤ d) (S : hs_Shape h)
    (k1 : (pm_cmp .lt x1 (Int8.ofInt (48)).toInt32 = true) → Q h (some (.int (Int32.ofInt 0))))
    (k2 : (pm_cmp .lt x1 (Int8.ofInt (48)).toInt32 = false) → (pm_cmp .gt x1 (Int8.ofInt (57)).toInt32 = true) → Q h (some (.int (Int32.ofInt 0))))
    (k3 : (pm_cmp .lt x1 (Int8.ofInt (48)).toInt32 = false) → (pm_cmp .gt x1 (Int8.ofInt (57)).toInt32 = false) → Q h (some (.int (Int32.ofInt 1))))
    : hq_M X d 170 [.int x1] h Q := by
  obtain ⟨d, rfl⟩ : ∃ e, d = e + 1 := ⟨d - 1, by omega⟩
  refine hq_M.enter (q := (⟨"TrainBearersModel", "isDigit", "(I)Z"⟩, _, 1, some .boolean, 11, 1, pm_c170)) rfl rfl ?_
  show hq_W X d 11 false (some .boolean) pm_c170 (0, [some (.int x1)], [], h) Q
  refine hq_p rfl rfl ?_
  refine hq_p rfl rfl ?_
  refine hq_ifi rfl (fun c1 => ?_) (fun c1 => ?_)
  · refine hq_p rfl rfl ?_
    exact hq_W.ret rfl rfl rfl (k1 c1)
  · refine hq_p rfl rfl ?_
    refine hq_p rfl rfl ?_
    refine hq_ifi rfl (fun c2 => ?_) (fun c2 => ?_)
    · refine hq_p rfl rfl ?_
      exact hq_W.ret rfl rfl rfl (k2 c1 c2)
    · refine hq_p rfl rfl ?_
      refine hq_p rfl rfl ?_
      exact hq_W.ret rfl rfl rfl (k3 c1 c2)
theorem wp_177 {X : pm_X} {d : Nat} {h : pm_H} {Q : pm_H → Option Value → Prop}  (hd : 1 ≤ d) (S : hs_Shape h)
    (k1 : ∀ h1, h1 = hs_sF h 97 11 0 (.int (Int32.ofInt 0)) → hs_Shape h1 → h1.1 = h.1 → h1.2.1 = h.2.1 → Q h1 (some (.int (hs_fI h1 97 18))))
    : hq_M X d 177 [.ref 97] h Q := by
  obtain ⟨d, rfl⟩ : ∃ e, d = e + 1 := ⟨d - 1, by omega⟩
  refine hq_M.enter (q := (⟨"TrainBearersModel", "fault", "()I"⟩, _, 1, some .int, 11, 1, pm_c177)) rfl rfl ?_
  show hq_W X d 11 false (some .int) pm_c177 (0, [some (.ref 97)], [], h) Q
  refine hq_p rfl rfl ?_
  refine hq_p rfl rfl ?_
  refine hq_pFo S rfl rfl (by decide) rfl rfl ⟨_, rfl⟩ (fun h1 e1 S1 p1 q1 => ?_)
  refine hq_p rfl rfl ?_
  refine hq_gI S1 rfl rfl (by decide) (by decide) rfl ?_
  exact hq_W.ret rfl rfl rfl (k1 h1 e1 S1 p1 q1)
theorem wp_178 {X : pm_X} {d : Nat} {h : pm_H} {Q : pm_H → Option Value → Prop} {x1 : Int32} {x2 : Int32} (hd : 1 ≤ d) (S : hs_Shape h)
    (b1 : 0 ≤ ((hs_fI h 97 23)).toInt ∧ ((hs_fI h 97 23)).toInt < (400 : Nat))
    (b2 : ∀ h1, h1 = hs_sA h 108 0 400 ((hs_fI h 97 23)).toNatClampNeg x1 → hs_Shape h1 → h1.1 = h.1 → h1.2.1 = h.2.1 → 0 ≤ ((hs_fI h1 97 23)).toInt ∧ ((hs_fI h1 97 23)).toInt < (400 : Nat))
    (k1 : ∀ h1, h1 = hs_sA h 108 0 400 ((hs_fI h 97 23)).toNatClampNeg x1 → hs_Shape h1 → h1.1 = h.1 → h1.2.1 = h.2.1 → ∀ h2, h2 = hs_sA h1 109 0 400 ((hs_fI h1 97 23)).toNatClampNeg x2 → hs_Shape h2 → h2.1 = h1.1 → h2.2.1 = h1.2.1 → ∀ h3, h3 = hs_sF h2 97 11 23 (.int ((hs_fI h2 97 23) + (Int32.ofInt 1))) → hs_Shape h3 → h3.1 = h2.1 → h3.2.1 = h2.2.1 → Q h3 none)
    : hq_M X d 178 [.ref 97, .int x1, .int x2] h Q := by
  obtain ⟨d, rfl⟩ : ∃ e, d = e + 1 := ⟨d - 1, by omega⟩
  refine hq_M.enter (q := (⟨"TrainBearersModel", "emit", "(II)V"⟩, _, 3, none, 11, 3, pm_c178)) rfl rfl ?_
  show hq_W X d 11 false (none) pm_c178 (0, [some (.ref 97), some (.int x1), some (.int x2)], [], h) Q
  refine hq_p rfl rfl ?_
  refine hq_gR S rfl rfl (by decide) (by decide) rfl ?_
  refine hq_p rfl rfl ?_
  refine hq_gI S rfl rfl (by decide) (by decide) rfl ?_
  refine hq_p rfl rfl ?_
  refine hq_aSo S rfl rfl (by decide) (b1).1 (b1).2 (fun h1 e1 S1 p1 q1 => ?_)
  refine hq_p rfl rfl ?_
  refine hq_gR S1 rfl rfl (by decide) (by decide) rfl ?_
  refine hq_p rfl rfl ?_
  refine hq_gI S1 rfl rfl (by decide) (by decide) rfl ?_
  refine hq_p rfl rfl ?_
  refine hq_aSo S1 rfl rfl (by decide) (b2 h1 e1 S1 p1 q1).1 (b2 h1 e1 S1 p1 q1).2 (fun h2 e2 S2 p2 q2 => ?_)
  refine hq_p rfl rfl ?_
  refine hq_p rfl rfl ?_
  refine hq_gI S2 rfl rfl (by decide) (by decide) rfl ?_
  refine hq_p rfl rfl ?_
  refine hq_p rfl rfl ?_
  refine hq_pFo S2 rfl rfl (by decide) rfl rfl ⟨_, rfl⟩ (fun h3 e3 S3 p3 q3 => ?_)
  exact hq_W.ret rfl rfl rfl (k1 h1 e1 S1 p1 q1 h2 e2 S2 p2 q2 h3 e3 S3 p3 q3)
theorem wp_179 {X : pm_X} {d : Nat} {h : pm_H} {Q : pm_H → Option Value → Prop} {x1 : Int32} {x2 : Int32} (hd : 1 ≤ d) (S : hs_Shape h)
    (b1 : 0 ≤ ((hs_fI h 97 29)).toInt ∧ ((hs_fI h 97 29)).toInt < (400 : Nat))
    (b2 : ∀ h1, h1 = hs_sA h 110 0 400 ((hs_fI h 97 29)).toNatClampNeg x1 → hs_Shape h1 → h1.1 = h.1 → h1.2.1 = h.2.1 → 0 ≤ ((hs_fI h1 97 29)).toInt ∧ ((hs_fI h1 97 29)).toInt < (400 : Nat))
    (k1 : ∀ h1, h1 = hs_sA h 110 0 400 ((hs_fI h 97 29)).toNatClampNeg x1 → hs_Shape h1 → h1.1 = h.1 → h1.2.1 = h.2.1 → ∀ h2, h2 = hs_sA h1 111 0 400 ((hs_fI h1 97 29)).toNatClampNeg x2 → hs_Shape h2 → h2.1 = h1.1 → h2.2.1 = h1.2.1 → ∀ h3, h3 = hs_sF h2 97 11 29 (.int ((hs_fI h2 97 29) + (Int32.ofInt 1))) → hs_Shape h3 → h3.1 = h2.1 → h3.2.1 = h2.2.1 → Q h3 none)
    : hq_M X d 179 [.ref 97, .int x1, .int x2] h Q := by
  obtain ⟨d, rfl⟩ : ∃ e, d = e + 1 := ⟨d - 1, by omega⟩
  refine hq_M.enter (q := (⟨"TrainBearersModel", "push", "(II)V"⟩, _, 3, none, 11, 3, pm_c179)) rfl rfl ?_
  show hq_W X d 11 false (none) pm_c179 (0, [some (.ref 97), some (.int x1), some (.int x2)], [], h) Q
  refine hq_p rfl rfl ?_
  refine hq_gR S rfl rfl (by decide) (by decide) rfl ?_
  refine hq_p rfl rfl ?_
  refine hq_gI S rfl rfl (by decide) (by decide) rfl ?_
  refine hq_p rfl rfl ?_
  refine hq_aSo S rfl rfl (by decide) (b1).1 (b1).2 (fun h1 e1 S1 p1 q1 => ?_)
  refine hq_p rfl rfl ?_
  refine hq_gR S1 rfl rfl (by decide) (by decide) rfl ?_
  refine hq_p rfl rfl ?_
  refine hq_gI S1 rfl rfl (by decide) (by decide) rfl ?_
  refine hq_p rfl rfl ?_
  refine hq_aSo S1 rfl rfl (by decide) (b2 h1 e1 S1 p1 q1).1 (b2 h1 e1 S1 p1 q1).2 (fun h2 e2 S2 p2 q2 => ?_)
  refine hq_p rfl rfl ?_
  refine hq_p rfl rfl ?_
  refine hq_gI S2 rfl rfl (by decide) (by decide) rfl ?_
  refine hq_p rfl rfl ?_
  refine hq_p rfl rfl ?_
  refine hq_pFo S2 rfl rfl (by decide) rfl rfl ⟨_, rfl⟩ (fun h3 e3 S3 p3 q3 => ?_)
  exact hq_W.ret rfl rfl rfl (k1 h1 e1 S1 p1 q1 h2 e2 S2 p2 q2 h3 e3 S3 p3 q3)
theorem wp_180 {X : pm_X} {d : Nat} {h : pm_H} {Q : pm_H → Option Value → Prop} {x1 : Int32} (hd : 1 ≤ d) (S : hs_Shape h)
    (k1 : (pm_cmp .lt x1 (Int8.ofInt (31)).toInt32 = true) → (pm_cmp .ne x1 (Int8.ofInt (30)).toInt32 = true) → (pm_cmp .ne x1 (Int8.ofInt (29)).toInt32 = true) → (pm_cmp .ne x1 (Int8.ofInt (28)).toInt32 = true) → (pm_cmp .lt x1 (Int8.ofInt (25)).toInt32 = true) → (pm_cmp .lt x1 (Int8.ofInt (22)).toInt32 = true) → Q h (some (.int (Int32.ofInt 5))))
    (k2 : (pm_cmp .lt x1 (Int8.ofInt (31)).toInt32 = true) → (pm_cmp .ne x1 (Int8.ofInt (30)).toInt32 = true) → (pm_cmp .ne x1 (Int8.ofInt (29)).toInt32 = true) → (pm_cmp .ne x1 (Int8.ofInt (28)).toInt32 = true) → (pm_cmp .lt x1 (Int8.ofInt (25)).toInt32 = true) → (pm_cmp .lt x1 (Int8.ofInt (22)).toInt32 = false) → Q h (some (.int (Int8.ofInt (6)).toInt32)))
    (k3 : (pm_cmp .lt x1 (Int8.ofInt (31)).toInt32 = true) → (pm_cmp .ne x1 (Int8.ofInt (30)).toInt32 = true) → (pm_cmp .ne x1 (Int8.ofInt (29)).toInt32 = true) → (pm_cmp .ne x1 (Int8.ofInt (28)).toInt32 = true) → (pm_cmp .lt x1 (Int8.ofInt (25)).toInt32 = false) → Q h (some (.int (Int32.ofInt 4))))
    (k4 : (pm_cmp .lt x1 (Int8.ofInt (31)).toInt32 = true) → (pm_cmp .ne x1 (Int8.ofInt (30)).toInt32 = true) → (pm_cmp .ne x1 (Int8.ofInt (29)).toInt32 = true) → (pm_cmp .ne x1 (Int8.ofInt (28)).toInt32 = false) → Q h (some (.int (Int32.ofInt 3))))
    (k5 : (pm_cmp .lt x1 (Int8.ofInt (31)).toInt32 = true) → (pm_cmp .ne x1 (Int8.ofInt (30)).toInt32 = true) → (pm_cmp .ne x1 (Int8.ofInt (29)).toInt32 = false) → Q h (some (.int (Int32.ofInt 2))))
    (k6 : (pm_cmp .lt x1 (Int8.ofInt (31)).toInt32 = true) → (pm_cmp .ne x1 (Int8.ofInt (30)).toInt32 = false) → Q h (some (.int (Int32.ofInt 1))))
    (k7 : (pm_cmp .lt x1 (Int8.ofInt (31)).toInt32 = false) → Q h (some (.int (Int32.ofInt 0))))
    : hq_M X d 180 [.int x1] h Q := by
  obtain ⟨d, rfl⟩ : ∃ e, d = e + 1 := ⟨d - 1, by omega⟩
  refine hq_M.enter (q := (⟨"TrainBearersModel", "binds", "(I)I"⟩, _, 1, some .int, 11, 1, pm_c180)) rfl rfl ?_
  show hq_W X d 11 false (some .int) pm_c180 (0, [some (.int x1)], [], h) Q
  refine hq_p rfl rfl ?_
  refine hq_p rfl rfl ?_
  refine hq_ifi rfl (fun c1 => ?_) (fun c1 => ?_)
  · refine hq_p rfl rfl ?_
    refine hq_p rfl rfl ?_
    refine hq_ifi rfl (fun c2 => ?_) (fun c2 => ?_)
    · refine hq_p rfl rfl ?_
      refine hq_p rfl rfl ?_
      refine hq_ifi rfl (fun c3 => ?_) (fun c3 => ?_)
      · refine hq_p rfl rfl ?_
        refine hq_p rfl rfl ?_
        refine hq_ifi rfl (fun c4 => ?_) (fun c4 => ?_)
        · refine hq_p rfl rfl ?_
          refine hq_p rfl rfl ?_
          refine hq_ifi rfl (fun c5 => ?_) (fun c5 => ?_)
          · refine hq_p rfl rfl ?_
            refine hq_p rfl rfl ?_
            refine hq_ifi rfl (fun c6 => ?_) (fun c6 => ?_)
            · refine hq_p rfl rfl ?_
              exact hq_W.ret rfl rfl rfl (k1 c1 c2 c3 c4 c5 c6)
            · refine hq_p rfl rfl ?_
              refine hq_p rfl rfl ?_
              exact hq_W.ret rfl rfl rfl (k2 c1 c2 c3 c4 c5 c6)
          · refine hq_p rfl rfl ?_
            refine hq_p rfl rfl ?_
            exact hq_W.ret rfl rfl rfl (k3 c1 c2 c3 c4 c5)
        · refine hq_p rfl rfl ?_
          refine hq_p rfl rfl ?_
          exact hq_W.ret rfl rfl rfl (k4 c1 c2 c3 c4)
      · refine hq_p rfl rfl ?_
        refine hq_p rfl rfl ?_
        exact hq_W.ret rfl rfl rfl (k5 c1 c2 c3)
    · refine hq_p rfl rfl ?_
      refine hq_p rfl rfl ?_
      exact hq_W.ret rfl rfl rfl (k6 c1 c2)
  · refine hq_p rfl rfl ?_
    refine hq_p rfl rfl ?_
    exact hq_W.ret rfl rfl rfl (k7 c1)
theorem wp_197 {X : pm_X} {d : Nat} {h : pm_H} {Q : pm_H → Option Value → Prop} {x1 : Int32} (hd : 2 ≤ d) (S : hs_Shape h)
    (b1 : (pm_cmp .eq x1 (Int32.ofInt (-1)) = false) → 0 ≤ ((Int32.ofInt 3)).toInt ∧ ((Int32.ofInt 3)).toInt < (5498 : Nat))
    (k1 : (pm_cmp .eq x1 (Int32.ofInt (-1)) = true) → Q h (some (.int (Int32.ofInt 1))))
    (k2 : (pm_cmp .eq x1 (Int32.ofInt (-1)) = false) → (pm_cmp0 .lt (lg_cmp (x1).toInt64 (Int64.ofNat 0)) = true) → (pm_cmp0 .eq (Int32.ofInt 0) = true) → Q h (some (.int (Int32.ofInt 0))))
    (k3 : (pm_cmp .eq x1 (Int32.ofInt (-1)) = false) → (pm_cmp0 .lt (lg_cmp (x1).toInt64 (Int64.ofNat 0)) = false) → (pm_cmp0 .gt (lg_cmp (x1).toInt64 (((hs_aI h 99 ((Int32.ofInt 3)).toNatClampNeg)).toInt64 - (Int64.ofNat 1))) = true) → (pm_cmp0 .eq (Int32.ofInt 0) = true) → Q h (some (.int (Int32.ofInt 0))))
    (k4 : (pm_cmp .eq x1 (Int32.ofInt (-1)) = false) → (pm_cmp0 .lt (lg_cmp (x1).toInt64 (Int64.ofNat 0)) = false) → (pm_cmp0 .gt (lg_cmp (x1).toInt64 (((hs_aI h 99 ((Int32.ofInt 3)).toNatClampNeg)).toInt64 - (Int64.ofNat 1))) = false) → (pm_cmp0 .eq (Int32.ofInt 1) = false) → Q h (some (.int (Int32.ofInt 1))))
    : hq_M X d 197 [.ref 97, .int x1] h Q := by
  obtain ⟨d, rfl⟩ : ∃ e, d = e + 1 := ⟨d - 1, by omega⟩
  refine hq_M.enter (q := (⟨"TrainBearersModel", "isLaw", "(I)Z"⟩, _, 2, some .boolean, 11, 2, pm_c197)) rfl rfl ?_
  show hq_W X d 11 false (some .boolean) pm_c197 (0, [some (.ref 97), some (.int x1)], [], h) Q
  refine hq_p rfl rfl ?_
  refine hq_p rfl rfl ?_
  refine hq_ifi rfl (fun c1 => ?_) (fun c1 => ?_)
  · refine hq_p rfl rfl ?_
    refine hq_p rfl rfl ?_
    exact hq_W.ret rfl rfl rfl (k1 c1)
  · refine hq_p rfl rfl ?_
    refine hq_p rfl rfl ?_
    refine hq_p rfl rfl ?_
    refine hq_p rfl rfl ?_
    refine hq_gR S rfl rfl (by decide) (by decide) rfl ?_
    refine hq_p rfl rfl ?_
    refine hq_aL S rfl rfl (by decide) (b1 c1).1 (b1 c1).2 ?_
    refine hq_p rfl rfl ?_
    refine hq_p rfl rfl ?_
    refine hq_p rfl rfl ?_
    refine hq_inv 1 rfl (fun _ => rfl) rfl rfl rfl rfl ?_
    refine wp_136 (x1 := (x1).toInt64) (x2 := (Int64.ofNat 0)) (x3 := (((hs_aI h 99 ((Int32.ofInt 3)).toNatClampNeg)).toInt64 - (Int64.ofNat 1))) (by omega) S  ?_ ?_ ?_
    · intro c2
      refine ⟨by omega, by omega, ?_⟩
      refine hq_if rfl (fun c3 => ?_) (fun c3 => ?_)
      · refine hq_p rfl rfl ?_
        exact hq_W.ret rfl rfl rfl (k2 c1 c2 c3)
      · exact absurd c3 (by decide)
    · intro c4 c5
      refine ⟨by omega, by omega, ?_⟩
      refine hq_if rfl (fun c6 => ?_) (fun c6 => ?_)
      · refine hq_p rfl rfl ?_
        exact hq_W.ret rfl rfl rfl (k3 c1 c4 c5 c6)
      · exact absurd c6 (by decide)
    · intro c7 c8
      refine ⟨by omega, by omega, ?_⟩
      refine hq_if rfl (fun c9 => ?_) (fun c9 => ?_)
      · exact absurd c9 (by decide)
      · refine hq_p rfl rfl ?_
        refine hq_p rfl rfl ?_
        exact hq_W.ret rfl rfl rfl (k4 c1 c7 c8 c9)
theorem wp_198 {X : pm_X} {d : Nat} {h : pm_H} {Q : pm_H → Option Value → Prop} {x1 : Int32} (hd : 3 ≤ d) (S : hs_Shape h)
    (b1 : ∀ h1, h1 = hs_sF h 97 11 0 (.int (Int32.ofInt 0)) → hs_Shape h1 → h1.1 = h.1 → h1.2.1 = h.2.1 → (pm_cmp .eq x1 (Int32.ofInt (-1)) = false) → 0 ≤ ((Int32.ofInt 3)).toInt ∧ ((Int32.ofInt 3)).toInt < (5498 : Nat))
    (b2 : ∀ h1, h1 = hs_sF h 97 11 0 (.int (Int32.ofInt 0)) → hs_Shape h1 → h1.1 = h.1 → h1.2.1 = h.2.1 → (pm_cmp .eq x1 (Int32.ofInt (-1)) = true) → (pm_cmp0 .eq (Int32.ofInt 1) = false) → 0 ≤ ((Int32.ofInt 4)).toInt ∧ ((Int32.ofInt 4)).toInt < (5498 : Nat))
    (b3 : ∀ h1, h1 = hs_sF h 97 11 0 (.int (Int32.ofInt 0)) → hs_Shape h1 → h1.1 = h.1 → h1.2.1 = h.2.1 → (pm_cmp .eq x1 (Int32.ofInt (-1)) = true) → (pm_cmp0 .eq (Int32.ofInt 1) = false) → 0 ≤ ((Int32.ofInt 4)).toInt ∧ ((Int32.ofInt 4)).toInt < (5498 : Nat))
    (b4 : ∀ h1, h1 = hs_sF h 97 11 0 (.int (Int32.ofInt 0)) → hs_Shape h1 → h1.1 = h.1 → h1.2.1 = h.2.1 → (pm_cmp .eq x1 (Int32.ofInt (-1)) = false) → (pm_cmp0 .lt (lg_cmp (x1).toInt64 (Int64.ofNat 0)) = true) → (pm_cmp0 .eq (Int32.ofInt 0) = true) → (pm_cmp0 .eq (Int32.ofInt 0) = true) → (pm_cmp0 .ge (Int8.ofInt (-2)).toInt32 = false) → ∀ h12, h12 = hs_sF h1 97 11 1 (.int (Int8.ofInt (-2)).toInt32) → hs_Shape h12 → h12.1 = h1.1 → h12.2.1 = h1.2.1 → (pm_cmp0 .ge (Int8.ofInt (-2)).toInt32 = false) → 0 ≤ ((-(Int8.ofInt (-2)).toInt32)).toInt ∧ ((-(Int8.ofInt (-2)).toInt32)).toInt < (7 : Nat))
    (b5 : ∀ h1, h1 = hs_sF h 97 11 0 (.int (Int32.ofInt 0)) → hs_Shape h1 → h1.1 = h.1 → h1.2.1 = h.2.1 → (pm_cmp .eq x1 (Int32.ofInt (-1)) = false) → (pm_cmp0 .lt (lg_cmp (x1).toInt64 (Int64.ofNat 0)) = true) → (pm_cmp0 .eq (Int32.ofInt 0) = true) → (pm_cmp0 .eq (Int32.ofInt 0) = true) → (pm_cmp0 .ge (Int8.ofInt (-2)).toInt32 = false) → ∀ h15, h15 = hs_sF h1 97 11 1 (.int (Int8.ofInt (-2)).toInt32) → hs_Shape h15 → h15.1 = h1.1 → h15.2.1 = h1.2.1 → (pm_cmp0 .ge (Int8.ofInt (-2)).toInt32 = false) → 0 ≤ ((-(Int8.ofInt (-2)).toInt32)).toInt ∧ ((-(Int8.ofInt (-2)).toInt32)).toInt < (7 : Nat))
    (b6 : ∀ h1, h1 = hs_sF h 97 11 0 (.int (Int32.ofInt 0)) → hs_Shape h1 → h1.1 = h.1 → h1.2.1 = h.2.1 → (pm_cmp .eq x1 (Int32.ofInt (-1)) = false) → (pm_cmp0 .lt (lg_cmp (x1).toInt64 (Int64.ofNat 0)) = false) → (pm_cmp0 .gt (lg_cmp (x1).toInt64 (((hs_aI h1 99 ((Int32.ofInt 3)).toNatClampNeg)).toInt64 - (Int64.ofNat 1))) = true) → (pm_cmp0 .eq (Int32.ofInt 0) = true) → (pm_cmp0 .eq (Int32.ofInt 0) = true) → (pm_cmp0 .ge (Int8.ofInt (-2)).toInt32 = false) → ∀ h30, h30 = hs_sF h1 97 11 1 (.int (Int8.ofInt (-2)).toInt32) → hs_Shape h30 → h30.1 = h1.1 → h30.2.1 = h1.2.1 → (pm_cmp0 .ge (Int8.ofInt (-2)).toInt32 = false) → 0 ≤ ((-(Int8.ofInt (-2)).toInt32)).toInt ∧ ((-(Int8.ofInt (-2)).toInt32)).toInt < (7 : Nat))
    (b7 : ∀ h1, h1 = hs_sF h 97 11 0 (.int (Int32.ofInt 0)) → hs_Shape h1 → h1.1 = h.1 → h1.2.1 = h.2.1 → (pm_cmp .eq x1 (Int32.ofInt (-1)) = false) → (pm_cmp0 .lt (lg_cmp (x1).toInt64 (Int64.ofNat 0)) = false) → (pm_cmp0 .gt (lg_cmp (x1).toInt64 (((hs_aI h1 99 ((Int32.ofInt 3)).toNatClampNeg)).toInt64 - (Int64.ofNat 1))) = true) → (pm_cmp0 .eq (Int32.ofInt 0) = true) → (pm_cmp0 .eq (Int32.ofInt 0) = true) → (pm_cmp0 .ge (Int8.ofInt (-2)).toInt32 = false) → ∀ h33, h33 = hs_sF h1 97 11 1 (.int (Int8.ofInt (-2)).toInt32) → hs_Shape h33 → h33.1 = h1.1 → h33.2.1 = h1.2.1 → (pm_cmp0 .ge (Int8.ofInt (-2)).toInt32 = false) → 0 ≤ ((-(Int8.ofInt (-2)).toInt32)).toInt ∧ ((-(Int8.ofInt (-2)).toInt32)).toInt < (7 : Nat))
    (b8 : ∀ h1, h1 = hs_sF h 97 11 0 (.int (Int32.ofInt 0)) → hs_Shape h1 → h1.1 = h.1 → h1.2.1 = h.2.1 → (pm_cmp .eq x1 (Int32.ofInt (-1)) = false) → (pm_cmp0 .lt (lg_cmp (x1).toInt64 (Int64.ofNat 0)) = false) → (pm_cmp0 .gt (lg_cmp (x1).toInt64 (((hs_aI h1 99 ((Int32.ofInt 3)).toNatClampNeg)).toInt64 - (Int64.ofNat 1))) = false) → (pm_cmp0 .eq (Int32.ofInt 1) = false) → (pm_cmp0 .eq (Int32.ofInt 1) = false) → 0 ≤ ((Int32.ofInt 4)).toInt ∧ ((Int32.ofInt 4)).toInt < (5498 : Nat))
    (b9 : ∀ h1, h1 = hs_sF h 97 11 0 (.int (Int32.ofInt 0)) → hs_Shape h1 → h1.1 = h.1 → h1.2.1 = h.2.1 → (pm_cmp .eq x1 (Int32.ofInt (-1)) = false) → (pm_cmp0 .lt (lg_cmp (x1).toInt64 (Int64.ofNat 0)) = false) → (pm_cmp0 .gt (lg_cmp (x1).toInt64 (((hs_aI h1 99 ((Int32.ofInt 3)).toNatClampNeg)).toInt64 - (Int64.ofNat 1))) = false) → (pm_cmp0 .eq (Int32.ofInt 1) = false) → (pm_cmp0 .eq (Int32.ofInt 1) = false) → 0 ≤ ((Int32.ofInt 4)).toInt ∧ ((Int32.ofInt 4)).toInt < (5498 : Nat))
    (k1 : ∀ h1, h1 = hs_sF h 97 11 0 (.int (Int32.ofInt 0)) → hs_Shape h1 → h1.1 = h.1 → h1.2.1 = h.2.1 → (pm_cmp .eq x1 (Int32.ofInt (-1)) = true) → (pm_cmp0 .eq (Int32.ofInt 1) = false) → ∀ h5, h5 = hs_sA h1 99 0 5498 ((Int32.ofInt 4)).toNatClampNeg x1 → hs_Shape h5 → h5.1 = h1.1 → h5.2.1 = h1.2.1 → ∀ h6, h6 = hs_sF h5 97 11 1 (.int (Int32.ofInt 0)) → hs_Shape h6 → h6.1 = h5.1 → h6.2.1 = h5.2.1 → Q h6 (some (.int (hs_aI h1 99 ((Int32.ofInt 4)).toNatClampNeg))))
    (k2 : ∀ h1, h1 = hs_sF h 97 11 0 (.int (Int32.ofInt 0)) → hs_Shape h1 → h1.1 = h.1 → h1.2.1 = h.2.1 → (pm_cmp .eq x1 (Int32.ofInt (-1)) = false) → (pm_cmp0 .lt (lg_cmp (x1).toInt64 (Int64.ofNat 0)) = true) → (pm_cmp0 .eq (Int32.ofInt 0) = true) → (pm_cmp0 .eq (Int32.ofInt 0) = true) → (pm_cmp0 .ge (Int8.ofInt (-2)).toInt32 = true) → ∀ h18, h18 = hs_sF h1 97 11 1 (.int (Int32.ofInt 0)) → hs_Shape h18 → h18.1 = h1.1 → h18.2.1 = h1.2.1 → (pm_cmp0 .ge (Int8.ofInt (-2)).toInt32 = true) → Q h18 (some (.int (Int8.ofInt (-2)).toInt32)))
    (k3 : ∀ h1, h1 = hs_sF h 97 11 0 (.int (Int32.ofInt 0)) → hs_Shape h1 → h1.1 = h.1 → h1.2.1 = h.2.1 → (pm_cmp .eq x1 (Int32.ofInt (-1)) = false) → (pm_cmp0 .lt (lg_cmp (x1).toInt64 (Int64.ofNat 0)) = true) → (pm_cmp0 .eq (Int32.ofInt 0) = true) → (pm_cmp0 .eq (Int32.ofInt 0) = true) → (pm_cmp0 .ge (Int8.ofInt (-2)).toInt32 = false) → ∀ h21, h21 = hs_sF h1 97 11 1 (.int (Int8.ofInt (-2)).toInt32) → hs_Shape h21 → h21.1 = h1.1 → h21.2.1 = h1.2.1 → (pm_cmp0 .ge (Int8.ofInt (-2)).toInt32 = false) → ∀ h23, h23 = hs_sA h21 98 0 7 ((-(Int8.ofInt (-2)).toInt32)).toNatClampNeg ((hs_aI h21 98 ((-(Int8.ofInt (-2)).toInt32)).toNatClampNeg) + (Int32.ofInt 1)) → hs_Shape h23 → h23.1 = h21.1 → h23.2.1 = h21.2.1 → Q h23 (some (.int (Int8.ofInt (-2)).toInt32)))
    (k4 : ∀ h1, h1 = hs_sF h 97 11 0 (.int (Int32.ofInt 0)) → hs_Shape h1 → h1.1 = h.1 → h1.2.1 = h.2.1 → (pm_cmp .eq x1 (Int32.ofInt (-1)) = false) → (pm_cmp0 .lt (lg_cmp (x1).toInt64 (Int64.ofNat 0)) = false) → (pm_cmp0 .gt (lg_cmp (x1).toInt64 (((hs_aI h1 99 ((Int32.ofInt 3)).toNatClampNeg)).toInt64 - (Int64.ofNat 1))) = true) → (pm_cmp0 .eq (Int32.ofInt 0) = true) → (pm_cmp0 .eq (Int32.ofInt 0) = true) → (pm_cmp0 .ge (Int8.ofInt (-2)).toInt32 = true) → ∀ h36, h36 = hs_sF h1 97 11 1 (.int (Int32.ofInt 0)) → hs_Shape h36 → h36.1 = h1.1 → h36.2.1 = h1.2.1 → (pm_cmp0 .ge (Int8.ofInt (-2)).toInt32 = true) → Q h36 (some (.int (Int8.ofInt (-2)).toInt32)))
    (k5 : ∀ h1, h1 = hs_sF h 97 11 0 (.int (Int32.ofInt 0)) → hs_Shape h1 → h1.1 = h.1 → h1.2.1 = h.2.1 → (pm_cmp .eq x1 (Int32.ofInt (-1)) = false) → (pm_cmp0 .lt (lg_cmp (x1).toInt64 (Int64.ofNat 0)) = false) → (pm_cmp0 .gt (lg_cmp (x1).toInt64 (((hs_aI h1 99 ((Int32.ofInt 3)).toNatClampNeg)).toInt64 - (Int64.ofNat 1))) = true) → (pm_cmp0 .eq (Int32.ofInt 0) = true) → (pm_cmp0 .eq (Int32.ofInt 0) = true) → (pm_cmp0 .ge (Int8.ofInt (-2)).toInt32 = false) → ∀ h39, h39 = hs_sF h1 97 11 1 (.int (Int8.ofInt (-2)).toInt32) → hs_Shape h39 → h39.1 = h1.1 → h39.2.1 = h1.2.1 → (pm_cmp0 .ge (Int8.ofInt (-2)).toInt32 = false) → ∀ h41, h41 = hs_sA h39 98 0 7 ((-(Int8.ofInt (-2)).toInt32)).toNatClampNeg ((hs_aI h39 98 ((-(Int8.ofInt (-2)).toInt32)).toNatClampNeg) + (Int32.ofInt 1)) → hs_Shape h41 → h41.1 = h39.1 → h41.2.1 = h39.2.1 → Q h41 (some (.int (Int8.ofInt (-2)).toInt32)))
    (k6 : ∀ h1, h1 = hs_sF h 97 11 0 (.int (Int32.ofInt 0)) → hs_Shape h1 → h1.1 = h.1 → h1.2.1 = h.2.1 → (pm_cmp .eq x1 (Int32.ofInt (-1)) = false) → (pm_cmp0 .lt (lg_cmp (x1).toInt64 (Int64.ofNat 0)) = false) → (pm_cmp0 .gt (lg_cmp (x1).toInt64 (((hs_aI h1 99 ((Int32.ofInt 3)).toNatClampNeg)).toInt64 - (Int64.ofNat 1))) = false) → (pm_cmp0 .eq (Int32.ofInt 1) = false) → (pm_cmp0 .eq (Int32.ofInt 1) = false) → ∀ h47, h47 = hs_sA h1 99 0 5498 ((Int32.ofInt 4)).toNatClampNeg x1 → hs_Shape h47 → h47.1 = h1.1 → h47.2.1 = h1.2.1 → ∀ h48, h48 = hs_sF h47 97 11 1 (.int (Int32.ofInt 0)) → hs_Shape h48 → h48.1 = h47.1 → h48.2.1 = h47.2.1 → Q h48 (some (.int (hs_aI h1 99 ((Int32.ofInt 4)).toNatClampNeg))))
    : hq_M X d 198 [.ref 97, .int x1] h Q := by
  obtain ⟨d, rfl⟩ : ∃ e, d = e + 1 := ⟨d - 1, by omega⟩
  refine hq_M.enter (q := (⟨"TrainBearersModel", "force", "(I)I"⟩, _, 2, some .int, 11, 2, pm_c198)) rfl rfl ?_
  show hq_W X d 11 false (some .int) pm_c198 (0, [some (.ref 97), some (.int x1)], [], h) Q
  refine hq_p rfl rfl ?_
  refine hq_p rfl rfl ?_
  refine hq_pFo S rfl rfl (by decide) rfl rfl ⟨_, rfl⟩ (fun h1 e1 S1 p1 q1 => ?_)
  refine hq_p rfl rfl ?_
  refine hq_p rfl rfl ?_
  refine hq_inv 0 rfl (fun _ => rfl) rfl rfl rfl (hq_pre_o S1 (x := 97) (ci := 11) rfl (by decide) rfl rfl rfl rfl) ?_
  refine wp_197 (x1 := x1) (by omega) S1 (fun c2 => b1 h1 e1 S1 p1 q1 c2) ?_ ?_ ?_ ?_
  · intro c3
    refine ⟨by omega, by omega, ?_⟩
    refine hq_if rfl (fun c4 => ?_) (fun c4 => ?_)
    · exact absurd c4 (by decide)
    · refine hq_p rfl rfl ?_
      refine hq_p rfl rfl ?_
      refine hq_p rfl rfl ?_
      refine hq_inv 0 rfl (fun _ => rfl) rfl rfl rfl (hq_pre_o S1 (x := 97) (ci := 11) rfl (by decide) rfl rfl rfl rfl) ?_
      refine wp_141 (x1 := (Int32.ofInt 4)) (x2 := x1) (by omega) S1 (b2 h1 e1 S1 p1 q1 c3 c4) (b3 h1 e1 S1 p1 q1 c3 c4) ?_
      · intro h5 e5 S5 p5 q5 h6 e6 S6 p6 q6
        refine ⟨by omega, by omega, ?_⟩
        refine hq_p rfl rfl ?_
        exact hq_W.ret rfl rfl rfl (k1 h1 e1 S1 p1 q1 c3 c4 h5 e5 S5 p5 q5 h6 e6 S6 p6 q6)
  · intro c7 c8 c9
    refine ⟨by omega, by omega, ?_⟩
    refine hq_if rfl (fun c10 => ?_) (fun c10 => ?_)
    · refine hq_p rfl rfl ?_
      refine hq_p rfl rfl ?_
      refine hq_inv 0 rfl (fun _ => rfl) rfl rfl rfl (hq_pre_o S1 (x := 97) (ci := 11) rfl (by decide) rfl rfl rfl rfl) ?_
      refine wp_140 (x1 := (Int8.ofInt (-2)).toInt32) (by omega) S1 (fun c11 h12 e12 S12 p12 q12 c13 => b4 h1 e1 S1 p1 q1 c7 c8 c9 c10 c11 h12 e12 S12 p12 q12 c13) (fun c14 h15 e15 S15 p15 q15 c16 => b5 h1 e1 S1 p1 q1 c7 c8 c9 c10 c14 h15 e15 S15 p15 q15 c16) ?_ ?_
      · intro c17 h18 e18 S18 p18 q18 c19
        refine ⟨by omega, by omega, ?_⟩
        exact hq_W.ret rfl rfl rfl (k2 h1 e1 S1 p1 q1 c7 c8 c9 c10 c17 h18 e18 S18 p18 q18 c19)
      · intro c20 h21 e21 S21 p21 q21 c22 h23 e23 S23 p23 q23
        refine ⟨by omega, by omega, ?_⟩
        exact hq_W.ret rfl rfl rfl (k3 h1 e1 S1 p1 q1 c7 c8 c9 c10 c20 h21 e21 S21 p21 q21 c22 h23 e23 S23 p23 q23)
    · exact absurd (c9.symm.trans c10) (by decide)
  · intro c24 c25 c26 c27
    refine ⟨by omega, by omega, ?_⟩
    refine hq_if rfl (fun c28 => ?_) (fun c28 => ?_)
    · refine hq_p rfl rfl ?_
      refine hq_p rfl rfl ?_
      refine hq_inv 0 rfl (fun _ => rfl) rfl rfl rfl (hq_pre_o S1 (x := 97) (ci := 11) rfl (by decide) rfl rfl rfl rfl) ?_
      refine wp_140 (x1 := (Int8.ofInt (-2)).toInt32) (by omega) S1 (fun c29 h30 e30 S30 p30 q30 c31 => b6 h1 e1 S1 p1 q1 c24 c25 c26 c27 c28 c29 h30 e30 S30 p30 q30 c31) (fun c32 h33 e33 S33 p33 q33 c34 => b7 h1 e1 S1 p1 q1 c24 c25 c26 c27 c28 c32 h33 e33 S33 p33 q33 c34) ?_ ?_
      · intro c35 h36 e36 S36 p36 q36 c37
        refine ⟨by omega, by omega, ?_⟩
        exact hq_W.ret rfl rfl rfl (k4 h1 e1 S1 p1 q1 c24 c25 c26 c27 c28 c35 h36 e36 S36 p36 q36 c37)
      · intro c38 h39 e39 S39 p39 q39 c40 h41 e41 S41 p41 q41
        refine ⟨by omega, by omega, ?_⟩
        exact hq_W.ret rfl rfl rfl (k5 h1 e1 S1 p1 q1 c24 c25 c26 c27 c28 c38 h39 e39 S39 p39 q39 c40 h41 e41 S41 p41 q41)
    · exact absurd (c27.symm.trans c28) (by decide)
  · intro c42 c43 c44 c45
    refine ⟨by omega, by omega, ?_⟩
    refine hq_if rfl (fun c46 => ?_) (fun c46 => ?_)
    · exact absurd (c45.symm.trans c46) (by decide)
    · refine hq_p rfl rfl ?_
      refine hq_p rfl rfl ?_
      refine hq_p rfl rfl ?_
      refine hq_inv 0 rfl (fun _ => rfl) rfl rfl rfl (hq_pre_o S1 (x := 97) (ci := 11) rfl (by decide) rfl rfl rfl rfl) ?_
      refine wp_141 (x1 := (Int32.ofInt 4)) (x2 := x1) (by omega) S1 (b8 h1 e1 S1 p1 q1 c42 c43 c44 c45 c46) (b9 h1 e1 S1 p1 q1 c42 c43 c44 c45 c46) ?_
      · intro h47 e47 S47 p47 q47 h48 e48 S48 p48 q48
        refine ⟨by omega, by omega, ?_⟩
        refine hq_p rfl rfl ?_
        exact hq_W.ret rfl rfl rfl (k6 h1 e1 S1 p1 q1 c42 c43 c44 c45 c46 h47 e47 S47 p47 q47 h48 e48 S48 p48 q48)
theorem wp_215 {X : pm_X} {d : Nat} {h : pm_H} {Q : pm_H → Option Value → Prop} {x1 : Int32} (hd : 1 ≤ d) (S : hs_Shape h)
    (b1 : 0 ≤ ((Int8.ofInt (8)).toInt32).toInt ∧ ((Int8.ofInt (8)).toInt32).toInt < (5498 : Nat))
    (b2 : 0 ≤ ((((Int8.ofInt (50)).toInt32 + ((Int8.ofInt (6)).toInt32 * (hs_aI h 99 ((Int8.ofInt (8)).toInt32).toNatClampNeg))) + x1)).toInt ∧ ((((Int8.ofInt (50)).toInt32 + ((Int8.ofInt (6)).toInt32 * (hs_aI h 99 ((Int8.ofInt (8)).toInt32).toNatClampNeg))) + x1)).toInt < (5498 : Nat))
    (k1 : (pm_cmp .eq (hs_aI h 99 ((((Int8.ofInt (50)).toInt32 + ((Int8.ofInt (6)).toInt32 * (hs_aI h 99 ((Int8.ofInt (8)).toInt32).toNatClampNeg))) + x1)).toNatClampNeg) (Int32.ofInt (-1)) = true) → Q h (some (.int (Int32.ofInt 0))))
    (k2 : (pm_cmp .eq (hs_aI h 99 ((((Int8.ofInt (50)).toInt32 + ((Int8.ofInt (6)).toInt32 * (hs_aI h 99 ((Int8.ofInt (8)).toInt32).toNatClampNeg))) + x1)).toNatClampNeg) (Int32.ofInt (-1)) = false) → Q h (some (.int (Int32.ofInt 1))))
    : hq_M X d 215 [.ref 97, .int x1] h Q := by
  obtain ⟨d, rfl⟩ : ∃ e, d = e + 1 := ⟨d - 1, by omega⟩
  refine hq_M.enter (q := (⟨"TrainBearersModel", "canWalk", "(I)Z"⟩, _, 2, some .boolean, 11, 2, pm_c215)) rfl rfl ?_
  show hq_W X d 11 false (some .boolean) pm_c215 (0, [some (.ref 97), some (.int x1)], [], h) Q
  refine hq_p rfl rfl ?_
  refine hq_gR S rfl rfl (by decide) (by decide) rfl ?_
  refine hq_p rfl rfl ?_
  refine hq_p rfl rfl ?_
  refine hq_p rfl rfl ?_
  refine hq_gR S rfl rfl (by decide) (by decide) rfl ?_
  refine hq_p rfl rfl ?_
  refine hq_aL S rfl rfl (by decide) (b1).1 (b1).2 ?_
  refine hq_p rfl rfl ?_
  refine hq_p rfl rfl ?_
  refine hq_p rfl rfl ?_
  refine hq_p rfl rfl ?_
  refine hq_aL S rfl rfl (by decide) (b2).1 (b2).2 ?_
  refine hq_p rfl rfl ?_
  refine hq_ifi rfl (fun c1 => ?_) (fun c1 => ?_)
  · refine hq_p rfl rfl ?_
    exact hq_W.ret rfl rfl rfl (k1 c1)
  · refine hq_p rfl rfl ?_
    refine hq_p rfl rfl ?_
    exact hq_W.ret rfl rfl rfl (k2 c1)
theorem wp_224 {X : pm_X} {d : Nat} {h : pm_H} {Q : pm_H → Option Value → Prop} {x1 : Int32} {x2 : Int32} {x3 : Int32} (hd : 1 ≤ d) (S : hs_Shape h)
    (b1 : (pm_cmp0 .ne (x2 &&& x3) = false) → 0 ≤ ((((Int16.ofInt (256)).toInt32 * x1) + x3)).toInt ∧ ((((Int16.ofInt (256)).toInt32 * x1) + x3)).toInt < (2048 : Nat))
    (b2 : (pm_cmp0 .ne (x2 &&& x3) = false) → (pm_cmp .ne (hs_aI h 120 ((((Int16.ofInt (256)).toInt32 * x1) + x3)).toNatClampNeg) (100000000 : Int32) = true) → 0 ≤ ((((Int16.ofInt (256)).toInt32 * x1) + x3)).toInt ∧ ((((Int16.ofInt (256)).toInt32 * x1) + x3)).toInt < (2048 : Nat))
    (b3 : (pm_cmp0 .ne (x2 &&& x3) = false) → (pm_cmp .ne (hs_aI h 120 ((((Int16.ofInt (256)).toInt32 * x1) + x3)).toNatClampNeg) (100000000 : Int32) = true) → 0 ≤ ((((Int16.ofInt (256)).toInt32 * (x1 + (Int32.ofInt 1))) + (x2 ||| x3))).toInt ∧ ((((Int16.ofInt (256)).toInt32 * (x1 + (Int32.ofInt 1))) + (x2 ||| x3))).toInt < (2304 : Nat))
    (k1 : (pm_cmp0 .ne (x2 &&& x3) = true) → Q h (some (.int (100000000 : Int32))))
    (k2 : (pm_cmp0 .ne (x2 &&& x3) = false) → (pm_cmp .ne (hs_aI h 120 ((((Int16.ofInt (256)).toInt32 * x1) + x3)).toNatClampNeg) (100000000 : Int32) = true) → Q h (some (.int ((hs_aI h 120 ((((Int16.ofInt (256)).toInt32 * x1) + x3)).toNatClampNeg) + (hs_aI h 121 ((((Int16.ofInt (256)).toInt32 * (x1 + (Int32.ofInt 1))) + (x2 ||| x3))).toNatClampNeg)))))
    (k3 : (pm_cmp0 .ne (x2 &&& x3) = false) → (pm_cmp .ne (hs_aI h 120 ((((Int16.ofInt (256)).toInt32 * x1) + x3)).toNatClampNeg) (100000000 : Int32) = false) → Q h (some (.int (100000000 : Int32))))
    : hq_M X d 224 [.ref 97, .int x1, .int x2, .int x3] h Q := by
  obtain ⟨d, rfl⟩ : ∃ e, d = e + 1 := ⟨d - 1, by omega⟩
  refine hq_M.enter (q := (⟨"TrainBearersModel", "with", "(III)I"⟩, _, 4, some .int, 11, 4, pm_c224)) rfl rfl ?_
  show hq_W X d 11 false (some .int) pm_c224 (0, [some (.ref 97), some (.int x1), some (.int x2), some (.int x3)], [], h) Q
  refine hq_p rfl rfl ?_
  refine hq_p rfl rfl ?_
  refine hq_p rfl rfl ?_
  refine hq_if rfl (fun c1 => ?_) (fun c1 => ?_)
  · refine hq_p rfl rfl ?_
    refine hq_p rfl rfl ?_
    exact hq_W.ret rfl rfl rfl (k1 c1)
  · refine hq_p rfl rfl ?_
    refine hq_gR S rfl rfl (by decide) (by decide) rfl ?_
    refine hq_p rfl rfl ?_
    refine hq_p rfl rfl ?_
    refine hq_p rfl rfl ?_
    refine hq_p rfl rfl ?_
    refine hq_p rfl rfl ?_
    refine hq_aL S rfl rfl (by decide) (b1 c1).1 (b1 c1).2 ?_
    refine hq_p rfl rfl ?_
    refine hq_ifi rfl (fun c2 => ?_) (fun c2 => ?_)
    · refine hq_p rfl rfl ?_
      refine hq_gR S rfl rfl (by decide) (by decide) rfl ?_
      refine hq_p rfl rfl ?_
      refine hq_p rfl rfl ?_
      refine hq_p rfl rfl ?_
      refine hq_p rfl rfl ?_
      refine hq_p rfl rfl ?_
      refine hq_aL S rfl rfl (by decide) (b2 c1 c2).1 (b2 c1 c2).2 ?_
      refine hq_p rfl rfl ?_
      refine hq_gR S rfl rfl (by decide) (by decide) rfl ?_
      refine hq_p rfl rfl ?_
      refine hq_p rfl rfl ?_
      refine hq_p rfl rfl ?_
      refine hq_p rfl rfl ?_
      refine hq_p rfl rfl ?_
      refine hq_p rfl rfl ?_
      refine hq_p rfl rfl ?_
      refine hq_p rfl rfl ?_
      refine hq_p rfl rfl ?_
      refine hq_aL S rfl rfl (by decide) (b3 c1 c2).1 (b3 c1 c2).2 ?_
      refine hq_p rfl rfl ?_
      exact hq_W.ret rfl rfl rfl (k2 c1 c2)
    · refine hq_p rfl rfl ?_
      refine hq_p rfl rfl ?_
      exact hq_W.ret rfl rfl rfl (k3 c1 c2)
theorem wp_228 {X : pm_X} {d : Nat} {h : pm_H} {Q : pm_H → Option Value → Prop} {x1 : Int32} {x2 : Int32} (hd : 3 ≤ d) (S : hs_Shape h)
    (b1 : ∀ h1, h1 = hs_sF h 97 11 0 (.int (Int32.ofInt 0)) → hs_Shape h1 → h1.1 = h.1 → h1.2.1 = h.2.1 → (pm_cmp0 .lt (lg_cmp (x2).toInt64 (Int64.ofNat 0)) = true) → (pm_cmp0 .ne (Int32.ofInt 0) = false) → (pm_cmp0 .ge (Int32.ofInt (-1)) = false) → ∀ h5, h5 = hs_sF h1 97 11 1 (.int (Int32.ofInt (-1))) → hs_Shape h5 → h5.1 = h1.1 → h5.2.1 = h1.2.1 → (pm_cmp0 .ge (Int32.ofInt (-1)) = false) → 0 ≤ ((-(Int32.ofInt (-1)))).toInt ∧ ((-(Int32.ofInt (-1)))).toInt < (7 : Nat))
    (b2 : ∀ h1, h1 = hs_sF h 97 11 0 (.int (Int32.ofInt 0)) → hs_Shape h1 → h1.1 = h.1 → h1.2.1 = h.2.1 → (pm_cmp0 .lt (lg_cmp (x2).toInt64 (Int64.ofNat 0)) = true) → (pm_cmp0 .ne (Int32.ofInt 0) = false) → (pm_cmp0 .ge (Int32.ofInt (-1)) = false) → ∀ h8, h8 = hs_sF h1 97 11 1 (.int (Int32.ofInt (-1))) → hs_Shape h8 → h8.1 = h1.1 → h8.2.1 = h1.2.1 → (pm_cmp0 .ge (Int32.ofInt (-1)) = false) → 0 ≤ ((-(Int32.ofInt (-1)))).toInt ∧ ((-(Int32.ofInt (-1)))).toInt < (7 : Nat))
    (b3 : ∀ h1, h1 = hs_sF h 97 11 0 (.int (Int32.ofInt 0)) → hs_Shape h1 → h1.1 = h.1 → h1.2.1 = h.2.1 → (pm_cmp0 .lt (lg_cmp (x2).toInt64 (Int64.ofNat 0)) = false) → (pm_cmp0 .gt (lg_cmp (x2).toInt64 (40 : Int64)) = true) → (pm_cmp0 .ne (Int32.ofInt 0) = false) → (pm_cmp0 .ge (Int32.ofInt (-1)) = false) → ∀ h21, h21 = hs_sF h1 97 11 1 (.int (Int32.ofInt (-1))) → hs_Shape h21 → h21.1 = h1.1 → h21.2.1 = h1.2.1 → (pm_cmp0 .ge (Int32.ofInt (-1)) = false) → 0 ≤ ((-(Int32.ofInt (-1)))).toInt ∧ ((-(Int32.ofInt (-1)))).toInt < (7 : Nat))
    (b4 : ∀ h1, h1 = hs_sF h 97 11 0 (.int (Int32.ofInt 0)) → hs_Shape h1 → h1.1 = h.1 → h1.2.1 = h.2.1 → (pm_cmp0 .lt (lg_cmp (x2).toInt64 (Int64.ofNat 0)) = false) → (pm_cmp0 .gt (lg_cmp (x2).toInt64 (40 : Int64)) = true) → (pm_cmp0 .ne (Int32.ofInt 0) = false) → (pm_cmp0 .ge (Int32.ofInt (-1)) = false) → ∀ h24, h24 = hs_sF h1 97 11 1 (.int (Int32.ofInt (-1))) → hs_Shape h24 → h24.1 = h1.1 → h24.2.1 = h1.2.1 → (pm_cmp0 .ge (Int32.ofInt (-1)) = false) → 0 ≤ ((-(Int32.ofInt (-1)))).toInt ∧ ((-(Int32.ofInt (-1)))).toInt < (7 : Nat))
    (b5 : ∀ h1, h1 = hs_sF h 97 11 0 (.int (Int32.ofInt 0)) → hs_Shape h1 → h1.1 = h.1 → h1.2.1 = h.2.1 → (pm_cmp0 .lt (lg_cmp (x2).toInt64 (Int64.ofNat 0)) = false) → (pm_cmp0 .gt (lg_cmp (x2).toInt64 (40 : Int64)) = false) → (pm_cmp0 .ne (Int32.ofInt 1) = true) → 0 ≤ ((Int32.ofInt 0)).toInt ∧ ((Int32.ofInt 0)).toInt < (5498 : Nat))
    (b6 : ∀ h1, h1 = hs_sF h 97 11 0 (.int (Int32.ofInt 0)) → hs_Shape h1 → h1.1 = h.1 → h1.2.1 = h.2.1 → (pm_cmp0 .lt (lg_cmp (x2).toInt64 (Int64.ofNat 0)) = false) → (pm_cmp0 .gt (lg_cmp (x2).toInt64 (40 : Int64)) = false) → (pm_cmp0 .ne (Int32.ofInt 1) = true) → (pm_cmp0 .lt (lg_cmp (x1).toInt64 (Int64.ofNat 0)) = true) → (pm_cmp0 .ne (Int32.ofInt 0) = false) → (pm_cmp0 .ge (Int8.ofInt (-2)).toInt32 = false) → ∀ h39, h39 = hs_sF h1 97 11 1 (.int (Int8.ofInt (-2)).toInt32) → hs_Shape h39 → h39.1 = h1.1 → h39.2.1 = h1.2.1 → (pm_cmp0 .ge (Int8.ofInt (-2)).toInt32 = false) → 0 ≤ ((-(Int8.ofInt (-2)).toInt32)).toInt ∧ ((-(Int8.ofInt (-2)).toInt32)).toInt < (7 : Nat))
    (b7 : ∀ h1, h1 = hs_sF h 97 11 0 (.int (Int32.ofInt 0)) → hs_Shape h1 → h1.1 = h.1 → h1.2.1 = h.2.1 → (pm_cmp0 .lt (lg_cmp (x2).toInt64 (Int64.ofNat 0)) = false) → (pm_cmp0 .gt (lg_cmp (x2).toInt64 (40 : Int64)) = false) → (pm_cmp0 .ne (Int32.ofInt 1) = true) → (pm_cmp0 .lt (lg_cmp (x1).toInt64 (Int64.ofNat 0)) = true) → (pm_cmp0 .ne (Int32.ofInt 0) = false) → (pm_cmp0 .ge (Int8.ofInt (-2)).toInt32 = false) → ∀ h42, h42 = hs_sF h1 97 11 1 (.int (Int8.ofInt (-2)).toInt32) → hs_Shape h42 → h42.1 = h1.1 → h42.2.1 = h1.2.1 → (pm_cmp0 .ge (Int8.ofInt (-2)).toInt32 = false) → 0 ≤ ((-(Int8.ofInt (-2)).toInt32)).toInt ∧ ((-(Int8.ofInt (-2)).toInt32)).toInt < (7 : Nat))
    (b8 : ∀ h1, h1 = hs_sF h 97 11 0 (.int (Int32.ofInt 0)) → hs_Shape h1 → h1.1 = h.1 → h1.2.1 = h.2.1 → (pm_cmp0 .lt (lg_cmp (x2).toInt64 (Int64.ofNat 0)) = false) → (pm_cmp0 .gt (lg_cmp (x2).toInt64 (40 : Int64)) = false) → (pm_cmp0 .ne (Int32.ofInt 1) = true) → (pm_cmp0 .lt (lg_cmp (x1).toInt64 (Int64.ofNat 0)) = false) → (pm_cmp0 .gt (lg_cmp (x1).toInt64 (((hs_aI h1 99 ((Int32.ofInt 0)).toNatClampNeg)).toInt64 - (Int64.ofNat 1))) = true) → (pm_cmp0 .ne (Int32.ofInt 0) = false) → (pm_cmp0 .ge (Int8.ofInt (-2)).toInt32 = false) → ∀ h55, h55 = hs_sF h1 97 11 1 (.int (Int8.ofInt (-2)).toInt32) → hs_Shape h55 → h55.1 = h1.1 → h55.2.1 = h1.2.1 → (pm_cmp0 .ge (Int8.ofInt (-2)).toInt32 = false) → 0 ≤ ((-(Int8.ofInt (-2)).toInt32)).toInt ∧ ((-(Int8.ofInt (-2)).toInt32)).toInt < (7 : Nat))
    (b9 : ∀ h1, h1 = hs_sF h 97 11 0 (.int (Int32.ofInt 0)) → hs_Shape h1 → h1.1 = h.1 → h1.2.1 = h.2.1 → (pm_cmp0 .lt (lg_cmp (x2).toInt64 (Int64.ofNat 0)) = false) → (pm_cmp0 .gt (lg_cmp (x2).toInt64 (40 : Int64)) = false) → (pm_cmp0 .ne (Int32.ofInt 1) = true) → (pm_cmp0 .lt (lg_cmp (x1).toInt64 (Int64.ofNat 0)) = false) → (pm_cmp0 .gt (lg_cmp (x1).toInt64 (((hs_aI h1 99 ((Int32.ofInt 0)).toNatClampNeg)).toInt64 - (Int64.ofNat 1))) = true) → (pm_cmp0 .ne (Int32.ofInt 0) = false) → (pm_cmp0 .ge (Int8.ofInt (-2)).toInt32 = false) → ∀ h58, h58 = hs_sF h1 97 11 1 (.int (Int8.ofInt (-2)).toInt32) → hs_Shape h58 → h58.1 = h1.1 → h58.2.1 = h1.2.1 → (pm_cmp0 .ge (Int8.ofInt (-2)).toInt32 = false) → 0 ≤ ((-(Int8.ofInt (-2)).toInt32)).toInt ∧ ((-(Int8.ofInt (-2)).toInt32)).toInt < (7 : Nat))
    (b10 : ∀ h1, h1 = hs_sF h 97 11 0 (.int (Int32.ofInt 0)) → hs_Shape h1 → h1.1 = h.1 → h1.2.1 = h.2.1 → (pm_cmp0 .lt (lg_cmp (x2).toInt64 (Int64.ofNat 0)) = false) → (pm_cmp0 .gt (lg_cmp (x2).toInt64 (40 : Int64)) = false) → (pm_cmp0 .ne (Int32.ofInt 1) = true) → (pm_cmp0 .lt (lg_cmp (x1).toInt64 (Int64.ofNat 0)) = false) → (pm_cmp0 .gt (lg_cmp (x1).toInt64 (((hs_aI h1 99 ((Int32.ofInt 0)).toNatClampNeg)).toInt64 - (Int64.ofNat 1))) = false) → (pm_cmp0 .ne (Int32.ofInt 1) = true) → 0 ≤ ((Int32.ofInt 2)).toInt ∧ ((Int32.ofInt 2)).toInt < (5498 : Nat))
    (b11 : ∀ h1, h1 = hs_sF h 97 11 0 (.int (Int32.ofInt 0)) → hs_Shape h1 → h1.1 = h.1 → h1.2.1 = h.2.1 → (pm_cmp0 .lt (lg_cmp (x2).toInt64 (Int64.ofNat 0)) = false) → (pm_cmp0 .gt (lg_cmp (x2).toInt64 (40 : Int64)) = false) → (pm_cmp0 .ne (Int32.ofInt 1) = true) → (pm_cmp0 .lt (lg_cmp (x1).toInt64 (Int64.ofNat 0)) = false) → (pm_cmp0 .gt (lg_cmp (x1).toInt64 (((hs_aI h1 99 ((Int32.ofInt 0)).toNatClampNeg)).toInt64 - (Int64.ofNat 1))) = false) → (pm_cmp0 .ne (Int32.ofInt 1) = true) → (pm_cmp .ne (hs_aI h1 99 ((Int32.ofInt 2)).toNatClampNeg) (Int8.ofInt (6)).toInt32 = true) → 0 ≤ (((Int8.ofInt (86)).toInt32 + ((Int32.ofInt 2) * (hs_aI h1 99 ((Int32.ofInt 2)).toNatClampNeg)))).toInt ∧ (((Int8.ofInt (86)).toInt32 + ((Int32.ofInt 2) * (hs_aI h1 99 ((Int32.ofInt 2)).toNatClampNeg)))).toInt < (5498 : Nat))
    (b12 : ∀ h1, h1 = hs_sF h 97 11 0 (.int (Int32.ofInt 0)) → hs_Shape h1 → h1.1 = h.1 → h1.2.1 = h.2.1 → (pm_cmp0 .lt (lg_cmp (x2).toInt64 (Int64.ofNat 0)) = false) → (pm_cmp0 .gt (lg_cmp (x2).toInt64 (40 : Int64)) = false) → (pm_cmp0 .ne (Int32.ofInt 1) = true) → (pm_cmp0 .lt (lg_cmp (x1).toInt64 (Int64.ofNat 0)) = false) → (pm_cmp0 .gt (lg_cmp (x1).toInt64 (((hs_aI h1 99 ((Int32.ofInt 0)).toNatClampNeg)).toInt64 - (Int64.ofNat 1))) = false) → (pm_cmp0 .ne (Int32.ofInt 1) = true) → (pm_cmp .ne (hs_aI h1 99 ((Int32.ofInt 2)).toNatClampNeg) (Int8.ofInt (6)).toInt32 = true) → ∀ h71, h71 = hs_sA h1 99 0 5498 (((Int8.ofInt (86)).toInt32 + ((Int32.ofInt 2) * (hs_aI h1 99 ((Int32.ofInt 2)).toNatClampNeg)))).toNatClampNeg x1 → hs_Shape h71 → h71.1 = h1.1 → h71.2.1 = h1.2.1 → 0 ≤ ((((Int8.ofInt (86)).toInt32 + ((Int32.ofInt 2) * (hs_aI h1 99 ((Int32.ofInt 2)).toNatClampNeg))) + (Int32.ofInt 1))).toInt ∧ ((((Int8.ofInt (86)).toInt32 + ((Int32.ofInt 2) * (hs_aI h1 99 ((Int32.ofInt 2)).toNatClampNeg))) + (Int32.ofInt 1))).toInt < (5498 : Nat))
    (b13 : ∀ h1, h1 = hs_sF h 97 11 0 (.int (Int32.ofInt 0)) → hs_Shape h1 → h1.1 = h.1 → h1.2.1 = h.2.1 → (pm_cmp0 .lt (lg_cmp (x2).toInt64 (Int64.ofNat 0)) = false) → (pm_cmp0 .gt (lg_cmp (x2).toInt64 (40 : Int64)) = false) → (pm_cmp0 .ne (Int32.ofInt 1) = true) → (pm_cmp0 .lt (lg_cmp (x1).toInt64 (Int64.ofNat 0)) = false) → (pm_cmp0 .gt (lg_cmp (x1).toInt64 (((hs_aI h1 99 ((Int32.ofInt 0)).toNatClampNeg)).toInt64 - (Int64.ofNat 1))) = false) → (pm_cmp0 .ne (Int32.ofInt 1) = true) → (pm_cmp .ne (hs_aI h1 99 ((Int32.ofInt 2)).toNatClampNeg) (Int8.ofInt (6)).toInt32 = true) → ∀ h71, h71 = hs_sA h1 99 0 5498 (((Int8.ofInt (86)).toInt32 + ((Int32.ofInt 2) * (hs_aI h1 99 ((Int32.ofInt 2)).toNatClampNeg)))).toNatClampNeg x1 → hs_Shape h71 → h71.1 = h1.1 → h71.2.1 = h1.2.1 → ∀ h72, h72 = hs_sA h71 99 0 5498 ((((Int8.ofInt (86)).toInt32 + ((Int32.ofInt 2) * (hs_aI h1 99 ((Int32.ofInt 2)).toNatClampNeg))) + (Int32.ofInt 1))).toNatClampNeg x2 → hs_Shape h72 → h72.1 = h71.1 → h72.2.1 = h71.2.1 → 0 ≤ ((Int32.ofInt 2)).toInt ∧ ((Int32.ofInt 2)).toInt < (5498 : Nat))
    (b14 : ∀ h1, h1 = hs_sF h 97 11 0 (.int (Int32.ofInt 0)) → hs_Shape h1 → h1.1 = h.1 → h1.2.1 = h.2.1 → (pm_cmp0 .lt (lg_cmp (x2).toInt64 (Int64.ofNat 0)) = false) → (pm_cmp0 .gt (lg_cmp (x2).toInt64 (40 : Int64)) = false) → (pm_cmp0 .ne (Int32.ofInt 1) = true) → (pm_cmp0 .lt (lg_cmp (x1).toInt64 (Int64.ofNat 0)) = false) → (pm_cmp0 .gt (lg_cmp (x1).toInt64 (((hs_aI h1 99 ((Int32.ofInt 0)).toNatClampNeg)).toInt64 - (Int64.ofNat 1))) = false) → (pm_cmp0 .ne (Int32.ofInt 1) = true) → (pm_cmp .ne (hs_aI h1 99 ((Int32.ofInt 2)).toNatClampNeg) (Int8.ofInt (6)).toInt32 = true) → ∀ h71, h71 = hs_sA h1 99 0 5498 (((Int8.ofInt (86)).toInt32 + ((Int32.ofInt 2) * (hs_aI h1 99 ((Int32.ofInt 2)).toNatClampNeg)))).toNatClampNeg x1 → hs_Shape h71 → h71.1 = h1.1 → h71.2.1 = h1.2.1 → ∀ h72, h72 = hs_sA h71 99 0 5498 ((((Int8.ofInt (86)).toInt32 + ((Int32.ofInt 2) * (hs_aI h1 99 ((Int32.ofInt 2)).toNatClampNeg))) + (Int32.ofInt 1))).toNatClampNeg x2 → hs_Shape h72 → h72.1 = h71.1 → h72.2.1 = h71.2.1 → 0 ≤ ((Int32.ofInt 2)).toInt ∧ ((Int32.ofInt 2)).toInt < (5498 : Nat))
    (b15 : ∀ h1, h1 = hs_sF h 97 11 0 (.int (Int32.ofInt 0)) → hs_Shape h1 → h1.1 = h.1 → h1.2.1 = h.2.1 → (pm_cmp0 .lt (lg_cmp (x2).toInt64 (Int64.ofNat 0)) = false) → (pm_cmp0 .gt (lg_cmp (x2).toInt64 (40 : Int64)) = false) → (pm_cmp0 .ne (Int32.ofInt 1) = true) → (pm_cmp0 .lt (lg_cmp (x1).toInt64 (Int64.ofNat 0)) = false) → (pm_cmp0 .gt (lg_cmp (x1).toInt64 (((hs_aI h1 99 ((Int32.ofInt 0)).toNatClampNeg)).toInt64 - (Int64.ofNat 1))) = false) → (pm_cmp0 .ne (Int32.ofInt 1) = true) → (pm_cmp .ne (hs_aI h1 99 ((Int32.ofInt 2)).toNatClampNeg) (Int8.ofInt (6)).toInt32 = true) → ∀ h71, h71 = hs_sA h1 99 0 5498 (((Int8.ofInt (86)).toInt32 + ((Int32.ofInt 2) * (hs_aI h1 99 ((Int32.ofInt 2)).toNatClampNeg)))).toNatClampNeg x1 → hs_Shape h71 → h71.1 = h1.1 → h71.2.1 = h1.2.1 → ∀ h72, h72 = hs_sA h71 99 0 5498 ((((Int8.ofInt (86)).toInt32 + ((Int32.ofInt 2) * (hs_aI h1 99 ((Int32.ofInt 2)).toNatClampNeg))) + (Int32.ofInt 1))).toNatClampNeg x2 → hs_Shape h72 → h72.1 = h71.1 → h72.2.1 = h71.2.1 → ∀ h73, h73 = hs_sA h72 99 0 5498 ((Int32.ofInt 2)).toNatClampNeg ((hs_aI h72 99 ((Int32.ofInt 2)).toNatClampNeg) + (Int32.ofInt 1)) → hs_Shape h73 → h73.1 = h72.1 → h73.2.1 = h72.2.1 → (pm_cmp0 .ge ((hs_aI h1 99 ((Int32.ofInt 2)).toNatClampNeg) + (Int32.ofInt 1)) = false) → ∀ h75, h75 = hs_sF h73 97 11 1 (.int ((hs_aI h1 99 ((Int32.ofInt 2)).toNatClampNeg) + (Int32.ofInt 1))) → hs_Shape h75 → h75.1 = h73.1 → h75.2.1 = h73.2.1 → (pm_cmp0 .ge ((hs_aI h1 99 ((Int32.ofInt 2)).toNatClampNeg) + (Int32.ofInt 1)) = false) → 0 ≤ ((-((hs_aI h1 99 ((Int32.ofInt 2)).toNatClampNeg) + (Int32.ofInt 1)))).toInt ∧ ((-((hs_aI h1 99 ((Int32.ofInt 2)).toNatClampNeg) + (Int32.ofInt 1)))).toInt < (7 : Nat))
    (b16 : ∀ h1, h1 = hs_sF h 97 11 0 (.int (Int32.ofInt 0)) → hs_Shape h1 → h1.1 = h.1 → h1.2.1 = h.2.1 → (pm_cmp0 .lt (lg_cmp (x2).toInt64 (Int64.ofNat 0)) = false) → (pm_cmp0 .gt (lg_cmp (x2).toInt64 (40 : Int64)) = false) → (pm_cmp0 .ne (Int32.ofInt 1) = true) → (pm_cmp0 .lt (lg_cmp (x1).toInt64 (Int64.ofNat 0)) = false) → (pm_cmp0 .gt (lg_cmp (x1).toInt64 (((hs_aI h1 99 ((Int32.ofInt 0)).toNatClampNeg)).toInt64 - (Int64.ofNat 1))) = false) → (pm_cmp0 .ne (Int32.ofInt 1) = true) → (pm_cmp .ne (hs_aI h1 99 ((Int32.ofInt 2)).toNatClampNeg) (Int8.ofInt (6)).toInt32 = true) → ∀ h71, h71 = hs_sA h1 99 0 5498 (((Int8.ofInt (86)).toInt32 + ((Int32.ofInt 2) * (hs_aI h1 99 ((Int32.ofInt 2)).toNatClampNeg)))).toNatClampNeg x1 → hs_Shape h71 → h71.1 = h1.1 → h71.2.1 = h1.2.1 → ∀ h72, h72 = hs_sA h71 99 0 5498 ((((Int8.ofInt (86)).toInt32 + ((Int32.ofInt 2) * (hs_aI h1 99 ((Int32.ofInt 2)).toNatClampNeg))) + (Int32.ofInt 1))).toNatClampNeg x2 → hs_Shape h72 → h72.1 = h71.1 → h72.2.1 = h71.2.1 → ∀ h73, h73 = hs_sA h72 99 0 5498 ((Int32.ofInt 2)).toNatClampNeg ((hs_aI h72 99 ((Int32.ofInt 2)).toNatClampNeg) + (Int32.ofInt 1)) → hs_Shape h73 → h73.1 = h72.1 → h73.2.1 = h72.2.1 → (pm_cmp0 .ge ((hs_aI h1 99 ((Int32.ofInt 2)).toNatClampNeg) + (Int32.ofInt 1)) = false) → ∀ h78, h78 = hs_sF h73 97 11 1 (.int ((hs_aI h1 99 ((Int32.ofInt 2)).toNatClampNeg) + (Int32.ofInt 1))) → hs_Shape h78 → h78.1 = h73.1 → h78.2.1 = h73.2.1 → (pm_cmp0 .ge ((hs_aI h1 99 ((Int32.ofInt 2)).toNatClampNeg) + (Int32.ofInt 1)) = false) → 0 ≤ ((-((hs_aI h1 99 ((Int32.ofInt 2)).toNatClampNeg) + (Int32.ofInt 1)))).toInt ∧ ((-((hs_aI h1 99 ((Int32.ofInt 2)).toNatClampNeg) + (Int32.ofInt 1)))).toInt < (7 : Nat))
    (b17 : ∀ h1, h1 = hs_sF h 97 11 0 (.int (Int32.ofInt 0)) → hs_Shape h1 → h1.1 = h.1 → h1.2.1 = h.2.1 → (pm_cmp0 .lt (lg_cmp (x2).toInt64 (Int64.ofNat 0)) = false) → (pm_cmp0 .gt (lg_cmp (x2).toInt64 (40 : Int64)) = false) → (pm_cmp0 .ne (Int32.ofInt 1) = true) → (pm_cmp0 .lt (lg_cmp (x1).toInt64 (Int64.ofNat 0)) = false) → (pm_cmp0 .gt (lg_cmp (x1).toInt64 (((hs_aI h1 99 ((Int32.ofInt 0)).toNatClampNeg)).toInt64 - (Int64.ofNat 1))) = false) → (pm_cmp0 .ne (Int32.ofInt 1) = true) → (pm_cmp .ne (hs_aI h1 99 ((Int32.ofInt 2)).toNatClampNeg) (Int8.ofInt (6)).toInt32 = false) → (pm_cmp0 .ge (Int8.ofInt (-5)).toInt32 = false) → ∀ h88, h88 = hs_sF h1 97 11 1 (.int (Int8.ofInt (-5)).toInt32) → hs_Shape h88 → h88.1 = h1.1 → h88.2.1 = h1.2.1 → (pm_cmp0 .ge (Int8.ofInt (-5)).toInt32 = false) → 0 ≤ ((-(Int8.ofInt (-5)).toInt32)).toInt ∧ ((-(Int8.ofInt (-5)).toInt32)).toInt < (7 : Nat))
    (b18 : ∀ h1, h1 = hs_sF h 97 11 0 (.int (Int32.ofInt 0)) → hs_Shape h1 → h1.1 = h.1 → h1.2.1 = h.2.1 → (pm_cmp0 .lt (lg_cmp (x2).toInt64 (Int64.ofNat 0)) = false) → (pm_cmp0 .gt (lg_cmp (x2).toInt64 (40 : Int64)) = false) → (pm_cmp0 .ne (Int32.ofInt 1) = true) → (pm_cmp0 .lt (lg_cmp (x1).toInt64 (Int64.ofNat 0)) = false) → (pm_cmp0 .gt (lg_cmp (x1).toInt64 (((hs_aI h1 99 ((Int32.ofInt 0)).toNatClampNeg)).toInt64 - (Int64.ofNat 1))) = false) → (pm_cmp0 .ne (Int32.ofInt 1) = true) → (pm_cmp .ne (hs_aI h1 99 ((Int32.ofInt 2)).toNatClampNeg) (Int8.ofInt (6)).toInt32 = false) → (pm_cmp0 .ge (Int8.ofInt (-5)).toInt32 = false) → ∀ h91, h91 = hs_sF h1 97 11 1 (.int (Int8.ofInt (-5)).toInt32) → hs_Shape h91 → h91.1 = h1.1 → h91.2.1 = h1.2.1 → (pm_cmp0 .ge (Int8.ofInt (-5)).toInt32 = false) → 0 ≤ ((-(Int8.ofInt (-5)).toInt32)).toInt ∧ ((-(Int8.ofInt (-5)).toInt32)).toInt < (7 : Nat))
    (k1 : ∀ h1, h1 = hs_sF h 97 11 0 (.int (Int32.ofInt 0)) → hs_Shape h1 → h1.1 = h.1 → h1.2.1 = h.2.1 → (pm_cmp0 .lt (lg_cmp (x2).toInt64 (Int64.ofNat 0)) = true) → (pm_cmp0 .ne (Int32.ofInt 0) = false) → (pm_cmp0 .ge (Int32.ofInt (-1)) = false) → ∀ h14, h14 = hs_sF h1 97 11 1 (.int (Int32.ofInt (-1))) → hs_Shape h14 → h14.1 = h1.1 → h14.2.1 = h1.2.1 → (pm_cmp0 .ge (Int32.ofInt (-1)) = false) → ∀ h16, h16 = hs_sA h14 98 0 7 ((-(Int32.ofInt (-1)))).toNatClampNeg ((hs_aI h14 98 ((-(Int32.ofInt (-1)))).toNatClampNeg) + (Int32.ofInt 1)) → hs_Shape h16 → h16.1 = h14.1 → h16.2.1 = h14.2.1 → Q h16 (some (.int (Int32.ofInt (-1)))))
    (k2 : ∀ h1, h1 = hs_sF h 97 11 0 (.int (Int32.ofInt 0)) → hs_Shape h1 → h1.1 = h.1 → h1.2.1 = h.2.1 → (pm_cmp0 .lt (lg_cmp (x2).toInt64 (Int64.ofNat 0)) = false) → (pm_cmp0 .gt (lg_cmp (x2).toInt64 (40 : Int64)) = true) → (pm_cmp0 .ne (Int32.ofInt 0) = false) → (pm_cmp0 .ge (Int32.ofInt (-1)) = false) → ∀ h30, h30 = hs_sF h1 97 11 1 (.int (Int32.ofInt (-1))) → hs_Shape h30 → h30.1 = h1.1 → h30.2.1 = h1.2.1 → (pm_cmp0 .ge (Int32.ofInt (-1)) = false) → ∀ h32, h32 = hs_sA h30 98 0 7 ((-(Int32.ofInt (-1)))).toNatClampNeg ((hs_aI h30 98 ((-(Int32.ofInt (-1)))).toNatClampNeg) + (Int32.ofInt 1)) → hs_Shape h32 → h32.1 = h30.1 → h32.2.1 = h30.2.1 → Q h32 (some (.int (Int32.ofInt (-1)))))
    (k3 : ∀ h1, h1 = hs_sF h 97 11 0 (.int (Int32.ofInt 0)) → hs_Shape h1 → h1.1 = h.1 → h1.2.1 = h.2.1 → (pm_cmp0 .lt (lg_cmp (x2).toInt64 (Int64.ofNat 0)) = false) → (pm_cmp0 .gt (lg_cmp (x2).toInt64 (40 : Int64)) = false) → (pm_cmp0 .ne (Int32.ofInt 1) = true) → (pm_cmp0 .lt (lg_cmp (x1).toInt64 (Int64.ofNat 0)) = true) → (pm_cmp0 .ne (Int32.ofInt 0) = false) → (pm_cmp0 .ge (Int8.ofInt (-2)).toInt32 = true) → ∀ h45, h45 = hs_sF h1 97 11 1 (.int (Int32.ofInt 0)) → hs_Shape h45 → h45.1 = h1.1 → h45.2.1 = h1.2.1 → (pm_cmp0 .ge (Int8.ofInt (-2)).toInt32 = true) → Q h45 (some (.int (Int8.ofInt (-2)).toInt32)))
    (k4 : ∀ h1, h1 = hs_sF h 97 11 0 (.int (Int32.ofInt 0)) → hs_Shape h1 → h1.1 = h.1 → h1.2.1 = h.2.1 → (pm_cmp0 .lt (lg_cmp (x2).toInt64 (Int64.ofNat 0)) = false) → (pm_cmp0 .gt (lg_cmp (x2).toInt64 (40 : Int64)) = false) → (pm_cmp0 .ne (Int32.ofInt 1) = true) → (pm_cmp0 .lt (lg_cmp (x1).toInt64 (Int64.ofNat 0)) = true) → (pm_cmp0 .ne (Int32.ofInt 0) = false) → (pm_cmp0 .ge (Int8.ofInt (-2)).toInt32 = false) → ∀ h48, h48 = hs_sF h1 97 11 1 (.int (Int8.ofInt (-2)).toInt32) → hs_Shape h48 → h48.1 = h1.1 → h48.2.1 = h1.2.1 → (pm_cmp0 .ge (Int8.ofInt (-2)).toInt32 = false) → ∀ h50, h50 = hs_sA h48 98 0 7 ((-(Int8.ofInt (-2)).toInt32)).toNatClampNeg ((hs_aI h48 98 ((-(Int8.ofInt (-2)).toInt32)).toNatClampNeg) + (Int32.ofInt 1)) → hs_Shape h50 → h50.1 = h48.1 → h50.2.1 = h48.2.1 → Q h50 (some (.int (Int8.ofInt (-2)).toInt32)))
    (k5 : ∀ h1, h1 = hs_sF h 97 11 0 (.int (Int32.ofInt 0)) → hs_Shape h1 → h1.1 = h.1 → h1.2.1 = h.2.1 → (pm_cmp0 .lt (lg_cmp (x2).toInt64 (Int64.ofNat 0)) = false) → (pm_cmp0 .gt (lg_cmp (x2).toInt64 (40 : Int64)) = false) → (pm_cmp0 .ne (Int32.ofInt 1) = true) → (pm_cmp0 .lt (lg_cmp (x1).toInt64 (Int64.ofNat 0)) = false) → (pm_cmp0 .gt (lg_cmp (x1).toInt64 (((hs_aI h1 99 ((Int32.ofInt 0)).toNatClampNeg)).toInt64 - (Int64.ofNat 1))) = true) → (pm_cmp0 .ne (Int32.ofInt 0) = false) → (pm_cmp0 .ge (Int8.ofInt (-2)).toInt32 = true) → ∀ h61, h61 = hs_sF h1 97 11 1 (.int (Int32.ofInt 0)) → hs_Shape h61 → h61.1 = h1.1 → h61.2.1 = h1.2.1 → (pm_cmp0 .ge (Int8.ofInt (-2)).toInt32 = true) → Q h61 (some (.int (Int8.ofInt (-2)).toInt32)))
    (k6 : ∀ h1, h1 = hs_sF h 97 11 0 (.int (Int32.ofInt 0)) → hs_Shape h1 → h1.1 = h.1 → h1.2.1 = h.2.1 → (pm_cmp0 .lt (lg_cmp (x2).toInt64 (Int64.ofNat 0)) = false) → (pm_cmp0 .gt (lg_cmp (x2).toInt64 (40 : Int64)) = false) → (pm_cmp0 .ne (Int32.ofInt 1) = true) → (pm_cmp0 .lt (lg_cmp (x1).toInt64 (Int64.ofNat 0)) = false) → (pm_cmp0 .gt (lg_cmp (x1).toInt64 (((hs_aI h1 99 ((Int32.ofInt 0)).toNatClampNeg)).toInt64 - (Int64.ofNat 1))) = true) → (pm_cmp0 .ne (Int32.ofInt 0) = false) → (pm_cmp0 .ge (Int8.ofInt (-2)).toInt32 = false) → ∀ h64, h64 = hs_sF h1 97 11 1 (.int (Int8.ofInt (-2)).toInt32) → hs_Shape h64 → h64.1 = h1.1 → h64.2.1 = h1.2.1 → (pm_cmp0 .ge (Int8.ofInt (-2)).toInt32 = false) → ∀ h66, h66 = hs_sA h64 98 0 7 ((-(Int8.ofInt (-2)).toInt32)).toNatClampNeg ((hs_aI h64 98 ((-(Int8.ofInt (-2)).toInt32)).toNatClampNeg) + (Int32.ofInt 1)) → hs_Shape h66 → h66.1 = h64.1 → h66.2.1 = h64.2.1 → Q h66 (some (.int (Int8.ofInt (-2)).toInt32)))
    (k7 : ∀ h1, h1 = hs_sF h 97 11 0 (.int (Int32.ofInt 0)) → hs_Shape h1 → h1.1 = h.1 → h1.2.1 = h.2.1 → (pm_cmp0 .lt (lg_cmp (x2).toInt64 (Int64.ofNat 0)) = false) → (pm_cmp0 .gt (lg_cmp (x2).toInt64 (40 : Int64)) = false) → (pm_cmp0 .ne (Int32.ofInt 1) = true) → (pm_cmp0 .lt (lg_cmp (x1).toInt64 (Int64.ofNat 0)) = false) → (pm_cmp0 .gt (lg_cmp (x1).toInt64 (((hs_aI h1 99 ((Int32.ofInt 0)).toNatClampNeg)).toInt64 - (Int64.ofNat 1))) = false) → (pm_cmp0 .ne (Int32.ofInt 1) = true) → (pm_cmp .ne (hs_aI h1 99 ((Int32.ofInt 2)).toNatClampNeg) (Int8.ofInt (6)).toInt32 = true) → ∀ h71, h71 = hs_sA h1 99 0 5498 (((Int8.ofInt (86)).toInt32 + ((Int32.ofInt 2) * (hs_aI h1 99 ((Int32.ofInt 2)).toNatClampNeg)))).toNatClampNeg x1 → hs_Shape h71 → h71.1 = h1.1 → h71.2.1 = h1.2.1 → ∀ h72, h72 = hs_sA h71 99 0 5498 ((((Int8.ofInt (86)).toInt32 + ((Int32.ofInt 2) * (hs_aI h1 99 ((Int32.ofInt 2)).toNatClampNeg))) + (Int32.ofInt 1))).toNatClampNeg x2 → hs_Shape h72 → h72.1 = h71.1 → h72.2.1 = h71.2.1 → ∀ h73, h73 = hs_sA h72 99 0 5498 ((Int32.ofInt 2)).toNatClampNeg ((hs_aI h72 99 ((Int32.ofInt 2)).toNatClampNeg) + (Int32.ofInt 1)) → hs_Shape h73 → h73.1 = h72.1 → h73.2.1 = h72.2.1 → (pm_cmp0 .ge ((hs_aI h1 99 ((Int32.ofInt 2)).toNatClampNeg) + (Int32.ofInt 1)) = true) → ∀ h81, h81 = hs_sF h73 97 11 1 (.int (Int32.ofInt 0)) → hs_Shape h81 → h81.1 = h73.1 → h81.2.1 = h73.2.1 → (pm_cmp0 .ge ((hs_aI h1 99 ((Int32.ofInt 2)).toNatClampNeg) + (Int32.ofInt 1)) = true) → Q h81 (some (.int ((hs_aI h1 99 ((Int32.ofInt 2)).toNatClampNeg) + (Int32.ofInt 1)))))
    (k8 : ∀ h1, h1 = hs_sF h 97 11 0 (.int (Int32.ofInt 0)) → hs_Shape h1 → h1.1 = h.1 → h1.2.1 = h.2.1 → (pm_cmp0 .lt (lg_cmp (x2).toInt64 (Int64.ofNat 0)) = false) → (pm_cmp0 .gt (lg_cmp (x2).toInt64 (40 : Int64)) = false) → (pm_cmp0 .ne (Int32.ofInt 1) = true) → (pm_cmp0 .lt (lg_cmp (x1).toInt64 (Int64.ofNat 0)) = false) → (pm_cmp0 .gt (lg_cmp (x1).toInt64 (((hs_aI h1 99 ((Int32.ofInt 0)).toNatClampNeg)).toInt64 - (Int64.ofNat 1))) = false) → (pm_cmp0 .ne (Int32.ofInt 1) = true) → (pm_cmp .ne (hs_aI h1 99 ((Int32.ofInt 2)).toNatClampNeg) (Int8.ofInt (6)).toInt32 = true) → ∀ h71, h71 = hs_sA h1 99 0 5498 (((Int8.ofInt (86)).toInt32 + ((Int32.ofInt 2) * (hs_aI h1 99 ((Int32.ofInt 2)).toNatClampNeg)))).toNatClampNeg x1 → hs_Shape h71 → h71.1 = h1.1 → h71.2.1 = h1.2.1 → ∀ h72, h72 = hs_sA h71 99 0 5498 ((((Int8.ofInt (86)).toInt32 + ((Int32.ofInt 2) * (hs_aI h1 99 ((Int32.ofInt 2)).toNatClampNeg))) + (Int32.ofInt 1))).toNatClampNeg x2 → hs_Shape h72 → h72.1 = h71.1 → h72.2.1 = h71.2.1 → ∀ h73, h73 = hs_sA h72 99 0 5498 ((Int32.ofInt 2)).toNatClampNeg ((hs_aI h72 99 ((Int32.ofInt 2)).toNatClampNeg) + (Int32.ofInt 1)) → hs_Shape h73 → h73.1 = h72.1 → h73.2.1 = h72.2.1 → (pm_cmp0 .ge ((hs_aI h1 99 ((Int32.ofInt 2)).toNatClampNeg) + (Int32.ofInt 1)) = false) → ∀ h84, h84 = hs_sF h73 97 11 1 (.int ((hs_aI h1 99 ((Int32.ofInt 2)).toNatClampNeg) + (Int32.ofInt 1))) → hs_Shape h84 → h84.1 = h73.1 → h84.2.1 = h73.2.1 → (pm_cmp0 .ge ((hs_aI h1 99 ((Int32.ofInt 2)).toNatClampNeg) + (Int32.ofInt 1)) = false) → ∀ h86, h86 = hs_sA h84 98 0 7 ((-((hs_aI h1 99 ((Int32.ofInt 2)).toNatClampNeg) + (Int32.ofInt 1)))).toNatClampNeg ((hs_aI h84 98 ((-((hs_aI h1 99 ((Int32.ofInt 2)).toNatClampNeg) + (Int32.ofInt 1)))).toNatClampNeg) + (Int32.ofInt 1)) → hs_Shape h86 → h86.1 = h84.1 → h86.2.1 = h84.2.1 → Q h86 (some (.int ((hs_aI h1 99 ((Int32.ofInt 2)).toNatClampNeg) + (Int32.ofInt 1)))))
    (k9 : ∀ h1, h1 = hs_sF h 97 11 0 (.int (Int32.ofInt 0)) → hs_Shape h1 → h1.1 = h.1 → h1.2.1 = h.2.1 → (pm_cmp0 .lt (lg_cmp (x2).toInt64 (Int64.ofNat 0)) = false) → (pm_cmp0 .gt (lg_cmp (x2).toInt64 (40 : Int64)) = false) → (pm_cmp0 .ne (Int32.ofInt 1) = true) → (pm_cmp0 .lt (lg_cmp (x1).toInt64 (Int64.ofNat 0)) = false) → (pm_cmp0 .gt (lg_cmp (x1).toInt64 (((hs_aI h1 99 ((Int32.ofInt 0)).toNatClampNeg)).toInt64 - (Int64.ofNat 1))) = false) → (pm_cmp0 .ne (Int32.ofInt 1) = true) → (pm_cmp .ne (hs_aI h1 99 ((Int32.ofInt 2)).toNatClampNeg) (Int8.ofInt (6)).toInt32 = false) → (pm_cmp0 .ge (Int8.ofInt (-5)).toInt32 = true) → ∀ h94, h94 = hs_sF h1 97 11 1 (.int (Int32.ofInt 0)) → hs_Shape h94 → h94.1 = h1.1 → h94.2.1 = h1.2.1 → (pm_cmp0 .ge (Int8.ofInt (-5)).toInt32 = true) → Q h94 (some (.int (Int8.ofInt (-5)).toInt32)))
    (k10 : ∀ h1, h1 = hs_sF h 97 11 0 (.int (Int32.ofInt 0)) → hs_Shape h1 → h1.1 = h.1 → h1.2.1 = h.2.1 → (pm_cmp0 .lt (lg_cmp (x2).toInt64 (Int64.ofNat 0)) = false) → (pm_cmp0 .gt (lg_cmp (x2).toInt64 (40 : Int64)) = false) → (pm_cmp0 .ne (Int32.ofInt 1) = true) → (pm_cmp0 .lt (lg_cmp (x1).toInt64 (Int64.ofNat 0)) = false) → (pm_cmp0 .gt (lg_cmp (x1).toInt64 (((hs_aI h1 99 ((Int32.ofInt 0)).toNatClampNeg)).toInt64 - (Int64.ofNat 1))) = false) → (pm_cmp0 .ne (Int32.ofInt 1) = true) → (pm_cmp .ne (hs_aI h1 99 ((Int32.ofInt 2)).toNatClampNeg) (Int8.ofInt (6)).toInt32 = false) → (pm_cmp0 .ge (Int8.ofInt (-5)).toInt32 = false) → ∀ h97, h97 = hs_sF h1 97 11 1 (.int (Int8.ofInt (-5)).toInt32) → hs_Shape h97 → h97.1 = h1.1 → h97.2.1 = h1.2.1 → (pm_cmp0 .ge (Int8.ofInt (-5)).toInt32 = false) → ∀ h99, h99 = hs_sA h97 98 0 7 ((-(Int8.ofInt (-5)).toInt32)).toNatClampNeg ((hs_aI h97 98 ((-(Int8.ofInt (-5)).toInt32)).toNatClampNeg) + (Int32.ofInt 1)) → hs_Shape h99 → h99.1 = h97.1 → h99.2.1 = h97.2.1 → Q h99 (some (.int (Int8.ofInt (-5)).toInt32)))
    : hq_M X d 228 [.ref 97, .int x1, .int x2] h Q := by
  obtain ⟨d, rfl⟩ : ∃ e, d = e + 1 := ⟨d - 1, by omega⟩
  refine hq_M.enter (q := (⟨"TrainBearersModel", "seen", "(II)I"⟩, _, 4, some .int, 11, 3, pm_c228)) rfl rfl ?_
  show hq_W X d 11 false (some .int) pm_c228 (0, [some (.ref 97), some (.int x1), some (.int x2), none], [], h) Q
  refine hq_p rfl rfl ?_
  refine hq_p rfl rfl ?_
  refine hq_pFo S rfl rfl (by decide) rfl rfl ⟨_, rfl⟩ (fun h1 e1 S1 p1 q1 => ?_)
  refine hq_p rfl rfl ?_
  refine hq_p rfl rfl ?_
  refine hq_p rfl rfl ?_
  refine hq_p rfl rfl ?_
  refine hq_inv 1 rfl (fun _ => rfl) rfl rfl rfl rfl ?_
  refine wp_136 (x1 := (x2).toInt64) (x2 := (Int64.ofNat 0)) (x3 := (40 : Int64)) (by omega) S1  ?_ ?_ ?_
  · intro c2
    refine ⟨by omega, by omega, ?_⟩
    refine hq_if rfl (fun c3 => ?_) (fun c3 => ?_)
    · exact absurd c3 (by decide)
    · refine hq_p rfl rfl ?_
      refine hq_p rfl rfl ?_
      refine hq_inv 0 rfl (fun _ => rfl) rfl rfl rfl (hq_pre_o S1 (x := 97) (ci := 11) rfl (by decide) rfl rfl rfl rfl) ?_
      refine wp_140 (x1 := (Int32.ofInt (-1))) (by omega) S1 (fun c4 h5 e5 S5 p5 q5 c6 => b1 h1 e1 S1 p1 q1 c2 c3 c4 h5 e5 S5 p5 q5 c6) (fun c7 h8 e8 S8 p8 q8 c9 => b2 h1 e1 S1 p1 q1 c2 c3 c7 h8 e8 S8 p8 q8 c9) ?_ ?_
      · intro c10 h11 e11 S11 p11 q11 c12
        exact absurd c10 (by decide)
      · intro c13 h14 e14 S14 p14 q14 c15 h16 e16 S16 p16 q16
        refine ⟨by omega, by omega, ?_⟩
        exact hq_W.ret rfl rfl rfl (k1 h1 e1 S1 p1 q1 c2 c3 c13 h14 e14 S14 p14 q14 c15 h16 e16 S16 p16 q16)
  · intro c17 c18
    refine ⟨by omega, by omega, ?_⟩
    refine hq_if rfl (fun c19 => ?_) (fun c19 => ?_)
    · exact absurd c19 (by decide)
    · refine hq_p rfl rfl ?_
      refine hq_p rfl rfl ?_
      refine hq_inv 0 rfl (fun _ => rfl) rfl rfl rfl (hq_pre_o S1 (x := 97) (ci := 11) rfl (by decide) rfl rfl rfl rfl) ?_
      refine wp_140 (x1 := (Int32.ofInt (-1))) (by omega) S1 (fun c20 h21 e21 S21 p21 q21 c22 => b3 h1 e1 S1 p1 q1 c17 c18 c19 c20 h21 e21 S21 p21 q21 c22) (fun c23 h24 e24 S24 p24 q24 c25 => b4 h1 e1 S1 p1 q1 c17 c18 c19 c23 h24 e24 S24 p24 q24 c25) ?_ ?_
      · intro c26 h27 e27 S27 p27 q27 c28
        exact absurd c26 (by decide)
      · intro c29 h30 e30 S30 p30 q30 c31 h32 e32 S32 p32 q32
        refine ⟨by omega, by omega, ?_⟩
        exact hq_W.ret rfl rfl rfl (k2 h1 e1 S1 p1 q1 c17 c18 c19 c29 h30 e30 S30 p30 q30 c31 h32 e32 S32 p32 q32)
  · intro c33 c34
    refine ⟨by omega, by omega, ?_⟩
    refine hq_if rfl (fun c35 => ?_) (fun c35 => ?_)
    · refine hq_p rfl rfl ?_
      refine hq_p rfl rfl ?_
      refine hq_inv 0 rfl (fun _ => rfl) rfl rfl rfl (hq_pre_o S1 (x := 97) (ci := 11) rfl (by decide) rfl rfl rfl rfl) ?_
      refine wp_149 (x1 := x1) (by omega) S1 (b5 h1 e1 S1 p1 q1 c33 c34 c35) ?_ ?_ ?_
      · intro c36
        refine ⟨by omega, by omega, ?_⟩
        refine hq_if rfl (fun c37 => ?_) (fun c37 => ?_)
        · exact absurd c37 (by decide)
        · refine hq_p rfl rfl ?_
          refine hq_p rfl rfl ?_
          refine hq_inv 0 rfl (fun _ => rfl) rfl rfl rfl (hq_pre_o S1 (x := 97) (ci := 11) rfl (by decide) rfl rfl rfl rfl) ?_
          refine wp_140 (x1 := (Int8.ofInt (-2)).toInt32) (by omega) S1 (fun c38 h39 e39 S39 p39 q39 c40 => b6 h1 e1 S1 p1 q1 c33 c34 c35 c36 c37 c38 h39 e39 S39 p39 q39 c40) (fun c41 h42 e42 S42 p42 q42 c43 => b7 h1 e1 S1 p1 q1 c33 c34 c35 c36 c37 c41 h42 e42 S42 p42 q42 c43) ?_ ?_
          · intro c44 h45 e45 S45 p45 q45 c46
            refine ⟨by omega, by omega, ?_⟩
            exact hq_W.ret rfl rfl rfl (k3 h1 e1 S1 p1 q1 c33 c34 c35 c36 c37 c44 h45 e45 S45 p45 q45 c46)
          · intro c47 h48 e48 S48 p48 q48 c49 h50 e50 S50 p50 q50
            refine ⟨by omega, by omega, ?_⟩
            exact hq_W.ret rfl rfl rfl (k4 h1 e1 S1 p1 q1 c33 c34 c35 c36 c37 c47 h48 e48 S48 p48 q48 c49 h50 e50 S50 p50 q50)
      · intro c51 c52
        refine ⟨by omega, by omega, ?_⟩
        refine hq_if rfl (fun c53 => ?_) (fun c53 => ?_)
        · exact absurd c53 (by decide)
        · refine hq_p rfl rfl ?_
          refine hq_p rfl rfl ?_
          refine hq_inv 0 rfl (fun _ => rfl) rfl rfl rfl (hq_pre_o S1 (x := 97) (ci := 11) rfl (by decide) rfl rfl rfl rfl) ?_
          refine wp_140 (x1 := (Int8.ofInt (-2)).toInt32) (by omega) S1 (fun c54 h55 e55 S55 p55 q55 c56 => b8 h1 e1 S1 p1 q1 c33 c34 c35 c51 c52 c53 c54 h55 e55 S55 p55 q55 c56) (fun c57 h58 e58 S58 p58 q58 c59 => b9 h1 e1 S1 p1 q1 c33 c34 c35 c51 c52 c53 c57 h58 e58 S58 p58 q58 c59) ?_ ?_
          · intro c60 h61 e61 S61 p61 q61 c62
            refine ⟨by omega, by omega, ?_⟩
            exact hq_W.ret rfl rfl rfl (k5 h1 e1 S1 p1 q1 c33 c34 c35 c51 c52 c53 c60 h61 e61 S61 p61 q61 c62)
          · intro c63 h64 e64 S64 p64 q64 c65 h66 e66 S66 p66 q66
            refine ⟨by omega, by omega, ?_⟩
            exact hq_W.ret rfl rfl rfl (k6 h1 e1 S1 p1 q1 c33 c34 c35 c51 c52 c53 c63 h64 e64 S64 p64 q64 c65 h66 e66 S66 p66 q66)
      · intro c67 c68
        refine ⟨by omega, by omega, ?_⟩
        refine hq_if rfl (fun c69 => ?_) (fun c69 => ?_)
        · refine hq_p rfl rfl ?_
          refine hq_gR S1 rfl rfl (by decide) (by decide) rfl ?_
          refine hq_p rfl rfl ?_
          refine hq_aL S1 rfl rfl (by decide) (b10 h1 e1 S1 p1 q1 c33 c34 c35 c67 c68 c69).1 (b10 h1 e1 S1 p1 q1 c33 c34 c35 c67 c68 c69).2 ?_
          refine hq_p rfl rfl ?_
          refine hq_p rfl rfl ?_
          refine hq_p rfl rfl ?_
          refine hq_ifi rfl (fun c70 => ?_) (fun c70 => ?_)
          · refine hq_p rfl rfl ?_
            refine hq_gR S1 rfl rfl (by decide) (by decide) rfl ?_
            refine hq_p rfl rfl ?_
            refine hq_p rfl rfl ?_
            refine hq_p rfl rfl ?_
            refine hq_p rfl rfl ?_
            refine hq_p rfl rfl ?_
            refine hq_p rfl rfl ?_
            refine hq_aSo S1 rfl rfl (by decide) (b11 h1 e1 S1 p1 q1 c33 c34 c35 c67 c68 c69 c70).1 (b11 h1 e1 S1 p1 q1 c33 c34 c35 c67 c68 c69 c70).2 (fun h71 e71 S71 p71 q71 => ?_)
            refine hq_p rfl rfl ?_
            refine hq_gR S71 rfl rfl (by decide) (by decide) rfl ?_
            refine hq_p rfl rfl ?_
            refine hq_p rfl rfl ?_
            refine hq_p rfl rfl ?_
            refine hq_p rfl rfl ?_
            refine hq_p rfl rfl ?_
            refine hq_p rfl rfl ?_
            refine hq_p rfl rfl ?_
            refine hq_p rfl rfl ?_
            refine hq_aSo S71 rfl rfl (by decide) (b12 h1 e1 S1 p1 q1 c33 c34 c35 c67 c68 c69 c70 h71 e71 S71 p71 q71).1 (b12 h1 e1 S1 p1 q1 c33 c34 c35 c67 c68 c69 c70 h71 e71 S71 p71 q71).2 (fun h72 e72 S72 p72 q72 => ?_)
            refine hq_p rfl rfl ?_
            refine hq_gR S72 rfl rfl (by decide) (by decide) rfl ?_
            refine hq_p rfl rfl ?_
            refine hq_p rfl rfl ?_
            refine hq_aL S72 rfl rfl (by decide) (b13 h1 e1 S1 p1 q1 c33 c34 c35 c67 c68 c69 c70 h71 e71 S71 p71 q71 h72 e72 S72 p72 q72).1 (b13 h1 e1 S1 p1 q1 c33 c34 c35 c67 c68 c69 c70 h71 e71 S71 p71 q71 h72 e72 S72 p72 q72).2 ?_
            refine hq_p rfl rfl ?_
            refine hq_p rfl rfl ?_
            refine hq_aSo S72 rfl rfl (by decide) (b14 h1 e1 S1 p1 q1 c33 c34 c35 c67 c68 c69 c70 h71 e71 S71 p71 q71 h72 e72 S72 p72 q72).1 (b14 h1 e1 S1 p1 q1 c33 c34 c35 c67 c68 c69 c70 h71 e71 S71 p71 q71 h72 e72 S72 p72 q72).2 (fun h73 e73 S73 p73 q73 => ?_)
            refine hq_p rfl rfl ?_
            refine hq_p rfl rfl ?_
            refine hq_p rfl rfl ?_
            refine hq_p rfl rfl ?_
            refine hq_inv 0 rfl (fun _ => rfl) rfl rfl rfl (hq_pre_o S73 (x := 97) (ci := 11) rfl (by decide) rfl rfl rfl rfl) ?_
            refine wp_140 (x1 := ((hs_aI h1 99 ((Int32.ofInt 2)).toNatClampNeg) + (Int32.ofInt 1))) (by omega) S73 (fun c74 h75 e75 S75 p75 q75 c76 => b15 h1 e1 S1 p1 q1 c33 c34 c35 c67 c68 c69 c70 h71 e71 S71 p71 q71 h72 e72 S72 p72 q72 h73 e73 S73 p73 q73 c74 h75 e75 S75 p75 q75 c76) (fun c77 h78 e78 S78 p78 q78 c79 => b16 h1 e1 S1 p1 q1 c33 c34 c35 c67 c68 c69 c70 h71 e71 S71 p71 q71 h72 e72 S72 p72 q72 h73 e73 S73 p73 q73 c77 h78 e78 S78 p78 q78 c79) ?_ ?_
            · intro c80 h81 e81 S81 p81 q81 c82
              refine ⟨by omega, by omega, ?_⟩
              exact hq_W.ret rfl rfl rfl (k7 h1 e1 S1 p1 q1 c33 c34 c35 c67 c68 c69 c70 h71 e71 S71 p71 q71 h72 e72 S72 p72 q72 h73 e73 S73 p73 q73 c80 h81 e81 S81 p81 q81 c82)
            · intro c83 h84 e84 S84 p84 q84 c85 h86 e86 S86 p86 q86
              refine ⟨by omega, by omega, ?_⟩
              exact hq_W.ret rfl rfl rfl (k8 h1 e1 S1 p1 q1 c33 c34 c35 c67 c68 c69 c70 h71 e71 S71 p71 q71 h72 e72 S72 p72 q72 h73 e73 S73 p73 q73 c83 h84 e84 S84 p84 q84 c85 h86 e86 S86 p86 q86)
          · refine hq_p rfl rfl ?_
            refine hq_p rfl rfl ?_
            refine hq_inv 0 rfl (fun _ => rfl) rfl rfl rfl (hq_pre_o S1 (x := 97) (ci := 11) rfl (by decide) rfl rfl rfl rfl) ?_
            refine wp_140 (x1 := (Int8.ofInt (-5)).toInt32) (by omega) S1 (fun c87 h88 e88 S88 p88 q88 c89 => b17 h1 e1 S1 p1 q1 c33 c34 c35 c67 c68 c69 c70 c87 h88 e88 S88 p88 q88 c89) (fun c90 h91 e91 S91 p91 q91 c92 => b18 h1 e1 S1 p1 q1 c33 c34 c35 c67 c68 c69 c70 c90 h91 e91 S91 p91 q91 c92) ?_ ?_
            · intro c93 h94 e94 S94 p94 q94 c95
              refine ⟨by omega, by omega, ?_⟩
              exact hq_W.ret rfl rfl rfl (k9 h1 e1 S1 p1 q1 c33 c34 c35 c67 c68 c69 c70 c93 h94 e94 S94 p94 q94 c95)
            · intro c96 h97 e97 S97 p97 q97 c98 h99 e99 S99 p99 q99
              refine ⟨by omega, by omega, ?_⟩
              exact hq_W.ret rfl rfl rfl (k10 h1 e1 S1 p1 q1 c33 c34 c35 c67 c68 c69 c70 c96 h97 e97 S97 p97 q97 c98 h99 e99 S99 p99 q99)
        · exact absurd (c35.symm.trans c69) (by decide)
    · exact absurd c35 (by decide)
theorem wp_229 {X : pm_X} {d : Nat} {h : pm_H} {Q : pm_H → Option Value → Prop}  (hd : 1 ≤ d) (S : hs_Shape h)
    (b1 : ∀ h1, h1 = hs_sF h 97 11 0 (.int (Int32.ofInt 0)) → hs_Shape h1 → h1.1 = h.1 → h1.2.1 = h.2.1 → 0 ≤ ((Int32.ofInt 2)).toInt ∧ ((Int32.ofInt 2)).toInt < (5498 : Nat))
    (b2 : ∀ h1, h1 = hs_sF h 97 11 0 (.int (Int32.ofInt 0)) → hs_Shape h1 → h1.1 = h.1 → h1.2.1 = h.2.1 → 0 ≤ ((Int32.ofInt 2)).toInt ∧ ((Int32.ofInt 2)).toInt < (5498 : Nat))
    (k1 : ∀ h1, h1 = hs_sF h 97 11 0 (.int (Int32.ofInt 0)) → hs_Shape h1 → h1.1 = h.1 → h1.2.1 = h.2.1 → ∀ h2, h2 = hs_sA h1 99 0 5498 ((Int32.ofInt 2)).toNatClampNeg (Int32.ofInt 0) → hs_Shape h2 → h2.1 = h1.1 → h2.2.1 = h1.2.1 → Q h2 (some (.int (hs_aI h1 99 ((Int32.ofInt 2)).toNatClampNeg))))
    : hq_M X d 229 [.ref 97] h Q := by
  obtain ⟨d, rfl⟩ : ∃ e, d = e + 1 := ⟨d - 1, by omega⟩
  refine hq_M.enter (q := (⟨"TrainBearersModel", "forget", "()I"⟩, _, 2, some .int, 11, 1, pm_c229)) rfl rfl ?_
  show hq_W X d 11 false (some .int) pm_c229 (0, [some (.ref 97), none], [], h) Q
  refine hq_p rfl rfl ?_
  refine hq_p rfl rfl ?_
  refine hq_pFo S rfl rfl (by decide) rfl rfl ⟨_, rfl⟩ (fun h1 e1 S1 p1 q1 => ?_)
  refine hq_p rfl rfl ?_
  refine hq_gR S1 rfl rfl (by decide) (by decide) rfl ?_
  refine hq_p rfl rfl ?_
  refine hq_aL S1 rfl rfl (by decide) (b1 h1 e1 S1 p1 q1).1 (b1 h1 e1 S1 p1 q1).2 ?_
  refine hq_p rfl rfl ?_
  refine hq_p rfl rfl ?_
  refine hq_gR S1 rfl rfl (by decide) (by decide) rfl ?_
  refine hq_p rfl rfl ?_
  refine hq_p rfl rfl ?_
  refine hq_aSo S1 rfl rfl (by decide) (b2 h1 e1 S1 p1 q1).1 (b2 h1 e1 S1 p1 q1).2 (fun h2 e2 S2 p2 q2 => ?_)
  refine hq_p rfl rfl ?_
  exact hq_W.ret rfl rfl rfl (k1 h1 e1 S1 p1 q1 h2 e2 S2 p2 q2)
theorem wp_234 {X : pm_X} {d : Nat} {h : pm_H} {Q : pm_H → Option Value → Prop} {x1 : Int32} {x2 : Int32} (hd : 1 ≤ d) (S : hs_Shape h)
    (b1 : 0 ≤ ((((Int8.ofInt (50)).toInt32 + ((Int8.ofInt (6)).toInt32 * x1)) + x2)).toInt ∧ ((((Int8.ofInt (50)).toInt32 + ((Int8.ofInt (6)).toInt32 * x1)) + x2)).toInt < (5498 : Nat))
    (b2 : (pm_cmp .eq (hs_aI h 99 ((((Int8.ofInt (50)).toInt32 + ((Int8.ofInt (6)).toInt32 * x1)) + x2)).toNatClampNeg) (Int32.ofInt (-1)) = false) → 0 ≤ (x2).toInt ∧ (x2).toInt < (6 : Nat))
    (b3 : (pm_cmp .eq (hs_aI h 99 ((((Int8.ofInt (50)).toInt32 + ((Int8.ofInt (6)).toInt32 * x1)) + x2)).toNatClampNeg) (Int32.ofInt (-1)) = false) → (pm_cmp .ne (hs_aI h 125 (x2).toNatClampNeg) (100000000 : Int32) = true) → 0 ≤ (x2).toInt ∧ (x2).toInt < (6 : Nat))
    (k1 : (pm_cmp .eq (hs_aI h 99 ((((Int8.ofInt (50)).toInt32 + ((Int8.ofInt (6)).toInt32 * x1)) + x2)).toNatClampNeg) (Int32.ofInt (-1)) = true) → Q h (some (.int (100000000 : Int32))))
    (k2 : (pm_cmp .eq (hs_aI h 99 ((((Int8.ofInt (50)).toInt32 + ((Int8.ofInt (6)).toInt32 * x1)) + x2)).toNatClampNeg) (Int32.ofInt (-1)) = false) → (pm_cmp .ne (hs_aI h 125 (x2).toNatClampNeg) (100000000 : Int32) = true) → Q h (some (.int ((((Int8.ofInt (100)).toInt32 * (hs_aI h 99 ((((Int8.ofInt (50)).toInt32 + ((Int8.ofInt (6)).toInt32 * x1)) + x2)).toNatClampNeg)) + (Int32.ofInt 1)) + (hs_aI h 125 (x2).toNatClampNeg)))))
    (k3 : (pm_cmp .eq (hs_aI h 99 ((((Int8.ofInt (50)).toInt32 + ((Int8.ofInt (6)).toInt32 * x1)) + x2)).toNatClampNeg) (Int32.ofInt (-1)) = false) → (pm_cmp .ne (hs_aI h 125 (x2).toNatClampNeg) (100000000 : Int32) = false) → Q h (some (.int (100000000 : Int32))))
    : hq_M X d 234 [.ref 97, .int x1, .int x2] h Q := by
  obtain ⟨d, rfl⟩ : ∃ e, d = e + 1 := ⟨d - 1, by omega⟩
  refine hq_M.enter (q := (⟨"TrainBearersModel", "costTo", "(II)I"⟩, _, 4, some .int, 11, 3, pm_c234)) rfl rfl ?_
  show hq_W X d 11 false (some .int) pm_c234 (0, [some (.ref 97), some (.int x1), some (.int x2), none], [], h) Q
  refine hq_p rfl rfl ?_
  refine hq_gR S rfl rfl (by decide) (by decide) rfl ?_
  refine hq_p rfl rfl ?_
  refine hq_p rfl rfl ?_
  refine hq_p rfl rfl ?_
  refine hq_p rfl rfl ?_
  refine hq_p rfl rfl ?_
  refine hq_p rfl rfl ?_
  refine hq_p rfl rfl ?_
  refine hq_aL S rfl rfl (by decide) (b1).1 (b1).2 ?_
  refine hq_p rfl rfl ?_
  refine hq_p rfl rfl ?_
  refine hq_p rfl rfl ?_
  refine hq_ifi rfl (fun c1 => ?_) (fun c1 => ?_)
  · refine hq_p rfl rfl ?_
    refine hq_p rfl rfl ?_
    exact hq_W.ret rfl rfl rfl (k1 c1)
  · refine hq_p rfl rfl ?_
    refine hq_gR S rfl rfl (by decide) (by decide) rfl ?_
    refine hq_p rfl rfl ?_
    refine hq_aL S rfl rfl (by decide) (b2 c1).1 (b2 c1).2 ?_
    refine hq_p rfl rfl ?_
    refine hq_ifi rfl (fun c2 => ?_) (fun c2 => ?_)
    · refine hq_p rfl rfl ?_
      refine hq_p rfl rfl ?_
      refine hq_p rfl rfl ?_
      refine hq_p rfl rfl ?_
      refine hq_p rfl rfl ?_
      refine hq_p rfl rfl ?_
      refine hq_gR S rfl rfl (by decide) (by decide) rfl ?_
      refine hq_p rfl rfl ?_
      refine hq_aL S rfl rfl (by decide) (b3 c1 c2).1 (b3 c1 c2).2 ?_
      refine hq_p rfl rfl ?_
      exact hq_W.ret rfl rfl rfl (k2 c1 c2)
    · refine hq_p rfl rfl ?_
      refine hq_p rfl rfl ?_
      exact hq_W.ret rfl rfl rfl (k3 c1 c2)
theorem wp_251 {X : pm_X} {d : Nat} {h : pm_H} {Q : pm_H → Option Value → Prop}  (hd : 1 ≤ d) (S : hs_Shape h)
    (k1 : ∀ h1, h1 = hs_sF h 97 11 0 (.int (Int32.ofInt 0)) → hs_Shape h1 → h1.1 = h.1 → h1.2.1 = h.2.1 → Q h1 (some (.int (hs_fI h1 97 53))))
    : hq_M X d 251 [.ref 97] h Q := by
  obtain ⟨d, rfl⟩ : ∃ e, d = e + 1 := ⟨d - 1, by omega⟩
  refine hq_M.enter (q := (⟨"TrainBearersModel", "stopped", "()I"⟩, _, 1, some .int, 11, 1, pm_c251)) rfl rfl ?_
  show hq_W X d 11 false (some .int) pm_c251 (0, [some (.ref 97)], [], h) Q
  refine hq_p rfl rfl ?_
  refine hq_p rfl rfl ?_
  refine hq_pFo S rfl rfl (by decide) rfl rfl ⟨_, rfl⟩ (fun h1 e1 S1 p1 q1 => ?_)
  refine hq_p rfl rfl ?_
  refine hq_gI S1 rfl rfl (by decide) (by decide) rfl ?_
  exact hq_W.ret rfl rfl rfl (k1 h1 e1 S1 p1 q1)
theorem wp_254 {X : pm_X} {d : Nat} {h : pm_H} {Q : pm_H → Option Value → Prop} {x1 : Int32} {x2 : Int32} (hd : 2 ≤ d) (S : hs_Shape h)
    (b1 : ∀ h1, h1 = hs_sF h 97 11 0 (.int (Int32.ofInt 0)) → hs_Shape h1 → h1.1 = h.1 → h1.2.1 = h.2.1 → (pm_cmp0 .lt (lg_cmp (x2).toInt64 (Int64.ofNat 0)) = false) → (pm_cmp0 .gt (lg_cmp (x2).toInt64 (2 : Int64)) = false) → (pm_cmp0 .eq (Int32.ofInt 1) = false) → (pm_cmp .ge x2 (Int32.ofInt 2) = true) → (pm_cmp0 .lt (lg_cmp (x1).toInt64 (Int64.ofNat 0)) = false) → (pm_cmp0 .gt (lg_cmp (x1).toInt64 (((hs_fI h1 97 58)).toInt64 - (Int64.ofNat 1))) = false) → (pm_cmp0 .ne (Int32.ofInt 1) = true) → (pm_cmp0 .ne x2 = true) → (pm_cmp .ne x2 (Int32.ofInt 1) = true) → 0 ≤ ((((Int8.ofInt (10)).toInt32 - (Int32.ofInt 5)) + x1)).toInt ∧ ((((Int8.ofInt (10)).toInt32 - (Int32.ofInt 5)) + x1)).toInt < (29 : Nat))
    (b2 : ∀ h1, h1 = hs_sF h 97 11 0 (.int (Int32.ofInt 0)) → hs_Shape h1 → h1.1 = h.1 → h1.2.1 = h.2.1 → (pm_cmp0 .lt (lg_cmp (x2).toInt64 (Int64.ofNat 0)) = false) → (pm_cmp0 .gt (lg_cmp (x2).toInt64 (2 : Int64)) = false) → (pm_cmp0 .eq (Int32.ofInt 1) = false) → (pm_cmp .ge x2 (Int32.ofInt 2) = true) → (pm_cmp0 .lt (lg_cmp (x1).toInt64 (Int64.ofNat 0)) = false) → (pm_cmp0 .gt (lg_cmp (x1).toInt64 (((hs_fI h1 97 58)).toInt64 - (Int64.ofNat 1))) = false) → (pm_cmp0 .ne (Int32.ofInt 1) = true) → (pm_cmp0 .ne x2 = true) → (pm_cmp .ne x2 (Int32.ofInt 1) = false) → 0 ≤ ((((Int8.ofInt (26)).toInt32 - (Int32.ofInt 5)) + x1)).toInt ∧ ((((Int8.ofInt (26)).toInt32 - (Int32.ofInt 5)) + x1)).toInt < (29 : Nat))
    (b3 : ∀ h1, h1 = hs_sF h 97 11 0 (.int (Int32.ofInt 0)) → hs_Shape h1 → h1.1 = h.1 → h1.2.1 = h.2.1 → (pm_cmp0 .lt (lg_cmp (x2).toInt64 (Int64.ofNat 0)) = false) → (pm_cmp0 .gt (lg_cmp (x2).toInt64 (2 : Int64)) = false) → (pm_cmp0 .eq (Int32.ofInt 1) = false) → (pm_cmp .ge x2 (Int32.ofInt 2) = true) → (pm_cmp0 .lt (lg_cmp (x1).toInt64 (Int64.ofNat 0)) = false) → (pm_cmp0 .gt (lg_cmp (x1).toInt64 (((hs_fI h1 97 58)).toInt64 - (Int64.ofNat 1))) = false) → (pm_cmp0 .ne (Int32.ofInt 1) = true) → (pm_cmp0 .ne x2 = false) → 0 ≤ ((((Int8.ofInt (18)).toInt32 - (Int32.ofInt 5)) + x1)).toInt ∧ ((((Int8.ofInt (18)).toInt32 - (Int32.ofInt 5)) + x1)).toInt < (29 : Nat))
    (b4 : ∀ h1, h1 = hs_sF h 97 11 0 (.int (Int32.ofInt 0)) → hs_Shape h1 → h1.1 = h.1 → h1.2.1 = h.2.1 → (pm_cmp0 .lt (lg_cmp (x2).toInt64 (Int64.ofNat 0)) = false) → (pm_cmp0 .gt (lg_cmp (x2).toInt64 (2 : Int64)) = false) → (pm_cmp0 .eq (Int32.ofInt 1) = false) → (pm_cmp .ge x2 (Int32.ofInt 2) = false) → (pm_cmp0 .lt (lg_cmp (x1).toInt64 (Int64.ofNat 0)) = false) → (pm_cmp0 .gt (lg_cmp (x1).toInt64 (((hs_fI h1 97 57)).toInt64 - (Int64.ofNat 1))) = false) → (pm_cmp0 .ne (Int32.ofInt 1) = true) → (pm_cmp0 .ne x2 = true) → (pm_cmp .ne x2 (Int32.ofInt 1) = true) → 0 ≤ ((((Int8.ofInt (10)).toInt32 - (Int32.ofInt 5)) + x1)).toInt ∧ ((((Int8.ofInt (10)).toInt32 - (Int32.ofInt 5)) + x1)).toInt < (29 : Nat))
    (b5 : ∀ h1, h1 = hs_sF h 97 11 0 (.int (Int32.ofInt 0)) → hs_Shape h1 → h1.1 = h.1 → h1.2.1 = h.2.1 → (pm_cmp0 .lt (lg_cmp (x2).toInt64 (Int64.ofNat 0)) = false) → (pm_cmp0 .gt (lg_cmp (x2).toInt64 (2 : Int64)) = false) → (pm_cmp0 .eq (Int32.ofInt 1) = false) → (pm_cmp .ge x2 (Int32.ofInt 2) = false) → (pm_cmp0 .lt (lg_cmp (x1).toInt64 (Int64.ofNat 0)) = false) → (pm_cmp0 .gt (lg_cmp (x1).toInt64 (((hs_fI h1 97 57)).toInt64 - (Int64.ofNat 1))) = false) → (pm_cmp0 .ne (Int32.ofInt 1) = true) → (pm_cmp0 .ne x2 = true) → (pm_cmp .ne x2 (Int32.ofInt 1) = false) → 0 ≤ ((((Int8.ofInt (26)).toInt32 - (Int32.ofInt 5)) + x1)).toInt ∧ ((((Int8.ofInt (26)).toInt32 - (Int32.ofInt 5)) + x1)).toInt < (29 : Nat))
    (b6 : ∀ h1, h1 = hs_sF h 97 11 0 (.int (Int32.ofInt 0)) → hs_Shape h1 → h1.1 = h.1 → h1.2.1 = h.2.1 → (pm_cmp0 .lt (lg_cmp (x2).toInt64 (Int64.ofNat 0)) = false) → (pm_cmp0 .gt (lg_cmp (x2).toInt64 (2 : Int64)) = false) → (pm_cmp0 .eq (Int32.ofInt 1) = false) → (pm_cmp .ge x2 (Int32.ofInt 2) = false) → (pm_cmp0 .lt (lg_cmp (x1).toInt64 (Int64.ofNat 0)) = false) → (pm_cmp0 .gt (lg_cmp (x1).toInt64 (((hs_fI h1 97 57)).toInt64 - (Int64.ofNat 1))) = false) → (pm_cmp0 .ne (Int32.ofInt 1) = true) → (pm_cmp0 .ne x2 = false) → 0 ≤ ((((Int8.ofInt (18)).toInt32 - (Int32.ofInt 5)) + x1)).toInt ∧ ((((Int8.ofInt (18)).toInt32 - (Int32.ofInt 5)) + x1)).toInt < (29 : Nat))
    (k1 : ∀ h1, h1 = hs_sF h 97 11 0 (.int (Int32.ofInt 0)) → hs_Shape h1 → h1.1 = h.1 → h1.2.1 = h.2.1 → (pm_cmp0 .lt (lg_cmp (x2).toInt64 (Int64.ofNat 0)) = true) → (pm_cmp0 .eq (Int32.ofInt 0) = true) → Q h1 (some (.int (Int32.ofInt (-1)))))
    (k2 : ∀ h1, h1 = hs_sF h 97 11 0 (.int (Int32.ofInt 0)) → hs_Shape h1 → h1.1 = h.1 → h1.2.1 = h.2.1 → (pm_cmp0 .lt (lg_cmp (x2).toInt64 (Int64.ofNat 0)) = false) → (pm_cmp0 .gt (lg_cmp (x2).toInt64 (2 : Int64)) = true) → (pm_cmp0 .eq (Int32.ofInt 0) = true) → Q h1 (some (.int (Int32.ofInt (-1)))))
    (k3 : ∀ h1, h1 = hs_sF h 97 11 0 (.int (Int32.ofInt 0)) → hs_Shape h1 → h1.1 = h.1 → h1.2.1 = h.2.1 → (pm_cmp0 .lt (lg_cmp (x2).toInt64 (Int64.ofNat 0)) = false) → (pm_cmp0 .gt (lg_cmp (x2).toInt64 (2 : Int64)) = false) → (pm_cmp0 .eq (Int32.ofInt 1) = false) → (pm_cmp .ge x2 (Int32.ofInt 2) = true) → (pm_cmp0 .lt (lg_cmp (x1).toInt64 (Int64.ofNat 0)) = true) → (pm_cmp0 .ne (Int32.ofInt 0) = false) → Q h1 (some (.int (Int32.ofInt (-1)))))
    (k4 : ∀ h1, h1 = hs_sF h 97 11 0 (.int (Int32.ofInt 0)) → hs_Shape h1 → h1.1 = h.1 → h1.2.1 = h.2.1 → (pm_cmp0 .lt (lg_cmp (x2).toInt64 (Int64.ofNat 0)) = false) → (pm_cmp0 .gt (lg_cmp (x2).toInt64 (2 : Int64)) = false) → (pm_cmp0 .eq (Int32.ofInt 1) = false) → (pm_cmp .ge x2 (Int32.ofInt 2) = true) → (pm_cmp0 .lt (lg_cmp (x1).toInt64 (Int64.ofNat 0)) = false) → (pm_cmp0 .gt (lg_cmp (x1).toInt64 (((hs_fI h1 97 58)).toInt64 - (Int64.ofNat 1))) = true) → (pm_cmp0 .ne (Int32.ofInt 0) = false) → Q h1 (some (.int (Int32.ofInt (-1)))))
    (k5 : ∀ h1, h1 = hs_sF h 97 11 0 (.int (Int32.ofInt 0)) → hs_Shape h1 → h1.1 = h.1 → h1.2.1 = h.2.1 → (pm_cmp0 .lt (lg_cmp (x2).toInt64 (Int64.ofNat 0)) = false) → (pm_cmp0 .gt (lg_cmp (x2).toInt64 (2 : Int64)) = false) → (pm_cmp0 .eq (Int32.ofInt 1) = false) → (pm_cmp .ge x2 (Int32.ofInt 2) = true) → (pm_cmp0 .lt (lg_cmp (x1).toInt64 (Int64.ofNat 0)) = false) → (pm_cmp0 .gt (lg_cmp (x1).toInt64 (((hs_fI h1 97 58)).toInt64 - (Int64.ofNat 1))) = false) → (pm_cmp0 .ne (Int32.ofInt 1) = true) → (pm_cmp0 .ne x2 = true) → (pm_cmp .ne x2 (Int32.ofInt 1) = true) → Q h1 (some (.int (hs_aI h1 128 ((((Int8.ofInt (10)).toInt32 - (Int32.ofInt 5)) + x1)).toNatClampNeg))))
    (k6 : ∀ h1, h1 = hs_sF h 97 11 0 (.int (Int32.ofInt 0)) → hs_Shape h1 → h1.1 = h.1 → h1.2.1 = h.2.1 → (pm_cmp0 .lt (lg_cmp (x2).toInt64 (Int64.ofNat 0)) = false) → (pm_cmp0 .gt (lg_cmp (x2).toInt64 (2 : Int64)) = false) → (pm_cmp0 .eq (Int32.ofInt 1) = false) → (pm_cmp .ge x2 (Int32.ofInt 2) = true) → (pm_cmp0 .lt (lg_cmp (x1).toInt64 (Int64.ofNat 0)) = false) → (pm_cmp0 .gt (lg_cmp (x1).toInt64 (((hs_fI h1 97 58)).toInt64 - (Int64.ofNat 1))) = false) → (pm_cmp0 .ne (Int32.ofInt 1) = true) → (pm_cmp0 .ne x2 = true) → (pm_cmp .ne x2 (Int32.ofInt 1) = false) → Q h1 (some (.int (hs_aI h1 128 ((((Int8.ofInt (26)).toInt32 - (Int32.ofInt 5)) + x1)).toNatClampNeg))))
    (k7 : ∀ h1, h1 = hs_sF h 97 11 0 (.int (Int32.ofInt 0)) → hs_Shape h1 → h1.1 = h.1 → h1.2.1 = h.2.1 → (pm_cmp0 .lt (lg_cmp (x2).toInt64 (Int64.ofNat 0)) = false) → (pm_cmp0 .gt (lg_cmp (x2).toInt64 (2 : Int64)) = false) → (pm_cmp0 .eq (Int32.ofInt 1) = false) → (pm_cmp .ge x2 (Int32.ofInt 2) = true) → (pm_cmp0 .lt (lg_cmp (x1).toInt64 (Int64.ofNat 0)) = false) → (pm_cmp0 .gt (lg_cmp (x1).toInt64 (((hs_fI h1 97 58)).toInt64 - (Int64.ofNat 1))) = false) → (pm_cmp0 .ne (Int32.ofInt 1) = true) → (pm_cmp0 .ne x2 = false) → Q h1 (some (.int (hs_aI h1 128 ((((Int8.ofInt (18)).toInt32 - (Int32.ofInt 5)) + x1)).toNatClampNeg))))
    (k8 : ∀ h1, h1 = hs_sF h 97 11 0 (.int (Int32.ofInt 0)) → hs_Shape h1 → h1.1 = h.1 → h1.2.1 = h.2.1 → (pm_cmp0 .lt (lg_cmp (x2).toInt64 (Int64.ofNat 0)) = false) → (pm_cmp0 .gt (lg_cmp (x2).toInt64 (2 : Int64)) = false) → (pm_cmp0 .eq (Int32.ofInt 1) = false) → (pm_cmp .ge x2 (Int32.ofInt 2) = false) → (pm_cmp0 .lt (lg_cmp (x1).toInt64 (Int64.ofNat 0)) = true) → (pm_cmp0 .ne (Int32.ofInt 0) = false) → Q h1 (some (.int (Int32.ofInt (-1)))))
    (k9 : ∀ h1, h1 = hs_sF h 97 11 0 (.int (Int32.ofInt 0)) → hs_Shape h1 → h1.1 = h.1 → h1.2.1 = h.2.1 → (pm_cmp0 .lt (lg_cmp (x2).toInt64 (Int64.ofNat 0)) = false) → (pm_cmp0 .gt (lg_cmp (x2).toInt64 (2 : Int64)) = false) → (pm_cmp0 .eq (Int32.ofInt 1) = false) → (pm_cmp .ge x2 (Int32.ofInt 2) = false) → (pm_cmp0 .lt (lg_cmp (x1).toInt64 (Int64.ofNat 0)) = false) → (pm_cmp0 .gt (lg_cmp (x1).toInt64 (((hs_fI h1 97 57)).toInt64 - (Int64.ofNat 1))) = true) → (pm_cmp0 .ne (Int32.ofInt 0) = false) → Q h1 (some (.int (Int32.ofInt (-1)))))
    (k10 : ∀ h1, h1 = hs_sF h 97 11 0 (.int (Int32.ofInt 0)) → hs_Shape h1 → h1.1 = h.1 → h1.2.1 = h.2.1 → (pm_cmp0 .lt (lg_cmp (x2).toInt64 (Int64.ofNat 0)) = false) → (pm_cmp0 .gt (lg_cmp (x2).toInt64 (2 : Int64)) = false) → (pm_cmp0 .eq (Int32.ofInt 1) = false) → (pm_cmp .ge x2 (Int32.ofInt 2) = false) → (pm_cmp0 .lt (lg_cmp (x1).toInt64 (Int64.ofNat 0)) = false) → (pm_cmp0 .gt (lg_cmp (x1).toInt64 (((hs_fI h1 97 57)).toInt64 - (Int64.ofNat 1))) = false) → (pm_cmp0 .ne (Int32.ofInt 1) = true) → (pm_cmp0 .ne x2 = true) → (pm_cmp .ne x2 (Int32.ofInt 1) = true) → Q h1 (some (.int (hs_aI h1 128 ((((Int8.ofInt (10)).toInt32 - (Int32.ofInt 5)) + x1)).toNatClampNeg))))
    (k11 : ∀ h1, h1 = hs_sF h 97 11 0 (.int (Int32.ofInt 0)) → hs_Shape h1 → h1.1 = h.1 → h1.2.1 = h.2.1 → (pm_cmp0 .lt (lg_cmp (x2).toInt64 (Int64.ofNat 0)) = false) → (pm_cmp0 .gt (lg_cmp (x2).toInt64 (2 : Int64)) = false) → (pm_cmp0 .eq (Int32.ofInt 1) = false) → (pm_cmp .ge x2 (Int32.ofInt 2) = false) → (pm_cmp0 .lt (lg_cmp (x1).toInt64 (Int64.ofNat 0)) = false) → (pm_cmp0 .gt (lg_cmp (x1).toInt64 (((hs_fI h1 97 57)).toInt64 - (Int64.ofNat 1))) = false) → (pm_cmp0 .ne (Int32.ofInt 1) = true) → (pm_cmp0 .ne x2 = true) → (pm_cmp .ne x2 (Int32.ofInt 1) = false) → Q h1 (some (.int (hs_aI h1 128 ((((Int8.ofInt (26)).toInt32 - (Int32.ofInt 5)) + x1)).toNatClampNeg))))
    (k12 : ∀ h1, h1 = hs_sF h 97 11 0 (.int (Int32.ofInt 0)) → hs_Shape h1 → h1.1 = h.1 → h1.2.1 = h.2.1 → (pm_cmp0 .lt (lg_cmp (x2).toInt64 (Int64.ofNat 0)) = false) → (pm_cmp0 .gt (lg_cmp (x2).toInt64 (2 : Int64)) = false) → (pm_cmp0 .eq (Int32.ofInt 1) = false) → (pm_cmp .ge x2 (Int32.ofInt 2) = false) → (pm_cmp0 .lt (lg_cmp (x1).toInt64 (Int64.ofNat 0)) = false) → (pm_cmp0 .gt (lg_cmp (x1).toInt64 (((hs_fI h1 97 57)).toInt64 - (Int64.ofNat 1))) = false) → (pm_cmp0 .ne (Int32.ofInt 1) = true) → (pm_cmp0 .ne x2 = false) → Q h1 (some (.int (hs_aI h1 128 ((((Int8.ofInt (18)).toInt32 - (Int32.ofInt 5)) + x1)).toNatClampNeg))))
    : hq_M X d 254 [.ref 97, .int x1, .int x2] h Q := by
  obtain ⟨d, rfl⟩ : ∃ e, d = e + 1 := ⟨d - 1, by omega⟩
  refine hq_M.enter (q := (⟨"TrainBearersModel", "drawn", "(II)I"⟩, _, 3, some .int, 11, 3, pm_c254)) rfl rfl ?_
  show hq_W X d 11 false (some .int) pm_c254 (0, [some (.ref 97), some (.int x1), some (.int x2)], [], h) Q
  refine hq_p rfl rfl ?_
  refine hq_p rfl rfl ?_
  refine hq_pFo S rfl rfl (by decide) rfl rfl ⟨_, rfl⟩ (fun h1 e1 S1 p1 q1 => ?_)
  refine hq_p rfl rfl ?_
  refine hq_p rfl rfl ?_
  refine hq_p rfl rfl ?_
  refine hq_p rfl rfl ?_
  refine hq_inv 1 rfl (fun _ => rfl) rfl rfl rfl rfl ?_
  refine wp_136 (x1 := (x2).toInt64) (x2 := (Int64.ofNat 0)) (x3 := (2 : Int64)) (by omega) S1  ?_ ?_ ?_
  · intro c2
    refine ⟨by omega, by omega, ?_⟩
    refine hq_if rfl (fun c3 => ?_) (fun c3 => ?_)
    · refine hq_p rfl rfl ?_
      exact hq_W.ret rfl rfl rfl (k1 h1 e1 S1 p1 q1 c2 c3)
    · exact absurd c3 (by decide)
  · intro c4 c5
    refine ⟨by omega, by omega, ?_⟩
    refine hq_if rfl (fun c6 => ?_) (fun c6 => ?_)
    · refine hq_p rfl rfl ?_
      exact hq_W.ret rfl rfl rfl (k2 h1 e1 S1 p1 q1 c4 c5 c6)
    · exact absurd c6 (by decide)
  · intro c7 c8
    refine ⟨by omega, by omega, ?_⟩
    refine hq_if rfl (fun c9 => ?_) (fun c9 => ?_)
    · exact absurd c9 (by decide)
    · refine hq_p rfl rfl ?_
      refine hq_p rfl rfl ?_
      refine hq_p rfl rfl ?_
      refine hq_p rfl rfl ?_
      refine hq_p rfl rfl ?_
      refine hq_ifi rfl (fun c10 => ?_) (fun c10 => ?_)
      · refine hq_p rfl rfl ?_
        refine hq_gI S1 rfl rfl (by decide) (by decide) rfl ?_
        refine hq_p rfl rfl ?_
        refine hq_p rfl rfl ?_
        refine hq_p rfl rfl ?_
        refine hq_inv 1 rfl (fun _ => rfl) rfl rfl rfl rfl ?_
        refine wp_136 (x1 := (x1).toInt64) (x2 := (Int64.ofNat 0)) (x3 := (((hs_fI h1 97 58)).toInt64 - (Int64.ofNat 1))) (by omega) S1  ?_ ?_ ?_
        · intro c11
          refine ⟨by omega, by omega, ?_⟩
          refine hq_if rfl (fun c12 => ?_) (fun c12 => ?_)
          · exact absurd c12 (by decide)
          · refine hq_p rfl rfl ?_
            exact hq_W.ret rfl rfl rfl (k3 h1 e1 S1 p1 q1 c7 c8 c9 c10 c11 c12)
        · intro c13 c14
          refine ⟨by omega, by omega, ?_⟩
          refine hq_if rfl (fun c15 => ?_) (fun c15 => ?_)
          · exact absurd c15 (by decide)
          · refine hq_p rfl rfl ?_
            exact hq_W.ret rfl rfl rfl (k4 h1 e1 S1 p1 q1 c7 c8 c9 c10 c13 c14 c15)
        · intro c16 c17
          refine ⟨by omega, by omega, ?_⟩
          refine hq_if rfl (fun c18 => ?_) (fun c18 => ?_)
          · refine hq_p rfl rfl ?_
            refine hq_gR S1 rfl rfl (by decide) (by decide) rfl ?_
            refine hq_p rfl rfl ?_
            refine hq_if rfl (fun c19 => ?_) (fun c19 => ?_)
            · refine hq_p rfl rfl ?_
              refine hq_p rfl rfl ?_
              refine hq_ifi rfl (fun c20 => ?_) (fun c20 => ?_)
              · refine hq_p rfl rfl ?_
                refine hq_p rfl rfl ?_
                refine hq_p rfl rfl ?_
                refine hq_p rfl rfl ?_
                refine hq_p rfl rfl ?_
                refine hq_aL S1 rfl rfl (by decide) (b1 h1 e1 S1 p1 q1 c7 c8 c9 c10 c16 c17 c18 c19 c20).1 (b1 h1 e1 S1 p1 q1 c7 c8 c9 c10 c16 c17 c18 c19 c20).2 ?_
                exact hq_W.ret rfl rfl rfl (k5 h1 e1 S1 p1 q1 c7 c8 c9 c10 c16 c17 c18 c19 c20)
              · refine hq_p rfl rfl ?_
                refine hq_p rfl rfl ?_
                refine hq_p rfl rfl ?_
                refine hq_p rfl rfl ?_
                refine hq_p rfl rfl ?_
                refine hq_p rfl rfl ?_
                refine hq_aL S1 rfl rfl (by decide) (b2 h1 e1 S1 p1 q1 c7 c8 c9 c10 c16 c17 c18 c19 c20).1 (b2 h1 e1 S1 p1 q1 c7 c8 c9 c10 c16 c17 c18 c19 c20).2 ?_
                exact hq_W.ret rfl rfl rfl (k6 h1 e1 S1 p1 q1 c7 c8 c9 c10 c16 c17 c18 c19 c20)
            · refine hq_p rfl rfl ?_
              refine hq_p rfl rfl ?_
              refine hq_p rfl rfl ?_
              refine hq_p rfl rfl ?_
              refine hq_p rfl rfl ?_
              refine hq_p rfl rfl ?_
              refine hq_aL S1 rfl rfl (by decide) (b3 h1 e1 S1 p1 q1 c7 c8 c9 c10 c16 c17 c18 c19).1 (b3 h1 e1 S1 p1 q1 c7 c8 c9 c10 c16 c17 c18 c19).2 ?_
              exact hq_W.ret rfl rfl rfl (k7 h1 e1 S1 p1 q1 c7 c8 c9 c10 c16 c17 c18 c19)
          · exact absurd c18 (by decide)
      · refine hq_p rfl rfl ?_
        refine hq_gI S1 rfl rfl (by decide) (by decide) rfl ?_
        refine hq_p rfl rfl ?_
        refine hq_p rfl rfl ?_
        refine hq_p rfl rfl ?_
        refine hq_p rfl rfl ?_
        refine hq_inv 1 rfl (fun _ => rfl) rfl rfl rfl rfl ?_
        refine wp_136 (x1 := (x1).toInt64) (x2 := (Int64.ofNat 0)) (x3 := (((hs_fI h1 97 57)).toInt64 - (Int64.ofNat 1))) (by omega) S1  ?_ ?_ ?_
        · intro c21
          refine ⟨by omega, by omega, ?_⟩
          refine hq_if rfl (fun c22 => ?_) (fun c22 => ?_)
          · exact absurd c22 (by decide)
          · refine hq_p rfl rfl ?_
            exact hq_W.ret rfl rfl rfl (k8 h1 e1 S1 p1 q1 c7 c8 c9 c10 c21 c22)
        · intro c23 c24
          refine ⟨by omega, by omega, ?_⟩
          refine hq_if rfl (fun c25 => ?_) (fun c25 => ?_)
          · exact absurd c25 (by decide)
          · refine hq_p rfl rfl ?_
            exact hq_W.ret rfl rfl rfl (k9 h1 e1 S1 p1 q1 c7 c8 c9 c10 c23 c24 c25)
        · intro c26 c27
          refine ⟨by omega, by omega, ?_⟩
          refine hq_if rfl (fun c28 => ?_) (fun c28 => ?_)
          · refine hq_p rfl rfl ?_
            refine hq_gR S1 rfl rfl (by decide) (by decide) rfl ?_
            refine hq_p rfl rfl ?_
            refine hq_if rfl (fun c29 => ?_) (fun c29 => ?_)
            · refine hq_p rfl rfl ?_
              refine hq_p rfl rfl ?_
              refine hq_ifi rfl (fun c30 => ?_) (fun c30 => ?_)
              · refine hq_p rfl rfl ?_
                refine hq_p rfl rfl ?_
                refine hq_p rfl rfl ?_
                refine hq_p rfl rfl ?_
                refine hq_p rfl rfl ?_
                refine hq_aL S1 rfl rfl (by decide) (b4 h1 e1 S1 p1 q1 c7 c8 c9 c10 c26 c27 c28 c29 c30).1 (b4 h1 e1 S1 p1 q1 c7 c8 c9 c10 c26 c27 c28 c29 c30).2 ?_
                exact hq_W.ret rfl rfl rfl (k10 h1 e1 S1 p1 q1 c7 c8 c9 c10 c26 c27 c28 c29 c30)
              · refine hq_p rfl rfl ?_
                refine hq_p rfl rfl ?_
                refine hq_p rfl rfl ?_
                refine hq_p rfl rfl ?_
                refine hq_p rfl rfl ?_
                refine hq_p rfl rfl ?_
                refine hq_aL S1 rfl rfl (by decide) (b5 h1 e1 S1 p1 q1 c7 c8 c9 c10 c26 c27 c28 c29 c30).1 (b5 h1 e1 S1 p1 q1 c7 c8 c9 c10 c26 c27 c28 c29 c30).2 ?_
                exact hq_W.ret rfl rfl rfl (k11 h1 e1 S1 p1 q1 c7 c8 c9 c10 c26 c27 c28 c29 c30)
            · refine hq_p rfl rfl ?_
              refine hq_p rfl rfl ?_
              refine hq_p rfl rfl ?_
              refine hq_p rfl rfl ?_
              refine hq_p rfl rfl ?_
              refine hq_p rfl rfl ?_
              refine hq_aL S1 rfl rfl (by decide) (b6 h1 e1 S1 p1 q1 c7 c8 c9 c10 c26 c27 c28 c29).1 (b6 h1 e1 S1 p1 q1 c7 c8 c9 c10 c26 c27 c28 c29).2 ?_
              exact hq_W.ret rfl rfl rfl (k12 h1 e1 S1 p1 q1 c7 c8 c9 c10 c26 c27 c28 c29)
          · exact absurd c28 (by decide)
theorem wp_256 {X : pm_X} {d : Nat} {h : pm_H} {Q : pm_H → Option Value → Prop}  (hd : 1 ≤ d) (S : hs_Shape h)
    (k1 : ∀ h1, h1 = hs_sF h 97 11 0 (.int (Int32.ofInt 0)) → hs_Shape h1 → h1.1 = h.1 → h1.2.1 = h.2.1 → Q h1 (some (.int (hs_fI h1 97 1))))
    : hq_M X d 256 [.ref 97] h Q := by
  obtain ⟨d, rfl⟩ : ∃ e, d = e + 1 := ⟨d - 1, by omega⟩
  refine hq_M.enter (q := (⟨"TrainBearersModel", "status", "()I"⟩, _, 1, some .int, 11, 1, pm_c256)) rfl rfl ?_
  show hq_W X d 11 false (some .int) pm_c256 (0, [some (.ref 97)], [], h) Q
  refine hq_p rfl rfl ?_
  refine hq_p rfl rfl ?_
  refine hq_pFo S rfl rfl (by decide) rfl rfl ⟨_, rfl⟩ (fun h1 e1 S1 p1 q1 => ?_)
  refine hq_p rfl rfl ?_
  refine hq_gI S1 rfl rfl (by decide) (by decide) rfl ?_
  exact hq_W.ret rfl rfl rfl (k1 h1 e1 S1 p1 q1)
