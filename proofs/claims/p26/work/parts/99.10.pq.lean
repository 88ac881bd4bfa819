/-! PARTIAL RUNS: what holds of whatever a run ends with, if it ends. -/
section PQ
def xq_M (X : pm_X) (N d mid : Nat) (args : List Value) (h : pm_H) (Q : pm_H → Option Value → Prop) : Prop := ∀ r, pm_rn X N d mid args h = some r → Q r.1 r.2
def xq_W (X : pm_X) (C : Nat → List Value → pm_H → Option pm_R) (o : Nat) (ini : Bool) (ret : Option FieldType) (code : List pm_I) (K : Nat) (s : pm_S) (Q : pm_H → Option Value → Prop) : Prop := ∀ k, k ≤ K → ∀ r, pm_ey X C o ini ret code k s = some r → Q r.1 r.2
/-- a method that ends: what it ends with is what any run of it ends with -/
theorem xq_of {X : pm_X} {d mid : Nat} {args : List Value} {h : pm_H} {Q : pm_H → Option Value → Prop} (k : hq_M X d mid args h Q) (N d' : Nat) : xq_M X N d' mid args h Q := by
  obtain ⟨n, r, k1, k2⟩ := k
  intro r' hr
  have e1 := hq_rn_mono (X := X) (Nat.le_max_left n N) (Nat.le_max_left d d') k1
  have e2 := hq_rn_mono (X := X) (Nat.le_max_right n N) (Nat.le_max_right d d') hr
  have e := Option.some.inj (e1.symm.trans e2)
  rw [← e]
  exact k2
theorem xq_and {X : pm_X} {d mid : Nat} {args : List Value} {h : pm_H} {Q P : pm_H → Option Value → Prop} (k : hq_M X d mid args h Q) (j : ∀ N d', xq_M X N d' mid args h P) : hq_M X d mid args h (fun h v => Q h v ∧ P h v) := by
  obtain ⟨n, r, k1, k2⟩ := k
  exact ⟨n, r, k1, k2, j n d r k1⟩
theorem xq_M.mono {X : pm_X} {N d mid : Nat} {args : List Value} {h : pm_H} {Q Q' : pm_H → Option Value → Prop} (hQ : ∀ h v, Q h v → Q' h v) (k : xq_M X N d mid args h Q) : xq_M X N d mid args h Q' := fun r hr => hQ _ _ (k r hr)

theorem xq_z {X : pm_X} {C : Nat → List Value → pm_H → Option pm_R} {o : Nat} {ini : Bool} {ret : Option FieldType} {code : List pm_I} {Q : pm_H → Option Value → Prop} {s : pm_S} : xq_W X C o ini ret code 0 s Q := by
  intro k hk r hr
  obtain rfl : k = 0 := by omega
  cases hr
theorem xq_dn {X : pm_X} {C : Nat → List Value → pm_H → Option pm_R} {o : Nat} {ini : Bool} {ret : Option FieldType} {code : List pm_I} {K : Nat} {Q : pm_H → Option Value → Prop} {s : pm_S} (k : xq_W X C o ini ret code (K + 1) s Q) : xq_W X C o ini ret code K s Q := fun n hn r hr => k n (by omega) r hr
theorem xq_st {X : pm_X} {C : Nat → List Value → pm_H → Option pm_R} {o : Nat} {ini : Bool} {ret : Option FieldType} {code : List pm_I} {K pc : Nat} {ls : pm_Ls} {h : pm_H} {Q : pm_H → Option Value → Prop} {st : List Value} {e : Instr × Nat × Nat × Nat × Value} (hf : pm_find code pc = some e) (k : ∀ x, pm_step X C o ini ret pc ls st h e.1 e.2.1 e.2.2.1 e.2.2.2.1 e.2.2.2.2 = some x → (match x with | .inl s' => h.1 ≤ s'.2.2.2.1 → xq_W X C o ini ret code K s' Q | .inr r => Q r.1 r.2)) : xq_W X C o ini ret code (K + 1) (pc, ls, st, h) Q := by
  intro n hn r hr
  match n, hn, hr with
  | 0, _, hr => cases hr
  | n + 1, hn, hr =>
    unfold pm_ey at hr
    dsimp only at hr
    rw [hf] at hr
    dsimp only at hr
    cases hs : pm_step X C o ini ret pc ls st h e.1 e.2.1 e.2.2.1 e.2.2.2.1 e.2.2.2.2 with
    | none => rw [hs] at hr; cases hr
    | some x =>
      have q := k x hs
      rw [hs] at hr
      cases x with
      | inl s' =>
        dsimp only at hr q
        by_cases p : h.1 ≤ s'.2.2.2.1
        · cases hb : (decide (h.1 ≤ s'.2.2.2.1) && decide (h.2.1 ≤ s'.2.2.2.2.1)) with
          | false => rw [hb] at hr; cases hr
          | true => rw [hb] at hr; exact q p n (by omega) r hr
        · rw [decide_eq_false p] at hr
          cases hr
      | inr y =>
        dsimp only at hr q
        generalize (pm_isRet e.1 && decide (h.1 ≤ y.1.1) && decide (h.2.1 ≤ y.1.2.1)) = b at hr
        cases b with
        | false => cases hr
        | true => cases hr; exact q
theorem xq_s1 {X : pm_X} {C : Nat → List Value → pm_H → Option pm_R} {o : Nat} {ini : Bool} {ret : Option FieldType} {code : List pm_I} {K pc : Nat} {ls : pm_Ls} {h : pm_H} {Q : pm_H → Option Value → Prop} {st : List Value} {e : Instr × Nat × Nat × Nat × Value} (hf : pm_find code pc = some e) (k : ∀ x, pm_step X C o ini ret pc ls st h e.1 e.2.1 e.2.2.1 e.2.2.2.1 e.2.2.2.2 = some x → (match x with | .inl s' => h.1 ≤ s'.2.2.2.1 → xq_W X C o ini ret code K s' Q | .inr r => Q r.1 r.2)) : xq_W X C o ini ret code K (pc, ls, st, h) Q := xq_dn (xq_st hf k)
theorem xq_p {X : pm_X} {C : Nat → List Value → pm_H → Option pm_R} {o : Nat} {ini : Bool} {ret : Option FieldType} {code : List pm_I} {K pc : Nat} {ls : pm_Ls} {h : pm_H} {Q : pm_H → Option Value → Prop} {st : List Value} {e : Instr × Nat × Nat × Nat × Value} {pc' : Nat} {ls' : pm_Ls} {st' : List Value} (hf : pm_find code pc = some e) (hs : pm_step X C o ini ret pc ls st h e.1 e.2.1 e.2.2.1 e.2.2.2.1 e.2.2.2.2 = some (.inl (pc', ls', st', h))) (k : xq_W X C o ini ret code K (pc', ls', st', h) Q) : xq_W X C o ini ret code K (pc, ls, st, h) Q := xq_s1 hf (fun x hx => by rw [hs] at hx; cases hx; exact fun _ => k)
theorem xq_ps {X : pm_X} {C : Nat → List Value → pm_H → Option pm_R} {o : Nat} {ini : Bool} {ret : Option FieldType} {code : List pm_I} {K pc : Nat} {ls : pm_Ls} {h : pm_H} {Q : pm_H → Option Value → Prop} {st : List Value} {e : Instr × Nat × Nat × Nat × Value} {pc' : Nat} {ls' : pm_Ls} {st' : List Value} (hf : pm_find code pc = some e) (hs : pm_step X C o ini ret pc ls st h e.1 e.2.1 e.2.2.1 e.2.2.2.1 e.2.2.2.2 = some (.inl (pc', ls', st', h))) (k : xq_W X C o ini ret code K (pc', ls', st', h) Q) : xq_W X C o ini ret code (K + 1) (pc, ls, st, h) Q := xq_st hf (fun x hx => by rw [hs] at hx; cases hx; exact fun _ => k)
theorem xq_gi {X : pm_X} {C : Nat → List Value → pm_H → Option pm_R} {o : Nat} {ini : Bool} {ret : Option FieldType} {code : List pm_I} {K pc : Nat} {ls : pm_Ls} {h : pm_H} {Q : pm_H → Option Value → Prop} {r : List Value} {c : Int32} (k : ∀ z : Int32, z = c → xq_W X C o ini ret code K (pc, ls, .int z :: r, h) Q) : xq_W X C o ini ret code K (pc, ls, .int c :: r, h) Q := k c rfl
theorem xq_gl {X : pm_X} {C : Nat → List Value → pm_H → Option pm_R} {o : Nat} {ini : Bool} {ret : Option FieldType} {code : List pm_I} {K pc : Nat} {ls : pm_Ls} {h : pm_H} {Q : pm_H → Option Value → Prop} {r : List Value} {c : Int64} (k : ∀ z : Int64, z = c → xq_W X C o ini ret code K (pc, ls, .long z :: r, h) Q) : xq_W X C o ini ret code K (pc, ls, .long c :: r, h) Q := k c rfl
theorem xq_ge {X : pm_X} {C : Nat → List Value → pm_H → Option pm_R} {o : Nat} {ini : Bool} {ret : Option FieldType} {code : List pm_I} {K pc : Nat} {ls : pm_Ls} {h : pm_H} {Q : pm_H → Option Value → Prop} {r : List Value} {c : Int32} {n : Int} (hc : c.toInt = n) (k : ∀ z : Int32, z.toInt = n → xq_W X C o ini ret code K (pc, ls, .int z :: r, h) Q) : xq_W X C o ini ret code K (pc, ls, .int c :: r, h) Q := k c hc
theorem xq_gle {X : pm_X} {C : Nat → List Value → pm_H → Option pm_R} {o : Nat} {ini : Bool} {ret : Option FieldType} {code : List pm_I} {K pc : Nat} {ls : pm_Ls} {h : pm_H} {Q : pm_H → Option Value → Prop} {r : List Value} {c : Int64} {n : Int} (hc : c.toInt = n) (k : ∀ z : Int64, z.toInt = n → xq_W X C o ini ret code K (pc, ls, .long z :: r, h) Q) : xq_W X C o ini ret code K (pc, ls, .long c :: r, h) Q := k c hc
theorem xq_gc {X : pm_X} {C : Nat → List Value → pm_H → Option pm_R} {o : Nat} {ini : Bool} {ret : Option FieldType} {code : List pm_I} {K pc : Nat} {ls : pm_Ls} {h : pm_H} {Q : pm_H → Option Value → Prop} {r : List Value} {x y : Int64} (k : ∀ z : Int32, ((x.toInt < y.toInt ∧ z.toInt = -1) ∨ (x.toInt = y.toInt ∧ z.toInt = 0) ∨ (y.toInt < x.toInt ∧ z.toInt = 1)) → xq_W X C o ini ret code K (pc, ls, .int z :: r, h) Q) : xq_W X C o ini ret code K (pc, ls, .int (lg_cmp x y) :: r, h) Q := k _ (nm_cmp x y)
theorem xq_ieq {X : pm_X} {C : Nat → List Value → pm_H → Option pm_R} {o : Nat} {ini : Bool} {ret : Option FieldType} {code : List pm_I} {K pc : Nat} {ls : pm_Ls} {h : pm_H} {Q : pm_H → Option Value → Prop} {r : List Value} {off : Int} {len a b : Nat} {v : Value} {x y : Int32} (hf : pm_find code pc = some (.if_icmp .eq off, len, a, b, v)) (k1 : x.toInt = y.toInt → xq_W X C o ini ret code K (a, ls, r, h) Q) (k2 : x.toInt ≠ y.toInt → xq_W X C o ini ret code K (pc + 3, ls, r, h) Q) : xq_W X C o ini ret code K (pc, ls, .int y :: .int x :: r, h) Q := xq_s1 hf (fun z hz => by
  have hz : (bif pm_cmp .eq x y then pm_go a ls r h else pm_go (pc + 3) ls r h) = some z := hz
  cases hc : pm_cmp .eq x y with
  | true => rw [hc] at hz; cases hz; exact fun _ => k1 (nm_pieq.1 hc)
  | false => rw [hc] at hz; cases hz; exact fun _ => k2 (nm_pieq.2 hc))
theorem xq_zeq {X : pm_X} {C : Nat → List Value → pm_H → Option pm_R} {o : Nat} {ini : Bool} {ret : Option FieldType} {code : List pm_I} {K pc : Nat} {ls : pm_Ls} {h : pm_H} {Q : pm_H → Option Value → Prop} {r : List Value} {off : Int} {len a b : Nat} {v : Value} {x : Int32} (hf : pm_find code pc = some (.ifCond .eq off, len, a, b, v)) (k1 : x.toInt = 0 → xq_W X C o ini ret code K (a, ls, r, h) Q) (k2 : x.toInt ≠ 0 → xq_W X C o ini ret code K (pc + 3, ls, r, h) Q) : xq_W X C o ini ret code K (pc, ls, .int x :: r, h) Q := xq_s1 hf (fun z hz => by
  have hz : (bif pm_cmp0 .eq x then pm_go a ls r h else pm_go (pc + 3) ls r h) = some z := hz
  cases hc : pm_cmp0 .eq x with
  | true => rw [hc] at hz; cases hz; exact fun _ => k1 (nm_pzeq.1 hc)
  | false => rw [hc] at hz; cases hz; exact fun _ => k2 (nm_pzeq.2 hc))
theorem xq_ine {X : pm_X} {C : Nat → List Value → pm_H → Option pm_R} {o : Nat} {ini : Bool} {ret : Option FieldType} {code : List pm_I} {K pc : Nat} {ls : pm_Ls} {h : pm_H} {Q : pm_H → Option Value → Prop} {r : List Value} {off : Int} {len a b : Nat} {v : Value} {x y : Int32} (hf : pm_find code pc = some (.if_icmp .ne off, len, a, b, v)) (k1 : x.toInt ≠ y.toInt → xq_W X C o ini ret code K (a, ls, r, h) Q) (k2 : x.toInt = y.toInt → xq_W X C o ini ret code K (pc + 3, ls, r, h) Q) : xq_W X C o ini ret code K (pc, ls, .int y :: .int x :: r, h) Q := xq_s1 hf (fun z hz => by
  have hz : (bif pm_cmp .ne x y then pm_go a ls r h else pm_go (pc + 3) ls r h) = some z := hz
  cases hc : pm_cmp .ne x y with
  | true => rw [hc] at hz; cases hz; exact fun _ => k1 (nm_pine.1 hc)
  | false => rw [hc] at hz; cases hz; exact fun _ => k2 (nm_pine.2 hc))
theorem xq_zne {X : pm_X} {C : Nat → List Value → pm_H → Option pm_R} {o : Nat} {ini : Bool} {ret : Option FieldType} {code : List pm_I} {K pc : Nat} {ls : pm_Ls} {h : pm_H} {Q : pm_H → Option Value → Prop} {r : List Value} {off : Int} {len a b : Nat} {v : Value} {x : Int32} (hf : pm_find code pc = some (.ifCond .ne off, len, a, b, v)) (k1 : x.toInt ≠ 0 → xq_W X C o ini ret code K (a, ls, r, h) Q) (k2 : x.toInt = 0 → xq_W X C o ini ret code K (pc + 3, ls, r, h) Q) : xq_W X C o ini ret code K (pc, ls, .int x :: r, h) Q := xq_s1 hf (fun z hz => by
  have hz : (bif pm_cmp0 .ne x then pm_go a ls r h else pm_go (pc + 3) ls r h) = some z := hz
  cases hc : pm_cmp0 .ne x with
  | true => rw [hc] at hz; cases hz; exact fun _ => k1 (nm_pzne.1 hc)
  | false => rw [hc] at hz; cases hz; exact fun _ => k2 (nm_pzne.2 hc))
theorem xq_ilt {X : pm_X} {C : Nat → List Value → pm_H → Option pm_R} {o : Nat} {ini : Bool} {ret : Option FieldType} {code : List pm_I} {K pc : Nat} {ls : pm_Ls} {h : pm_H} {Q : pm_H → Option Value → Prop} {r : List Value} {off : Int} {len a b : Nat} {v : Value} {x y : Int32} (hf : pm_find code pc = some (.if_icmp .lt off, len, a, b, v)) (k1 : x.toInt < y.toInt → xq_W X C o ini ret code K (a, ls, r, h) Q) (k2 : x.toInt ≥ y.toInt → xq_W X C o ini ret code K (pc + 3, ls, r, h) Q) : xq_W X C o ini ret code K (pc, ls, .int y :: .int x :: r, h) Q := xq_s1 hf (fun z hz => by
  have hz : (bif pm_cmp .lt x y then pm_go a ls r h else pm_go (pc + 3) ls r h) = some z := hz
  cases hc : pm_cmp .lt x y with
  | true => rw [hc] at hz; cases hz; exact fun _ => k1 (nm_pilt.1 hc)
  | false => rw [hc] at hz; cases hz; exact fun _ => k2 (nm_pilt.2 hc))
theorem xq_zlt {X : pm_X} {C : Nat → List Value → pm_H → Option pm_R} {o : Nat} {ini : Bool} {ret : Option FieldType} {code : List pm_I} {K pc : Nat} {ls : pm_Ls} {h : pm_H} {Q : pm_H → Option Value → Prop} {r : List Value} {off : Int} {len a b : Nat} {v : Value} {x : Int32} (hf : pm_find code pc = some (.ifCond .lt off, len, a, b, v)) (k1 : x.toInt < 0 → xq_W X C o ini ret code K (a, ls, r, h) Q) (k2 : x.toInt ≥ 0 → xq_W X C o ini ret code K (pc + 3, ls, r, h) Q) : xq_W X C o ini ret code K (pc, ls, .int x :: r, h) Q := xq_s1 hf (fun z hz => by
  have hz : (bif pm_cmp0 .lt x then pm_go a ls r h else pm_go (pc + 3) ls r h) = some z := hz
  cases hc : pm_cmp0 .lt x with
  | true => rw [hc] at hz; cases hz; exact fun _ => k1 (nm_pzlt.1 hc)
  | false => rw [hc] at hz; cases hz; exact fun _ => k2 (nm_pzlt.2 hc))
theorem xq_ige {X : pm_X} {C : Nat → List Value → pm_H → Option pm_R} {o : Nat} {ini : Bool} {ret : Option FieldType} {code : List pm_I} {K pc : Nat} {ls : pm_Ls} {h : pm_H} {Q : pm_H → Option Value → Prop} {r : List Value} {off : Int} {len a b : Nat} {v : Value} {x y : Int32} (hf : pm_find code pc = some (.if_icmp .ge off, len, a, b, v)) (k1 : x.toInt ≥ y.toInt → xq_W X C o ini ret code K (a, ls, r, h) Q) (k2 : x.toInt < y.toInt → xq_W X C o ini ret code K (pc + 3, ls, r, h) Q) : xq_W X C o ini ret code K (pc, ls, .int y :: .int x :: r, h) Q := xq_s1 hf (fun z hz => by
  have hz : (bif pm_cmp .ge x y then pm_go a ls r h else pm_go (pc + 3) ls r h) = some z := hz
  cases hc : pm_cmp .ge x y with
  | true => rw [hc] at hz; cases hz; exact fun _ => k1 (nm_pige.1 hc)
  | false => rw [hc] at hz; cases hz; exact fun _ => k2 (nm_pige.2 hc))
theorem xq_zge {X : pm_X} {C : Nat → List Value → pm_H → Option pm_R} {o : Nat} {ini : Bool} {ret : Option FieldType} {code : List pm_I} {K pc : Nat} {ls : pm_Ls} {h : pm_H} {Q : pm_H → Option Value → Prop} {r : List Value} {off : Int} {len a b : Nat} {v : Value} {x : Int32} (hf : pm_find code pc = some (.ifCond .ge off, len, a, b, v)) (k1 : x.toInt ≥ 0 → xq_W X C o ini ret code K (a, ls, r, h) Q) (k2 : x.toInt < 0 → xq_W X C o ini ret code K (pc + 3, ls, r, h) Q) : xq_W X C o ini ret code K (pc, ls, .int x :: r, h) Q := xq_s1 hf (fun z hz => by
  have hz : (bif pm_cmp0 .ge x then pm_go a ls r h else pm_go (pc + 3) ls r h) = some z := hz
  cases hc : pm_cmp0 .ge x with
  | true => rw [hc] at hz; cases hz; exact fun _ => k1 (nm_pzge.1 hc)
  | false => rw [hc] at hz; cases hz; exact fun _ => k2 (nm_pzge.2 hc))
theorem xq_igt {X : pm_X} {C : Nat → List Value → pm_H → Option pm_R} {o : Nat} {ini : Bool} {ret : Option FieldType} {code : List pm_I} {K pc : Nat} {ls : pm_Ls} {h : pm_H} {Q : pm_H → Option Value → Prop} {r : List Value} {off : Int} {len a b : Nat} {v : Value} {x y : Int32} (hf : pm_find code pc = some (.if_icmp .gt off, len, a, b, v)) (k1 : x.toInt > y.toInt → xq_W X C o ini ret code K (a, ls, r, h) Q) (k2 : x.toInt ≤ y.toInt → xq_W X C o ini ret code K (pc + 3, ls, r, h) Q) : xq_W X C o ini ret code K (pc, ls, .int y :: .int x :: r, h) Q := xq_s1 hf (fun z hz => by
  have hz : (bif pm_cmp .gt x y then pm_go a ls r h else pm_go (pc + 3) ls r h) = some z := hz
  cases hc : pm_cmp .gt x y with
  | true => rw [hc] at hz; cases hz; exact fun _ => k1 (nm_pigt.1 hc)
  | false => rw [hc] at hz; cases hz; exact fun _ => k2 (nm_pigt.2 hc))
theorem xq_zgt {X : pm_X} {C : Nat → List Value → pm_H → Option pm_R} {o : Nat} {ini : Bool} {ret : Option FieldType} {code : List pm_I} {K pc : Nat} {ls : pm_Ls} {h : pm_H} {Q : pm_H → Option Value → Prop} {r : List Value} {off : Int} {len a b : Nat} {v : Value} {x : Int32} (hf : pm_find code pc = some (.ifCond .gt off, len, a, b, v)) (k1 : x.toInt > 0 → xq_W X C o ini ret code K (a, ls, r, h) Q) (k2 : x.toInt ≤ 0 → xq_W X C o ini ret code K (pc + 3, ls, r, h) Q) : xq_W X C o ini ret code K (pc, ls, .int x :: r, h) Q := xq_s1 hf (fun z hz => by
  have hz : (bif pm_cmp0 .gt x then pm_go a ls r h else pm_go (pc + 3) ls r h) = some z := hz
  cases hc : pm_cmp0 .gt x with
  | true => rw [hc] at hz; cases hz; exact fun _ => k1 (nm_pzgt.1 hc)
  | false => rw [hc] at hz; cases hz; exact fun _ => k2 (nm_pzgt.2 hc))
theorem xq_ile {X : pm_X} {C : Nat → List Value → pm_H → Option pm_R} {o : Nat} {ini : Bool} {ret : Option FieldType} {code : List pm_I} {K pc : Nat} {ls : pm_Ls} {h : pm_H} {Q : pm_H → Option Value → Prop} {r : List Value} {off : Int} {len a b : Nat} {v : Value} {x y : Int32} (hf : pm_find code pc = some (.if_icmp .le off, len, a, b, v)) (k1 : x.toInt ≤ y.toInt → xq_W X C o ini ret code K (a, ls, r, h) Q) (k2 : x.toInt > y.toInt → xq_W X C o ini ret code K (pc + 3, ls, r, h) Q) : xq_W X C o ini ret code K (pc, ls, .int y :: .int x :: r, h) Q := xq_s1 hf (fun z hz => by
  have hz : (bif pm_cmp .le x y then pm_go a ls r h else pm_go (pc + 3) ls r h) = some z := hz
  cases hc : pm_cmp .le x y with
  | true => rw [hc] at hz; cases hz; exact fun _ => k1 (nm_pile.1 hc)
  | false => rw [hc] at hz; cases hz; exact fun _ => k2 (nm_pile.2 hc))
theorem xq_zle {X : pm_X} {C : Nat → List Value → pm_H → Option pm_R} {o : Nat} {ini : Bool} {ret : Option FieldType} {code : List pm_I} {K pc : Nat} {ls : pm_Ls} {h : pm_H} {Q : pm_H → Option Value → Prop} {r : List Value} {off : Int} {len a b : Nat} {v : Value} {x : Int32} (hf : pm_find code pc = some (.ifCond .le off, len, a, b, v)) (k1 : x.toInt ≤ 0 → xq_W X C o ini ret code K (a, ls, r, h) Q) (k2 : x.toInt > 0 → xq_W X C o ini ret code K (pc + 3, ls, r, h) Q) : xq_W X C o ini ret code K (pc, ls, .int x :: r, h) Q := xq_s1 hf (fun z hz => by
  have hz : (bif pm_cmp0 .le x then pm_go a ls r h else pm_go (pc + 3) ls r h) = some z := hz
  cases hc : pm_cmp0 .le x with
  | true => rw [hc] at hz; cases hz; exact fun _ => k1 (nm_pzle.1 hc)
  | false => rw [hc] at hz; cases hz; exact fun _ => k2 (nm_pzle.2 hc))
theorem xq_ts {X : pm_X} {C : Nat → List Value → pm_H → Option pm_R} {o : Nat} {ini : Bool} {ret : Option FieldType} {code : List pm_I} {K pc : Nat} {ls : pm_Ls} {h : pm_H} {Q : pm_H → Option Value → Prop} {r : List Value} {len a b : Nat} {v : Value} {x : Int32} {dflt lo hi off n : Int} {offs : Array Int} (hf : pm_find code pc = some (.tableswitch dflt lo hi offs, len, a, b, v)) (e : x.toInt = n) (hl : (decide (n < lo) || decide (hi < n)) = false) (ho : offs.toList[(n - lo).toNat]? = some off) (h0 : 0 ≤ (pc : Int) + off) (k : xq_W X C o ini ret code K (((pc : Int) + off).toNat, ls, r, h) Q) : xq_W X C o ini ret code K (pc, ls, .int x :: r, h) Q := xq_s1 hf (fun z hz => by
  have hz : pm_tsw pc ls (.int x :: r) h dflt lo hi offs = some z := hz
  unfold pm_tsw at hz
  dsimp only at hz
  rw [e, hl] at hz
  dsimp only [cond] at hz
  rw [ho] at hz
  dsimp only at hz
  rw [decide_eq_true h0] at hz
  cases hz
  exact fun _ => k)
theorem xq_td {X : pm_X} {C : Nat → List Value → pm_H → Option pm_R} {o : Nat} {ini : Bool} {ret : Option FieldType} {code : List pm_I} {K pc : Nat} {ls : pm_Ls} {h : pm_H} {Q : pm_H → Option Value → Prop} {r : List Value} {len a b : Nat} {v : Value} {x : Int32} {dflt lo hi : Int} {offs : Array Int} (hf : pm_find code pc = some (.tableswitch dflt lo hi offs, len, a, b, v)) (e : x.toInt < lo ∨ hi < x.toInt) (h0 : 0 ≤ (pc : Int) + dflt) (k : xq_W X C o ini ret code K (((pc : Int) + dflt).toNat, ls, r, h) Q) : xq_W X C o ini ret code K (pc, ls, .int x :: r, h) Q := xq_s1 hf (fun z hz => by
  have hz : pm_tsw pc ls (.int x :: r) h dflt lo hi offs = some z := hz
  unfold pm_tsw at hz
  dsimp only at hz
  have c : (decide (x.toInt < lo) || decide (hi < x.toInt)) = true := by
    rcases e with e | e
    · rw [decide_eq_true e]; rfl
    · rw [decide_eq_true e]; exact Bool.or_true _
  rw [c] at hz
  dsimp only [cond] at hz
  rw [decide_eq_true h0] at hz
  cases hz
  exact fun _ => k)
theorem xq_in {j : Int32} {n : Nat} (e : pm_in j n = true) : 0 ≤ j.toInt ∧ j.toInt < n := by
  unfold pm_in at e
  rw [Bool.and_eq_true, Bool.not_eq_true', decide_eq_false_iff_not, decide_eq_true_eq, nm_lt, nm_0] at e
  have q : j.toInt.toNat < n := e.2
  omega
theorem xq_aL {X : pm_X} {C : Nat → List Value → pm_H → Option pm_R} {o : Nat} {ini : Bool} {ret : Option FieldType} {code : List pm_I} {K pc : Nat} {ls : pm_Ls} {h : pm_H} {Q : pm_H → Option Value → Prop} {r : List Value} {len a b x n : Nat} {v : Value} {j : Int32} (S : hs_Shape h) (hf : pm_find code pc = some (.iaload, len, a, b, v)) (hs : hs_sh x = (0, n, [])) (hx : x < 129) (k : ∀ z : Int32, z = hs_aI h x j.toInt.toNat → 0 ≤ j.toInt → j.toInt < n → xq_W X C o ini ret code K (pc + 1, ls, .int z :: r, h) Q) : xq_W X C o ini ret code K (pc, ls, .int j :: .ref x :: r, h) Q := xq_s1 hf (fun y hy => by
  have hy : (match pm_arr X h (.ref x) with
      | some (t, n, .inl f) => bif t == 0 && pm_in j n then pm_go (pc + 1) ls (.int (f j.toNatClampNeg) :: r) h else none
      | _ => none) = some y := hy
  rw [hs_iarr S hs hx] at hy
  dsimp only at hy
  cases hj : pm_in j n with
  | false => rw [hj] at hy; cases hy
  | true =>
    rw [hj] at hy
    cases hy
    exact fun _ => k _ rfl (xq_in hj).1 (xq_in hj).2)
theorem xq_bL {X : pm_X} {C : Nat → List Value → pm_H → Option pm_R} {o : Nat} {ini : Bool} {ret : Option FieldType} {code : List pm_I} {K pc : Nat} {ls : pm_Ls} {h : pm_H} {Q : pm_H → Option Value → Prop} {r : List Value} {len a b x n : Nat} {v : Value} {j : Int32} (S : hs_Shape h) (hf : pm_find code pc = some (.baload, len, a, b, v)) (hs : hs_sh x = (2, n, [])) (hx : x < 129) (k : ∀ z : Int32, z = hs_aI h x j.toInt.toNat → 0 ≤ j.toInt → j.toInt < n → xq_W X C o ini ret code K (pc + 1, ls, .int z :: r, h) Q) : xq_W X C o ini ret code K (pc, ls, .int j :: .ref x :: r, h) Q := xq_s1 hf (fun y hy => by
  have hy : (match pm_arr X h (.ref x) with
      | some (t, n, .inl f) => bif (t == 2 || (t == 5 && pm_isS (.ref x))) && pm_in j n then pm_go (pc + 1) ls (.int (f j.toNatClampNeg) :: r) h else none
      | _ => none) = some y := hy
  rw [hs_barr S hs hx] at hy
  dsimp only at hy
  cases hj : pm_in j n with
  | false => rw [hj] at hy; cases hy
  | true =>
    rw [hj] at hy
    cases hy
    exact fun _ => k _ rfl (xq_in hj).1 (xq_in hj).2)
theorem xq_lL {X : pm_X} {C : Nat → List Value → pm_H → Option pm_R} {o : Nat} {ini : Bool} {ret : Option FieldType} {code : List pm_I} {K pc : Nat} {ls : pm_Ls} {h : pm_H} {Q : pm_H → Option Value → Prop} {r : List Value} {len a b x n : Nat} {v : Value} {j : Int32} (S : hs_Shape h) (hf : pm_find code pc = some (.laload, len, a, b, v)) (hs : hs_sh x = (1, n, [])) (hx : x < 129) (k : ∀ z : Int64, z = hs_aL h x j.toInt.toNat → 0 ≤ j.toInt → j.toInt < n → xq_W X C o ini ret code K (pc + 1, ls, .long z :: r, h) Q) : xq_W X C o ini ret code K (pc, ls, .int j :: .ref x :: r, h) Q := xq_s1 hf (fun y hy => by
  have hy : (match pm_arr X h (.ref x) with
      | some (t, n, .inr (.inl f)) => bif t == 1 && pm_in j n then pm_go (pc + 1) ls (.long (f j.toNatClampNeg) :: r) h else none
      | _ => none) = some y := hy
  rw [hs_larr S hs hx] at hy
  dsimp only at hy
  cases hj : pm_in j n with
  | false => rw [hj] at hy; cases hy
  | true =>
    rw [hj] at hy
    cases hy
    exact fun _ => k _ rfl (xq_in hj).1 (xq_in hj).2)
theorem xq_sL {X : pm_X} {C : Nat → List Value → pm_H → Option pm_R} {o : Nat} {ini : Bool} {ret : Option FieldType} {code : List pm_I} {K pc : Nat} {ls : pm_Ls} {h : pm_H} {Q : pm_H → Option Value → Prop} {r : List Value} {len a b n : Nat} {v w : Value} {j : Int32} {f : Nat → Int32} (hw : pm_arr X h w = some (0, n, .inl f)) (hf : pm_find code pc = some (.iaload, len, a, b, v)) (k : ∀ z : Int32, z = f j.toInt.toNat → 0 ≤ j.toInt → j.toInt < n → xq_W X C o ini ret code K (pc + 1, ls, .int z :: r, h) Q) : xq_W X C o ini ret code K (pc, ls, .int j :: w :: r, h) Q := xq_s1 hf (fun y hy => by
  have hy : (match pm_arr X h w with
      | some (t, n, .inl f) => bif t == 0 && pm_in j n then pm_go (pc + 1) ls (.int (f j.toNatClampNeg) :: r) h else none
      | _ => none) = some y := hy
  rw [hw] at hy
  dsimp only at hy
  cases hj : pm_in j n with
  | false => rw [hj] at hy; cases hy
  | true =>
    rw [hj] at hy
    cases hy
    exact fun _ => k _ rfl (xq_in hj).1 (xq_in hj).2)
theorem xq_aS {X : pm_X} {C : Nat → List Value → pm_H → Option pm_R} {o : Nat} {ini : Bool} {ret : Option FieldType} {code : List pm_I} {K pc : Nat} {ls : pm_Ls} {h : pm_H} {Q : pm_H → Option Value → Prop} {r : List Value} {len a b x n : Nat} {v : Value} {j : Int32} {u : Int32} (S : hs_Shape h) (hf : pm_find code pc = some (.iastore, len, a, b, v)) (hs : hs_sh x = (0, n, [])) (hx : x < 129) (k : ∀ h1, h1 = hs_sA h x 0 n j.toInt.toNat u → hs_Shape h1 → 0 ≤ j.toInt → j.toInt < n → xq_W X C o ini ret code K (pc + 1, ls, r, h1) Q) : xq_W X C o ini ret code K (pc, ls, .int u :: .int j :: .ref x :: r, h) Q := xq_s1 hf (fun y hy => by
  have hy : (match pm_arr X h (.ref x) with
      | some (t, n, .inl f) => bif t == 0 && pm_in j n then pm_go (pc + 1) ls r (pm_hset h x (.inl (0, n, .inl (upd f j.toNatClampNeg u)))) else none
      | _ => none) = some y := hy
  rw [hs_iarr S hs hx] at hy
  dsimp only at hy
  cases hj : pm_in j n with
  | false => rw [hj] at hy; cases hy
  | true =>
    rw [hj] at hy
    cases hy
    exact fun _ => k _ rfl (hs_sA_S S hs (Or.inl rfl)) (xq_in hj).1 (xq_in hj).2)
theorem xq_bS {X : pm_X} {C : Nat → List Value → pm_H → Option pm_R} {o : Nat} {ini : Bool} {ret : Option FieldType} {code : List pm_I} {K pc : Nat} {ls : pm_Ls} {h : pm_H} {Q : pm_H → Option Value → Prop} {r : List Value} {len a b x n : Nat} {v : Value} {j : Int32} {u : Int32} (S : hs_Shape h) (hf : pm_find code pc = some (.bastore, len, a, b, v)) (hs : hs_sh x = (2, n, [])) (hx : x < 129) (k : ∀ h1, h1 = hs_sA h x 2 n j.toInt.toNat (u &&& 1) → hs_Shape h1 → 0 ≤ j.toInt → j.toInt < n → xq_W X C o ini ret code K (pc + 1, ls, r, h1) Q) : xq_W X C o ini ret code K (pc, ls, .int u :: .int j :: .ref x :: r, h) Q := xq_s1 hf (fun y hy => by
  have hy : (match pm_arr X h (.ref x) with
      | some (t, n, .inl f) => bif t == 2 && pm_in j n then pm_go (pc + 1) ls r (pm_hset h x (.inl (2, n, .inl (upd f j.toNatClampNeg (u &&& 1))))) else none
      | _ => none) = some y := hy
  rw [hs_barr S hs hx] at hy
  dsimp only at hy
  cases hj : pm_in j n with
  | false => rw [hj] at hy; cases hy
  | true =>
    rw [hj] at hy
    cases hy
    exact fun _ => k _ rfl (hs_sA_S S hs (Or.inr rfl)) (xq_in hj).1 (xq_in hj).2)
theorem xq_lS {X : pm_X} {C : Nat → List Value → pm_H → Option pm_R} {o : Nat} {ini : Bool} {ret : Option FieldType} {code : List pm_I} {K pc : Nat} {ls : pm_Ls} {h : pm_H} {Q : pm_H → Option Value → Prop} {r : List Value} {len a b x n : Nat} {v : Value} {j : Int32} {u : Int64} (S : hs_Shape h) (hf : pm_find code pc = some (.lastore, len, a, b, v)) (hs : hs_sh x = (1, n, [])) (hx : x < 129) (k : ∀ h1, h1 = hs_sL h x n j.toInt.toNat u → hs_Shape h1 → 0 ≤ j.toInt → j.toInt < n → xq_W X C o ini ret code K (pc + 1, ls, r, h1) Q) : xq_W X C o ini ret code K (pc, ls, .long u :: .int j :: .ref x :: r, h) Q := xq_s1 hf (fun y hy => by
  have hy : (match pm_arr X h (.ref x) with
      | some (t, n, .inr (.inl f)) => bif t == 1 && pm_in j n then pm_go (pc + 1) ls r (pm_hset h x (.inl (1, n, .inr (.inl (vp_updL f j.toNatClampNeg u))))) else none
      | _ => none) = some y := hy
  rw [hs_larr S hs hx] at hy
  dsimp only at hy
  cases hj : pm_in j n with
  | false => rw [hj] at hy; cases hy
  | true =>
    rw [hj] at hy
    cases hy
    exact fun _ => k _ rfl (hs_sL_S S hs) (xq_in hj).1 (xq_in hj).2)
theorem xq_al {X : pm_X} {C : Nat → List Value → pm_H → Option pm_R} {o : Nat} {ini : Bool} {ret : Option FieldType} {code : List pm_I} {K pc : Nat} {ls : pm_Ls} {h : pm_H} {Q : pm_H → Option Value → Prop} {r : List Value} {len a b t : Nat} {v w : Value} {A : vp_A} (hw : pm_arr X h w = some (t, A)) (hf : pm_find code pc = some (.arraylength, len, a, b, v)) (k : xq_W X C o ini ret code K (pc + 1, ls, .int (Int32.ofNat A.1) :: r, h) Q) : xq_W X C o ini ret code K (pc, ls, w :: r, h) Q := xq_s1 hf (fun y hy => by
  have hy : (match pm_arr X h w with
      | some (t, n, _) => bif decide (t < 5) || pm_isS w then pm_go (pc + 1) ls (.int (Int32.ofNat n) :: r) h else none
      | none => none) = some y := hy
  rw [hw] at hy
  dsimp only at hy
  generalize (decide (t < 5) || pm_isS w) = q at hy
  cases q with
  | false => cases hy
  | true => cases hy; exact fun _ => k)
theorem xq_gf {X : pm_X} {C : Nat → List Value → pm_H → Option pm_R} {o : Nat} {ini : Bool} {ret : Option FieldType} {code : List pm_I} {K pc : Nat} {ls : pm_Ls} {h : pm_H} {Q : pm_H → Option Value → Prop} {r : List Value} {ix len ci b x : Nat} {v u : Value} {fs : List (Nat × Nat)} {f : Nat × Nat} (S : hs_Shape h) (hf : pm_find code pc = some (.getfield ix, len, ci, b, v)) (hs : hs_sh x = (10 + ci, 0, fs)) (hx : x < 129) (ht : fs[b]? = some f) (hu : hs_fV h x b = u) (k : xq_W X C o ini ret code K (pc + 3, ls, u :: r, h) Q) : xq_W X C o ini ret code K (pc, ls, .ref x :: r, h) Q := xq_s1 hf (fun y hy => by
  have hy : (match pm_obj h (.ref x) with
      | some (_, ci', fs) => bif ci' == ci && decide (b < pm_cn ci) then (match fs[b]? with
        | some u => pm_go (pc + 3) ls (u :: r) h
        | none => none) else none
      | none => none) = some y := hy
  rw [(hs_obj S hs hx).1] at hy
  dsimp only at hy
  rw [hs_get S hs hx ht] at hy
  generalize (ci == ci && decide (b < pm_cn ci)) = q at hy
  cases q with
  | false => cases hy
  | true =>
    cases hy
    rw [hu]
    exact fun _ => k)
theorem xq_gI {X : pm_X} {C : Nat → List Value → pm_H → Option pm_R} {o : Nat} {ini : Bool} {ret : Option FieldType} {code : List pm_I} {K pc : Nat} {ls : pm_Ls} {h : pm_H} {Q : pm_H → Option Value → Prop} {r : List Value} {ix len ci b x : Nat} {v : Value} {fs : List (Nat × Nat)} (S : hs_Shape h) (hf : pm_find code pc = some (.getfield ix, len, ci, b, v)) (hs : hs_sh x = (10 + ci, 0, fs)) (hx : x < 129) (ht : fs[b]? = some (0, 0)) (k : ∀ z : Int32, z = hs_fI h x b → xq_W X C o ini ret code K (pc + 3, ls, .int z :: r, h) Q) : xq_W X C o ini ret code K (pc, ls, .ref x :: r, h) Q := by
  obtain ⟨y, hy⟩ := (hs_obj S hs hx).2.2 b _ ht
  exact xq_gf S hf hs hx ht hy (k y (by unfold hs_fI; rw [hy]))
theorem xq_gB {X : pm_X} {C : Nat → List Value → pm_H → Option pm_R} {o : Nat} {ini : Bool} {ret : Option FieldType} {code : List pm_I} {K pc : Nat} {ls : pm_Ls} {h : pm_H} {Q : pm_H → Option Value → Prop} {r : List Value} {ix len ci b x : Nat} {v : Value} {fs : List (Nat × Nat)} (S : hs_Shape h) (hf : pm_find code pc = some (.getfield ix, len, ci, b, v)) (hs : hs_sh x = (10 + ci, 0, fs)) (hx : x < 129) (ht : fs[b]? = some (1, 0)) (k : ∀ z : Int32, z = hs_fI h x b → z.toInt = 0 ∨ z.toInt = 1 → xq_W X C o ini ret code K (pc + 3, ls, .int z :: r, h) Q) : xq_W X C o ini ret code K (pc, ls, .ref x :: r, h) Q := by
  rcases (hs_obj S hs hx).2.2 b _ ht with hy | hy
  · exact xq_gf S hf hs hx ht hy (k _ (by unfold hs_fI; rw [hy]) (Or.inl (by decide)))
  · exact xq_gf S hf hs hx ht hy (k _ (by unfold hs_fI; rw [hy]) (Or.inr (by decide)))
theorem xq_gL {X : pm_X} {C : Nat → List Value → pm_H → Option pm_R} {o : Nat} {ini : Bool} {ret : Option FieldType} {code : List pm_I} {K pc : Nat} {ls : pm_Ls} {h : pm_H} {Q : pm_H → Option Value → Prop} {r : List Value} {ix len ci b x : Nat} {v : Value} {fs : List (Nat × Nat)} (S : hs_Shape h) (hf : pm_find code pc = some (.getfield ix, len, ci, b, v)) (hs : hs_sh x = (10 + ci, 0, fs)) (hx : x < 129) (ht : fs[b]? = some (2, 0)) (k : ∀ z : Int64, z = hs_fL h x b → xq_W X C o ini ret code K (pc + 3, ls, .long z :: r, h) Q) : xq_W X C o ini ret code K (pc, ls, .ref x :: r, h) Q := by
  obtain ⟨y, hy⟩ := (hs_obj S hs hx).2.2 b _ ht
  exact xq_gf S hf hs hx ht hy (k y (by unfold hs_fL; rw [hy]))
theorem xq_gR {X : pm_X} {C : Nat → List Value → pm_H → Option pm_R} {o : Nat} {ini : Bool} {ret : Option FieldType} {code : List pm_I} {K pc : Nat} {ls : pm_Ls} {h : pm_H} {Q : pm_H → Option Value → Prop} {r : List Value} {ix len ci b x y : Nat} {v : Value} {fs : List (Nat × Nat)} (S : hs_Shape h) (hf : pm_find code pc = some (.getfield ix, len, ci, b, v)) (hs : hs_sh x = (10 + ci, 0, fs)) (hx : x < 129) (ht : fs[b]? = some (3, y)) (k : xq_W X C o ini ret code K (pc + 3, ls, .ref y :: r, h) Q) : xq_W X C o ini ret code K (pc, ls, .ref x :: r, h) Q :=
  xq_gf S hf hs hx ht (show hs_fV h x b = .ref y from (hs_obj S hs hx).2.2 b _ ht) k
theorem xq_gT {X : pm_X} {C : Nat → List Value → pm_H → Option pm_R} {o : Nat} {ini : Bool} {ret : Option FieldType} {code : List pm_I} {K pc : Nat} {ls : pm_Ls} {h : pm_H} {Q : pm_H → Option Value → Prop} {r : List Value} {ix len ci b x f t : Nat} {v : Value} {fs : List (Nat × Nat)} (S : hs_Shape h) (hf : pm_find code pc = some (.getfield ix, len, ci, b, v)) (hs : hs_sh x = (10 + ci, 0, fs)) (hx : x < 129) (ht : fs[b]? = some (f, 0)) (h45 : f = 4 ∨ f = 5) (e : hs_fR h x b = t) (k : xq_W X C o ini ret code K (pc + 3, ls, .ref t :: r, h) Q) : xq_W X C o ini ret code K (pc, ls, .ref x :: r, h) Q := by
  have q := (hs_obj S hs hx).2.2 b _ ht
  have q : ∃ y, hs_fV h x b = .ref y := by
    rcases h45 with rfl | rfl
    · rcases q with q | q
      · exact ⟨_, q⟩
      · exact ⟨_, q⟩
    · rcases q with q | q
      · exact ⟨_, q⟩
      · exact ⟨_, q⟩
  obtain ⟨y, hy⟩ := q
  have e2 : y = t := by
    rw [← e]
    unfold hs_fR
    rw [hy]
  subst e2
  exact xq_gf S hf hs hx ht hy k
theorem xq_pf {X : pm_X} {C : Nat → List Value → pm_H → Option pm_R} {o : Nat} {ini : Bool} {ret : Option FieldType} {code : List pm_I} {K pc : Nat} {ls : pm_Ls} {h : pm_H} {Q : pm_H → Option Value → Prop} {r : List Value} {ix len ci b x : Nat} {v u : Value} {fs : List (Nat × Nat)} {f : Nat × Nat} (S : hs_Shape h) (hf : pm_find code pc = some (.putfield ix, len, ci, b, v)) (hs : hs_sh x = (10 + ci, 0, fs)) (hx : x < 129) (ht : fs[b]? = some f) (hu : pm_fit (pm_ty ci b) u = true → hs_fd f u) (k : ∀ h1, h1 = hs_sF h x ci b u → hs_Shape h1 → pm_fit (pm_ty ci b) u = true → xq_W X C o ini ret code K (pc + 3, ls, r, h1) Q) : xq_W X C o ini ret code K (pc, ls, u :: .ref x :: r, h) Q := xq_s1 hf (fun y hy => by
  have hy : (match pm_obj h (.ref x) with
      | some (x, ci', fs) => bif ci' == ci && decide (b < pm_cn ci) && decide (b < fs.length) && pm_fit (pm_ty ci b) u && (!pm_fin ci b || (ini && decide (pm_cnm ci = pm_own o))) then pm_go (pc + 3) ls r (pm_hset h x (.inr (ci, fs.set b u))) else none
      | none => none) = some y := hy
  rw [(hs_obj S hs hx).1] at hy
  dsimp only at hy
  cases hft : pm_fit (pm_ty ci b) u with
  | false =>
    rw [hft] at hy
    generalize (ci == ci && decide (b < pm_cn ci) && decide (b < (hs_vs h x).length)) = q1 at hy
    cases q1 <;> cases hy
  | true =>
    generalize (ci == ci && decide (b < pm_cn ci) && decide (b < (hs_vs h x).length) && pm_fit (pm_ty ci b) u && (!pm_fin ci b || (ini && decide (pm_cnm ci = pm_own o)))) = q at hy
    cases q with
    | false => cases hy
    | true =>
      cases hy
      exact fun _ => k _ rfl (hs_sF_S S hs hx ht (hu hft)) hft)
theorem xq_pI {X : pm_X} {C : Nat → List Value → pm_H → Option pm_R} {o : Nat} {ini : Bool} {ret : Option FieldType} {code : List pm_I} {K pc : Nat} {ls : pm_Ls} {h : pm_H} {Q : pm_H → Option Value → Prop} {r : List Value} {ix len ci b x : Nat} {v : Value} {u : Int32} {fs : List (Nat × Nat)} (S : hs_Shape h) (hf : pm_find code pc = some (.putfield ix, len, ci, b, v)) (hs : hs_sh x = (10 + ci, 0, fs)) (hx : x < 129) (ht : fs[b]? = some (0, 0)) (k : ∀ h1, h1 = hs_sF h x ci b (.int u) → hs_Shape h1 → xq_W X C o ini ret code K (pc + 3, ls, r, h1) Q) : xq_W X C o ini ret code K (pc, ls, .int u :: .ref x :: r, h) Q :=
  xq_pf S hf hs hx ht (fun _ => ⟨u, rfl⟩) (fun h1 e s _ => k h1 e s)
theorem xq_fitb {u : Int32} (e : pm_fit .boolean (.int u) = true) : u = 0 ∨ u = 1 := by
  have e : (u == 0 || u == 1) = true := e
  rw [Bool.or_eq_true] at e
  rcases e with e | e
  · exact Or.inl (eq_of_beq e)
  · exact Or.inr (eq_of_beq e)
theorem xq_pB {X : pm_X} {C : Nat → List Value → pm_H → Option pm_R} {o : Nat} {ini : Bool} {ret : Option FieldType} {code : List pm_I} {K pc : Nat} {ls : pm_Ls} {h : pm_H} {Q : pm_H → Option Value → Prop} {r : List Value} {ix len ci b x : Nat} {v : Value} {u : Int32} {fs : List (Nat × Nat)} (S : hs_Shape h) (hf : pm_find code pc = some (.putfield ix, len, ci, b, v)) (hs : hs_sh x = (10 + ci, 0, fs)) (hx : x < 129) (hty : pm_ty ci b = .boolean) (ht : fs[b]? = some (1, 0)) (k : ∀ h1, h1 = hs_sF h x ci b (.int u) → hs_Shape h1 → u = 0 ∨ u = 1 → xq_W X C o ini ret code K (pc + 3, ls, r, h1) Q) : xq_W X C o ini ret code K (pc, ls, .int u :: .ref x :: r, h) Q :=
  xq_pf S hf hs hx ht (fun e => by
    rw [hty] at e
    show Value.int u = .int 0 ∨ Value.int u = .int 1
    rcases xq_fitb e with e | e
    · exact Or.inl (by rw [e])
    · exact Or.inr (by rw [e])) (fun h1 e s q => k h1 e s (xq_fitb (by rw [hty] at q; exact q)))
theorem xq_pL {X : pm_X} {C : Nat → List Value → pm_H → Option pm_R} {o : Nat} {ini : Bool} {ret : Option FieldType} {code : List pm_I} {K pc : Nat} {ls : pm_Ls} {h : pm_H} {Q : pm_H → Option Value → Prop} {r : List Value} {ix len ci b x : Nat} {v : Value} {u : Int64} {fs : List (Nat × Nat)} (S : hs_Shape h) (hf : pm_find code pc = some (.putfield ix, len, ci, b, v)) (hs : hs_sh x = (10 + ci, 0, fs)) (hx : x < 129) (ht : fs[b]? = some (2, 0)) (k : ∀ h1, h1 = hs_sF h x ci b (.long u) → hs_Shape h1 → xq_W X C o ini ret code K (pc + 3, ls, r, h1) Q) : xq_W X C o ini ret code K (pc, ls, .long u :: .ref x :: r, h) Q :=
  xq_pf S hf hs hx ht (fun _ => ⟨u, rfl⟩) (fun h1 e s _ => k h1 e s)
theorem xq_id {X : pm_X} {C : Nat → List Value → pm_H → Option pm_R} {o : Nat} {ini : Bool} {ret : Option FieldType} {code : List pm_I} {K pc : Nat} {ls : pm_Ls} {h : pm_H} {Q : pm_H → Option Value → Prop} {r : List Value} {len a b : Nat} {v : Value} {x y : Int32} (hf : pm_find code pc = some (.idiv, len, a, b, v)) (k : ¬ y = 0 → xq_W X C o ini ret code K (pc + 1, ls, .int (x / y) :: r, h) Q) : xq_W X C o ini ret code K (pc, ls, .int y :: .int x :: r, h) Q := xq_s1 hf (fun z hz => by
  have hz : (bif decide (y = 0) then none else pm_go (pc + 1) ls (.int (x / y) :: r) h) = some z := hz
  by_cases e : y = 0
  · rw [decide_eq_true e] at hz; cases hz
  · rw [decide_eq_false e] at hz; cases hz; exact fun _ => k e)
theorem xq_ir {X : pm_X} {C : Nat → List Value → pm_H → Option pm_R} {o : Nat} {ini : Bool} {ret : Option FieldType} {code : List pm_I} {K pc : Nat} {ls : pm_Ls} {h : pm_H} {Q : pm_H → Option Value → Prop} {r : List Value} {len a b : Nat} {v : Value} {x y : Int32} (hf : pm_find code pc = some (.irem, len, a, b, v)) (k : ¬ y = 0 → xq_W X C o ini ret code K (pc + 1, ls, .int (x - x / y * y) :: r, h) Q) : xq_W X C o ini ret code K (pc, ls, .int y :: .int x :: r, h) Q := xq_s1 hf (fun z hz => by
  have hz : (bif decide (y = 0) then none else pm_go (pc + 1) ls (.int (x - x / y * y) :: r) h) = some z := hz
  by_cases e : y = 0
  · rw [decide_eq_true e] at hz; cases hz
  · rw [decide_eq_false e] at hz; cases hz; exact fun _ => k e)
theorem xq_ld {X : pm_X} {C : Nat → List Value → pm_H → Option pm_R} {o : Nat} {ini : Bool} {ret : Option FieldType} {code : List pm_I} {K pc : Nat} {ls : pm_Ls} {h : pm_H} {Q : pm_H → Option Value → Prop} {r : List Value} {len a b : Nat} {v : Value} {x y : Int64} (hf : pm_find code pc = some (.ldiv, len, a, b, v)) (k : ¬ y = 0 → xq_W X C o ini ret code K (pc + 1, ls, .long (x / y) :: r, h) Q) : xq_W X C o ini ret code K (pc, ls, .long y :: .long x :: r, h) Q := xq_s1 hf (fun z hz => by
  have hz : (bif decide (y = 0) then none else pm_go (pc + 1) ls (.long (x / y) :: r) h) = some z := hz
  by_cases e : y = 0
  · rw [decide_eq_true e] at hz; cases hz
  · rw [decide_eq_false e] at hz; cases hz; exact fun _ => k e)
theorem xq_lr {X : pm_X} {C : Nat → List Value → pm_H → Option pm_R} {o : Nat} {ini : Bool} {ret : Option FieldType} {code : List pm_I} {K pc : Nat} {ls : pm_Ls} {h : pm_H} {Q : pm_H → Option Value → Prop} {r : List Value} {len a b : Nat} {v : Value} {x y : Int64} (hf : pm_find code pc = some (.lrem, len, a, b, v)) (k : ¬ y = 0 → xq_W X C o ini ret code K (pc + 1, ls, .long (x - x / y * y) :: r, h) Q) : xq_W X C o ini ret code K (pc, ls, .long y :: .long x :: r, h) Q := xq_s1 hf (fun z hz => by
  have hz : (bif decide (y = 0) then none else pm_go (pc + 1) ls (.long (x - x / y * y) :: r) h) = some z := hz
  by_cases e : y = 0
  · rw [decide_eq_true e] at hz; cases hz
  · rw [decide_eq_false e] at hz; cases hz; exact fun _ => k e)
theorem xq_call {X : pm_X} {C : Nat → List Value → pm_H → Option pm_R} {o : Nat} {ini : Bool} {ret : Option FieldType} {code : List pm_I} {K pc : Nat} {ls : pm_Ls} {h : pm_H} {Q : pm_H → Option Value → Prop} {st : List Value} {P : pm_H → Option Value → Prop} {i : Instr} {len kind mid : Nat} {v : Value} {q : pm_M} (ik : Nat) (hf : pm_find code pc = some (i, len, kind, mid, v)) (hi : ∀ call, pm_step X call o ini ret pc ls st h i len kind mid v = pm_inv X call ik pc ls st h kind mid)
    (hk : (kind == 4 || kind == 5 || kind == 6) = false) (hm : pm_mtL[mid]? = some q) (c : ∀ r, C mid (st.take q.2.2.2.2.2.1).reverse h = some r → P r.1 r.2) (k : ∀ h1 v, h.1 ≤ h1.1 → P h1 v → xq_W X C o ini ret code K (pc + 3, ls, (match v with | some v => v :: st.drop q.2.2.2.2.2.1 | none => st.drop q.2.2.2.2.2.1), h1) Q) : xq_W X C o ini ret code K (pc, ls, st, h) Q := xq_s1 hf (fun z hz => by
  rw [hi] at hz
  unfold pm_inv at hz
  split at hz
  · cases hk
  · cases hk
  · cases hk
  · rw [hm] at hz
    obtain ⟨y, c0, ml, rt, ow, na, cd⟩ := q
    dsimp only at hz c k
    generalize (bif kind == 0 || kind == 7 then ik == 0 else bif kind == 2 then ik == 2 else ik == 1) = b at hz
    cases b with
    | false => cases hz
    | true =>
      dsimp only [cond] at hz
      unfold pm_call at hz
      generalize (decide (na ≤ st.length) && pm_w8 (st.drop na) && (bif kind == 0 || kind == 2 then (match pm_obj h ((st.take na).getLastD .null) with
        | some x => decide (pm_cnm x.2.1 = y.cls)
        | none => false) else bif kind == 7 then (match (st.take na).getLastD .null with
        | .retAddr k => decide (k < 23)
        | _ => false) else kind == 1 || kind == 3)) = b at hz
      cases b with
      | false => cases hz
      | true =>
        dsimp only [cond] at hz
        cases hr : C mid (st.take na).reverse h with
        | none => rw [hr] at hz; cases hz
        | some r =>
          rw [hr] at hz
          obtain ⟨h', w⟩ := r
          have cc := c _ hr
          cases w with
          | none => cases hz; exact fun hle => k h' none hle cc
          | some w => cases hz; exact fun hle => k h' (some w) hle cc)
theorem xq_calln {X : pm_X} {N d : Nat} {o : Nat} {ini : Bool} {ret : Option FieldType} {code : List pm_I} {K pc : Nat} {ls : pm_Ls} {h : pm_H} {Q : pm_H → Option Value → Prop} {st : List Value} {P : pm_H → Option Value → Prop} {i : Instr} {len kind mid : Nat} {v : Value} {q : pm_M} (ik : Nat) (hf : pm_find code pc = some (i, len, kind, mid, v)) (hi : ∀ call, pm_step X call o ini ret pc ls st h i len kind mid v = pm_inv X call ik pc ls st h kind mid)
    (hk : (kind == 4 || kind == 5 || kind == 6) = false) (hm : pm_mtL[mid]? = some q) (c : xq_M X N d mid (st.take q.2.2.2.2.2.1).reverse h P) (k : ∀ h1 v, h.1 ≤ h1.1 → P h1 v → xq_W X (pm_rn X N d) o ini ret code K (pc + 3, ls, (match v with | some v => v :: st.drop q.2.2.2.2.2.1 | none => st.drop q.2.2.2.2.2.1), h1) Q) : xq_W X (pm_rn X N d) o ini ret code K (pc, ls, st, h) Q := xq_call (P := P) ik hf hi hk hm c k
theorem xq_callp {X : pm_X} {N d : Nat} {o : Nat} {ini : Bool} {ret : Option FieldType} {code : List pm_I} {K pc : Nat} {ls : pm_Ls} {h : pm_H} {Q : pm_H → Option Value → Prop} {st : List Value} {P : pm_H → Option Value → Prop} {i : Instr} {len kind mid : Nat} {v : Value} {q : pm_M} (ik : Nat) (hf : pm_find code pc = some (i, len, kind, mid, v)) (hi : ∀ call, pm_step X call o ini ret pc ls st h i len kind mid v = pm_inv X call ik pc ls st h kind mid)
    (hk : (kind == 4 || kind == 5 || kind == 6) = false) (hm : pm_mtL[mid]? = some q) (c : xq_M X N d mid (st.take q.2.2.2.2.2.1).reverse h (fun h1 v => h1 = h ∧ P h1 v)) (k : ∀ v, P h v → xq_W X (pm_rn X N d) o ini ret code K (pc + 3, ls, (match v with | some v => v :: st.drop q.2.2.2.2.2.1 | none => st.drop q.2.2.2.2.2.1), h) Q) : xq_W X (pm_rn X N d) o ini ret code K (pc, ls, st, h) Q :=
  xq_call (P := fun h1 v => h1 = h ∧ P h1 v) ik hf hi hk hm c (fun h1 v _ p => by obtain ⟨e, p⟩ := p; subst e; exact k v p)
theorem xq_M.enter {X : pm_X} {N d mid : Nat} {args : List Value} {h : pm_H} {Q : pm_H → Option Value → Prop} {q : pm_M} (hq : pm_mtL[mid]? = some q) (k : ∀ d, xq_W X (pm_rn X N d) q.2.2.2.2.1 (decide (q.1.name = "<init>")) q.2.2.2.1 q.2.2.2.2.2.2 N (0, pm_ini args q.2.2.1, [], h) Q) : xq_M X N d mid args h Q := by
  intro r hr
  match d, hr with
  | 0, hr => cases hr
  | d + 1, hr =>
    unfold pm_rn at hr
    rw [hq] at hr
    dsimp only at hr
    generalize (decide (args.length = q.2.2.2.2.2.1) && decide ((pm_lay args).length ≤ q.2.2.1) && args.all (fun v => pm_cat1 v || pm_two (some v))) = b at hr
    cases b with
    | false => cases hr
    | true => exact k d N (Nat.le_refl N) r hr
theorem xq_M.enter1 {X : pm_X} {N d mid : Nat} {args : List Value} {h : pm_H} {Q : pm_H → Option Value → Prop} {q : pm_M} (hq : pm_mtL[mid]? = some q) (k : xq_W X (pm_rn X N d) q.2.2.2.2.1 (decide (q.1.name = "<init>")) q.2.2.2.1 q.2.2.2.2.2.2 N (0, pm_ini args q.2.2.1, [], h) Q) : xq_M X N (d + 1) mid args h Q := by
  intro r hr
  unfold pm_rn at hr
  rw [hq] at hr
  dsimp only at hr
  generalize (decide (args.length = q.2.2.2.2.2.1) && decide ((pm_lay args).length ≤ q.2.2.1) && args.all (fun v => pm_cat1 v || pm_two (some v))) = b at hr
  cases b with
  | false => cases hr
  | true => exact k N (Nat.le_refl N) r hr
theorem xq_M.zero {X : pm_X} {N mid : Nat} {args : List Value} {h : pm_H} {Q : pm_H → Option Value → Prop} : xq_M X N 0 mid args h Q := fun r hr => by cases hr
theorem xq_r {X : pm_X} {C : Nat → List Value → pm_H → Option pm_R} {o : Nat} {ini : Bool} {ret : Option FieldType} {code : List pm_I} {K pc : Nat} {ls : pm_Ls} {h : pm_H} {Q : pm_H → Option Value → Prop} {x : Int32} {len a b : Nat} {v : Value} (hf : pm_find code pc = some (.ireturn, len, a, b, v)) (k : Q h (some (.int x))) : xq_W X C o ini ret code K (pc, ls, [.int x], h) Q := xq_s1 hf (fun z hz => by
  have hz : (bif pm_ret ret x then some (.inr (h, some (.int x))) else none : Option (pm_S ⊕ pm_R)) = some z := hz
  cases hb : pm_ret ret x with
  | false => rw [hb] at hz; cases hz
  | true => rw [hb] at hz; cases hz; exact k)
theorem xq_rl {X : pm_X} {C : Nat → List Value → pm_H → Option pm_R} {o : Nat} {ini : Bool} {ret : Option FieldType} {code : List pm_I} {K pc : Nat} {ls : pm_Ls} {h : pm_H} {Q : pm_H → Option Value → Prop} {x : Int64} {len a b : Nat} {v : Value} (hf : pm_find code pc = some (.lreturn, len, a, b, v)) (k : Q h (some (.long x))) : xq_W X C o ini ret code K (pc, ls, [.long x], h) Q := xq_s1 hf (fun z hz => by
  have hz : (bif decide (ret = some .long) then some (.inr (h, some (.long x))) else none : Option (pm_S ⊕ pm_R)) = some z := hz
  generalize decide (ret = some .long) = q at hz
  cases q with
  | false => cases hz
  | true => cases hz; exact k)
theorem xq_rv {X : pm_X} {C : Nat → List Value → pm_H → Option pm_R} {o : Nat} {ini : Bool} {ret : Option FieldType} {code : List pm_I} {K pc : Nat} {ls : pm_Ls} {h : pm_H} {Q : pm_H → Option Value → Prop} {len a b : Nat} {v : Value} (hr : ret = none) (hf : pm_find code pc = some (.return_, len, a, b, v)) (k : Q h none) : xq_W X C o ini ret code K (pc, ls, [], h) Q := xq_s1 hf (fun z hz => by
  subst hr
  cases hz
  exact k)
theorem xq_le {X : pm_X} {C : Nat → List Value → pm_H → Option pm_R} {o : Nat} {ini : Bool} {ret : Option FieldType} {code : List pm_I} {K : Nat} {Q : pm_H → Option Value → Prop} {s : pm_S} {K' : Nat} (hK : K' ≤ K) (k : xq_W X C o ini ret code K s Q) : xq_W X C o ini ret code K' s Q := fun n hn r hr => k n (by omega) r hr
theorem xq_inc {X : pm_X} {C : Nat → List Value → pm_H → Option pm_R} {o : Nat} {ini : Bool} {ret : Option FieldType} {code : List pm_I} {K pc : Nat} {ls : pm_Ls} {h : pm_H} {Q : pm_H → Option Value → Prop} {st : List Value} {k0 len a b : Nat} {v : Value} {n m : Int} {x : Int32} {ls' : Int32 → pm_Ls} (hf : pm_find code pc = some (.iinc k0 n, len, a, b, v)) (hl : pm_ld ls k0 = some (.int x)) (hn : ∀ z, pm_st1 ls k0 (.int z) = ls' z) (hc : (x + Int32.ofInt n).toInt = m) (k : ∀ z : Int32, z.toInt = m → xq_W X C o ini ret code K (pc + 3, ls' z, st, h) Q) : xq_W X C o ini ret code K (pc, ls, st, h) Q := xq_s1 hf (fun y hy => by
  have hy : (match pm_ld ls k0 with
    | some (.int x) => pm_go (pc + 3) (pm_st1 ls k0 (.int (x + Int32.ofInt n))) st h
    | _ => none) = some y := hy
  rw [hl] at hy
  cases hy
  have q := k _ hc
  rw [← hn] at q
  exact fun _ => q)
theorem xq_stq {ls : pm_Ls} {j : Nat} {v : Value} {ls' : pm_Ls} (hj : pm_two (ls.getD j none) = false) (hn : ls.set (j + 1) (some v) = ls') : pm_st1 ls (j + 1) v = ls' := ty_stq hj hn
theorem xq_stw {X : pm_X} {C : Nat → List Value → pm_H → Option pm_R} {o : Nat} {ini : Bool} {ret : Option FieldType} {code : List pm_I} {K pc : Nat} {ls : pm_Ls} {h : pm_H} {Q : pm_H → Option Value → Prop} {r : List Value} {j pc' : Nat} {ls' : pm_Ls} {e : Instr × Nat × Nat × Nat × Value} {x : Int32} (hf : pm_find code pc = some e) (hs : pm_step X C o ini ret pc ls (.int x :: r) h e.1 e.2.1 e.2.2.1 e.2.2.2.1 e.2.2.2.2 = pm_sti pc' ls (.int x :: r) h (j + 1)) (hj : pm_two (ls.getD j none) = false) (hl : decide (j + 1 < ls.length) = true) (hn : ls.set (j + 1) (some (.int x)) = ls') (k : xq_W X C o ini ret code K (pc', ls', r, h) Q) : xq_W X C o ini ret code K (pc, ls, .int x :: r, h) Q := by
  rw [← hn, ← ty_stp hj] at k
  refine xq_p hf ?_ k
  rw [hs]
  unfold pm_sti
  dsimp only
  rw [hl]
  rfl
theorem xq_stwa {X : pm_X} {C : Nat → List Value → pm_H → Option pm_R} {o : Nat} {ini : Bool} {ret : Option FieldType} {code : List pm_I} {K pc : Nat} {ls : pm_Ls} {h : pm_H} {Q : pm_H → Option Value → Prop} {r : List Value} {j pc' : Nat} {ls' : pm_Ls} {e : Instr × Nat × Nat × Nat × Value} {x : Nat} (hf : pm_find code pc = some e) (hs : pm_step X C o ini ret pc ls (.ref x :: r) h e.1 e.2.1 e.2.2.1 e.2.2.2.1 e.2.2.2.2 = pm_sta pc' ls (.ref x :: r) h (j + 1)) (hj : pm_two (ls.getD j none) = false) (hl : decide (j + 1 < ls.length) = true) (hn : ls.set (j + 1) (some (.ref x)) = ls') (k : xq_W X C o ini ret code K (pc', ls', r, h) Q) : xq_W X C o ini ret code K (pc, ls, .ref x :: r, h) Q := by
  rw [← hn, ← ty_stp hj] at k
  refine xq_p hf ?_ k
  rw [hs]
  unfold pm_sta
  dsimp only
  rw [hl]
  rfl
theorem xq_sv0 {X : pm_X} {C : Nat → List Value → pm_H → Option pm_R} {o : Nat} {ini : Bool} {ret : Option FieldType} {code : List pm_I} {K pc : Nat} {ls : pm_Ls} {h : pm_H} {Q : pm_H → Option Value → Prop} {r : List Value} {k ix len : Nat} {v : Value} (hk : k < 23) (hf : pm_find code pc = some (.getfield ix, len, 100, 0, v)) (k2 : xq_W X C o ini ret code K (pc + 3, ls, .retAddr (100 + k) :: r, h) Q) : xq_W X C o ini ret code K (pc, ls, .retAddr k :: r, h) Q := by
  refine xq_p hf ?_ k2
  show (bif (100 : Nat) == 100 && decide (k < 23) then (bif (0 : Nat) == 0 then pm_go (pc + 3) ls (.retAddr (100 + k) :: r) h else pm_go (pc + 3) ls (.int 0 :: r) h) else none) = _
  rw [decide_eq_true hk]
  rfl
theorem xq_sc0 {X : pm_X} {C : Nat → List Value → pm_H → Option pm_R} {o : Nat} {ini : Bool} {ret : Option FieldType} {code : List pm_I} {K pc : Nat} {ls : pm_Ls} {h : pm_H} {Q : pm_H → Option Value → Prop} {r : List Value} {k b ix len : Nat} {v : Value} (hk : k < 23) (hf : pm_find code pc = some (.getfield ix, len, 100, b, v)) (hb : b ≠ 0) (k2 : xq_W X C o ini ret code K (pc + 3, ls, .int 0 :: r, h) Q) : xq_W X C o ini ret code K (pc, ls, .retAddr k :: r, h) Q := by
  refine xq_p hf ?_ k2
  show (bif (100 : Nat) == 100 && decide (k < 23) then (bif b == 0 then pm_go (pc + 3) ls (.retAddr (100 + k) :: r) h else pm_go (pc + 3) ls (.int 0 :: r) h) else none) = _
  rw [decide_eq_true hk, show (b == 0) = false from beq_false_of_ne hb]
  rfl
/-- the j-th byte of a String -/
def xq_sb (k j : Nat) : Int32 := (pm_strB.getD k []).getD j 0
theorem xq_sbl {X : pm_X} {C : Nat → List Value → pm_H → Option pm_R} {o : Nat} {ini : Bool} {ret : Option FieldType} {code : List pm_I} {K pc : Nat} {ls : pm_Ls} {h : pm_H} {Q : pm_H → Option Value → Prop} {r : List Value} {k len a b : Nat} {v : Value} {j : Int32} (hX : ty_SX X) (hk : k < 23) (hf : pm_find code pc = some (.baload, len, a, b, v)) (k2 : ∀ z : Int32, z = xq_sb k j.toInt.toNat → 0 ≤ j.toInt → j.toInt < ty_sn k → xq_W X C o ini ret code K (pc + 1, ls, .int z :: r, h) Q) : xq_W X C o ini ret code K (pc, ls, .int j :: .retAddr (100 + k) :: r, h) Q := xq_s1 hf (fun y hy => by
  have hy : (match pm_arr X h (.retAddr (100 + k)) with
        | some (t, n, .inl f) => bif (t == 2 || (t == 5 && pm_isS (.retAddr (100 + k)))) && pm_in j n then pm_go (pc + 1) ls (.int (f j.toNatClampNeg) :: r) h else none
        | _ => none) = some y := hy
  rw [ty_sB hX hk] at hy
  dsimp only at hy
  cases hj : pm_in j (pm_strB.getD k []).length with
  | false => rw [hj] at hy; cases hy
  | true =>
    rw [hj] at hy
    cases hy
    exact fun _ => k2 _ rfl (xq_in hj).1 (xq_in hj).2)
theorem xf_fI_eq {h h1 : pm_H} (S : hs_Shape h) {a ci k : Nat} {fs : List (Nat × Nat)} {u : Int32} (e : h1 = hs_sF h a ci k (.int u)) (hs : hs_sh a = (10 + ci, 0, fs)) (ha : a < 129) (hk : decide (k < fs.length) = true) : hs_fI h1 a k = u := by
  rw [e]
  exact ty_fI_eq S hs ha hk
theorem xf_fL_eq {h h1 : pm_H} (S : hs_Shape h) {a ci k : Nat} {fs : List (Nat × Nat)} {u : Int64} (e : h1 = hs_sF h a ci k (.long u)) (hs : hs_sh a = (10 + ci, 0, fs)) (ha : a < 129) (hk : decide (k < fs.length) = true) : hs_fL h1 a k = u := by
  rw [e]
  exact ty_fL_eq S hs ha hk
theorem xf_fR_eq {h h1 : pm_H} (S : hs_Shape h) {a ci k : Nat} {fs : List (Nat × Nat)} {u : Nat} (e : h1 = hs_sF h a ci k (.ref u)) (hs : hs_sh a = (10 + ci, 0, fs)) (ha : a < 129) (hk : decide (k < fs.length) = true) : hs_fR h1 a k = u := by
  rw [e]
  unfold hs_fR
  rw [hs_fV_sF S hs ha (of_decide_eq_true hk)]
theorem xf_fI_ne2 {h h1 : pm_H} {a ci k j : Nat} {v : Value} (e : h1 = hs_sF h a ci k v) (n : k ≠ j) : hs_fI h1 a j = hs_fI h a j := by
  rw [e]
  unfold hs_fI
  rw [hs_fV_sF_ne n]
theorem xf_fL_ne2 {h h1 : pm_H} {a ci k j : Nat} {v : Value} (e : h1 = hs_sF h a ci k v) (n : k ≠ j) : hs_fL h1 a j = hs_fL h a j := by
  rw [e]
  unfold hs_fL
  rw [hs_fV_sF_ne n]
theorem xf_fR_ne2 {h h1 : pm_H} {a ci k j : Nat} {v : Value} (e : h1 = hs_sF h a ci k v) (n : k ≠ j) : hs_fR h1 a j = hs_fR h a j := by
  rw [e]
  unfold hs_fR
  rw [hs_fV_sF_ne n]
theorem hs_fR_ne {h : pm_H} {a b k : Nat} {c : pm_C} (hb : b ≠ a) : hs_fR (pm_hset h a c) b k = hs_fR h b k := by
  unfold hs_fR
  rw [hs_fV_ne hb]
theorem hs_aR_ne {h : pm_H} {a b : Nat} {c : pm_C} (hb : b ≠ a) : hs_aR (pm_hset h a c) b = hs_aR h b := by
  unfold hs_aR
  rw [hs_oth hb]
/-- only cells of L differ, new ones aside -/
def pg (L : Nat → Prop) (h h1 : pm_H) : Prop := h.1 ≤ h1.1 ∧ ∀ a, a < h.1 → ¬ L a → h1.2.2 a = h.2.2 a
theorem pg.rfl {L : Nat → Prop} {h : pm_H} : pg L h h := ⟨Nat.le_refl _, fun _ _ _ => Eq.refl _⟩
theorem pg.set {L : Nat → Prop} {h h1 : pm_H} {c : Nat} {x : pm_C} (e : h1 = pm_hset h c x) (hc : L c) : pg L h h1 := by
  subst e
  exact ⟨Nat.le_refl _, fun a _ n => hs_oth (fun e => n (e ▸ hc))⟩
theorem pg.tr {L L1 L2 : Nat → Prop} {h h1 h2 : pm_H} (p : pg L1 h h1) (q : pg L2 h1 h2) (i1 : ∀ a, L1 a → L a) (i2 : ∀ a, L2 a → L a) : pg L h h2 :=
  ⟨Nat.le_trans p.1 q.1, fun a ha n => (q.2 a (Nat.lt_of_lt_of_le ha p.1) (fun k => n (i2 a k))).trans (p.2 a ha (fun k => n (i1 a k)))⟩
theorem pg.fV {L : Nat → Prop} {h h1 : pm_H} (p : pg L h h1) {a : Nat} (ha : a < h.1) (n : ¬ L a) (k : Nat) : hs_fV h1 a k = hs_fV h a k := by
  unfold hs_fV hs_vs
  rw [p.2 a ha n]
theorem pg.fI {L : Nat → Prop} {h h1 : pm_H} (p : pg L h h1) {a : Nat} (ha : a < h.1) (n : ¬ L a) (k : Nat) : hs_fI h1 a k = hs_fI h a k := by
  unfold hs_fI
  rw [p.fV ha n]
theorem pg.fL {L : Nat → Prop} {h h1 : pm_H} (p : pg L h h1) {a : Nat} (ha : a < h.1) (n : ¬ L a) (k : Nat) : hs_fL h1 a k = hs_fL h a k := by
  unfold hs_fL
  rw [p.fV ha n]
theorem pg.fR {L : Nat → Prop} {h h1 : pm_H} (p : pg L h h1) {a : Nat} (ha : a < h.1) (n : ¬ L a) (k : Nat) : hs_fR h1 a k = hs_fR h a k := by
  unfold hs_fR
  rw [p.fV ha n]
theorem pg.aI {L : Nat → Prop} {h h1 : pm_H} (p : pg L h h1) {a : Nat} (ha : a < h.1) (n : ¬ L a) : hs_aI h1 a = hs_aI h a := by
  unfold hs_aI
  rw [p.2 a ha n]
theorem pg.aL {L : Nat → Prop} {h h1 : pm_H} (p : pg L h h1) {a : Nat} (ha : a < h.1) (n : ¬ L a) : hs_aL h1 a = hs_aL h a := by
  unfold hs_aL
  rw [p.2 a ha n]
theorem pg.aR {L : Nat → Prop} {h h1 : pm_H} (p : pg L h h1) {a : Nat} (ha : a < h.1) (n : ¬ L a) : hs_aR h1 a = hs_aR h a := by
  unfold hs_aR
  rw [p.2 a ha n]
/-- of cell c only the fields of L differ -/
def xo (c : Nat) (L : Nat → Prop) (h h1 : pm_H) : Prop := ∀ j, ¬ L j → hs_fV h1 c j = hs_fV h c j
theorem xo.rfl {c : Nat} {L : Nat → Prop} {h : pm_H} : xo c L h h := fun _ _ => Eq.refl _
theorem xo.set {c ci k : Nat} {v : Value} {L : Nat → Prop} {h h1 : pm_H} (e : h1 = hs_sF h c ci k v) (hk : L k) : xo c L h h1 := fun j n => by
  rw [e]
  exact hs_fV_sF_ne (fun q => n (q ▸ hk))
theorem xo.oth {c a : Nat} {x : pm_C} {L : Nat → Prop} {h h1 : pm_H} (e : h1 = pm_hset h a x) (n : c ≠ a) : xo c L h h1 := fun j _ => by
  rw [e]
  exact hs_fV_ne n
theorem xo.pg {c : Nat} {L L' : Nat → Prop} {h h1 : pm_H} (p : pg L' h h1) (ha : c < h.1) (n : ¬ L' c) : xo c L h h1 := fun j _ => p.fV ha n j
theorem xo.tr {c : Nat} {L L1 L2 : Nat → Prop} {h h1 h2 : pm_H} (p : xo c L1 h h1) (q : xo c L2 h1 h2) (i1 : ∀ a, L1 a → L a) (i2 : ∀ a, L2 a → L a) : xo c L h h2 :=
  fun j n => (q j (fun k => n (i2 j k))).trans (p j (fun k => n (i1 j k)))
theorem xo.fI {c : Nat} {L : Nat → Prop} {h h1 : pm_H} (p : xo c L h h1) (k : Nat) (n : ¬ L k) : hs_fI h1 c k = hs_fI h c k := by
  unfold hs_fI
  rw [p k n]
theorem xo.fL {c : Nat} {L : Nat → Prop} {h h1 : pm_H} (p : xo c L h h1) (k : Nat) (n : ¬ L k) : hs_fL h1 c k = hs_fL h c k := by
  unfold hs_fL
  rw [p k n]
theorem xo.fR {c : Nat} {L : Nat → Prop} {h h1 : pm_H} (p : xo c L h h1) (k : Nat) (n : ¬ L k) : hs_fR h1 c k = hs_fR h c k := by
  unfold hs_fR
  rw [p k n]
theorem xq_no {X : pm_X} {C : Nat → List Value → pm_H → Option pm_R} {o : Nat} {ini : Bool} {ret : Option FieldType} {code : List pm_I} {K pc : Nat} {ls : pm_Ls} {h : pm_H} {Q : pm_H → Option Value → Prop} {st : List Value} {e : Instr × Nat × Nat × Nat × Value} (hf : pm_find code pc = some e) (hs : pm_step X C o ini ret pc ls st h e.1 e.2.1 e.2.2.1 e.2.2.2.1 e.2.2.2.2 = none) : xq_W X C o ini ret code K (pc, ls, st, h) Q := xq_s1 hf (fun x hx => by rw [hs] at hx; cases hx)
end PQ
