/-! THE STEPS over hq_W: one rule for each instruction that looks at the heap or tests something; all others: hq_p. -/
section HQS
theorem hq_getf {X : pm_X} {d o : Nat} {ini : Bool} {ret : Option FieldType} {code : List pm_I} {pc : Nat} {ls : pm_Ls} {h : pm_H} {Q : pm_H → Option Value → Prop} {ix len ci b x : Nat} {v : Value} {r : List Value} {fs : List Value} {u : Value}
    (hf : pm_find code pc = some (.getfield ix, len, ci, b, v)) (ho : pm_obj h (.ref x) = some (x, ci, fs)) (hb : b < pm_cn ci) (hu : fs[b]? = some u) (k : hq_W X d o ini ret code (pc + 3, ls, u :: r, h) Q) : hq_W X d o ini ret code (pc, ls, .ref x :: r, h) Q := by
  refine hq_W.step 0 hf (s' := (pc + 3, ls, u :: r, h)) ?_ (Nat.le_refl _) (Nat.le_refl _) k
  show (match pm_obj h (.ref x) with
      | some (_, ci', fs) => bif ci' == ci && decide (b < pm_cn ci) then (match fs[b]? with
        | some u => pm_go (pc + 3) ls (u :: r) h
        | none => none) else none
      | none => none) = _
  rw [ho]
  dsimp only
  rw [decide_eq_true hb, hu]
  simp [pm_go]
theorem hq_if {X : pm_X} {d o : Nat} {ini : Bool} {ret : Option FieldType} {code : List pm_I} {pc : Nat} {ls : pm_Ls} {h : pm_H} {Q : pm_H → Option Value → Prop} {c : ClassFile.Cond} {off : Int} {len a b : Nat} {v : Value} {r : List Value} {x : Int32}
    (hf : pm_find code pc = some (.ifCond c off, len, a, b, v)) (k1 : pm_cmp0 c x = true → hq_W X d o ini ret code (a, ls, r, h) Q) (k2 : pm_cmp0 c x = false → hq_W X d o ini ret code (pc + 3, ls, r, h) Q) : hq_W X d o ini ret code (pc, ls, .int x :: r, h) Q := by
  cases hc : pm_cmp0 c x with
  | true =>
    refine hq_W.step 0 hf (s' := (a, ls, r, h)) ?_ (Nat.le_refl _) (Nat.le_refl _) (k1 hc)
    show (bif pm_cmp0 c x then pm_go a ls r h else pm_go (pc + 3) ls r h) = _
    rw [hc]; rfl
  | false =>
    refine hq_W.step 0 hf (s' := (pc + 3, ls, r, h)) ?_ (Nat.le_refl _) (Nat.le_refl _) (k2 hc)
    show (bif pm_cmp0 c x then pm_go a ls r h else pm_go (pc + 3) ls r h) = _
    rw [hc]; rfl
theorem hq_ifi {X : pm_X} {d o : Nat} {ini : Bool} {ret : Option FieldType} {code : List pm_I} {pc : Nat} {ls : pm_Ls} {h : pm_H} {Q : pm_H → Option Value → Prop} {c : ClassFile.Cond} {off : Int} {len a b : Nat} {v : Value} {r : List Value} {x y : Int32}
    (hf : pm_find code pc = some (.if_icmp c off, len, a, b, v)) (k1 : pm_cmp c x y = true → hq_W X d o ini ret code (a, ls, r, h) Q) (k2 : pm_cmp c x y = false → hq_W X d o ini ret code (pc + 3, ls, r, h) Q) : hq_W X d o ini ret code (pc, ls, .int y :: .int x :: r, h) Q := by
  cases hc : pm_cmp c x y with
  | true =>
    refine hq_W.step 0 hf (s' := (a, ls, r, h)) ?_ (Nat.le_refl _) (Nat.le_refl _) (k1 hc)
    show (bif pm_cmp c x y then pm_go a ls r h else pm_go (pc + 3) ls r h) = _
    rw [hc]; rfl
  | false =>
    refine hq_W.step 0 hf (s' := (pc + 3, ls, r, h)) ?_ (Nat.le_refl _) (Nat.le_refl _) (k2 hc)
    show (bif pm_cmp c x y then pm_go a ls r h else pm_go (pc + 3) ls r h) = _
    rw [hc]; rfl
theorem hq_iald {X : pm_X} {d o : Nat} {ini : Bool} {ret : Option FieldType} {code : List pm_I} {pc : Nat} {ls : pm_Ls} {h : pm_H} {Q : pm_H → Option Value → Prop} {len a b : Nat} {v : Value} {r : List Value} {j : Int32} {w : Value} {n : Nat} {f : Nat → Int32}
    (hf : pm_find code pc = some (.iaload, len, a, b, v)) (hw : pm_arr X h w = some (0, n, .inl f)) (hj : pm_in j n = true) (k : hq_W X d o ini ret code (pc + 1, ls, .int (f j.toNatClampNeg) :: r, h) Q) : hq_W X d o ini ret code (pc, ls, .int j :: w :: r, h) Q := by
  refine hq_W.step 0 hf (s' := (pc + 1, ls, .int (f j.toNatClampNeg) :: r, h)) ?_ (Nat.le_refl _) (Nat.le_refl _) k
  show (match pm_arr X h w with
      | some (t, n, .inl f) => bif t == 0 && pm_in j n then pm_go (pc + 1) ls (.int (f j.toNatClampNeg) :: r) h else none
      | _ => none) = _
  rw [hw]
  dsimp only
  rw [hj]
  rfl
theorem hq_bald {X : pm_X} {d o : Nat} {ini : Bool} {ret : Option FieldType} {code : List pm_I} {pc : Nat} {ls : pm_Ls} {h : pm_H} {Q : pm_H → Option Value → Prop} {len a b : Nat} {v : Value} {r : List Value} {j : Int32} {w : Value} {n : Nat} {f : Nat → Int32}
    (hf : pm_find code pc = some (.baload, len, a, b, v)) (hw : pm_arr X h w = some (2, n, .inl f)) (hj : pm_in j n = true) (k : hq_W X d o ini ret code (pc + 1, ls, .int (f j.toNatClampNeg) :: r, h) Q) : hq_W X d o ini ret code (pc, ls, .int j :: w :: r, h) Q := by
  refine hq_W.step 0 hf (s' := (pc + 1, ls, .int (f j.toNatClampNeg) :: r, h)) ?_ (Nat.le_refl _) (Nat.le_refl _) k
  show (match pm_arr X h w with
      | some (t, n, .inl f) => bif (t == 2 || (t == 5 && pm_isS w)) && pm_in j n then pm_go (pc + 1) ls (.int (f j.toNatClampNeg) :: r) h else none
      | _ => none) = _
  rw [hw]
  dsimp only
  rw [hj]
  rfl
theorem hq_lald {X : pm_X} {d o : Nat} {ini : Bool} {ret : Option FieldType} {code : List pm_I} {pc : Nat} {ls : pm_Ls} {h : pm_H} {Q : pm_H → Option Value → Prop} {len a b : Nat} {v : Value} {r : List Value} {j : Int32} {w : Value} {n : Nat} {f : Nat → Int64}
    (hf : pm_find code pc = some (.laload, len, a, b, v)) (hw : pm_arr X h w = some (1, n, .inr (.inl f))) (hj : pm_in j n = true) (k : hq_W X d o ini ret code (pc + 1, ls, .long (f j.toNatClampNeg) :: r, h) Q) : hq_W X d o ini ret code (pc, ls, .int j :: w :: r, h) Q := by
  refine hq_W.step 0 hf (s' := (pc + 1, ls, .long (f j.toNatClampNeg) :: r, h)) ?_ (Nat.le_refl _) (Nat.le_refl _) k
  show (match pm_arr X h w with
      | some (t, n, .inr (.inl f)) => bif t == 1 && pm_in j n then pm_go (pc + 1) ls (.long (f j.toNatClampNeg) :: r) h else none
      | _ => none) = _
  rw [hw]
  dsimp only
  rw [hj]
  rfl
theorem hq_aald {X : pm_X} {d o : Nat} {ini : Bool} {ret : Option FieldType} {code : List pm_I} {pc : Nat} {ls : pm_Ls} {h : pm_H} {Q : pm_H → Option Value → Prop} {len a b : Nat} {v : Value} {r : List Value} {j : Int32} {w : Value} {n t : Nat} {f : Nat → Option Nat}
    (hf : pm_find code pc = some (.aaload, len, a, b, v)) (hw : pm_arr X h w = some (t, n, .inr (.inr (.inr (.inr f))))) (ht : (t == 3 || t == 4) = true) (hj : pm_in j n = true) (k : hq_W X d o ini ret code (pc + 1, ls, va_rf (f j.toNatClampNeg) :: r, h) Q) : hq_W X d o ini ret code (pc, ls, .int j :: w :: r, h) Q := by
  refine hq_W.step 0 hf (s' := (pc + 1, ls, va_rf (f j.toNatClampNeg) :: r, h)) ?_ (Nat.le_refl _) (Nat.le_refl _) k
  show (match pm_arr X h w with
      | some (t, n, .inr (.inr (.inr (.inr f)))) => bif (t == 3 || t == 4) && pm_in j n then pm_go (pc + 1) ls (va_rf (f j.toNatClampNeg) :: r) h else none
      | _ => none) = _
  rw [hw]
  dsimp only
  rw [ht, hj]
  rfl
theorem hq_iast {X : pm_X} {d o : Nat} {ini : Bool} {ret : Option FieldType} {code : List pm_I} {pc : Nat} {ls : pm_Ls} {h : pm_H} {Q : pm_H → Option Value → Prop} {len a b : Nat} {v : Value} {r : List Value} {j x : Int32} {q n : Nat} {f : Nat → Int32}
    (hf : pm_find code pc = some (.iastore, len, a, b, v)) (hw : pm_arr X h (.ref q) = some (0, n, .inl f)) (hj : pm_in j n = true) (k : hq_W X d o ini ret code (pc + 1, ls, r, pm_hset h q (.inl (0, n, .inl (upd f j.toNatClampNeg x)))) Q) : hq_W X d o ini ret code (pc, ls, .int x :: .int j :: .ref q :: r, h) Q := by
  refine hq_W.step 0 hf (s' := (pc + 1, ls, r, pm_hset h q (.inl (0, n, .inl (upd f j.toNatClampNeg x))))) ?_ (Nat.le_refl _) (Nat.le_refl _) k
  show (match pm_arr X h (.ref q) with
      | some (t, n, .inl f) => bif t == 0 && pm_in j n then pm_go (pc + 1) ls r (pm_hset h q (.inl (0, n, .inl (upd f j.toNatClampNeg x)))) else none
      | _ => none) = _
  rw [hw]
  dsimp only
  rw [hj]
  rfl
theorem hq_bast {X : pm_X} {d o : Nat} {ini : Bool} {ret : Option FieldType} {code : List pm_I} {pc : Nat} {ls : pm_Ls} {h : pm_H} {Q : pm_H → Option Value → Prop} {len a b : Nat} {v : Value} {r : List Value} {j x : Int32} {q n : Nat} {f : Nat → Int32}
    (hf : pm_find code pc = some (.bastore, len, a, b, v)) (hw : pm_arr X h (.ref q) = some (2, n, .inl f)) (hj : pm_in j n = true) (k : hq_W X d o ini ret code (pc + 1, ls, r, pm_hset h q (.inl (2, n, .inl (upd f j.toNatClampNeg (x &&& 1))))) Q) : hq_W X d o ini ret code (pc, ls, .int x :: .int j :: .ref q :: r, h) Q := by
  refine hq_W.step 0 hf (s' := (pc + 1, ls, r, pm_hset h q (.inl (2, n, .inl (upd f j.toNatClampNeg (x &&& 1)))))) ?_ (Nat.le_refl _) (Nat.le_refl _) k
  show (match pm_arr X h (.ref q) with
      | some (t, n, .inl f) => bif t == 2 && pm_in j n then pm_go (pc + 1) ls r (pm_hset h q (.inl (2, n, .inl (upd f j.toNatClampNeg (x &&& 1))))) else none
      | _ => none) = _
  rw [hw]
  dsimp only
  rw [hj]
  rfl
theorem hq_last {X : pm_X} {d o : Nat} {ini : Bool} {ret : Option FieldType} {code : List pm_I} {pc : Nat} {ls : pm_Ls} {h : pm_H} {Q : pm_H → Option Value → Prop} {len a b : Nat} {v : Value} {r : List Value} {j : Int32} {x : Int64} {q n : Nat} {f : Nat → Int64}
    (hf : pm_find code pc = some (.lastore, len, a, b, v)) (hw : pm_arr X h (.ref q) = some (1, n, .inr (.inl f))) (hj : pm_in j n = true) (k : hq_W X d o ini ret code (pc + 1, ls, r, pm_hset h q (.inl (1, n, .inr (.inl (vp_updL f j.toNatClampNeg x))))) Q) : hq_W X d o ini ret code (pc, ls, .long x :: .int j :: .ref q :: r, h) Q := by
  refine hq_W.step 0 hf (s' := (pc + 1, ls, r, pm_hset h q (.inl (1, n, .inr (.inl (vp_updL f j.toNatClampNeg x)))))) ?_ (Nat.le_refl _) (Nat.le_refl _) k
  show (match pm_arr X h (.ref q) with
      | some (t, n, .inr (.inl f)) => bif t == 1 && pm_in j n then pm_go (pc + 1) ls r (pm_hset h q (.inl (1, n, .inr (.inl (vp_updL f j.toNatClampNeg x))))) else none
      | _ => none) = _
  rw [hw]
  dsimp only
  rw [hj]
  rfl
theorem hq_idiv {X : pm_X} {d o : Nat} {ini : Bool} {ret : Option FieldType} {code : List pm_I} {pc : Nat} {ls : pm_Ls} {h : pm_H} {Q : pm_H → Option Value → Prop} {len a b : Nat} {v : Value} {r : List Value} {x y : Int32}
    (hf : pm_find code pc = some (.idiv, len, a, b, v)) (hy : ¬ y = 0) (k : hq_W X d o ini ret code (pc + 1, ls, .int (x / y) :: r, h) Q) : hq_W X d o ini ret code (pc, ls, .int y :: .int x :: r, h) Q := by
  refine hq_W.step 0 hf (s' := (pc + 1, ls, .int (x / y) :: r, h)) ?_ (Nat.le_refl _) (Nat.le_refl _) k
  show (bif decide (y = 0) then none else pm_go (pc + 1) ls (.int (x / y) :: r) h) = _
  rw [decide_eq_false hy]
  rfl
theorem hq_irem {X : pm_X} {d o : Nat} {ini : Bool} {ret : Option FieldType} {code : List pm_I} {pc : Nat} {ls : pm_Ls} {h : pm_H} {Q : pm_H → Option Value → Prop} {len a b : Nat} {v : Value} {r : List Value} {x y : Int32}
    (hf : pm_find code pc = some (.irem, len, a, b, v)) (hy : ¬ y = 0) (k : hq_W X d o ini ret code (pc + 1, ls, .int (x - x / y * y) :: r, h) Q) : hq_W X d o ini ret code (pc, ls, .int y :: .int x :: r, h) Q := by
  refine hq_W.step 0 hf (s' := (pc + 1, ls, .int (x - x / y * y) :: r, h)) ?_ (Nat.le_refl _) (Nat.le_refl _) k
  show (bif decide (y = 0) then none else pm_go (pc + 1) ls (.int (x - x / y * y) :: r) h) = _
  rw [decide_eq_false hy]
  rfl
theorem hq_ldiv {X : pm_X} {d o : Nat} {ini : Bool} {ret : Option FieldType} {code : List pm_I} {pc : Nat} {ls : pm_Ls} {h : pm_H} {Q : pm_H → Option Value → Prop} {len a b : Nat} {v : Value} {r : List Value} {x y : Int64}
    (hf : pm_find code pc = some (.ldiv, len, a, b, v)) (hy : ¬ y = 0) (k : hq_W X d o ini ret code (pc + 1, ls, .long (x / y) :: r, h) Q) : hq_W X d o ini ret code (pc, ls, .long y :: .long x :: r, h) Q := by
  refine hq_W.step 0 hf (s' := (pc + 1, ls, .long (x / y) :: r, h)) ?_ (Nat.le_refl _) (Nat.le_refl _) k
  show (bif decide (y = 0) then none else pm_go (pc + 1) ls (.long (x / y) :: r) h) = _
  rw [decide_eq_false hy]
  rfl
theorem hq_lrem {X : pm_X} {d o : Nat} {ini : Bool} {ret : Option FieldType} {code : List pm_I} {pc : Nat} {ls : pm_Ls} {h : pm_H} {Q : pm_H → Option Value → Prop} {len a b : Nat} {v : Value} {r : List Value} {x y : Int64}
    (hf : pm_find code pc = some (.lrem, len, a, b, v)) (hy : ¬ y = 0) (k : hq_W X d o ini ret code (pc + 1, ls, .long (x - x / y * y) :: r, h) Q) : hq_W X d o ini ret code (pc, ls, .long y :: .long x :: r, h) Q := by
  refine hq_W.step 0 hf (s' := (pc + 1, ls, .long (x - x / y * y) :: r, h)) ?_ (Nat.le_refl _) (Nat.le_refl _) k
  show (bif decide (y = 0) then none else pm_go (pc + 1) ls (.long (x - x / y * y) :: r) h) = _
  rw [decide_eq_false hy]
  rfl
theorem hq_alen {X : pm_X} {d o : Nat} {ini : Bool} {ret : Option FieldType} {code : List pm_I} {pc : Nat} {ls : pm_Ls} {h : pm_H} {Q : pm_H → Option Value → Prop} {len a b : Nat} {v : Value} {r : List Value} {w : Value} {t : Nat} {A : vp_A}
    (hf : pm_find code pc = some (.arraylength, len, a, b, v)) (hw : pm_arr X h w = some (t, A)) (ht : (decide (t < 5) || pm_isS w) = true) (k : hq_W X d o ini ret code (pc + 1, ls, .int (Int32.ofNat A.1) :: r, h) Q) : hq_W X d o ini ret code (pc, ls, w :: r, h) Q := by
  refine hq_W.step 0 hf (s' := (pc + 1, ls, .int (Int32.ofNat A.1) :: r, h)) ?_ (Nat.le_refl _) (Nat.le_refl _) k
  show (match pm_arr X h w with
      | some (t, n, _) => bif decide (t < 5) || pm_isS w then pm_go (pc + 1) ls (.int (Int32.ofNat n) :: r) h else none
      | none => none) = _
  rw [hw]
  obtain ⟨n, A⟩ := A
  dsimp only
  rw [ht]
  rfl
theorem hq_putf {X : pm_X} {d o : Nat} {ini : Bool} {ret : Option FieldType} {code : List pm_I} {pc : Nat} {ls : pm_Ls} {h : pm_H} {Q : pm_H → Option Value → Prop} {len a b : Nat} {v : Value} {r : List Value} {ix x : Nat} {fs : List Value} {u : Value}
    (hf : pm_find code pc = some (.putfield ix, len, a, b, v)) (ho : pm_obj h (.ref x) = some (x, a, fs)) (hb : (decide (b < pm_cn a) && decide (b < fs.length) && pm_fit (pm_ty a b) u && (!pm_fin a b || (ini && decide (pm_cnm a = pm_own o)))) = true) (k : hq_W X d o ini ret code (pc + 3, ls, r, pm_hset h x (.inr (a, fs.set b u))) Q) : hq_W X d o ini ret code (pc, ls, u :: .ref x :: r, h) Q := by
  refine hq_W.step 0 hf (s' := (pc + 3, ls, r, pm_hset h x (.inr (a, fs.set b u)))) ?_ (Nat.le_refl _) (Nat.le_refl _) k
  show (match pm_obj h (.ref x) with
      | some (x, ci, fs) => bif ci == a && decide (b < pm_cn a) && decide (b < fs.length) && pm_fit (pm_ty a b) u && (!pm_fin a b || (ini && decide (pm_cnm a = pm_own o))) then pm_go (pc + 3) ls r (pm_hset h x (.inr (a, fs.set b u))) else none
      | none => none) = _
  rw [ho]
  dsimp only
  have e : (a == a) = true := beq_self_eq_true a
  rw [e, Bool.true_and, hb]
  rfl
/-- what a call asks of the stack -/
def hq_pre (h : pm_H) (st : List Value) (kind na : Nat) (cls : String) : Bool := decide (na ≤ st.length) && pm_w8 (st.drop na) && (bif kind == 0 || kind == 2 then (match pm_obj h ((st.take na).getLastD .null) with
      | some x => decide (pm_cnm x.2.1 = cls)
      | none => false) else bif kind == 7 then (match (st.take na).getLastD .null with
      | .retAddr k => decide (k < 23)
      | _ => false) else kind == 1 || kind == 3)
/-- a call: kind 0 virtual, 1 static, 2 special, 3 private in the nest, 7 on a String -/
theorem hq_inv {X : pm_X} {d o : Nat} {ini : Bool} {ret : Option FieldType} {code : List pm_I} {pc : Nat} {ls : pm_Ls} {st : List Value} {h : pm_H} {Q : pm_H → Option Value → Prop} {i : Instr} {len kind mid : Nat} {v : Value} {q : pm_M} (ik : Nat)
    (hf : pm_find code pc = some (i, len, kind, mid, v)) (hi : ∀ call, pm_step X call o ini ret pc ls st h i len kind mid v = pm_inv X call ik pc ls st h kind mid)
    (hk : (kind == 4 || kind == 5 || kind == 6) = false) (hm : pm_mtL[mid]? = some q) (hik : (bif kind == 0 || kind == 7 then ik == 0 else bif kind == 2 then ik == 2 else ik == 1) = true)
    (hp : hq_pre h st kind q.2.2.2.2.2.1 q.1.cls = true)
    (k : hq_M X d mid (st.take q.2.2.2.2.2.1).reverse h (fun h' v => h.1 ≤ h'.1 ∧ h.2.1 ≤ h'.2.1 ∧ hq_W X d o ini ret code (pc + 3, ls, (match v with | some v => v :: st.drop q.2.2.2.2.2.1 | none => st.drop q.2.2.2.2.2.1), h') Q)) : hq_W X d o ini ret code (pc, ls, st, h) Q := by
  refine hq_W.call hf (fun call r hr => ?_) k
  show pm_step X call o ini ret pc ls st h i len kind mid v = _
  rw [hi]
  obtain ⟨y, c0, ml, rt, ow, na, cd⟩ := q
  dsimp only at hp hr ⊢
  unfold pm_inv
  split
  · cases hk
  · cases hk
  · cases hk
  · rw [hm]
    dsimp only
    rw [hik]
    dsimp only [cond]
    have e : pm_call call kind mid na y.cls pc ls st h = (bif hq_pre h st kind na y.cls then
    (match call mid (st.take na).reverse h with
    | some (h', some v) => pm_go (pc + 3) ls (v :: st.drop na) h'
    | some (h', none) => pm_go (pc + 3) ls (st.drop na) h'
    | none => none) else none) := rfl
    rw [e, hp, hr]
    dsimp only [cond]
    obtain ⟨h', w⟩ := r
    cases w with
    | none => rfl
    | some w => rfl
/-- any instruction that leaves the heap as it is: refine hq_p rfl rfl ?_ -/
theorem hq_p {X : pm_X} {d o : Nat} {ini : Bool} {ret : Option FieldType} {code : List pm_I} {pc : Nat} {ls : pm_Ls} {st : List Value} {h : pm_H} {Q : pm_H → Option Value → Prop} {e : Instr × Nat × Nat × Nat × Value} {pc' : Nat} {ls' : pm_Ls} {st' : List Value} (hf : pm_find code pc = some e) (hs : pm_step X (pm_rn X 0 d) o ini ret pc ls st h e.1 e.2.1 e.2.2.1 e.2.2.2.1 e.2.2.2.2 = some (.inl (pc', ls', st', h))) (k : hq_W X d o ini ret code (pc', ls', st', h) Q) : hq_W X d o ini ret code (pc, ls, st, h) Q :=
  hq_W.step 0 hf hs (Nat.le_refl _) (Nat.le_refl _) k
end HQS
