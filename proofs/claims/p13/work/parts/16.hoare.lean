/-! THE PURE MACHINE'S RUNS, without their fuel: hq_M (a method ends with such an answer), hq_W (from this state it ends so). More fuel and more depth change nothing that has ended. -/
section HQ
theorem hq_call_mono {call call' : Nat → List Value → pm_H → Option pm_R} (hc : ∀ m a h r, call m a h = some r → call' m a h = some r) {kind mid na : Nat} {cls : String} {pc : Nat} {ls : pm_Ls} {st : List Value} {h : pm_H} {x : pm_S ⊕ pm_R} (hx : pm_call call kind mid na cls pc ls st h = some x) : pm_call call' kind mid na cls pc ls st h = some x := by
  unfold pm_call at hx ⊢
  generalize (decide (na ≤ st.length) && pm_w8 (st.drop na) && (bif kind == 0 || kind == 2 then (match pm_obj h ((st.take na).getLastD .null) with
      | some x => decide (pm_cnm x.2.1 = cls)
      | none => false) else bif kind == 7 then (match (st.take na).getLastD .null with
      | .retAddr k => decide (k < 23)
      | _ => false) else kind == 1 || kind == 3)) = B at hx ⊢
  cases B with
  | false => exact hx
  | true =>
    dsimp only [cond] at hx ⊢
    cases hr : call mid (st.take na).reverse h with
    | none => rw [hr] at hx; cases hx
    | some r =>
      rw [hr] at hx
      rw [hc _ _ _ _ hr]
      exact hx
theorem hq_inv_mono {X : pm_X} {call call' : Nat → List Value → pm_H → Option pm_R} (hc : ∀ m a h r, call m a h = some r → call' m a h = some r) {ik pc : Nat} {ls : pm_Ls} {st : List Value} {h : pm_H} {kind mid : Nat} {x : pm_S ⊕ pm_R} (hx : pm_inv X call ik pc ls st h kind mid = some x) : pm_inv X call' ik pc ls st h kind mid = some x := by
  unfold pm_inv at hx ⊢
  split at hx
  · exact hx
  · exact hx
  · exact hx
  · split at hx
    · generalize (bif kind == 0 || kind == 7 then ik == 0 else bif kind == 2 then ik == 2 else ik == 1) = B at hx ⊢
      cases B with
      | false => exact hx
      | true => exact hq_call_mono hc hx
    · exact hx
theorem hq_step_mono {X : pm_X} {call call' : Nat → List Value → pm_H → Option pm_R} (hc : ∀ m a h r, call m a h = some r → call' m a h = some r) {o : Nat} {ini : Bool} {ret : Option FieldType} {pc : Nat} {ls : pm_Ls} {st : List Value} {h : pm_H} {i : Instr} {len a b : Nat} {v : Value} {x : pm_S ⊕ pm_R} (hx : pm_step X call o ini ret pc ls st h i len a b v = some x) : pm_step X call' o ini ret pc ls st h i len a b v = some x := by
  cases i <;> first | exact hx | exact hq_inv_mono (X := X) (ik := 0) (pc := pc) (ls := ls) (st := st) (h := h) (kind := a) (mid := b) hc hx | exact hq_inv_mono (X := X) (ik := 1) (pc := pc) (ls := ls) (st := st) (h := h) (kind := a) (mid := b) hc hx | exact hq_inv_mono (X := X) (ik := 2) (pc := pc) (ls := ls) (st := st) (h := h) (kind := a) (mid := b) hc hx
theorem hq_ey_mono {X : pm_X} {call call' : Nat → List Value → pm_H → Option pm_R} (hc : ∀ m a h r, call m a h = some r → call' m a h = some r) {o : Nat} {ini : Bool} {ret : Option FieldType} {code : List pm_I} {n : Nat} : ∀ {n' : Nat} {s : pm_S} {r : pm_R}, n ≤ n' → pm_ey X call o ini ret code n s = some r → pm_ey X call' o ini ret code n' s = some r := by
  induction n with
  | zero => intro n' s r _ h; cases h
  | succ n ih =>
    intro n' s r hn h
    match n', hn with
    | n' + 1, hn =>
      unfold pm_ey at h ⊢
      cases hf : pm_find code s.1 with
      | none => rw [hf] at h; cases h
      | some e =>
        rw [hf] at h
        dsimp only at h ⊢
        cases hs : pm_step X call o ini ret s.1 s.2.1 s.2.2.1 s.2.2.2 e.1 e.2.1 e.2.2.1 e.2.2.2.1 e.2.2.2.2 with
        | none => rw [hs] at h; cases h
        | some x =>
          rw [hs] at h
          rw [hq_step_mono hc hs]
          cases x with
          | inr q => exact h
          | inl s' =>
            dsimp only at h ⊢
            generalize (decide (s.2.2.2.1 ≤ s'.2.2.2.1) && decide (s.2.2.2.2.1 ≤ s'.2.2.2.2.1)) = B at h ⊢
            cases B with
            | false => exact h
            | true => exact ih (by omega) h
theorem hq_rn_mono {X : pm_X} {n n' : Nat} (hn : n ≤ n') : ∀ {d d' : Nat}, d ≤ d' → ∀ {mid : Nat} {args : List Value} {h : pm_H} {r : pm_R}, pm_rn X n d mid args h = some r → pm_rn X n' d' mid args h = some r := by
  intro d
  induction d with
  | zero => intro d' _ mid args h r hr; cases hr
  | succ d ih =>
    intro d' hd mid args h r hr
    match d', hd with
    | d' + 1, hd =>
      unfold pm_rn at hr ⊢
      cases hq : pm_mtL[mid]? with
      | none => rw [hq] at hr; cases hr
      | some q =>
        rw [hq] at hr
        dsimp only at hr ⊢
        generalize (decide (args.length = q.2.2.2.2.2.1) && decide ((pm_lay args).length ≤ q.2.2.1) && args.all (fun v => pm_cat1 v || pm_two (some v))) = B at hr ⊢
        cases B with
        | false => exact hr
        | true => exact hq_ey_mono (fun m a h r hr => ih (by omega) hr) hn hr
/-- the method ends, its calls no deeper than d, with an answer as Q says -/
def hq_M (X : pm_X) (d mid : Nat) (args : List Value) (h : pm_H) (Q : pm_H → Option Value → Prop) : Prop := ∃ n r, pm_rn X n d mid args h = some r ∧ Q r.1 r.2
/-- from this state it ends so, its calls no deeper than d -/
def hq_W (X : pm_X) (d o : Nat) (ini : Bool) (ret : Option FieldType) (code : List pm_I) (s : pm_S) (Q : pm_H → Option Value → Prop) : Prop := ∃ n r, pm_ey X (pm_rn X n d) o ini ret code n s = some r ∧ Q r.1 r.2
theorem hq_M.mono {X : pm_X} {d d' mid : Nat} {args : List Value} {h : pm_H} {Q Q' : pm_H → Option Value → Prop} (hd : d ≤ d') (hQ : ∀ h v, Q h v → Q' h v) (k : hq_M X d mid args h Q) : hq_M X d' mid args h Q' := by
  obtain ⟨n, r, h1, h2⟩ := k
  exact ⟨n, r, hq_rn_mono (Nat.le_refl n) hd h1, hQ _ _ h2⟩
theorem hq_W.mono {X : pm_X} {d d' o : Nat} {ini : Bool} {ret : Option FieldType} {code : List pm_I} {s : pm_S} {Q Q' : pm_H → Option Value → Prop} (hd : d ≤ d') (hQ : ∀ h v, Q h v → Q' h v) (k : hq_W X d o ini ret code s Q) : hq_W X d' o ini ret code s Q' := by
  obtain ⟨n, r, h1, h2⟩ := k
  exact ⟨n, r, hq_ey_mono (fun m a h r hr => hq_rn_mono (Nat.le_refl n) hd hr) (Nat.le_refl n) h1, hQ _ _ h2⟩
/-- one instruction; calls: any that end -/
theorem hq_W.step {X : pm_X} {d o : Nat} {ini : Bool} {ret : Option FieldType} {code : List pm_I} {pc : Nat} {ls : pm_Ls} {st : List Value} {h : pm_H} {Q : pm_H → Option Value → Prop} {e : Instr × Nat × Nat × Nat × Value} {s' : pm_S} (n : Nat) (hf : pm_find code pc = some e) (hs : pm_step X (pm_rn X n d) o ini ret pc ls st h e.1 e.2.1 e.2.2.1 e.2.2.2.1 e.2.2.2.2 = some (.inl s')) (h1 : h.1 ≤ s'.2.2.2.1) (h2 : h.2.1 ≤ s'.2.2.2.2.1) (k : hq_W X d o ini ret code s' Q) : hq_W X d o ini ret code (pc, ls, st, h) Q := by
  obtain ⟨n', r, k1, k2⟩ := k
  refine ⟨max n n' + 1, r, ?_, k2⟩
  unfold pm_ey
  dsimp only
  rw [hf]
  dsimp only
  rw [hq_step_mono (call' := pm_rn X (max n n' + 1) d) (fun m a h r hr => hq_rn_mono (by omega) (Nat.le_refl d) hr) hs]
  dsimp only
  rw [decide_eq_true h1, decide_eq_true h2]
  exact hq_ey_mono (fun m a h r hr => hq_rn_mono (by omega) (Nat.le_refl d) hr) (by omega) k1
/-- a return -/
theorem hq_W.ret {X : pm_X} {d o : Nat} {ini : Bool} {ret : Option FieldType} {code : List pm_I} {pc : Nat} {ls : pm_Ls} {st : List Value} {h : pm_H} {Q : pm_H → Option Value → Prop} {e : Instr × Nat × Nat × Nat × Value} {v : Option Value} (hf : pm_find code pc = some e) (hs : pm_step X (fun _ _ _ => none) o ini ret pc ls st h e.1 e.2.1 e.2.2.1 e.2.2.2.1 e.2.2.2.2 = some (.inr (h, v))) (hr : pm_isRet e.1 = true) (k : Q h v) : hq_W X d o ini ret code (pc, ls, st, h) Q := by
  refine ⟨1, (h, v), ?_, k⟩
  unfold pm_ey
  dsimp only
  rw [hf]
  dsimp only
  rw [hq_step_mono (call' := pm_rn X 1 d) (fun m a h r hr => by cases hr) hs]
  dsimp only
  rw [hr, decide_eq_true (Nat.le_refl _), decide_eq_true (Nat.le_refl _)]
  rfl
/-- a method's entry -/
theorem hq_M.enter {X : pm_X} {d mid : Nat} {args : List Value} {h : pm_H} {Q : pm_H → Option Value → Prop} {q : pm_M} (hq : pm_mtL[mid]? = some q) (ha : (decide (args.length = q.2.2.2.2.2.1) && decide ((pm_lay args).length ≤ q.2.2.1) && args.all (fun v => pm_cat1 v || pm_two (some v))) = true) (k : hq_W X d q.2.2.2.2.1 (decide (q.1.name = "<init>")) q.2.2.2.1 q.2.2.2.2.2.2 (0, pm_ini args q.2.2.1, [], h) Q) : hq_M X (d + 1) mid args h Q := by
  obtain ⟨n, r, k1, k2⟩ := k
  refine ⟨n, r, ?_, k2⟩
  unfold pm_rn
  rw [hq]
  dsimp only
  rw [ha]
  exact k1
/-- a call of a method of the table: what the callee does, then the rest -/
theorem hq_W.call {X : pm_X} {d o : Nat} {ini : Bool} {ret : Option FieldType} {code : List pm_I} {pc : Nat} {ls : pm_Ls} {st : List Value} {h : pm_H} {Q : pm_H → Option Value → Prop} {e : Instr × Nat × Nat × Nat × Value} {mid : Nat} {args : List Value} {st' : List Value} (hf : pm_find code pc = some e)
    (hs : ∀ (call : Nat → List Value → pm_H → Option pm_R) (r : pm_R), call mid args h = some r → pm_step X call o ini ret pc ls st h e.1 e.2.1 e.2.2.1 e.2.2.2.1 e.2.2.2.2 = some (.inl (pc + 3, ls, (match r.2 with | some v => v :: st' | none => st'), r.1)))
    (k : hq_M X d mid args h (fun h' v => h.1 ≤ h'.1 ∧ h.2.1 ≤ h'.2.1 ∧ hq_W X d o ini ret code (pc + 3, ls, (match v with | some v => v :: st' | none => st'), h') Q)) : hq_W X d o ini ret code (pc, ls, st, h) Q := by
  obtain ⟨n, r, k1, k2, k3, k4⟩ := k
  exact hq_W.step n hf (hs _ r k1) k2 k3 k4
end HQ
