/-! the writers' rules with an opaque heap behind them: terms stay small -/
section OPQ
theorem hq_pFo {X : pm_X} {d o : Nat} {ini : Bool} {ret : Option FieldType} {code : List pm_I} {pc : Nat} {ls : pm_Ls} {h : pm_H} {Q : pm_H → Option Value → Prop} {ix len ci b x : Nat} {v u : Value} {r : List Value} {fs : List (Nat × Nat)} {f : Nat × Nat} (S : hs_Shape h)
    (hf : pm_find code pc = some (.putfield ix, len, ci, b, v)) (hs : hs_sh x = (10 + ci, 0, fs)) (hx : x < 129) (hb : (decide (b < pm_cn ci) && decide (b < fs.length) && pm_fit (pm_ty ci b) u && (!pm_fin ci b || (ini && decide (pm_cnm ci = pm_own o)))) = true) (ht : fs[b]? = some f) (hu : hs_fd f u)
    (k : ∀ h1, h1 = hs_sF h x ci b u → hs_Shape h1 → h1.1 = h.1 → h1.2.1 = h.2.1 → hq_W X d o ini ret code (pc + 3, ls, r, h1) Q) : hq_W X d o ini ret code (pc, ls, u :: .ref x :: r, h) Q :=
  hq_pF S hf hs hx hb ht hu (fun S1 => k _ rfl S1 rfl rfl)
theorem hq_aSo {X : pm_X} {d o : Nat} {ini : Bool} {ret : Option FieldType} {code : List pm_I} {pc : Nat} {ls : pm_Ls} {h : pm_H} {Q : pm_H → Option Value → Prop} {len a b x n : Nat} {v : Value} {r : List Value} {j y : Int32} (S : hs_Shape h)
    (hf : pm_find code pc = some (.iastore, len, a, b, v)) (hs : hs_sh x = (0, n, [])) (hx : x < 129) (h0 : 0 ≤ j.toInt) (h1 : j.toInt < n)
    (k : ∀ h1, h1 = hs_sA h x 0 n j.toNatClampNeg y → hs_Shape h1 → h1.1 = h.1 → h1.2.1 = h.2.1 → hq_W X d o ini ret code (pc + 1, ls, r, h1) Q) : hq_W X d o ini ret code (pc, ls, .int y :: .int j :: .ref x :: r, h) Q :=
  hq_aS S hf hs hx h0 h1 (fun S1 => k _ rfl S1 rfl rfl)
/-- what a call on a static cell's object asks of the stack -/
theorem hq_pre_o {h : pm_H} {st : List Value} {kind na : Nat} {cls : String} {x ci : Nat} {fs : List (Nat × Nat)} (S : hs_Shape h) (hs : hs_sh x = (10 + ci, 0, fs)) (hx : x < 129) (hl : (st.take na).getLastD .null = .ref x) (hw : (decide (na ≤ st.length) && pm_w8 (st.drop na)) = true) (hk : (kind == 0 || kind == 2) = true) (hc : pm_cnm ci = cls) : hq_pre h st kind na cls = true := by
  unfold hq_pre
  rw [hw, hl, (hs_obj S hs hx).1, hk]
  exact decide_eq_true hc
end OPQ
