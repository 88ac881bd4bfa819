/-! what the tables say of the linked instructions: checked once, by the kernel, by the words' places -/
def pm_gw : List Cond := lw_tbl.filter goodWord
theorem pm_gw_of {w : Cond} {i : Nat} (h : lw_tbl[i]? = some w) (hg : goodWord w = true) : w ∈ pm_gw := List.mem_filter.mpr ⟨List.mem_of_getElem? h, hg⟩
def pm_y (mid : Nat) : MethodName := match pm_mtL[mid]? with
  | some q => q.1
  | none => ⟨"", "", ""⟩
def pm_fw (o ix ci k : Nat) : Cond := if ci = 100 then (if k = 0 then .fieldLink (pm_own o) ix "java/lang/String" "value" "[B" else .fieldLink (pm_own o) ix "java/lang/String" "coder" "B") else
  match pm_cls[ci]? with
  | some q => .fieldLink (pm_own o) ix (q.2.1 k).1 (q.2.1 k).2.1 (q.2.1 k).2.2.1
  | none => .tt
def pm_mw (o ix kind mid : Nat) : Cond := if kind = 3 then .methodLinkNest (pm_own o) ix (pm_y mid) "TrainBearers" else if kind = 4 then .methodLink (pm_own o) ix Lib.objectInit else if kind = 5 then .methodLink (pm_own o) ix arraycopyName else
  if kind = 6 then .methodLink (pm_own o) ix ⟨"[I", "clone", "()Ljava/lang/Object;"⟩ else .methodLink (pm_own o) ix (pm_y mid)
def pm_kw (o ix kind : Nat) (v : Value) : Cond := match kind, v with
  | 0, .int x => .constant (pm_own o) ix x
  | 1, .long x => .constantLong (pm_own o) ix x
  | 2, .retAddr i => .stringRef (pm_own o) ix (pm_strT.getD i (0, "")).2
  | _, _ => .tt
def pm_anm (t : Nat) : String := if t = 0 then "[I" else if t = 3 then "TrainBearers$Text" else if t = 4 then "TrainBearers$Train" else ""
theorem pm_flA_ok : pm_flA.all (fun e => decide (lw_tbl[e.2.2.2.2]? = some (pm_fw e.1 e.2.1 e.2.2.1 e.2.2.2.1)) && goodWord (pm_fw e.1 e.2.1 e.2.2.1 e.2.2.2.1)) = true := by decide +kernel
theorem pm_mlA_ok : pm_mlA.all (fun e => decide (lw_tbl[e.2.2.2.2]? = some (pm_mw e.1 e.2.1 e.2.2.1 e.2.2.2.1)) && (decide (e.2.2.1 = 3) || goodWord (pm_mw e.1 e.2.1 e.2.2.1 e.2.2.2.1))) = true := by decide +kernel
theorem pm_klA_ok : pm_klA.all (fun e => decide (lw_tbl[e.2.2.2.2]? = some (pm_kw e.1 e.2.1 e.2.2.1 e.2.2.2.1)) && (decide (e.2.2.1 = 2) || goodWord (pm_kw e.1 e.2.1 e.2.2.1 e.2.2.2.1))) = true := by decide +kernel
theorem pm_slA_ok : pm_slA.all (fun e => decide (lw_tbl[e.2.2.2.2.2.2]? = some (.fieldLink (pm_own e.1) e.2.1 e.2.2.2.1 e.2.2.2.2.1 e.2.2.2.2.2.1)) && goodWord (.fieldLink (pm_own e.1) e.2.1 e.2.2.2.1 e.2.2.2.2.1 e.2.2.2.2.2.1)) = true := by decide +kernel
theorem pm_nlA_ok : pm_nlA.all (fun e => decide (lw_tbl[e.2.2.2]? = some (.classLink (pm_own e.1) e.2.1 (pm_cnm e.2.2.1))) && goodWord (.classLink (pm_own e.1) e.2.1 (pm_cnm e.2.2.1))) = true := by decide +kernel
theorem pm_alA_ok : pm_alA.all (fun e => decide (lw_tbl[e.2.2.2]? = some (.classLink (pm_own e.1) e.2.1 (pm_anm e.2.2.1))) && goodWord (.classLink (pm_own e.1) e.2.1 (pm_anm e.2.2.1))) = true := by decide +kernel
/-- what is asked of an instruction in its row -/
def pm_lk (i : Instr) (o pc len a b : Nat) (v : Value) : Bool := match i with
  | .getfield ix => len == 3 && pm_flA.any (fun q => q.1 == o && q.2.1 == ix && q.2.2.1 == a && q.2.2.2.1 == b)
  | .putfield ix => len == 3 && !decide (a = 100) && pm_flA.any (fun q => q.1 == o && q.2.1 == ix && q.2.2.1 == a && q.2.2.2.1 == b)
  | .getstatic ix => len == 3 && pm_slA.any (fun q => q.1 == o && q.2.1 == ix && decide (q.2.2.1 = v))
  | .ldc ix => len == 2 && pm_klA.any (fun q => q.1 == o && q.2.1 == ix && q.2.2.1 == a && decide (q.2.2.2.1 = v))
  | .ldc_w ix => len == 3 && pm_klA.any (fun q => q.1 == o && q.2.1 == ix && q.2.2.1 == a && decide (q.2.2.2.1 = v))
  | .ldc2_w ix => len == 3 && pm_klA.any (fun q => q.1 == o && q.2.1 == ix && q.2.2.1 == a && decide (q.2.2.2.1 = v))
  | .invokevirtual ix => len == 3 && pm_mlA.any (fun q => q.1 == o && q.2.1 == ix && q.2.2.1 == a && q.2.2.2.1 == b)
  | .invokespecial ix => len == 3 && pm_mlA.any (fun q => q.1 == o && q.2.1 == ix && q.2.2.1 == a && q.2.2.2.1 == b)
  | .invokestatic ix => len == 3 && pm_mlA.any (fun q => q.1 == o && q.2.1 == ix && q.2.2.1 == a && q.2.2.2.1 == b)
  | .new ix => len == 3 && pm_nlA.any (fun q => q.1 == o && q.2.1 == ix && q.2.2.1 == a)
  | .anewarray ix => len == 3 && pm_alA.any (fun q => q.1 == o && q.2.1 == ix && q.2.2.1 == a)
  | .checkcast ix => len == 3 && pm_alA.any (fun q => q.1 == o && q.2.1 == ix && q.2.2.1 == a)
  | .goto off => len == 3 && decide ((pc : Int) + off = (a : Int))
  | .ifCond _ off => len == 3 && decide ((pc : Int) + off = (a : Int))
  | .if_icmp _ off => len == 3 && decide ((pc : Int) + off = (a : Int))
  | .ifnull off => len == 3 && decide ((pc : Int) + off = (a : Int))
  | .ifnonnull off => len == 3 && decide ((pc : Int) + off = (a : Int))
  | .bipush _ => len == 2
  | .sipush _ => len == 3
  | .iload _ => len == 2
  | .lload _ => len == 2
  | .aload _ => len == 2
  | .istore _ => len == 2
  | .lstore _ => len == 2
  | .astore _ => len == 2
  | .iinc _ _ => len == 3
  | .newarray _ => len == 2
  | .tableswitch _ _ _ _ => true
  | _ => len == 1
/-- an instruction that isn't linked is never gone through -/
def pm_unl (i : Instr) (a : Nat) : Bool := match i with
  | .invokestatic _ => a == 99
  | _ => false
def pm_rokB (o : Nat) (e : pm_I) : Bool := pm_unl e.2.1 e.2.2.2.1 || pm_lk e.2.1 o e.1 e.2.2.1 e.2.2.2.1 e.2.2.2.2.1 e.2.2.2.2.2
def pm_mB (q : pm_M) (w : Nat × Nat × Nat × Nat) : Bool :=
  decide (lw_tbl[w.2.1]? = some (.initialized q.1.cls)) && goodWord (.initialized q.1.cls) && plainFor q.1 && decide (q.1.cls ≠ "java/lang/invoke/MethodHandle" ∧ q.1.cls ≠ "java/lang/invoke/VarHandle") && decide (pm_own q.2.2.2.2.1 = q.1.cls) &&
  (match parseMethodDescriptor q.1.desc with
  | some d => (decide (d.parameters.length = q.2.2.2.2.2.1) && decide (lw_tbl[w.2.2.1]? = some (.static q.1)) && goodWord (.static q.1)) || (decide (d.parameters.length + 1 = q.2.2.2.2.2.1) && decide (lw_tbl[w.2.2.1]? = some (.instanceMethod q.1)) && goodWord (.instanceMethod q.1) && (decide (q.1.name = "<init>") || (decide (lw_tbl[w.2.2.2]? = some (.selects q.1.cls q.1 q.1)) && goodWord (.selects q.1.cls q.1 q.1))))
  | none => false) && goodWord (.code q.1 q.2.1 q.2.2.1 q.2.2.2.1) && decide (q.2.2.1 ≤ 22)
