/-! THE EVALUATOR: the pure machine once more, in a form that the kernel runs fast: values are pairs of numbers (0 int, 1 long, 2 ours, 3 unset, 4 a script cell's int or what is made of it, 5 the same as a long, 6 what was there before, 10 null), arrays of numbers are one big number, all that is kept is in normal form -/
abbrev ev_V : Type := Nat × Nat
abbrev ev_A : Type := Nat × Nat × Nat × List (Nat × Nat)
abbrev ev_C : Type := ev_A ⊕ (Nat × List ev_V)
abbrev ev_H : Type := Nat × Nat × List (List ev_C)
abbrev ev_S : Type := Nat × List ev_V × List ev_V × ev_H
abbrev ev_R : Type := ev_H × Option ev_V
abbrev ev_O : Type := Option (ev_S ⊕ ev_R)
/-- what is known of the script: its length and one (0: nothing is known), its first cell's last six bits, the cells' bounds (with 2^31 added) -/
abbrev ev_E : Type := Nat × Nat × List (Nat × Nat)
abbrev ev_Ca : Type := Nat → List ev_V → ev_H → Option ev_R
abbrev ev_F : Type := ev_Ca → ev_E → List ev_V → List ev_V → ev_H → ev_O
noncomputable def ev_fK {β : Type} (n : Nat) (K : Nat → β) : β := Nat.rec (motive := fun _ => β) (K 0) (fun m _ => K (Nat.succ m)) n
noncomputable def ev_nth {α : Type} (d : α) (l : List α) : Nat → α := List.rec (motive := fun _ => Nat → α) (fun _ => d) (fun x _ ih n => Nat.rec (motive := fun _ => α) x (fun m _ => ih m) n) l
noncomputable def ev_setK {α β : Type} (l : List α) : Nat → α → (List α → β) → β := List.rec (motive := fun _ => Nat → α → (List α → β) → β) (fun _ _ K => K []) (fun x t ih n v K => Nat.rec (motive := fun _ => β) (K (v :: t)) (fun m _ => ih m v (fun t' => K (x :: t'))) n) l
noncomputable def ev_get (hs : List (List ev_C)) (a : Nat) : ev_C := ev_nth (.inr (0, [])) (ev_nth [] hs (Nat.div a 16)) (Nat.mod a 16)
noncomputable def ev_hsK {β : Type} (hs : List (List ev_C)) (a : Nat) (c : ev_C) (K : List (List ev_C) → β) : β := ev_setK (ev_nth [] hs (Nat.div a 16)) (Nat.mod a 16) c (fun row => ev_setK hs (Nat.div a 16) row K)
def ev_ln (N j : Nat) : Nat := Nat.mod (Nat.shiftRight N (Nat.mul 32 j)) 4294967296
def ev_lset (N j v : Nat) : Nat := Nat.xor (Nat.xor N (Nat.shiftLeft (ev_ln N j) (Nat.mul 32 j))) (Nat.shiftLeft (Nat.mod v 4294967296) (Nat.mul 32 j))
def ev_ln8 (N j : Nat) : Nat := Nat.mod (Nat.shiftRight N (Nat.mul 64 j)) 18446744073709551616
def ev_lset8 (N j v : Nat) : Nat := Nat.xor (Nat.xor N (Nat.shiftLeft (ev_ln8 N j) (Nat.mul 64 j))) (Nat.shiftLeft (Nat.mod v 18446744073709551616) (Nat.mul 64 j))
/-- what an int array holds: a script's value, if it was laid there -/
noncomputable def ev_rdK {β : Type} (ov : List (Nat × Nat)) (N j : Nat) (K : ev_V → β) : β := List.rec (motive := fun _ => β) (ev_fK (ev_ln N j) (fun z => K (0, z))) (fun q _ ih => cond (Nat.beq q.1 j) (K (4, q.2)) ih) ov
noncomputable def ev_ovdK {β : Type} (ov : List (Nat × Nat)) (j : Nat) : (List (Nat × Nat) → β) → β := List.rec (motive := fun _ => (List (Nat × Nat) → β) → β) (fun K => K []) (fun q _ ih K => cond (Nat.beq q.1 j) (ih K) (ih (fun t => K (q :: t)))) ov
def ev_ofs (x : Nat) : Nat := Nat.mod (Nat.add x 2147483648) 4294967296
def ev_ofs8 (x : Nat) : Nat := Nat.mod (Nat.add x 9223372036854775808) 18446744073709551616
def ev_ci (x : Int32) : Nat := x.toUInt32.toNat
def ev_cl (x : Int64) : Nat := x.toUInt64.toNat
def ev_go (pc : Nat) (ls st : List ev_V) (h : ev_H) : ev_O := some (.inl (pc, ls, st, h))
def ev_no : ev_F := fun _ _ _ _ _ => none
noncomputable def ev_push (n t p : Nat) : ev_F := fun _ _ ls st h => ev_fK p (fun z => ev_go n ls ((t, z) :: st) h)
noncomputable def ev_pushV (n : Nat) (v : Value) : ev_F := match v with
  | .int x => ev_push n 0 (ev_ci x)
  | .long x => ev_push n 1 (ev_cl x)
  | .retAddr k => ev_push n 6 k
  | .null => ev_push n 10 0
  | _ => ev_no
noncomputable def ev_load (n k κ : Nat) : ev_F := fun _ _ ls st h => Prod.rec (motive := fun _ => ev_O) (fun t p => cond (Nat.beq (Nat.mod t 4) κ) (ev_go n ls ((t, p) :: st) h) none) (ev_nth (3, 0) ls k)
noncomputable def ev_clrK {β : Type} (ls : List ev_V) (k : Nat) (K : List ev_V → β) : β := Nat.rec (motive := fun _ => β) (K ls) (fun j _ => Prod.rec (motive := fun _ => β) (fun t _ => cond (Nat.beq (Nat.mod t 4) 1) (ev_setK ls j (3, 0) K) (K ls)) (ev_nth (3, 0) ls j)) k
noncomputable def ev_st (n k κ : Nat) : ev_F := fun _ _ ls st h => match st with
  | (t, p) :: r => cond (Nat.beq (Nat.mod t 4) κ) (ev_clrK ls k (fun l1 => ev_setK l1 k (t, p) (fun l2 => ev_go n l2 r h))) none
  | [] => none
noncomputable def ev_stl (n k : Nat) : ev_F := fun _ _ ls st h => match st with
  | (t, p) :: r => cond (Nat.beq (Nat.mod t 4) 1) (ev_clrK ls k (fun l1 => ev_setK l1 k (t, p) (fun l2 => ev_setK l2 (Nat.succ k) (3, 0) (fun l3 => ev_go n l3 r h)))) none
  | [] => none
noncomputable def ev_inc (n k c : Nat) : ev_F := fun _ _ ls st h => Prod.rec (motive := fun _ => ev_O) (fun t p => cond (Nat.beq t 0) (ev_fK (Nat.mod (Nat.add p c) 4294967296) (fun z => ev_clrK ls k (fun l1 => ev_setK l1 k (0, z) (fun l2 => ev_go n l2 st h)))) none) (ev_nth (3, 0) ls k)
def ev_pop (n : Nat) : ev_F := fun _ _ ls st h => match st with
  | (t, _) :: r => cond (Nat.beq (Nat.mod t 2) 0) (ev_go n ls r h) none
  | [] => none
def ev_dup (n : Nat) : ev_F := fun _ _ ls st h => match st with
  | (t, p) :: r => cond (Nat.beq (Nat.mod t 2) 0) (ev_go n ls ((t, p) :: (t, p) :: r) h) none
  | [] => none
def ev_dup2 (n : Nat) : ev_F := fun _ _ ls st h => match st with
  | (t, p) :: (u, q) :: r => cond (Nat.beq (Nat.mod t 2) 0) (cond (Nat.beq (Nat.mod u 2) 0) (ev_go n ls ((t, p) :: (u, q) :: (t, p) :: (u, q) :: r) h) none) none
  | _ => none
noncomputable def ev_i2 (n : Nat) (f : Nat → Nat → Nat) : ev_F := fun _ _ ls st h => match st with
  | (ty, y) :: (tx, x) :: r => cond (Nat.beq ty 0) (cond (Nat.beq tx 0) (ev_fK (f x y) (fun z => ev_go n ls ((0, z) :: r) h)) none) none
  | _ => none
noncomputable def ev_l2 (n : Nat) (f : Nat → Nat → Nat) : ev_F := fun _ _ ls st h => match st with
  | (ty, y) :: (tx, x) :: r => cond (Nat.beq ty 1) (cond (Nat.beq tx 1) (ev_fK (f x y) (fun z => ev_go n ls ((1, z) :: r) h)) none) none
  | _ => none
def ev_op (g : Int32 → Int32 → Int32) (x y : Nat) : Nat := ev_ci (g (Int32.ofNat x) (Int32.ofNat y))
def ev_op8 (g : Int64 → Int64 → Int64) (x y : Nat) : Nat := ev_cl (g (Int64.ofNat x) (Int64.ofNat y))
def ev_add (x y : Nat) : Nat := Nat.mod (Nat.add x y) 4294967296
def ev_sub (x y : Nat) : Nat := Nat.mod (Nat.add x (Nat.sub 4294967296 (Nat.mod y 4294967296))) 4294967296
def ev_mul (x y : Nat) : Nat := Nat.mod (Nat.mul x y) 4294967296
def ev_ushr (x y : Nat) : Nat := Nat.shiftRight (Nat.mod x 4294967296) (Nat.mod y 32)
/-- a division: not by 0 -/
noncomputable def ev_d2 (n : Nat) (f : Nat → Nat → Nat) : ev_F := fun _ _ ls st h => match st with
  | (ty, y) :: (tx, x) :: r => cond (Nat.beq ty 0) (cond (Nat.beq tx 0) (cond (Nat.beq (Nat.mod y 4294967296) 0) none (ev_fK (f x y) (fun z => ev_go n ls ((0, z) :: r) h))) none) none
  | _ => none
noncomputable def ev_i1 (n t : Nat) (f : Nat → Nat) : ev_F := fun _ _ ls st h => match st with
  | (tx, x) :: r => cond (Nat.beq tx 0) (ev_fK (f x) (fun z => ev_go n ls ((t, z) :: r) h)) none
  | _ => none
noncomputable def ev_l1 (n : Nat) (f : Nat → Nat) : ev_F := fun _ _ ls st h => match st with
  | (tx, x) :: r => cond (Nat.beq tx 1) (ev_fK (f x) (fun z => ev_go n ls ((0, z) :: r) h)) none
  | _ => none
noncomputable def ev_shr (n : Nat) : ev_F := fun _ _ ls st h => match st with
  | (ty, y) :: (tx, x) :: r => cond (Nat.beq ty 0) (cond (Nat.beq tx 0) (ev_fK (ev_op (fun x y => x >>> (y &&& 31)) x y) (fun z => ev_go n ls ((0, z) :: r) h))
      (cond (Nat.beq tx 4) (cond (Nat.blt x 8) (cond (Nat.beq (Nat.mod y 8) 0) (cond (Nat.ble y 24) (ev_fK (Nat.add (Nat.add 8 y) x) (fun z => ev_go n ls ((4, z) :: r) h)) none) none) none) none)) none
  | _ => none
noncomputable def ev_sbr (n : Nat) : ev_F := fun _ _ ls st h => match st with
  | (ty, y) :: (tx, x) :: r => cond (Nat.beq ty 0) (cond (Nat.beq tx 0) (ev_fK (ev_sub x y) (fun z => ev_go n ls ((0, z) :: r) h))
      (cond (Nat.beq tx 4) (cond (Nat.beq y 2) (cond (Nat.blt x 8) (ev_fK (Nat.add 72 x) (fun z => ev_go n ls ((4, z) :: r) h)) none) none) none)) none
  | _ => none
noncomputable def ev_and (n : Nat) : ev_F := fun _ E ls st h => match st with
  | (ty, y) :: (tx, x) :: r => cond (Nat.beq ty 0) (cond (Nat.beq tx 0) (ev_fK (Nat.land x y) (fun z => ev_go n ls ((0, z) :: r) h))
      (cond (Nat.beq tx 4) (cond (Nat.beq y 255) (cond (Nat.ble 8 x) (cond (Nat.blt x 40) (ev_fK (Nat.add x 32) (fun z => ev_go n ls ((4, z) :: r) h)) none) none)
        (cond (Nat.beq y 63) (cond (Nat.beq x 0) (cond (Nat.beq E.1 7) (ev_fK E.2.1 (fun z => ev_go n ls ((0, z) :: r) h)) none) none) none)) none)) none
  | _ => none
def ev_cmp (c : ClassFile.Cond) (x y : Nat) : Bool := match c with
  | .eq => Nat.beq x y
  | .ne => !Nat.beq x y
  | .lt => Nat.blt x y
  | .ge => Nat.ble y x
  | .gt => Nat.blt y x
  | .le => Nat.ble x y
/-- of what lies between lo and hi: 0 no, 1 yes, 2 not known -/
def ev_cmpS (c : ClassFile.Cond) (lo hi y : Nat) : Nat := match c with
  | .eq => cond (Nat.blt hi y) 0 (cond (Nat.blt y lo) 0 (cond (Nat.beq lo hi) 1 2))
  | .ne => cond (Nat.blt hi y) 1 (cond (Nat.blt y lo) 1 (cond (Nat.beq lo hi) 0 2))
  | .lt => cond (Nat.blt hi y) 1 (cond (Nat.ble y lo) 0 2)
  | .ge => cond (Nat.blt hi y) 0 (cond (Nat.ble y lo) 1 2)
  | .gt => cond (Nat.blt y lo) 1 (cond (Nat.ble hi y) 0 2)
  | .le => cond (Nat.blt y lo) 0 (cond (Nat.ble hi y) 1 2)
def ev_flip (c : ClassFile.Cond) : ClassFile.Cond := match c with
  | .eq => .eq
  | .ne => .ne
  | .lt => .gt
  | .ge => .le
  | .gt => .lt
  | .le => .ge
/-- bounds of a script's cell, or of a cell less 2 -/
noncomputable def ev_bnd {β : Type} (E : ev_E) (i : Nat) (K : Nat → Nat → β) : β := cond (Nat.blt i 72) (Prod.rec (motive := fun _ => β) (fun lo hi => K lo hi) (ev_nth (0, 4294967295) E.2.2 i)) (Prod.rec (motive := fun _ => β) (fun lo hi => cond (Nat.ble 2 lo) (ev_fK (Nat.sub lo 2) (fun l => ev_fK (Nat.sub hi 2) (fun h => K l h))) (K 0 4294967295)) (ev_nth (0, 4294967295) E.2.2 (Nat.sub i 72)))
noncomputable def ev_br3 (r n tgt : Nat) (ls st : List ev_V) (h : ev_H) : ev_O := Nat.rec (motive := fun _ => ev_O) (ev_go n ls st h) (fun m _ => Nat.rec (motive := fun _ => ev_O) (ev_go tgt ls st h) (fun _ _ => none) m) r
noncomputable def ev_icmp (c : ClassFile.Cond) (n tgt : Nat) : ev_F := fun _ E ls st h => match st with
  | (ty, y) :: (tx, x) :: r => cond (Nat.beq ty 0) (cond (Nat.beq tx 0) (cond (ev_cmp c (ev_ofs x) (ev_ofs y)) (ev_go tgt ls r h) (ev_go n ls r h)) (cond (Nat.beq tx 4) (ev_bnd E x (fun lo hi => ev_br3 (ev_cmpS c lo hi (ev_ofs y)) n tgt ls r h)) none))
      (cond (Nat.beq ty 4) (cond (Nat.beq tx 0) (ev_bnd E y (fun lo hi => ev_br3 (ev_cmpS (ev_flip c) lo hi (ev_ofs x)) n tgt ls r h)) none) none)
  | _ => none
noncomputable def ev_ifc (c : ClassFile.Cond) (n tgt : Nat) : ev_F := fun _ E ls st h => match st with
  | (tx, x) :: r => cond (Nat.beq tx 0) (cond (ev_cmp c (ev_ofs x) 2147483648) (ev_go tgt ls r h) (ev_go n ls r h)) (cond (Nat.beq tx 4) (ev_bnd E x (fun lo hi => ev_br3 (ev_cmpS c lo hi 2147483648) n tgt ls r h)) none)
  | _ => none
noncomputable def ev_lcmp (n : Nat) : ev_F := fun _ E ls st h => match st with
  | (ty, y) :: (tx, x) :: r => cond (Nat.beq ty 1) (cond (Nat.beq tx 1) (ev_fK (ev_ci (lg_cmp (Int64.ofNat x) (Int64.ofNat y))) (fun z => ev_go n ls ((0, z) :: r) h))
      (cond (Nat.beq tx 5) (ev_bnd E x (fun lo hi => cond (Nat.blt (Nat.add hi 9223372034707292160) (ev_ofs8 y)) (ev_go n ls ((0, 4294967295) :: r) h) (cond (Nat.blt (ev_ofs8 y) (Nat.add lo 9223372034707292160)) (ev_go n ls ((0, 1) :: r) h) (cond (Nat.beq lo hi) (ev_go n ls ((0, 0) :: r) h) none)))) none)) none
  | _ => none
noncomputable def ev_i2l (n : Nat) : ev_F := fun _ _ ls st h => match st with
  | (tx, x) :: r => cond (Nat.beq tx 0) (ev_fK (ev_cl (Int32.ofNat x).toInt64) (fun z => ev_go n ls ((1, z) :: r) h)) (cond (Nat.beq tx 4) (ev_go n ls ((5, x) :: r) h) none)
  | _ => none
def ev_goto (tgt : Nat) : ev_F := fun _ _ ls st h => ev_go tgt ls st h
/-- is it null? -/
def ev_nul (n tgt : Nat) : ev_F := fun _ _ ls st h => match st with
  | (tx, _) :: r => cond (Nat.beq tx 2) (ev_go n ls r h) (cond (Nat.beq tx 10) (ev_go tgt ls r h) none)
  | _ => none
def ev_tl (z : Int) : Nat := (z + 2147483648).toNat
noncomputable def ev_tsw (pc : Nat) (dflt lo hi : Int) (offs : List Int) : ev_F := fun _ E ls st h => match st with
  | (tx, x) :: r => cond (Nat.beq tx 0) (cond (Nat.blt (ev_ofs x) (ev_tl lo) || Nat.blt (ev_tl hi) (ev_ofs x)) (cond (decide (0 ≤ (pc : Int) + dflt)) (ev_fK ((pc : Int) + dflt).toNat (fun z => ev_go z ls r h)) none)
        (match offs[ev_ofs x - ev_tl lo]? with
        | some off => cond (decide (0 ≤ (pc : Int) + off)) (ev_fK ((pc : Int) + off).toNat (fun z => ev_go z ls r h)) none
        | none => none))
      (cond (Nat.beq tx 4) (ev_bnd E x (fun l1 h1 => cond (Nat.blt h1 (ev_tl lo) || Nat.blt (ev_tl hi) l1) (cond (decide (0 ≤ (pc : Int) + dflt)) (ev_fK ((pc : Int) + dflt).toNat (fun z => ev_go z ls r h)) none) none)) none)
  | _ => none
noncomputable def ev_gf (n ci k : Nat) : ev_F := fun _ _ ls st h => match st with
  | (tx, x) :: r => cond (Nat.beq tx 2) (cond (Nat.blt x h.1) (match ev_get h.2.2 x with
      | .inr (cj, fs) => cond (Nat.beq cj ci) (Prod.rec (motive := fun _ => ev_O) (fun t p => ev_go n ls ((t, p) :: r) h) (ev_nth (3, 0) fs k)) none
      | .inl _ => none) none) none
  | _ => none
/-- a String's value and coder -/
def ev_gs (n k : Nat) : ev_F := fun _ _ ls st h => match st with
  | (tx, x) :: r => cond (Nat.beq tx 6) (cond (Nat.blt x 23) (cond (Nat.beq k 0) (ev_go n ls ((6, Nat.add 100 x) :: r) h) (ev_go n ls ((0, 0) :: r) h)) none) none
  | _ => none
/-- may a field of this kind (0 int, 1 long, 2 boolean, 3 reference) take it? -/
def ev_fit (fk t p : Nat) : Bool := match fk with
  | 0 => Nat.beq (Nat.mod t 4) 0
  | 1 => Nat.beq (Nat.mod t 4) 1
  | 2 => Nat.beq t 0 && Nat.ble p 1
  | 3 => Nat.beq t 2 || Nat.beq t 10
  | _ => false
def ev_fk (ty : FieldType) : Nat := match ty with
  | .int => 0
  | .long => 1
  | .boolean => 2
  | .object _ => 3
  | .array _ => 3
  | _ => 9
noncomputable def ev_pf (n ci k fk : Nat) : ev_F := fun _ _ ls st h => match st with
  | (t, p) :: (tx, x) :: r => cond (Nat.beq tx 2) (cond (Nat.blt x h.1) (cond (ev_fit fk t p) (match ev_get h.2.2 x with
      | .inr (cj, fs) => cond (Nat.beq cj ci) (ev_setK fs k (t, p) (fun fs' => ev_hsK h.2.2 x (.inr (ci, fs')) (fun hs => ev_go n ls r (h.1, h.2.1, hs)))) none
      | .inl _ => none) none) none) none
  | _ => none
/-- a new cell of k slots -/
noncomputable def ev_new (n k : Nat) (c : ev_C) (ls r : List ev_V) (h : ev_H) : ev_O := cond (Nat.blt h.1 160) (ev_hsK h.2.2 h.1 c (fun hs => ev_fK (Nat.add h.2.1 k) (fun sl => ev_fK (Nat.succ h.1) (fun c1 => ev_go n ls ((2, h.1) :: r) (c1, sl, hs))))) none
noncomputable def ev_dfK {β : Type} (ty : FieldType) (K : ev_V → β) : β := match ev_fk ty with
  | 1 => K (1, 0)
  | 3 => K (10, 0)
  | _ => K (0, 0)
noncomputable def ev_mkK {β : Type} (f : Nat → FieldType) (n : Nat) : Nat → (List ev_V → β) → β := Nat.rec (motive := fun _ => Nat → (List ev_V → β) → β) (fun _ K => K []) (fun _ ih i K => ev_dfK (f i) (fun v => ih (Nat.succ i) (fun t => K (v :: t)))) n
noncomputable def ev_nw (n ci : Nat) : ev_F := fun _ _ ls st h => ev_mkK (pm_ty ci) (pm_cn ci) 0 (fun fs => ev_new n (pm_cn ci) (.inr (ci, fs)) ls st h)
noncomputable def ev_na (n kind : Nat) : ev_F := fun _ _ ls st h => match st with
  | (tx, x) :: r => cond (Nat.beq tx 0) (cond (Nat.ble x 16777216) (ev_new n x (.inl (kind, x, 0, [])) ls r h) none) none
  | _ => none
noncomputable def ev_al (n : Nat) : ev_F := fun _ E ls st h => match st with
  | (tx, x) :: r => cond (Nat.beq tx 2) (cond (Nat.blt x h.1) (match ev_get h.2.2 x with
      | .inl (_, k, _, _) => cond (Nat.ble k 16777216) (ev_go n ls ((0, k) :: r) h) none
      | .inr _ => none) none)
      (cond (Nat.beq tx 6) (cond (Nat.beq x 200) (ev_fK E.1 (fun z => Nat.rec (motive := fun _ => ev_O) none (fun m _ => cond (Nat.ble m 6) (ev_go n ls ((0, m) :: r) h) none) z))
        (cond (Nat.beq x 201) (ev_go n ls ((0, 3) :: r) h) (cond (Nat.ble 100 x) (cond (Nat.blt x 123) (ev_fK (pm_strB.getD (Nat.sub x 100) []).length (fun z => ev_go n ls ((0, z) :: r) h)) none) none))) none)
  | _ => none
noncomputable def ev_ial (n : Nat) : ev_F := fun _ E ls st h => match st with
  | (tj, j) :: (tx, x) :: r => cond (Nat.beq tj 0) (cond (Nat.beq tx 2) (cond (Nat.blt x h.1) (match ev_get h.2.2 x with
      | .inl (kind, k, N, ov) => cond (Nat.beq kind 0) (cond (Nat.ble k 16777216) (cond (Nat.blt j k) (ev_rdK ov N j (fun v => ev_go n ls (v :: r) h)) none) none) none
      | .inr _ => none) none)
      (cond (Nat.beq tx 6) (cond (Nat.beq x 200) (cond (Nat.blt (Nat.succ j) E.1) (cond (Nat.blt j 6) (ev_bnd E j (fun lo hi => cond (Nat.beq lo hi) (ev_fK (ev_ofs lo) (fun z => ev_go n ls ((0, z) :: r) h)) (ev_go n ls ((4, j) :: r) h))) none) none)
        (cond (Nat.beq x 201) (cond (Nat.blt j 3) (ev_fK (ev_nth 0 [999, 10, 9] j) (fun z => ev_go n ls ((0, z) :: r) h)) none) none)) none)) none
  | _ => none
noncomputable def ev_bal (n : Nat) : ev_F := fun _ _ ls st h => match st with
  | (tj, j) :: (tx, x) :: r => cond (Nat.beq tj 0) (cond (Nat.beq tx 2) (cond (Nat.blt x h.1) (match ev_get h.2.2 x with
      | .inl (kind, k, N, ov) => cond (Nat.beq kind 2) (cond (Nat.ble k 16777216) (cond (Nat.blt j k) (ev_rdK ov N j (fun v => ev_go n ls (v :: r) h)) none) none) none
      | .inr _ => none) none)
      (cond (Nat.beq tx 6) (cond (Nat.ble 100 x) (cond (Nat.blt x 123) (cond (Nat.blt j (pm_strB.getD (Nat.sub x 100) []).length) (cond (Nat.ble j 16777216) (ev_fK (ev_ci ((pm_strB.getD (Nat.sub x 100) []).getD j 0)) (fun z => ev_go n ls ((0, z) :: r) h)) none) none) none) none) none)) none
  | _ => none
noncomputable def ev_lal (n : Nat) : ev_F := fun _ _ ls st h => match st with
  | (tj, j) :: (tx, x) :: r => cond (Nat.beq tj 0) (cond (Nat.beq tx 2) (cond (Nat.blt x h.1) (match ev_get h.2.2 x with
      | .inl (kind, k, N, _) => cond (Nat.beq kind 1) (cond (Nat.ble k 16777216) (cond (Nat.blt j k) (ev_fK (ev_ln8 N j) (fun z => ev_go n ls ((1, z) :: r) h)) none) none) none
      | .inr _ => none) none) none) none
  | _ => none
noncomputable def ev_aal (n : Nat) : ev_F := fun _ _ ls st h => match st with
  | (tj, j) :: (tx, x) :: r => cond (Nat.beq tj 0) (cond (Nat.beq tx 2) (cond (Nat.blt x h.1) (match ev_get h.2.2 x with
      | .inl (kind, k, N, _) => cond (Nat.beq kind 3 || Nat.beq kind 4) (cond (Nat.ble k 16777216) (cond (Nat.blt j k) (Nat.rec (motive := fun _ => ev_O) (ev_go n ls ((10, 0) :: r) h) (fun m _ => ev_go n ls ((2, m) :: r) h) (ev_ln N j)) none) none) none
      | .inr _ => none) none) none) none
  | _ => none
noncomputable def ev_ias (n : Nat) : ev_F := fun _ _ ls st h => match st with
  | (tv, v) :: (tj, j) :: (tx, x) :: r => cond (Nat.beq tj 0) (cond (Nat.beq tx 2) (cond (Nat.blt x h.1) (match ev_get h.2.2 x with
      | .inl (kind, k, N, ov) => cond (Nat.beq kind 0) (cond (Nat.ble k 16777216) (cond (Nat.blt j k) (cond (Nat.beq tv 0) (cond (ov.isEmpty && Nat.beq (ev_ln N j) (Nat.mod v 4294967296)) (ev_go n ls r h) (ev_ovdK ov j (fun ov1 => ev_fK (ev_lset N j v) (fun N1 => ev_hsK h.2.2 x (.inl (kind, k, N1, ov1)) (fun hs => ev_go n ls r (h.1, h.2.1, hs))))))
          (cond (Nat.beq tv 4) (ev_ovdK ov j (fun ov1 => ev_hsK h.2.2 x (.inl (kind, k, N, (j, v) :: ov1)) (fun hs => ev_go n ls r (h.1, h.2.1, hs)))) none)) none) none) none
      | .inr _ => none) none) none) none
  | _ => none
noncomputable def ev_bas (n : Nat) : ev_F := fun _ _ ls st h => match st with
  | (tv, v) :: (tj, j) :: (tx, x) :: r => cond (Nat.beq tj 0) (cond (Nat.beq tx 2) (cond (Nat.blt x h.1) (match ev_get h.2.2 x with
      | .inl (kind, k, N, ov) => cond (Nat.beq kind 2) (cond (Nat.ble k 16777216) (cond (Nat.blt j k) (cond (Nat.beq tv 0) (ev_ovdK ov j (fun ov1 => ev_fK (ev_lset N j (Nat.mod v 2)) (fun N1 => ev_hsK h.2.2 x (.inl (kind, k, N1, ov1)) (fun hs => ev_go n ls r (h.1, h.2.1, hs))))) none) none) none) none
      | .inr _ => none) none) none) none
  | _ => none
noncomputable def ev_las (n : Nat) : ev_F := fun _ _ ls st h => match st with
  | (tv, v) :: (tj, j) :: (tx, x) :: r => cond (Nat.beq tj 0) (cond (Nat.beq tx 2) (cond (Nat.blt x h.1) (match ev_get h.2.2 x with
      | .inl (kind, k, N, ov) => cond (Nat.beq kind 1) (cond (Nat.ble k 16777216) (cond (Nat.blt j k) (cond (Nat.beq tv 1) (ev_fK (ev_lset8 N j v) (fun N1 => ev_hsK h.2.2 x (.inl (kind, k, N1, ov)) (fun hs => ev_go n ls r (h.1, h.2.1, hs)))) none) none) none) none
      | .inr _ => none) none) none) none
  | _ => none
/-- is it an object of this class? -/
noncomputable def ev_isO (h : ev_H) (x ci : Nat) : Bool := cond (Nat.blt x h.1) (match ev_get h.2.2 x with
  | .inr (cj, _) => Nat.beq cj ci
  | .inl _ => false) false
noncomputable def ev_aas (n : Nat) : ev_F := fun _ _ ls st h => match st with
  | (tv, v) :: (tj, j) :: (tx, x) :: r => cond (Nat.beq tj 0) (cond (Nat.beq tx 2) (cond (Nat.blt x h.1) (match ev_get h.2.2 x with
      | .inl (kind, k, N, ov) => cond (Nat.beq kind 3 || Nat.beq kind 4) (cond (Nat.ble k 16777216) (cond (Nat.blt j k) (cond (Nat.beq tv 10) (ev_fK (ev_lset N j 0) (fun N1 => ev_hsK h.2.2 x (.inl (kind, k, N1, ov)) (fun hs => ev_go n ls r (h.1, h.2.1, hs))))
          (cond (Nat.beq tv 2) (cond (Nat.blt v 16777216) (cond (ev_isO h v (pm_ak kind)) (ev_fK (ev_lset N j (Nat.succ v)) (fun N1 => ev_hsK h.2.2 x (.inl (kind, k, N1, ov)) (fun hs => ev_go n ls r (h.1, h.2.1, hs)))) none) none) none)) none) none) none
      | .inr _ => none) none) none) none
  | _ => none
/-- the sum of the categories is at most 8 -/
noncomputable def ev_w8 (l : List ev_V) : Nat → Bool := List.rec (motive := fun _ => Nat → Bool) (fun n => Nat.ble n 8) (fun v _ ih n => ih (cond (Nat.beq (Nat.mod v.1 4) 1) (Nat.succ (Nat.succ n)) (Nat.succ n))) l
/-- bits from place 32 sp on, n of them, laid at 32 dp -/
def ev_cpy (S N sp dp n : Nat) : Nat := Nat.xor (Nat.xor N (Nat.shiftLeft (Nat.mod (Nat.shiftRight N (Nat.mul 32 dp)) (Nat.pow 2 (Nat.mul 32 n))) (Nat.mul 32 dp))) (Nat.shiftLeft (Nat.mod (Nat.shiftRight S (Nat.mul 32 sp)) (Nat.pow 2 (Nat.mul 32 n))) (Nat.mul 32 dp))
noncomputable def ev_acp (n : Nat) : ev_F := fun _ _ ls st h => match st with
  | (tn, k) :: (td, dp) :: (ta, a1) :: (ts, sp) :: (tb, a0) :: r => cond (Nat.beq tn 0 && Nat.beq td 0 && Nat.beq ta 2 && Nat.beq ts 0 && Nat.beq tb 2 && Nat.blt a0 h.1 && Nat.blt a1 h.1 && ev_w8 r 0) (match ev_get h.2.2 a0, ev_get h.2.2 a1 with
      | .inl (k0, n0, S, []), .inl (k1, n1, N, []) => cond (Nat.beq k0 0 && Nat.beq k1 0 && Nat.ble n0 16777216 && Nat.ble n1 16777216 && Nat.ble (Nat.add sp k) n0 && Nat.ble (Nat.add dp k) n1) (ev_fK (ev_cpy S N sp dp k) (fun N1 => ev_hsK h.2.2 a1 (.inl (0, n1, N1, [])) (fun hs => ev_go n ls r (h.1, h.2.1, hs)))) none
      | _, _ => none) none
  | _ => none
noncomputable def ev_oi (n : Nat) : ev_F := fun _ _ ls st h => match st with
  | (tx, _) :: r => cond (Nat.beq tx 2) (cond (ev_w8 r 0) (ev_go n ls r h) none) none
  | _ => none
noncomputable def ev_popK (na : Nat) : List ev_V → List ev_V → (List ev_V → List ev_V → ev_O) → ev_O := Nat.rec (motive := fun _ => List ev_V → List ev_V → (List ev_V → List ev_V → ev_O) → ev_O) (fun st acc K => K acc st) (fun _ ih st acc K => match st with
  | [] => none
  | v :: r => ih r (v :: acc) K) na
/-- the receiver: kinds 0, 2 an object of class ci, 7 a String, else none is asked -/
noncomputable def ev_rcv (kind ci : Nat) (as : List ev_V) (h : ev_H) : Bool := match kind with
  | 0 => (match as with
    | (t, x) :: _ => Nat.beq t 2 && ev_isO h x ci
    | [] => false)
  | 2 => (match as with
    | (t, x) :: _ => Nat.beq t 2 && ev_isO h x ci
    | [] => false)
  | 7 => (match as with
    | (t, x) :: _ => Nat.beq t 6 && Nat.blt x 23
    | [] => false)
  | 1 => true
  | 3 => true
  | _ => false
noncomputable def ev_inv (n kind mid na ci : Nat) : ev_F := fun call _ ls st h => ev_popK na st [] (fun as rest => cond (ev_rcv kind ci as h) (cond (ev_w8 rest 0) (match call mid as h with
  | some (h', some v) => ev_go n ls (v :: rest) h'
  | some (h', none) => ev_go n ls rest h'
  | none => none) none) none)
def ev_rI (rk : Nat) : ev_F := fun _ _ _ st h => match st with
  | [(t, x)] => cond (Nat.beq (Nat.mod t 4) 0) (cond (match rk with
      | 0 => true
      | 1 => Nat.beq t 0 && Nat.ble x 1
      | 2 => Nat.beq t 0 && Nat.blt x 65536
      | 3 => Nat.beq t 0 && Nat.ble x 127
      | _ => false) (some (.inr (h, some (t, x)))) none) none
  | _ => none
def ev_rL : ev_F := fun _ _ _ st h => match st with
  | [(t, x)] => cond (Nat.beq (Nat.mod t 4) 1) (some (.inr (h, some (t, x)))) none
  | _ => none
def ev_rA : ev_F := fun _ _ _ st h => match st with
  | [(t, x)] => cond (Nat.beq t 2 || Nat.beq t 10) (some (.inr (h, some (t, x)))) none
  | _ => none
def ev_rV : ev_F := fun _ _ _ st h => match st with
  | [] => some (.inr (h, none))
  | _ => none
def ev_na1 (mid : Nat) : Nat := match pm_mtL[mid]? with
  | some q => q.2.2.2.2.2.1
  | none => 0
/-- the number of a class by its owner's number (those of objects are the first twelve) -/
def ev_co (mid : Nat) : Nat := match pm_mtL[mid]? with
  | some q => q.2.2.2.2.1
  | none => 99
def ev_rk (ret : Option FieldType) : Nat := match ret with
  | some .int => 0
  | some .boolean => 1
  | some .char => 2
  | some .byte => 3
  | _ => 9
noncomputable def ev_call (ik pc a b : Nat) : Option ev_F := match a with
  | 4 => cond (Nat.beq ik 2) (some (ev_oi (Nat.add pc 3))) none
  | 5 => cond (Nat.beq ik 1) (some (ev_acp (Nat.add pc 3))) none
  | 0 => cond (Nat.beq ik 0) (cond (Nat.blt (ev_co b) 12) (some (ev_inv (Nat.add pc 3) 0 b (ev_na1 b) (ev_co b))) none) none
  | 7 => cond (Nat.beq ik 0) (some (ev_inv (Nat.add pc 3) 7 b (ev_na1 b) 99)) none
  | 2 => cond (Nat.beq ik 2) (cond (Nat.blt (ev_co b) 12) (some (ev_inv (Nat.add pc 3) 2 b (ev_na1 b) (ev_co b))) none) none
  | 1 => cond (Nat.beq ik 1) (some (ev_inv (Nat.add pc 3) 1 b (ev_na1 b) 99)) none
  | 3 => cond (Nat.beq ik 1) (some (ev_inv (Nat.add pc 3) 3 b (ev_na1 b) 99)) none
  | _ => none
/-- an instruction's function -/
noncomputable def ev_tr (o : Nat) (ini : Bool) (ret : Option FieldType) (nL : Nat) (pc : Nat) (i : Instr) (a b : Nat) (v : Value) : Option ev_F := match i with
  | .aconst_null => some (ev_push (Nat.add pc 1) 10 0)
  | .iconst n => some (ev_push (Nat.add pc 1) 0 (ev_ci (Int32.ofInt n)))
  | .lconst n => some (ev_push (Nat.add pc 1) 1 (ev_cl (Int64.ofNat n.val)))
  | .bipush n => some (ev_push (Nat.add pc 2) 0 (ev_ci (Int8.ofInt n).toInt32))
  | .sipush n => some (ev_push (Nat.add pc 3) 0 (ev_ci (Int16.ofInt n).toInt32))
  | .ldc _ => cond (Nat.beq a 0 || Nat.beq a 2) (some (ev_pushV (Nat.add pc 2) v)) none
  | .ldc_w _ => cond (Nat.beq a 0) (some (ev_pushV (Nat.add pc 3) v)) none
  | .ldc2_w _ => cond (Nat.beq a 1) (some (ev_pushV (Nat.add pc 3) v)) none
  | .getstatic _ => some (ev_pushV (Nat.add pc 3) v)
  | .iload k => some (ev_load (Nat.add pc 2) k 0)
  | .iload_n k => some (ev_load (Nat.add pc 1) k.val 0)
  | .lload k => some (ev_load (Nat.add pc 2) k 1)
  | .lload_n k => some (ev_load (Nat.add pc 1) k.val 1)
  | .aload k => some (ev_load (Nat.add pc 2) k 2)
  | .aload_n k => some (ev_load (Nat.add pc 1) k.val 2)
  | .istore k => cond (Nat.blt k nL) (some (ev_st (Nat.add pc 2) k 0)) none
  | .istore_n k => cond (Nat.blt k.val nL) (some (ev_st (Nat.add pc 1) k.val 0)) none
  | .lstore k => cond (Nat.blt (Nat.succ k) nL) (some (ev_stl (Nat.add pc 2) k)) none
  | .lstore_n k => cond (Nat.blt (Nat.succ k.val) nL) (some (ev_stl (Nat.add pc 1) k.val)) none
  | .astore k => cond (Nat.blt k nL) (some (ev_st (Nat.add pc 2) k 2)) none
  | .astore_n k => cond (Nat.blt k.val nL) (some (ev_st (Nat.add pc 1) k.val 2)) none
  | .iinc k n => cond (Nat.blt k nL) (some (ev_inc (Nat.add pc 3) k (ev_ci (Int32.ofInt n)))) none
  | .pop => some (ev_pop (Nat.add pc 1))
  | .dup => some (ev_dup (Nat.add pc 1))
  | .dup2 => some (ev_dup2 (Nat.add pc 1))
  | .iadd => some (ev_i2 (Nat.add pc 1) ev_add)
  | .isub => some (ev_sbr (Nat.add pc 1))
  | .imul => some (ev_i2 (Nat.add pc 1) ev_mul)
  | .ior => some (ev_i2 (Nat.add pc 1) Nat.lor)
  | .ixor => some (ev_i2 (Nat.add pc 1) (ev_op (fun x y => x ^^^ y)))
  | .ishl => some (ev_i2 (Nat.add pc 1) (ev_op (fun x y => x <<< (y &&& 31))))
  | .iushr => some (ev_i2 (Nat.add pc 1) ev_ushr)
  | .ishr => some (ev_shr (Nat.add pc 1))
  | .iand => some (ev_and (Nat.add pc 1))
  | .idiv => some (ev_d2 (Nat.add pc 1) (ev_op (fun x y => x / y)))
  | .irem => some (ev_d2 (Nat.add pc 1) (ev_op (fun x y => x - x / y * y)))
  | .ineg => some (ev_i1 (Nat.add pc 1) 0 (fun x => ev_ci (-(Int32.ofNat x))))
  | .i2c => some (ev_i1 (Nat.add pc 1) 0 (fun x => ev_ci ((Int32.ofNat x).toUInt32 % 65536).toInt32))
  | .ladd => some (ev_l2 (Nat.add pc 1) (ev_op8 (fun x y => x + y)))
  | .lsub => some (ev_l2 (Nat.add pc 1) (ev_op8 (fun x y => x - y)))
  | .lmul => some (ev_l2 (Nat.add pc 1) (ev_op8 (fun x y => x * y)))
  | .l2i => some (ev_l1 (Nat.add pc 1) (fun x => ev_ci (Int64.ofNat x).toInt32))
  | .lcmp => some (ev_lcmp (Nat.add pc 1))
  | .i2l => some (ev_i2l (Nat.add pc 1))
  | .goto _ => some (ev_goto a)
  | .ifCond c _ => some (ev_ifc c (Nat.add pc 3) a)
  | .if_icmp c _ => some (ev_icmp c (Nat.add pc 3) a)
  | .ifnull _ => some (ev_nul (Nat.add pc 3) a)
  | .ifnonnull _ => some (ev_nul a (Nat.add pc 3))
  | .tableswitch dflt lo hi offs => cond (decide (-2147483648 ≤ lo) && decide (lo ≤ hi) && decide (hi < 2147483648)) (some (ev_tsw pc dflt lo hi offs.toList)) none
  | .getfield _ => cond (Nat.beq a 100) (some (ev_gs (Nat.add pc 3) b)) (cond (Nat.blt b (pm_cn a)) (some (ev_gf (Nat.add pc 3) a b)) none)
  | .putfield _ => cond (Nat.blt b (pm_cn a) && (!pm_fin a b || (ini && (Nat.beq a o && Nat.blt a 12)))) (some (ev_pf (Nat.add pc 3) a b (ev_fk (pm_ty a b)))) none
  | .new _ => cond (Nat.blt a 12) (some (ev_nw (Nat.add pc 3) a)) none
  | .newarray t => (match t with
    | .int => some (ev_na (Nat.add pc 2) 0)
    | .long => some (ev_na (Nat.add pc 2) 1)
    | .boolean => some (ev_na (Nat.add pc 2) 2)
    | _ => none)
  | .anewarray _ => cond (Nat.beq a 3 || Nat.beq a 4) (some (ev_na (Nat.add pc 3) a)) none
  | .arraylength => some (ev_al (Nat.add pc 1))
  | .iaload => some (ev_ial (Nat.add pc 1))
  | .baload => some (ev_bal (Nat.add pc 1))
  | .laload => some (ev_lal (Nat.add pc 1))
  | .aaload => some (ev_aal (Nat.add pc 1))
  | .iastore => some (ev_ias (Nat.add pc 1))
  | .bastore => some (ev_bas (Nat.add pc 1))
  | .lastore => some (ev_las (Nat.add pc 1))
  | .aastore => some (ev_aas (Nat.add pc 1))
  | .invokevirtual _ => ev_call 0 pc a b
  | .invokestatic _ => ev_call 1 pc a b
  | .invokespecial _ => ev_call 2 pc a b
  | .ireturn => some (ev_rI (ev_rk ret))
  | .lreturn => cond (decide (ret = some .long)) (some ev_rL) none
  | .areturn => (match ret with
    | some (.object _) => some ev_rA
    | some (.array _) => some ev_rA
    | _ => none)
  | .return_ => (match ret with
    | none => some ev_rV
    | _ => none)
  | _ => none
/-- what came out of an instruction: an end is of a return alone, cells are never taken away -/
def ev_out (rt : Bool) (c s : Nat) (x : ev_O) : ev_O := match x with
  | none => none
  | some (.inl t) => cond rt none (cond (Nat.ble c t.2.2.2.1) (cond (Nat.ble s t.2.2.2.2.1) (some (.inl t)) none) none)
  | some (.inr r) => cond rt (cond (Nat.ble c r.1.1) (cond (Nat.ble s r.1.2.1) (some (.inr r)) none) none) none
noncomputable def ev_step (o : Nat) (ini : Bool) (ret : Option FieldType) (nL : Nat) (T : Lean.RArray pm_I) (call : ev_Ca) (E : ev_E) (s : ev_S) : ev_O := match s with
  | (pc, ls, st, h) => match T.get pc with
    | (p0, i, _, a, b, v) => cond (Nat.beq p0 pc) (match ev_tr o ini ret nL p0 i a b v with
      | some f => ev_out (pm_isRet i) h.1 h.2.1 (f call E ls st h)
      | none => none) none
/-- 2^k instructions, or to the end -/
noncomputable def ev_it (f : ev_S → ev_O) (k : Nat) : ev_S → ev_O := Nat.rec (motive := fun _ => ev_S → ev_O) f (fun _ ih s => match ih s with
  | none => none
  | some (.inl t) => ih t
  | some (.inr r) => some (.inr r)) k
/-- the first 2^k of a list of instructions, by their places -/
noncomputable def ev_bld (k : Nat) : List pm_I → Lean.RArray pm_I := Nat.rec (motive := fun _ => List pm_I → Lean.RArray pm_I) (fun l => match l with
  | [] => .leaf (0, .nop, 0, 0, 0, .null)
  | e :: _ => .leaf e) (fun k ih l => match l.drop (Nat.pow 2 k) with
  | [] => ih l
  | e :: t => .branch e.1 (ih l) (ih (e :: t))) k
def ev_lay : List ev_V → List ev_V
  | [] => []
  | v :: t => cond (Nat.beq (Nat.mod v.1 4) 1) (v :: (3, 0) :: ev_lay t) (v :: ev_lay t)
noncomputable def ev_padK {β : Type} (n : Nat) : List ev_V → (List ev_V → β) → β := Nat.rec (motive := fun _ => List ev_V → (List ev_V → β) → β) (fun _ K => K []) (fun _ ih l K => match l with
  | [] => ih [] (fun t => K ((3, 0) :: t))
  | x :: r => ih r (fun t => K (x :: t))) n
/-- none is unset -/
noncomputable def ev_noU (l : List ev_V) : Bool := List.rec (motive := fun _ => Bool) true (fun v _ ih => cond (Nat.beq (Nat.mod v.1 4) 3) false ih) l
noncomputable def ev_rn (E : ev_E) (d : Nat) : ev_Ca := Nat.rec (motive := fun _ => ev_Ca) (fun _ _ _ => none) (fun _ ih mid as h => match pm_mtL[mid]? with
  | none => none
  | some (y, _, nL, ret, o, na, code) => cond (Nat.beq as.length na && Nat.ble (ev_lay as).length nL && ev_noU as) (ev_padK nL (ev_lay as) (fun ls => match ev_it (ev_step o (decide (y.name = "<init>")) ret nL (ev_bld 10 code) ih E) 17 (0, ls, [], h) with
    | some (.inr r) => some r
    | _ => none)) none) d
/-- the law's own frame -/
noncomputable def ev_law (E : ev_E) (d k : Nat) : ev_S → ev_O := ev_it (ev_step 12 false (some .boolean) 4 (ev_bld 10 pm_cL) (ev_rn E d) E) k
def ev_h0 : ev_H := (0, 0, List.replicate 10 (List.replicate 16 (.inr (0, []))))
def ev_s0 : ev_S := (0, [(6, 200), (3, 0), (3, 0), (3, 0)], [], ev_h0)
def ev_isL (x : ev_O) : Bool := match x with
  | some (.inl _) => true
  | _ => false
