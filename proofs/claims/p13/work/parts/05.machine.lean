/-! THE PURE MACHINE. A value's reference is a cell's number from the law's first one on; .retAddr k stands for what was there before (String constants 0 .. 22, their bytes 100 .. 122, the script 200, MOST_TERM 201, a formatter 300). -/
abbrev pm_C : Type := (Nat × vp_A) ⊕ (Nat × List Value)
/-- a heap: how many cells, how many slots, what each holds. Arrays: kind 0 int, 1 long, 2 boolean, 3 Text, 4 Train (5 byte: static ones alone) -/
abbrev pm_H : Type := Nat × Nat × (Nat → pm_C)
abbrev pm_Ls : Type := List (Option Value)
abbrev pm_S : Type := Nat × pm_Ls × List Value × pm_H
abbrev pm_R : Type := pm_H × Option Value
abbrev pm_X : Type := Nat → Option (Nat × Nat × (Nat → Int32))
def pm_hset (h : pm_H) (a : Nat) (c : pm_C) : pm_H := (h.1, h.2.1, va_up h.2.2 a c)
def pm_hpush (h : pm_H) (n : Nat) (c : pm_C) : pm_H := (h.1 + 1, h.2.1 + n, va_up h.2.2 h.1 c)
def pm_in (i : Int32) (n : Nat) : Bool := !decide (i < 0) && decide (i.toNatClampNeg < n)
def pm_go (pc : Nat) (ls : pm_Ls) (st : List Value) (h : pm_H) : Option (pm_S ⊕ pm_R) := some (.inl (pc, ls, st, h))
def pm_isR (v : Value) : Bool := match v with
  | .ref _ => true
  | .null => true
  | .retAddr _ => true
  | _ => false
def pm_isS (v : Value) : Bool := match v with
  | .retAddr _ => true
  | _ => false
def pm_cat1 (v : Value) : Bool := match v with
  | .int _ => true
  | .ref _ => true
  | .null => true
  | .retAddr _ => true
  | _ => false
/-- a local variable -/
def pm_ld (ls : pm_Ls) (k : Nat) : Option Value := ls.getD k none
def pm_two (v : Option Value) : Bool := match v with
  | some (.long _) => true
  | _ => false
def pm_clr (ls : pm_Ls) : Nat → pm_Ls
  | 0 => ls
  | j + 1 => bif pm_two (ls.getD j none) then ls.set j none else ls
def pm_st1 (ls : pm_Ls) (k : Nat) (v : Value) : pm_Ls := (pm_clr ls k).set k (some v)
def pm_st2 (ls : pm_Ls) (k : Nat) (v : Value) : pm_Ls := ((pm_clr ls k).set k (some v)).set (k + 1) none
def pm_lay : List Value → pm_Ls
  | [] => []
  | .long x :: t => some (.long x) :: none :: pm_lay t
  | v :: t => some v :: pm_lay t
def pm_ini (args : List Value) (n : Nat) : pm_Ls := pm_lay args ++ List.replicate (n - (pm_lay args).length) none
def pm_arr (X : pm_X) (h : pm_H) (v : Value) : Option (Nat × vp_A) := match v with
  | .ref a => bif decide (a < h.1) then (match h.2.2 a with
    | .inl x => some x
    | .inr _ => none) else none
  | .retAddr k => (match X k with
    | some x => some (x.1, x.2.1, .inl x.2.2)
    | none => none)
  | _ => none
def pm_obj (h : pm_H) (v : Value) : Option (Nat × Nat × List Value) := match v with
  | .ref a => bif decide (a < h.1) then (match h.2.2 a with
    | .inr x => some (a, x)
    | .inl _ => none) else none
  | _ => none
/-- may a field of this type take this value as it is? -/
def pm_fit (ty : FieldType) (v : Value) : Bool := match ty, v with
  | .int, .int _ => true
  | .long, .long _ => true
  | .boolean, .int x => x == 0 || x == 1
  | .object _, .ref _ => true
  | .object _, .null => true
  | .array _, .ref _ => true
  | .array _, .null => true
  | _, _ => false
/-- may it be answered as it is? -/
def pm_ret (ret : Option FieldType) (x : Int32) : Bool := match ret with
  | some .int => true
  | some .boolean => x == 0 || x == 1
  | some .char => decide (narrow .char (.int x) = .int x)
  | some .byte => decide (narrow .byte (.int x) = .int x)
  | _ => false
def pm_newN (ci : Nat) : List Value := match pm_cls[ci]? with
  | some q => (List.range q.2.2).map (fun k => defaultValue (pm_ty ci k))
  | none => []
def pm_fin (ci k : Nat) : Bool := match pm_cls[ci]? with
  | some q => (q.2.1 k).2.2.2
  | none => true
def pm_cnm (ci : Nat) : String := match pm_cls[ci]? with
  | some q => q.1
  | none => ""
def pm_cn (ci : Nat) : Nat := match pm_cls[ci]? with
  | some q => q.2.2
  | none => 0
/-- the class (its number) whose objects an array of this kind takes -/
def pm_ak (t : Nat) : Nat := if t = 3 then 7 else if t = 4 then 8 else 999
def pm_w8 (st : List Value) : Bool := decide ((st.map fun v => v.category).sum ≤ 8)
def pm_cmp (c : ClassFile.Cond) (x y : Int32) : Bool := match c with
  | .eq => decide (x = y)
  | .ne => !decide (x = y)
  | .lt => decide (x < y)
  | .ge => decide (y ≤ x)
  | .gt => decide (y < x)
  | .le => decide (x ≤ y)
def pm_cmp0 (c : ClassFile.Cond) (x : Int32) : Bool := match c with
  | .eq => decide (x = 0)
  | .ne => !decide (x = 0)
  | .lt => decide (x < 0)
  | .ge => decide (0 ≤ x)
  | .gt => decide (0 < x)
  | .le => decide (x ≤ 0)
def pm_i2 (pc : Nat) (ls : pm_Ls) (st : List Value) (h : pm_H) (f : Int32 → Int32 → Int32) : Option (pm_S ⊕ pm_R) := match st with
  | .int y :: .int x :: r => pm_go pc ls (.int (f x y) :: r) h
  | _ => none
def pm_l2 (pc : Nat) (ls : pm_Ls) (st : List Value) (h : pm_H) (f : Int64 → Int64 → Int64) : Option (pm_S ⊕ pm_R) := match st with
  | .long y :: .long x :: r => pm_go pc ls (.long (f x y) :: r) h
  | _ => none
def pm_ldi (pc : Nat) (ls : pm_Ls) (st : List Value) (h : pm_H) (k : Nat) : Option (pm_S ⊕ pm_R) := match pm_ld ls k with
  | some (.int x) => pm_go pc ls (.int x :: st) h
  | _ => none
def pm_ldl (pc : Nat) (ls : pm_Ls) (st : List Value) (h : pm_H) (k : Nat) : Option (pm_S ⊕ pm_R) := match pm_ld ls k with
  | some (.long x) => pm_go pc ls (.long x :: st) h
  | _ => none
def pm_lda (pc : Nat) (ls : pm_Ls) (st : List Value) (h : pm_H) (k : Nat) : Option (pm_S ⊕ pm_R) := match pm_ld ls k with
  | some v => bif pm_isR v then pm_go pc ls (v :: st) h else none
  | none => none
def pm_sti (pc : Nat) (ls : pm_Ls) (st : List Value) (h : pm_H) (k : Nat) : Option (pm_S ⊕ pm_R) := match st with
  | .int x :: r => bif decide (k < ls.length) then pm_go pc (pm_st1 ls k (.int x)) r h else none
  | _ => none
def pm_stl (pc : Nat) (ls : pm_Ls) (st : List Value) (h : pm_H) (k : Nat) : Option (pm_S ⊕ pm_R) := match st with
  | .long x :: r => bif decide (k + 1 < ls.length) then pm_go pc (pm_st2 ls k (.long x)) r h else none
  | _ => none
def pm_sta (pc : Nat) (ls : pm_Ls) (st : List Value) (h : pm_H) (k : Nat) : Option (pm_S ⊕ pm_R) := match st with
  | v :: r => bif pm_isR v && decide (k < ls.length) then pm_go pc (pm_st1 ls k v) r h else none
  | _ => none
/-- a call of a method of the table, its arguments taken from the stack -/
def pm_call (call : Nat → List Value → pm_H → Option pm_R) (kind mid na : Nat) (cls : String) (pc : Nat) (ls : pm_Ls) (st : List Value) (h : pm_H) : Option (pm_S ⊕ pm_R) :=
  bif decide (na ≤ st.length) && pm_w8 (st.drop na) && (bif kind == 0 || kind == 2 then (match pm_obj h ((st.take na).getLastD .null) with
      | some x => decide (pm_cnm x.2.1 = cls)
      | none => false) else bif kind == 7 then (match (st.take na).getLastD .null with
      | .retAddr k => decide (k < 23)
      | _ => false) else kind == 1 || kind == 3) then
    (match call mid (st.take na).reverse h with
    | some (h', some v) => pm_go (pc + 3) ls (v :: st.drop na) h'
    | some (h', none) => pm_go (pc + 3) ls (st.drop na) h'
    | none => none) else none
def pm_inv (X : pm_X) (call : Nat → List Value → pm_H → Option pm_R) (ik : Nat) (pc : Nat) (ls : pm_Ls) (st : List Value) (h : pm_H) (kind mid : Nat) : Option (pm_S ⊕ pm_R) :=
  match kind with
  | 4 => (match ik, st with
    | 2, .ref _ :: r => bif pm_w8 r then pm_go (pc + 3) ls r h else none
    | _, _ => none)
  | 5 => (match ik, st with
    | 1, .int n :: .int dp :: .ref d :: .int sp :: .ref s :: r =>
      (match pm_arr X h (.ref s), pm_arr X h (.ref d) with
      | some (t0, n0, .inl f), some (t1, n1, .inl g) => bif t0 == 0 && t1 == 0 && !decide (sp < 0) && !decide (dp < 0) && !decide (n < 0) && decide (sp.toNatClampNeg + n.toNatClampNeg ≤ n0) && decide (dp.toNatClampNeg + n.toNatClampNeg ≤ n1) && pm_w8 r then
          pm_go (pc + 3) ls r (pm_hset h d (.inl (0, n1, .inl (va_cpy f g sp.toNatClampNeg dp.toNatClampNeg n.toNatClampNeg)))) else none
      | _, _ => none)
    | _, _ => none)
  | 6 => (match ik, st with
    | 0, .ref s :: r => (match pm_arr X h (.ref s) with
      | some (t0, n0, .inl f) => bif t0 == 0 && pm_w8 r then pm_go (pc + 3) ls (.ref h.1 :: r) (pm_hpush h n0 (.inl (0, n0, .inl f))) else none
      | _ => none)
    | _, _ => none)
  | k => (match pm_mtL[mid]? with
    | some (y, _, _, _, _, na, _) => bif (bif k == 0 || k == 7 then ik == 0 else bif k == 2 then ik == 2 else ik == 1) then pm_call call k mid na y.cls pc ls st h else none
    | none => none)
def pm_tsw (pc : Nat) (ls : pm_Ls) (st : List Value) (h : pm_H) (dflt lo hi : Int) (offs : Array Int) : Option (pm_S ⊕ pm_R) := match st with
  | .int x :: r => bif decide (x.toInt < lo) || decide (hi < x.toInt) then (bif decide (0 ≤ (pc : Int) + dflt) then pm_go ((pc : Int) + dflt).toNat ls r h else none) else
    (match offs.toList[(x.toInt - lo).toNat]? with
    | some off => bif decide (0 ≤ (pc : Int) + off) then pm_go ((pc : Int) + off).toNat ls r h else none
    | none => none)
  | _ => none
def pm_step (X : pm_X) (call : Nat → List Value → pm_H → Option pm_R) (o : Nat) (ini : Bool) (ret : Option FieldType) (pc : Nat) (ls : pm_Ls) (st : List Value) (h : pm_H) (i : Instr) (len a b : Nat) (v : Value) : Option (pm_S ⊕ pm_R) :=
  match i with
  | .aconst_null => pm_go (pc + 1) ls (.null :: st) h
  | .iconst n => pm_go (pc + 1) ls (.int (Int32.ofInt n) :: st) h
  | .lconst n => pm_go (pc + 1) ls (.long (Int64.ofNat n.val) :: st) h
  | .bipush n => pm_go (pc + 2) ls (.int (Int8.ofInt n).toInt32 :: st) h
  | .sipush n => pm_go (pc + 3) ls (.int (Int16.ofInt n).toInt32 :: st) h
  | .ldc _ => bif a == 0 || a == 2 then pm_go (pc + 2) ls (v :: st) h else none
  | .ldc_w _ => bif a == 0 then pm_go (pc + 3) ls (v :: st) h else none
  | .ldc2_w _ => bif a == 1 then pm_go (pc + 3) ls (v :: st) h else none
  | .iload k => pm_ldi (pc + 2) ls st h k
  | .iload_n k => pm_ldi (pc + 1) ls st h k.val
  | .lload k => pm_ldl (pc + 2) ls st h k
  | .lload_n k => pm_ldl (pc + 1) ls st h k.val
  | .aload k => pm_lda (pc + 2) ls st h k
  | .aload_n k => pm_lda (pc + 1) ls st h k.val
  | .istore k => pm_sti (pc + 2) ls st h k
  | .istore_n k => pm_sti (pc + 1) ls st h k.val
  | .lstore k => pm_stl (pc + 2) ls st h k
  | .lstore_n k => pm_stl (pc + 1) ls st h k.val
  | .astore k => pm_sta (pc + 2) ls st h k
  | .astore_n k => pm_sta (pc + 1) ls st h k.val
  | .iinc k n => (match pm_ld ls k with
    | some (.int x) => pm_go (pc + 3) (pm_st1 ls k (.int (x + Int32.ofInt n))) st h
    | _ => none)
  | .pop => (match st with
    | w :: r => bif pm_cat1 w then pm_go (pc + 1) ls r h else none
    | _ => none)
  | .pop2 => (match st with
    | .long _ :: r => pm_go (pc + 1) ls r h
    | _ => none)
  | .dup => (match st with
    | w :: r => bif pm_cat1 w then pm_go (pc + 1) ls (w :: w :: r) h else none
    | _ => none)
  | .dup2 => (match st with
    | w :: u :: r => bif pm_cat1 w && pm_cat1 u then pm_go (pc + 1) ls (w :: u :: w :: u :: r) h else none
    | _ => none)
  | .iadd => pm_i2 (pc + 1) ls st h (fun x y => x + y)
  | .isub => pm_i2 (pc + 1) ls st h (fun x y => x - y)
  | .imul => pm_i2 (pc + 1) ls st h (fun x y => x * y)
  | .iand => pm_i2 (pc + 1) ls st h (fun x y => x &&& y)
  | .ior => pm_i2 (pc + 1) ls st h (fun x y => x ||| y)
  | .ixor => pm_i2 (pc + 1) ls st h (fun x y => x ^^^ y)
  | .ishl => pm_i2 (pc + 1) ls st h (fun x y => x <<< (y &&& 31))
  | .ishr => pm_i2 (pc + 1) ls st h (fun x y => x >>> (y &&& 31))
  | .iushr => pm_i2 (pc + 1) ls st h (fun x y => (x.toUInt32 >>> (y.toUInt32 &&& Int32.toUInt32 31)).toInt32)
  | .idiv => (match st with
    | .int y :: .int x :: r => bif decide (y = 0) then none else pm_go (pc + 1) ls (.int (x / y) :: r) h
    | _ => none)
  | .irem => (match st with
    | .int y :: .int x :: r => bif decide (y = 0) then none else pm_go (pc + 1) ls (.int (x - x / y * y) :: r) h
    | _ => none)
  | .ineg => (match st with
    | .int x :: r => pm_go (pc + 1) ls (.int (-x) :: r) h
    | _ => none)
  | .ladd => pm_l2 (pc + 1) ls st h (fun x y => x + y)
  | .lsub => pm_l2 (pc + 1) ls st h (fun x y => x - y)
  | .lmul => pm_l2 (pc + 1) ls st h (fun x y => x * y)
  | .ldiv => (match st with
    | .long y :: .long x :: r => bif decide (y = 0) then none else pm_go (pc + 1) ls (.long (x / y) :: r) h
    | _ => none)
  | .lrem => (match st with
    | .long y :: .long x :: r => bif decide (y = 0) then none else pm_go (pc + 1) ls (.long (x - x / y * y) :: r) h
    | _ => none)
  | .lcmp => (match st with
    | .long y :: .long x :: r => pm_go (pc + 1) ls (.int (lg_cmp x y) :: r) h
    | _ => none)
  | .i2l => (match st with
    | .int x :: r => pm_go (pc + 1) ls (.long x.toInt64 :: r) h
    | _ => none)
  | .l2i => (match st with
    | .long x :: r => pm_go (pc + 1) ls (.int x.toInt32 :: r) h
    | _ => none)
  | .i2c => (match st with
    | .int x :: r => pm_go (pc + 1) ls (.int (x.toUInt32 % 65536).toInt32 :: r) h
    | _ => none)
  | .goto _ => pm_go a ls st h
  | .ifCond c _ => (match st with
    | .int x :: r => bif pm_cmp0 c x then pm_go a ls r h else pm_go (pc + 3) ls r h
    | _ => none)
  | .if_icmp c _ => (match st with
    | .int y :: .int x :: r => bif pm_cmp c x y then pm_go a ls r h else pm_go (pc + 3) ls r h
    | _ => none)
  | .ifnull _ => (match st with
    | .ref _ :: r => pm_go (pc + 3) ls r h
    | .null :: r => pm_go a ls r h
    | _ => none)
  | .ifnonnull _ => (match st with
    | .ref _ :: r => pm_go a ls r h
    | .null :: r => pm_go (pc + 3) ls r h
    | _ => none)
  | .tableswitch dflt lo hi offs => pm_tsw pc ls st h dflt lo hi offs
  | .getstatic _ => pm_go (pc + 3) ls (v :: st) h
  | .getfield _ => (match st with
    | .retAddr j :: r => bif a == 100 && decide (j < 23) then (bif b == 0 then pm_go (pc + 3) ls (.retAddr (100 + j) :: r) h else pm_go (pc + 3) ls (.int 0 :: r) h) else none
    | w :: r => (match pm_obj h w with
      | some (_, ci, fs) => bif ci == a && decide (b < pm_cn a) then (match fs[b]? with
        | some u => pm_go (pc + 3) ls (u :: r) h
        | none => none) else none
      | none => none)
    | _ => none)
  | .putfield _ => (match st with
    | u :: w :: r => (match pm_obj h w with
      | some (x, ci, fs) => bif ci == a && decide (b < pm_cn a) && decide (b < fs.length) && pm_fit (pm_ty a b) u && (!pm_fin a b || (ini && decide (pm_cnm a = pm_own o))) then pm_go (pc + 3) ls r (pm_hset h x (.inr (a, fs.set b u))) else none
      | none => none)
    | _ => none)
  | .new _ => bif decide (a < 12) then pm_go (pc + 3) ls (.ref h.1 :: st) (pm_hpush h (pm_cn a) (.inr (a, pm_newN a))) else none
  | .newarray at1 => (match st with
    | .int n :: r => bif decide (n < 0) || decide (16777216 < n.toNatClampNeg) then none else (match at1 with
      | .int => pm_go (pc + 2) ls (.ref h.1 :: r) (pm_hpush h n.toNatClampNeg (.inl (0, n.toNatClampNeg, .inl (fun _ => 0))))
      | .long => pm_go (pc + 2) ls (.ref h.1 :: r) (pm_hpush h n.toNatClampNeg (.inl (1, n.toNatClampNeg, .inr (.inl (fun _ => 0)))))
      | .boolean => pm_go (pc + 2) ls (.ref h.1 :: r) (pm_hpush h n.toNatClampNeg (.inl (2, n.toNatClampNeg, .inl (fun _ => 0))))
      | _ => none)
    | _ => none)
  | .anewarray _ => (match st with
    | .int n :: r => bif decide (n < 0) || decide (16777216 < n.toNatClampNeg) || !(a == 3 || a == 4) then none else pm_go (pc + 3) ls (.ref h.1 :: r) (pm_hpush h n.toNatClampNeg (.inl (a, n.toNatClampNeg, .inr (.inr (.inr (.inr (fun _ => none)))))))
    | _ => none)
  | .arraylength => (match st with
    | w :: r => (match pm_arr X h w with
      | some (t, n, _) => bif decide (t < 5) || pm_isS w then pm_go (pc + 1) ls (.int (Int32.ofNat n) :: r) h else none
      | none => none)
    | _ => none)
  | .iaload => (match st with
    | .int j :: w :: r => (match pm_arr X h w with
      | some (t, n, .inl f) => bif t == 0 && pm_in j n then pm_go (pc + 1) ls (.int (f j.toNatClampNeg) :: r) h else none
      | _ => none)
    | _ => none)
  | .baload => (match st with
    | .int j :: w :: r => (match pm_arr X h w with
      | some (t, n, .inl f) => bif (t == 2 || (t == 5 && pm_isS w)) && pm_in j n then pm_go (pc + 1) ls (.int (f j.toNatClampNeg) :: r) h else none
      | _ => none)
    | _ => none)
  | .laload => (match st with
    | .int j :: w :: r => (match pm_arr X h w with
      | some (t, n, .inr (.inl f)) => bif t == 1 && pm_in j n then pm_go (pc + 1) ls (.long (f j.toNatClampNeg) :: r) h else none
      | _ => none)
    | _ => none)
  | .aaload => (match st with
    | .int j :: w :: r => (match pm_arr X h w with
      | some (t, n, .inr (.inr (.inr (.inr f)))) => bif (t == 3 || t == 4) && pm_in j n then pm_go (pc + 1) ls (va_rf (f j.toNatClampNeg) :: r) h else none
      | _ => none)
    | _ => none)
  | .iastore => (match st with
    | .int x :: .int j :: .ref q :: r => (match pm_arr X h (.ref q) with
      | some (t, n, .inl f) => bif t == 0 && pm_in j n then pm_go (pc + 1) ls r (pm_hset h q (.inl (0, n, .inl (upd f j.toNatClampNeg x)))) else none
      | _ => none)
    | _ => none)
  | .bastore => (match st with
    | .int x :: .int j :: .ref q :: r => (match pm_arr X h (.ref q) with
      | some (t, n, .inl f) => bif t == 2 && pm_in j n then pm_go (pc + 1) ls r (pm_hset h q (.inl (2, n, .inl (upd f j.toNatClampNeg (x &&& 1))))) else none
      | _ => none)
    | _ => none)
  | .lastore => (match st with
    | .long x :: .int j :: .ref q :: r => (match pm_arr X h (.ref q) with
      | some (t, n, .inr (.inl f)) => bif t == 1 && pm_in j n then pm_go (pc + 1) ls r (pm_hset h q (.inl (1, n, .inr (.inl (vp_updL f j.toNatClampNeg x))))) else none
      | _ => none)
    | _ => none)
  | .aastore => (match st with
    | .null :: .int j :: .ref q :: r => (match pm_arr X h (.ref q) with
      | some (t, n, .inr (.inr (.inr (.inr f)))) => bif (t == 3 || t == 4) && pm_in j n then pm_go (pc + 1) ls r (pm_hset h q (.inl (t, n, .inr (.inr (.inr (.inr (va_up f j.toNatClampNeg none))))))) else none
      | _ => none)
    | .ref x :: .int j :: .ref q :: r => (match pm_arr X h (.ref q), pm_obj h (.ref x) with
      | some (t, n, .inr (.inr (.inr (.inr f)))), some (_, ci, _) => bif (t == 3 || t == 4) && pm_in j n && ci == pm_ak t then pm_go (pc + 1) ls r (pm_hset h q (.inl (t, n, .inr (.inr (.inr (.inr (va_up f j.toNatClampNeg (some x)))))))) else none
      | _, _ => none)
    | _ => none)
  | .checkcast _ => (match st with
    | .ref q :: r => (match pm_arr X h (.ref q) with
      | some (t, _, _) => bif t == 0 && a == 0 then pm_go (pc + 3) ls (.ref q :: r) h else none
      | none => none)
    | _ => none)
  | .invokevirtual _ => pm_inv X call 0 pc ls st h a b
  | .invokestatic _ => pm_inv X call 1 pc ls st h a b
  | .invokespecial _ => pm_inv X call 2 pc ls st h a b
  | .ireturn => (match st with
    | [.int x] => bif pm_ret ret x then some (.inr (h, some (.int x))) else none
    | _ => none)
  | .lreturn => (match st with
    | [.long x] => bif decide (ret = some .long) then some (.inr (h, some (.long x))) else none
    | _ => none)
  | .areturn => (match st, ret with
    | [.ref x], some (.object _) => some (.inr (h, some (.ref x)))
    | [.ref x], some (.array _) => some (.inr (h, some (.ref x)))
    | [.null], some (.object _) => some (.inr (h, some .null))
    | [.null], some (.array _) => some (.inr (h, some .null))
    | _, _ => none)
  | .return_ => (match st, ret with
    | [], none => some (.inr (h, none))
    | _, _ => none)
  | _ => none
def pm_find : List pm_I → Nat → Option (Instr × Nat × Nat × Nat × Value)
  | [], _ => none
  | e :: t, pc => bif e.1 == pc then some e.2 else pm_find t pc
def pm_ex (X : pm_X) (call : Nat → List Value → pm_H → Option pm_R) (o : Nat) (ini : Bool) (ret : Option FieldType) (code : List pm_I) : Nat → pm_S → Option pm_R
  | 0, _ => none
  | n + 1, s => match pm_find code s.1 with
    | none => none
    | some e => match pm_step X call o ini ret s.1 s.2.1 s.2.2.1 s.2.2.2 e.1 e.2.1 e.2.2.1 e.2.2.2.1 e.2.2.2.2 with
      | none => none
      | some (.inr r) => some r
      | some (.inl s') => pm_ex X call o ini ret code n s'
/-- method number mid, with calls to the depth d, each of at most n steps -/
def pm_run (X : pm_X) (n : Nat) : Nat → Nat → List Value → pm_H → Option pm_R
  | 0, _, _, _ => none
  | d + 1, mid, args, h => match pm_mtL[mid]? with
    | none => none
    | some q => bif decide (args.length = q.2.2.2.2.2.1) && decide ((pm_lay args).length ≤ q.2.2.1) then
        pm_ex X (pm_run X n d) q.2.2.2.2.1 (decide (q.1.name = "<init>")) q.2.2.2.1 q.2.2.2.2.2.2 n (0, pm_ini args q.2.2.1, [], h) else none
/-- what was there before -/
def pm_sX (L : Nat) (xs : Nat → Int32) : pm_X := fun k =>
  bif k == 200 then some (0, L, xs) else bif k == 201 then some (0, 3, fun j => [999, 10, 9].getD j 0) else
  bif decide (100 ≤ k) && decide (k < 123) then some (5, (pm_strB.getD (k - 100) []).length, fun j => (pm_strB.getD (k - 100) []).getD j 0) else none
