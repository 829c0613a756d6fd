/-! ===== the small machine: what the class and the reference do, over cells told by numbers ===== -/
abbrev SC : Type := Nat × Nat × List (Option (Option Nat))
abbrev Wd : Type := List SC × (Nat → Nat → Int32) × (Nat → Nat → Int64)
abbrev St : Type := Nat × List (Nat × Value) × List Value × Wd
abbrev Rt : Type := Option Value × Wd
abbrev Ent : Type := Instr × Nat × Nat × Nat × Nat × Int
abbrev Cd : Type := List (Nat × Ent)
abbrev Cal : Type := Nat → List Value → Wd → Rt → Prop
abbrev Scr : Type := Bool × Nat × (Nat → Int32)
def lk : Cd → Nat → Option Ent
  | [], _ => none
  | (q, e) :: t, pc => bif Nat.beq q pc then some e else lk t pc
def lkL : List (Nat × Value) → Nat → Option Value
  | [], _ => none
  | (j, v) :: t, i => bif Nat.beq j i then some v else lkL t i
def insL (i : Nat) (v : Value) : List (Nat × Value) → List (Nat × Value)
  | [] => [(i, v)]
  | (j, u) :: t => bif Nat.blt i j then (i, v) :: (j, u) :: t else (j, u) :: insL i v t
def put1 (i : Nat) (v : Value) (L : List (Nat × Value)) : List (Nat × Value) := insL i v (L.filter (fun q => !(q.1 == i) && !(q.1 + 1 == i && q.2.category == 2)))
def put2 (i : Nat) (v : Value) (L : List (Nat × Value)) : List (Nat × Value) := insL i v (L.filter (fun q => !(q.1 == i) && (!(q.1 == i + 1) && !(q.1 + 1 == i && q.2.category == 2))))
def up2 (M : Nat → Nat → Int32) (a k : Nat) (v : Int32) : Nat → Nat → Int32 := fun x y => if x = a then (if y = k then v else M x y) else M x y
def up2L (M : Nat → Nat → Int64) (a k : Nat) (v : Int64) : Nat → Nat → Int64 := fun x y => if x = a then (if y = k then v else M x y) else M x y
def clr (M : Nat → Nat → Int32) (a : Nat) : Nat → Nat → Int32 := fun x y => if x = a then 0 else M x y
def clrL (M : Nat → Nat → Int64) (a : Nat) : Nat → Nat → Int64 := fun x y => if x = a then 0 else M x y
def ldv : Instr → List (Nat × Value) → Option Value
  | .iload_n k, L => match lkL L k with
    | some (.int x) => some (.int x)
    | _ => none
  | .iload k, L => match lkL L k with
    | some (.int x) => some (.int x)
    | _ => none
  | .lload_n k, L => match lkL L k with
    | some (.long x) => some (.long x)
    | _ => none
  | .lload k, L => match lkL L k with
    | some (.long x) => some (.long x)
    | _ => none
  | .aload_n k, L => match lkL L k with
    | some (.ref x) => some (.ref x)
    | some .null => some .null
    | _ => none
  | .aload k, L => match lkL L k with
    | some (.ref x) => some (.ref x)
    | some .null => some .null
    | _ => none
  | _, _ => none
def cst : Instr → Option Value
  | .iconst n => some (.int (Int32.ofInt n))
  | .bipush n => some (.int (Int8.ofInt n).toInt32)
  | .sipush n => some (.int (Int16.ofInt n).toInt32)
  | .lconst k => some (.long (Int64.ofNat (k : Nat)))
  | .aconst_null => some .null
  | _ => none
def stv : Instr → Value → List (Nat × Value) → Option (List (Nat × Value))
  | .istore_n k, .int x, L => some (put1 k (.int x) L)
  | .istore k, .int x, L => some (put1 k (.int x) L)
  | .lstore_n k, .long x, L => some (put2 k (.long x) L)
  | .lstore k, .long x, L => some (put2 k (.long x) L)
  | .astore_n k, .ref x, L => some (put1 k (.ref x) L)
  | .astore_n k, .null, L => some (put1 k .null L)
  | .astore k, .ref x, L => some (put1 k (.ref x) L)
  | .astore k, .null, L => some (put1 k .null L)
  | _, _, _ => none
def bin : Instr → Value → Value → Option Value
  | .iadd, .int x, .int y => some (.int (x + y))
  | .isub, .int x, .int y => some (.int (x - y))
  | .imul, .int x, .int y => some (.int (x * y))
  | .iand, .int x, .int y => some (.int (x &&& y))
  | .ior, .int x, .int y => some (.int (x ||| y))
  | .ixor, .int x, .int y => some (.int (x ^^^ y))
  | .ishl, .int x, .int y => some (.int (x <<< (y &&& 31)))
  | .ishr, .int x, .int y => some (.int (x >>> (y &&& 31)))
  | .iushr, .int x, .int y => some (.int (x.toUInt32 >>> (y.toUInt32 &&& Int32.toUInt32 31)).toInt32)
  | .ladd, .long x, .long y => some (.long (x + y))
  | .lmul, .long x, .long y => some (.long (x * y))
  | .lor, .long x, .long y => some (.long (x ||| y))
  | .lshl, .long x, .int y => some (.long (x <<< (y.toInt64 &&& 63)))
  | .lcmp, .long x, .long y => some (.int (lg_cmp x y))
  | _, _, _ => none
def div : Instr → Int32 → Int32 → Option Int32
  | .idiv, x, y => some (x / y)
  | .irem, x, y => some (x - x / y * y)
  | _, _, _ => none
def una : Instr → Value → Option Value
  | .ineg, .int x => some (.int (-x))
  | .i2l, .int x => some (.long x.toInt64)
  | .l2i, .long x => some (.int x.toInt32)
  | _, _ => none
def cj : Instr → List Value → Option (Prop × List Value)
  | .if_icmp .eq _, .int y :: .int x :: st => some (x = y, st)
  | .if_icmp .ne _, .int y :: .int x :: st => some (¬ x = y, st)
  | .if_icmp .lt _, .int y :: .int x :: st => some (x < y, st)
  | .if_icmp .ge _, .int y :: .int x :: st => some (y ≤ x, st)
  | .if_icmp .gt _, .int y :: .int x :: st => some (y < x, st)
  | .if_icmp .le _, .int y :: .int x :: st => some (x ≤ y, st)
  | .ifCond .eq _, .int x :: st => some (x = 0, st)
  | .ifCond .ne _, .int x :: st => some (¬ x = 0, st)
  | .ifCond .lt _, .int x :: st => some (x < 0, st)
  | .ifCond .ge _, .int x :: st => some (0 ≤ x, st)
  | .ifCond .gt _, .int x :: st => some (0 < x, st)
  | .ifCond .le _, .int x :: st => some (x ≤ 0, st)
  | _, _ => none
/-- does the jump go: on null or not -/
def nlj : Instr → Value → Option Bool
  | .ifnull _, .null => some true
  | .ifnull _, .ref _ => some false
  | .ifnonnull _, .null => some false
  | .ifnonnull _, .ref _ => some true
  | _, _ => none
def stk : Instr → List Value → Option (List Value)
  | .dup, .int x :: st => some (.int x :: .int x :: st)
  | .dup, .ref x :: st => some (.ref x :: .ref x :: st)
  | .dup2, .int y :: .ref x :: st => some (.int y :: .ref x :: .int y :: .ref x :: st)
  | .dup2, .int y :: .int x :: st => some (.int y :: .int x :: .int y :: .int x :: st)
  | .pop, .int _ :: st => some st
  | .pop, .ref _ :: st => some st
  | _, _ => none
def fvl (M : Nat → Nat → Int32) (a k : Nat) : Option (Option Nat) → Value
  | none => .int (M a k)
  | some r => va_rf r
def aldv (M : Nat → Nat → Int32) (ML : Nat → Nat → Int64) (a : Nat) (j : Nat) : Instr → Nat → Option Value
  | .iaload, 0 => some (.int (M a j))
  | .laload, 1 => some (.long (ML a j))
  | .baload, 2 => some (.int (M a j))
  | _, _ => none
def astv (M : Nat → Nat → Int32) (ML : Nat → Nat → Int64) (a : Nat) (j : Nat) : Instr → Nat → Value → Option ((Nat → Nat → Int32) × (Nat → Nat → Int64))
  | .iastore, 0, .int v => some (up2 M a j v, ML)
  | .bastore, 2, .int v => some (up2 M a j (vp_nar .boolean v), ML)
  | .lastore, 1, .long v => some (M, up2L ML a j v)
  | _, _, _ => none
/-- which array newarray makes -/
def nat_ : ArrayType → Option Nat
  | .int => some 0
  | .long => some 1
  | .boolean => some 2
  | _ => none
def rcv (sh : List SC) : Nat → List Value → Bool
  | 0, _ => true
  | c + 1, .ref (i + 1) :: _ => match sh[i]? with
    | some (t, _) => Nat.beq t (c + 4)
    | none => false
  | _ + 1, _ => false
def isI : Instr → Bool
  | .invokevirtual _ => true
  | .invokespecial _ => true
  | .invokestatic _ => true
  | _ => false
def retv : Instr → List Value → Option (Option Value)
  | .ireturn, [.int x] => some (some (.int x))
  | .lreturn, [.long x] => some (some (.long x))
  | .areturn, [.ref x] => some (some (.ref x))
  | .areturn, [.null] => some (some .null)
  | .return_, [] => some none
  | _, _ => none
/-- a boolean method gives 0 or 1 alone -/
def rbv : Bool → Option Value → Prop
  | true, some (.int x) => x = 0 ∨ x = 1
  | _, _ => True
def swT (pc : Nat) : Instr → Int32 → Option Nat
  | .tableswitch d lo hi offs, x => some ((pc : Int) + (if x.toInt < lo ∨ hi < x.toInt then d else offs.getD (x.toInt - lo).toNat 0)).toNat
  | .lookupswitch d ps, x => some ((pc : Int) + Op.lookupswitch.offset ps.toList d x.toInt).toNat
  | _, _ => none
def mmx : Nat → Int32 → Int32 → Option Int32
  | 998, x, y => some (if x < y then y else x)
  | 997, x, y => some (if y < x then y else x)
  | _, _, _ => none
section RU
variable (X : Scr) (cd : Cd) (E : Cal) (rb : Bool) (res : Rt) (nf : Nat → List (Option (Option Nat))) (zf : Nat → Nat → Bool) (P : St → Prop)
def RU_ld : Prop := ∀ pc L st w ins nx a b c z v, lk cd pc = some (ins, nx, a, b, c, z) → ldv ins L = some v → P (nx, L, v :: st, w) → P (pc, L, st, w)
def RU_cst : Prop := ∀ pc L st w ins nx a b c z v, lk cd pc = some (ins, nx, a, b, c, z) → cst ins = some v → P (nx, L, v :: st, w) → P (pc, L, st, w)
def RU_ldc : Prop := ∀ pc L st w i nx a b c z, (lk cd pc = some (.ldc i, nx, a, b, c, z) ∨ lk cd pc = some (.ldc_w i, nx, a, b, c, z)) → P (nx, L, .int (Int32.ofInt z) :: st, w) → P (pc, L, st, w)
def RU_ldl : Prop := ∀ pc L st w i nx a b c z, lk cd pc = some (.ldc2_w i, nx, a, b, c, z) → P (nx, L, .long (Int64.ofInt z) :: st, w) → P (pc, L, st, w)
def RU_sto : Prop := ∀ pc L L' st w ins nx a b c z v, lk cd pc = some (ins, nx, a, b, c, z) → stv ins v L = some L' → P (nx, L', st, w) → P (pc, L, v :: st, w)
def RU_inc : Prop := ∀ pc L st w i n nx a b c z x, lk cd pc = some (.iinc i n, nx, a, b, c, z) → lkL L i = some (.int x) → P (nx, put1 i (.int (x + Int32.ofInt n)) L, st, w) → P (pc, L, st, w)
def RU_bin : Prop := ∀ pc L st w ins nx a b c z x y v, lk cd pc = some (ins, nx, a, b, c, z) → bin ins x y = some v → P (nx, L, v :: st, w) → P (pc, L, y :: x :: st, w)
def RU_div : Prop := ∀ pc L st w ins nx a b c z x y v, lk cd pc = some (ins, nx, a, b, c, z) → div ins x y = some v → ¬ y = 0 → P (nx, L, .int v :: st, w) → P (pc, L, .int y :: .int x :: st, w)
def RU_una : Prop := ∀ pc L st w ins nx a b c z x v, lk cd pc = some (ins, nx, a, b, c, z) → una ins x = some v → P (nx, L, v :: st, w) → P (pc, L, x :: st, w)
def RU_cj : Prop := ∀ pc L st st' w ins nx a b c z q, lk cd pc = some (ins, nx, a, b, c, z) → cj ins st = some (q, st') → (q → P (a, L, st', w)) → (¬ q → P (nx, L, st', w)) → P (pc, L, st, w)
def RU_nlj : Prop := ∀ pc L st w ins nx a b c z v t, lk cd pc = some (ins, nx, a, b, c, z) → nlj ins v = some t → P (bif t then a else nx, L, st, w) → P (pc, L, v :: st, w)
def RU_go : Prop := ∀ pc L st w o nx a b c z, lk cd pc = some (.goto o, nx, a, b, c, z) → P (a, L, st, w) → P (pc, L, st, w)
def RU_stk : Prop := ∀ pc L st st' w ins nx a b c z, lk cd pc = some (ins, nx, a, b, c, z) → stk ins st = some st' → P (nx, L, st', w) → P (pc, L, st, w)
def RU_get : Prop := ∀ pc L st sh M ML i f t n fs nx k b c z, lk cd pc = some (.getfield f, nx, k, b, c, z) → sh[i]? = some (b + 4, n, fs) → Nat.blt k n = true → fs[k]? = some t → P (nx, L, fvl M (i + 1) k t :: st, (sh, M, ML)) → P (pc, L, .ref (i + 1) :: st, (sh, M, ML))
def RU_put : Prop := ∀ pc L st sh M ML i f n fs nx k b z v, lk cd pc = some (.putfield f, nx, k, b, 0, z) → sh[i]? = some (b + 4, n, fs) → Nat.blt k n = true → fs[k]? = some none → (zf b k = false ∨ v = 0 ∨ v = 1) → P (nx, L, st, (sh, up2 M (i + 1) k v, ML)) → P (pc, L, .int v :: .ref (i + 1) :: st, (sh, M, ML))
def RU_putr : Prop := ∀ pc L st sh M ML i f n fs nx k b z r r0, lk cd pc = some (.putfield f, nx, k, b, 1, z) → sh[i]? = some (b + 4, n, fs) → Nat.blt k n = true → fs[k]? = some (some r0) → P (nx, L, st, (sh.set i (b + 4, n, fs.set k (some (some r))), M, ML)) → P (pc, L, .ref r :: .ref (i + 1) :: st, (sh, M, ML))
def RU_ald : Prop := ∀ pc L st sh M ML i ins t n fs nx a b c z j v, lk cd pc = some (ins, nx, a, b, c, z) → sh[i]? = some (t, n, fs) → aldv M ML (i + 1) j.toNatClampNeg ins t = some v → vp_in j n → P (nx, L, v :: st, (sh, M, ML)) → P (pc, L, .int j :: .ref (i + 1) :: st, (sh, M, ML))
def RU_alq : Prop := ∀ pc L st sh M ML i n fs nx a b c z j v, lk cd pc = some (.aaload, nx, a, b, c, z) → sh[i]? = some (3, n, fs) → va_rf (fs.getD j.toNatClampNeg none).join = v → vp_in j n → P (nx, L, v :: st, (sh, M, ML)) → P (pc, L, .int j :: .ref (i + 1) :: st, (sh, M, ML))
def RU_scr : Prop := ∀ pc L st w nx a b c z j, lk cd pc = some (.iaload, nx, a, b, c, z) → X.1 = true → vp_in j X.2.1 → P (nx, L, .int (X.2.2 j.toNatClampNeg) :: st, w) → P (pc, L, .int j :: .ref 0 :: st, w)
def RU_scl : Prop := ∀ pc L st w nx a b c z, lk cd pc = some (.arraylength, nx, a, b, c, z) → X.1 = true → P (nx, L, .int (Int32.ofNat X.2.1) :: st, w) → P (pc, L, .ref 0 :: st, w)
def RU_ast : Prop := ∀ pc L st sh M ML i ins t n fs nx a b c z j v MM, lk cd pc = some (ins, nx, a, b, c, z) → sh[i]? = some (t, n, fs) → astv M ML (i + 1) j.toNatClampNeg ins t v = some MM → vp_in j n → P (nx, L, st, (sh, MM.1, MM.2)) → P (pc, L, v :: .int j :: .ref (i + 1) :: st, (sh, M, ML))
def RU_asq : Prop := ∀ pc L st sh M ML i n fs nx a b c z j r n3 f3, lk cd pc = some (.aastore, nx, a, b, c, z) → sh[i]? = some (3, n, fs) → sh[r]? = some (7, n3, f3) → j.toNatClampNeg < fs.length → vp_in j n → P (nx, L, st, (sh.set i (3, n, fs.set j.toNatClampNeg (some (some (r + 1)))), M, ML)) → P (pc, L, .ref (r + 1) :: .int j :: .ref (i + 1) :: st, (sh, M, ML))
def RU_len : Prop := ∀ pc L st sh M ML i t n fs nx a b c z, lk cd pc = some (.arraylength, nx, a, b, c, z) → sh[i]? = some (t, n, fs) → Nat.blt t 4 = true → P (nx, L, .int (Int32.ofNat n) :: st, (sh, M, ML)) → P (pc, L, .ref (i + 1) :: st, (sh, M, ML))
def RU_new : Prop := ∀ pc L st sh M ML i nx k b c z, lk cd pc = some (.new i, nx, k, b, c, z) → P (nx, L, .ref (sh.length + 1) :: st, (sh ++ [(k + 4, b, nf k)], clr M (sh.length + 1), ML)) → P (pc, L, st, (sh, M, ML))
def RU_nwa : Prop := ∀ pc L st sh M ML t t' nx a b c z n N, lk cd pc = some (.newarray t, nx, a, b, c, z) → nat_ t = some t' → ¬ n < 0 → n.toNatClampNeg = N → Nat.ble N 1000000 = true → P (nx, L, .ref (sh.length + 1) :: st, (sh ++ [(t', N, [])], clr M (sh.length + 1), clrL ML (sh.length + 1))) → P (pc, L, .int n :: st, (sh, M, ML))
def RU_nwq : Prop := ∀ pc L st sh M ML i nx a b c z n N, lk cd pc = some (.anewarray i, nx, a, b, c, z) → ¬ n < 0 → n.toNatClampNeg = N → Nat.ble N 1000000 = true → P (nx, L, .ref (sh.length + 1) :: st, (sh ++ [(3, N, List.replicate N (some none))], M, ML)) → P (pc, L, .int n :: st, (sh, M, ML))
def RU_oin : Prop := ∀ pc L st w i nx b c z r, lk cd pc = some (.invokespecial i, nx, 999, b, c, z) → (st.map fun v => v.category).sum ≤ 8 → P (nx, L, st, w) → P (pc, L, .ref (r + 1) :: st, w)
def RU_call : Prop := ∀ pc L st0 w ins nx k n c z r w1, lk cd pc = some (ins, nx, k, n, c, z) → isI ins = true → Nat.blt k 900 = true → Nat.ble n st0.length = true → ((st0.drop n).map fun v => v.category).sum ≤ 8 → rcv w.1 c (st0.take n).reverse = true → E k (st0.take n).reverse w (r, w1) → P (nx, L, r.toList ++ st0.drop n, w1) → P (pc, L, st0, w)
def RU_mm : Prop := ∀ pc L st w i nx k b c z x y v, lk cd pc = some (.invokestatic i, nx, k, b, c, z) → mmx k x y = some v → (st.map fun v => v.category).sum ≤ 8 → P (nx, L, .int v :: st, w) → P (pc, L, .int y :: .int x :: st, w)
def RU_sw : Prop := ∀ pc L st w ins nx a b c z x t, lk cd pc = some (ins, nx, a, b, c, z) → swT pc ins x = some t → P (t, L, st, w) → P (pc, L, .int x :: st, w)
def RU_ret : Prop := ∀ pc L st w ins nx a b c z r, lk cd pc = some (ins, nx, a, b, c, z) → retv ins st = some r → rbv rb r → res = (r, w) → P (pc, L, st, w)
def RU_sub : Prop := ∀ pc L L' st w, (∀ q ∈ L', q ∈ L) → P (pc, L', st, w) → P (pc, L, st, w)
/-- a set of states that is closed under all rules -/
def Clo : Prop := RU_ld cd P ∧ RU_cst cd P ∧ RU_ldc cd P ∧ RU_ldl cd P ∧ RU_sto cd P ∧ RU_inc cd P ∧ RU_bin cd P ∧ RU_div cd P ∧ RU_una cd P ∧ RU_cj cd P ∧ RU_nlj cd P ∧ RU_go cd P ∧ RU_stk cd P ∧ RU_get cd P ∧ RU_put cd zf P ∧ RU_putr cd P ∧ RU_ald cd P ∧ RU_alq cd P ∧ RU_scr X cd P ∧ RU_scl X cd P ∧ RU_ast cd P ∧ RU_asq cd P ∧ RU_len cd P ∧ RU_new cd nf P ∧ RU_nwa cd P ∧ RU_nwq cd P ∧ RU_oin cd P ∧ RU_call cd E P ∧ RU_mm cd P ∧ RU_sw cd P ∧ RU_ret cd rb res P ∧ RU_sub P
/-- from this state the method comes to that end -/
def Rs (st : St) : Prop := ∀ P : St → Prop, Clo X cd E rb res nf zf P → P st
end RU
section RS
variable {X : Scr} {cd : Cd} {E : Cal} {rb : Bool} {res : Rt} {nf : Nat → List (Option (Option Nat))} {zf : Nat → Nat → Bool}
theorem r_ld {pc L st w ins nx a b c z v} (h0 : lk cd pc = some (ins, nx, a, b, c, z)) (h1 : ldv ins L = some v) (h2 : Rs X cd E rb res nf zf (nx, L, v :: st, w)) : Rs X cd E rb res nf zf (pc, L, st, w) := fun P hP => hP.1 _ _ _ _ _ _ _ _ _ _ _ h0 h1 (h2 P hP)
theorem r_cst {pc L st w ins nx a b c z v} (h0 : lk cd pc = some (ins, nx, a, b, c, z)) (h1 : cst ins = some v) (h2 : Rs X cd E rb res nf zf (nx, L, v :: st, w)) : Rs X cd E rb res nf zf (pc, L, st, w) := fun P hP => hP.2.1 _ _ _ _ _ _ _ _ _ _ _ h0 h1 (h2 P hP)
theorem r_ldc {pc L st w i nx a b c z} (h0 : (lk cd pc = some (.ldc i, nx, a, b, c, z) ∨ lk cd pc = some (.ldc_w i, nx, a, b, c, z))) (h1 : Rs X cd E rb res nf zf (nx, L, .int (Int32.ofInt z) :: st, w)) : Rs X cd E rb res nf zf (pc, L, st, w) := fun P hP => hP.2.2.1 _ _ _ _ _ _ _ _ _ _ h0 (h1 P hP)
theorem r_ldl {pc L st w i nx a b c z} (h0 : lk cd pc = some (.ldc2_w i, nx, a, b, c, z)) (h1 : Rs X cd E rb res nf zf (nx, L, .long (Int64.ofInt z) :: st, w)) : Rs X cd E rb res nf zf (pc, L, st, w) := fun P hP => hP.2.2.2.1 _ _ _ _ _ _ _ _ _ _ h0 (h1 P hP)
theorem r_sto {pc L L' st w ins nx a b c z v} (h0 : lk cd pc = some (ins, nx, a, b, c, z)) (h1 : stv ins v L = some L') (h2 : Rs X cd E rb res nf zf (nx, L', st, w)) : Rs X cd E rb res nf zf (pc, L, v :: st, w) := fun P hP => hP.2.2.2.2.1 _ _ _ _ _ _ _ _ _ _ _ _ h0 h1 (h2 P hP)
theorem r_inc {pc L st w i n nx a b c z x} (h0 : lk cd pc = some (.iinc i n, nx, a, b, c, z)) (h1 : lkL L i = some (.int x)) (h2 : Rs X cd E rb res nf zf (nx, put1 i (.int (x + Int32.ofInt n)) L, st, w)) : Rs X cd E rb res nf zf (pc, L, st, w) := fun P hP => hP.2.2.2.2.2.1 _ _ _ _ _ _ _ _ _ _ _ _ h0 h1 (h2 P hP)
theorem r_bin {pc L st w ins nx a b c z x y v} (h0 : lk cd pc = some (ins, nx, a, b, c, z)) (h1 : bin ins x y = some v) (h2 : Rs X cd E rb res nf zf (nx, L, v :: st, w)) : Rs X cd E rb res nf zf (pc, L, y :: x :: st, w) := fun P hP => hP.2.2.2.2.2.2.1 _ _ _ _ _ _ _ _ _ _ _ _ _ h0 h1 (h2 P hP)
theorem r_div {pc L st w ins nx a b c z x y v} (h0 : lk cd pc = some (ins, nx, a, b, c, z)) (h1 : div ins x y = some v) (h2 : ¬ y = 0) (h3 : Rs X cd E rb res nf zf (nx, L, .int v :: st, w)) : Rs X cd E rb res nf zf (pc, L, .int y :: .int x :: st, w) := fun P hP => hP.2.2.2.2.2.2.2.1 _ _ _ _ _ _ _ _ _ _ _ _ _ h0 h1 h2 (h3 P hP)
theorem r_una {pc L st w ins nx a b c z x v} (h0 : lk cd pc = some (ins, nx, a, b, c, z)) (h1 : una ins x = some v) (h2 : Rs X cd E rb res nf zf (nx, L, v :: st, w)) : Rs X cd E rb res nf zf (pc, L, x :: st, w) := fun P hP => hP.2.2.2.2.2.2.2.2.1 _ _ _ _ _ _ _ _ _ _ _ _ h0 h1 (h2 P hP)
theorem r_cj {pc L st st' w ins nx a b c z q} (h0 : lk cd pc = some (ins, nx, a, b, c, z)) (h1 : cj ins st = some (q, st')) (h2 : (q → Rs X cd E rb res nf zf (a, L, st', w))) (h3 : (¬ q → Rs X cd E rb res nf zf (nx, L, st', w))) : Rs X cd E rb res nf zf (pc, L, st, w) := fun P hP => hP.2.2.2.2.2.2.2.2.2.1 _ _ _ _ _ _ _ _ _ _ _ _ h0 h1 (fun hq => h2 hq P hP) (fun hq => h3 hq P hP)
theorem r_nlj {pc L st w ins nx a b c z v t} (h0 : lk cd pc = some (ins, nx, a, b, c, z)) (h1 : nlj ins v = some t) (h2 : Rs X cd E rb res nf zf (bif t then a else nx, L, st, w)) : Rs X cd E rb res nf zf (pc, L, v :: st, w) := fun P hP => hP.2.2.2.2.2.2.2.2.2.2.1 _ _ _ _ _ _ _ _ _ _ _ _ h0 h1 (h2 P hP)
theorem r_go {pc L st w o nx a b c z} (h0 : lk cd pc = some (.goto o, nx, a, b, c, z)) (h1 : Rs X cd E rb res nf zf (a, L, st, w)) : Rs X cd E rb res nf zf (pc, L, st, w) := fun P hP => hP.2.2.2.2.2.2.2.2.2.2.2.1 _ _ _ _ _ _ _ _ _ _ h0 (h1 P hP)
theorem r_stk {pc L st st' w ins nx a b c z} (h0 : lk cd pc = some (ins, nx, a, b, c, z)) (h1 : stk ins st = some st') (h2 : Rs X cd E rb res nf zf (nx, L, st', w)) : Rs X cd E rb res nf zf (pc, L, st, w) := fun P hP => hP.2.2.2.2.2.2.2.2.2.2.2.2.1 _ _ _ _ _ _ _ _ _ _ _ h0 h1 (h2 P hP)
theorem r_get {pc L st sh M ML i f t n fs nx k b c z} (h0 : lk cd pc = some (.getfield f, nx, k, b, c, z)) (h1 : sh[i]? = some (b + 4, n, fs)) (h2 : Nat.blt k n = true) (h3 : fs[k]? = some t) (h4 : Rs X cd E rb res nf zf (nx, L, fvl M (i + 1) k t :: st, (sh, M, ML))) : Rs X cd E rb res nf zf (pc, L, .ref (i + 1) :: st, (sh, M, ML)) := fun P hP => hP.2.2.2.2.2.2.2.2.2.2.2.2.2.1 _ _ _ _ _ _ _ _ _ _ _ _ _ _ _ _ h0 h1 h2 h3 (h4 P hP)
theorem r_put {pc L st sh M ML i f n fs nx k b z v} (h0 : lk cd pc = some (.putfield f, nx, k, b, 0, z)) (h1 : sh[i]? = some (b + 4, n, fs)) (h2 : Nat.blt k n = true) (h3 : fs[k]? = some none) (h4 : (zf b k = false ∨ v = 0 ∨ v = 1)) (h5 : Rs X cd E rb res nf zf (nx, L, st, (sh, up2 M (i + 1) k v, ML))) : Rs X cd E rb res nf zf (pc, L, .int v :: .ref (i + 1) :: st, (sh, M, ML)) := fun P hP => hP.2.2.2.2.2.2.2.2.2.2.2.2.2.2.1 _ _ _ _ _ _ _ _ _ _ _ _ _ _ _ h0 h1 h2 h3 h4 (h5 P hP)
theorem r_putr {pc L st sh M ML i f n fs nx k b z r r0} (h0 : lk cd pc = some (.putfield f, nx, k, b, 1, z)) (h1 : sh[i]? = some (b + 4, n, fs)) (h2 : Nat.blt k n = true) (h3 : fs[k]? = some (some r0)) (h4 : Rs X cd E rb res nf zf (nx, L, st, (sh.set i (b + 4, n, fs.set k (some (some r))), M, ML))) : Rs X cd E rb res nf zf (pc, L, .ref r :: .ref (i + 1) :: st, (sh, M, ML)) := fun P hP => hP.2.2.2.2.2.2.2.2.2.2.2.2.2.2.2.1 _ _ _ _ _ _ _ _ _ _ _ _ _ _ _ _ h0 h1 h2 h3 (h4 P hP)
theorem r_ald {pc L st sh M ML i ins t n fs nx a b c z j v} (h0 : lk cd pc = some (ins, nx, a, b, c, z)) (h1 : sh[i]? = some (t, n, fs)) (h2 : aldv M ML (i + 1) j.toNatClampNeg ins t = some v) (h3 : vp_in j n) (h4 : Rs X cd E rb res nf zf (nx, L, v :: st, (sh, M, ML))) : Rs X cd E rb res nf zf (pc, L, .int j :: .ref (i + 1) :: st, (sh, M, ML)) := fun P hP => hP.2.2.2.2.2.2.2.2.2.2.2.2.2.2.2.2.1 _ _ _ _ _ _ _ _ _ _ _ _ _ _ _ _ _ _ h0 h1 h2 h3 (h4 P hP)
theorem r_alq {pc L st sh M ML i n fs nx a b c z j v} (h0 : lk cd pc = some (.aaload, nx, a, b, c, z)) (h1 : sh[i]? = some (3, n, fs)) (h2 : va_rf (fs.getD j.toNatClampNeg none).join = v) (h3 : vp_in j n) (h4 : Rs X cd E rb res nf zf (nx, L, v :: st, (sh, M, ML))) : Rs X cd E rb res nf zf (pc, L, .int j :: .ref (i + 1) :: st, (sh, M, ML)) := fun P hP => hP.2.2.2.2.2.2.2.2.2.2.2.2.2.2.2.2.2.1 _ _ _ _ _ _ _ _ _ _ _ _ _ _ _ _ h0 h1 h2 h3 (h4 P hP)
theorem r_scr {pc L st w nx a b c z j} (h0 : lk cd pc = some (.iaload, nx, a, b, c, z)) (h1 : X.1 = true) (h2 : vp_in j X.2.1) (h3 : Rs X cd E rb res nf zf (nx, L, .int (X.2.2 j.toNatClampNeg) :: st, w)) : Rs X cd E rb res nf zf (pc, L, .int j :: .ref 0 :: st, w) := fun P hP => hP.2.2.2.2.2.2.2.2.2.2.2.2.2.2.2.2.2.2.1 _ _ _ _ _ _ _ _ _ _ h0 h1 h2 (h3 P hP)
theorem r_scl {pc L st w nx a b c z} (h0 : lk cd pc = some (.arraylength, nx, a, b, c, z)) (h1 : X.1 = true) (h2 : Rs X cd E rb res nf zf (nx, L, .int (Int32.ofNat X.2.1) :: st, w)) : Rs X cd E rb res nf zf (pc, L, .ref 0 :: st, w) := fun P hP => hP.2.2.2.2.2.2.2.2.2.2.2.2.2.2.2.2.2.2.2.1 _ _ _ _ _ _ _ _ _ h0 h1 (h2 P hP)
theorem r_ast {pc L st sh M ML i ins t n fs nx a b c z j v MM} (h0 : lk cd pc = some (ins, nx, a, b, c, z)) (h1 : sh[i]? = some (t, n, fs)) (h2 : astv M ML (i + 1) j.toNatClampNeg ins t v = some MM) (h3 : vp_in j n) (h4 : Rs X cd E rb res nf zf (nx, L, st, (sh, MM.1, MM.2))) : Rs X cd E rb res nf zf (pc, L, v :: .int j :: .ref (i + 1) :: st, (sh, M, ML)) := fun P hP => hP.2.2.2.2.2.2.2.2.2.2.2.2.2.2.2.2.2.2.2.2.1 _ _ _ _ _ _ _ _ _ _ _ _ _ _ _ _ _ _ _ h0 h1 h2 h3 (h4 P hP)
theorem r_asq {pc L st sh M ML i n fs nx a b c z j r n3 f3} (h0 : lk cd pc = some (.aastore, nx, a, b, c, z)) (h1 : sh[i]? = some (3, n, fs)) (h2 : sh[r]? = some (7, n3, f3)) (h3 : j.toNatClampNeg < fs.length) (h4 : vp_in j n) (h5 : Rs X cd E rb res nf zf (nx, L, st, (sh.set i (3, n, fs.set j.toNatClampNeg (some (some (r + 1)))), M, ML))) : Rs X cd E rb res nf zf (pc, L, .ref (r + 1) :: .int j :: .ref (i + 1) :: st, (sh, M, ML)) := fun P hP => hP.2.2.2.2.2.2.2.2.2.2.2.2.2.2.2.2.2.2.2.2.2.1 _ _ _ _ _ _ _ _ _ _ _ _ _ _ _ _ _ _ h0 h1 h2 h3 h4 (h5 P hP)
theorem r_len {pc L st sh M ML i t n fs nx a b c z} (h0 : lk cd pc = some (.arraylength, nx, a, b, c, z)) (h1 : sh[i]? = some (t, n, fs)) (h2 : Nat.blt t 4 = true) (h3 : Rs X cd E rb res nf zf (nx, L, .int (Int32.ofNat n) :: st, (sh, M, ML))) : Rs X cd E rb res nf zf (pc, L, .ref (i + 1) :: st, (sh, M, ML)) := fun P hP => hP.2.2.2.2.2.2.2.2.2.2.2.2.2.2.2.2.2.2.2.2.2.2.1 _ _ _ _ _ _ _ _ _ _ _ _ _ _ _ h0 h1 h2 (h3 P hP)
theorem r_new {pc L st sh M ML i nx k b c z} (h0 : lk cd pc = some (.new i, nx, k, b, c, z)) (h1 : Rs X cd E rb res nf zf (nx, L, .ref (sh.length + 1) :: st, (sh ++ [(k + 4, b, nf k)], clr M (sh.length + 1), ML))) : Rs X cd E rb res nf zf (pc, L, st, (sh, M, ML)) := fun P hP => hP.2.2.2.2.2.2.2.2.2.2.2.2.2.2.2.2.2.2.2.2.2.2.2.1 _ _ _ _ _ _ _ _ _ _ _ _ h0 (h1 P hP)
theorem r_nwa {pc L st sh M ML t t' nx a b c z n N} (h0 : lk cd pc = some (.newarray t, nx, a, b, c, z)) (h1 : nat_ t = some t') (h2 : ¬ n < 0) (h3 : n.toNatClampNeg = N) (h4 : Nat.ble N 1000000 = true) (h5 : Rs X cd E rb res nf zf (nx, L, .ref (sh.length + 1) :: st, (sh ++ [(t', N, [])], clr M (sh.length + 1), clrL ML (sh.length + 1)))) : Rs X cd E rb res nf zf (pc, L, .int n :: st, (sh, M, ML)) := fun P hP => hP.2.2.2.2.2.2.2.2.2.2.2.2.2.2.2.2.2.2.2.2.2.2.2.2.1 _ _ _ _ _ _ _ _ _ _ _ _ _ _ _ h0 h1 h2 h3 h4 (h5 P hP)
theorem r_nwq {pc L st sh M ML i nx a b c z n N} (h0 : lk cd pc = some (.anewarray i, nx, a, b, c, z)) (h1 : ¬ n < 0) (h2 : n.toNatClampNeg = N) (h3 : Nat.ble N 1000000 = true) (h4 : Rs X cd E rb res nf zf (nx, L, .ref (sh.length + 1) :: st, (sh ++ [(3, N, List.replicate N (some none))], M, ML))) : Rs X cd E rb res nf zf (pc, L, .int n :: st, (sh, M, ML)) := fun P hP => hP.2.2.2.2.2.2.2.2.2.2.2.2.2.2.2.2.2.2.2.2.2.2.2.2.2.1 _ _ _ _ _ _ _ _ _ _ _ _ _ _ h0 h1 h2 h3 (h4 P hP)
theorem r_oin {pc L st w i nx b c z r} (h0 : lk cd pc = some (.invokespecial i, nx, 999, b, c, z)) (h1 : (st.map fun v => v.category).sum ≤ 8) (h2 : Rs X cd E rb res nf zf (nx, L, st, w)) : Rs X cd E rb res nf zf (pc, L, .ref (r + 1) :: st, w) := fun P hP => hP.2.2.2.2.2.2.2.2.2.2.2.2.2.2.2.2.2.2.2.2.2.2.2.2.2.2.1 _ _ _ _ _ _ _ _ _ _ h0 h1 (h2 P hP)
theorem r_call {pc L st0 w ins nx k n c z r w1} (h0 : lk cd pc = some (ins, nx, k, n, c, z)) (h1 : isI ins = true) (h2 : Nat.blt k 900 = true) (h3 : Nat.ble n st0.length = true) (h4 : ((st0.drop n).map fun v => v.category).sum ≤ 8) (h5 : rcv w.1 c (st0.take n).reverse = true) (h6 : E k (st0.take n).reverse w (r, w1)) (h7 : Rs X cd E rb res nf zf (nx, L, r.toList ++ st0.drop n, w1)) : Rs X cd E rb res nf zf (pc, L, st0, w) := fun P hP => hP.2.2.2.2.2.2.2.2.2.2.2.2.2.2.2.2.2.2.2.2.2.2.2.2.2.2.2.1 _ _ _ _ _ _ _ _ _ _ _ _ h0 h1 h2 h3 h4 h5 h6 (h7 P hP)
theorem r_mm {pc L st w i nx k b c z x y v} (h0 : lk cd pc = some (.invokestatic i, nx, k, b, c, z)) (h1 : mmx k x y = some v) (h2 : (st.map fun v => v.category).sum ≤ 8) (h3 : Rs X cd E rb res nf zf (nx, L, .int v :: st, w)) : Rs X cd E rb res nf zf (pc, L, .int y :: .int x :: st, w) := fun P hP => hP.2.2.2.2.2.2.2.2.2.2.2.2.2.2.2.2.2.2.2.2.2.2.2.2.2.2.2.2.1 _ _ _ _ _ _ _ _ _ _ _ _ _ h0 h1 h2 (h3 P hP)
theorem r_sw {pc L st w ins nx a b c z x t} (h0 : lk cd pc = some (ins, nx, a, b, c, z)) (h1 : swT pc ins x = some t) (h2 : Rs X cd E rb res nf zf (t, L, st, w)) : Rs X cd E rb res nf zf (pc, L, .int x :: st, w) := fun P hP => hP.2.2.2.2.2.2.2.2.2.2.2.2.2.2.2.2.2.2.2.2.2.2.2.2.2.2.2.2.2.1 _ _ _ _ _ _ _ _ _ _ _ _ h0 h1 (h2 P hP)
theorem r_ret {pc L st w ins nx a b c z r} (h0 : lk cd pc = some (ins, nx, a, b, c, z)) (h1 : retv ins st = some r) (h2 : rbv rb r) (h3 : res = (r, w)) : Rs X cd E rb res nf zf (pc, L, st, w) := fun P hP => hP.2.2.2.2.2.2.2.2.2.2.2.2.2.2.2.2.2.2.2.2.2.2.2.2.2.2.2.2.2.2.1 _ _ _ _ _ _ _ _ _ _ _ h0 h1 h2 h3
theorem r_sub {pc L L' st w} (h0 : (∀ q ∈ L', q ∈ L)) (h1 : Rs X cd E rb res nf zf (pc, L', st, w)) : Rs X cd E rb res nf zf (pc, L, st, w) := fun P hP => hP.2.2.2.2.2.2.2.2.2.2.2.2.2.2.2.2.2.2.2.2.2.2.2.2.2.2.2.2.2.2.2 _ _ _ _ _ h0 (h1 P hP)
end RS
