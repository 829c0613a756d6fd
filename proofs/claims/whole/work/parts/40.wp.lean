/-! ===== weakest preconditions ===== -/
abbrev Mm : Type := Nat → Nat → Int32
abbrev Ml : Type := Nat → Nat → Int64
/-- the method comes to an end at which P holds of its answer and of the rows -/
def WP (d : Nat) (cd : Cd) (rb : Bool) (P : Option Value → Mm → Ml → Prop) (st : St) : Prop := ∃ r M' ML', P r M' ML' ∧ RR d cd rb (r, (SH, M', ML')) st
def EX (d k : Nat) (as : List Value) (M : Mm) (ML : Ml) (P : Option Value → Mm → Ml → Prop) : Prop := ∃ r M' ML', P r M' ML' ∧ Ex d k as (SH, M, ML) (r, (SH, M', ML'))
theorem WP_lift {d : Nat} {cd : Cd} {rb : Bool} {P : Option Value → Mm → Ml → Prop} {st st' : St} (f : ∀ res, RR d cd rb res st' → RR d cd rb res st) (h : WP d cd rb P st') : WP d cd rb P st := by
  obtain ⟨r, M', ML', hp, hr⟩ := h
  exact ⟨r, M', ML', hp, f _ hr⟩
theorem WP_mono {d : Nat} {cd : Cd} {rb : Bool} {P P2 : Option Value → Mm → Ml → Prop} {st : St} (h : WP d cd rb P st) (f : ∀ r M' ML', P r M' ML' → P2 r M' ML') : WP d cd rb P2 st := by
  obtain ⟨r, M', ML', hp, hr⟩ := h
  exact ⟨r, M', ML', f _ _ _ hp, hr⟩
theorem EX_mono {d k : Nat} {as : List Value} {M : Mm} {ML : Ml} {P P2 : Option Value → Mm → Ml → Prop} (h : EX d k as M ML P) (f : ∀ r M' ML', P r M' ML' → P2 r M' ML') : EX d k as M ML P2 := by
  obtain ⟨r, M', ML', hp, hr⟩ := h
  exact ⟨r, M', ML', f _ _ _ hp, hr⟩
theorem EX_in {d k : Nat} {as : List Value} {M : Mm} {ML : Ml} {P : Option Value → Mm → Ml → Prop} (t : MI) (h : MTl[k]? = some t) (h2 : Nat.ble (lg_sl as).length (i_L t) = true) (h4 : WP d (i_c t) (isB (i_r t)) P (0, lv_args 0 as, [], (SH, M, ML))) : EX (d + 1) k as M ML P := by
  obtain ⟨r, M', ML', hp, hr⟩ := h4
  exact ⟨r, M', ML', hp, Ex_in t h h2 ⟨Nat.le_refl _, Nat.le_refl _⟩ hr⟩
theorem EX_of {d k : Nat} {as : List Value} {M M' : Mm} {ML ML' : Ml} {r : Option Value} {P : Option Value → Mm → Ml → Prop} (h : Ex d k as (SH, M, ML) (r, (SH, M', ML'))) (hp : P r M' ML') : EX d k as M ML P := ⟨r, M', ML', hp, h⟩
theorem WP_of {d : Nat} {cd : Cd} {rb : Bool} {P : Option Value → Mm → Ml → Prop} {st : St} {r : Option Value} {M' : Mm} {ML' : Ml} (h : RR d cd rb (r, (SH, M', ML')) st) (hp : P r M' ML') : WP d cd rb P st := ⟨r, M', ML', hp, h⟩
section WQ
variable {d : Nat} {cd : Cd} {rb : Bool} {P : Option Value → Mm → Ml → Prop}
theorem w_ld {pc L st w ins nx a b c z v} (h0 : lk cd pc = some (ins, nx, a, b, c, z)) (h1 : ldv ins L = some v) (h2 : WP d cd rb P (nx, L, v :: st, w)) : WP d cd rb P (pc, L, st, w) := WP_lift (fun _ h9 => r_ld h0 h1 h9) h2
theorem w_cst {pc L st w ins nx a b c z v} (h0 : lk cd pc = some (ins, nx, a, b, c, z)) (h1 : cst ins = some v) (h2 : WP d cd rb P (nx, L, v :: st, w)) : WP d cd rb P (pc, L, st, w) := WP_lift (fun _ h9 => r_cst h0 h1 h9) h2
theorem w_ldc {pc L st w i nx a b c z} (h0 : (lk cd pc = some (.ldc i, nx, a, b, c, z) ∨ lk cd pc = some (.ldc_w i, nx, a, b, c, z))) (h1 : WP d cd rb P (nx, L, .int (Int32.ofInt z) :: st, w)) : WP d cd rb P (pc, L, st, w) := WP_lift (fun _ h9 => r_ldc h0 h9) h1
theorem w_ldl {pc L st w i nx a b c z} (h0 : lk cd pc = some (.ldc2_w i, nx, a, b, c, z)) (h1 : WP d cd rb P (nx, L, .long (Int64.ofInt z) :: st, w)) : WP d cd rb P (pc, L, st, w) := WP_lift (fun _ h9 => r_ldl h0 h9) h1
theorem w_sto {pc L L' st w ins nx a b c z v} (h0 : lk cd pc = some (ins, nx, a, b, c, z)) (h1 : stv ins v L = some L') (h2 : WP d cd rb P (nx, L', st, w)) : WP d cd rb P (pc, L, v :: st, w) := WP_lift (fun _ h9 => r_sto h0 h1 h9) h2
theorem w_bin {pc L st w ins nx a b c z x y v} (h0 : lk cd pc = some (ins, nx, a, b, c, z)) (h1 : bin ins x y = some v) (h2 : WP d cd rb P (nx, L, v :: st, w)) : WP d cd rb P (pc, L, y :: x :: st, w) := WP_lift (fun _ h9 => r_bin h0 h1 h9) h2
theorem w_div {pc L st w ins nx a b c z x y v} (h0 : lk cd pc = some (ins, nx, a, b, c, z)) (h1 : div ins x y = some v) (h2 : ¬ y = 0) (h3 : WP d cd rb P (nx, L, .int v :: st, w)) : WP d cd rb P (pc, L, .int y :: .int x :: st, w) := WP_lift (fun _ h9 => r_div h0 h1 h2 h9) h3
theorem w_una {pc L st w ins nx a b c z x v} (h0 : lk cd pc = some (ins, nx, a, b, c, z)) (h1 : una ins x = some v) (h2 : WP d cd rb P (nx, L, v :: st, w)) : WP d cd rb P (pc, L, x :: st, w) := WP_lift (fun _ h9 => r_una h0 h1 h9) h2
theorem w_nlj {pc L st w ins nx a b c z v t} (h0 : lk cd pc = some (ins, nx, a, b, c, z)) (h1 : nlj ins v = some t) (h2 : WP d cd rb P (bif t then a else nx, L, st, w)) : WP d cd rb P (pc, L, v :: st, w) := WP_lift (fun _ h9 => r_nlj h0 h1 h9) h2
theorem w_go {pc L st w o nx a b c z} (h0 : lk cd pc = some (.goto o, nx, a, b, c, z)) (h1 : WP d cd rb P (a, L, st, w)) : WP d cd rb P (pc, L, st, w) := WP_lift (fun _ h9 => r_go h0 h9) h1
theorem w_stk {pc L st st' w ins nx a b c z} (h0 : lk cd pc = some (ins, nx, a, b, c, z)) (h1 : stk ins st = some st') (h2 : WP d cd rb P (nx, L, st', w)) : WP d cd rb P (pc, L, st, w) := WP_lift (fun _ h9 => r_stk h0 h1 h9) h2
theorem w_alq {pc L st sh M ML i n fs nx a b c z j v} (h0 : lk cd pc = some (.aaload, nx, a, b, c, z)) (h1 : sh[i]? = some (3, n, fs)) (h2 : va_rf (fs.getD j.toNatClampNeg none).join = v) (h3 : vp_in j n) (h4 : WP d cd rb P (nx, L, v :: st, (sh, M, ML))) : WP d cd rb P (pc, L, .int j :: .ref (i + 1) :: st, (sh, M, ML)) := WP_lift (fun _ h9 => r_alq h0 h1 h2 h3 h9) h4
theorem w_mm {pc L st w i nx k b c z x y v} (h0 : lk cd pc = some (.invokestatic i, nx, k, b, c, z)) (h1 : mmx k x y = some v) (h2 : (st.map fun v => v.category).sum ≤ 8) (h3 : WP d cd rb P (nx, L, .int v :: st, w)) : WP d cd rb P (pc, L, .int y :: .int x :: st, w) := WP_lift (fun _ h9 => r_mm h0 h1 h2 h9) h3
theorem w_sw {pc L st w ins nx a b c z x t} (h0 : lk cd pc = some (ins, nx, a, b, c, z)) (h1 : swT pc ins x = some t) (h2 : WP d cd rb P (t, L, st, w)) : WP d cd rb P (pc, L, .int x :: st, w) := WP_lift (fun _ h9 => r_sw h0 h1 h9) h2
theorem w_geti {pc L st sh M ML a f n fs nx k b c z} (h0 : lk cd pc = some (.getfield f, nx, k, b, c, z)) (ha : Nat.blt 0 a = true) (h1 : sh[a - 1]? = some (b + 4, n, fs)) (h2 : Nat.blt k n = true) (h3 : fs[k]? = some none) (h4 : WP d cd rb P (nx, L, .int (M a k) :: st, (sh, M, ML))) : WP d cd rb P (pc, L, .ref a :: st, (sh, M, ML)) := WP_lift (fun _ h9 => q_geti h0 ha h1 h2 h3 h9) h4
theorem w_getr {pc L st sh M ML a f n fs nx k b c z r} (h0 : lk cd pc = some (.getfield f, nx, k, b, c, z)) (ha : Nat.blt 0 a = true) (h1 : sh[a - 1]? = some (b + 4, n, fs)) (h2 : Nat.blt k n = true) (h3 : fs[k]? = some (some (some r))) (h4 : WP d cd rb P (nx, L, .ref r :: st, (sh, M, ML))) : WP d cd rb P (pc, L, .ref a :: st, (sh, M, ML)) := WP_lift (fun _ h9 => q_getr h0 ha h1 h2 h3 h9) h4
theorem w_put {pc L st sh M ML a f n fs nx k b z v} (h0 : lk cd pc = some (.putfield f, nx, k, b, 0, z)) (ha : Nat.blt 0 a = true) (h1 : sh[a - 1]? = some (b + 4, n, fs)) (h2 : Nat.blt k n = true) (h3 : fs[k]? = some none) (hz : zf b k = false ∨ v = 0 ∨ v = 1) (h4 : WP d cd rb P (nx, L, st, (sh, up2 M a k v, ML))) : WP d cd rb P (pc, L, .int v :: .ref a :: st, (sh, M, ML)) := WP_lift (fun _ h9 => q_put h0 ha h1 h2 h3 hz h9) h4
theorem w_ai {pc L st sh M ML a n fs nx x b c z j} (h0 : lk cd pc = some (.iaload, nx, x, b, c, z)) (ha : Nat.blt 0 a = true) (h1 : sh[a - 1]? = some (0, n, fs)) (hv : vp_in j n) (h4 : WP d cd rb P (nx, L, .int (M a j.toNatClampNeg) :: st, (sh, M, ML))) : WP d cd rb P (pc, L, .int j :: .ref a :: st, (sh, M, ML)) := WP_lift (fun _ h9 => q_ai h0 ha h1 hv h9) h4
theorem w_ain {pc L st sh M ML a n fs nx x b c z j i} (h0 : lk cd pc = some (.iaload, nx, x, b, c, z)) (ha : Nat.blt 0 a = true) (h1 : sh[a - 1]? = some (0, n, fs)) (hj : j = nI i) (hi : i < n) (hn : Nat.blt n 2147483648 = true) (h4 : WP d cd rb P (nx, L, .int (M a i) :: st, (sh, M, ML))) : WP d cd rb P (pc, L, .int j :: .ref a :: st, (sh, M, ML)) := WP_lift (fun _ h9 => q_ain h0 ha h1 hj hi hn h9) h4
theorem w_al {pc L st sh M ML a n fs nx x b c z j} (h0 : lk cd pc = some (.laload, nx, x, b, c, z)) (ha : Nat.blt 0 a = true) (h1 : sh[a - 1]? = some (1, n, fs)) (hv : vp_in j n) (h4 : WP d cd rb P (nx, L, .long (ML a j.toNatClampNeg) :: st, (sh, M, ML))) : WP d cd rb P (pc, L, .int j :: .ref a :: st, (sh, M, ML)) := WP_lift (fun _ h9 => q_al h0 ha h1 hv h9) h4
theorem w_aln {pc L st sh M ML a n fs nx x b c z j i} (h0 : lk cd pc = some (.laload, nx, x, b, c, z)) (ha : Nat.blt 0 a = true) (h1 : sh[a - 1]? = some (1, n, fs)) (hj : j = nI i) (hi : i < n) (hn : Nat.blt n 2147483648 = true) (h4 : WP d cd rb P (nx, L, .long (ML a i) :: st, (sh, M, ML))) : WP d cd rb P (pc, L, .int j :: .ref a :: st, (sh, M, ML)) := WP_lift (fun _ h9 => q_aln h0 ha h1 hj hi hn h9) h4
theorem w_ab {pc L st sh M ML a n fs nx x b c z j} (h0 : lk cd pc = some (.baload, nx, x, b, c, z)) (ha : Nat.blt 0 a = true) (h1 : sh[a - 1]? = some (2, n, fs)) (hv : vp_in j n) (h4 : WP d cd rb P (nx, L, .int (M a j.toNatClampNeg) :: st, (sh, M, ML))) : WP d cd rb P (pc, L, .int j :: .ref a :: st, (sh, M, ML)) := WP_lift (fun _ h9 => q_ab h0 ha h1 hv h9) h4
theorem w_abn {pc L st sh M ML a n fs nx x b c z j i} (h0 : lk cd pc = some (.baload, nx, x, b, c, z)) (ha : Nat.blt 0 a = true) (h1 : sh[a - 1]? = some (2, n, fs)) (hj : j = nI i) (hi : i < n) (hn : Nat.blt n 2147483648 = true) (h4 : WP d cd rb P (nx, L, .int (M a i) :: st, (sh, M, ML))) : WP d cd rb P (pc, L, .int j :: .ref a :: st, (sh, M, ML)) := WP_lift (fun _ h9 => q_abn h0 ha h1 hj hi hn h9) h4
theorem w_si {pc L st sh M ML a n fs nx x b c z j v} (h0 : lk cd pc = some (.iastore, nx, x, b, c, z)) (ha : Nat.blt 0 a = true) (h1 : sh[a - 1]? = some (0, n, fs)) (hv : vp_in j n) (h4 : WP d cd rb P (nx, L, st, (sh, up2 M a j.toNatClampNeg v, ML))) : WP d cd rb P (pc, L, .int v :: .int j :: .ref a :: st, (sh, M, ML)) := WP_lift (fun _ h9 => q_si h0 ha h1 hv h9) h4
theorem w_sin {pc L st sh M ML a n fs nx x b c z j i v} (h0 : lk cd pc = some (.iastore, nx, x, b, c, z)) (ha : Nat.blt 0 a = true) (h1 : sh[a - 1]? = some (0, n, fs)) (hj : j = nI i) (hi : i < n) (hn : Nat.blt n 2147483648 = true) (h4 : WP d cd rb P (nx, L, st, (sh, up2 M a i v, ML))) : WP d cd rb P (pc, L, .int v :: .int j :: .ref a :: st, (sh, M, ML)) := WP_lift (fun _ h9 => q_sin h0 ha h1 hj hi hn h9) h4
theorem w_sl {pc L st sh M ML a n fs nx x b c z j v} (h0 : lk cd pc = some (.lastore, nx, x, b, c, z)) (ha : Nat.blt 0 a = true) (h1 : sh[a - 1]? = some (1, n, fs)) (hv : vp_in j n) (h4 : WP d cd rb P (nx, L, st, (sh, M, up2L ML a j.toNatClampNeg v))) : WP d cd rb P (pc, L, .long v :: .int j :: .ref a :: st, (sh, M, ML)) := WP_lift (fun _ h9 => q_sl h0 ha h1 hv h9) h4
theorem w_sln {pc L st sh M ML a n fs nx x b c z j i v} (h0 : lk cd pc = some (.lastore, nx, x, b, c, z)) (ha : Nat.blt 0 a = true) (h1 : sh[a - 1]? = some (1, n, fs)) (hj : j = nI i) (hi : i < n) (hn : Nat.blt n 2147483648 = true) (h4 : WP d cd rb P (nx, L, st, (sh, M, up2L ML a i v))) : WP d cd rb P (pc, L, .long v :: .int j :: .ref a :: st, (sh, M, ML)) := WP_lift (fun _ h9 => q_sln h0 ha h1 hj hi hn h9) h4
theorem w_sb {pc L st sh M ML a n fs nx x b c z j v} (h0 : lk cd pc = some (.bastore, nx, x, b, c, z)) (ha : Nat.blt 0 a = true) (h1 : sh[a - 1]? = some (2, n, fs)) (hv : vp_in j n) (h4 : WP d cd rb P (nx, L, st, (sh, up2 M a j.toNatClampNeg (vp_nar .boolean v), ML))) : WP d cd rb P (pc, L, .int v :: .int j :: .ref a :: st, (sh, M, ML)) := WP_lift (fun _ h9 => q_sb h0 ha h1 hv h9) h4
theorem w_sbn {pc L st sh M ML a n fs nx x b c z j i v} (h0 : lk cd pc = some (.bastore, nx, x, b, c, z)) (ha : Nat.blt 0 a = true) (h1 : sh[a - 1]? = some (2, n, fs)) (hj : j = nI i) (hi : i < n) (hn : Nat.blt n 2147483648 = true) (h4 : WP d cd rb P (nx, L, st, (sh, up2 M a i (vp_nar .boolean v), ML))) : WP d cd rb P (pc, L, .int v :: .int j :: .ref a :: st, (sh, M, ML)) := WP_lift (fun _ h9 => q_sbn h0 ha h1 hj hi hn h9) h4
theorem w_len {pc L st sh M ML a t n fs nx x b c z} (h0 : lk cd pc = some (.arraylength, nx, x, b, c, z)) (ha : Nat.blt 0 a = true) (h1 : sh[a - 1]? = some (t, n, fs)) (ht : Nat.blt t 4 = true) (h4 : WP d cd rb P (nx, L, .int (nI n) :: st, (sh, M, ML))) : WP d cd rb P (pc, L, .ref a :: st, (sh, M, ML)) := WP_lift (fun _ h9 => q_len h0 ha h1 ht h9) h4
theorem w_cjT {pc L st st' w ins nx a b c z q} (h0 : lk cd pc = some (ins, nx, a, b, c, z)) (h1 : cj ins st = some (q, st')) (hq : q) (h2 : WP d cd rb P (a, L, st', w)) : WP d cd rb P (pc, L, st, w) := WP_lift (fun _ h9 => q_cjT h0 h1 hq h9) h2
theorem w_cjF {pc L st st' w ins nx a b c z q} (h0 : lk cd pc = some (ins, nx, a, b, c, z)) (h1 : cj ins st = some (q, st')) (hq : ¬ q) (h2 : WP d cd rb P (nx, L, st', w)) : WP d cd rb P (pc, L, st, w) := WP_lift (fun _ h9 => q_cjF h0 h1 hq h9) h2
theorem w_call {pc L st0 w ins nx k n c z v w1 as rest} (h0 : lk cd pc = some (ins, nx, k, n, c, z)) (h1 : isI ins = true) (h2 : Nat.blt k 900 = true) (h3 : Nat.ble n st0.length = true) (ha : (st0.take n).reverse = as) (hr : st0.drop n = rest) (h4 : Nat.ble ((rest.map fun v => v.category).sum) 8 = true) (h5 : rcv w.1 c as = true) (h6 : Ex d k as w (some v, w1)) (h7 : WP d cd rb P (nx, L, v :: rest, w1)) : WP d cd rb P (pc, L, st0, w) := WP_lift (fun _ h9 => q_call h0 h1 h2 h3 ha hr h4 h5 h6 h9) h7
theorem w_callv {pc L st0 w ins nx k n c z w1 as rest} (h0 : lk cd pc = some (ins, nx, k, n, c, z)) (h1 : isI ins = true) (h2 : Nat.blt k 900 = true) (h3 : Nat.ble n st0.length = true) (ha : (st0.take n).reverse = as) (hr : st0.drop n = rest) (h4 : Nat.ble ((rest.map fun v => v.category).sum) 8 = true) (h5 : rcv w.1 c as = true) (h6 : Ex d k as w (none, w1)) (h7 : WP d cd rb P (nx, L, rest, w1)) : WP d cd rb P (pc, L, st0, w) := WP_lift (fun _ h9 => q_callv h0 h1 h2 h3 ha hr h4 h5 h6 h9) h7
theorem w_inc {pc L st w i n nx a b c z x y} (h0 : lk cd pc = some (.iinc i n, nx, a, b, c, z)) (h1 : lkL L i = some (.int x)) (hy : x + Int32.ofInt n = y) (h2 : WP d cd rb P (nx, put1 i (.int y) L, st, w)) : WP d cd rb P (pc, L, st, w) := WP_lift (fun _ h9 => q_inc h0 h1 hy h9) h2
theorem w_keep {pc L L' st w} (ks : List Nat) (h : L.filter (fun q => ks.elem q.1) = L') (h2 : WP d cd rb P (pc, L', st, w)) : WP d cd rb P (pc, L, st, w) := WP_lift (fun _ h9 => q_keep ks h h9) h2
theorem w_norm {pc L L' st w} (h : L = L') (h2 : WP d cd rb P (pc, L', st, w)) : WP d cd rb P (pc, L, st, w) := WP_lift (fun _ h9 => q_norm h h9) h2
theorem w_cj {pc L st st' w ins nx a b c z q} (h0 : lk cd pc = some (ins, nx, a, b, c, z)) (h1 : cj ins st = some (q, st')) (h2 : q → WP d cd rb P (a, L, st', w)) (h3 : ¬ q → WP d cd rb P (nx, L, st', w)) : WP d cd rb P (pc, L, st, w) := by
  by_cases hq : q
  · exact w_cjT h0 h1 hq (h2 hq)
  · exact w_cjF h0 h1 hq (h3 hq)
theorem w_ret {pc L st M ML ins nx a b c z r} (h0 : lk cd pc = some (ins, nx, a, b, c, z)) (h1 : retv ins st = some r) (h2 : rbv rb r) (h3 : P r M ML) : WP d cd rb P (pc, L, st, (SH, M, ML)) := ⟨r, M, ML, h3, r_ret h0 h1 h2 rfl⟩
theorem w_cife {pc L st0 w ins nx k n c z w1 as rest B off nx2 t b2 c2 z2} (h0 : lk cd pc = some (ins, nx, k, n, c, z)) (h1 : isI ins = true) (h2 : Nat.blt k 900 = true) (h3 : Nat.ble n st0.length = true) (ha : (st0.take n).reverse = as) (hr : st0.drop n = rest) (h4 : Nat.ble ((rest.map fun v => v.category).sum) 8 = true) (h5 : rcv w.1 c as = true) (h6 : Ex d k as w (some (.int (b2i B)), w1)) (h7 : lk cd nx = some (.ifCond .eq off, nx2, t, b2, c2, z2)) (hF : B = false → WP d cd rb P (t, L, rest, w1)) (hT : B = true → WP d cd rb P (nx2, L, rest, w1)) : WP d cd rb P (pc, L, st0, w) := by
  refine w_call h0 h1 h2 h3 ha hr h4 h5 h6 ?_
  cases B with
  | true => exact w_cjF h7 rfl (by decide) (hT rfl)
  | false => exact w_cjT h7 rfl (by decide) (hF rfl)
theorem w_cifn {pc L st0 w ins nx k n c z w1 as rest B off nx2 t b2 c2 z2} (h0 : lk cd pc = some (ins, nx, k, n, c, z)) (h1 : isI ins = true) (h2 : Nat.blt k 900 = true) (h3 : Nat.ble n st0.length = true) (ha : (st0.take n).reverse = as) (hr : st0.drop n = rest) (h4 : Nat.ble ((rest.map fun v => v.category).sum) 8 = true) (h5 : rcv w.1 c as = true) (h6 : Ex d k as w (some (.int (b2i B)), w1)) (h7 : lk cd nx = some (.ifCond .ne off, nx2, t, b2, c2, z2)) (hT : B = true → WP d cd rb P (t, L, rest, w1)) (hF : B = false → WP d cd rb P (nx2, L, rest, w1)) : WP d cd rb P (pc, L, st0, w) := by
  refine w_call h0 h1 h2 h3 ha hr h4 h5 h6 ?_
  cases B with
  | true => exact w_cjT h7 rfl (by decide) (hT rfl)
  | false => exact w_cjF h7 rfl (by decide) (hF rfl)
/-- a field whose value is known -/
theorem w_getv {pc L st sh M ML a f n fs nx k b c z v} (h0 : lk cd pc = some (.getfield f, nx, k, b, c, z)) (ha : Nat.blt 0 a = true) (h1 : sh[a - 1]? = some (b + 4, n, fs)) (h2 : Nat.blt k n = true) (h3 : fs[k]? = some none) (hv : M a k = v) (h4 : WP d cd rb P (nx, L, .int v :: st, (sh, M, ML))) : WP d cd rb P (pc, L, .ref a :: st, (sh, M, ML)) := by
  subst hv
  exact w_geti h0 ha h1 h2 h3 h4
/-- an element whose value is known -/
theorem w_aiv {pc L st sh M ML a n fs nx x b c z j i v} (h0 : lk cd pc = some (.iaload, nx, x, b, c, z)) (ha : Nat.blt 0 a = true) (h1 : sh[a - 1]? = some (0, n, fs)) (hj : j = nI i) (hi : i < n) (hn : Nat.blt n 2147483648 = true) (hv : M a i = v) (h4 : WP d cd rb P (nx, L, .int v :: st, (sh, M, ML))) : WP d cd rb P (pc, L, .int j :: .ref a :: st, (sh, M, ML)) := by
  subst hv
  exact w_ain h0 ha h1 hj hi hn h4
theorem w_abv {pc L st sh M ML a n fs nx x b c z j i v} (h0 : lk cd pc = some (.baload, nx, x, b, c, z)) (ha : Nat.blt 0 a = true) (h1 : sh[a - 1]? = some (2, n, fs)) (hj : j = nI i) (hi : i < n) (hn : Nat.blt n 2147483648 = true) (hv : M a i = v) (h4 : WP d cd rb P (nx, L, .int v :: st, (sh, M, ML))) : WP d cd rb P (pc, L, .int j :: .ref a :: st, (sh, M, ML)) := by
  subst hv
  exact w_abn h0 ha h1 hj hi hn h4
theorem w_alv {pc L st sh M ML a n fs nx x b c z j i v} (h0 : lk cd pc = some (.laload, nx, x, b, c, z)) (ha : Nat.blt 0 a = true) (h1 : sh[a - 1]? = some (1, n, fs)) (hj : j = nI i) (hi : i < n) (hn : Nat.blt n 2147483648 = true) (hv : ML a i = v) (h4 : WP d cd rb P (nx, L, .long v :: st, (sh, M, ML))) : WP d cd rb P (pc, L, .int j :: .ref a :: st, (sh, M, ML)) := by
  subst hv
  exact w_aln h0 ha h1 hj hi hn h4
end WQ
theorem WP_v {d : Nat} {cd : Cd} {rb : Bool} {P : Option Value → Mm → Ml → Prop} {pc : Nat} {L : List (Nat × Value)} {st : List Value} {w : Wd} {x y : Int32} (h : x = y) (h2 : WP d cd rb P (pc, L, .int y :: st, w)) : WP d cd rb P (pc, L, .int x :: st, w) := h ▸ h2
theorem WP_vl {d : Nat} {cd : Cd} {rb : Bool} {P : Option Value → Mm → Ml → Prop} {pc : Nat} {L : List (Nat × Value)} {st : List Value} {w : Wd} {x y : Int64} (h : x = y) (h2 : WP d cd rb P (pc, L, .long y :: st, w)) : WP d cd rb P (pc, L, .long x :: st, w) := h ▸ h2
theorem WP_m {d : Nat} {cd : Cd} {rb : Bool} {P : Option Value → Mm → Ml → Prop} {pc : Nat} {L : List (Nat × Value)} {st : List Value} {sh : List SC} {M M' : Mm} {ML : Ml} (h : M = M') (h2 : WP d cd rb P (pc, L, st, (sh, M', ML))) : WP d cd rb P (pc, L, st, (sh, M, ML)) := h ▸ h2
theorem ok_at_v (d : Nat) (M : Mm) (ML : Ml) {i v : Int32} {a n k : Nat} (ha : Nat.blt 0 a = true) (h : SH[a - 1]? = some (0, n, [])) (hn : Nat.blt n 2147483648 = true) (hi : i = nI k) (hk : k < n) (hv : M a k = v) : Ex (d + 1) k_X11_at [.ref a, .int i] (SH, M, ML) (some (.int v), (SH, M, ML)) := by
  subst hv
  exact ok_at_n d M ML i ha h hn hi hk
theorem ok_at_o (d : Nat) (M : Mm) (ML : Ml) {i : Int32} {a n : Nat} (ha : Nat.blt 0 a = true) (h : SH[a - 1]? = some (0, n, [])) (hn : Nat.blt n 2147483648 = true) (hi : ¬ (0 ≤ i ∧ i < nI n)) : Ex (d + 1) k_X11_at [.ref a, .int i] (SH, M, ML) (some (.int 0), (SH, M, ML)) := by
  have := ok_X11_at d M ML i ha h hn
  rw [rdA, if_neg hi] at this
  exact this
theorem up2_e {M : Mm} {a k : Nat} {v : Int32} : up2 M a k v a k = v := by rw [up2_at, if_pos ⟨rfl, rfl⟩]
theorem up2_k {M : Mm} {a k y : Nat} {v : Int32} (h : y ≠ k) : up2 M a k v a y = M a y := by rw [up2_at, if_neg (fun q => h q.2)]
theorem up2_row {M : Mm} {a k x : Nat} {v : Int32} (h : x ≠ a) : up2 M a k v x = M x := funext fun y => by rw [up2_at, if_neg (fun q => h q.1)]
theorem up2L_e {M : Ml} {a k : Nat} {v : Int64} : up2L M a k v a k = v := by rw [up2L_at, if_pos ⟨rfl, rfl⟩]
theorem up2L_k {M : Ml} {a k y : Nat} {v : Int64} (h : y ≠ k) : up2L M a k v a y = M a y := by rw [up2L_at, if_neg (fun q => h q.2)]
theorem up2L_row {M : Ml} {a k x : Nat} {v : Int64} (h : x ≠ a) : up2L M a k v x = M x := funext fun y => by rw [up2L_at, if_neg (fun q => h q.1)]
theorem nI_e0 {n : Nat} (h : n < 2 ^ 31) : (nI n = 0 ↔ n = 0) := ⟨fun q => neq (b := 0) h (by decide) q, fun q => by rw [q]; rfl⟩
