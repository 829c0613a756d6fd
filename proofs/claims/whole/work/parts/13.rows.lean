/-! ===== the shape of all cells once both objects are made ===== -/
def SH : List SC := [
  (15, 16, [some (some 2), some (some 7), some (some 12), some (some 15), some (some 18), some (some 24), some (some 31), some (some 34), some (some 39), some (some 44), some (some 47), some (some 49), some (some 50), some (some 55), some (some 58), none]),
  (8, 7, [none, none, none, some (some 3), some (some 4), some (some 5), some (some 6)]),
  (0, 10, []),
  (0, 10, []),
  (0, 7, []),
  (0, 7, []),
  (8, 7, [none, none, none, some (some 8), some (some 9), some (some 10), some (some 11)]),
  (0, 10, []),
  (0, 10, []),
  (0, 7, []),
  (0, 7, []),
  (5, 3, [none, some (some 13), some (some 14)]),
  (0, 24, []),
  (0, 24, []),
  (6, 3, [none, some (some 16), some (some 17)]),
  (0, 4, []),
  (0, 4, []),
  (10, 6, [none, some (some 19), some (some 20), some (some 21), some (some 22), some (some 23)]),
  (0, 10, []),
  (0, 10, []),
  (0, 10, []),
  (0, 7, []),
  (0, 7, []),
  (4, 9, [none, none, none, some (some 25), some (some 26), some (some 27), some (some 28), some (some 29), some (some 30)]),
  (0, 1024, []),
  (0, 1024, []),
  (0, 1024, []),
  (0, 1024, []),
  (0, 1024, []),
  (1, 1024, []),
  (9, 3, [none, some (some 32), some (some 33)]),
  (0, 1024, []),
  (0, 77, []),
  (13, 5, [some (some 35), some (some 36), none, some (some 37), some (some 38)]),
  (0, 1024, []),
  (0, 1024, []),
  (1, 1024, []),
  (1, 1024, []),
  (14, 4, [some (some 40), some (some 41), some (some 42), some (some 43)]),
  (0, 7, []),
  (0, 7, []),
  (0, 7, []),
  (0, 128, []),
  (11, 5, [none, none, none, some (some 45), some (some 46)]),
  (0, 40, []),
  (0, 7, []),
  (12, 2, [none, some (some 48)]),
  (0, 40, []),
  (3, 6, [some (some 61), some (some 63), some (some 65), some (some 67), some (some 69), some (some 71)]),
  (8, 7, [none, none, none, some (some 51), some (some 52), some (some 53), some (some 54)]),
  (0, 10, []),
  (0, 10, []),
  (0, 7, []),
  (0, 7, []),
  (5, 3, [none, some (some 56), some (some 57)]),
  (0, 24, []),
  (0, 24, []),
  (6, 3, [none, some (some 59), some (some 60)]),
  (0, 4, []),
  (0, 4, []),
  (7, 4, [none, none, none, some (some 62)]),
  (0, 20, []),
  (7, 4, [none, none, none, some (some 64)]),
  (0, 20, []),
  (7, 4, [none, none, none, some (some 66)]),
  (0, 20, []),
  (7, 4, [none, none, none, some (some 68)]),
  (0, 20, []),
  (7, 4, [none, none, none, some (some 70)]),
  (0, 20, []),
  (7, 4, [none, none, none, some (some 72)]),
  (0, 20, []),
  (16, 41, [none, none, some (some 74), some (some 75), none, none, some (some 76), some (some 77), none, some (some 78), some (some 79), some (some 80), none, some (some 81), some (some 82), some (some 83), some (some 84), some (some 85), some (some 86), none, some (some 87), none, none, some (some 88), some (some 89), some (some 90), some (some 91), some (some 92), some (some 93), some (some 94), some (some 95), some (some 96), some (some 97), some (some 98), none, none, none, some (some 99), some (some 100), none, some (some 101)]),
  (0, 10, []),
  (0, 10, []),
  (0, 24, []),
  (0, 24, []),
  (0, 4, []),
  (0, 4, []),
  (0, 40, []),
  (0, 6, []),
  (0, 6, []),
  (0, 6, []),
  (0, 120, []),
  (2, 10, []),
  (0, 7, []),
  (0, 7, []),
  (0, 1024, []),
  (0, 1024, []),
  (0, 1024, []),
  (1, 1024, []),
  (0, 1024, []),
  (0, 1024, []),
  (1, 1024, []),
  (1, 1024, []),
  (0, 128, []),
  (0, 7, []),
  (0, 40, []),
  (0, 10, []),
  (0, 10, []),
  (0, 81, [])]
section QR
variable {X : Scr} {cd : Cd} {E : Cal} {rb : Bool} {res : Rt} {nf : Nat → List (Option (Option Nat))} {zf : Nat → Nat → Bool}
theorem pred1 {a : Nat} (h : Nat.blt 0 a = true) : a - 1 + 1 = a := by have := Nat.le_of_ble_eq_true h; omega

theorem q_geti {pc L st sh M ML a f n fs nx k b c z} (h0 : lk cd pc = some (.getfield f, nx, k, b, c, z)) (ha : Nat.blt 0 a = true) (h1 : sh[a - 1]? = some (b + 4, n, fs)) (h2 : Nat.blt k n = true) (h3 : fs[k]? = some none) (h4 : Rs X cd E rb res nf zf (nx, L, .int (M a k) :: st, (sh, M, ML))) : Rs X cd E rb res nf zf (pc, L, .ref a :: st, (sh, M, ML)) := by
  have ha' := pred1 ha
  generalize hm : a - 1 = a1 at *
  subst ha'
  exact r_get h0 h1 h2 h3 h4
theorem q_getr {pc L st sh M ML a f n fs nx k b c z r} (h0 : lk cd pc = some (.getfield f, nx, k, b, c, z)) (ha : Nat.blt 0 a = true) (h1 : sh[a - 1]? = some (b + 4, n, fs)) (h2 : Nat.blt k n = true) (h3 : fs[k]? = some (some (some r))) (h4 : Rs X cd E rb res nf zf (nx, L, .ref r :: st, (sh, M, ML))) : Rs X cd E rb res nf zf (pc, L, .ref a :: st, (sh, M, ML)) := by
  have ha' := pred1 ha
  generalize hm : a - 1 = a1 at *
  subst ha'
  exact r_get h0 h1 h2 h3 h4
theorem q_put {pc L st sh M ML a f n fs nx k b z v} (h0 : lk cd pc = some (.putfield f, nx, k, b, 0, z)) (ha : Nat.blt 0 a = true) (h1 : sh[a - 1]? = some (b + 4, n, fs)) (h2 : Nat.blt k n = true) (h3 : fs[k]? = some none) (hz : zf b k = false ∨ v = 0 ∨ v = 1) (h4 : Rs X cd E rb res nf zf (nx, L, st, (sh, up2 M a k v, ML))) : Rs X cd E rb res nf zf (pc, L, .int v :: .ref a :: st, (sh, M, ML)) := by
  have ha' := pred1 ha
  generalize hm : a - 1 = a1 at *
  subst ha'
  exact r_put h0 h1 h2 h3 hz h4
theorem q_ai {pc L st sh M ML a n fs nx x b c z j} (h0 : lk cd pc = some (.iaload, nx, x, b, c, z)) (ha : Nat.blt 0 a = true) (h1 : sh[a - 1]? = some (0, n, fs)) (hv : vp_in j n) (h4 : Rs X cd E rb res nf zf (nx, L, .int (M a j.toNatClampNeg) :: st, (sh, M, ML))) : Rs X cd E rb res nf zf (pc, L, .int j :: .ref a :: st, (sh, M, ML)) := by
  have ha' := pred1 ha
  generalize hm : a - 1 = a1 at *
  subst ha'
  exact r_ald h0 h1 rfl hv h4
theorem q_ain {pc L st sh M ML a n fs nx x b c z j i} (h0 : lk cd pc = some (.iaload, nx, x, b, c, z)) (ha : Nat.blt 0 a = true) (h1 : sh[a - 1]? = some (0, n, fs)) (hj : j = nI i) (hi : i < n) (hn : Nat.blt n 2147483648 = true) (h4 : Rs X cd E rb res nf zf (nx, L, .int (M a i) :: st, (sh, M, ML))) : Rs X cd E rb res nf zf (pc, L, .int j :: .ref a :: st, (sh, M, ML)) := by
  subst hj
  have hn' := blt_lt hn
  refine q_ai h0 ha h1 (vp_in_nI hi hn') ?_
  rw [nI_clamp (by omega)]
  exact h4
theorem q_al {pc L st sh M ML a n fs nx x b c z j} (h0 : lk cd pc = some (.laload, nx, x, b, c, z)) (ha : Nat.blt 0 a = true) (h1 : sh[a - 1]? = some (1, n, fs)) (hv : vp_in j n) (h4 : Rs X cd E rb res nf zf (nx, L, .long (ML a j.toNatClampNeg) :: st, (sh, M, ML))) : Rs X cd E rb res nf zf (pc, L, .int j :: .ref a :: st, (sh, M, ML)) := by
  have ha' := pred1 ha
  generalize hm : a - 1 = a1 at *
  subst ha'
  exact r_ald h0 h1 rfl hv h4
theorem q_aln {pc L st sh M ML a n fs nx x b c z j i} (h0 : lk cd pc = some (.laload, nx, x, b, c, z)) (ha : Nat.blt 0 a = true) (h1 : sh[a - 1]? = some (1, n, fs)) (hj : j = nI i) (hi : i < n) (hn : Nat.blt n 2147483648 = true) (h4 : Rs X cd E rb res nf zf (nx, L, .long (ML a i) :: st, (sh, M, ML))) : Rs X cd E rb res nf zf (pc, L, .int j :: .ref a :: st, (sh, M, ML)) := by
  subst hj
  have hn' := blt_lt hn
  refine q_al h0 ha h1 (vp_in_nI hi hn') ?_
  rw [nI_clamp (by omega)]
  exact h4
theorem q_ab {pc L st sh M ML a n fs nx x b c z j} (h0 : lk cd pc = some (.baload, nx, x, b, c, z)) (ha : Nat.blt 0 a = true) (h1 : sh[a - 1]? = some (2, n, fs)) (hv : vp_in j n) (h4 : Rs X cd E rb res nf zf (nx, L, .int (M a j.toNatClampNeg) :: st, (sh, M, ML))) : Rs X cd E rb res nf zf (pc, L, .int j :: .ref a :: st, (sh, M, ML)) := by
  have ha' := pred1 ha
  generalize hm : a - 1 = a1 at *
  subst ha'
  exact r_ald h0 h1 rfl hv h4
theorem q_abn {pc L st sh M ML a n fs nx x b c z j i} (h0 : lk cd pc = some (.baload, nx, x, b, c, z)) (ha : Nat.blt 0 a = true) (h1 : sh[a - 1]? = some (2, n, fs)) (hj : j = nI i) (hi : i < n) (hn : Nat.blt n 2147483648 = true) (h4 : Rs X cd E rb res nf zf (nx, L, .int (M a i) :: st, (sh, M, ML))) : Rs X cd E rb res nf zf (pc, L, .int j :: .ref a :: st, (sh, M, ML)) := by
  subst hj
  have hn' := blt_lt hn
  refine q_ab h0 ha h1 (vp_in_nI hi hn') ?_
  rw [nI_clamp (by omega)]
  exact h4
theorem q_si {pc L st sh M ML a n fs nx x b c z j v} (h0 : lk cd pc = some (.iastore, nx, x, b, c, z)) (ha : Nat.blt 0 a = true) (h1 : sh[a - 1]? = some (0, n, fs)) (hv : vp_in j n) (h4 : Rs X cd E rb res nf zf (nx, L, st, (sh, up2 M a j.toNatClampNeg v, ML))) : Rs X cd E rb res nf zf (pc, L, .int v :: .int j :: .ref a :: st, (sh, M, ML)) := by
  have ha' := pred1 ha
  generalize hm : a - 1 = a1 at *
  subst ha'
  exact r_ast h0 h1 rfl hv h4
theorem q_sin {pc L st sh M ML a n fs nx x b c z j i v} (h0 : lk cd pc = some (.iastore, nx, x, b, c, z)) (ha : Nat.blt 0 a = true) (h1 : sh[a - 1]? = some (0, n, fs)) (hj : j = nI i) (hi : i < n) (hn : Nat.blt n 2147483648 = true) (h4 : Rs X cd E rb res nf zf (nx, L, st, (sh, up2 M a i v, ML))) : Rs X cd E rb res nf zf (pc, L, .int v :: .int j :: .ref a :: st, (sh, M, ML)) := by
  subst hj
  have hn' := blt_lt hn
  refine q_si h0 ha h1 (vp_in_nI hi hn') ?_
  rw [nI_clamp (by omega)]
  exact h4
theorem q_sl {pc L st sh M ML a n fs nx x b c z j v} (h0 : lk cd pc = some (.lastore, nx, x, b, c, z)) (ha : Nat.blt 0 a = true) (h1 : sh[a - 1]? = some (1, n, fs)) (hv : vp_in j n) (h4 : Rs X cd E rb res nf zf (nx, L, st, (sh, M, up2L ML a j.toNatClampNeg v))) : Rs X cd E rb res nf zf (pc, L, .long v :: .int j :: .ref a :: st, (sh, M, ML)) := by
  have ha' := pred1 ha
  generalize hm : a - 1 = a1 at *
  subst ha'
  exact r_ast h0 h1 rfl hv h4
theorem q_sln {pc L st sh M ML a n fs nx x b c z j i v} (h0 : lk cd pc = some (.lastore, nx, x, b, c, z)) (ha : Nat.blt 0 a = true) (h1 : sh[a - 1]? = some (1, n, fs)) (hj : j = nI i) (hi : i < n) (hn : Nat.blt n 2147483648 = true) (h4 : Rs X cd E rb res nf zf (nx, L, st, (sh, M, up2L ML a i v))) : Rs X cd E rb res nf zf (pc, L, .long v :: .int j :: .ref a :: st, (sh, M, ML)) := by
  subst hj
  have hn' := blt_lt hn
  refine q_sl h0 ha h1 (vp_in_nI hi hn') ?_
  rw [nI_clamp (by omega)]
  exact h4
theorem q_sb {pc L st sh M ML a n fs nx x b c z j v} (h0 : lk cd pc = some (.bastore, nx, x, b, c, z)) (ha : Nat.blt 0 a = true) (h1 : sh[a - 1]? = some (2, n, fs)) (hv : vp_in j n) (h4 : Rs X cd E rb res nf zf (nx, L, st, (sh, up2 M a j.toNatClampNeg (vp_nar .boolean v), ML))) : Rs X cd E rb res nf zf (pc, L, .int v :: .int j :: .ref a :: st, (sh, M, ML)) := by
  have ha' := pred1 ha
  generalize hm : a - 1 = a1 at *
  subst ha'
  exact r_ast h0 h1 rfl hv h4
theorem q_sbn {pc L st sh M ML a n fs nx x b c z j i v} (h0 : lk cd pc = some (.bastore, nx, x, b, c, z)) (ha : Nat.blt 0 a = true) (h1 : sh[a - 1]? = some (2, n, fs)) (hj : j = nI i) (hi : i < n) (hn : Nat.blt n 2147483648 = true) (h4 : Rs X cd E rb res nf zf (nx, L, st, (sh, up2 M a i (vp_nar .boolean v), ML))) : Rs X cd E rb res nf zf (pc, L, .int v :: .int j :: .ref a :: st, (sh, M, ML)) := by
  subst hj
  have hn' := blt_lt hn
  refine q_sb h0 ha h1 (vp_in_nI hi hn') ?_
  rw [nI_clamp (by omega)]
  exact h4
theorem q_len {pc L st sh M ML a t n fs nx x b c z} (h0 : lk cd pc = some (.arraylength, nx, x, b, c, z)) (ha : Nat.blt 0 a = true) (h1 : sh[a - 1]? = some (t, n, fs)) (ht : Nat.blt t 4 = true) (h4 : Rs X cd E rb res nf zf (nx, L, .int (nI n) :: st, (sh, M, ML))) : Rs X cd E rb res nf zf (pc, L, .ref a :: st, (sh, M, ML)) := by
  have ha' := pred1 ha
  generalize hm : a - 1 = a1 at *
  subst ha'
  exact r_len h0 h1 ht h4
theorem q_cjT {pc L st st' w ins nx a b c z q} (h0 : lk cd pc = some (ins, nx, a, b, c, z)) (h1 : cj ins st = some (q, st')) (hq : q) (h2 : Rs X cd E rb res nf zf (a, L, st', w)) : Rs X cd E rb res nf zf (pc, L, st, w) := r_cj h0 h1 (fun _ => h2) (fun h => absurd hq h)
theorem q_cjF {pc L st st' w ins nx a b c z q} (h0 : lk cd pc = some (ins, nx, a, b, c, z)) (h1 : cj ins st = some (q, st')) (hq : ¬ q) (h2 : Rs X cd E rb res nf zf (nx, L, st', w)) : Rs X cd E rb res nf zf (pc, L, st, w) := r_cj h0 h1 (fun h => absurd h hq) (fun _ => h2)
theorem q_call {pc L st0 w ins nx k n c z v w1 as rest} (h0 : lk cd pc = some (ins, nx, k, n, c, z)) (h1 : isI ins = true) (h2 : Nat.blt k 900 = true) (h3 : Nat.ble n st0.length = true) (ha : (st0.take n).reverse = as) (hr : st0.drop n = rest) (h4 : Nat.ble ((rest.map fun v => v.category).sum) 8 = true) (h5 : rcv w.1 c as = true) (h6 : E k as w (some v, w1)) (h7 : Rs X cd E rb res nf zf (nx, L, v :: rest, w1)) : Rs X cd E rb res nf zf (pc, L, st0, w) := by
  subst ha; subst hr
  exact r_call h0 h1 h2 h3 (Nat.le_of_ble_eq_true h4) h5 h6 h7
theorem q_callv {pc L st0 w ins nx k n c z w1 as rest} (h0 : lk cd pc = some (ins, nx, k, n, c, z)) (h1 : isI ins = true) (h2 : Nat.blt k 900 = true) (h3 : Nat.ble n st0.length = true) (ha : (st0.take n).reverse = as) (hr : st0.drop n = rest) (h4 : Nat.ble ((rest.map fun v => v.category).sum) 8 = true) (h5 : rcv w.1 c as = true) (h6 : E k as w (none, w1)) (h7 : Rs X cd E rb res nf zf (nx, L, rest, w1)) : Rs X cd E rb res nf zf (pc, L, st0, w) := by
  subst ha; subst hr
  exact r_call h0 h1 h2 h3 (Nat.le_of_ble_eq_true h4) h5 h6 h7

/-- a boolean as an int -/
def b2i (b : Bool) : Int32 := if b then 1 else 0
theorem b2i_or (b : Bool) : b2i b = 0 ∨ b2i b = 1 := by cases b <;> simp [b2i]
theorem rb0 : rbv true (some (.int 0)) := Or.inl rfl
theorem rb1 : rbv true (some (.int 1)) := Or.inr rfl
theorem rbB (b : Bool) : rbv true (some (.int (b2i b))) := b2i_or b
theorem q_cife {pc L st0 w ins nx k n c z w1 as rest B off nx2 t b2 c2 z2} (h0 : lk cd pc = some (ins, nx, k, n, c, z)) (h1 : isI ins = true) (h2 : Nat.blt k 900 = true) (h3 : Nat.ble n st0.length = true) (ha : (st0.take n).reverse = as) (hr : st0.drop n = rest) (h4 : Nat.ble ((rest.map fun v => v.category).sum) 8 = true) (h5 : rcv w.1 c as = true) (h6 : E k as w (some (.int (b2i B)), w1)) (h7 : lk cd nx = some (.ifCond .eq off, nx2, t, b2, c2, z2)) (hF : B = false → Rs X cd E rb res nf zf (t, L, rest, w1)) (hT : B = true → Rs X cd E rb res nf zf (nx2, L, rest, w1)) : Rs X cd E rb res nf zf (pc, L, st0, w) := by
  refine q_call h0 h1 h2 h3 ha hr h4 h5 h6 ?_
  cases B with
  | true => exact q_cjF h7 rfl (by decide) (hT rfl)
  | false => exact q_cjT h7 rfl (by decide) (hF rfl)
theorem q_cifn {pc L st0 w ins nx k n c z w1 as rest B off nx2 t b2 c2 z2} (h0 : lk cd pc = some (ins, nx, k, n, c, z)) (h1 : isI ins = true) (h2 : Nat.blt k 900 = true) (h3 : Nat.ble n st0.length = true) (ha : (st0.take n).reverse = as) (hr : st0.drop n = rest) (h4 : Nat.ble ((rest.map fun v => v.category).sum) 8 = true) (h5 : rcv w.1 c as = true) (h6 : E k as w (some (.int (b2i B)), w1)) (h7 : lk cd nx = some (.ifCond .ne off, nx2, t, b2, c2, z2)) (hT : B = true → Rs X cd E rb res nf zf (t, L, rest, w1)) (hF : B = false → Rs X cd E rb res nf zf (nx2, L, rest, w1)) : Rs X cd E rb res nf zf (pc, L, st0, w) := by
  refine q_call h0 h1 h2 h3 ha hr h4 h5 h6 ?_
  cases B with
  | true => exact q_cjT h7 rfl (by decide) (hT rfl)
  | false => exact q_cjF h7 rfl (by decide) (hF rfl)
/-- a step of a counter -/
theorem q_inc {pc L st w i n nx a b c z x y} (h0 : lk cd pc = some (.iinc i n, nx, a, b, c, z)) (h1 : lkL L i = some (.int x)) (hy : x + Int32.ofInt n = y) (h2 : Rs X cd E rb res nf zf (nx, put1 i (.int y) L, st, w)) : Rs X cd E rb res nf zf (pc, L, st, w) := by
  subst hy
  exact r_inc h0 h1 h2
theorem q_keep {pc L L' st w} (ks : List Nat) (h : L.filter (fun q => ks.elem q.1) = L') (h2 : Rs X cd E rb res nf zf (pc, L', st, w)) : Rs X cd E rb res nf zf (pc, L, st, w) := by
  subst h
  exact r_sub (fun q hq => (List.mem_filter.mp hq).1) h2
theorem q_norm {pc L L' st w} (h : L = L') (h2 : Rs X cd E rb res nf zf (pc, L', st, w)) : Rs X cd E rb res nf zf (pc, L, st, w) := by
  subst h
  exact h2

end QR
abbrev RR (d : Nat) (cd : Cd) (rb : Bool) (res : Rt) (st : St) : Prop := Rs X0 cd (Ex d) rb res nf zf st
theorem Ex_in {d k : Nat} {as : List Value} {w : Wd} {res : Rt} (t : MI) (h : MTl[k]? = some t) (h2 : Nat.ble (lg_sl as).length (i_L t) = true) (h3 : w.1.length ≤ res.2.1.length ∧ sl w ≤ sl res.2) (h4 : RR d (i_c t) (isB (i_r t)) res (0, lv_args 0 as, [], w)) : Ex (d + 1) k as w res := ⟨t, h, h2, h3, h4⟩
theorem b2t {p : Prop} [Decidable p] (h : p) : b2i (decide p) = 1 := by simp [b2i, h]
theorem b2f {p : Prop} [Decidable p] (h : ¬ p) : b2i (decide p) = 0 := by simp [b2i, h]
theorem lt_cond {i : Int32} {n : Nat} (hn : n < 2 ^ 31) (h1 : ¬ i < 0) (h2 : i < nI n) : vp_in i n := by
  rw [vp_in_iff]
  rw [Int32.lt_iff_toInt_lt] at h1 h2
  rw [nI_toInt hn] at h2
  rw [Int32.toInt_zero] at h1
  omega

