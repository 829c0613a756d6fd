/-! ===== the law: its calls ===== -/
/-- from this state the law comes to its end with true -/
def LW (X : Scr) (st : St) : Prop := ∃ M2 ML2, Rs X cd_L_law (Ex 6) true (some (.int 1), (SH, M2, ML2)) nf zf st
def LL (q : Nat) : List (Nat × Value) := [(0, .ref 0), (1, .ref 1), (2, .ref 73), (3, .int (nI (4 * q)))]
section LQ
variable {X : Scr}
theorem LW_lift {st st' : St} (f : ∀ res, Rs X cd_L_law (Ex 6) true res nf zf st' → Rs X cd_L_law (Ex 6) true res nf zf st) (h : LW X st') : LW X st := by
  obtain ⟨M', ML', hr⟩ := h
  exact ⟨M', ML', f _ hr⟩
theorem l_ld {pc L st w ins nx a b c z v} (h0 : lk cd_L_law pc = some (ins, nx, a, b, c, z)) (h1 : ldv ins L = some v) (h2 : LW X (nx, L, v :: st, w)) : LW X (pc, L, st, w) := LW_lift (fun _ h9 => r_ld h0 h1 h9) h2
theorem l_cst {pc L st w ins nx a b c z v} (h0 : lk cd_L_law pc = some (ins, nx, a, b, c, z)) (h1 : cst ins = some v) (h2 : LW X (nx, L, v :: st, w)) : LW X (pc, L, st, w) := LW_lift (fun _ h9 => r_cst h0 h1 h9) h2
theorem l_bin {pc L st w ins nx a b c z x y v} (h0 : lk cd_L_law pc = some (ins, nx, a, b, c, z)) (h1 : bin ins x y = some v) (h2 : LW X (nx, L, v :: st, w)) : LW X (pc, L, y :: x :: st, w) := LW_lift (fun _ h9 => r_bin h0 h1 h9) h2
theorem l_scr {pc L st w nx a b c z j} (h0 : lk cd_L_law pc = some (.iaload, nx, a, b, c, z)) (h1 : X.1 = true) (h2 : vp_in j X.2.1) (h3 : LW X (nx, L, .int (X.2.2 j.toNatClampNeg) :: st, w)) : LW X (pc, L, .int j :: .ref 0 :: st, w) := LW_lift (fun _ h9 => r_scr h0 h1 h2 h9) h3
theorem l_scl {pc L st w nx a b c z} (h0 : lk cd_L_law pc = some (.arraylength, nx, a, b, c, z)) (h1 : X.1 = true) (h2 : LW X (nx, L, .int (Int32.ofNat X.2.1) :: st, w)) : LW X (pc, L, .ref 0 :: st, w) := LW_lift (fun _ h9 => r_scl h0 h1 h9) h2
theorem l_cjT {pc L st st' w ins nx a b c z q} (h0 : lk cd_L_law pc = some (ins, nx, a, b, c, z)) (h1 : cj ins st = some (q, st')) (hq : q) (h2 : LW X (a, L, st', w)) : LW X (pc, L, st, w) := LW_lift (fun _ h9 => r_cj h0 h1 (fun _ => h9) (fun h => absurd hq h)) h2
theorem l_cjF {pc L st st' w ins nx a b c z q} (h0 : lk cd_L_law pc = some (ins, nx, a, b, c, z)) (h1 : cj ins st = some (q, st')) (hq : ¬ q) (h2 : LW X (nx, L, st', w)) : LW X (pc, L, st, w) := LW_lift (fun _ h9 => r_cj h0 h1 (fun h => absurd h hq) (fun _ => h9)) h2
theorem l_sw {pc L st w ins nx a b c z x t} (h0 : lk cd_L_law pc = some (ins, nx, a, b, c, z)) (h1 : swT pc ins x = some t) (h2 : LW X (t, L, st, w)) : LW X (pc, L, .int x :: st, w) := LW_lift (fun _ h9 => r_sw h0 h1 h9) h2
theorem l_go {pc L st w i nx a b c z} (h0 : lk cd_L_law pc = some (.goto i, nx, a, b, c, z)) (h1 : LW X (a, L, st, w)) : LW X (pc, L, st, w) := LW_lift (fun _ h9 => r_go h0 h9) h1
theorem l_inc {pc L L' st w i n nx a b c z x} (h0 : lk cd_L_law pc = some (.iinc i n, nx, a, b, c, z)) (h1 : lkL L i = some (.int x)) (h2 : put1 i (.int (x + Int32.ofInt n)) L = L') (h3 : LW X (nx, L', st, w)) : LW X (pc, L, st, w) := LW_lift (fun _ h9 => r_inc h0 h1 (h2 ▸ h9)) h3
theorem l_ret {pc L M ML ins nx a b c z} (h0 : lk cd_L_law pc = some (ins, nx, a, b, c, z)) (h1 : retv ins [.int 1] = some (some (.int 1))) : LW X (pc, L, [.int 1], (SH, M, ML)) := ⟨M, ML, r_ret h0 h1 (Or.inr rfl) rfl⟩
theorem l_call {pc L st0 w ins nx k n c z v w1 as rest} (h0 : lk cd_L_law pc = some (ins, nx, k, n, c, z)) (h1 : isI ins = true) (h2 : Nat.blt k 900 = true) (h3 : Nat.ble n st0.length = true) (ha : (st0.take n).reverse = as) (hr : st0.drop n = rest) (h4 : Nat.ble ((rest.map fun v => v.category).sum) 8 = true) (h5 : rcv w.1 c as = true) (h6 : Ex 6 k as w (some v, w1)) (h7 : LW X (nx, L, v :: rest, w1)) : LW X (pc, L, st0, w) := by
  subst ha hr
  exact LW_lift (fun _ h9 => r_call h0 h1 h2 h3 (Nat.le_of_ble_eq_true h4) h5 h6 h9) h7
end LQ

set_option maxHeartbeats 1000000 in
set_option maxRecDepth 10000 in
theorem law_nodes {X : Scr} (hX : X.1 = true) {q : Nat} (hq : 4 * q + 4 ≤ X.2.1) (hL : X.2.1 ≤ 2048) {M : Mm} {ML : Ml} (hJ : J M) (ih : ∀ M' ML', J M' → LW X (1493, LL q, [], (SH, M', ML'))) : LW X (232, LL q, [], (SH, M, ML)) := by
  have v1 : vp_in (nI (4 * q) + 1) X.2.1 := by rw [show nI (4 * q) + 1 = nI (4 * q + 1) from nI_add (4 * q) 1]; exact vp_in_nI (by omega) (by omega)
  obtain ⟨_, M1, L1, ⟨v, rfl, hE⟩, hE1⟩ := op_nodes (d := 0) (e := 4) (ML := ML) (x := X.2.2 (nI (4 * q) + 1).toNatClampNeg) hJ
  obtain ⟨_, M2, L2, ⟨rfl, hJ2⟩, hE2⟩ := hE
  refine l_ld rfl rfl ?_
  refine l_ld rfl rfl ?_
  refine l_ld rfl rfl ?_
  refine l_cst (v := .int 1) rfl rfl ?_
  refine l_bin rfl rfl ?_
  refine l_scr rfl hX v1 ?_
  refine l_call (as := [_, _]) (rest := []) rfl rfl rfl rfl rfl rfl rfl rfl hE1 ?_
  refine l_ld rfl rfl ?_
  refine l_ld rfl rfl ?_
  refine l_ld rfl rfl ?_
  refine l_cst (v := .int 1) rfl rfl ?_
  refine l_bin rfl rfl ?_
  refine l_scr rfl hX v1 ?_
  refine l_call (as := [_, _]) (rest := [_]) rfl rfl rfl rfl rfl rfl rfl rfl hE2 ?_
  exact l_cjT rfl rfl rfl (ih M2 L2 hJ2)

set_option maxHeartbeats 1000000 in
set_option maxRecDepth 10000 in
theorem law_edge {X : Scr} (hX : X.1 = true) {q : Nat} (hq : 4 * q + 4 ≤ X.2.1) (hL : X.2.1 ≤ 2048) {M : Mm} {ML : Ml} (hJ : J M) (ih : ∀ M' ML', J M' → LW X (1493, LL q, [], (SH, M', ML'))) : LW X (255, LL q, [], (SH, M, ML)) := by
  have v1 : vp_in (nI (4 * q) + 1) X.2.1 := by rw [show nI (4 * q) + 1 = nI (4 * q + 1) from nI_add (4 * q) 1]; exact vp_in_nI (by omega) (by omega)
  have v2 : vp_in (nI (4 * q) + 2) X.2.1 := by rw [show nI (4 * q) + 2 = nI (4 * q + 2) from nI_add (4 * q) 2]; exact vp_in_nI (by omega) (by omega)
  obtain ⟨_, M1, L1, ⟨v, rfl, hE⟩, hE1⟩ := op_edge (d := 0) (e := 3) (ML := ML) (x := X.2.2 (nI (4 * q) + 1).toNatClampNeg) (y := X.2.2 (nI (4 * q) + 2).toNatClampNeg) hJ
  obtain ⟨_, M2, L2, ⟨rfl, hJ2⟩, hE2⟩ := hE
  refine l_ld rfl rfl ?_
  refine l_ld rfl rfl ?_
  refine l_ld rfl rfl ?_
  refine l_cst (v := .int 1) rfl rfl ?_
  refine l_bin rfl rfl ?_
  refine l_scr rfl hX v1 ?_
  refine l_ld rfl rfl ?_
  refine l_ld rfl rfl ?_
  refine l_cst (v := .int 2) rfl rfl ?_
  refine l_bin rfl rfl ?_
  refine l_scr rfl hX v2 ?_
  refine l_call (as := [_, _, _]) (rest := []) rfl rfl rfl rfl rfl rfl rfl rfl hE1 ?_
  refine l_ld rfl rfl ?_
  refine l_ld rfl rfl ?_
  refine l_ld rfl rfl ?_
  refine l_cst (v := .int 1) rfl rfl ?_
  refine l_bin rfl rfl ?_
  refine l_scr rfl hX v1 ?_
  refine l_ld rfl rfl ?_
  refine l_ld rfl rfl ?_
  refine l_cst (v := .int 2) rfl rfl ?_
  refine l_bin rfl rfl ?_
  refine l_scr rfl hX v2 ?_
  refine l_call (as := [_, _, _]) (rest := [_]) rfl rfl rfl rfl rfl rfl rfl rfl hE2 ?_
  exact l_cjT rfl rfl rfl (ih M2 L2 hJ2)

set_option maxHeartbeats 1000000 in
set_option maxRecDepth 10000 in
theorem law_cut {X : Scr} (hX : X.1 = true) {q : Nat} (hq : 4 * q + 4 ≤ X.2.1) (hL : X.2.1 ≤ 2048) {M : Mm} {ML : Ml} (hJ : J M) (ih : ∀ M' ML', J M' → LW X (1493, LL q, [], (SH, M', ML'))) : LW X (288, LL q, [], (SH, M, ML)) := by
  have v1 : vp_in (nI (4 * q) + 1) X.2.1 := by rw [show nI (4 * q) + 1 = nI (4 * q + 1) from nI_add (4 * q) 1]; exact vp_in_nI (by omega) (by omega)
  obtain ⟨_, M1, L1, ⟨v, rfl, hE⟩, hE1⟩ := op_cut (d := 0) (e := 3) (ML := ML) (x := X.2.2 (nI (4 * q) + 1).toNatClampNeg) hJ
  obtain ⟨_, M2, L2, ⟨rfl, hJ2⟩, hE2⟩ := hE
  refine l_ld rfl rfl ?_
  refine l_ld rfl rfl ?_
  refine l_ld rfl rfl ?_
  refine l_cst (v := .int 1) rfl rfl ?_
  refine l_bin rfl rfl ?_
  refine l_scr rfl hX v1 ?_
  refine l_call (as := [_, _]) (rest := []) rfl rfl rfl rfl rfl rfl rfl rfl hE1 ?_
  refine l_ld rfl rfl ?_
  refine l_ld rfl rfl ?_
  refine l_ld rfl rfl ?_
  refine l_cst (v := .int 1) rfl rfl ?_
  refine l_bin rfl rfl ?_
  refine l_scr rfl hX v1 ?_
  refine l_call (as := [_, _]) (rest := [_]) rfl rfl rfl rfl rfl rfl rfl rfl hE2 ?_
  exact l_cjT rfl rfl rfl (ih M2 L2 hJ2)

set_option maxHeartbeats 1000000 in
set_option maxRecDepth 10000 in
theorem law_of {X : Scr} (hX : X.1 = true) {q : Nat} (hq : 4 * q + 4 ≤ X.2.1) (hL : X.2.1 ≤ 2048) {M : Mm} {ML : Ml} (hJ : J M) (ih : ∀ M' ML', J M' → LW X (1493, LL q, [], (SH, M', ML'))) : LW X (311, LL q, [], (SH, M, ML)) := by
  have v1 : vp_in (nI (4 * q) + 1) X.2.1 := by rw [show nI (4 * q) + 1 = nI (4 * q + 1) from nI_add (4 * q) 1]; exact vp_in_nI (by omega) (by omega)
  have v2 : vp_in (nI (4 * q) + 2) X.2.1 := by rw [show nI (4 * q) + 2 = nI (4 * q + 2) from nI_add (4 * q) 2]; exact vp_in_nI (by omega) (by omega)
  obtain ⟨_, M1, L1, ⟨v, rfl, hE⟩, hE1⟩ := op_of (d := 3) (e := 3) (ML := ML) (x := X.2.2 (nI (4 * q) + 1).toNatClampNeg) (y := X.2.2 (nI (4 * q) + 2).toNatClampNeg) hJ
  obtain ⟨_, M2, L2, ⟨rfl, hJ2⟩, hE2⟩ := hE
  refine l_ld rfl rfl ?_
  refine l_ld rfl rfl ?_
  refine l_ld rfl rfl ?_
  refine l_cst (v := .int 1) rfl rfl ?_
  refine l_bin rfl rfl ?_
  refine l_scr rfl hX v1 ?_
  refine l_ld rfl rfl ?_
  refine l_ld rfl rfl ?_
  refine l_cst (v := .int 2) rfl rfl ?_
  refine l_bin rfl rfl ?_
  refine l_scr rfl hX v2 ?_
  refine l_call (as := [_, _, _]) (rest := []) rfl rfl rfl rfl rfl rfl rfl rfl hE1 ?_
  refine l_ld rfl rfl ?_
  refine l_ld rfl rfl ?_
  refine l_ld rfl rfl ?_
  refine l_cst (v := .int 1) rfl rfl ?_
  refine l_bin rfl rfl ?_
  refine l_scr rfl hX v1 ?_
  refine l_ld rfl rfl ?_
  refine l_ld rfl rfl ?_
  refine l_cst (v := .int 2) rfl rfl ?_
  refine l_bin rfl rfl ?_
  refine l_scr rfl hX v2 ?_
  refine l_call (as := [_, _, _]) (rest := [_]) rfl rfl rfl rfl rfl rfl rfl rfl hE2 ?_
  exact l_cjT rfl rfl rfl (ih M2 L2 hJ2)

set_option maxHeartbeats 1000000 in
set_option maxRecDepth 10000 in
theorem law_arrows {X : Scr} (hX : X.1 = true) {q : Nat} (hq : 4 * q + 4 ≤ X.2.1) (hL : X.2.1 ≤ 2048) {M : Mm} {ML : Ml} (hJ : J M) (ih : ∀ M' ML', J M' → LW X (1493, LL q, [], (SH, M', ML'))) : LW X (344, LL q, [], (SH, M, ML)) := by
  obtain ⟨_, M1, L1, ⟨v, rfl, hE⟩, hE1⟩ := op_arrows (d := 5) (e := 5) (ML := ML) hJ
  obtain ⟨_, M2, L2, ⟨rfl, hJ2⟩, hE2⟩ := hE
  refine l_ld rfl rfl ?_
  refine l_call (as := [_]) (rest := []) rfl rfl rfl rfl rfl rfl rfl rfl hE1 ?_
  refine l_ld rfl rfl ?_
  refine l_call (as := [_]) (rest := [_]) rfl rfl rfl rfl rfl rfl rfl rfl hE2 ?_
  exact l_cjT rfl rfl rfl (ih M2 L2 hJ2)

set_option maxHeartbeats 1000000 in
set_option maxRecDepth 10000 in
theorem law_set {X : Scr} (hX : X.1 = true) {q : Nat} (hq : 4 * q + 4 ≤ X.2.1) (hL : X.2.1 ≤ 2048) {M : Mm} {ML : Ml} (hJ : J M) (ih : ∀ M' ML', J M' → LW X (1493, LL q, [], (SH, M', ML'))) : LW X (357, LL q, [], (SH, M, ML)) := by
  have v1 : vp_in (nI (4 * q) + 1) X.2.1 := by rw [show nI (4 * q) + 1 = nI (4 * q + 1) from nI_add (4 * q) 1]; exact vp_in_nI (by omega) (by omega)
  obtain ⟨_, M1, L1, ⟨v, rfl, hE⟩, hE1⟩ := op_set (d := 4) (e := 3) (ML := ML) (x := X.2.2 (nI (4 * q) + 1).toNatClampNeg) hJ
  obtain ⟨_, M2, L2, ⟨rfl, hJ2⟩, hE2⟩ := hE
  refine l_ld rfl rfl ?_
  refine l_ld rfl rfl ?_
  refine l_ld rfl rfl ?_
  refine l_cst (v := .int 1) rfl rfl ?_
  refine l_bin rfl rfl ?_
  refine l_scr rfl hX v1 ?_
  refine l_call (as := [_, _]) (rest := []) rfl rfl rfl rfl rfl rfl rfl rfl hE1 ?_
  refine l_ld rfl rfl ?_
  refine l_ld rfl rfl ?_
  refine l_ld rfl rfl ?_
  refine l_cst (v := .int 1) rfl rfl ?_
  refine l_bin rfl rfl ?_
  refine l_scr rfl hX v1 ?_
  refine l_call (as := [_, _]) (rest := [_]) rfl rfl rfl rfl rfl rfl rfl rfl hE2 ?_
  exact l_cjT rfl rfl rfl (ih M2 L2 hJ2)

set_option maxHeartbeats 1000000 in
set_option maxRecDepth 10000 in
theorem law_ends {X : Scr} (hX : X.1 = true) {q : Nat} (hq : 4 * q + 4 ≤ X.2.1) (hL : X.2.1 ≤ 2048) {M : Mm} {ML : Ml} (hJ : J M) (ih : ∀ M' ML', J M' → LW X (1493, LL q, [], (SH, M', ML'))) : LW X (380, LL q, [], (SH, M, ML)) := by
  have v1 : vp_in (nI (4 * q) + 1) X.2.1 := by rw [show nI (4 * q) + 1 = nI (4 * q + 1) from nI_add (4 * q) 1]; exact vp_in_nI (by omega) (by omega)
  have v2 : vp_in (nI (4 * q) + 2) X.2.1 := by rw [show nI (4 * q) + 2 = nI (4 * q + 2) from nI_add (4 * q) 2]; exact vp_in_nI (by omega) (by omega)
  obtain ⟨_, M1, L1, ⟨v, rfl, hE⟩, hE1⟩ := op_ends (d := 3) (e := 1) (ML := ML) (x := X.2.2 (nI (4 * q) + 1).toNatClampNeg) (y := X.2.2 (nI (4 * q) + 2).toNatClampNeg) hJ
  obtain ⟨_, M2, L2, ⟨rfl, hJ2⟩, hE2⟩ := hE
  refine l_ld rfl rfl ?_
  refine l_ld rfl rfl ?_
  refine l_ld rfl rfl ?_
  refine l_cst (v := .int 1) rfl rfl ?_
  refine l_bin rfl rfl ?_
  refine l_scr rfl hX v1 ?_
  refine l_ld rfl rfl ?_
  refine l_ld rfl rfl ?_
  refine l_cst (v := .int 2) rfl rfl ?_
  refine l_bin rfl rfl ?_
  refine l_scr rfl hX v2 ?_
  refine l_call (as := [_, _, _]) (rest := []) rfl rfl rfl rfl rfl rfl rfl rfl hE1 ?_
  refine l_ld rfl rfl ?_
  refine l_ld rfl rfl ?_
  refine l_ld rfl rfl ?_
  refine l_cst (v := .int 1) rfl rfl ?_
  refine l_bin rfl rfl ?_
  refine l_scr rfl hX v1 ?_
  refine l_ld rfl rfl ?_
  refine l_ld rfl rfl ?_
  refine l_cst (v := .int 2) rfl rfl ?_
  refine l_bin rfl rfl ?_
  refine l_scr rfl hX v2 ?_
  refine l_call (as := [_, _, _]) (rest := [_]) rfl rfl rfl rfl rfl rfl rfl rfl hE2 ?_
  exact l_cjT rfl rfl rfl (ih M2 L2 hJ2)

set_option maxHeartbeats 1000000 in
set_option maxRecDepth 10000 in
theorem law_free {X : Scr} (hX : X.1 = true) {q : Nat} (hq : 4 * q + 4 ≤ X.2.1) (hL : X.2.1 ≤ 2048) {M : Mm} {ML : Ml} (hJ : J M) (ih : ∀ M' ML', J M' → LW X (1493, LL q, [], (SH, M', ML'))) : LW X (413, LL q, [], (SH, M, ML)) := by
  have v1 : vp_in (nI (4 * q) + 1) X.2.1 := by rw [show nI (4 * q) + 1 = nI (4 * q + 1) from nI_add (4 * q) 1]; exact vp_in_nI (by omega) (by omega)
  obtain ⟨_, M1, L1, ⟨v, rfl, hE⟩, hE1⟩ := op_free (d := 4) (e := 2) (ML := ML) (x := X.2.2 (nI (4 * q) + 1).toNatClampNeg) hJ
  obtain ⟨_, M2, L2, ⟨rfl, hJ2⟩, hE2⟩ := hE
  refine l_ld rfl rfl ?_
  refine l_ld rfl rfl ?_
  refine l_ld rfl rfl ?_
  refine l_cst (v := .int 1) rfl rfl ?_
  refine l_bin rfl rfl ?_
  refine l_scr rfl hX v1 ?_
  refine l_call (as := [_, _]) (rest := []) rfl rfl rfl rfl rfl rfl rfl rfl hE1 ?_
  refine l_ld rfl rfl ?_
  refine l_ld rfl rfl ?_
  refine l_ld rfl rfl ?_
  refine l_cst (v := .int 1) rfl rfl ?_
  refine l_bin rfl rfl ?_
  refine l_scr rfl hX v1 ?_
  refine l_call (as := [_, _]) (rest := [_]) rfl rfl rfl rfl rfl rfl rfl rfl hE2 ?_
  exact l_cjT rfl rfl rfl (ih M2 L2 hJ2)

set_option maxHeartbeats 1000000 in
set_option maxRecDepth 10000 in
theorem law_fire {X : Scr} (hX : X.1 = true) {q : Nat} (hq : 4 * q + 4 ≤ X.2.1) (hL : X.2.1 ≤ 2048) {M : Mm} {ML : Ml} (hJ : J M) (ih : ∀ M' ML', J M' → LW X (1493, LL q, [], (SH, M', ML'))) : LW X (436, LL q, [], (SH, M, ML)) := by
  have v1 : vp_in (nI (4 * q) + 1) X.2.1 := by rw [show nI (4 * q) + 1 = nI (4 * q + 1) from nI_add (4 * q) 1]; exact vp_in_nI (by omega) (by omega)
  obtain ⟨_, M1, L1, ⟨v, rfl, hE⟩, hE1⟩ := op_fire (d := 2) (e := 1) (ML := ML) (x := X.2.2 (nI (4 * q) + 1).toNatClampNeg) hJ
  obtain ⟨_, M2, L2, ⟨rfl, hJ2⟩, hE2⟩ := hE
  refine l_ld rfl rfl ?_
  refine l_ld rfl rfl ?_
  refine l_ld rfl rfl ?_
  refine l_cst (v := .int 1) rfl rfl ?_
  refine l_bin rfl rfl ?_
  refine l_scr rfl hX v1 ?_
  refine l_call (as := [_, _]) (rest := []) rfl rfl rfl rfl rfl rfl rfl rfl hE1 ?_
  refine l_ld rfl rfl ?_
  refine l_ld rfl rfl ?_
  refine l_ld rfl rfl ?_
  refine l_cst (v := .int 1) rfl rfl ?_
  refine l_bin rfl rfl ?_
  refine l_scr rfl hX v1 ?_
  refine l_call (as := [_, _]) (rest := [_]) rfl rfl rfl rfl rfl rfl rfl rfl hE2 ?_
  exact l_cjT rfl rfl rfl (ih M2 L2 hJ2)

set_option maxHeartbeats 1000000 in
set_option maxRecDepth 10000 in
theorem law_drown {X : Scr} (hX : X.1 = true) {q : Nat} (hq : 4 * q + 4 ≤ X.2.1) (hL : X.2.1 ≤ 2048) {M : Mm} {ML : Ml} (hJ : J M) (ih : ∀ M' ML', J M' → LW X (1493, LL q, [], (SH, M', ML'))) : LW X (459, LL q, [], (SH, M, ML)) := by
  have v1 : vp_in (nI (4 * q) + 1) X.2.1 := by rw [show nI (4 * q) + 1 = nI (4 * q + 1) from nI_add (4 * q) 1]; exact vp_in_nI (by omega) (by omega)
  obtain ⟨_, M1, L1, ⟨v, rfl, hE⟩, hE1⟩ := op_drown (d := 2) (e := 1) (ML := ML) (x := X.2.2 (nI (4 * q) + 1).toNatClampNeg) hJ
  obtain ⟨_, M2, L2, ⟨rfl, hJ2⟩, hE2⟩ := hE
  refine l_ld rfl rfl ?_
  refine l_ld rfl rfl ?_
  refine l_ld rfl rfl ?_
  refine l_cst (v := .int 1) rfl rfl ?_
  refine l_bin rfl rfl ?_
  refine l_scr rfl hX v1 ?_
  refine l_call (as := [_, _]) (rest := []) rfl rfl rfl rfl rfl rfl rfl rfl hE1 ?_
  refine l_ld rfl rfl ?_
  refine l_ld rfl rfl ?_
  refine l_ld rfl rfl ?_
  refine l_cst (v := .int 1) rfl rfl ?_
  refine l_bin rfl rfl ?_
  refine l_scr rfl hX v1 ?_
  refine l_call (as := [_, _]) (rest := [_]) rfl rfl rfl rfl rfl rfl rfl rfl hE2 ?_
  exact l_cjT rfl rfl rfl (ih M2 L2 hJ2)

set_option maxHeartbeats 1000000 in
set_option maxRecDepth 10000 in
theorem law_back {X : Scr} (hX : X.1 = true) {q : Nat} (hq : 4 * q + 4 ≤ X.2.1) (hL : X.2.1 ≤ 2048) {M : Mm} {ML : Ml} (hJ : J M) (ih : ∀ M' ML', J M' → LW X (1493, LL q, [], (SH, M', ML'))) : LW X (482, LL q, [], (SH, M, ML)) := by
  obtain ⟨_, M1, L1, ⟨v, rfl, hE⟩, hE1⟩ := op_back (d := 3) (e := 3) (ML := ML) hJ
  obtain ⟨_, M2, L2, ⟨rfl, hJ2⟩, hE2⟩ := hE
  refine l_ld rfl rfl ?_
  refine l_call (as := [_]) (rest := []) rfl rfl rfl rfl rfl rfl rfl rfl hE1 ?_
  refine l_ld rfl rfl ?_
  refine l_call (as := [_]) (rest := [_]) rfl rfl rfl rfl rfl rfl rfl rfl hE2 ?_
  exact l_cjT rfl rfl rfl (ih M2 L2 hJ2)

set_option maxHeartbeats 1000000 in
set_option maxRecDepth 10000 in
theorem law_thin {X : Scr} (hX : X.1 = true) {q : Nat} (hq : 4 * q + 4 ≤ X.2.1) (hL : X.2.1 ≤ 2048) {M : Mm} {ML : Ml} (hJ : J M) (ih : ∀ M' ML', J M' → LW X (1493, LL q, [], (SH, M', ML'))) : LW X (495, LL q, [], (SH, M, ML)) := by
  obtain ⟨_, M1, L1, ⟨v, rfl, hE⟩, hE1⟩ := op_thin (d := 2) (e := 4) (ML := ML) hJ
  obtain ⟨_, M2, L2, ⟨rfl, hJ2⟩, hE2⟩ := hE
  refine l_ld rfl rfl ?_
  refine l_call (as := [_]) (rest := []) rfl rfl rfl rfl rfl rfl rfl rfl hE1 ?_
  refine l_ld rfl rfl ?_
  refine l_call (as := [_]) (rest := [_]) rfl rfl rfl rfl rfl rfl rfl rfl hE2 ?_
  exact l_cjT rfl rfl rfl (ih M2 L2 hJ2)

set_option maxHeartbeats 1000000 in
set_option maxRecDepth 10000 in
theorem law_log {X : Scr} (hX : X.1 = true) {q : Nat} (hq : 4 * q + 4 ≤ X.2.1) (hL : X.2.1 ≤ 2048) {M : Mm} {ML : Ml} (hJ : J M) (ih : ∀ M' ML', J M' → LW X (1493, LL q, [], (SH, M', ML'))) : LW X (508, LL q, [], (SH, M, ML)) := by
  have v1 : vp_in (nI (4 * q) + 1) X.2.1 := by rw [show nI (4 * q) + 1 = nI (4 * q + 1) from nI_add (4 * q) 1]; exact vp_in_nI (by omega) (by omega)
  have v2 : vp_in (nI (4 * q) + 2) X.2.1 := by rw [show nI (4 * q) + 2 = nI (4 * q + 2) from nI_add (4 * q) 2]; exact vp_in_nI (by omega) (by omega)
  obtain ⟨_, M1, L1, ⟨v, rfl, hE⟩, hE1⟩ := op_log (d := 4) (e := 4) (ML := ML) (x := X.2.2 (nI (4 * q) + 1).toNatClampNeg) (y := X.2.2 (nI (4 * q) + 2).toNatClampNeg) hJ
  obtain ⟨_, M2, L2, ⟨rfl, hJ2⟩, hE2⟩ := hE
  refine l_ld rfl rfl ?_
  refine l_ld rfl rfl ?_
  refine l_ld rfl rfl ?_
  refine l_cst (v := .int 1) rfl rfl ?_
  refine l_bin rfl rfl ?_
  refine l_scr rfl hX v1 ?_
  refine l_ld rfl rfl ?_
  refine l_ld rfl rfl ?_
  refine l_cst (v := .int 2) rfl rfl ?_
  refine l_bin rfl rfl ?_
  refine l_scr rfl hX v2 ?_
  refine l_call (as := [_, _, _]) (rest := []) rfl rfl rfl rfl rfl rfl rfl rfl hE1 ?_
  refine l_ld rfl rfl ?_
  refine l_ld rfl rfl ?_
  refine l_ld rfl rfl ?_
  refine l_cst (v := .int 1) rfl rfl ?_
  refine l_bin rfl rfl ?_
  refine l_scr rfl hX v1 ?_
  refine l_ld rfl rfl ?_
  refine l_ld rfl rfl ?_
  refine l_cst (v := .int 2) rfl rfl ?_
  refine l_bin rfl rfl ?_
  refine l_scr rfl hX v2 ?_
  refine l_call (as := [_, _, _]) (rest := [_]) rfl rfl rfl rfl rfl rfl rfl rfl hE2 ?_
  exact l_cjT rfl rfl rfl (ih M2 L2 hJ2)

set_option maxHeartbeats 1000000 in
set_option maxRecDepth 10000 in
theorem law_flow {X : Scr} (hX : X.1 = true) {q : Nat} (hq : 4 * q + 4 ≤ X.2.1) (hL : X.2.1 ≤ 2048) {M : Mm} {ML : Ml} (hJ : J M) (ih : ∀ M' ML', J M' → LW X (1493, LL q, [], (SH, M', ML'))) : LW X (541, LL q, [], (SH, M, ML)) := by
  have v1 : vp_in (nI (4 * q) + 1) X.2.1 := by rw [show nI (4 * q) + 1 = nI (4 * q + 1) from nI_add (4 * q) 1]; exact vp_in_nI (by omega) (by omega)
  have v2 : vp_in (nI (4 * q) + 2) X.2.1 := by rw [show nI (4 * q) + 2 = nI (4 * q + 2) from nI_add (4 * q) 2]; exact vp_in_nI (by omega) (by omega)
  obtain ⟨_, M1, L1, ⟨v, rfl, hE⟩, hE1⟩ := op_flow (d := 2) (e := 2) (ML := ML) (x := X.2.2 (nI (4 * q) + 1).toNatClampNeg) (y := X.2.2 (nI (4 * q) + 2).toNatClampNeg) hJ
  obtain ⟨_, M2, L2, ⟨rfl, hJ2⟩, hE2⟩ := hE
  refine l_ld rfl rfl ?_
  refine l_ld rfl rfl ?_
  refine l_ld rfl rfl ?_
  refine l_cst (v := .int 1) rfl rfl ?_
  refine l_bin rfl rfl ?_
  refine l_scr rfl hX v1 ?_
  refine l_ld rfl rfl ?_
  refine l_ld rfl rfl ?_
  refine l_cst (v := .int 2) rfl rfl ?_
  refine l_bin rfl rfl ?_
  refine l_scr rfl hX v2 ?_
  refine l_call (as := [_, _, _]) (rest := []) rfl rfl rfl rfl rfl rfl rfl rfl hE1 ?_
  refine l_ld rfl rfl ?_
  refine l_ld rfl rfl ?_
  refine l_ld rfl rfl ?_
  refine l_cst (v := .int 1) rfl rfl ?_
  refine l_bin rfl rfl ?_
  refine l_scr rfl hX v1 ?_
  refine l_ld rfl rfl ?_
  refine l_ld rfl rfl ?_
  refine l_cst (v := .int 2) rfl rfl ?_
  refine l_bin rfl rfl ?_
  refine l_scr rfl hX v2 ?_
  refine l_call (as := [_, _, _]) (rest := [_]) rfl rfl rfl rfl rfl rfl rfl rfl hE2 ?_
  refine l_bin rfl rfl ?_
  exact l_cjT rfl rfl ((lg_cmp_eq _ _).mpr rfl) (ih M2 L2 hJ2)

set_option maxHeartbeats 1000000 in
set_option maxRecDepth 10000 in
theorem law_alike {X : Scr} (hX : X.1 = true) {q : Nat} (hq : 4 * q + 4 ≤ X.2.1) (hL : X.2.1 ≤ 2048) {M : Mm} {ML : Ml} (hJ : J M) (ih : ∀ M' ML', J M' → LW X (1493, LL q, [], (SH, M', ML'))) : LW X (575, LL q, [], (SH, M, ML)) := by
  have v1 : vp_in (nI (4 * q) + 1) X.2.1 := by rw [show nI (4 * q) + 1 = nI (4 * q + 1) from nI_add (4 * q) 1]; exact vp_in_nI (by omega) (by omega)
  have v2 : vp_in (nI (4 * q) + 2) X.2.1 := by rw [show nI (4 * q) + 2 = nI (4 * q + 2) from nI_add (4 * q) 2]; exact vp_in_nI (by omega) (by omega)
  obtain ⟨_, M1, L1, ⟨v, rfl, hE⟩, hE1⟩ := op_alike (d := 1) (e := 0) (ML := ML) (x := X.2.2 (nI (4 * q) + 1).toNatClampNeg) (y := X.2.2 (nI (4 * q) + 2).toNatClampNeg) hJ
  obtain ⟨_, M2, L2, ⟨rfl, hJ2⟩, hE2⟩ := hE
  refine l_ld rfl rfl ?_
  refine l_ld rfl rfl ?_
  refine l_ld rfl rfl ?_
  refine l_cst (v := .int 1) rfl rfl ?_
  refine l_bin rfl rfl ?_
  refine l_scr rfl hX v1 ?_
  refine l_ld rfl rfl ?_
  refine l_ld rfl rfl ?_
  refine l_cst (v := .int 2) rfl rfl ?_
  refine l_bin rfl rfl ?_
  refine l_scr rfl hX v2 ?_
  refine l_call (as := [_, _, _]) (rest := []) rfl rfl rfl rfl rfl rfl rfl rfl hE1 ?_
  refine l_ld rfl rfl ?_
  refine l_ld rfl rfl ?_
  refine l_ld rfl rfl ?_
  refine l_cst (v := .int 1) rfl rfl ?_
  refine l_bin rfl rfl ?_
  refine l_scr rfl hX v1 ?_
  refine l_ld rfl rfl ?_
  refine l_ld rfl rfl ?_
  refine l_cst (v := .int 2) rfl rfl ?_
  refine l_bin rfl rfl ?_
  refine l_scr rfl hX v2 ?_
  refine l_call (as := [_, _, _]) (rest := [_]) rfl rfl rfl rfl rfl rfl rfl rfl hE2 ?_
  exact l_cjT rfl rfl rfl (ih M2 L2 hJ2)

set_option maxHeartbeats 1000000 in
set_option maxRecDepth 10000 in
theorem law_many {X : Scr} (hX : X.1 = true) {q : Nat} (hq : 4 * q + 4 ≤ X.2.1) (hL : X.2.1 ≤ 2048) {M : Mm} {ML : Ml} (hJ : J M) (ih : ∀ M' ML', J M' → LW X (1493, LL q, [], (SH, M', ML'))) : LW X (608, LL q, [], (SH, M, ML)) := by
  have v1 : vp_in (nI (4 * q) + 1) X.2.1 := by rw [show nI (4 * q) + 1 = nI (4 * q + 1) from nI_add (4 * q) 1]; exact vp_in_nI (by omega) (by omega)
  obtain ⟨_, M1, L1, ⟨v, rfl, hE⟩, hE1⟩ := op_many (d := 1) (e := 0) (ML := ML) (y := X.2.2 (nI (4 * q) + 1).toNatClampNeg) hJ
  obtain ⟨_, M2, L2, ⟨rfl, hJ2⟩, hE2⟩ := hE
  refine l_ld rfl rfl ?_
  refine l_ld rfl rfl ?_
  refine l_ld rfl rfl ?_
  refine l_cst (v := .int 1) rfl rfl ?_
  refine l_bin rfl rfl ?_
  refine l_scr rfl hX v1 ?_
  refine l_call (as := [_, _]) (rest := []) rfl rfl rfl rfl rfl rfl rfl rfl hE1 ?_
  refine l_ld rfl rfl ?_
  refine l_ld rfl rfl ?_
  refine l_ld rfl rfl ?_
  refine l_cst (v := .int 1) rfl rfl ?_
  refine l_bin rfl rfl ?_
  refine l_scr rfl hX v1 ?_
  refine l_call (as := [_, _]) (rest := [_]) rfl rfl rfl rfl rfl rfl rfl rfl hE2 ?_
  exact l_cjT rfl rfl rfl (ih M2 L2 hJ2)

set_option maxHeartbeats 1000000 in
set_option maxRecDepth 10000 in
theorem law_ofClass {X : Scr} (hX : X.1 = true) {q : Nat} (hq : 4 * q + 4 ≤ X.2.1) (hL : X.2.1 ≤ 2048) {M : Mm} {ML : Ml} (hJ : J M) (ih : ∀ M' ML', J M' → LW X (1493, LL q, [], (SH, M', ML'))) : LW X (631, LL q, [], (SH, M, ML)) := by
  have v1 : vp_in (nI (4 * q) + 1) X.2.1 := by rw [show nI (4 * q) + 1 = nI (4 * q + 1) from nI_add (4 * q) 1]; exact vp_in_nI (by omega) (by omega)
  have v2 : vp_in (nI (4 * q) + 2) X.2.1 := by rw [show nI (4 * q) + 2 = nI (4 * q + 2) from nI_add (4 * q) 2]; exact vp_in_nI (by omega) (by omega)
  obtain ⟨_, M1, L1, ⟨v, rfl, hE⟩, hE1⟩ := op_ofClass (d := 1) (e := 0) (ML := ML) (x := X.2.2 (nI (4 * q) + 1).toNatClampNeg) (y := X.2.2 (nI (4 * q) + 2).toNatClampNeg) hJ
  obtain ⟨_, M2, L2, ⟨rfl, hJ2⟩, hE2⟩ := hE
  refine l_ld rfl rfl ?_
  refine l_ld rfl rfl ?_
  refine l_ld rfl rfl ?_
  refine l_cst (v := .int 1) rfl rfl ?_
  refine l_bin rfl rfl ?_
  refine l_scr rfl hX v1 ?_
  refine l_ld rfl rfl ?_
  refine l_ld rfl rfl ?_
  refine l_cst (v := .int 2) rfl rfl ?_
  refine l_bin rfl rfl ?_
  refine l_scr rfl hX v2 ?_
  refine l_call (as := [_, _, _]) (rest := []) rfl rfl rfl rfl rfl rfl rfl rfl hE1 ?_
  refine l_ld rfl rfl ?_
  refine l_ld rfl rfl ?_
  refine l_ld rfl rfl ?_
  refine l_cst (v := .int 1) rfl rfl ?_
  refine l_bin rfl rfl ?_
  refine l_scr rfl hX v1 ?_
  refine l_ld rfl rfl ?_
  refine l_ld rfl rfl ?_
  refine l_cst (v := .int 2) rfl rfl ?_
  refine l_bin rfl rfl ?_
  refine l_scr rfl hX v2 ?_
  refine l_call (as := [_, _, _]) (rest := [_]) rfl rfl rfl rfl rfl rfl rfl rfl hE2 ?_
  exact l_cjT rfl rfl rfl (ih M2 L2 hJ2)

set_option maxHeartbeats 1000000 in
set_option maxRecDepth 10000 in
theorem law_place {X : Scr} (hX : X.1 = true) {q : Nat} (hq : 4 * q + 4 ≤ X.2.1) (hL : X.2.1 ≤ 2048) {M : Mm} {ML : Ml} (hJ : J M) (ih : ∀ M' ML', J M' → LW X (1493, LL q, [], (SH, M', ML'))) : LW X (664, LL q, [], (SH, M, ML)) := by
  have v1 : vp_in (nI (4 * q) + 1) X.2.1 := by rw [show nI (4 * q) + 1 = nI (4 * q + 1) from nI_add (4 * q) 1]; exact vp_in_nI (by omega) (by omega)
  obtain ⟨_, M1, L1, ⟨v, rfl, hE⟩, hE1⟩ := op_place (d := 1) (e := 0) (ML := ML) (x := X.2.2 (nI (4 * q) + 1).toNatClampNeg) hJ
  obtain ⟨_, M2, L2, ⟨rfl, hJ2⟩, hE2⟩ := hE
  refine l_ld rfl rfl ?_
  refine l_ld rfl rfl ?_
  refine l_ld rfl rfl ?_
  refine l_cst (v := .int 1) rfl rfl ?_
  refine l_bin rfl rfl ?_
  refine l_scr rfl hX v1 ?_
  refine l_call (as := [_, _]) (rest := []) rfl rfl rfl rfl rfl rfl rfl rfl hE1 ?_
  refine l_ld rfl rfl ?_
  refine l_ld rfl rfl ?_
  refine l_ld rfl rfl ?_
  refine l_cst (v := .int 1) rfl rfl ?_
  refine l_bin rfl rfl ?_
  refine l_scr rfl hX v1 ?_
  refine l_call (as := [_, _]) (rest := [_]) rfl rfl rfl rfl rfl rfl rfl rfl hE2 ?_
  exact l_cjT rfl rfl rfl (ih M2 L2 hJ2)

set_option maxHeartbeats 1000000 in
set_option maxRecDepth 10000 in
theorem law_rooted {X : Scr} (hX : X.1 = true) {q : Nat} (hq : 4 * q + 4 ≤ X.2.1) (hL : X.2.1 ≤ 2048) {M : Mm} {ML : Ml} (hJ : J M) (ih : ∀ M' ML', J M' → LW X (1493, LL q, [], (SH, M', ML'))) : LW X (687, LL q, [], (SH, M, ML)) := by
  have v1 : vp_in (nI (4 * q) + 1) X.2.1 := by rw [show nI (4 * q) + 1 = nI (4 * q + 1) from nI_add (4 * q) 1]; exact vp_in_nI (by omega) (by omega)
  obtain ⟨_, M1, L1, ⟨v, rfl, hE⟩, hE1⟩ := op_rooted (d := 1) (e := 1) (ML := ML) (x := X.2.2 (nI (4 * q) + 1).toNatClampNeg) hJ
  obtain ⟨_, M2, L2, ⟨rfl, hJ2⟩, hE2⟩ := hE
  refine l_ld rfl rfl ?_
  refine l_ld rfl rfl ?_
  refine l_ld rfl rfl ?_
  refine l_cst (v := .int 1) rfl rfl ?_
  refine l_bin rfl rfl ?_
  refine l_scr rfl hX v1 ?_
  refine l_call (as := [_, _]) (rest := []) rfl rfl rfl rfl rfl rfl rfl rfl hE1 ?_
  refine l_ld rfl rfl ?_
  refine l_ld rfl rfl ?_
  refine l_ld rfl rfl ?_
  refine l_cst (v := .int 1) rfl rfl ?_
  refine l_bin rfl rfl ?_
  refine l_scr rfl hX v1 ?_
  refine l_call (as := [_, _]) (rest := [_]) rfl rfl rfl rfl rfl rfl rfl rfl hE2 ?_
  exact l_cjT rfl rfl rfl (ih M2 L2 hJ2)

set_option maxHeartbeats 1000000 in
set_option maxRecDepth 10000 in
theorem law_tutte {X : Scr} (hX : X.1 = true) {q : Nat} (hq : 4 * q + 4 ≤ X.2.1) (hL : X.2.1 ≤ 2048) {M : Mm} {ML : Ml} (hJ : J M) (ih : ∀ M' ML', J M' → LW X (1493, LL q, [], (SH, M', ML'))) : LW X (710, LL q, [], (SH, M, ML)) := by
  have v1 : vp_in (nI (4 * q) + 1) X.2.1 := by rw [show nI (4 * q) + 1 = nI (4 * q + 1) from nI_add (4 * q) 1]; exact vp_in_nI (by omega) (by omega)
  have v2 : vp_in (nI (4 * q) + 2) X.2.1 := by rw [show nI (4 * q) + 2 = nI (4 * q + 2) from nI_add (4 * q) 2]; exact vp_in_nI (by omega) (by omega)
  obtain ⟨_, M1, L1, ⟨v, rfl, hE⟩, hE1⟩ := op_tutte (d := 2) (e := 3) (ML := ML) (x := X.2.2 (nI (4 * q) + 1).toNatClampNeg) (y := X.2.2 (nI (4 * q) + 2).toNatClampNeg) hJ
  obtain ⟨_, M2, L2, ⟨rfl, hJ2⟩, hE2⟩ := hE
  refine l_ld rfl rfl ?_
  refine l_ld rfl rfl ?_
  refine l_ld rfl rfl ?_
  refine l_cst (v := .int 1) rfl rfl ?_
  refine l_bin rfl rfl ?_
  refine l_scr rfl hX v1 ?_
  refine l_ld rfl rfl ?_
  refine l_ld rfl rfl ?_
  refine l_cst (v := .int 2) rfl rfl ?_
  refine l_bin rfl rfl ?_
  refine l_scr rfl hX v2 ?_
  refine l_call (as := [_, _, _]) (rest := []) rfl rfl rfl rfl rfl rfl rfl rfl hE1 ?_
  refine l_ld rfl rfl ?_
  refine l_ld rfl rfl ?_
  refine l_ld rfl rfl ?_
  refine l_cst (v := .int 1) rfl rfl ?_
  refine l_bin rfl rfl ?_
  refine l_scr rfl hX v1 ?_
  refine l_ld rfl rfl ?_
  refine l_ld rfl rfl ?_
  refine l_cst (v := .int 2) rfl rfl ?_
  refine l_bin rfl rfl ?_
  refine l_scr rfl hX v2 ?_
  refine l_call (as := [_, _, _]) (rest := [_]) rfl rfl rfl rfl rfl rfl rfl rfl hE2 ?_
  exact l_cjT rfl rfl rfl (ih M2 L2 hJ2)

set_option maxHeartbeats 1000000 in
set_option maxRecDepth 10000 in
theorem law_distance {X : Scr} (hX : X.1 = true) {q : Nat} (hq : 4 * q + 4 ≤ X.2.1) (hL : X.2.1 ≤ 2048) {M : Mm} {ML : Ml} (hJ : J M) (ih : ∀ M' ML', J M' → LW X (1493, LL q, [], (SH, M', ML'))) : LW X (743, LL q, [], (SH, M, ML)) := by
  have v1 : vp_in (nI (4 * q) + 1) X.2.1 := by rw [show nI (4 * q) + 1 = nI (4 * q + 1) from nI_add (4 * q) 1]; exact vp_in_nI (by omega) (by omega)
  have v2 : vp_in (nI (4 * q) + 2) X.2.1 := by rw [show nI (4 * q) + 2 = nI (4 * q + 2) from nI_add (4 * q) 2]; exact vp_in_nI (by omega) (by omega)
  obtain ⟨_, M1, L1, ⟨v, rfl, hE⟩, hE1⟩ := op_distance (d := 1) (e := 1) (ML := ML) (x := X.2.2 (nI (4 * q) + 1).toNatClampNeg) (y := X.2.2 (nI (4 * q) + 2).toNatClampNeg) hJ
  obtain ⟨_, M2, L2, ⟨rfl, hJ2⟩, hE2⟩ := hE
  refine l_ld rfl rfl ?_
  refine l_ld rfl rfl ?_
  refine l_ld rfl rfl ?_
  refine l_cst (v := .int 1) rfl rfl ?_
  refine l_bin rfl rfl ?_
  refine l_scr rfl hX v1 ?_
  refine l_ld rfl rfl ?_
  refine l_ld rfl rfl ?_
  refine l_cst (v := .int 2) rfl rfl ?_
  refine l_bin rfl rfl ?_
  refine l_scr rfl hX v2 ?_
  refine l_call (as := [_, _, _]) (rest := []) rfl rfl rfl rfl rfl rfl rfl rfl hE1 ?_
  refine l_ld rfl rfl ?_
  refine l_ld rfl rfl ?_
  refine l_ld rfl rfl ?_
  refine l_cst (v := .int 1) rfl rfl ?_
  refine l_bin rfl rfl ?_
  refine l_scr rfl hX v1 ?_
  refine l_ld rfl rfl ?_
  refine l_ld rfl rfl ?_
  refine l_cst (v := .int 2) rfl rfl ?_
  refine l_bin rfl rfl ?_
  refine l_scr rfl hX v2 ?_
  refine l_call (as := [_, _, _]) (rest := [_]) rfl rfl rfl rfl rfl rfl rfl rfl hE2 ?_
  exact l_cjT rfl rfl rfl (ih M2 L2 hJ2)

set_option maxHeartbeats 1000000 in
set_option maxRecDepth 10000 in
theorem law_step {X : Scr} (hX : X.1 = true) {q : Nat} (hq : 4 * q + 4 ≤ X.2.1) (hL : X.2.1 ≤ 2048) {M : Mm} {ML : Ml} (hJ : J M) (ih : ∀ M' ML', J M' → LW X (1493, LL q, [], (SH, M', ML'))) : LW X (776, LL q, [], (SH, M, ML)) := by
  have v1 : vp_in (nI (4 * q) + 1) X.2.1 := by rw [show nI (4 * q) + 1 = nI (4 * q + 1) from nI_add (4 * q) 1]; exact vp_in_nI (by omega) (by omega)
  have v2 : vp_in (nI (4 * q) + 2) X.2.1 := by rw [show nI (4 * q) + 2 = nI (4 * q + 2) from nI_add (4 * q) 2]; exact vp_in_nI (by omega) (by omega)
  obtain ⟨_, M1, L1, ⟨v, rfl, hE⟩, hE1⟩ := op_step (d := 1) (e := 1) (ML := ML) (x := X.2.2 (nI (4 * q) + 1).toNatClampNeg) (y := X.2.2 (nI (4 * q) + 2).toNatClampNeg) hJ
  obtain ⟨_, M2, L2, ⟨rfl, hJ2⟩, hE2⟩ := hE
  refine l_ld rfl rfl ?_
  refine l_ld rfl rfl ?_
  refine l_ld rfl rfl ?_
  refine l_cst (v := .int 1) rfl rfl ?_
  refine l_bin rfl rfl ?_
  refine l_scr rfl hX v1 ?_
  refine l_ld rfl rfl ?_
  refine l_ld rfl rfl ?_
  refine l_cst (v := .int 2) rfl rfl ?_
  refine l_bin rfl rfl ?_
  refine l_scr rfl hX v2 ?_
  refine l_call (as := [_, _, _]) (rest := []) rfl rfl rfl rfl rfl rfl rfl rfl hE1 ?_
  refine l_ld rfl rfl ?_
  refine l_ld rfl rfl ?_
  refine l_ld rfl rfl ?_
  refine l_cst (v := .int 1) rfl rfl ?_
  refine l_bin rfl rfl ?_
  refine l_scr rfl hX v1 ?_
  refine l_ld rfl rfl ?_
  refine l_ld rfl rfl ?_
  refine l_cst (v := .int 2) rfl rfl ?_
  refine l_bin rfl rfl ?_
  refine l_scr rfl hX v2 ?_
  refine l_call (as := [_, _, _]) (rest := [_]) rfl rfl rfl rfl rfl rfl rfl rfl hE2 ?_
  exact l_cjT rfl rfl rfl (ih M2 L2 hJ2)

set_option maxHeartbeats 1000000 in
set_option maxRecDepth 10000 in
theorem law_far {X : Scr} (hX : X.1 = true) {q : Nat} (hq : 4 * q + 4 ≤ X.2.1) (hL : X.2.1 ≤ 2048) {M : Mm} {ML : Ml} (hJ : J M) (ih : ∀ M' ML', J M' → LW X (1493, LL q, [], (SH, M', ML'))) : LW X (809, LL q, [], (SH, M, ML)) := by
  have v1 : vp_in (nI (4 * q) + 1) X.2.1 := by rw [show nI (4 * q) + 1 = nI (4 * q + 1) from nI_add (4 * q) 1]; exact vp_in_nI (by omega) (by omega)
  have v2 : vp_in (nI (4 * q) + 2) X.2.1 := by rw [show nI (4 * q) + 2 = nI (4 * q + 2) from nI_add (4 * q) 2]; exact vp_in_nI (by omega) (by omega)
  obtain ⟨_, M1, L1, ⟨v, rfl, hE⟩, hE1⟩ := op_far (d := 1) (e := 1) (ML := ML) (x := X.2.2 (nI (4 * q) + 1).toNatClampNeg) (y := X.2.2 (nI (4 * q) + 2).toNatClampNeg) hJ
  obtain ⟨_, M2, L2, ⟨rfl, hJ2⟩, hE2⟩ := hE
  refine l_ld rfl rfl ?_
  refine l_ld rfl rfl ?_
  refine l_ld rfl rfl ?_
  refine l_cst (v := .int 1) rfl rfl ?_
  refine l_bin rfl rfl ?_
  refine l_scr rfl hX v1 ?_
  refine l_ld rfl rfl ?_
  refine l_ld rfl rfl ?_
  refine l_cst (v := .int 2) rfl rfl ?_
  refine l_bin rfl rfl ?_
  refine l_scr rfl hX v2 ?_
  refine l_call (as := [_, _, _]) (rest := []) rfl rfl rfl rfl rfl rfl rfl rfl hE1 ?_
  refine l_ld rfl rfl ?_
  refine l_ld rfl rfl ?_
  refine l_ld rfl rfl ?_
  refine l_cst (v := .int 1) rfl rfl ?_
  refine l_bin rfl rfl ?_
  refine l_scr rfl hX v1 ?_
  refine l_ld rfl rfl ?_
  refine l_ld rfl rfl ?_
  refine l_cst (v := .int 2) rfl rfl ?_
  refine l_bin rfl rfl ?_
  refine l_scr rfl hX v2 ?_
  refine l_call (as := [_, _, _]) (rest := [_]) rfl rfl rfl rfl rfl rfl rfl rfl hE2 ?_
  exact l_cjT rfl rfl rfl (ih M2 L2 hJ2)

set_option maxHeartbeats 1000000 in
set_option maxRecDepth 10000 in
theorem law_ways {X : Scr} (hX : X.1 = true) {q : Nat} (hq : 4 * q + 4 ≤ X.2.1) (hL : X.2.1 ≤ 2048) {M : Mm} {ML : Ml} (hJ : J M) (ih : ∀ M' ML', J M' → LW X (1493, LL q, [], (SH, M', ML'))) : LW X (842, LL q, [], (SH, M, ML)) := by
  have v1 : vp_in (nI (4 * q) + 1) X.2.1 := by rw [show nI (4 * q) + 1 = nI (4 * q + 1) from nI_add (4 * q) 1]; exact vp_in_nI (by omega) (by omega)
  have v2 : vp_in (nI (4 * q) + 2) X.2.1 := by rw [show nI (4 * q) + 2 = nI (4 * q + 2) from nI_add (4 * q) 2]; exact vp_in_nI (by omega) (by omega)
  obtain ⟨_, M1, L1, ⟨v, rfl, hE⟩, hE1⟩ := op_ways (d := 1) (e := 2) (ML := ML) (x := X.2.2 (nI (4 * q) + 1).toNatClampNeg) (y := X.2.2 (nI (4 * q) + 2).toNatClampNeg) hJ
  obtain ⟨_, M2, L2, ⟨rfl, hJ2⟩, hE2⟩ := hE
  refine l_ld rfl rfl ?_
  refine l_ld rfl rfl ?_
  refine l_ld rfl rfl ?_
  refine l_cst (v := .int 1) rfl rfl ?_
  refine l_bin rfl rfl ?_
  refine l_scr rfl hX v1 ?_
  refine l_ld rfl rfl ?_
  refine l_ld rfl rfl ?_
  refine l_cst (v := .int 2) rfl rfl ?_
  refine l_bin rfl rfl ?_
  refine l_scr rfl hX v2 ?_
  refine l_call (as := [_, _, _]) (rest := []) rfl rfl rfl rfl rfl rfl rfl rfl hE1 ?_
  refine l_ld rfl rfl ?_
  refine l_ld rfl rfl ?_
  refine l_ld rfl rfl ?_
  refine l_cst (v := .int 1) rfl rfl ?_
  refine l_bin rfl rfl ?_
  refine l_scr rfl hX v1 ?_
  refine l_ld rfl rfl ?_
  refine l_ld rfl rfl ?_
  refine l_cst (v := .int 2) rfl rfl ?_
  refine l_bin rfl rfl ?_
  refine l_scr rfl hX v2 ?_
  refine l_call (as := [_, _, _]) (rest := [_]) rfl rfl rfl rfl rfl rfl rfl rfl hE2 ?_
  refine l_bin rfl rfl ?_
  exact l_cjT rfl rfl ((lg_cmp_eq _ _).mpr rfl) (ih M2 L2 hJ2)

set_option maxHeartbeats 1000000 in
set_option maxRecDepth 10000 in
theorem law_trip {X : Scr} (hX : X.1 = true) {q : Nat} (hq : 4 * q + 4 ≤ X.2.1) (hL : X.2.1 ≤ 2048) {M : Mm} {ML : Ml} (hJ : J M) (ih : ∀ M' ML', J M' → LW X (1493, LL q, [], (SH, M', ML'))) : LW X (876, LL q, [], (SH, M, ML)) := by
  have v1 : vp_in (nI (4 * q) + 1) X.2.1 := by rw [show nI (4 * q) + 1 = nI (4 * q + 1) from nI_add (4 * q) 1]; exact vp_in_nI (by omega) (by omega)
  obtain ⟨_, M1, L1, ⟨v, rfl, hE⟩, hE1⟩ := op_trip (d := 1) (e := 1) (ML := ML) (x := X.2.2 (nI (4 * q) + 1).toNatClampNeg) hJ
  obtain ⟨_, M2, L2, ⟨rfl, hJ2⟩, hE2⟩ := hE
  refine l_ld rfl rfl ?_
  refine l_ld rfl rfl ?_
  refine l_ld rfl rfl ?_
  refine l_cst (v := .int 1) rfl rfl ?_
  refine l_bin rfl rfl ?_
  refine l_scr rfl hX v1 ?_
  refine l_call (as := [_, _]) (rest := []) rfl rfl rfl rfl rfl rfl rfl rfl hE1 ?_
  refine l_ld rfl rfl ?_
  refine l_ld rfl rfl ?_
  refine l_ld rfl rfl ?_
  refine l_cst (v := .int 1) rfl rfl ?_
  refine l_bin rfl rfl ?_
  refine l_scr rfl hX v1 ?_
  refine l_call (as := [_, _]) (rest := [_]) rfl rfl rfl rfl rfl rfl rfl rfl hE2 ?_
  exact l_cjT rfl rfl rfl (ih M2 L2 hJ2)

set_option maxHeartbeats 1000000 in
set_option maxRecDepth 10000 in
theorem law_byWord {X : Scr} (hX : X.1 = true) {q : Nat} (hq : 4 * q + 4 ≤ X.2.1) (hL : X.2.1 ≤ 2048) {M : Mm} {ML : Ml} (hJ : J M) (ih : ∀ M' ML', J M' → LW X (1493, LL q, [], (SH, M', ML'))) : LW X (899, LL q, [], (SH, M, ML)) := by
  have v1 : vp_in (nI (4 * q) + 1) X.2.1 := by rw [show nI (4 * q) + 1 = nI (4 * q + 1) from nI_add (4 * q) 1]; exact vp_in_nI (by omega) (by omega)
  obtain ⟨_, M1, L1, ⟨v, rfl, hE⟩, hE1⟩ := op_byWord (d := 2) (e := 3) (ML := ML) (x := X.2.2 (nI (4 * q) + 1).toNatClampNeg) hJ
  obtain ⟨_, M2, L2, ⟨rfl, hJ2⟩, hE2⟩ := hE
  refine l_ld rfl rfl ?_
  refine l_ld rfl rfl ?_
  refine l_ld rfl rfl ?_
  refine l_cst (v := .int 1) rfl rfl ?_
  refine l_bin rfl rfl ?_
  refine l_scr rfl hX v1 ?_
  refine l_call (as := [_, _]) (rest := []) rfl rfl rfl rfl rfl rfl rfl rfl hE1 ?_
  refine l_ld rfl rfl ?_
  refine l_ld rfl rfl ?_
  refine l_ld rfl rfl ?_
  refine l_cst (v := .int 1) rfl rfl ?_
  refine l_bin rfl rfl ?_
  refine l_scr rfl hX v1 ?_
  refine l_call (as := [_, _]) (rest := [_]) rfl rfl rfl rfl rfl rfl rfl rfl hE2 ?_
  exact l_cjT rfl rfl rfl (ih M2 L2 hJ2)

set_option maxHeartbeats 1000000 in
set_option maxRecDepth 10000 in
theorem law_words {X : Scr} (hX : X.1 = true) {q : Nat} (hq : 4 * q + 4 ≤ X.2.1) (hL : X.2.1 ≤ 2048) {M : Mm} {ML : Ml} (hJ : J M) (ih : ∀ M' ML', J M' → LW X (1493, LL q, [], (SH, M', ML'))) : LW X (922, LL q, [], (SH, M, ML)) := by
  have v1 : vp_in (nI (4 * q) + 1) X.2.1 := by rw [show nI (4 * q) + 1 = nI (4 * q + 1) from nI_add (4 * q) 1]; exact vp_in_nI (by omega) (by omega)
  have v2 : vp_in (nI (4 * q) + 2) X.2.1 := by rw [show nI (4 * q) + 2 = nI (4 * q + 2) from nI_add (4 * q) 2]; exact vp_in_nI (by omega) (by omega)
  obtain ⟨_, M1, L1, ⟨v, rfl, hE⟩, hE1⟩ := op_words (d := 2) (e := 1) (ML := ML) (x := X.2.2 (nI (4 * q) + 1).toNatClampNeg) (y := X.2.2 (nI (4 * q) + 2).toNatClampNeg) hJ
  obtain ⟨_, M2, L2, ⟨rfl, hJ2⟩, hE2⟩ := hE
  refine l_ld rfl rfl ?_
  refine l_ld rfl rfl ?_
  refine l_ld rfl rfl ?_
  refine l_cst (v := .int 1) rfl rfl ?_
  refine l_bin rfl rfl ?_
  refine l_scr rfl hX v1 ?_
  refine l_ld rfl rfl ?_
  refine l_ld rfl rfl ?_
  refine l_cst (v := .int 2) rfl rfl ?_
  refine l_bin rfl rfl ?_
  refine l_scr rfl hX v2 ?_
  refine l_call (as := [_, _, _]) (rest := []) rfl rfl rfl rfl rfl rfl rfl rfl hE1 ?_
  refine l_ld rfl rfl ?_
  refine l_ld rfl rfl ?_
  refine l_ld rfl rfl ?_
  refine l_cst (v := .int 1) rfl rfl ?_
  refine l_bin rfl rfl ?_
  refine l_scr rfl hX v1 ?_
  refine l_ld rfl rfl ?_
  refine l_ld rfl rfl ?_
  refine l_cst (v := .int 2) rfl rfl ?_
  refine l_bin rfl rfl ?_
  refine l_scr rfl hX v2 ?_
  refine l_call (as := [_, _, _]) (rest := [_]) rfl rfl rfl rfl rfl rfl rfl rfl hE2 ?_
  exact l_cjT rfl rfl rfl (ih M2 L2 hJ2)

set_option maxHeartbeats 1000000 in
set_option maxRecDepth 10000 in
theorem law_turn {X : Scr} (hX : X.1 = true) {q : Nat} (hq : 4 * q + 4 ≤ X.2.1) (hL : X.2.1 ≤ 2048) {M : Mm} {ML : Ml} (hJ : J M) (ih : ∀ M' ML', J M' → LW X (1493, LL q, [], (SH, M', ML'))) : LW X (955, LL q, [], (SH, M, ML)) := by
  have v1 : vp_in (nI (4 * q) + 1) X.2.1 := by rw [show nI (4 * q) + 1 = nI (4 * q + 1) from nI_add (4 * q) 1]; exact vp_in_nI (by omega) (by omega)
  obtain ⟨_, M1, L1, ⟨v, rfl, hE⟩, hE1⟩ := op_turn (d := 2) (e := 3) (ML := ML) (x := X.2.2 (nI (4 * q) + 1).toNatClampNeg) hJ
  obtain ⟨_, M2, L2, ⟨rfl, hJ2⟩, hE2⟩ := hE
  refine l_ld rfl rfl ?_
  refine l_ld rfl rfl ?_
  refine l_ld rfl rfl ?_
  refine l_cst (v := .int 1) rfl rfl ?_
  refine l_bin rfl rfl ?_
  refine l_scr rfl hX v1 ?_
  refine l_call (as := [_, _]) (rest := []) rfl rfl rfl rfl rfl rfl rfl rfl hE1 ?_
  refine l_ld rfl rfl ?_
  refine l_ld rfl rfl ?_
  refine l_ld rfl rfl ?_
  refine l_cst (v := .int 1) rfl rfl ?_
  refine l_bin rfl rfl ?_
  refine l_scr rfl hX v1 ?_
  refine l_call (as := [_, _]) (rest := [_]) rfl rfl rfl rfl rfl rfl rfl rfl hE2 ?_
  exact l_cjT rfl rfl rfl (ih M2 L2 hJ2)

set_option maxHeartbeats 1000000 in
set_option maxRecDepth 10000 in
theorem law_conjugate {X : Scr} (hX : X.1 = true) {q : Nat} (hq : 4 * q + 4 ≤ X.2.1) (hL : X.2.1 ≤ 2048) {M : Mm} {ML : Ml} (hJ : J M) (ih : ∀ M' ML', J M' → LW X (1493, LL q, [], (SH, M', ML'))) : LW X (978, LL q, [], (SH, M, ML)) := by
  have v1 : vp_in (nI (4 * q) + 1) X.2.1 := by rw [show nI (4 * q) + 1 = nI (4 * q + 1) from nI_add (4 * q) 1]; exact vp_in_nI (by omega) (by omega)
  have v2 : vp_in (nI (4 * q) + 2) X.2.1 := by rw [show nI (4 * q) + 2 = nI (4 * q + 2) from nI_add (4 * q) 2]; exact vp_in_nI (by omega) (by omega)
  obtain ⟨_, M1, L1, ⟨v, rfl, hE⟩, hE1⟩ := op_conjugate (d := 1) (e := 0) (ML := ML) (x := X.2.2 (nI (4 * q) + 1).toNatClampNeg) (y := X.2.2 (nI (4 * q) + 2).toNatClampNeg) hJ
  obtain ⟨_, M2, L2, ⟨rfl, hJ2⟩, hE2⟩ := hE
  refine l_ld rfl rfl ?_
  refine l_ld rfl rfl ?_
  refine l_ld rfl rfl ?_
  refine l_cst (v := .int 1) rfl rfl ?_
  refine l_bin rfl rfl ?_
  refine l_scr rfl hX v1 ?_
  refine l_ld rfl rfl ?_
  refine l_ld rfl rfl ?_
  refine l_cst (v := .int 2) rfl rfl ?_
  refine l_bin rfl rfl ?_
  refine l_scr rfl hX v2 ?_
  refine l_call (as := [_, _, _]) (rest := []) rfl rfl rfl rfl rfl rfl rfl rfl hE1 ?_
  refine l_ld rfl rfl ?_
  refine l_ld rfl rfl ?_
  refine l_ld rfl rfl ?_
  refine l_cst (v := .int 1) rfl rfl ?_
  refine l_bin rfl rfl ?_
  refine l_scr rfl hX v1 ?_
  refine l_ld rfl rfl ?_
  refine l_ld rfl rfl ?_
  refine l_cst (v := .int 2) rfl rfl ?_
  refine l_bin rfl rfl ?_
  refine l_scr rfl hX v2 ?_
  refine l_call (as := [_, _, _]) (rest := [_]) rfl rfl rfl rfl rfl rfl rfl rfl hE2 ?_
  exact l_cjT rfl rfl rfl (ih M2 L2 hJ2)

set_option maxHeartbeats 1000000 in
set_option maxRecDepth 10000 in
theorem law_off {X : Scr} (hX : X.1 = true) {q : Nat} (hq : 4 * q + 4 ≤ X.2.1) (hL : X.2.1 ≤ 2048) {M : Mm} {ML : Ml} (hJ : J M) (ih : ∀ M' ML', J M' → LW X (1493, LL q, [], (SH, M', ML'))) : LW X (1011, LL q, [], (SH, M, ML)) := by
  have v1 : vp_in (nI (4 * q) + 1) X.2.1 := by rw [show nI (4 * q) + 1 = nI (4 * q + 1) from nI_add (4 * q) 1]; exact vp_in_nI (by omega) (by omega)
  have v2 : vp_in (nI (4 * q) + 2) X.2.1 := by rw [show nI (4 * q) + 2 = nI (4 * q + 2) from nI_add (4 * q) 2]; exact vp_in_nI (by omega) (by omega)
  obtain ⟨_, M1, L1, ⟨v, rfl, hE⟩, hE1⟩ := op_off (d := 2) (e := 3) (ML := ML) (x := X.2.2 (nI (4 * q) + 1).toNatClampNeg) (y := X.2.2 (nI (4 * q) + 2).toNatClampNeg) hJ
  obtain ⟨_, M2, L2, ⟨rfl, hJ2⟩, hE2⟩ := hE
  refine l_ld rfl rfl ?_
  refine l_ld rfl rfl ?_
  refine l_ld rfl rfl ?_
  refine l_cst (v := .int 1) rfl rfl ?_
  refine l_bin rfl rfl ?_
  refine l_scr rfl hX v1 ?_
  refine l_ld rfl rfl ?_
  refine l_ld rfl rfl ?_
  refine l_cst (v := .int 2) rfl rfl ?_
  refine l_bin rfl rfl ?_
  refine l_scr rfl hX v2 ?_
  refine l_call (as := [_, _, _]) (rest := []) rfl rfl rfl rfl rfl rfl rfl rfl hE1 ?_
  refine l_ld rfl rfl ?_
  refine l_ld rfl rfl ?_
  refine l_ld rfl rfl ?_
  refine l_cst (v := .int 1) rfl rfl ?_
  refine l_bin rfl rfl ?_
  refine l_scr rfl hX v1 ?_
  refine l_ld rfl rfl ?_
  refine l_ld rfl rfl ?_
  refine l_cst (v := .int 2) rfl rfl ?_
  refine l_bin rfl rfl ?_
  refine l_scr rfl hX v2 ?_
  refine l_call (as := [_, _, _]) (rest := [_]) rfl rfl rfl rfl rfl rfl rfl rfl hE2 ?_
  exact l_cjT rfl rfl rfl (ih M2 L2 hJ2)

set_option maxHeartbeats 1000000 in
set_option maxRecDepth 10000 in
theorem law_firer {X : Scr} (hX : X.1 = true) {q : Nat} (hq : 4 * q + 4 ≤ X.2.1) (hL : X.2.1 ≤ 2048) {M : Mm} {ML : Ml} (hJ : J M) (ih : ∀ M' ML', J M' → LW X (1493, LL q, [], (SH, M', ML'))) : LW X (1044, LL q, [], (SH, M, ML)) := by
  have v1 : vp_in (nI (4 * q) + 1) X.2.1 := by rw [show nI (4 * q) + 1 = nI (4 * q + 1) from nI_add (4 * q) 1]; exact vp_in_nI (by omega) (by omega)
  have v2 : vp_in (nI (4 * q) + 2) X.2.1 := by rw [show nI (4 * q) + 2 = nI (4 * q + 2) from nI_add (4 * q) 2]; exact vp_in_nI (by omega) (by omega)
  obtain ⟨_, M1, L1, ⟨v, rfl, hE⟩, hE1⟩ := op_firer (d := 3) (e := 4) (ML := ML) (x := X.2.2 (nI (4 * q) + 1).toNatClampNeg) (y := X.2.2 (nI (4 * q) + 2).toNatClampNeg) hJ
  obtain ⟨_, M2, L2, ⟨rfl, hJ2⟩, hE2⟩ := hE
  refine l_ld rfl rfl ?_
  refine l_ld rfl rfl ?_
  refine l_ld rfl rfl ?_
  refine l_cst (v := .int 1) rfl rfl ?_
  refine l_bin rfl rfl ?_
  refine l_scr rfl hX v1 ?_
  refine l_ld rfl rfl ?_
  refine l_ld rfl rfl ?_
  refine l_cst (v := .int 2) rfl rfl ?_
  refine l_bin rfl rfl ?_
  refine l_scr rfl hX v2 ?_
  refine l_call (as := [_, _, _]) (rest := []) rfl rfl rfl rfl rfl rfl rfl rfl hE1 ?_
  refine l_ld rfl rfl ?_
  refine l_ld rfl rfl ?_
  refine l_ld rfl rfl ?_
  refine l_cst (v := .int 1) rfl rfl ?_
  refine l_bin rfl rfl ?_
  refine l_scr rfl hX v1 ?_
  refine l_ld rfl rfl ?_
  refine l_ld rfl rfl ?_
  refine l_cst (v := .int 2) rfl rfl ?_
  refine l_bin rfl rfl ?_
  refine l_scr rfl hX v2 ?_
  refine l_call (as := [_, _, _]) (rest := [_]) rfl rfl rfl rfl rfl rfl rfl rfl hE2 ?_
  exact l_cjT rfl rfl rfl (ih M2 L2 hJ2)

set_option maxHeartbeats 1000000 in
set_option maxRecDepth 10000 in
theorem law_runs {X : Scr} (hX : X.1 = true) {q : Nat} (hq : 4 * q + 4 ≤ X.2.1) (hL : X.2.1 ≤ 2048) {M : Mm} {ML : Ml} (hJ : J M) (ih : ∀ M' ML', J M' → LW X (1493, LL q, [], (SH, M', ML'))) : LW X (1077, LL q, [], (SH, M, ML)) := by
  have v1 : vp_in (nI (4 * q) + 1) X.2.1 := by rw [show nI (4 * q) + 1 = nI (4 * q + 1) from nI_add (4 * q) 1]; exact vp_in_nI (by omega) (by omega)
  have v2 : vp_in (nI (4 * q) + 2) X.2.1 := by rw [show nI (4 * q) + 2 = nI (4 * q + 2) from nI_add (4 * q) 2]; exact vp_in_nI (by omega) (by omega)
  have v3 : vp_in (nI (4 * q) + 3) X.2.1 := by rw [show nI (4 * q) + 3 = nI (4 * q + 3) from nI_add (4 * q) 3]; exact vp_in_nI (by omega) (by omega)
  obtain ⟨_, M1, L1, ⟨v, rfl, hE⟩, hE1⟩ := op_runs (d := 0) (e := 1) (ML := ML) (x := X.2.2 (nI (4 * q) + 1).toNatClampNeg) (y := X.2.2 (nI (4 * q) + 2).toNatClampNeg) (z := X.2.2 (nI (4 * q) + 3).toNatClampNeg) hJ
  obtain ⟨_, M2, L2, ⟨rfl, hJ2⟩, hE2⟩ := hE
  refine l_ld rfl rfl ?_
  refine l_ld rfl rfl ?_
  refine l_ld rfl rfl ?_
  refine l_cst (v := .int 1) rfl rfl ?_
  refine l_bin rfl rfl ?_
  refine l_scr rfl hX v1 ?_
  refine l_ld rfl rfl ?_
  refine l_ld rfl rfl ?_
  refine l_cst (v := .int 2) rfl rfl ?_
  refine l_bin rfl rfl ?_
  refine l_scr rfl hX v2 ?_
  refine l_ld rfl rfl ?_
  refine l_ld rfl rfl ?_
  refine l_cst (v := .int 3) rfl rfl ?_
  refine l_bin rfl rfl ?_
  refine l_scr rfl hX v3 ?_
  refine l_call (as := [_, _, _, _]) (rest := []) rfl rfl rfl rfl rfl rfl rfl rfl hE1 ?_
  refine l_ld rfl rfl ?_
  refine l_ld rfl rfl ?_
  refine l_ld rfl rfl ?_
  refine l_cst (v := .int 1) rfl rfl ?_
  refine l_bin rfl rfl ?_
  refine l_scr rfl hX v1 ?_
  refine l_ld rfl rfl ?_
  refine l_ld rfl rfl ?_
  refine l_cst (v := .int 2) rfl rfl ?_
  refine l_bin rfl rfl ?_
  refine l_scr rfl hX v2 ?_
  refine l_ld rfl rfl ?_
  refine l_ld rfl rfl ?_
  refine l_cst (v := .int 3) rfl rfl ?_
  refine l_bin rfl rfl ?_
  refine l_scr rfl hX v3 ?_
  refine l_call (as := [_, _, _, _]) (rest := [_]) rfl rfl rfl rfl rfl rfl rfl rfl hE2 ?_
  exact l_cjT rfl rfl rfl (ih M2 L2 hJ2)

set_option maxHeartbeats 1000000 in
set_option maxRecDepth 10000 in
theorem law_feed {X : Scr} (hX : X.1 = true) {q : Nat} (hq : 4 * q + 4 ≤ X.2.1) (hL : X.2.1 ≤ 2048) {M : Mm} {ML : Ml} (hJ : J M) (ih : ∀ M' ML', J M' → LW X (1493, LL q, [], (SH, M', ML'))) : LW X (1120, LL q, [], (SH, M, ML)) := by
  have v1 : vp_in (nI (4 * q) + 1) X.2.1 := by rw [show nI (4 * q) + 1 = nI (4 * q + 1) from nI_add (4 * q) 1]; exact vp_in_nI (by omega) (by omega)
  have v2 : vp_in (nI (4 * q) + 2) X.2.1 := by rw [show nI (4 * q) + 2 = nI (4 * q + 2) from nI_add (4 * q) 2]; exact vp_in_nI (by omega) (by omega)
  obtain ⟨_, M1, L1, ⟨v, rfl, hE⟩, hE1⟩ := op_feed (d := 3) (e := 4) (ML := ML) (x := X.2.2 (nI (4 * q) + 1).toNatClampNeg) (y := X.2.2 (nI (4 * q) + 2).toNatClampNeg) hJ
  obtain ⟨_, M2, L2, ⟨rfl, hJ2⟩, hE2⟩ := hE
  refine l_ld rfl rfl ?_
  refine l_ld rfl rfl ?_
  refine l_ld rfl rfl ?_
  refine l_cst (v := .int 1) rfl rfl ?_
  refine l_bin rfl rfl ?_
  refine l_scr rfl hX v1 ?_
  refine l_ld rfl rfl ?_
  refine l_ld rfl rfl ?_
  refine l_cst (v := .int 2) rfl rfl ?_
  refine l_bin rfl rfl ?_
  refine l_scr rfl hX v2 ?_
  refine l_call (as := [_, _, _]) (rest := []) rfl rfl rfl rfl rfl rfl rfl rfl hE1 ?_
  refine l_ld rfl rfl ?_
  refine l_ld rfl rfl ?_
  refine l_ld rfl rfl ?_
  refine l_cst (v := .int 1) rfl rfl ?_
  refine l_bin rfl rfl ?_
  refine l_scr rfl hX v1 ?_
  refine l_ld rfl rfl ?_
  refine l_ld rfl rfl ?_
  refine l_cst (v := .int 2) rfl rfl ?_
  refine l_bin rfl rfl ?_
  refine l_scr rfl hX v2 ?_
  refine l_call (as := [_, _, _]) (rest := [_]) rfl rfl rfl rfl rfl rfl rfl rfl hE2 ?_
  exact l_cjT rfl rfl rfl (ih M2 L2 hJ2)

set_option maxHeartbeats 1000000 in
set_option maxRecDepth 10000 in
theorem law_wipe {X : Scr} (hX : X.1 = true) {q : Nat} (hq : 4 * q + 4 ≤ X.2.1) (hL : X.2.1 ≤ 2048) {M : Mm} {ML : Ml} (hJ : J M) (ih : ∀ M' ML', J M' → LW X (1493, LL q, [], (SH, M', ML'))) : LW X (1153, LL q, [], (SH, M, ML)) := by
  obtain ⟨_, M1, L1, ⟨v, rfl, hE⟩, hE1⟩ := op_wipe (d := 5) (e := 5) (ML := ML) hJ
  obtain ⟨_, M2, L2, ⟨rfl, hJ2⟩, hE2⟩ := hE
  refine l_ld rfl rfl ?_
  refine l_call (as := [_]) (rest := []) rfl rfl rfl rfl rfl rfl rfl rfl hE1 ?_
  refine l_ld rfl rfl ?_
  refine l_call (as := [_]) (rest := [_]) rfl rfl rfl rfl rfl rfl rfl rfl hE2 ?_
  exact l_cjT rfl rfl rfl (ih M2 L2 hJ2)

set_option maxHeartbeats 1000000 in
set_option maxRecDepth 10000 in
theorem law_read {X : Scr} (hX : X.1 = true) {q : Nat} (hq : 4 * q + 4 ≤ X.2.1) (hL : X.2.1 ≤ 2048) {M : Mm} {ML : Ml} (hJ : J M) (ih : ∀ M' ML', J M' → LW X (1493, LL q, [], (SH, M', ML'))) : LW X (1166, LL q, [], (SH, M, ML)) := by
  obtain ⟨_, M1, L1, ⟨v, rfl, hE⟩, hE1⟩ := op_read (d := 0) (e := 1) (ML := ML) hJ
  obtain ⟨_, M2, L2, ⟨rfl, hJ2⟩, hE2⟩ := hE
  refine l_ld rfl rfl ?_
  refine l_call (as := [_]) (rest := []) rfl rfl rfl rfl rfl rfl rfl rfl hE1 ?_
  refine l_ld rfl rfl ?_
  refine l_call (as := [_]) (rest := [_]) rfl rfl rfl rfl rfl rfl rfl rfl hE2 ?_
  exact l_cjT rfl rfl rfl (ih M2 L2 hJ2)

set_option maxHeartbeats 1000000 in
set_option maxRecDepth 10000 in
theorem law_spell {X : Scr} (hX : X.1 = true) {q : Nat} (hq : 4 * q + 4 ≤ X.2.1) (hL : X.2.1 ≤ 2048) {M : Mm} {ML : Ml} (hJ : J M) (ih : ∀ M' ML', J M' → LW X (1493, LL q, [], (SH, M', ML'))) : LW X (1179, LL q, [], (SH, M, ML)) := by
  have v1 : vp_in (nI (4 * q) + 1) X.2.1 := by rw [show nI (4 * q) + 1 = nI (4 * q + 1) from nI_add (4 * q) 1]; exact vp_in_nI (by omega) (by omega)
  obtain ⟨_, M1, L1, ⟨v, rfl, hE⟩, hE1⟩ := op_spell (d := 3) (e := 3) (ML := ML) (x := X.2.2 (nI (4 * q) + 1).toNatClampNeg) hJ
  obtain ⟨_, M2, L2, ⟨rfl, hJ2⟩, hE2⟩ := hE
  refine l_ld rfl rfl ?_
  refine l_ld rfl rfl ?_
  refine l_ld rfl rfl ?_
  refine l_cst (v := .int 1) rfl rfl ?_
  refine l_bin rfl rfl ?_
  refine l_scr rfl hX v1 ?_
  refine l_call (as := [_, _]) (rest := []) rfl rfl rfl rfl rfl rfl rfl rfl hE1 ?_
  refine l_ld rfl rfl ?_
  refine l_ld rfl rfl ?_
  refine l_ld rfl rfl ?_
  refine l_cst (v := .int 1) rfl rfl ?_
  refine l_bin rfl rfl ?_
  refine l_scr rfl hX v1 ?_
  refine l_call (as := [_, _]) (rest := [_]) rfl rfl rfl rfl rfl rfl rfl rfl hE2 ?_
  exact l_cjT rfl rfl rfl (ih M2 L2 hJ2)

set_option maxHeartbeats 1000000 in
set_option maxRecDepth 10000 in
theorem law_hold {X : Scr} (hX : X.1 = true) {q : Nat} (hq : 4 * q + 4 ≤ X.2.1) (hL : X.2.1 ≤ 2048) {M : Mm} {ML : Ml} (hJ : J M) (ih : ∀ M' ML', J M' → LW X (1493, LL q, [], (SH, M', ML'))) : LW X (1202, LL q, [], (SH, M, ML)) := by
  have v1 : vp_in (nI (4 * q) + 1) X.2.1 := by rw [show nI (4 * q) + 1 = nI (4 * q + 1) from nI_add (4 * q) 1]; exact vp_in_nI (by omega) (by omega)
  have v2 : vp_in (nI (4 * q) + 2) X.2.1 := by rw [show nI (4 * q) + 2 = nI (4 * q + 2) from nI_add (4 * q) 2]; exact vp_in_nI (by omega) (by omega)
  have v3 : vp_in (nI (4 * q) + 3) X.2.1 := by rw [show nI (4 * q) + 3 = nI (4 * q + 3) from nI_add (4 * q) 3]; exact vp_in_nI (by omega) (by omega)
  obtain ⟨_, M1, L1, ⟨v, rfl, hE⟩, hE1⟩ := op_hold (d := 2) (e := 3) (ML := ML) (x := X.2.2 (nI (4 * q) + 1).toNatClampNeg) (y := X.2.2 (nI (4 * q) + 2).toNatClampNeg) (z := X.2.2 (nI (4 * q) + 3).toNatClampNeg) hJ
  obtain ⟨_, M2, L2, ⟨rfl, hJ2⟩, hE2⟩ := hE
  refine l_ld rfl rfl ?_
  refine l_ld rfl rfl ?_
  refine l_ld rfl rfl ?_
  refine l_cst (v := .int 1) rfl rfl ?_
  refine l_bin rfl rfl ?_
  refine l_scr rfl hX v1 ?_
  refine l_ld rfl rfl ?_
  refine l_ld rfl rfl ?_
  refine l_cst (v := .int 2) rfl rfl ?_
  refine l_bin rfl rfl ?_
  refine l_scr rfl hX v2 ?_
  refine l_ld rfl rfl ?_
  refine l_ld rfl rfl ?_
  refine l_cst (v := .int 3) rfl rfl ?_
  refine l_bin rfl rfl ?_
  refine l_scr rfl hX v3 ?_
  refine l_call (as := [_, _, _, _]) (rest := []) rfl rfl rfl rfl rfl rfl rfl rfl hE1 ?_
  refine l_ld rfl rfl ?_
  refine l_ld rfl rfl ?_
  refine l_ld rfl rfl ?_
  refine l_cst (v := .int 1) rfl rfl ?_
  refine l_bin rfl rfl ?_
  refine l_scr rfl hX v1 ?_
  refine l_ld rfl rfl ?_
  refine l_ld rfl rfl ?_
  refine l_cst (v := .int 2) rfl rfl ?_
  refine l_bin rfl rfl ?_
  refine l_scr rfl hX v2 ?_
  refine l_ld rfl rfl ?_
  refine l_ld rfl rfl ?_
  refine l_cst (v := .int 3) rfl rfl ?_
  refine l_bin rfl rfl ?_
  refine l_scr rfl hX v3 ?_
  refine l_call (as := [_, _, _, _]) (rest := [_]) rfl rfl rfl rfl rfl rfl rfl rfl hE2 ?_
  exact l_cjT rfl rfl rfl (ih M2 L2 hJ2)

set_option maxHeartbeats 1000000 in
set_option maxRecDepth 10000 in
theorem law_drop {X : Scr} (hX : X.1 = true) {q : Nat} (hq : 4 * q + 4 ≤ X.2.1) (hL : X.2.1 ≤ 2048) {M : Mm} {ML : Ml} (hJ : J M) (ih : ∀ M' ML', J M' → LW X (1493, LL q, [], (SH, M', ML'))) : LW X (1245, LL q, [], (SH, M, ML)) := by
  have v1 : vp_in (nI (4 * q) + 1) X.2.1 := by rw [show nI (4 * q) + 1 = nI (4 * q + 1) from nI_add (4 * q) 1]; exact vp_in_nI (by omega) (by omega)
  obtain ⟨_, M1, L1, ⟨v, rfl, hE⟩, hE1⟩ := op_drop (d := 4) (e := 3) (ML := ML) (x := X.2.2 (nI (4 * q) + 1).toNatClampNeg) hJ
  obtain ⟨_, M2, L2, ⟨rfl, hJ2⟩, hE2⟩ := hE
  refine l_ld rfl rfl ?_
  refine l_ld rfl rfl ?_
  refine l_ld rfl rfl ?_
  refine l_cst (v := .int 1) rfl rfl ?_
  refine l_bin rfl rfl ?_
  refine l_scr rfl hX v1 ?_
  refine l_call (as := [_, _]) (rest := []) rfl rfl rfl rfl rfl rfl rfl rfl hE1 ?_
  refine l_ld rfl rfl ?_
  refine l_ld rfl rfl ?_
  refine l_ld rfl rfl ?_
  refine l_cst (v := .int 1) rfl rfl ?_
  refine l_bin rfl rfl ?_
  refine l_scr rfl hX v1 ?_
  refine l_call (as := [_, _]) (rest := [_]) rfl rfl rfl rfl rfl rfl rfl rfl hE2 ?_
  exact l_cjT rfl rfl rfl (ih M2 L2 hJ2)

set_option maxHeartbeats 1000000 in
set_option maxRecDepth 10000 in
theorem law_taken {X : Scr} (hX : X.1 = true) {q : Nat} (hq : 4 * q + 4 ≤ X.2.1) (hL : X.2.1 ≤ 2048) {M : Mm} {ML : Ml} (hJ : J M) (ih : ∀ M' ML', J M' → LW X (1493, LL q, [], (SH, M', ML'))) : LW X (1268, LL q, [], (SH, M, ML)) := by
  have v1 : vp_in (nI (4 * q) + 1) X.2.1 := by rw [show nI (4 * q) + 1 = nI (4 * q + 1) from nI_add (4 * q) 1]; exact vp_in_nI (by omega) (by omega)
  have v2 : vp_in (nI (4 * q) + 2) X.2.1 := by rw [show nI (4 * q) + 2 = nI (4 * q + 2) from nI_add (4 * q) 2]; exact vp_in_nI (by omega) (by omega)
  obtain ⟨_, M1, L1, ⟨v, rfl, hE⟩, hE1⟩ := op_taken (d := 4) (e := 3) (ML := ML) (x := X.2.2 (nI (4 * q) + 1).toNatClampNeg) (y := X.2.2 (nI (4 * q) + 2).toNatClampNeg) hJ
  obtain ⟨_, M2, L2, ⟨rfl, hJ2⟩, hE2⟩ := hE
  refine l_ld rfl rfl ?_
  refine l_ld rfl rfl ?_
  refine l_ld rfl rfl ?_
  refine l_cst (v := .int 1) rfl rfl ?_
  refine l_bin rfl rfl ?_
  refine l_scr rfl hX v1 ?_
  refine l_ld rfl rfl ?_
  refine l_ld rfl rfl ?_
  refine l_cst (v := .int 2) rfl rfl ?_
  refine l_bin rfl rfl ?_
  refine l_scr rfl hX v2 ?_
  refine l_call (as := [_, _, _]) (rest := []) rfl rfl rfl rfl rfl rfl rfl rfl hE1 ?_
  refine l_ld rfl rfl ?_
  refine l_ld rfl rfl ?_
  refine l_ld rfl rfl ?_
  refine l_cst (v := .int 1) rfl rfl ?_
  refine l_bin rfl rfl ?_
  refine l_scr rfl hX v1 ?_
  refine l_ld rfl rfl ?_
  refine l_ld rfl rfl ?_
  refine l_cst (v := .int 2) rfl rfl ?_
  refine l_bin rfl rfl ?_
  refine l_scr rfl hX v2 ?_
  refine l_call (as := [_, _, _]) (rest := [_]) rfl rfl rfl rfl rfl rfl rfl rfl hE2 ?_
  exact l_cjT rfl rfl rfl (ih M2 L2 hJ2)

set_option maxHeartbeats 1000000 in
set_option maxRecDepth 10000 in
theorem law_row {X : Scr} (hX : X.1 = true) {q : Nat} (hq : 4 * q + 4 ≤ X.2.1) (hL : X.2.1 ≤ 2048) {M : Mm} {ML : Ml} (hJ : J M) (ih : ∀ M' ML', J M' → LW X (1493, LL q, [], (SH, M', ML'))) : LW X (1301, LL q, [], (SH, M, ML)) := by
  have v1 : vp_in (nI (4 * q) + 1) X.2.1 := by rw [show nI (4 * q) + 1 = nI (4 * q + 1) from nI_add (4 * q) 1]; exact vp_in_nI (by omega) (by omega)
  have v2 : vp_in (nI (4 * q) + 2) X.2.1 := by rw [show nI (4 * q) + 2 = nI (4 * q + 2) from nI_add (4 * q) 2]; exact vp_in_nI (by omega) (by omega)
  obtain ⟨_, M1, L1, ⟨v, rfl, hE⟩, hE1⟩ := op_row (d := 3) (e := 3) (ML := ML) (x := X.2.2 (nI (4 * q) + 1).toNatClampNeg) (y := X.2.2 (nI (4 * q) + 2).toNatClampNeg) hJ
  obtain ⟨_, M2, L2, ⟨rfl, hJ2⟩, hE2⟩ := hE
  refine l_ld rfl rfl ?_
  refine l_ld rfl rfl ?_
  refine l_ld rfl rfl ?_
  refine l_cst (v := .int 1) rfl rfl ?_
  refine l_bin rfl rfl ?_
  refine l_scr rfl hX v1 ?_
  refine l_ld rfl rfl ?_
  refine l_ld rfl rfl ?_
  refine l_cst (v := .int 2) rfl rfl ?_
  refine l_bin rfl rfl ?_
  refine l_scr rfl hX v2 ?_
  refine l_call (as := [_, _, _]) (rest := []) rfl rfl rfl rfl rfl rfl rfl rfl hE1 ?_
  refine l_ld rfl rfl ?_
  refine l_ld rfl rfl ?_
  refine l_ld rfl rfl ?_
  refine l_cst (v := .int 1) rfl rfl ?_
  refine l_bin rfl rfl ?_
  refine l_scr rfl hX v1 ?_
  refine l_ld rfl rfl ?_
  refine l_ld rfl rfl ?_
  refine l_cst (v := .int 2) rfl rfl ?_
  refine l_bin rfl rfl ?_
  refine l_scr rfl hX v2 ?_
  refine l_call (as := [_, _, _]) (rest := [_]) rfl rfl rfl rfl rfl rfl rfl rfl hE2 ?_
  exact l_cjT rfl rfl rfl (ih M2 L2 hJ2)

set_option maxHeartbeats 1000000 in
set_option maxRecDepth 10000 in
theorem law_put {X : Scr} (hX : X.1 = true) {q : Nat} (hq : 4 * q + 4 ≤ X.2.1) (hL : X.2.1 ≤ 2048) {M : Mm} {ML : Ml} (hJ : J M) (ih : ∀ M' ML', J M' → LW X (1493, LL q, [], (SH, M', ML'))) : LW X (1334, LL q, [], (SH, M, ML)) := by
  have v1 : vp_in (nI (4 * q) + 1) X.2.1 := by rw [show nI (4 * q) + 1 = nI (4 * q + 1) from nI_add (4 * q) 1]; exact vp_in_nI (by omega) (by omega)
  have v2 : vp_in (nI (4 * q) + 2) X.2.1 := by rw [show nI (4 * q) + 2 = nI (4 * q + 2) from nI_add (4 * q) 2]; exact vp_in_nI (by omega) (by omega)
  have v3 : vp_in (nI (4 * q) + 3) X.2.1 := by rw [show nI (4 * q) + 3 = nI (4 * q + 3) from nI_add (4 * q) 3]; exact vp_in_nI (by omega) (by omega)
  obtain ⟨_, M1, L1, ⟨v, rfl, hE⟩, hE1⟩ := op_put (d := 4) (e := 2) (ML := ML) (x := X.2.2 (nI (4 * q) + 1).toNatClampNeg) (y := X.2.2 (nI (4 * q) + 2).toNatClampNeg) (z := X.2.2 (nI (4 * q) + 3).toNatClampNeg) hJ
  obtain ⟨_, M2, L2, ⟨rfl, hJ2⟩, hE2⟩ := hE
  refine l_ld rfl rfl ?_
  refine l_ld rfl rfl ?_
  refine l_ld rfl rfl ?_
  refine l_cst (v := .int 1) rfl rfl ?_
  refine l_bin rfl rfl ?_
  refine l_scr rfl hX v1 ?_
  refine l_ld rfl rfl ?_
  refine l_ld rfl rfl ?_
  refine l_cst (v := .int 2) rfl rfl ?_
  refine l_bin rfl rfl ?_
  refine l_scr rfl hX v2 ?_
  refine l_ld rfl rfl ?_
  refine l_ld rfl rfl ?_
  refine l_cst (v := .int 3) rfl rfl ?_
  refine l_bin rfl rfl ?_
  refine l_scr rfl hX v3 ?_
  refine l_call (as := [_, _, _, _]) (rest := []) rfl rfl rfl rfl rfl rfl rfl rfl hE1 ?_
  refine l_ld rfl rfl ?_
  refine l_ld rfl rfl ?_
  refine l_ld rfl rfl ?_
  refine l_cst (v := .int 1) rfl rfl ?_
  refine l_bin rfl rfl ?_
  refine l_scr rfl hX v1 ?_
  refine l_ld rfl rfl ?_
  refine l_ld rfl rfl ?_
  refine l_cst (v := .int 2) rfl rfl ?_
  refine l_bin rfl rfl ?_
  refine l_scr rfl hX v2 ?_
  refine l_ld rfl rfl ?_
  refine l_ld rfl rfl ?_
  refine l_cst (v := .int 3) rfl rfl ?_
  refine l_bin rfl rfl ?_
  refine l_scr rfl hX v3 ?_
  refine l_call (as := [_, _, _, _]) (rest := [_]) rfl rfl rfl rfl rfl rfl rfl rfl hE2 ?_
  exact l_cjT rfl rfl rfl (ih M2 L2 hJ2)

set_option maxHeartbeats 1000000 in
set_option maxRecDepth 10000 in
theorem law_get {X : Scr} (hX : X.1 = true) {q : Nat} (hq : 4 * q + 4 ≤ X.2.1) (hL : X.2.1 ≤ 2048) {M : Mm} {ML : Ml} (hJ : J M) (ih : ∀ M' ML', J M' → LW X (1493, LL q, [], (SH, M', ML'))) : LW X (1377, LL q, [], (SH, M, ML)) := by
  have v1 : vp_in (nI (4 * q) + 1) X.2.1 := by rw [show nI (4 * q) + 1 = nI (4 * q + 1) from nI_add (4 * q) 1]; exact vp_in_nI (by omega) (by omega)
  have v2 : vp_in (nI (4 * q) + 2) X.2.1 := by rw [show nI (4 * q) + 2 = nI (4 * q + 2) from nI_add (4 * q) 2]; exact vp_in_nI (by omega) (by omega)
  obtain ⟨_, M1, L1, ⟨v, rfl, hE⟩, hE1⟩ := op_get (d := 4) (e := 2) (ML := ML) (x := X.2.2 (nI (4 * q) + 1).toNatClampNeg) (y := X.2.2 (nI (4 * q) + 2).toNatClampNeg) hJ
  obtain ⟨_, M2, L2, ⟨rfl, hJ2⟩, hE2⟩ := hE
  refine l_ld rfl rfl ?_
  refine l_ld rfl rfl ?_
  refine l_ld rfl rfl ?_
  refine l_cst (v := .int 1) rfl rfl ?_
  refine l_bin rfl rfl ?_
  refine l_scr rfl hX v1 ?_
  refine l_ld rfl rfl ?_
  refine l_ld rfl rfl ?_
  refine l_cst (v := .int 2) rfl rfl ?_
  refine l_bin rfl rfl ?_
  refine l_scr rfl hX v2 ?_
  refine l_call (as := [_, _, _]) (rest := []) rfl rfl rfl rfl rfl rfl rfl rfl hE1 ?_
  refine l_ld rfl rfl ?_
  refine l_ld rfl rfl ?_
  refine l_ld rfl rfl ?_
  refine l_cst (v := .int 1) rfl rfl ?_
  refine l_bin rfl rfl ?_
  refine l_scr rfl hX v1 ?_
  refine l_ld rfl rfl ?_
  refine l_ld rfl rfl ?_
  refine l_cst (v := .int 2) rfl rfl ?_
  refine l_bin rfl rfl ?_
  refine l_scr rfl hX v2 ?_
  refine l_call (as := [_, _, _]) (rest := [_]) rfl rfl rfl rfl rfl rfl rfl rfl hE2 ?_
  refine l_bin rfl rfl ?_
  exact l_cjT rfl rfl ((lg_cmp_eq _ _).mpr rfl) (ih M2 L2 hJ2)

set_option maxHeartbeats 1000000 in
set_option maxRecDepth 10000 in
theorem law_judge {X : Scr} (hX : X.1 = true) {q : Nat} (hq : 4 * q + 4 ≤ X.2.1) (hL : X.2.1 ≤ 2048) {M : Mm} {ML : Ml} (hJ : J M) (ih : ∀ M' ML', J M' → LW X (1493, LL q, [], (SH, M', ML'))) : LW X (1411, LL q, [], (SH, M, ML)) := by
  have v1 : vp_in (nI (4 * q) + 1) X.2.1 := by rw [show nI (4 * q) + 1 = nI (4 * q + 1) from nI_add (4 * q) 1]; exact vp_in_nI (by omega) (by omega)
  have v2 : vp_in (nI (4 * q) + 2) X.2.1 := by rw [show nI (4 * q) + 2 = nI (4 * q + 2) from nI_add (4 * q) 2]; exact vp_in_nI (by omega) (by omega)
  obtain ⟨_, M1, L1, ⟨v, rfl, hE⟩, hE1⟩ := op_judge (d := 2) (e := 2) (ML := ML) (x := X.2.2 (nI (4 * q) + 1).toNatClampNeg) (y := X.2.2 (nI (4 * q) + 2).toNatClampNeg) hJ
  obtain ⟨_, M2, L2, ⟨rfl, hJ2⟩, hE2⟩ := hE
  refine l_ld rfl rfl ?_
  refine l_ld rfl rfl ?_
  refine l_ld rfl rfl ?_
  refine l_cst (v := .int 1) rfl rfl ?_
  refine l_bin rfl rfl ?_
  refine l_scr rfl hX v1 ?_
  refine l_ld rfl rfl ?_
  refine l_ld rfl rfl ?_
  refine l_cst (v := .int 2) rfl rfl ?_
  refine l_bin rfl rfl ?_
  refine l_scr rfl hX v2 ?_
  refine l_call (as := [_, _, _]) (rest := []) rfl rfl rfl rfl rfl rfl rfl rfl hE1 ?_
  refine l_ld rfl rfl ?_
  refine l_ld rfl rfl ?_
  refine l_ld rfl rfl ?_
  refine l_cst (v := .int 1) rfl rfl ?_
  refine l_bin rfl rfl ?_
  refine l_scr rfl hX v1 ?_
  refine l_ld rfl rfl ?_
  refine l_ld rfl rfl ?_
  refine l_cst (v := .int 2) rfl rfl ?_
  refine l_bin rfl rfl ?_
  refine l_scr rfl hX v2 ?_
  refine l_call (as := [_, _, _]) (rest := [_]) rfl rfl rfl rfl rfl rfl rfl rfl hE2 ?_
  exact l_cjT rfl rfl rfl (ih M2 L2 hJ2)

set_option maxHeartbeats 1000000 in
set_option maxRecDepth 10000 in
theorem law_image {X : Scr} (hX : X.1 = true) {q : Nat} (hq : 4 * q + 4 ≤ X.2.1) (hL : X.2.1 ≤ 2048) {M : Mm} {ML : Ml} (hJ : J M) (ih : ∀ M' ML', J M' → LW X (1493, LL q, [], (SH, M', ML'))) : LW X (1444, LL q, [], (SH, M, ML)) := by
  obtain ⟨_, M1, L1, ⟨v, rfl, hE⟩, hE1⟩ := op_image (d := 2) (e := 5) (ML := ML) hJ
  obtain ⟨_, M2, L2, ⟨rfl, hJ2⟩, hE2⟩ := hE
  refine l_ld rfl rfl ?_
  refine l_call (as := [_]) (rest := []) rfl rfl rfl rfl rfl rfl rfl rfl hE1 ?_
  refine l_ld rfl rfl ?_
  refine l_call (as := [_]) (rest := [_]) rfl rfl rfl rfl rfl rfl rfl rfl hE2 ?_
  exact l_cjT rfl rfl rfl (ih M2 L2 hJ2)

set_option maxHeartbeats 1000000 in
set_option maxRecDepth 10000 in
theorem law_undo {X : Scr} (hX : X.1 = true) {q : Nat} (hq : 4 * q + 4 ≤ X.2.1) (hL : X.2.1 ≤ 2048) {M : Mm} {ML : Ml} (hJ : J M) (ih : ∀ M' ML', J M' → LW X (1493, LL q, [], (SH, M', ML'))) : LW X (1457, LL q, [], (SH, M, ML)) := by
  obtain ⟨_, M1, L1, ⟨v, rfl, hE⟩, hE1⟩ := op_undo (d := 0) (e := 5) (ML := ML) hJ
  obtain ⟨_, M2, L2, ⟨rfl, hJ2⟩, hE2⟩ := hE
  refine l_ld rfl rfl ?_
  refine l_call (as := [_]) (rest := []) rfl rfl rfl rfl rfl rfl rfl rfl hE1 ?_
  refine l_ld rfl rfl ?_
  refine l_call (as := [_]) (rest := [_]) rfl rfl rfl rfl rfl rfl rfl rfl hE2 ?_
  exact l_cjT rfl rfl rfl (ih M2 L2 hJ2)

set_option maxHeartbeats 1000000 in
set_option maxRecDepth 10000 in
theorem law_count {X : Scr} (hX : X.1 = true) {q : Nat} (hq : 4 * q + 4 ≤ X.2.1) (hL : X.2.1 ≤ 2048) {M : Mm} {ML : Ml} (hJ : J M) (ih : ∀ M' ML', J M' → LW X (1493, LL q, [], (SH, M', ML'))) : LW X (1470, LL q, [], (SH, M, ML)) := by
  have v1 : vp_in (nI (4 * q) + 1) X.2.1 := by rw [show nI (4 * q) + 1 = nI (4 * q + 1) from nI_add (4 * q) 1]; exact vp_in_nI (by omega) (by omega)
  obtain ⟨_, M1, L1, ⟨v, rfl, hE⟩, hE1⟩ := op_count (d := 5) (e := 4) (ML := ML) (y := X.2.2 (nI (4 * q) + 1).toNatClampNeg) hJ
  obtain ⟨_, M2, L2, ⟨rfl, hJ2⟩, hE2⟩ := hE
  refine l_ld rfl rfl ?_
  refine l_ld rfl rfl ?_
  refine l_ld rfl rfl ?_
  refine l_cst (v := .int 1) rfl rfl ?_
  refine l_bin rfl rfl ?_
  refine l_scr rfl hX v1 ?_
  refine l_call (as := [_, _]) (rest := []) rfl rfl rfl rfl rfl rfl rfl rfl hE1 ?_
  refine l_ld rfl rfl ?_
  refine l_ld rfl rfl ?_
  refine l_ld rfl rfl ?_
  refine l_cst (v := .int 1) rfl rfl ?_
  refine l_bin rfl rfl ?_
  refine l_scr rfl hX v1 ?_
  refine l_call (as := [_, _]) (rest := [_]) rfl rfl rfl rfl rfl rfl rfl rfl hE2 ?_
  exact l_cjT rfl rfl rfl (ih M2 L2 hJ2)

