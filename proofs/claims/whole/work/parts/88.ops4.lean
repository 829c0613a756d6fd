/-! ===== the holders ===== -/
theorem ok_X11_drop_i {d : Nat} {M : Mm} {ML : Ml} {i : Nat} (hi : i < 6)  : Ex (d + 2) k_X11_drop [.ref 1, .int (nI i)] (SH, M, ML) (some (.int (M (61 + 2 * i) 0)), (SH, up2 (up2 (up2 M (61 + 2 * i) 0 0) (61 + 2 * i) 1 0) (61 + 2 * i) 2 0, ML)) := by
  match i, hi with
  | 0, _ => exact ok_X11_drop_0 d M ML
  | 1, _ => exact ok_X11_drop_1 d M ML
  | 2, _ => exact ok_X11_drop_2 d M ML
  | 3, _ => exact ok_X11_drop_3 d M ML
  | 4, _ => exact ok_X11_drop_4 d M ML
  | 5, _ => exact ok_X11_drop_5 d M ML

theorem ok_X11_taken_i {d : Nat} {M : Mm} {ML : Ml} {i : Nat} (hi : i < 6) {y : Int32} (hy : 0 ≤ y ∧ y ≤ 2) : Ex (d + 2) k_X11_taken [.ref 1, .int (nI i), .int y] (SH, M, ML) (some (.int (tkV (M (61 + 2 * i) 0) y (M (61 + 2 * i) 1) (M (61 + 2 * i) 2))), (SH, M, ML)) := by
  match i, hi with
  | 0, _ => exact ok_X11_taken_0 d M ML y hy
  | 1, _ => exact ok_X11_taken_1 d M ML y hy
  | 2, _ => exact ok_X11_taken_2 d M ML y hy
  | 3, _ => exact ok_X11_taken_3 d M ML y hy
  | 4, _ => exact ok_X11_taken_4 d M ML y hy
  | 5, _ => exact ok_X11_taken_5 d M ML y hy

theorem ok_X11_taken_b_i {d : Nat} {M : Mm} {ML : Ml} {i : Nat} (hi : i < 6) {y : Int32} (hy : ¬ (0 ≤ y ∧ y ≤ 2)) : Ex (d + 2) k_X11_taken [.ref 1, .int (nI i), .int y] (SH, M, ML) (some (.int (-1)), (SH, M, ML)) := by
  match i, hi with
  | 0, _ => exact ok_X11_taken_b_0 d M ML y hy
  | 1, _ => exact ok_X11_taken_b_1 d M ML y hy
  | 2, _ => exact ok_X11_taken_b_2 d M ML y hy
  | 3, _ => exact ok_X11_taken_b_3 d M ML y hy
  | 4, _ => exact ok_X11_taken_b_4 d M ML y hy
  | 5, _ => exact ok_X11_taken_b_5 d M ML y hy

theorem ok_X11_row_i {d : Nat} {M : Mm} {ML : Ml} {i : Nat} (hi : i < 6) {v : Int32} (hv : 0 ≤ v ∧ v ≤ 20) : Ex (d + 3) k_X11_row [.ref 1, .int (nI i), .int v] (SH, M, ML) (some (.int v), (SH, zro (up2 (up2 (up2 M (61 + 2 * i) 0 3) (61 + 2 * i) 1 0) (61 + 2 * i) 2 v) (62 + 2 * i) 20, ML)) := by
  match i, hi with
  | 0, _ => exact ok_X11_row_0 d M ML v hv
  | 1, _ => exact ok_X11_row_1 d M ML v hv
  | 2, _ => exact ok_X11_row_2 d M ML v hv
  | 3, _ => exact ok_X11_row_3 d M ML v hv
  | 4, _ => exact ok_X11_row_4 d M ML v hv
  | 5, _ => exact ok_X11_row_5 d M ML v hv

theorem ok_X11_row_b_i {d : Nat} {M : Mm} {ML : Ml} {i : Nat} (hi : i < 6) {v : Int32} (hv : ¬ v ≤ 20) : Ex (d + 3) k_X11_row [.ref 1, .int (nI i), .int v] (SH, M, ML) (some (.int (-1)), (SH, M, ML)) := by
  match i, hi with
  | 0, _ => exact ok_X11_row_b_0 d M ML v hv
  | 1, _ => exact ok_X11_row_b_1 d M ML v hv
  | 2, _ => exact ok_X11_row_b_2 d M ML v hv
  | 3, _ => exact ok_X11_row_b_3 d M ML v hv
  | 4, _ => exact ok_X11_row_b_4 d M ML v hv
  | 5, _ => exact ok_X11_row_b_5 d M ML v hv

theorem ok_X11_row_c_i {d : Nat} {M : Mm} {ML : Ml} {i : Nat} (hi : i < 6) {v : Int32} (hv : ¬ 0 ≤ v) (hv2 : v ≤ 20) : Ex (d + 3) k_X11_row [.ref 1, .int (nI i), .int v] (SH, M, ML) (some (.int (-14)), (SH, M, ML)) := by
  match i, hi with
  | 0, _ => exact ok_X11_row_c_0 d M ML v hv hv2
  | 1, _ => exact ok_X11_row_c_1 d M ML v hv hv2
  | 2, _ => exact ok_X11_row_c_2 d M ML v hv hv2
  | 3, _ => exact ok_X11_row_c_3 d M ML v hv hv2
  | 4, _ => exact ok_X11_row_c_4 d M ML v hv hv2
  | 5, _ => exact ok_X11_row_c_5 d M ML v hv hv2

theorem ok_X11_put_b_i {d : Nat} {M : Mm} {ML : Ml} {i : Nat} (hi : i < 6) {y z : Int32} (h0 : ¬ nrV (M (61 + 2 * i) 0) = 0) : Ex (d + 2) k_X11_put [.ref 1, .int (nI i), .int y, .int z] (SH, M, ML) (some (.int (nrV (M (61 + 2 * i) 0))), (SH, M, ML)) := by
  match i, hi, h0 with
  | 0, _, h0 => exact ok_X11_put_b_0 d M ML y z h0
  | 1, _, h0 => exact ok_X11_put_b_1 d M ML y z h0
  | 2, _, h0 => exact ok_X11_put_b_2 d M ML y z h0
  | 3, _, h0 => exact ok_X11_put_b_3 d M ML y z h0
  | 4, _, h0 => exact ok_X11_put_b_4 d M ML y z h0
  | 5, _, h0 => exact ok_X11_put_b_5 d M ML y z h0

theorem ok_X11_put_c_i {d : Nat} {M : Mm} {ML : Ml} {i : Nat} (hi : i < 6) {y z : Int32} (h0 : nrV (M (61 + 2 * i) 0) = 0) (hy : ¬ (0 ≤ y ∧ y < M (61 + 2 * i) 2)) : Ex (d + 2) k_X11_put [.ref 1, .int (nI i), .int y, .int z] (SH, M, ML) (some (.int (-13)), (SH, M, ML)) := by
  match i, hi, h0, hy with
  | 0, _, h0, hy => exact ok_X11_put_c_0 d M ML y z h0 hy
  | 1, _, h0, hy => exact ok_X11_put_c_1 d M ML y z h0 hy
  | 2, _, h0, hy => exact ok_X11_put_c_2 d M ML y z h0 hy
  | 3, _, h0, hy => exact ok_X11_put_c_3 d M ML y z h0 hy
  | 4, _, h0, hy => exact ok_X11_put_c_4 d M ML y z h0 hy
  | 5, _, h0, hy => exact ok_X11_put_c_5 d M ML y z h0 hy

theorem ok_X11_put_y_i {d : Nat} {M : Mm} {ML : Ml} {i : Nat} (hi : i < 6) {z : Int32} {k n : Nat} (h0 : nrV (M (61 + 2 * i) 0) = 0) (hn : M (61 + 2 * i) 2 = nI n) (hk : k < n) (hn2 : n ≤ 20) : Ex (d + 2) k_X11_put [.ref 1, .int (nI i), .int (nI k), .int z] (SH, M, ML) (some (.int 1), (SH, up2 M (62 + 2 * i) k z, ML)) := by
  match i, hi, h0, hn with
  | 0, _, h0, hn => exact ok_X11_put_y_0 d M ML z h0 hn hk hn2
  | 1, _, h0, hn => exact ok_X11_put_y_1 d M ML z h0 hn hk hn2
  | 2, _, h0, hn => exact ok_X11_put_y_2 d M ML z h0 hn hk hn2
  | 3, _, h0, hn => exact ok_X11_put_y_3 d M ML z h0 hn hk hn2
  | 4, _, h0, hn => exact ok_X11_put_y_4 d M ML z h0 hn hk hn2
  | 5, _, h0, hn => exact ok_X11_put_y_5 d M ML z h0 hn hk hn2

theorem ok_X11_get_b_i {d : Nat} {M : Mm} {ML : Ml} {i : Nat} (hi : i < 6) {y : Int32} (h0 : ¬ nrV (M (61 + 2 * i) 0) = 0) : Ex (d + 2) k_X11_get [.ref 1, .int (nI i), .int y] (SH, M, ML) (some (.long (Int64.ofInt (-9223372036854775808))), (SH, M, ML)) := by
  match i, hi, h0 with
  | 0, _, h0 => exact ok_X11_get_b_0 d M ML y h0
  | 1, _, h0 => exact ok_X11_get_b_1 d M ML y h0
  | 2, _, h0 => exact ok_X11_get_b_2 d M ML y h0
  | 3, _, h0 => exact ok_X11_get_b_3 d M ML y h0
  | 4, _, h0 => exact ok_X11_get_b_4 d M ML y h0
  | 5, _, h0 => exact ok_X11_get_b_5 d M ML y h0

theorem ok_X11_get_c_i {d : Nat} {M : Mm} {ML : Ml} {i : Nat} (hi : i < 6) {y : Int32} (h0 : nrV (M (61 + 2 * i) 0) = 0) (hy : ¬ (0 ≤ y ∧ y < M (61 + 2 * i) 2)) : Ex (d + 2) k_X11_get [.ref 1, .int (nI i), .int y] (SH, M, ML) (some (.long (Int64.ofInt (-9223372036854775808))), (SH, M, ML)) := by
  match i, hi, h0, hy with
  | 0, _, h0, hy => exact ok_X11_get_c_0 d M ML y h0 hy
  | 1, _, h0, hy => exact ok_X11_get_c_1 d M ML y h0 hy
  | 2, _, h0, hy => exact ok_X11_get_c_2 d M ML y h0 hy
  | 3, _, h0, hy => exact ok_X11_get_c_3 d M ML y h0 hy
  | 4, _, h0, hy => exact ok_X11_get_c_4 d M ML y h0 hy
  | 5, _, h0, hy => exact ok_X11_get_c_5 d M ML y h0 hy

theorem ok_X11_get_y_i {d : Nat} {M : Mm} {ML : Ml} {i : Nat} (hi : i < 6) {k n : Nat} (h0 : nrV (M (61 + 2 * i) 0) = 0) (hn : M (61 + 2 * i) 2 = nI n) (hk : k < n) (hn2 : n ≤ 20) : Ex (d + 2) k_X11_get [.ref 1, .int (nI i), .int (nI k)] (SH, M, ML) (some (.long (M (62 + 2 * i) k).toInt64), (SH, M, ML)) := by
  match i, hi, h0, hn with
  | 0, _, h0, hn => exact ok_X11_get_y_0 d M ML h0 hn hk hn2
  | 1, _, h0, hn => exact ok_X11_get_y_1 d M ML h0 hn hk hn2
  | 2, _, h0, hn => exact ok_X11_get_y_2 d M ML h0 hn hk hn2
  | 3, _, h0, hn => exact ok_X11_get_y_3 d M ML h0 hn hk hn2
  | 4, _, h0, hn => exact ok_X11_get_y_4 d M ML h0 hn hk hn2
  | 5, _, h0, hn => exact ok_X11_get_y_5 d M ML h0 hn hk hn2

theorem ok_X11_hold_i {d : Nat} {M : Mm} {ML : Ml} {i : Nat} (hi : i < 6) {N E A : Nat} {l h : Nat → Nat} (hS : NS M 2 3 4 5 6 N E A l h) (hW : WN N E A l h) {w v : Int32} : EX (d + 4) k_X11_hold [.ref 1, .int (nI i), .int w, .int v] M ML (fun r M2 L2 => (hdB N E w v = false → r = some (.int (-1)) ∧ L2 = ML ∧ Fr [40] M M2) ∧ (hdB N E w v = true → r = some (.int v) ∧ L2 = ML ∧ ∃ M3, Fr [40] M M3 ∧ M2 = up2 (up2 (up2 M3 (61 + 2 * i) 0 (w + 1)) (61 + 2 * i) 1 v) (61 + 2 * i) 2 (if w = 0 then nI E else nI N))) := by
  match i, hi with
  | 0, _ => exact ok_X11_hold_0 hS hW
  | 1, _ => exact ok_X11_hold_1 hS hW
  | 2, _ => exact ok_X11_hold_2 hS hW
  | 3, _ => exact ok_X11_hold_3 hS hW
  | 4, _ => exact ok_X11_hold_4 hS hW
  | 5, _ => exact ok_X11_hold_5 hS hW

theorem ok_X11_judge_n_i {d : Nat} {M : Mm} {ML : Ml} {i : Nat} (hi : i < 6) {N E A : Nat} {l h : Nat → Nat} (hS : NS M 2 3 4 5 6 N E A l h) (hW : WN N E A l h) (hR : RG M E l h) {x : Int32} (hq : inR x (2 ^ E) = false ∨ ¬ nrV (M (61 + 2 * i) 0) = 0) {n : Nat} {f : Nat → Int32} : EX (d + 4) k_X11_judge [.ref 1, .int (nI i), .int x] M ML (fun r M2 L2 => r = some (.int (jdV l h E x (M (61 + 2 * i) 0) n f)) ∧ L2 = ML ∧ M2 = M) := by
  match i, hi, hq with
  | 0, _, hq => exact ok_X11_judge_n0 hS hW hR hq
  | 1, _, hq => exact ok_X11_judge_n1 hS hW hR hq
  | 2, _, hq => exact ok_X11_judge_n2 hS hW hR hq
  | 3, _, hq => exact ok_X11_judge_n3 hS hW hR hq
  | 4, _, hq => exact ok_X11_judge_n4 hS hW hR hq
  | 5, _, hq => exact ok_X11_judge_n5 hS hW hR hq

theorem ok_X11_judge_y_i {d : Nat} {M : Mm} {ML : Ml} {i : Nat} (hi : i < 6) {N E A : Nat} {l h : Nat → Nat} (hS : NS M 2 3 4 5 6 N E A l h) (hW : WN N E A l h) (hR : RG M E l h) {a n : Nat} (ha : a < 2 ^ E) (h0 : nrV (M (61 + 2 * i) 0) = 0) (hn : M (61 + 2 * i) 2 = nI n) (hn20 : n ≤ 20) : EX (d + 4) k_X11_judge [.ref 1, .int (nI i), .int (nI a)] M ML (fun r M2 L2 => r = some (.int (jdR l h E (nI a) n (M (62 + 2 * i)))) ∧ L2 = ML ∧ M2 = M) := by
  match i, hi, h0, hn with
  | 0, _, h0, hn => exact ok_X11_judge_y0 hS hW hR ha h0 hn hn20
  | 1, _, h0, hn => exact ok_X11_judge_y1 hS hW hR ha h0 hn hn20
  | 2, _, h0, hn => exact ok_X11_judge_y2 hS hW hR ha h0 hn hn20
  | 3, _, h0, hn => exact ok_X11_judge_y3 hS hW hR ha h0 hn hn20
  | 4, _, h0, hn => exact ok_X11_judge_y4 hS hW hR ha h0 hn hn20
  | 5, _, h0, hn => exact ok_X11_judge_y5 hS hW hR ha h0 hn hn20

/-- only holder i has changed, in both -/
def HF (i : Nat) (M M' : Mm) : Prop := (∀ x, x ≠ 61 + 2 * i → x ≠ 62 + 2 * i → x ≠ 81 → x ≠ 82 → x ≠ 83 → x ≠ 84 → M' x = M x) ∧ (∀ j, j ≠ i → M' 81 j = M 81 j ∧ M' 82 j = M 82 j ∧ M' 83 j = M 83 j) ∧ ∀ y, (y < 20 * i ∨ 20 * i + 20 ≤ y) → M' 84 y = M 84 y
theorem HR_u {M M' : Mm} {i : Nat} (hi : i < 6) (q : HR M) (f : HF i M M') (u : HR1 M' i) : HR M' := by
  intro j hj
  by_cases c : j = i
  · rw [c]
    exact u
  · have w := q j hj
    unfold HR1 at w ⊢
    have g := f.2.1 j c
    rw [f.1 (61 + 2 * j) (by omega) (by omega) (by omega) (by omega) (by omega) (by omega), f.1 (62 + 2 * j) (by omega) (by omega) (by omega) (by omega) (by omega) (by omega), g.1, g.2.1, g.2.2]
    refine ⟨w.1, w.2.imp (fun z => z) (fun z => z.imp (fun z => z) (fun z => ⟨z.1, ?_⟩))⟩
    obtain ⟨n, n1, n2, n3, n4⟩ := z.2
    exact ⟨n, n1, n2, n3, fun k hk => (n4 k hk).trans (f.2.2 (20 * j + k) (by omega)).symm⟩
theorem JS_h {M M' : Mm} {i : Nat} {N E A : Nat} {l h : Nat → Nat} {L : List (Nat × Bool)} {F : List (Nat × Nat)} {B : List Int32} (q : JS M N E A l h L F B) (hi : i < 6) (f : HF i M M') (u : HR1 M' i) : JS M' N E A l h L F B := by
  obtain ⟨h1, h2, h3, h4, h5⟩ := q
  have e : ∀ x, x < 61 ∨ (73 ≤ x ∧ x ≤ 80) ∨ x = 101 → M' x = M x := fun x hx => f.1 x (by omega) (by omega) (by omega) (by omega) (by omega) (by omega)
  have h2' := h2
  obtain ⟨-, -, -, -, -, hc, hr, hw⟩ := h2'
  exact ⟨h1, JC_e h2 (fun x hx => e x (by revert hx; simp [TC]; omega)) (hfC_e hc (fun x hx => e x (by revert hx; simp [TCc]; omega))) (hfR_e hr (fun x hx => e x (by revert hx; simp [TCr]; omega))) (WS_e hw (fun x hx => e x (by revert hx; simp [TCw]; omega))), JM_e h3 (fun x hx => e x (by revert hx; simp; omega)) (fun k _ => congrFun (e 73 (by omega)) k), HR_u hi h4 f u, IMJ_e h5 (fun x hx => e x (by revert hx; simp [TI]; omega)) (congrFun (e 73 (by omega)) 39)⟩
theorem hx5 {x : Int32} : (0 ≤ x ∧ x < 6) ↔ (0 ≤ x ∧ x ≤ 5) := by
  rw [Int32.lt_iff_toInt_lt, Int32.le_iff_toInt_le, Int32.le_iff_toInt_le]
  have e1 : (6 : Int32).toInt = 6 := rfl
  have e2 : (5 : Int32).toInt = 5 := rfl
  have e3 : (0 : Int32).toInt = 0 := rfl
  omega
theorem hl_ex {x : Int32} (q : 0 ≤ x ∧ x ≤ 5) : ∃ i, i < 6 ∧ x = nI i := ho_ex (decide_eq_true q)
theorem nrV_3 {H : Int32} (q : nrV H = 0) : H = 3 := by
  unfold nrV at q
  by_cases c : H = 0
  · rw [if_pos c] at q
    exact absurd q (by decide)
  · rw [if_neg c] at q
    by_cases c2 : H = 3
    · exact c2
    · rw [if_neg c2] at q
      exact absurd q (by decide)
theorem HR1_3 {M : Mm} {i : Nat} (q : HR1 M i) (z : nrV (M 81 i) = 0) : M 81 i = 3 ∧ ∃ n, n ≤ 20 ∧ M (61 + 2 * i) 2 = nI n ∧ M 83 i = nI n ∧ ∀ j, j < n → M (62 + 2 * i) j = M 84 (20 * i + j) := by
  have e := nrV_3 z
  obtain ⟨-, q2⟩ := q
  rcases q2 with w | w | w
  · exact absurd (w.symm.trans e) (by decide)
  · rcases w.1 with y | y
    · exact absurd (y.symm.trans e) (by decide)
    · exact absurd (y.symm.trans e) (by decide)
  · exact w

theorem op_drop {d e : Nat} {M : Mm} {ML : Ml} {x : Int32} (hJ : J M) : EX (d + 2) k_X11_drop [.ref 1, .int x] M ML (fun r M1 L1 => ∃ v, r = some (.int v) ∧ EX (e + 3) k_X12_drop [.ref 73, .int x] M1 L1 (fun r2 M2 L2 => r2 = some (.int v) ∧ J M2)) := by
  obtain ⟨N, E, A, l, h, L, F, B, hs⟩ := hJ
  have hs0 := hs
  obtain ⟨hW, ⟨hS, hL, hF, hB, hR, hc, hr, hw⟩, ⟨mS, mL, mF, mB⟩, hH, hI⟩ := hs0
  by_cases w : 0 ≤ x ∧ x ≤ 5
  · obtain ⟨i, hi, rfl⟩ := hl_ex w
    have hu := hH i hi
    have hu' := hu
    obtain ⟨u1, u2⟩ := hu'
    refine EX_of (ok_X11_drop_i hi) ?_
    have e := ok_X12_drop_y e (up2 (up2 (up2 M (61 + 2 * i) 0 0) (61 + 2 * i) 1 0) (61 + 2 * i) 2 0) ML hi
    rw [up2_row (x := 81) (a := 61 + 2 * i) (by omega), up2_row (x := 81) (a := 61 + 2 * i) (by omega), up2_row (x := 81) (a := 61 + 2 * i) (by omega), ← u1] at e
    refine ⟨_, rfl, EX_of e ⟨rfl, JS_J (JS_h hs hi ⟨fun x a1 a2 a3 a4 a5 a6 => ?_, fun j hj => ⟨?_, ?_, ?_⟩, fun y hy => ?_⟩ ⟨?_, Or.inl ?_⟩)⟩⟩
    · rw [up2_row a3, up2_row a1, up2_row a1, up2_row a1]
    · rw [up2_k hj, up2_row (by omega), up2_row (by omega), up2_row (by omega)]
    · rw [up2_row (by decide), up2_row (by omega), up2_row (by omega), up2_row (by omega)]
    · rw [up2_row (by decide), up2_row (by omega), up2_row (by omega), up2_row (by omega)]
    · rw [up2_row (by decide), up2_row (by omega), up2_row (by omega), up2_row (by omega)]
    · rw [up2_e, up2_row (by omega), up2_k (by decide), up2_k (by decide), up2_e]
    · rw [up2_e]
  · have hx : ¬ (0 ≤ x ∧ x < 6) := fun q => w (hx5.mp q)
    exact EX_of (ok_X11_drop_n d M ML hx) ⟨_, rfl, EX_of (ok_X12_drop_n e M ML w) ⟨rfl, JS_J hs⟩⟩

theorem tk_eq {M : Mm} {i : Nat} (q : HR1 M i) (y : Int32) : tkV (M (61 + 2 * i) 0) y (M (61 + 2 * i) 1) (M (61 + 2 * i) 2) = tkV (M 81 i) y (M 82 i) (M 83 i) := by
  obtain ⟨q1, q2⟩ := q
  rw [q1]
  rcases q2 with w | w | w
  · rw [w]
    rfl
  · rw [w.2.1, w.2.2]
  · rw [w.1]
    unfold tkV
    rw [if_neg (by decide), if_pos (Or.inl rfl), if_neg (by decide), if_pos (Or.inl rfl)]

theorem op_taken {d e : Nat} {M : Mm} {ML : Ml} {x y : Int32} (hJ : J M) : EX (d + 2) k_X11_taken [.ref 1, .int x, .int y] M ML (fun r M1 L1 => ∃ v, r = some (.int v) ∧ EX (e + 3) k_X12_taken [.ref 73, .int x, .int y] M1 L1 (fun r2 M2 L2 => r2 = some (.int v) ∧ J M2)) := by
  obtain ⟨N, E, A, l, h, L, F, B, hs⟩ := hJ
  have hs0 := hs
  obtain ⟨hW, ⟨hS, hL, hF, hB, hR, hc, hr, hw⟩, ⟨mS, mL, mF, mB⟩, hH, hI⟩ := hs0
  by_cases wy : 0 ≤ y ∧ y ≤ 2
  · by_cases w : 0 ≤ x ∧ x ≤ 5
    · obtain ⟨i, hi, rfl⟩ := hl_ex w
      have x1 := ok_X11_taken_i (d := d) (M := M) (ML := ML) hi wy
      rw [tk_eq (hH i hi)] at x1
      exact EX_of x1 ⟨_, rfl, EX_of (ok_X12_taken_y e M ML hi y wy) ⟨rfl, JS_J hs⟩⟩
    · exact EX_of (ok_X11_taken_n d M ML (fun q => w (hx5.mp q)) y) ⟨_, rfl, EX_of (ok_X12_taken_n e M ML w y) ⟨rfl, JS_J hs⟩⟩
  · by_cases w : 0 ≤ x ∧ x ≤ 5
    · obtain ⟨i, hi, rfl⟩ := hl_ex w
      exact EX_of (ok_X11_taken_b_i hi wy) ⟨_, rfl, EX_of (ok_X12_taken_b e M ML wy) ⟨rfl, JS_J hs⟩⟩
    · exact EX_of (ok_X11_taken_n d M ML (fun q => w (hx5.mp q)) y) ⟨_, rfl, EX_of (ok_X12_taken_n e M ML w y) ⟨rfl, JS_J hs⟩⟩

theorem op_put {d e : Nat} {M : Mm} {ML : Ml} {x y z : Int32} (hJ : J M) : EX (d + 2) k_X11_put [.ref 1, .int x, .int y, .int z] M ML (fun r M1 L1 => ∃ v, r = some (.int v) ∧ EX (e + 4) k_X12_put [.ref 73, .int x, .int y, .int z] M1 L1 (fun r2 M2 L2 => r2 = some (.int v) ∧ J M2)) := by
  obtain ⟨N, E, A, l, h, L, F, B, hs⟩ := hJ
  have hs0 := hs
  obtain ⟨hW, ⟨hS, hL, hF, hB, hR, hc, hr, hw⟩, ⟨mS, mL, mF, mB⟩, hH, hI⟩ := hs0
  by_cases w : 0 ≤ x ∧ x ≤ 5
  · obtain ⟨i, hi, rfl⟩ := hl_ex w
    have hu := hH i hi
    have hu' := hu
    obtain ⟨u1, u2⟩ := hu'
    by_cases z0 : nrV (M 81 i) = 0
    · obtain ⟨k3, n, n1, n2, n3, n4⟩ := HR1_3 hu z0
      have z1 : nrV (M (61 + 2 * i) 0) = 0 := by rw [u1]; exact z0
      by_cases wy : 0 ≤ y ∧ y < nI n
      · obtain ⟨k, hk, rfl⟩ := inR_ex (v := y) (n := n) (by omega) (decide_eq_true wy)
        refine EX_of (ok_X11_put_y_i hi z1 n2 hk n1) ?_
        have e := ok_X12_put_y e (up2 M (62 + 2 * i) k z) ML hi z (k := k) (n := n) (by rw [up2_row (by omega)]; exact z0) (by rw [up2_row (by omega)]; exact n3) hk n1
        refine ⟨_, rfl, EX_of e ⟨rfl, JS_J (JS_h hs hi ⟨fun x a1 a2 a3 a4 a5 a6 => ?_, fun j hj => ⟨?_, ?_, ?_⟩, fun y hy => ?_⟩ ⟨?_, Or.inr (Or.inr ⟨?_, n, n1, ?_, ?_, fun j hj => ?_⟩)⟩)⟩⟩
        · rw [up2_row a6, up2_row a2]
        · rw [up2_row (by decide), up2_row (by omega)]
        · rw [up2_row (by decide), up2_row (by omega)]
        · rw [up2_row (by decide), up2_row (by omega)]
        · rw [up2_k (by omega), up2_row (by omega)]
        · rw [up2_row (by omega), up2_row (by omega), up2_row (by decide), up2_row (by omega)]
          exact u1
        · rw [up2_row (by decide), up2_row (by omega)]
          exact k3
        · rw [up2_row (by omega), up2_row (by omega)]
          exact n2
        · rw [up2_row (by decide), up2_row (by omega)]
          exact n3
        · rw [up2_row (x := 62 + 2 * i) (a := 84) (by omega)]
          by_cases c : j = k
          · rw [c, up2_e, up2_e]
          · rw [up2_k c, up2_k (by omega), up2_row (by omega)]
            exact n4 j hj
      · exact EX_of (ok_X11_put_c_i hi z1 (by rw [n2]; exact wy)) ⟨_, rfl, EX_of (ok_X12_put_c e M ML hi y z z0 n3 n1 wy) ⟨rfl, JS_J hs⟩⟩
    · have z1 : ¬ nrV (M (61 + 2 * i) 0) = 0 := by rw [u1]; exact z0
      have x1 := ok_X11_put_b_i (d := d) (ML := ML) hi (y := y) (z := z) z1
      rw [u1] at x1
      exact EX_of x1 ⟨_, rfl, EX_of (ok_X12_put_b e M ML hi y z z0) ⟨rfl, JS_J hs⟩⟩
  · have hx : ¬ (0 ≤ x ∧ x < 6) := fun q => w (hx5.mp q)
    exact EX_of (ok_X11_put_n d M ML hx y z) ⟨_, rfl, EX_of (ok_X12_put_n e M ML w y z) ⟨rfl, JS_J hs⟩⟩

theorem op_get {d e : Nat} {M : Mm} {ML : Ml} {x y : Int32} (hJ : J M) : EX (d + 2) k_X11_get [.ref 1, .int x, .int y] M ML (fun r M1 L1 => ∃ v, r = some (.long v) ∧ EX (e + 4) k_X12_get [.ref 73, .int x, .int y] M1 L1 (fun r2 M2 L2 => r2 = some (.long v) ∧ J M2)) := by
  obtain ⟨N, E, A, l, h, L, F, B, hs⟩ := hJ
  have hs0 := hs
  obtain ⟨hW, ⟨hS, hL, hF, hB, hR, hc, hr, hw⟩, ⟨mS, mL, mF, mB⟩, hH, hI⟩ := hs0
  by_cases w : 0 ≤ x ∧ x ≤ 5
  · obtain ⟨i, hi, rfl⟩ := hl_ex w
    have hu := hH i hi
    have hu' := hu
    obtain ⟨u1, u2⟩ := hu'
    by_cases z0 : nrV (M 81 i) = 0
    · obtain ⟨k3, n, n1, n2, n3, n4⟩ := HR1_3 hu z0
      have z1 : nrV (M (61 + 2 * i) 0) = 0 := by rw [u1]; exact z0
      by_cases wy : 0 ≤ y ∧ y < nI n
      · obtain ⟨k, hk, rfl⟩ := inR_ex (v := y) (n := n) (by omega) (decide_eq_true wy)
        have x1 := ok_X11_get_y_i (d := d) (ML := ML) hi z1 n2 hk n1
        rw [n4 k hk] at x1
        exact EX_of x1 ⟨_, rfl, EX_of (ok_X12_get_y e M ML hi z0 n3 hk n1) ⟨rfl, JS_J hs⟩⟩
      · exact EX_of (ok_X11_get_c_i hi z1 (by rw [n2]; exact wy)) ⟨_, rfl, EX_of (ok_X12_get_c e M ML hi y z0 n3 n1 wy) ⟨rfl, JS_J hs⟩⟩
    · have z1 : ¬ nrV (M (61 + 2 * i) 0) = 0 := by rw [u1]; exact z0
      exact EX_of (ok_X11_get_b_i hi z1) ⟨_, rfl, EX_of (ok_X12_get_b e M ML hi y z0) ⟨rfl, JS_J hs⟩⟩
  · have hx : ¬ (0 ≤ x ∧ x < 6) := fun q => w (hx5.mp q)
    exact EX_of (ok_X11_get_n d M ML hx y) ⟨_, rfl, EX_of (ok_X12_get_n e M ML w y) ⟨rfl, JS_J hs⟩⟩

theorem op_row {d e : Nat} {M : Mm} {ML : Ml} {x y : Int32} (hJ : J M) : EX (d + 3) k_X11_row [.ref 1, .int x, .int y] M ML (fun r M1 L1 => ∃ v, r = some (.int v) ∧ EX (e + 3) k_X12_row [.ref 73, .int x, .int y] M1 L1 (fun r2 M2 L2 => r2 = some (.int v) ∧ J M2)) := by
  obtain ⟨N, E, A, l, h, L, F, B, hs⟩ := hJ
  have hs0 := hs
  obtain ⟨hW, ⟨hS, hL, hF, hB, hR, hc, hr, hw⟩, ⟨mS, mL, mF, mB⟩, hH, hI⟩ := hs0
  by_cases w : 0 ≤ x ∧ x ≤ 5
  · obtain ⟨i, hi, rfl⟩ := hl_ex w
    have hu := hH i hi
    have hu' := hu
    obtain ⟨u1, u2⟩ := hu'
    by_cases y2 : y ≤ 20
    · by_cases y0 : 0 ≤ y
      · obtain ⟨n, hn, rfl⟩ := rg_ex (n := 20) (by decide) ⟨y0, y2⟩
        refine EX_of (ok_X11_row_i hi ⟨y0, y2⟩) ?_
        have zr : ∀ x, x ≠ 61 + 2 * i → x ≠ 62 + 2 * i → zro (up2 (up2 (up2 M (61 + 2 * i) 0 3) (61 + 2 * i) 1 0) (61 + 2 * i) 2 (nI n)) (62 + 2 * i) 20 x = M x := fun x a1 a2 => by
          funext k
          unfold zro
          rw [if_neg (fun q => a2 q.1), up2_row a1, up2_row a1, up2_row a1]
        have zR : ∀ k, zro (up2 (up2 (up2 M (61 + 2 * i) 0 3) (61 + 2 * i) 1 0) (61 + 2 * i) 2 (nI n)) (62 + 2 * i) 20 (61 + 2 * i) k = up2 (up2 (up2 M (61 + 2 * i) 0 3) (61 + 2 * i) 1 0) (61 + 2 * i) 2 (nI n) (61 + 2 * i) k := fun k => by
          unfold zro
          rw [if_neg (by omega)]
        have zC : ∀ k, k < 20 → zro (up2 (up2 (up2 M (61 + 2 * i) 0 3) (61 + 2 * i) 1 0) (61 + 2 * i) 2 (nI n)) (62 + 2 * i) 20 (62 + 2 * i) k = 0 := fun k hk => by
          unfold zro
          rw [if_pos ⟨rfl, hk⟩]
        generalize zro (up2 (up2 (up2 M (61 + 2 * i) 0 3) (61 + 2 * i) 1 0) (61 + 2 * i) 2 (nI n)) (62 + 2 * i) 20 = M1 at zr zR zC ⊢
        have e := ok_X12_row_y e M1 ML hi hn
        have z8 : ∀ x, x ≠ 84 → z84 (up2 (up2 M1 81 i 3) 83 i (nI n)) i n x = up2 (up2 M1 81 i 3) 83 i (nI n) x := fun x a => by
          funext k
          unfold z84
          rw [if_neg (fun q => a q.1)]
        have z9 : ∀ k, z84 (up2 (up2 M1 81 i 3) 83 i (nI n)) i n 84 k = if 20 * i ≤ k ∧ k < 20 * i + n then 0 else M1 84 k := fun k => by
          unfold z84
          by_cases c : 20 * i ≤ k ∧ k < 20 * i + n
          · rw [if_pos ⟨rfl, c⟩, if_pos c]
          · rw [if_neg (fun q => c q.2), if_neg c, up2_row (by decide), up2_row (by decide)]
        refine ⟨_, rfl, EX_of e ⟨rfl, JS_J (JS_h hs hi ⟨fun x a1 a2 a3 a4 a5 a6 => ?_, fun j hj => ⟨?_, ?_, ?_⟩, fun y hy => ?_⟩ ⟨?_, Or.inr (Or.inr ⟨?_, n, hn, ?_, ?_, fun j hj => ?_⟩)⟩)⟩⟩
        · rw [z8 x a6, up2_row a5, up2_row a3, zr x a1 a2]
        · rw [z8 81 (by decide), up2_row (by decide), up2_k hj, zr 81 (by omega) (by omega)]
        · rw [z8 82 (by decide), up2_row (by decide), up2_row (by decide), zr 82 (by omega) (by omega)]
        · rw [z8 83 (by decide), up2_k hj, up2_row (by decide), zr 83 (by omega) (by omega)]
        · rw [z9, if_neg (by omega), zr 84 (by omega) (by omega)]
        · rw [z8 _ (by omega), z8 81 (by decide), up2_row (x := 61 + 2 * i) (by omega), up2_row (x := 61 + 2 * i) (by omega), zR, up2_k (by decide), up2_k (by decide), up2_e, up2_row (x := 81) (by decide), up2_e]
        · rw [z8 81 (by decide), up2_row (x := 81) (by decide), up2_e]
        · rw [z8 _ (by omega), up2_row (x := 61 + 2 * i) (by omega), up2_row (x := 61 + 2 * i) (by omega), zR, up2_e]
        · rw [z8 83 (by decide), up2_e]
        · rw [z9, if_pos (by omega), z8 _ (by omega), up2_row (x := 62 + 2 * i) (by omega), up2_row (x := 62 + 2 * i) (by omega), zC j (by omega)]
      · exact EX_of (ok_X11_row_c_i hi y0 y2) ⟨_, rfl, EX_of (ok_X12_row_c e M ML hi y0 y2) ⟨rfl, JS_J hs⟩⟩
    · exact EX_of (ok_X11_row_b_i hi y2) ⟨_, rfl, EX_of (ok_X12_row_b e M ML y2) ⟨rfl, JS_J hs⟩⟩
  · have hx : ¬ (0 ≤ x ∧ x < 6) := fun q => w (hx5.mp q)
    exact EX_of (ok_X11_row_n d M ML hx y) ⟨_, rfl, EX_of (ok_X12_row_n e M ML w y) ⟨rfl, JS_J hs⟩⟩

theorem op_judge {d e : Nat} {M : Mm} {ML : Ml} {x y : Int32} (hJ : J M) : EX (d + 4) k_X11_judge [.ref 1, .int x, .int y] M ML (fun r M1 L1 => ∃ v, r = some (.int v) ∧ EX (e + 4) k_X12_judge [.ref 73, .int x, .int y] M1 L1 (fun r2 M2 L2 => r2 = some (.int v) ∧ J M2)) := by
  obtain ⟨N, E, A, l, h, L, F, B, hs⟩ := hJ
  have hs0 := hs
  obtain ⟨hW, ⟨hS, hL, hF, hB, hR, hc, hr, hw⟩, ⟨mS, mL, mF, mB⟩, hH, hI⟩ := hs0
  by_cases w : 0 ≤ x ∧ x ≤ 5
  · obtain ⟨i, hi, rfl⟩ := hl_ex w
    have hu := hH i hi
    have hu' := hu
    obtain ⟨u1, u2⟩ := hu'
    have hE10 := hW.2.2.1
    have h1024 := pow_b hE10
    by_cases c : inR y (2 ^ E) = false ∨ ¬ nrV (M 81 i) = 0
    · have c1 : inR y (2 ^ E) = false ∨ ¬ nrV (M (61 + 2 * i) 0) = 0 := by rw [u1]; exact c
      refine EX_mono (ok_X11_judge_n_i hi hS hW hR c1 (n := 0) (f := fun _ => 0)) (fun r M1 L1 q => ?_)
      obtain ⟨q0, -, q2⟩ := q
      subst q2
      rw [u1] at q0
      refine ⟨_, q0, EX_mono (ok_X12_judge_b mS hW hi c (n := 0) (f := fun _ => 0)) (fun r2 M2 L2 v => ?_)⟩
      obtain ⟨v0, -, v2⟩ := v
      subst v2
      exact ⟨v0, JS_J hs⟩
    · have z0 : nrV (M 81 i) = 0 := Classical.byContradiction fun q => c (Or.inr q)
      have y1 : inR y (2 ^ E) = true := Bool.not_eq_false _ |>.mp (fun q => c (Or.inl q))
      obtain ⟨a, ha, rfl⟩ := inR_ex (by omega) y1
      obtain ⟨k3, n, n1, n2, n3, n4⟩ := HR1_3 hu z0
      have z1 : nrV (M (61 + 2 * i) 0) = 0 := by rw [u1]; exact z0
      refine EX_mono (ok_X11_judge_y_i hi hS hW hR ha z1 n2 n1) (fun r M1 L1 q => ?_)
      obtain ⟨q0, -, q2⟩ := q
      subst q2
      rw [jdR_cong n4] at q0
      refine ⟨_, q0, EX_mono (ok_X12_judge_y mS hW hi ha z0 n3 n1) (fun r2 M2 L2 v => ?_)⟩
      obtain ⟨v0, -, v2⟩ := v
      exact ⟨v0, JS_J (JS_m hs v2 (by decide) (by decide))⟩
  · have hx : ¬ (0 ≤ x ∧ x < 6) := fun q => w (hx5.mp q)
    refine EX_mono (ok_X11_judge_n hx) (fun r M1 L1 q => ?_)
    obtain ⟨q0, -, q2⟩ := q
    subst q2
    refine ⟨_, q0, EX_mono (ok_X12_judge_n w) (fun r2 M2 L2 v => ?_)⟩
    obtain ⟨v0, -, v2⟩ := v
    subst v2
    exact ⟨v0, JS_J hs⟩

theorem hdB_w {N E : Nat} {w v : Int32} (q : hdB N E w v = true) : w + 1 = 1 ∨ w + 1 = 2 := by
  by_cases c : w = 0
  · rw [c]
    exact Or.inl rfl
  · by_cases c2 : w = 1
    · rw [c2]
      exact Or.inr rfl
    · rw [hdB_n c c2] at q
      exact Bool.noConfusion q

theorem op_hold {d e : Nat} {M : Mm} {ML : Ml} {x y z : Int32} (hJ : J M) : EX (d + 4) k_X11_hold [.ref 1, .int x, .int y, .int z] M ML (fun r M1 L1 => ∃ v, r = some (.int v) ∧ EX (e + 3) k_X12_hold [.ref 73, .int x, .int y, .int z] M1 L1 (fun r2 M2 L2 => r2 = some (.int v) ∧ J M2)) := by
  obtain ⟨N, E, A, l, h, L, F, B, hs⟩ := hJ
  have hs0 := hs
  obtain ⟨hW, ⟨hS, hL, hF, hB, hR, hc, hr, hw⟩, ⟨mS, mL, mF, mB⟩, hH, hI⟩ := hs0
  by_cases w : 0 ≤ x ∧ x ≤ 5
  · obtain ⟨i, hi, rfl⟩ := hl_ex w
    have hu := hH i hi
    have hu' := hu
    obtain ⟨u1, u2⟩ := hu'
    refine EX_mono (ok_X11_hold_i hi hS hW) (fun r M1 L1 q => ?_)
    have hd : decide (0 ≤ (nI i : Int32) ∧ (nI i : Int32) ≤ 5) = true := decide_eq_true w
    rcases Bool.eq_false_or_eq_true (hdB N E y z) with c | c
    · obtain ⟨q0, -, M3, q3, q4⟩ := q.2 c
      have hs3 := JS_c hs q3 (by decide) (hfC_e hc (Fr_e q3 (by decide))) (hfR_e hr (Fr_e q3 (by decide))) (WS_e hw (Fr_e q3 (by decide)))
      subst q4
      have f1 : Fr [61 + 2 * i] M3 (up2 (up2 (up2 M3 (61 + 2 * i) 0 (y + 1)) (61 + 2 * i) 1 z) (61 + 2 * i) 2 (if y = 0 then nI E else nI N)) := Fr_up List.mem_cons_self (Fr_up List.mem_cons_self (Fr_up List.mem_cons_self Fr_rf))
      have nS : NM (up2 (up2 (up2 M3 (61 + 2 * i) 0 (y + 1)) (61 + 2 * i) 1 z) (61 + 2 * i) 2 (if y = 0 then nI E else nI N)) N E A l h := by
        have := hs3.2.2.1.1
        unfold NM at this ⊢
        rw [f1 73 (by simp; omega), f1 74 (by simp; omega), f1 75 (by simp; omega)]
        exact this
      refine ⟨_, q0, EX_mono (ok_X12_hold nS hW) (fun r2 M2 L2 v => ?_)⟩
      obtain ⟨v0, -, v2⟩ := v.2 (an_t hd c)
      rw [nI_clamp (by omega)] at v2
      subst v2
      refine ⟨v0, JS_J (JS_h hs3 hi ⟨fun x a1 a2 a3 a4 a5 a6 => ?_, fun j hj => ⟨?_, ?_, ?_⟩, fun y hy => ?_⟩ ⟨?_, Or.inr (Or.inl ⟨?_, ?_, ?_⟩)⟩)⟩
      · rw [up2_row a5, up2_row a4, up2_row a3, up2_row a1, up2_row a1, up2_row a1]
      · rw [up2_row (by decide), up2_row (by decide), up2_k hj, up2_row (by omega), up2_row (by omega), up2_row (by omega)]
      · rw [up2_row (by decide), up2_k hj, up2_row (by decide), up2_row (by omega), up2_row (by omega), up2_row (by omega)]
      · rw [up2_k hj, up2_row (by decide), up2_row (by decide), up2_row (by omega), up2_row (by omega), up2_row (by omega)]
      · rw [up2_row (by decide), up2_row (by decide), up2_row (by decide), up2_row (by omega), up2_row (by omega), up2_row (by omega)]
      · rw [up2_row (x := 61 + 2 * i) (by omega), up2_row (x := 61 + 2 * i) (by omega), up2_row (x := 61 + 2 * i) (by omega), up2_k (by decide), up2_k (by decide), up2_e, up2_row (x := 81) (by decide), up2_row (x := 81) (by decide), up2_e]
      · rw [up2_row (x := 81) (by decide), up2_row (x := 81) (by decide), up2_e]
        exact hdB_w c
      · rw [up2_row (x := 61 + 2 * i) (by omega), up2_row (x := 61 + 2 * i) (by omega), up2_row (x := 61 + 2 * i) (by omega), up2_k (by decide), up2_e, up2_row (x := 82) (by decide), up2_e]
      · rw [up2_row (x := 61 + 2 * i) (by omega), up2_row (x := 61 + 2 * i) (by omega), up2_row (x := 61 + 2 * i) (by omega), up2_e, up2_e]
    · obtain ⟨q0, -, q3⟩ := q.1 c
      have hs3 := JS_c hs q3 (by decide) (hfC_e hc (Fr_e q3 (by decide))) (hfR_e hr (Fr_e q3 (by decide))) (WS_e hw (Fr_e q3 (by decide)))
      refine ⟨_, q0, EX_mono (ok_X12_hold hs3.2.2.1.1 hW) (fun r2 M2 L2 v => ?_)⟩
      obtain ⟨v0, -, v2⟩ := v.1 (an_r c)
      subst v2
      exact ⟨v0, JS_J hs3⟩
  · have hx : ¬ (0 ≤ x ∧ x < 6) := fun q => w (hx5.mp q)
    refine EX_mono (ok_X11_hold_n hx) (fun r M1 L1 q => ?_)
    obtain ⟨q0, -, q2⟩ := q
    subst q2
    refine ⟨_, q0, EX_mono (ok_X12_hold mS hW) (fun r2 M2 L2 v => ?_)⟩
    obtain ⟨v0, -, v2⟩ := v.1 (an_l (decide_eq_false w))
    subst v2
    exact ⟨v0, JS_J hs⟩

