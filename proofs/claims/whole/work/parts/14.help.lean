/-! ===== small static helpers ===== -/
/-- a row read, 0 beyond its places -/
def rdA (f : Nat → Int32) (n : Nat) (i : Int32) : Int32 := if 0 ≤ i ∧ i < nI n then f i.toNatClampNeg else 0
def rdL (f : Nat → Int64) (n : Nat) (i : Int32) : Int64 := if 0 ≤ i ∧ i < nI n then f i.toNatClampNeg else 0
def wrA (M : Nat → Nat → Int32) (a n : Nat) (i v : Int32) : Nat → Nat → Int32 := if 0 ≤ i ∧ i < nI n then up2 M a i.toNatClampNeg v else M
def wrL (M : Nat → Nat → Int64) (a n : Nat) (i : Int32) (v : Int64) : Nat → Nat → Int64 := if 0 ≤ i ∧ i < nI n then up2L M a i.toNatClampNeg v else M
/-- bit i -/
def tb (x i : Int32) : Bool := decide (¬ ((x >>> (i &&& 31)) &&& 1 = 0))
theorem nlt0 {i : Int32} : ¬ i < 0 ↔ 0 ≤ i := by rw [Int32.lt_iff_toInt_lt, Int32.le_iff_toInt_le]; omega
theorem nle_lt {i j : Int32} : ¬ j ≤ i ↔ i < j := by rw [Int32.lt_iff_toInt_lt, Int32.le_iff_toInt_le]; omega
theorem nlt_le {i j : Int32} : ¬ i < j ↔ j ≤ i := by rw [Int32.lt_iff_toInt_lt, Int32.le_iff_toInt_le]; omega

set_option maxHeartbeats 1000000 in
set_option maxRecDepth 10000 in
theorem ok_X11_at (d : Nat) (M : Nat → Nat → Int32) (ML : Nat → Nat → Int64) (i : Int32) {a n : Nat} (ha : Nat.blt 0 a = true) (h : SH[a - 1]? = some (0, n, [])) (hn : Nat.blt n 2147483648 = true) : Ex (d + 1) k_X11_at [.ref a, .int i] (SH, M, ML) (some (.int (rdA (M a) n i)), (SH, M, ML)) := by
  refine Ex_in mi_X11_at rfl rfl ⟨Nat.le_refl _, Nat.le_refl _⟩ ?_
  show RR _ cd_X11_at false _ (0, [(0, .ref a), (1, .int i)], [], (SH, M, ML))
  refine r_ld rfl rfl ?_
  refine r_cj rfl rfl (fun h_1 => ?_) (fun h_1 => ?_)
  · refine r_cst (v := .int 0) rfl rfl ?_
    refine r_ret rfl rfl (trivial) ?_
    first | rw [rdA, if_neg (fun q => nlt0.mpr q.1 h_1)] | rw [rdA, if_neg (fun q => nle_lt.mpr q.2 h_7)] | rw [rdA, if_pos ⟨nlt0.mp h_1, nle_lt.mp h_7⟩]
  · refine r_ld rfl rfl ?_
    refine r_ld rfl rfl ?_
    refine q_len rfl ha h rfl ?_
    refine r_cj rfl rfl (fun h_7 => ?_) (fun h_7 => ?_)
    · refine r_cst (v := .int 0) rfl rfl ?_
      refine r_ret rfl rfl (trivial) ?_
      first | rw [rdA, if_neg (fun q => nlt0.mpr q.1 h_1)] | rw [rdA, if_neg (fun q => nle_lt.mpr q.2 h_7)] | rw [rdA, if_pos ⟨nlt0.mp h_1, nle_lt.mp h_7⟩]
    · refine r_ld rfl rfl ?_
      refine r_ld rfl rfl ?_
      refine q_ai rfl ha h (lt_cond (blt_lt hn) h_1 (nle_lt.mp h_7)) ?_
      refine r_go rfl ?_
      refine r_ret rfl rfl (trivial) ?_
      first | rw [rdA, if_neg (fun q => nlt0.mpr q.1 h_1)] | rw [rdA, if_neg (fun q => nle_lt.mpr q.2 h_7)] | rw [rdA, if_pos ⟨nlt0.mp h_1, nle_lt.mp h_7⟩]

set_option maxHeartbeats 1000000 in
set_option maxRecDepth 10000 in
theorem ok_X11_lay (d : Nat) (M : Nat → Nat → Int32) (ML : Nat → Nat → Int64) (i v : Int32) {a n : Nat} (ha : Nat.blt 0 a = true) (h : SH[a - 1]? = some (0, n, [])) (hn : Nat.blt n 2147483648 = true) : Ex (d + 1) k_X11_lay [.ref a, .int i, .int v] (SH, M, ML) (none, (SH, wrA M a n i v, ML)) := by
  refine Ex_in mi_X11_lay rfl rfl ⟨Nat.le_refl _, Nat.le_refl _⟩ ?_
  show RR _ cd_X11_lay false _ (0, [(0, .ref a), (1, .int i), (2, .int v)], [], (SH, M, ML))
  refine r_ld rfl rfl ?_
  refine r_cj rfl rfl (fun h_1 => ?_) (fun h_1 => ?_)
  · refine r_ret rfl rfl (trivial) ?_
    first | rw [wrA, if_neg (fun q => nlt0.mpr q.1 h_1)] | rw [wrA, if_neg (fun q => nle_lt.mpr q.2 h_7)] | rw [wrA, if_pos ⟨nlt0.mp h_1, nle_lt.mp h_7⟩]
  · refine r_ld rfl rfl ?_
    refine r_ld rfl rfl ?_
    refine q_len rfl ha h rfl ?_
    refine r_cj rfl rfl (fun h_7 => ?_) (fun h_7 => ?_)
    · refine r_ret rfl rfl (trivial) ?_
      first | rw [wrA, if_neg (fun q => nlt0.mpr q.1 h_1)] | rw [wrA, if_neg (fun q => nle_lt.mpr q.2 h_7)] | rw [wrA, if_pos ⟨nlt0.mp h_1, nle_lt.mp h_7⟩]
    · refine r_ld rfl rfl ?_
      refine r_ld rfl rfl ?_
      refine r_ld rfl rfl ?_
      refine q_si rfl ha h (lt_cond (blt_lt hn) h_1 (nle_lt.mp h_7)) ?_
      refine r_ret rfl rfl (trivial) ?_
      first | rw [wrA, if_neg (fun q => nlt0.mpr q.1 h_1)] | rw [wrA, if_neg (fun q => nle_lt.mpr q.2 h_7)] | rw [wrA, if_pos ⟨nlt0.mp h_1, nle_lt.mp h_7⟩]

set_option maxHeartbeats 1000000 in
set_option maxRecDepth 10000 in
theorem ok_X9_longAt (d : Nat) (M : Nat → Nat → Int32) (ML : Nat → Nat → Int64) (i : Int32) {a n : Nat} (ha : Nat.blt 0 a = true) (h : SH[a - 1]? = some (1, n, [])) (hn : Nat.blt n 2147483648 = true) : Ex (d + 1) k_X9_longAt [.ref a, .int i] (SH, M, ML) (some (.long (rdL (ML a) n i)), (SH, M, ML)) := by
  refine Ex_in mi_X9_longAt rfl rfl ⟨Nat.le_refl _, Nat.le_refl _⟩ ?_
  show RR _ cd_X9_longAt false _ (0, [(0, .ref a), (1, .int i)], [], (SH, M, ML))
  refine r_ld rfl rfl ?_
  refine r_cj rfl rfl (fun h_1 => ?_) (fun h_1 => ?_)
  · refine r_cst (v := .long 0) rfl rfl ?_
    refine r_ret rfl rfl (trivial) ?_
    first | rw [rdL, if_neg (fun q => nlt0.mpr q.1 h_1)] | rw [rdL, if_neg (fun q => nle_lt.mpr q.2 h_7)] | rw [rdL, if_pos ⟨nlt0.mp h_1, nle_lt.mp h_7⟩]
  · refine r_ld rfl rfl ?_
    refine r_ld rfl rfl ?_
    refine q_len rfl ha h rfl ?_
    refine r_cj rfl rfl (fun h_7 => ?_) (fun h_7 => ?_)
    · refine r_cst (v := .long 0) rfl rfl ?_
      refine r_ret rfl rfl (trivial) ?_
      first | rw [rdL, if_neg (fun q => nlt0.mpr q.1 h_1)] | rw [rdL, if_neg (fun q => nle_lt.mpr q.2 h_7)] | rw [rdL, if_pos ⟨nlt0.mp h_1, nle_lt.mp h_7⟩]
    · refine r_ld rfl rfl ?_
      refine r_ld rfl rfl ?_
      refine q_al rfl ha h (lt_cond (blt_lt hn) h_1 (nle_lt.mp h_7)) ?_
      refine r_go rfl ?_
      refine r_ret rfl rfl (trivial) ?_
      first | rw [rdL, if_neg (fun q => nlt0.mpr q.1 h_1)] | rw [rdL, if_neg (fun q => nle_lt.mpr q.2 h_7)] | rw [rdL, if_pos ⟨nlt0.mp h_1, nle_lt.mp h_7⟩]

set_option maxHeartbeats 1000000 in
set_option maxRecDepth 10000 in
theorem ok_X9_layLong (d : Nat) (M : Nat → Nat → Int32) (ML : Nat → Nat → Int64) (i : Int32) (v : Int64) {a n : Nat} (ha : Nat.blt 0 a = true) (h : SH[a - 1]? = some (1, n, [])) (hn : Nat.blt n 2147483648 = true) : Ex (d + 1) k_X9_layLong [.ref a, .int i, .long v] (SH, M, ML) (none, (SH, M, wrL ML a n i v)) := by
  refine Ex_in mi_X9_layLong rfl rfl ⟨Nat.le_refl _, Nat.le_refl _⟩ ?_
  show RR _ cd_X9_layLong false _ (0, [(0, .ref a), (1, .int i), (2, .long v)], [], (SH, M, ML))
  refine r_ld rfl rfl ?_
  refine r_cj rfl rfl (fun h_1 => ?_) (fun h_1 => ?_)
  · refine r_ret rfl rfl (trivial) ?_
    first | rw [wrL, if_neg (fun q => nlt0.mpr q.1 h_1)] | rw [wrL, if_neg (fun q => nle_lt.mpr q.2 h_7)] | rw [wrL, if_pos ⟨nlt0.mp h_1, nle_lt.mp h_7⟩]
  · refine r_ld rfl rfl ?_
    refine r_ld rfl rfl ?_
    refine q_len rfl ha h rfl ?_
    refine r_cj rfl rfl (fun h_7 => ?_) (fun h_7 => ?_)
    · refine r_ret rfl rfl (trivial) ?_
      first | rw [wrL, if_neg (fun q => nlt0.mpr q.1 h_1)] | rw [wrL, if_neg (fun q => nle_lt.mpr q.2 h_7)] | rw [wrL, if_pos ⟨nlt0.mp h_1, nle_lt.mp h_7⟩]
    · refine r_ld rfl rfl ?_
      refine r_ld rfl rfl ?_
      refine r_ld rfl rfl ?_
      refine q_sl rfl ha h (lt_cond (blt_lt hn) h_1 (nle_lt.mp h_7)) ?_
      refine r_ret rfl rfl (trivial) ?_
      first | rw [wrL, if_neg (fun q => nlt0.mpr q.1 h_1)] | rw [wrL, if_neg (fun q => nle_lt.mpr q.2 h_7)] | rw [wrL, if_pos ⟨nlt0.mp h_1, nle_lt.mp h_7⟩]

set_option maxHeartbeats 1000000 in
set_option maxRecDepth 10000 in
theorem ok_X11_isIn (d : Nat) (M : Nat → Nat → Int32) (ML : Nat → Nat → Int64) (x i : Int32) : Ex (d + 1) k_X11_isIn [.int x, .int i] (SH, M, ML) (some (.int (b2i (tb x i))), (SH, M, ML)) := by
  refine Ex_in mi_X11_isIn rfl rfl ⟨Nat.le_refl _, Nat.le_refl _⟩ ?_
  show RR _ cd_X11_isIn true _ (0, [(0, .int x), (1, .int i)], [], (SH, M, ML))
  refine r_ld rfl rfl ?_
  refine r_ld rfl rfl ?_
  refine r_bin rfl rfl ?_
  refine r_cst (v := .int 1) rfl rfl ?_
  refine r_bin rfl rfl ?_
  refine r_cj rfl rfl (fun h_5 => ?_) (fun h_5 => ?_)
  · refine r_cst (v := .int 0) rfl rfl ?_
    refine r_ret rfl rfl (by first | exact rb0 | exact rb1 | exact rbB _) ?_
    simp [tb, b2i, *]
  · refine r_cst (v := .int 1) rfl rfl ?_
    refine r_go rfl ?_
    refine r_ret rfl rfl (by first | exact rb0 | exact rb1 | exact rbB _) ?_
    simp [tb, b2i, *]

