/-! ===== counts of bits, least and greatest bit ===== -/
def usI (x y : Int32) : Int32 := (x.toUInt32 >>> (y.toUInt32 &&& Int32.toUInt32 31)).toInt32
def bc1 (x : Int32) : Int32 := x - (usI x 1 &&& Int32.ofInt 1431655765)
def bc2 (x : Int32) : Int32 := (x &&& Int32.ofInt 858993459) + (usI x 2 &&& Int32.ofInt 858993459)
def bc3 (x : Int32) : Int32 := (x + usI x 4) &&& Int32.ofInt 252645135
def bc4 (x : Int32) : Int32 := x + usI x 8
def bc5 (x : Int32) : Int32 := x + usI x 16
def bcI (x : Int32) : Int32 := bc5 (bc4 (bc3 (bc2 (bc1 x)))) &&& 63
/-- how many bits of n are set (below 12) -/
def popc (n : Nat) : Nat := (List.range 12).countP (fun i => n.testBit i)
theorem bcI_ok : ∀ n, n < 2048 → bcI (nI n) = nI (popc n) := by decide +kernel
/-- the least bit of n -/
def lsb (n : Nat) : Nat := ((List.range 12).find? (fun i => n.testBit i)).getD 0
/-- the greatest bit of n -/
def msb (n : Nat) : Nat := ((List.range 12).reverse.find? (fun i => n.testBit i)).getD 0

set_option maxHeartbeats 1000000 in
set_option maxRecDepth 10000 in
theorem ok_bitCount (d : Nat) (M : Nat → Nat → Int32) (ML : Nat → Nat → Int64) {n : Nat} (hn : n < 2048) : Ex (d + 1) k_J6_bitCount_0f7a4 [.int (nI n)] (SH, M, ML) (some (.int (nI (popc n))), (SH, M, ML)) := by
  refine Ex_in mi_J6_bitCount_0f7a4 rfl rfl ⟨Nat.le_refl _, Nat.le_refl _⟩ ?_
  show RR _ cd_J6_bitCount_0f7a4 false _ (0, [(0, .int (nI n))], [], (SH, M, ML))
  refine r_ld rfl rfl ?_
  refine r_ld rfl rfl ?_
  refine r_cst (v := .int 1) rfl rfl ?_
  refine r_bin rfl rfl ?_
  refine r_ldc (Or.inr rfl) ?_
  refine r_bin rfl rfl ?_
  refine r_bin rfl rfl ?_
  refine r_sto (L' := [(0, _)]) rfl rfl ?_
  refine r_ld rfl rfl ?_
  refine r_ldc (Or.inr rfl) ?_
  refine r_bin rfl rfl ?_
  refine r_ld rfl rfl ?_
  refine r_cst (v := .int 2) rfl rfl ?_
  refine r_bin rfl rfl ?_
  refine r_ldc (Or.inr rfl) ?_
  refine r_bin rfl rfl ?_
  refine r_bin rfl rfl ?_
  refine r_sto (L' := [(0, _)]) rfl rfl ?_
  refine r_ld rfl rfl ?_
  refine r_ld rfl rfl ?_
  refine r_cst (v := .int 4) rfl rfl ?_
  refine r_bin rfl rfl ?_
  refine r_bin rfl rfl ?_
  refine r_ldc (Or.inr rfl) ?_
  refine r_bin rfl rfl ?_
  refine r_sto (L' := [(0, _)]) rfl rfl ?_
  refine r_ld rfl rfl ?_
  refine r_ld rfl rfl ?_
  refine r_cst (v := .int 8) rfl rfl ?_
  refine r_bin rfl rfl ?_
  refine r_bin rfl rfl ?_
  refine r_sto (L' := [(0, _)]) rfl rfl ?_
  refine r_ld rfl rfl ?_
  refine r_ld rfl rfl ?_
  refine r_cst (v := .int 16) rfl rfl ?_
  refine r_bin rfl rfl ?_
  refine r_bin rfl rfl ?_
  refine r_sto (L' := [(0, _)]) rfl rfl ?_
  refine r_ld rfl rfl ?_
  refine r_cst (v := .int 63) rfl rfl ?_
  refine r_bin rfl rfl ?_
  refine r_ret rfl rfl (trivial) ?_
  rw [← bcI_ok n hn]
  exact rfl

