/-! ===== counts of bits, least and greatest bit ===== -/
def usI (x y : Int32) : Int32 := (x.toUInt32 >>> (y.toUInt32 &&& Int32.toUInt32 31)).toInt32
def bc1 (x : Int32) : Int32 := x - (usI x 1 &&& Int32.ofInt 1431655765)
def bc2 (x : Int32) : Int32 := (x &&& Int32.ofInt 858993459) + (usI x 2 &&& Int32.ofInt 858993459)
def bc3 (x : Int32) : Int32 := (x + usI x 4) &&& Int32.ofInt 252645135
def bc4 (x : Int32) : Int32 := x + usI x 8
def bc5 (x : Int32) : Int32 := x + usI x 16
def bcI (x : Int32) : Int32 := bc5 (bc4 (bc3 (bc2 (bc1 x)))) &&& 63
/-- how many bits of n are set (below 12) -/
def popc (n : Nat) : Nat := (List.range 12).countP (fun i => n.testBit i)
theorem bcI_ok : ∀ n, n < 2048 → bcI (nI n) = nI (popc n) := by decide +kernel
/-- the least bit of n -/
def lsb (n : Nat) : Nat := ((List.range 12).find? (fun i => n.testBit i)).getD 0
/-- the greatest bit of n -/
def msb (n : Nat) : Nat := ((List.range 12).reverse.find? (fun i => n.testBit i)).getD 0

set_option maxHeartbeats 1000000 in
set_option maxRecDepth 10000 in
theorem ok_bitCount (d : Nat) (M : Nat → Nat → Int32) (ML : Nat → Nat → Int64) {n : Nat} (hn : n < 2048) : Ex (d + 1) k_J6_bitCount_0f7a4 [.int (nI n)] (SH, M, ML) (some (.int (nI (popc n))), (SH, M, ML)) := by
  refine Ex_in mi_J6_bitCount_0f7a4 rfl rfl ⟨Nat.le_refl _, Nat.le_refl _⟩ ?_
  show RR _ cd_J6_bitCount_0f7a4 false _ (0, [(0, .int (nI n))], [], (SH, M, ML))
  refine r_ld rfl rfl ?_
  refine r_ld rfl rfl ?_
  refine r_cst (v := .int 1) rfl rfl ?_
  refine r_bin rfl rfl ?_
  refine r_ldc (Or.inr rfl) ?_
  refine r_bin rfl rfl ?_
  refine r_bin rfl rfl ?_
  refine r_sto (L' := [(0, _)]) rfl rfl ?_
  refine r_ld rfl rfl ?_
  refine r_ldc (Or.inr rfl) ?_
  refine r_bin rfl rfl ?_
  refine r_ld rfl rfl ?_
  refine r_cst (v := .int 2) rfl rfl ?_
  refine r_bin rfl rfl ?_
  refine r_ldc (Or.inr rfl) ?_
  refine r_bin rfl rfl ?_
  refine r_bin rfl rfl ?_
  refine r_sto (L' := [(0, _)]) rfl rfl ?_
  refine r_ld rfl rfl ?_
  refine r_ld rfl rfl ?_
  refine r_cst (v := .int 4) rfl rfl ?_
  refine r_bin rfl rfl ?_
  refine r_bin rfl rfl ?_
  refine r_ldc (Or.inr rfl) ?_
  refine r_bin rfl rfl ?_
  refine r_sto (L' := [(0, _)]) rfl rfl ?_
  refine r_ld rfl rfl ?_
  refine r_ld rfl rfl ?_
  refine r_cst (v := .int 8) rfl rfl ?_
  refine r_bin rfl rfl ?_
  refine r_bin rfl rfl ?_
  refine r_sto (L' := [(0, _)]) rfl rfl ?_
  refine r_ld rfl rfl ?_
  refine r_ld rfl rfl ?_
  refine r_cst (v := .int 16) rfl rfl ?_
  refine r_bin rfl rfl ?_
  refine r_bin rfl rfl ?_
  refine r_sto (L' := [(0, _)]) rfl rfl ?_
  refine r_ld rfl rfl ?_
  refine r_cst (v := .int 63) rfl rfl ?_
  refine r_bin rfl rfl ?_
  refine r_ret rfl rfl (trivial) ?_
  rw [← bcI_ok n hn]
  exact rfl

def ntY (x : Int32) : Int32 := (x ^^^ -1) &&& (x - 1)
def ntL (c z : Int32) : Int32 := if z ≤ 4 then c + usI z 1 else (c + 2) + usI (usI z 2) 1
def ntzI (x : Int32) : Int32 := if 0 < ntY x then (if ntY x ≤ 16 then ntL 1 (ntY x) else ntL (1 + 4) (usI (ntY x) 4)) else ntY x &&& 32
theorem ntzI_ok : ∀ n, n < 128 → 0 < n → ntzI (nI n) = nI (lsb n) := by decide +kernel
theorem ntY_16 : ∀ n, n < 128 → ntY (nI n) ≤ 256 := by decide +kernel
theorem ntY_64 : ∀ n, n < 128 → ntY (nI n) ≤ Int32.ofInt 65536 := by decide +kernel
def nlL (c z : Int32) : Int32 := if z < 4 then c - usI z 1 else (c + -2) - usI (usI z 2) 1
def nlzI (x : Int32) : Int32 := if x < 16 then nlL 31 x else nlL (31 + -4) (usI x 4)
theorem nlzI_ok : ∀ n, n < 128 → 0 < n → nlzI (nI n) = nI (31 - msb n) := by decide +kernel
theorem nl_256 : ∀ n, n < 128 → nI n < 256 := by decide +kernel
theorem nl_64 : ∀ n, n < 128 → nI n < Int32.ofInt 65536 := by decide +kernel
theorem nl_0 : ∀ n, n < 128 → 0 < n → nI n > 0 := by decide +kernel
theorem msb_31 : ∀ n, n < 128 → 31 - nI (31 - msb n) = nI (msb n) := by decide +kernel
theorem msb_step : ∀ n, n < 128 → ∀ e, e < 7 → (n.testBit e = true → msb (n % 2 ^ (e + 1)) = e) ∧ (n.testBit e = false → msb (n % 2 ^ (e + 1)) = msb (n % 2 ^ e)) := by decide +kernel
theorem msb_7 : ∀ n, n < 128 → msb (n % 2 ^ 7) = msb n := by decide +kernel
/-- the least bit from b on, or else the least -/
def lfr (n b : Nat) : Nat := if n / 2 ^ b * 2 ^ b = 0 then n else n / 2 ^ b * 2 ^ b

set_option maxHeartbeats 1000000 in
set_option maxRecDepth 10000 in
theorem ok_ntz (d : Nat) (M : Nat → Nat → Int32) (ML : Nat → Nat → Int64) {n : Nat} (hn : n < 128) (h0 : 0 < n) : Ex (d + 1) k_J6_numberOfTrailingZeros_0f7a4 [.int (nI n)] (SH, M, ML) (some (.int (nI (lsb n))), (SH, M, ML)) := by
  refine Ex_in mi_J6_numberOfTrailingZeros_0f7a4 rfl rfl ⟨Nat.le_refl _, Nat.le_refl _⟩ ?_
  show RR _ cd_J6_numberOfTrailingZeros_0f7a4 false _ (0, [(0, .int (nI n))], [], (SH, M, ML))
  refine r_ld rfl rfl ?_
  refine r_cst (v := .int (-1)) rfl rfl ?_
  refine r_bin rfl rfl ?_
  refine r_ld rfl rfl ?_
  refine r_cst (v := .int 1) rfl rfl ?_
  refine r_bin rfl rfl ?_
  refine r_bin rfl rfl ?_
  refine r_sto (L' := [(0, _)]) rfl rfl ?_
  refine r_ld rfl rfl ?_
  refine r_cj rfl rfl (fun h_9 => ?_) (fun h_9 => ?_)
  · refine r_cst (v := .int 1) rfl rfl ?_
    refine r_sto (L' := [(0, _), (1, _)]) rfl rfl ?_
    refine r_ld rfl rfl ?_
    refine r_ldc (Or.inr rfl) ?_
    refine q_cjT rfl rfl (ntY_64 n hn) ?_
    refine r_ld rfl rfl ?_
    refine r_cst (v := .int 256) rfl rfl ?_
    refine q_cjT rfl rfl (ntY_16 n hn) ?_
    refine r_ld rfl rfl ?_
    refine r_cst (v := .int 16) rfl rfl ?_
    refine r_cj rfl rfl (fun h_52 => ?_) (fun h_52 => ?_)
    · refine r_ld rfl rfl ?_
      refine r_cst (v := .int 4) rfl rfl ?_
      refine r_cj rfl rfl (fun h_64 => ?_) (fun h_64 => ?_)
      · refine r_ld rfl rfl ?_
        refine r_ld rfl rfl ?_
        refine r_cst (v := .int 1) rfl rfl ?_
        refine r_bin rfl rfl ?_
        refine r_bin rfl rfl ?_
        refine r_ret rfl rfl (trivial) ?_
        rw [← ntzI_ok n hn h0]
        unfold ntzI ntL
        first
          | (rw [if_neg (show ¬ 0 < ntY (nI n) from h_9)]; rfl)
          | (rw [if_pos (show 0 < ntY (nI n) from h_9), if_pos (show ntY (nI n) ≤ 16 from h_52), if_pos (show ntY (nI n) ≤ 4 from h_64)]; rfl)
          | (rw [if_pos (show 0 < ntY (nI n) from h_9), if_pos (show ntY (nI n) ≤ 16 from h_52), if_neg (show ¬ ntY (nI n) ≤ 4 from h_64)]; rfl)
          | (rw [if_pos (show 0 < ntY (nI n) from h_9), if_neg (show ¬ ntY (nI n) ≤ 16 from h_52), if_pos (show usI (ntY (nI n)) 4 ≤ 4 from h_64)]; rfl)
          | (rw [if_pos (show 0 < ntY (nI n) from h_9), if_neg (show ¬ ntY (nI n) ≤ 16 from h_52), if_neg (show ¬ usI (ntY (nI n)) 4 ≤ 4 from h_64)]; rfl)
      · refine q_inc (y := _ + 2) rfl rfl rfl ?_
        refine q_norm (L' := [(0, _), (1, _)]) rfl ?_
        refine r_ld rfl rfl ?_
        refine r_cst (v := .int 2) rfl rfl ?_
        refine r_bin rfl rfl ?_
        refine r_sto (L' := [(0, _), (1, _)]) rfl rfl ?_
        refine r_ld rfl rfl ?_
        refine r_ld rfl rfl ?_
        refine r_cst (v := .int 1) rfl rfl ?_
        refine r_bin rfl rfl ?_
        refine r_bin rfl rfl ?_
        refine r_ret rfl rfl (trivial) ?_
        rw [← ntzI_ok n hn h0]
        unfold ntzI ntL
        first
          | (rw [if_neg (show ¬ 0 < ntY (nI n) from h_9)]; rfl)
          | (rw [if_pos (show 0 < ntY (nI n) from h_9), if_pos (show ntY (nI n) ≤ 16 from h_52), if_pos (show ntY (nI n) ≤ 4 from h_64)]; rfl)
          | (rw [if_pos (show 0 < ntY (nI n) from h_9), if_pos (show ntY (nI n) ≤ 16 from h_52), if_neg (show ¬ ntY (nI n) ≤ 4 from h_64)]; rfl)
          | (rw [if_pos (show 0 < ntY (nI n) from h_9), if_neg (show ¬ ntY (nI n) ≤ 16 from h_52), if_pos (show usI (ntY (nI n)) 4 ≤ 4 from h_64)]; rfl)
          | (rw [if_pos (show 0 < ntY (nI n) from h_9), if_neg (show ¬ ntY (nI n) ≤ 16 from h_52), if_neg (show ¬ usI (ntY (nI n)) 4 ≤ 4 from h_64)]; rfl)
    · refine q_inc (y := _ + 4) rfl rfl rfl ?_
      refine q_norm (L' := [(0, _), (1, _)]) rfl ?_
      refine r_ld rfl rfl ?_
      refine r_cst (v := .int 4) rfl rfl ?_
      refine r_bin rfl rfl ?_
      refine r_sto (L' := [(0, _), (1, _)]) rfl rfl ?_
      refine r_ld rfl rfl ?_
      refine r_cst (v := .int 4) rfl rfl ?_
      refine r_cj rfl rfl (fun h_64 => ?_) (fun h_64 => ?_)
      · refine r_ld rfl rfl ?_
        refine r_ld rfl rfl ?_
        refine r_cst (v := .int 1) rfl rfl ?_
        refine r_bin rfl rfl ?_
        refine r_bin rfl rfl ?_
        refine r_ret rfl rfl (trivial) ?_
        rw [← ntzI_ok n hn h0]
        unfold ntzI ntL
        first
          | (rw [if_neg (show ¬ 0 < ntY (nI n) from h_9)]; rfl)
          | (rw [if_pos (show 0 < ntY (nI n) from h_9), if_pos (show ntY (nI n) ≤ 16 from h_52), if_pos (show ntY (nI n) ≤ 4 from h_64)]; rfl)
          | (rw [if_pos (show 0 < ntY (nI n) from h_9), if_pos (show ntY (nI n) ≤ 16 from h_52), if_neg (show ¬ ntY (nI n) ≤ 4 from h_64)]; rfl)
          | (rw [if_pos (show 0 < ntY (nI n) from h_9), if_neg (show ¬ ntY (nI n) ≤ 16 from h_52), if_pos (show usI (ntY (nI n)) 4 ≤ 4 from h_64)]; rfl)
          | (rw [if_pos (show 0 < ntY (nI n) from h_9), if_neg (show ¬ ntY (nI n) ≤ 16 from h_52), if_neg (show ¬ usI (ntY (nI n)) 4 ≤ 4 from h_64)]; rfl)
      · refine q_inc (y := _ + 2) rfl rfl rfl ?_
        refine q_norm (L' := [(0, _), (1, _)]) rfl ?_
        refine r_ld rfl rfl ?_
        refine r_cst (v := .int 2) rfl rfl ?_
        refine r_bin rfl rfl ?_
        refine r_sto (L' := [(0, _), (1, _)]) rfl rfl ?_
        refine r_ld rfl rfl ?_
        refine r_ld rfl rfl ?_
        refine r_cst (v := .int 1) rfl rfl ?_
        refine r_bin rfl rfl ?_
        refine r_bin rfl rfl ?_
        refine r_ret rfl rfl (trivial) ?_
        rw [← ntzI_ok n hn h0]
        unfold ntzI ntL
        first
          | (rw [if_neg (show ¬ 0 < ntY (nI n) from h_9)]; rfl)
          | (rw [if_pos (show 0 < ntY (nI n) from h_9), if_pos (show ntY (nI n) ≤ 16 from h_52), if_pos (show ntY (nI n) ≤ 4 from h_64)]; rfl)
          | (rw [if_pos (show 0 < ntY (nI n) from h_9), if_pos (show ntY (nI n) ≤ 16 from h_52), if_neg (show ¬ ntY (nI n) ≤ 4 from h_64)]; rfl)
          | (rw [if_pos (show 0 < ntY (nI n) from h_9), if_neg (show ¬ ntY (nI n) ≤ 16 from h_52), if_pos (show usI (ntY (nI n)) 4 ≤ 4 from h_64)]; rfl)
          | (rw [if_pos (show 0 < ntY (nI n) from h_9), if_neg (show ¬ ntY (nI n) ≤ 16 from h_52), if_neg (show ¬ usI (ntY (nI n)) 4 ≤ 4 from h_64)]; rfl)
  · refine r_ld rfl rfl ?_
    refine r_cst (v := .int 32) rfl rfl ?_
    refine r_bin rfl rfl ?_
    refine r_ret rfl rfl (trivial) ?_
    rw [← ntzI_ok n hn h0]
    unfold ntzI ntL
    first
      | (rw [if_neg (show ¬ 0 < ntY (nI n) from h_9)]; rfl)
      | (rw [if_pos (show 0 < ntY (nI n) from h_9), if_pos (show ntY (nI n) ≤ 16 from h_52), if_pos (show ntY (nI n) ≤ 4 from h_64)]; rfl)
      | (rw [if_pos (show 0 < ntY (nI n) from h_9), if_pos (show ntY (nI n) ≤ 16 from h_52), if_neg (show ¬ ntY (nI n) ≤ 4 from h_64)]; rfl)
      | (rw [if_pos (show 0 < ntY (nI n) from h_9), if_neg (show ¬ ntY (nI n) ≤ 16 from h_52), if_pos (show usI (ntY (nI n)) 4 ≤ 4 from h_64)]; rfl)
      | (rw [if_pos (show 0 < ntY (nI n) from h_9), if_neg (show ¬ ntY (nI n) ≤ 16 from h_52), if_neg (show ¬ usI (ntY (nI n)) 4 ≤ 4 from h_64)]; rfl)

set_option maxHeartbeats 1000000 in
set_option maxRecDepth 10000 in
theorem ok_nlz (d : Nat) (M : Nat → Nat → Int32) (ML : Nat → Nat → Int64) {n : Nat} (hn : n < 128) (h0 : 0 < n) : Ex (d + 1) k_J6_numberOfLeadingZeros_0f7a4 [.int (nI n)] (SH, M, ML) (some (.int (nI (31 - msb n))), (SH, M, ML)) := by
  refine Ex_in mi_J6_numberOfLeadingZeros_0f7a4 rfl rfl ⟨Nat.le_refl _, Nat.le_refl _⟩ ?_
  show RR _ cd_J6_numberOfLeadingZeros_0f7a4 false _ (0, [(0, .int (nI n))], [], (SH, M, ML))
  refine r_ld rfl rfl ?_
  refine q_cjT rfl rfl (nl_0 n hn h0) ?_
  refine r_cst (v := .int 31) rfl rfl ?_
  refine r_sto (L' := [(0, _), (1, _)]) rfl rfl ?_
  refine r_ld rfl rfl ?_
  refine r_ldc (Or.inr rfl) ?_
  refine q_cjT rfl rfl (nl_64 n hn) ?_
  refine r_ld rfl rfl ?_
  refine r_cst (v := .int 256) rfl rfl ?_
  refine q_cjT rfl rfl (nl_256 n hn) ?_
  refine r_ld rfl rfl ?_
  refine r_cst (v := .int 16) rfl rfl ?_
  refine r_cj rfl rfl (fun h_51 => ?_) (fun h_51 => ?_)
  · refine r_ld rfl rfl ?_
    refine r_cst (v := .int 4) rfl rfl ?_
    refine r_cj rfl rfl (fun h_63 => ?_) (fun h_63 => ?_)
    · refine r_ld rfl rfl ?_
      refine r_ld rfl rfl ?_
      refine r_cst (v := .int 1) rfl rfl ?_
      refine r_bin rfl rfl ?_
      refine r_bin rfl rfl ?_
      refine r_ret rfl rfl (trivial) ?_
      rw [← nlzI_ok n hn h0]
      unfold nlzI nlL
      first
        | (rw [if_pos (show nI n < 16 from h_51), if_pos (show nI n < 4 from h_63)]; rfl)
        | (rw [if_pos (show nI n < 16 from h_51), if_neg (show ¬ nI n < 4 from h_63)]; rfl)
        | (rw [if_neg (show ¬ nI n < 16 from h_51), if_pos (show usI (nI n) 4 < 4 from h_63)]; rfl)
        | (rw [if_neg (show ¬ nI n < 16 from h_51), if_neg (show ¬ usI (nI n) 4 < 4 from h_63)]; rfl)
    · refine q_inc (y := _ + (-2)) rfl rfl rfl ?_
      refine q_norm (L' := [(0, _), (1, _)]) rfl ?_
      refine r_ld rfl rfl ?_
      refine r_cst (v := .int 2) rfl rfl ?_
      refine r_bin rfl rfl ?_
      refine r_sto (L' := [(0, _), (1, _)]) rfl rfl ?_
      refine r_ld rfl rfl ?_
      refine r_ld rfl rfl ?_
      refine r_cst (v := .int 1) rfl rfl ?_
      refine r_bin rfl rfl ?_
      refine r_bin rfl rfl ?_
      refine r_ret rfl rfl (trivial) ?_
      rw [← nlzI_ok n hn h0]
      unfold nlzI nlL
      first
        | (rw [if_pos (show nI n < 16 from h_51), if_pos (show nI n < 4 from h_63)]; rfl)
        | (rw [if_pos (show nI n < 16 from h_51), if_neg (show ¬ nI n < 4 from h_63)]; rfl)
        | (rw [if_neg (show ¬ nI n < 16 from h_51), if_pos (show usI (nI n) 4 < 4 from h_63)]; rfl)
        | (rw [if_neg (show ¬ nI n < 16 from h_51), if_neg (show ¬ usI (nI n) 4 < 4 from h_63)]; rfl)
  · refine q_inc (y := _ + (-4)) rfl rfl rfl ?_
    refine q_norm (L' := [(0, _), (1, _)]) rfl ?_
    refine r_ld rfl rfl ?_
    refine r_cst (v := .int 4) rfl rfl ?_
    refine r_bin rfl rfl ?_
    refine r_sto (L' := [(0, _), (1, _)]) rfl rfl ?_
    refine r_ld rfl rfl ?_
    refine r_cst (v := .int 4) rfl rfl ?_
    refine r_cj rfl rfl (fun h_63 => ?_) (fun h_63 => ?_)
    · refine r_ld rfl rfl ?_
      refine r_ld rfl rfl ?_
      refine r_cst (v := .int 1) rfl rfl ?_
      refine r_bin rfl rfl ?_
      refine r_bin rfl rfl ?_
      refine r_ret rfl rfl (trivial) ?_
      rw [← nlzI_ok n hn h0]
      unfold nlzI nlL
      first
        | (rw [if_pos (show nI n < 16 from h_51), if_pos (show nI n < 4 from h_63)]; rfl)
        | (rw [if_pos (show nI n < 16 from h_51), if_neg (show ¬ nI n < 4 from h_63)]; rfl)
        | (rw [if_neg (show ¬ nI n < 16 from h_51), if_pos (show usI (nI n) 4 < 4 from h_63)]; rfl)
        | (rw [if_neg (show ¬ nI n < 16 from h_51), if_neg (show ¬ usI (nI n) 4 < 4 from h_63)]; rfl)
    · refine q_inc (y := _ + (-2)) rfl rfl rfl ?_
      refine q_norm (L' := [(0, _), (1, _)]) rfl ?_
      refine r_ld rfl rfl ?_
      refine r_cst (v := .int 2) rfl rfl ?_
      refine r_bin rfl rfl ?_
      refine r_sto (L' := [(0, _), (1, _)]) rfl rfl ?_
      refine r_ld rfl rfl ?_
      refine r_ld rfl rfl ?_
      refine r_cst (v := .int 1) rfl rfl ?_
      refine r_bin rfl rfl ?_
      refine r_bin rfl rfl ?_
      refine r_ret rfl rfl (trivial) ?_
      rw [← nlzI_ok n hn h0]
      unfold nlzI nlL
      first
        | (rw [if_pos (show nI n < 16 from h_51), if_pos (show nI n < 4 from h_63)]; rfl)
        | (rw [if_pos (show nI n < 16 from h_51), if_neg (show ¬ nI n < 4 from h_63)]; rfl)
        | (rw [if_neg (show ¬ nI n < 16 from h_51), if_pos (show usI (nI n) 4 < 4 from h_63)]; rfl)
        | (rw [if_neg (show ¬ nI n < 16 from h_51), if_neg (show ¬ usI (nI n) 4 < 4 from h_63)]; rfl)

set_option maxHeartbeats 1000000 in
set_option maxRecDepth 10000 in
theorem ok_X12_leastOf (d : Nat) (M : Nat → Nat → Int32) (ML : Nat → Nat → Int64) {n : Nat} (hn : n < 128) (h0 : 0 < n) : Ex (d + 2) k_X12_leastOf [.int (nI n)] (SH, M, ML) (some (.int (nI (lsb n))), (SH, M, ML)) := by
  refine Ex_in mi_X12_leastOf rfl rfl ⟨Nat.le_refl _, Nat.le_refl _⟩ ?_
  show RR _ cd_X12_leastOf false _ (0, [(0, .int (nI n))], [], (SH, M, ML))
  refine r_ld rfl rfl ?_
  refine q_call (as := [_]) (rest := []) rfl rfl rfl rfl rfl rfl rfl rfl (ok_ntz _ _ _ hn h0) ?_
  refine r_ret rfl rfl (trivial) ?_
  exact rfl

set_option maxHeartbeats 1000000 in
set_option maxRecDepth 10000 in
theorem ok_X12_greatestOf (d : Nat) (M : Nat → Nat → Int32) (ML : Nat → Nat → Int64) {n : Nat} (hn : n < 128) (h0 : 0 < n) : Ex (d + 2) k_X12_greatestOf [.int (nI n)] (SH, M, ML) (some (.int (nI (msb n))), (SH, M, ML)) := by
  refine Ex_in mi_X12_greatestOf rfl rfl ⟨Nat.le_refl _, Nat.le_refl _⟩ ?_
  show RR _ cd_X12_greatestOf false _ (0, [(0, .int (nI n))], [], (SH, M, ML))
  refine r_cst (v := .int 31) rfl rfl ?_
  refine r_ld rfl rfl ?_
  refine q_call (as := [_]) (rest := [_]) rfl rfl rfl rfl rfl rfl rfl rfl (ok_nlz _ _ _ hn h0) ?_
  refine r_bin rfl rfl ?_
  refine r_ret rfl rfl (trivial) ?_
  rw [msb_31 n hn]

