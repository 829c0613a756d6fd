/-! ===== the law: its loop ===== -/
theorem and63 (x : Int32) : ∃ j, j < 64 ∧ x &&& 63 = nI j := by
  refine ⟨(x &&& 63).toBitVec.toNat, ?_, ?_⟩
  · rw [Int32.toBitVec_and, BitVec.toNat_and]
    exact Nat.lt_succ_of_le Nat.and_le_right
  · apply Int32.toBitVec_inj.mp
    show _ = BitVec.ofNat 32 _
    rw [BitVec.ofNat_toNat, BitVec.setWidth_eq]
set_option maxHeartbeats 1000000 in
set_option maxRecDepth 10000 in
theorem law_next {X : Scr} {q : Nat} {M : Mm} {ML : Ml} (h : LW X (18, LL (q + 1), [], (SH, M, ML))) : LW X (1493, LL q, [], (SH, M, ML)) := by
  refine l_inc (L' := LL (q + 1)) rfl rfl ?_ ?_
  · show [(0, Value.ref 0), (1, .ref 1), (2, .ref 73), (3, .int (nI (4 * q) + 4))] = LL (q + 1)
    rw [show nI (4 * q) + 4 = nI (4 * q + 4) from nI_add (4 * q) 4]
    rfl
  refine l_go rfl ?_
  exact h

set_option maxHeartbeats 4000000 in
set_option maxRecDepth 10000 in
theorem law_sw {X : Scr} (hX : X.1 = true) {q : Nat} (hq : 4 * q + 4 ≤ X.2.1) (hL : X.2.1 ≤ 2048) {M : Mm} {ML : Ml} (hJ : J M) (ih : ∀ M' ML', J M' → LW X (1493, LL q, [], (SH, M', ML'))) {j : Nat} (hj : j < 64) : LW X (32, LL q, [.int (nI j)], (SH, M, ML)) := by
  match j, hj with
  | 0, _ => exact l_sw rfl rfl (law_nodes hX hq hL hJ ih)
  | 1, _ => exact l_sw rfl rfl (law_edge hX hq hL hJ ih)
  | 2, _ => exact l_sw rfl rfl (law_cut hX hq hL hJ ih)
  | 3, _ => exact l_sw rfl rfl (law_of hX hq hL hJ ih)
  | 4, _ => exact l_sw rfl rfl (law_arrows hX hq hL hJ ih)
  | 5, _ => exact l_sw rfl rfl (law_set hX hq hL hJ ih)
  | 6, _ => exact l_sw rfl rfl (law_ends hX hq hL hJ ih)
  | 7, _ => exact l_sw rfl rfl (law_free hX hq hL hJ ih)
  | 8, _ => exact l_sw rfl rfl (law_fire hX hq hL hJ ih)
  | 9, _ => exact l_sw rfl rfl (law_drown hX hq hL hJ ih)
  | 10, _ => exact l_sw rfl rfl (law_back hX hq hL hJ ih)
  | 11, _ => exact l_sw rfl rfl (law_thin hX hq hL hJ ih)
  | 12, _ => exact l_sw rfl rfl (law_log hX hq hL hJ ih)
  | 13, _ => exact l_sw rfl rfl (law_flow hX hq hL hJ ih)
  | 14, _ => exact l_sw rfl rfl (law_alike hX hq hL hJ ih)
  | 15, _ => exact l_sw rfl rfl (law_many hX hq hL hJ ih)
  | 16, _ => exact l_sw rfl rfl (law_ofClass hX hq hL hJ ih)
  | 17, _ => exact l_sw rfl rfl (law_place hX hq hL hJ ih)
  | 18, _ => exact l_sw rfl rfl (law_rooted hX hq hL hJ ih)
  | 19, _ => exact l_sw rfl rfl (law_tutte hX hq hL hJ ih)
  | 20, _ => exact l_sw rfl rfl (law_distance hX hq hL hJ ih)
  | 21, _ => exact l_sw rfl rfl (law_step hX hq hL hJ ih)
  | 22, _ => exact l_sw rfl rfl (law_far hX hq hL hJ ih)
  | 23, _ => exact l_sw rfl rfl (law_ways hX hq hL hJ ih)
  | 24, _ => exact l_sw rfl rfl (law_trip hX hq hL hJ ih)
  | 25, _ => exact l_sw rfl rfl (law_byWord hX hq hL hJ ih)
  | 26, _ => exact l_sw rfl rfl (law_words hX hq hL hJ ih)
  | 27, _ => exact l_sw rfl rfl (law_turn hX hq hL hJ ih)
  | 28, _ => exact l_sw rfl rfl (law_conjugate hX hq hL hJ ih)
  | 29, _ => exact l_sw rfl rfl (law_off hX hq hL hJ ih)
  | 30, _ => exact l_sw rfl rfl (law_firer hX hq hL hJ ih)
  | 31, _ => exact l_sw rfl rfl (law_runs hX hq hL hJ ih)
  | 32, _ => exact l_sw rfl rfl (law_feed hX hq hL hJ ih)
  | 33, _ => exact l_sw rfl rfl (law_wipe hX hq hL hJ ih)
  | 34, _ => exact l_sw rfl rfl (law_read hX hq hL hJ ih)
  | 35, _ => exact l_sw rfl rfl (law_spell hX hq hL hJ ih)
  | 36, _ => exact l_sw rfl rfl (law_hold hX hq hL hJ ih)
  | 37, _ => exact l_sw rfl rfl (law_drop hX hq hL hJ ih)
  | 38, _ => exact l_sw rfl rfl (law_taken hX hq hL hJ ih)
  | 39, _ => exact l_sw rfl rfl (law_row hX hq hL hJ ih)
  | 40, _ => exact l_sw rfl rfl (law_put hX hq hL hJ ih)
  | 41, _ => exact l_sw rfl rfl (law_get hX hq hL hJ ih)
  | 42, _ => exact l_sw rfl rfl (law_judge hX hq hL hJ ih)
  | 43, _ => exact l_sw rfl rfl (law_image hX hq hL hJ ih)
  | 44, _ => exact l_sw rfl rfl (law_undo hX hq hL hJ ih)
  | 45, _ => exact l_sw rfl rfl (law_count hX hq hL hJ ih)
  | 46, _ => exact l_sw rfl rfl (ih M ML hJ)
  | 47, _ => exact l_sw rfl rfl (ih M ML hJ)
  | 48, _ => exact l_sw rfl rfl (ih M ML hJ)
  | 49, _ => exact l_sw rfl rfl (ih M ML hJ)
  | 50, _ => exact l_sw rfl rfl (ih M ML hJ)
  | 51, _ => exact l_sw rfl rfl (ih M ML hJ)
  | 52, _ => exact l_sw rfl rfl (ih M ML hJ)
  | 53, _ => exact l_sw rfl rfl (ih M ML hJ)
  | 54, _ => exact l_sw rfl rfl (ih M ML hJ)
  | 55, _ => exact l_sw rfl rfl (ih M ML hJ)
  | 56, _ => exact l_sw rfl rfl (ih M ML hJ)
  | 57, _ => exact l_sw rfl rfl (ih M ML hJ)
  | 58, _ => exact l_sw rfl rfl (ih M ML hJ)
  | 59, _ => exact l_sw rfl rfl (ih M ML hJ)
  | 60, _ => exact l_sw rfl rfl (ih M ML hJ)
  | 61, _ => exact l_sw rfl rfl (ih M ML hJ)
  | 62, _ => exact l_sw rfl rfl (ih M ML hJ)
  | 63, _ => exact l_sw rfl rfl (ih M ML hJ)
  | n + 64, h => exact absurd h (by omega)

set_option maxHeartbeats 1000000 in
set_option maxRecDepth 10000 in
theorem law_loop {X : Scr} (hX : X.1 = true) (hL : X.2.1 ≤ 2048) : ∀ (n q : Nat), n + q = 513 → ∀ (M : Mm) (ML : Ml), J M → LW X (18, LL q, [], (SH, M, ML)) := by
  intro n
  induction n with
  | zero =>
    intro q hq M ML hJ
    refine l_ld rfl rfl ?_
    refine l_ld rfl rfl ?_
    refine l_scl rfl hX ?_
    refine l_cst (v := .int 4) rfl rfl ?_
    refine l_bin rfl rfl ?_
    refine l_cjT rfl rfl ?_ ?_
    · rw [Int32.lt_iff_toInt_lt, nI_toInt (by omega), show (Int32.ofNat X.2.1 - 4).toInt = (X.2.1 : Int) - 4 from pk_sub_toInt (a := X.2.1) (b := 4) (by omega) (by decide)]
      omega
    · refine l_cst (v := .int 1) rfl rfl ?_
      exact l_ret rfl rfl
  | succ n ih =>
    intro q hq M ML hJ
    refine l_ld rfl rfl ?_
    refine l_ld rfl rfl ?_
    refine l_scl rfl hX ?_
    refine l_cst (v := .int 4) rfl rfl ?_
    refine l_bin rfl rfl ?_
    by_cases hq4 : 4 * q + 4 ≤ X.2.1
    · refine l_cjF rfl rfl ?_ ?_
      · rw [Int32.lt_iff_toInt_lt, nI_toInt (by omega), show (Int32.ofNat X.2.1 - 4).toInt = (X.2.1 : Int) - 4 from pk_sub_toInt (a := X.2.1) (b := 4) (by omega) (by decide)]
        omega
      · refine l_ld rfl rfl ?_
        refine l_ld rfl rfl ?_
        refine l_scr rfl hX (vp_in_nI (by omega) (by omega)) ?_
        refine l_cst (v := .int 63) rfl rfl ?_
        refine l_bin rfl rfl ?_
        obtain ⟨j, hj, e⟩ := and63 (X.2.2 (nI (4 * q)).toNatClampNeg)
        rw [e]
        exact law_sw hX hq4 hL hJ (fun M' ML' hJ' => law_next (ih (q + 1) (by omega) M' ML' hJ')) hj
    · refine l_cjT rfl rfl ?_ ?_
      · rw [Int32.lt_iff_toInt_lt, nI_toInt (by omega), show (Int32.ofNat X.2.1 - 4).toInt = (X.2.1 : Int) - 4 from pk_sub_toInt (a := X.2.1) (b := 4) (by omega) (by decide)]
        omega
      · refine l_cst (v := .int 1) rfl rfl ?_
        exact l_ret rfl rfl

