/-! ===== spell and hold of both ===== -/
def spN (N E A : Nat) (l h : Nat → Nat) (k : Nat) : Int32 := if 3 * E < k then -2 else if k = 0 then 48 + nI N else if (k - 1) % 3 = 0 then 59 else if (k - 1) % 3 = 1 then 48 + nI (fr l h (nI A) ((k - 1) / 3)) else 48 + nI (to l h (nI A) ((k - 1) / 3))
def spA (N E A : Nat) (l h : Nat → Nat) (x : Int32) : Int32 := if x < 0 then -1 else spN N E A l h x.toNatClampNeg
theorem spA_nI {N E A : Nat} {l h : Nat → Nat} {k : Nat} (hk : k < 2 ^ 31) : spA N E A l h (nI k) = spN N E A l h k := by
  unfold spA
  rw [if_neg (ne_m1 hk), nI_clamp hk]
theorem spN_s {N E A : Nat} {l h : Nat → Nat} {k : Nat} (hk : k < 3 * E) : spN N E A l h (k + 1) = if k % 3 = 0 then 59 else if k % 3 = 1 then 48 + nI (fr l h (nI A) (k / 3)) else 48 + nI (to l h (nI A) (k / 3)) := by
  unfold spN
  rw [if_neg (by omega), if_neg (by omega), Nat.add_sub_cancel]
theorem e3 {E : Nat} : (3 : Int32) * nI E = nI (3 * E) := pk_mul 3 E
theorem d3 {k : Nat} (hk : k < 2 ^ 31) : nI k / 3 = nI (k / 3) := pk_div (d := 3) hk (by decide) (by decide)
theorem m3 {k : Nat} (hk : k < 2 ^ 31) : nI k - nI (k / 3) * 3 = nI (k % 3) := by
  rw [← d3 hk]
  exact pk_rem (d := 3) hk (by decide) (by decide)

set_option maxHeartbeats 1000000 in
set_option maxRecDepth 10000 in
theorem ok_X11_spell_0 {d : Nat} {M : Mm} {ML : Ml} {N E A : Nat} {l h : Nat → Nat} (hS : NS M 2 3 4 5 6 N E A l h) (hW : WN N E A l h) {k : Nat} (hk : k < 3 * E) (hm : k % 3 = 0) : EX (d + 3) k_X11_spell [.ref 1, .int (nI (k + 1))] M ML (fun r M2 L2 => r = some (.int (spN N E A l h (k + 1))) ∧ L2 = ML ∧ M2 = M) := by
  refine EX_in mi_X11_spell rfl rfl ?_
  show WP _ cd_X11_spell false _ (0, [(0, .ref 1), (1, .int (nI (k + 1)))], [], (SH, M, ML))
  have hE10 := hW.2.2.1
  refine w_ld rfl rfl ?_
  refine w_cjT rfl rfl (nI_pos' (by omega)) ?_
  refine w_ld rfl rfl ?_
  refine w_cst (v := .int 3) rfl rfl ?_
  refine w_ld rfl rfl ?_
  refine w_getr rfl rfl rfl rfl rfl ?_
  refine w_getv rfl rfl rfl rfl rfl (hS.2.1) ?_
  refine w_bin rfl rfl ?_
  rw [e3]
  refine w_cjT rfl rfl (nI_le (by omega) (by omega)) ?_
  refine w_ld rfl rfl ?_
  refine w_cjT rfl rfl (fun q => absurd ((nI_e0 (by omega)).mp q) (by omega)) ?_
  refine w_ld rfl rfl ?_
  refine w_cst (v := .int 1) rfl rfl ?_
  refine w_bin rfl rfl ?_
  rw [nI_s1]
  refine w_cst (v := .int 3) rfl rfl ?_
  refine w_div rfl rfl (by decide) ?_
  rw [d3 (by omega)]
  refine w_sto (L' := [(0, _), (1, _), (2, _)]) rfl rfl ?_
  refine w_ld rfl rfl ?_
  refine w_cst (v := .int 1) rfl rfl ?_
  refine w_bin rfl rfl ?_
  rw [nI_s1]
  refine w_cst (v := .int 3) rfl rfl ?_
  refine w_div rfl rfl (by decide) ?_
  rw [d3 (by omega), m3 (by omega), hm]
  refine w_sw rfl rfl ?_
  refine w_cst (v := .int 59) rfl rfl ?_
  refine w_ret rfl rfl (trivial) ?_
  refine ⟨?_, rfl, rfl⟩
  rw [spN_s hk, if_pos hm]

set_option maxHeartbeats 1000000 in
set_option maxRecDepth 10000 in
theorem ok_X11_spell_1 {d : Nat} {M : Mm} {ML : Ml} {N E A : Nat} {l h : Nat → Nat} (hS : NS M 2 3 4 5 6 N E A l h) (hW : WN N E A l h) {k : Nat} (hk : k < 3 * E) (hm : k % 3 = 1) : EX (d + 3) k_X11_spell [.ref 1, .int (nI (k + 1))] M ML (fun r M2 L2 => r = some (.int (spN N E A l h (k + 1))) ∧ L2 = ML ∧ M2 = M) := by
  refine EX_in mi_X11_spell rfl rfl ?_
  show WP _ cd_X11_spell false _ (0, [(0, .ref 1), (1, .int (nI (k + 1)))], [], (SH, M, ML))
  have hE10 := hW.2.2.1
  refine w_ld rfl rfl ?_
  refine w_cjT rfl rfl (nI_pos' (by omega)) ?_
  refine w_ld rfl rfl ?_
  refine w_cst (v := .int 3) rfl rfl ?_
  refine w_ld rfl rfl ?_
  refine w_getr rfl rfl rfl rfl rfl ?_
  refine w_getv rfl rfl rfl rfl rfl (hS.2.1) ?_
  refine w_bin rfl rfl ?_
  rw [e3]
  refine w_cjT rfl rfl (nI_le (by omega) (by omega)) ?_
  refine w_ld rfl rfl ?_
  refine w_cjT rfl rfl (fun q => absurd ((nI_e0 (by omega)).mp q) (by omega)) ?_
  refine w_ld rfl rfl ?_
  refine w_cst (v := .int 1) rfl rfl ?_
  refine w_bin rfl rfl ?_
  rw [nI_s1]
  refine w_cst (v := .int 3) rfl rfl ?_
  refine w_div rfl rfl (by decide) ?_
  rw [d3 (by omega)]
  refine w_sto (L' := [(0, _), (1, _), (2, _)]) rfl rfl ?_
  refine w_ld rfl rfl ?_
  refine w_cst (v := .int 1) rfl rfl ?_
  refine w_bin rfl rfl ?_
  rw [nI_s1]
  refine w_cst (v := .int 3) rfl rfl ?_
  refine w_div rfl rfl (by decide) ?_
  rw [d3 (by omega), m3 (by omega), hm]
  refine w_sw rfl rfl ?_
  refine w_cst (v := .int 48) rfl rfl ?_
  refine w_ld rfl rfl ?_
  refine w_getr rfl rfl rfl rfl rfl ?_
  refine w_ld rfl rfl ?_
  refine w_getr rfl rfl rfl rfl rfl ?_
  refine w_getv rfl rfl rfl rfl rfl (hS.2.2.1) ?_
  refine w_ld rfl rfl ?_
  refine w_call (as := [_, _, _]) (rest := [_]) rfl rfl rfl rfl rfl rfl rfl rfl (ok_X4_tail _ _ _ _ hS (by omega) hE10) ?_
  refine w_bin rfl rfl ?_
  refine w_ret rfl rfl (trivial) ?_
  refine ⟨?_, rfl, rfl⟩
  rw [spN_s hk, if_neg (by omega), if_pos hm]

set_option maxHeartbeats 1000000 in
set_option maxRecDepth 10000 in
theorem ok_X11_spell_2 {d : Nat} {M : Mm} {ML : Ml} {N E A : Nat} {l h : Nat → Nat} (hS : NS M 2 3 4 5 6 N E A l h) (hW : WN N E A l h) {k : Nat} (hk : k < 3 * E) (hm : k % 3 = 2) : EX (d + 3) k_X11_spell [.ref 1, .int (nI (k + 1))] M ML (fun r M2 L2 => r = some (.int (spN N E A l h (k + 1))) ∧ L2 = ML ∧ M2 = M) := by
  refine EX_in mi_X11_spell rfl rfl ?_
  show WP _ cd_X11_spell false _ (0, [(0, .ref 1), (1, .int (nI (k + 1)))], [], (SH, M, ML))
  have hE10 := hW.2.2.1
  refine w_ld rfl rfl ?_
  refine w_cjT rfl rfl (nI_pos' (by omega)) ?_
  refine w_ld rfl rfl ?_
  refine w_cst (v := .int 3) rfl rfl ?_
  refine w_ld rfl rfl ?_
  refine w_getr rfl rfl rfl rfl rfl ?_
  refine w_getv rfl rfl rfl rfl rfl (hS.2.1) ?_
  refine w_bin rfl rfl ?_
  rw [e3]
  refine w_cjT rfl rfl (nI_le (by omega) (by omega)) ?_
  refine w_ld rfl rfl ?_
  refine w_cjT rfl rfl (fun q => absurd ((nI_e0 (by omega)).mp q) (by omega)) ?_
  refine w_ld rfl rfl ?_
  refine w_cst (v := .int 1) rfl rfl ?_
  refine w_bin rfl rfl ?_
  rw [nI_s1]
  refine w_cst (v := .int 3) rfl rfl ?_
  refine w_div rfl rfl (by decide) ?_
  rw [d3 (by omega)]
  refine w_sto (L' := [(0, _), (1, _), (2, _)]) rfl rfl ?_
  refine w_ld rfl rfl ?_
  refine w_cst (v := .int 1) rfl rfl ?_
  refine w_bin rfl rfl ?_
  rw [nI_s1]
  refine w_cst (v := .int 3) rfl rfl ?_
  refine w_div rfl rfl (by decide) ?_
  rw [d3 (by omega), m3 (by omega), hm]
  refine w_sw rfl rfl ?_
  refine w_cst (v := .int 48) rfl rfl ?_
  refine w_ld rfl rfl ?_
  refine w_getr rfl rfl rfl rfl rfl ?_
  refine w_ld rfl rfl ?_
  refine w_getr rfl rfl rfl rfl rfl ?_
  refine w_getv rfl rfl rfl rfl rfl (hS.2.2.1) ?_
  refine w_ld rfl rfl ?_
  refine w_call (as := [_, _, _]) (rest := [_]) rfl rfl rfl rfl rfl rfl rfl rfl (ok_X4_head _ _ _ _ hS (by omega) hE10) ?_
  refine w_bin rfl rfl ?_
  refine w_ret rfl rfl (trivial) ?_
  refine ⟨?_, rfl, rfl⟩
  rw [spN_s hk, if_neg (by omega), if_neg (by omega)]

set_option maxHeartbeats 1000000 in
set_option maxRecDepth 10000 in
theorem ok_X11_spell_n {d : Nat} {M : Mm} {ML : Ml} {N E A : Nat} {l h : Nat → Nat} (hS : NS M 2 3 4 5 6 N E A l h) (hW : WN N E A l h) {x : Int32} (hn : x < 0 ∨ x = 0 ∨ nI (3 * E) < x) : EX (d + 3) k_X11_spell [.ref 1, .int x] M ML (fun r M2 L2 => r = some (.int (spA N E A l h x)) ∧ L2 = ML ∧ M2 = M) := by
  refine EX_in mi_X11_spell rfl rfl ?_
  show WP _ cd_X11_spell false _ (0, [(0, .ref 1), (1, .int x)], [], (SH, M, ML))
  have hE10 := hW.2.2.1
  refine w_ld rfl rfl ?_
  refine w_cj rfl rfl (fun h_1 => ?_) (fun h_1 => ?_)
  · refine w_ld rfl rfl ?_
    refine w_cst (v := .int 3) rfl rfl ?_
    refine w_ld rfl rfl ?_
    refine w_getr rfl rfl rfl rfl rfl ?_
    refine w_getv rfl rfl rfl rfl rfl (hS.2.1) ?_
    refine w_bin rfl rfl ?_
    rw [e3]
    obtain ⟨k, hk, rfl⟩ := nI_of (nlt0.mpr h_1)
    refine w_cj rfl rfl (fun h_16 => ?_) (fun h_16 => ?_)
    · refine w_ld rfl rfl ?_
      refine w_cj rfl rfl (fun h_23 => ?_) (fun h_23 => ?_)
      · exact absurd hn (fun w => w.elim (fun y => ne_m1 hk y) (fun w2 => w2.elim h_23 (fun y => Nat.lt_irrefl _ (Nat.lt_of_lt_of_le (nlt (by omega) hk y) (nle hk (by omega) h_16)))))
      · refine w_cst (v := .int 48) rfl rfl ?_
        refine w_ld rfl rfl ?_
        refine w_getr rfl rfl rfl rfl rfl ?_
        refine w_getv rfl rfl rfl rfl rfl (hS.1) ?_
        refine w_bin rfl rfl ?_
        refine w_ret rfl rfl (trivial) ?_
        have h0 := (nI_e0 hk).mp (Classical.not_not.mp h_23)
        refine ⟨?_, rfl, rfl⟩
        rw [spA_nI hk, h0]
        exact rfl
    · refine w_cst (v := .int (-2)) rfl rfl ?_
      refine w_ret rfl rfl (trivial) ?_
      refine ⟨?_, rfl, rfl⟩
      rw [spA_nI hk]
      unfold spN
      rw [if_pos (nnle (by omega) (by omega) h_16)]
  · refine w_cst (v := .int (-1)) rfl rfl ?_
    refine w_ret rfl rfl (trivial) ?_
    refine ⟨?_, rfl, rfl⟩
    unfold spA
    rw [if_pos (nle_lt.mp h_1)]

theorem ok_X11_spell {d : Nat} {M : Mm} {ML : Ml} {N E A : Nat} {l h : Nat → Nat} (hS : NS M 2 3 4 5 6 N E A l h) (hW : WN N E A l h) {x : Int32} : EX (d + 3) k_X11_spell [.ref 1, .int x] M ML (fun r M2 L2 => r = some (.int (spA N E A l h x)) ∧ L2 = ML ∧ M2 = M) := by
  have hE10 := hW.2.2.1
  by_cases hn : x < 0 ∨ x = 0 ∨ nI (3 * E) < x
  · exact ok_X11_spell_n hS hW hn
  · obtain ⟨k, hk, rfl⟩ := nI_of (fun w => hn (Or.inl w))
    have h3 : k ≤ 3 * E := nnlt (by omega) (by omega) (fun w => hn (Or.inr (Or.inr w)))
    cases k with
    | zero => exact absurd (Or.inr (Or.inl rfl)) hn
    | succ k =>
      rw [spA_nI hk]
      rcases Nat.lt_or_ge (k % 3) 1 with w | w
      · exact ok_X11_spell_0 hS hW (by omega) (by omega)
      · rcases Nat.lt_or_ge (k % 3) 2 with w2 | w2
        · exact ok_X11_spell_1 hS hW (by omega) (by omega)
        · exact ok_X11_spell_2 hS hW (by omega) (by omega)

set_option maxHeartbeats 1000000 in
set_option maxRecDepth 10000 in
theorem ok_X12_spell {d : Nat} {M : Mm} {ML : Ml} {N E A : Nat} {l h : Nat → Nat} (hS : NM M N E A l h) (hW : WN N E A l h) {x : Int32} : EX (d + 3) k_X12_spell [.ref 73, .int x] M ML (fun r M2 L2 => r = some (.int (spA N E A l h x)) ∧ L2 = ML ∧ M2 = M) := by
  refine EX_in mi_X12_spell rfl rfl ?_
  show WP _ cd_X12_spell false _ (0, [(0, .ref 73), (1, .int x)], [], (SH, M, ML))
  have hE10 := hW.2.2.1
  refine w_ld rfl rfl ?_
  refine w_cj rfl rfl (fun h_1 => ?_) (fun h_1 => ?_)
  · refine w_ld rfl rfl ?_
    refine w_cst (v := .int 3) rfl rfl ?_
    refine w_ld rfl rfl ?_
    refine w_getv rfl rfl rfl rfl rfl (hS.2.1) ?_
    refine w_bin rfl rfl ?_
    rw [e3]
    obtain ⟨k, hk, rfl⟩ := nI_of (nlt0.mpr h_1)
    refine w_cj rfl rfl (fun h_13 => ?_) (fun h_13 => ?_)
    · refine w_ld rfl rfl ?_
      refine w_cj rfl rfl (fun h_20 => ?_) (fun h_20 => ?_)
      · have h3 := nle (by omega) (by omega) h_13
        have hz : ¬ k = 0 := fun w => h_20 (by rw [w]; rfl)
        obtain ⟨j, rfl⟩ : ∃ j, k = j + 1 := ⟨k - 1, by omega⟩
        rw [spA_nI hk, spN_s (by omega)]
        refine w_ld rfl rfl ?_
        refine w_cst (v := .int 1) rfl rfl ?_
        refine w_bin rfl rfl ?_
        rw [nI_s1]
        refine w_cst (v := .int 3) rfl rfl ?_
        refine w_div rfl rfl (by decide) ?_
        rw [d3 (by omega)]
        refine w_sto (L' := [(0, _), (1, _), (2, _)]) rfl rfl ?_
        refine w_ld rfl rfl ?_
        refine w_cst (v := .int 1) rfl rfl ?_
        refine w_bin rfl rfl ?_
        rw [nI_s1]
        refine w_cst (v := .int 3) rfl rfl ?_
        refine w_div rfl rfl (by decide) ?_
        rw [d3 (by omega), m3 (by omega)]
        refine w_cj rfl rfl (fun h_42 => ?_) (fun h_42 => ?_)
        · refine w_cst (v := .int 48) rfl rfl ?_
          refine w_ld rfl rfl ?_
          refine w_cst (v := .int 1) rfl rfl ?_
          refine w_bin rfl rfl ?_
          rw [nI_s1]
          refine w_cst (v := .int 3) rfl rfl ?_
          refine w_div rfl rfl (by decide) ?_
          rw [d3 (by omega), m3 (by omega)]
          refine w_cst (v := .int 1) rfl rfl ?_
          refine w_cj rfl rfl (fun h_58 => ?_) (fun h_58 => ?_)
          · refine w_ld rfl rfl ?_
            refine w_ld rfl rfl ?_
            refine w_getv rfl rfl rfl rfl rfl (hS.2.2.1) ?_
            refine w_ld rfl rfl ?_
            refine w_call (as := [_, _, _]) (rest := [_]) rfl rfl rfl rfl rfl rfl rfl rfl (ok_X12_toOf _ _ _ _ hS hE10 (by omega)) ?_
            refine w_bin rfl rfl ?_
            refine w_ret rfl rfl (trivial) ?_
            refine ⟨?_, rfl, rfl⟩
            first
              | exact (fun (w : nI (j % 3) = 1) => by
                  have w2 := neq (a := j % 3) (b := 1) (by omega) (by decide) w
                  rw [if_neg (by omega), if_pos w2]) (Classical.not_not.mp h_58)
              | exact (fun (w : ¬ nI (j % 3) = 1) (w2 : ¬ nI (j % 3) = 0) => by
                  rw [if_neg (fun y => w2 (by rw [y]; rfl)), if_neg (fun y => w (by rw [y]; rfl))]) h_58 h_42
              | exact (fun (w : nI (j % 3) = 0) => by
                  rw [if_pos (neq (b := 0) (by omega) (by decide) w)]) (Classical.not_not.mp h_42)
          · refine w_ld rfl rfl ?_
            refine w_ld rfl rfl ?_
            refine w_getv rfl rfl rfl rfl rfl (hS.2.2.1) ?_
            refine w_ld rfl rfl ?_
            refine w_call (as := [_, _, _]) (rest := [_]) rfl rfl rfl rfl rfl rfl rfl rfl (ok_X12_fromOf _ _ _ _ hS hE10 (by omega)) ?_
            refine w_go rfl ?_
            refine w_bin rfl rfl ?_
            refine w_ret rfl rfl (trivial) ?_
            refine ⟨?_, rfl, rfl⟩
            first
              | exact (fun (w : nI (j % 3) = 1) => by
                  have w2 := neq (a := j % 3) (b := 1) (by omega) (by decide) w
                  rw [if_neg (by omega), if_pos w2]) (Classical.not_not.mp h_58)
              | exact (fun (w : ¬ nI (j % 3) = 1) (w2 : ¬ nI (j % 3) = 0) => by
                  rw [if_neg (fun y => w2 (by rw [y]; rfl)), if_neg (fun y => w (by rw [y]; rfl))]) h_58 h_42
              | exact (fun (w : nI (j % 3) = 0) => by
                  rw [if_pos (neq (b := 0) (by omega) (by decide) w)]) (Classical.not_not.mp h_42)
        · refine w_cst (v := .int 59) rfl rfl ?_
          refine w_go rfl ?_
          refine w_ret rfl rfl (trivial) ?_
          refine ⟨?_, rfl, rfl⟩
          first
            | exact (fun (w : nI (j % 3) = 1) => by
                have w2 := neq (a := j % 3) (b := 1) (by omega) (by decide) w
                rw [if_neg (by omega), if_pos w2]) (Classical.not_not.mp h_58)
            | exact (fun (w : ¬ nI (j % 3) = 1) (w2 : ¬ nI (j % 3) = 0) => by
                rw [if_neg (fun y => w2 (by rw [y]; rfl)), if_neg (fun y => w (by rw [y]; rfl))]) h_58 h_42
            | exact (fun (w : nI (j % 3) = 0) => by
                rw [if_pos (neq (b := 0) (by omega) (by decide) w)]) (Classical.not_not.mp h_42)
      · refine w_cst (v := .int 48) rfl rfl ?_
        refine w_ld rfl rfl ?_
        refine w_getv rfl rfl rfl rfl rfl (hS.1) ?_
        refine w_bin rfl rfl ?_
        refine w_ret rfl rfl (trivial) ?_
        have h0 := (nI_e0 hk).mp (Classical.not_not.mp h_20)
        refine ⟨?_, rfl, rfl⟩
        rw [spA_nI hk, h0]
        exact rfl
    · refine w_cst (v := .int (-2)) rfl rfl ?_
      refine w_ret rfl rfl (trivial) ?_
      refine ⟨?_, rfl, rfl⟩
      rw [spA_nI hk]
      unfold spN
      rw [if_pos (nnle (by omega) (by omega) h_13)]
  · refine w_cst (v := .int (-1)) rfl rfl ?_
    refine w_ret rfl rfl (trivial) ?_
    refine ⟨?_, rfl, rfl⟩
    unfold spA
    rw [if_pos (nle_lt.mp h_1)]

noncomputable def hdB (N E : Nat) (w v : Int32) : Bool := if w = 0 then inR v (2 ^ E) else decide (w = 1) && wdB N v
theorem one_n0 : ¬ (1 : Int32) = 0 := by decide
theorem one_of {w : Int32} (h0 : 0 ≤ w) (h1 : w ≤ 1) (h2 : ¬ w = 0) : w = 1 := by
  rw [Int32.le_iff_toInt_le] at h0 h1
  apply Int32.toInt_inj.mp
  have e1 : (1 : Int32).toInt = 1 := rfl
  have e0 : (0 : Int32).toInt = 0 := rfl
  have e2 : ¬ w.toInt = 0 := fun y => h2 (Int32.toInt_inj.mp (y.trans e0.symm))
  omega
theorem hdB_0 {N E : Nat} {v : Int32} : hdB N E 0 v = inR v (2 ^ E) := if_pos rfl
theorem hdB_1 {N E : Nat} {v : Int32} : hdB N E 1 v = wdB N v := by
  unfold hdB
  rw [if_neg (by decide), decide_eq_true rfl, Bool.true_and]
theorem hdB_n {N E : Nat} {w v : Int32} (h0 : ¬ w = 0) (h1 : ¬ w = 1) : hdB N E w v = false := by
  unfold hdB
  rw [if_neg h0, decide_eq_false h1, Bool.false_and]
theorem hdB_lo {N E : Nat} {w v : Int32} (q : w < 0) : hdB N E w v = false := hdB_n (fun y => absurd q (by rw [y]; decide)) (fun y => absurd q (by rw [y]; decide))
theorem hdB_hi {N E : Nat} {w v : Int32} (q : ¬ w ≤ 1) : hdB N E w v = false := hdB_n (fun y => absurd q (by rw [y]; decide)) (fun y => absurd q (by rw [y]; decide))
theorem hdB_in {N E : Nat} {w v : Int32} (q : decide (0 ≤ w ∧ w ≤ 1) = false) : hdB N E w v = false := hdB_n (fun y => absurd q (by rw [y]; decide)) (fun y => absurd q (by rw [y]; decide))
theorem ho_ex {x : Int32} (q : decide (0 ≤ x ∧ x ≤ 5) = true) : ∃ i, i < 6 ∧ x = nI i := by
  have w := of_decide_eq_true q
  obtain ⟨k, hk, rfl⟩ := nI_of (nlt0.mpr w.1)
  exact ⟨k, by have := nle (b := 5) hk (by decide) w.2; omega, rfl⟩
theorem an_r {a b : Bool} (q : b = false) : (a && b) = false := by rw [q, Bool.and_false]
theorem an_l {a b : Bool} (q : a = false) : (a && b) = false := by rw [q, Bool.false_and]
theorem an_t {a b : Bool} (q : a = true) (q2 : b = true) : (a && b) = true := by rw [q, q2]; rfl

set_option maxHeartbeats 1000000 in
set_option maxRecDepth 10000 in
theorem ok_X11_hold_0 {d : Nat} {M : Mm} {ML : Ml} {N E A : Nat} {l h : Nat → Nat} (hS : NS M 2 3 4 5 6 N E A l h) (hW : WN N E A l h) {w v : Int32} : EX (d + 4) k_X11_hold [.ref 1, .int (nI 0), .int w, .int v] M ML (fun r M2 L2 => (hdB N E w v = false → r = some (.int (-1)) ∧ L2 = ML ∧ Fr [40] M M2) ∧ (hdB N E w v = true → r = some (.int v) ∧ L2 = ML ∧ ∃ M3, Fr [40] M M3 ∧ M2 = up2 (up2 (up2 M3 61 0 (w + 1)) 61 1 v) 61 2 (if w = 0 then nI E else nI N))) := by
  refine EX_in mi_X11_hold rfl rfl ?_
  show WP _ cd_X11_hold false _ (0, [(0, .ref 1), (1, .int (nI 0)), (2, .int w), (3, .int v)], [], (SH, M, ML))
  have hE10 := hW.2.2.1
  refine w_ld rfl rfl ?_
  refine w_ld rfl rfl ?_
  refine w_call (as := [_, _]) (rest := []) rfl rfl rfl rfl rfl rfl rfl rfl (ok_X11_holderAt_0 ..) ?_
  refine w_sto (L' := [(0, _), (1, _), (2, _), (3, _), (4, _)]) rfl rfl ?_
  refine w_ld rfl rfl ?_
  refine w_nlj rfl rfl ?_
  refine w_ld rfl rfl ?_
  refine w_cj rfl rfl (fun h_13 => ?_) (fun h_13 => ?_)
  · refine w_cst (v := .int (-1)) rfl rfl ?_
    refine w_ret rfl rfl (trivial) ?_
    first
      | exact ⟨fun _ => ⟨rfl, rfl, Fr_rf⟩, fun q => absurd ((hdB_lo h_13).symm.trans q) Bool.noConfusion⟩
      | exact ⟨fun _ => ⟨rfl, rfl, Fr_rf⟩, fun q => absurd ((hdB_hi h_18).symm.trans q) Bool.noConfusion⟩
  · refine w_ld rfl rfl ?_
    refine w_cst (v := .int 1) rfl rfl ?_
    refine w_cj rfl rfl (fun h_18 => ?_) (fun h_18 => ?_)
    · refine w_ld rfl rfl ?_
      refine w_cj rfl rfl (fun h_24 => ?_) (fun h_24 => ?_)
      · have hw := one_of (nlt_le.mp h_13) h_18 h_24
        subst hw
        rw [hdB_1]
        refine w_ld rfl rfl ?_
        refine w_getr rfl rfl rfl rfl rfl ?_
        refine w_ld rfl rfl ?_
        refine w_getr rfl rfl rfl rfl rfl ?_
        refine w_getv rfl rfl rfl rfl rfl (hS.1) ?_
        refine w_ld rfl rfl ?_
        obtain ⟨_, M3, L3, ⟨rfl, rfl, hF, -⟩, hE68⟩ := ok_X10_takeOne (d := d) (ML := ML) hW (x := v)
        refine w_cifn (as := [_, _, _]) (rest := []) rfl rfl rfl rfl rfl rfl rfl rfl hE68 rfl (fun h_68 => ?_) (fun h_68 => ?_)
        · refine w_ld rfl rfl ?_
          refine w_cst (v := .int 2) rfl rfl ?_
          refine w_ld rfl rfl ?_
          refine w_ld rfl rfl ?_
          refine w_getr rfl rfl rfl rfl rfl ?_
          refine w_getv rfl rfl rfl rfl rfl ((congrFun (hF 2 (by decide)) 0).trans hS.1) ?_
          refine w_callv (as := [_, _, _, _]) (rest := []) rfl rfl rfl rfl rfl rfl rfl rfl (ok_X3_take_0 ..) ?_
          refine w_ld rfl rfl ?_
          refine w_ret rfl rfl (trivial) ?_
          exact ⟨fun q => absurd (q.symm.trans h_68) Bool.noConfusion, fun _ => ⟨rfl, rfl, M3, hF, by rw [if_neg (by decide)]; rfl⟩⟩
        · refine w_cst (v := .int (-1)) rfl rfl ?_
          refine w_ret rfl rfl (trivial) ?_
          exact ⟨fun _ => ⟨rfl, rfl, hF⟩, fun q => absurd ((h_68).symm.trans q) Bool.noConfusion⟩
      · have hw := Classical.not_not.mp h_24
        subst hw
        rw [hdB_0]
        refine w_ld rfl rfl ?_
        refine w_getr rfl rfl rfl rfl rfl ?_
        refine w_ld rfl rfl ?_
        refine w_cifn (as := [_, _]) (rest := []) rfl rfl rfl rfl rfl rfl rfl rfl (ok_X4_hasArrowing _ _ _ _ hS.2.1 hE10) rfl (fun h_32 => ?_) (fun h_32 => ?_)
        · refine w_ld rfl rfl ?_
          refine w_cst (v := .int 1) rfl rfl ?_
          refine w_ld rfl rfl ?_
          refine w_ld rfl rfl ?_
          refine w_getr rfl rfl rfl rfl rfl ?_
          refine w_getv rfl rfl rfl rfl rfl (hS.2.1) ?_
          refine w_callv (as := [_, _, _, _]) (rest := []) rfl rfl rfl rfl rfl rfl rfl rfl (ok_X3_take_0 ..) ?_
          refine w_ld rfl rfl ?_
          refine w_ret rfl rfl (trivial) ?_
          exact ⟨fun q => absurd (q.symm.trans h_32) Bool.noConfusion, fun _ => ⟨rfl, rfl, M, Fr_rf, by rw [if_pos rfl]; rfl⟩⟩
        · refine w_cst (v := .int (-1)) rfl rfl ?_
          refine w_ret rfl rfl (trivial) ?_
          exact ⟨fun _ => ⟨rfl, rfl, Fr_rf⟩, fun q => absurd ((h_32).symm.trans q) Bool.noConfusion⟩
    · refine w_cst (v := .int (-1)) rfl rfl ?_
      refine w_ret rfl rfl (trivial) ?_
      first
        | exact ⟨fun _ => ⟨rfl, rfl, Fr_rf⟩, fun q => absurd ((hdB_lo h_13).symm.trans q) Bool.noConfusion⟩
        | exact ⟨fun _ => ⟨rfl, rfl, Fr_rf⟩, fun q => absurd ((hdB_hi h_18).symm.trans q) Bool.noConfusion⟩

set_option maxHeartbeats 1000000 in
set_option maxRecDepth 10000 in
theorem ok_X11_hold_1 {d : Nat} {M : Mm} {ML : Ml} {N E A : Nat} {l h : Nat → Nat} (hS : NS M 2 3 4 5 6 N E A l h) (hW : WN N E A l h) {w v : Int32} : EX (d + 4) k_X11_hold [.ref 1, .int (nI 1), .int w, .int v] M ML (fun r M2 L2 => (hdB N E w v = false → r = some (.int (-1)) ∧ L2 = ML ∧ Fr [40] M M2) ∧ (hdB N E w v = true → r = some (.int v) ∧ L2 = ML ∧ ∃ M3, Fr [40] M M3 ∧ M2 = up2 (up2 (up2 M3 63 0 (w + 1)) 63 1 v) 63 2 (if w = 0 then nI E else nI N))) := by
  refine EX_in mi_X11_hold rfl rfl ?_
  show WP _ cd_X11_hold false _ (0, [(0, .ref 1), (1, .int (nI 1)), (2, .int w), (3, .int v)], [], (SH, M, ML))
  have hE10 := hW.2.2.1
  refine w_ld rfl rfl ?_
  refine w_ld rfl rfl ?_
  refine w_call (as := [_, _]) (rest := []) rfl rfl rfl rfl rfl rfl rfl rfl (ok_X11_holderAt_1 ..) ?_
  refine w_sto (L' := [(0, _), (1, _), (2, _), (3, _), (4, _)]) rfl rfl ?_
  refine w_ld rfl rfl ?_
  refine w_nlj rfl rfl ?_
  refine w_ld rfl rfl ?_
  refine w_cj rfl rfl (fun h_13 => ?_) (fun h_13 => ?_)
  · refine w_cst (v := .int (-1)) rfl rfl ?_
    refine w_ret rfl rfl (trivial) ?_
    first
      | exact ⟨fun _ => ⟨rfl, rfl, Fr_rf⟩, fun q => absurd ((hdB_lo h_13).symm.trans q) Bool.noConfusion⟩
      | exact ⟨fun _ => ⟨rfl, rfl, Fr_rf⟩, fun q => absurd ((hdB_hi h_18).symm.trans q) Bool.noConfusion⟩
  · refine w_ld rfl rfl ?_
    refine w_cst (v := .int 1) rfl rfl ?_
    refine w_cj rfl rfl (fun h_18 => ?_) (fun h_18 => ?_)
    · refine w_ld rfl rfl ?_
      refine w_cj rfl rfl (fun h_24 => ?_) (fun h_24 => ?_)
      · have hw := one_of (nlt_le.mp h_13) h_18 h_24
        subst hw
        rw [hdB_1]
        refine w_ld rfl rfl ?_
        refine w_getr rfl rfl rfl rfl rfl ?_
        refine w_ld rfl rfl ?_
        refine w_getr rfl rfl rfl rfl rfl ?_
        refine w_getv rfl rfl rfl rfl rfl (hS.1) ?_
        refine w_ld rfl rfl ?_
        obtain ⟨_, M3, L3, ⟨rfl, rfl, hF, -⟩, hE68⟩ := ok_X10_takeOne (d := d) (ML := ML) hW (x := v)
        refine w_cifn (as := [_, _, _]) (rest := []) rfl rfl rfl rfl rfl rfl rfl rfl hE68 rfl (fun h_68 => ?_) (fun h_68 => ?_)
        · refine w_ld rfl rfl ?_
          refine w_cst (v := .int 2) rfl rfl ?_
          refine w_ld rfl rfl ?_
          refine w_ld rfl rfl ?_
          refine w_getr rfl rfl rfl rfl rfl ?_
          refine w_getv rfl rfl rfl rfl rfl ((congrFun (hF 2 (by decide)) 0).trans hS.1) ?_
          refine w_callv (as := [_, _, _, _]) (rest := []) rfl rfl rfl rfl rfl rfl rfl rfl (ok_X3_take_1 ..) ?_
          refine w_ld rfl rfl ?_
          refine w_ret rfl rfl (trivial) ?_
          exact ⟨fun q => absurd (q.symm.trans h_68) Bool.noConfusion, fun _ => ⟨rfl, rfl, M3, hF, by rw [if_neg (by decide)]; rfl⟩⟩
        · refine w_cst (v := .int (-1)) rfl rfl ?_
          refine w_ret rfl rfl (trivial) ?_
          exact ⟨fun _ => ⟨rfl, rfl, hF⟩, fun q => absurd ((h_68).symm.trans q) Bool.noConfusion⟩
      · have hw := Classical.not_not.mp h_24
        subst hw
        rw [hdB_0]
        refine w_ld rfl rfl ?_
        refine w_getr rfl rfl rfl rfl rfl ?_
        refine w_ld rfl rfl ?_
        refine w_cifn (as := [_, _]) (rest := []) rfl rfl rfl rfl rfl rfl rfl rfl (ok_X4_hasArrowing _ _ _ _ hS.2.1 hE10) rfl (fun h_32 => ?_) (fun h_32 => ?_)
        · refine w_ld rfl rfl ?_
          refine w_cst (v := .int 1) rfl rfl ?_
          refine w_ld rfl rfl ?_
          refine w_ld rfl rfl ?_
          refine w_getr rfl rfl rfl rfl rfl ?_
          refine w_getv rfl rfl rfl rfl rfl (hS.2.1) ?_
          refine w_callv (as := [_, _, _, _]) (rest := []) rfl rfl rfl rfl rfl rfl rfl rfl (ok_X3_take_1 ..) ?_
          refine w_ld rfl rfl ?_
          refine w_ret rfl rfl (trivial) ?_
          exact ⟨fun q => absurd (q.symm.trans h_32) Bool.noConfusion, fun _ => ⟨rfl, rfl, M, Fr_rf, by rw [if_pos rfl]; rfl⟩⟩
        · refine w_cst (v := .int (-1)) rfl rfl ?_
          refine w_ret rfl rfl (trivial) ?_
          exact ⟨fun _ => ⟨rfl, rfl, Fr_rf⟩, fun q => absurd ((h_32).symm.trans q) Bool.noConfusion⟩
    · refine w_cst (v := .int (-1)) rfl rfl ?_
      refine w_ret rfl rfl (trivial) ?_
      first
        | exact ⟨fun _ => ⟨rfl, rfl, Fr_rf⟩, fun q => absurd ((hdB_lo h_13).symm.trans q) Bool.noConfusion⟩
        | exact ⟨fun _ => ⟨rfl, rfl, Fr_rf⟩, fun q => absurd ((hdB_hi h_18).symm.trans q) Bool.noConfusion⟩

set_option maxHeartbeats 1000000 in
set_option maxRecDepth 10000 in
theorem ok_X11_hold_2 {d : Nat} {M : Mm} {ML : Ml} {N E A : Nat} {l h : Nat → Nat} (hS : NS M 2 3 4 5 6 N E A l h) (hW : WN N E A l h) {w v : Int32} : EX (d + 4) k_X11_hold [.ref 1, .int (nI 2), .int w, .int v] M ML (fun r M2 L2 => (hdB N E w v = false → r = some (.int (-1)) ∧ L2 = ML ∧ Fr [40] M M2) ∧ (hdB N E w v = true → r = some (.int v) ∧ L2 = ML ∧ ∃ M3, Fr [40] M M3 ∧ M2 = up2 (up2 (up2 M3 65 0 (w + 1)) 65 1 v) 65 2 (if w = 0 then nI E else nI N))) := by
  refine EX_in mi_X11_hold rfl rfl ?_
  show WP _ cd_X11_hold false _ (0, [(0, .ref 1), (1, .int (nI 2)), (2, .int w), (3, .int v)], [], (SH, M, ML))
  have hE10 := hW.2.2.1
  refine w_ld rfl rfl ?_
  refine w_ld rfl rfl ?_
  refine w_call (as := [_, _]) (rest := []) rfl rfl rfl rfl rfl rfl rfl rfl (ok_X11_holderAt_2 ..) ?_
  refine w_sto (L' := [(0, _), (1, _), (2, _), (3, _), (4, _)]) rfl rfl ?_
  refine w_ld rfl rfl ?_
  refine w_nlj rfl rfl ?_
  refine w_ld rfl rfl ?_
  refine w_cj rfl rfl (fun h_13 => ?_) (fun h_13 => ?_)
  · refine w_cst (v := .int (-1)) rfl rfl ?_
    refine w_ret rfl rfl (trivial) ?_
    first
      | exact ⟨fun _ => ⟨rfl, rfl, Fr_rf⟩, fun q => absurd ((hdB_lo h_13).symm.trans q) Bool.noConfusion⟩
      | exact ⟨fun _ => ⟨rfl, rfl, Fr_rf⟩, fun q => absurd ((hdB_hi h_18).symm.trans q) Bool.noConfusion⟩
  · refine w_ld rfl rfl ?_
    refine w_cst (v := .int 1) rfl rfl ?_
    refine w_cj rfl rfl (fun h_18 => ?_) (fun h_18 => ?_)
    · refine w_ld rfl rfl ?_
      refine w_cj rfl rfl (fun h_24 => ?_) (fun h_24 => ?_)
      · have hw := one_of (nlt_le.mp h_13) h_18 h_24
        subst hw
        rw [hdB_1]
        refine w_ld rfl rfl ?_
        refine w_getr rfl rfl rfl rfl rfl ?_
        refine w_ld rfl rfl ?_
        refine w_getr rfl rfl rfl rfl rfl ?_
        refine w_getv rfl rfl rfl rfl rfl (hS.1) ?_
        refine w_ld rfl rfl ?_
        obtain ⟨_, M3, L3, ⟨rfl, rfl, hF, -⟩, hE68⟩ := ok_X10_takeOne (d := d) (ML := ML) hW (x := v)
        refine w_cifn (as := [_, _, _]) (rest := []) rfl rfl rfl rfl rfl rfl rfl rfl hE68 rfl (fun h_68 => ?_) (fun h_68 => ?_)
        · refine w_ld rfl rfl ?_
          refine w_cst (v := .int 2) rfl rfl ?_
          refine w_ld rfl rfl ?_
          refine w_ld rfl rfl ?_
          refine w_getr rfl rfl rfl rfl rfl ?_
          refine w_getv rfl rfl rfl rfl rfl ((congrFun (hF 2 (by decide)) 0).trans hS.1) ?_
          refine w_callv (as := [_, _, _, _]) (rest := []) rfl rfl rfl rfl rfl rfl rfl rfl (ok_X3_take_2 ..) ?_
          refine w_ld rfl rfl ?_
          refine w_ret rfl rfl (trivial) ?_
          exact ⟨fun q => absurd (q.symm.trans h_68) Bool.noConfusion, fun _ => ⟨rfl, rfl, M3, hF, by rw [if_neg (by decide)]; rfl⟩⟩
        · refine w_cst (v := .int (-1)) rfl rfl ?_
          refine w_ret rfl rfl (trivial) ?_
          exact ⟨fun _ => ⟨rfl, rfl, hF⟩, fun q => absurd ((h_68).symm.trans q) Bool.noConfusion⟩
      · have hw := Classical.not_not.mp h_24
        subst hw
        rw [hdB_0]
        refine w_ld rfl rfl ?_
        refine w_getr rfl rfl rfl rfl rfl ?_
        refine w_ld rfl rfl ?_
        refine w_cifn (as := [_, _]) (rest := []) rfl rfl rfl rfl rfl rfl rfl rfl (ok_X4_hasArrowing _ _ _ _ hS.2.1 hE10) rfl (fun h_32 => ?_) (fun h_32 => ?_)
        · refine w_ld rfl rfl ?_
          refine w_cst (v := .int 1) rfl rfl ?_
          refine w_ld rfl rfl ?_
          refine w_ld rfl rfl ?_
          refine w_getr rfl rfl rfl rfl rfl ?_
          refine w_getv rfl rfl rfl rfl rfl (hS.2.1) ?_
          refine w_callv (as := [_, _, _, _]) (rest := []) rfl rfl rfl rfl rfl rfl rfl rfl (ok_X3_take_2 ..) ?_
          refine w_ld rfl rfl ?_
          refine w_ret rfl rfl (trivial) ?_
          exact ⟨fun q => absurd (q.symm.trans h_32) Bool.noConfusion, fun _ => ⟨rfl, rfl, M, Fr_rf, by rw [if_pos rfl]; rfl⟩⟩
        · refine w_cst (v := .int (-1)) rfl rfl ?_
          refine w_ret rfl rfl (trivial) ?_
          exact ⟨fun _ => ⟨rfl, rfl, Fr_rf⟩, fun q => absurd ((h_32).symm.trans q) Bool.noConfusion⟩
    · refine w_cst (v := .int (-1)) rfl rfl ?_
      refine w_ret rfl rfl (trivial) ?_
      first
        | exact ⟨fun _ => ⟨rfl, rfl, Fr_rf⟩, fun q => absurd ((hdB_lo h_13).symm.trans q) Bool.noConfusion⟩
        | exact ⟨fun _ => ⟨rfl, rfl, Fr_rf⟩, fun q => absurd ((hdB_hi h_18).symm.trans q) Bool.noConfusion⟩

set_option maxHeartbeats 1000000 in
set_option maxRecDepth 10000 in
theorem ok_X11_hold_3 {d : Nat} {M : Mm} {ML : Ml} {N E A : Nat} {l h : Nat → Nat} (hS : NS M 2 3 4 5 6 N E A l h) (hW : WN N E A l h) {w v : Int32} : EX (d + 4) k_X11_hold [.ref 1, .int (nI 3), .int w, .int v] M ML (fun r M2 L2 => (hdB N E w v = false → r = some (.int (-1)) ∧ L2 = ML ∧ Fr [40] M M2) ∧ (hdB N E w v = true → r = some (.int v) ∧ L2 = ML ∧ ∃ M3, Fr [40] M M3 ∧ M2 = up2 (up2 (up2 M3 67 0 (w + 1)) 67 1 v) 67 2 (if w = 0 then nI E else nI N))) := by
  refine EX_in mi_X11_hold rfl rfl ?_
  show WP _ cd_X11_hold false _ (0, [(0, .ref 1), (1, .int (nI 3)), (2, .int w), (3, .int v)], [], (SH, M, ML))
  have hE10 := hW.2.2.1
  refine w_ld rfl rfl ?_
  refine w_ld rfl rfl ?_
  refine w_call (as := [_, _]) (rest := []) rfl rfl rfl rfl rfl rfl rfl rfl (ok_X11_holderAt_3 ..) ?_
  refine w_sto (L' := [(0, _), (1, _), (2, _), (3, _), (4, _)]) rfl rfl ?_
  refine w_ld rfl rfl ?_
  refine w_nlj rfl rfl ?_
  refine w_ld rfl rfl ?_
  refine w_cj rfl rfl (fun h_13 => ?_) (fun h_13 => ?_)
  · refine w_cst (v := .int (-1)) rfl rfl ?_
    refine w_ret rfl rfl (trivial) ?_
    first
      | exact ⟨fun _ => ⟨rfl, rfl, Fr_rf⟩, fun q => absurd ((hdB_lo h_13).symm.trans q) Bool.noConfusion⟩
      | exact ⟨fun _ => ⟨rfl, rfl, Fr_rf⟩, fun q => absurd ((hdB_hi h_18).symm.trans q) Bool.noConfusion⟩
  · refine w_ld rfl rfl ?_
    refine w_cst (v := .int 1) rfl rfl ?_
    refine w_cj rfl rfl (fun h_18 => ?_) (fun h_18 => ?_)
    · refine w_ld rfl rfl ?_
      refine w_cj rfl rfl (fun h_24 => ?_) (fun h_24 => ?_)
      · have hw := one_of (nlt_le.mp h_13) h_18 h_24
        subst hw
        rw [hdB_1]
        refine w_ld rfl rfl ?_
        refine w_getr rfl rfl rfl rfl rfl ?_
        refine w_ld rfl rfl ?_
        refine w_getr rfl rfl rfl rfl rfl ?_
        refine w_getv rfl rfl rfl rfl rfl (hS.1) ?_
        refine w_ld rfl rfl ?_
        obtain ⟨_, M3, L3, ⟨rfl, rfl, hF, -⟩, hE68⟩ := ok_X10_takeOne (d := d) (ML := ML) hW (x := v)
        refine w_cifn (as := [_, _, _]) (rest := []) rfl rfl rfl rfl rfl rfl rfl rfl hE68 rfl (fun h_68 => ?_) (fun h_68 => ?_)
        · refine w_ld rfl rfl ?_
          refine w_cst (v := .int 2) rfl rfl ?_
          refine w_ld rfl rfl ?_
          refine w_ld rfl rfl ?_
          refine w_getr rfl rfl rfl rfl rfl ?_
          refine w_getv rfl rfl rfl rfl rfl ((congrFun (hF 2 (by decide)) 0).trans hS.1) ?_
          refine w_callv (as := [_, _, _, _]) (rest := []) rfl rfl rfl rfl rfl rfl rfl rfl (ok_X3_take_3 ..) ?_
          refine w_ld rfl rfl ?_
          refine w_ret rfl rfl (trivial) ?_
          exact ⟨fun q => absurd (q.symm.trans h_68) Bool.noConfusion, fun _ => ⟨rfl, rfl, M3, hF, by rw [if_neg (by decide)]; rfl⟩⟩
        · refine w_cst (v := .int (-1)) rfl rfl ?_
          refine w_ret rfl rfl (trivial) ?_
          exact ⟨fun _ => ⟨rfl, rfl, hF⟩, fun q => absurd ((h_68).symm.trans q) Bool.noConfusion⟩
      · have hw := Classical.not_not.mp h_24
        subst hw
        rw [hdB_0]
        refine w_ld rfl rfl ?_
        refine w_getr rfl rfl rfl rfl rfl ?_
        refine w_ld rfl rfl ?_
        refine w_cifn (as := [_, _]) (rest := []) rfl rfl rfl rfl rfl rfl rfl rfl (ok_X4_hasArrowing _ _ _ _ hS.2.1 hE10) rfl (fun h_32 => ?_) (fun h_32 => ?_)
        · refine w_ld rfl rfl ?_
          refine w_cst (v := .int 1) rfl rfl ?_
          refine w_ld rfl rfl ?_
          refine w_ld rfl rfl ?_
          refine w_getr rfl rfl rfl rfl rfl ?_
          refine w_getv rfl rfl rfl rfl rfl (hS.2.1) ?_
          refine w_callv (as := [_, _, _, _]) (rest := []) rfl rfl rfl rfl rfl rfl rfl rfl (ok_X3_take_3 ..) ?_
          refine w_ld rfl rfl ?_
          refine w_ret rfl rfl (trivial) ?_
          exact ⟨fun q => absurd (q.symm.trans h_32) Bool.noConfusion, fun _ => ⟨rfl, rfl, M, Fr_rf, by rw [if_pos rfl]; rfl⟩⟩
        · refine w_cst (v := .int (-1)) rfl rfl ?_
          refine w_ret rfl rfl (trivial) ?_
          exact ⟨fun _ => ⟨rfl, rfl, Fr_rf⟩, fun q => absurd ((h_32).symm.trans q) Bool.noConfusion⟩
    · refine w_cst (v := .int (-1)) rfl rfl ?_
      refine w_ret rfl rfl (trivial) ?_
      first
        | exact ⟨fun _ => ⟨rfl, rfl, Fr_rf⟩, fun q => absurd ((hdB_lo h_13).symm.trans q) Bool.noConfusion⟩
        | exact ⟨fun _ => ⟨rfl, rfl, Fr_rf⟩, fun q => absurd ((hdB_hi h_18).symm.trans q) Bool.noConfusion⟩

set_option maxHeartbeats 1000000 in
set_option maxRecDepth 10000 in
theorem ok_X11_hold_4 {d : Nat} {M : Mm} {ML : Ml} {N E A : Nat} {l h : Nat → Nat} (hS : NS M 2 3 4 5 6 N E A l h) (hW : WN N E A l h) {w v : Int32} : EX (d + 4) k_X11_hold [.ref 1, .int (nI 4), .int w, .int v] M ML (fun r M2 L2 => (hdB N E w v = false → r = some (.int (-1)) ∧ L2 = ML ∧ Fr [40] M M2) ∧ (hdB N E w v = true → r = some (.int v) ∧ L2 = ML ∧ ∃ M3, Fr [40] M M3 ∧ M2 = up2 (up2 (up2 M3 69 0 (w + 1)) 69 1 v) 69 2 (if w = 0 then nI E else nI N))) := by
  refine EX_in mi_X11_hold rfl rfl ?_
  show WP _ cd_X11_hold false _ (0, [(0, .ref 1), (1, .int (nI 4)), (2, .int w), (3, .int v)], [], (SH, M, ML))
  have hE10 := hW.2.2.1
  refine w_ld rfl rfl ?_
  refine w_ld rfl rfl ?_
  refine w_call (as := [_, _]) (rest := []) rfl rfl rfl rfl rfl rfl rfl rfl (ok_X11_holderAt_4 ..) ?_
  refine w_sto (L' := [(0, _), (1, _), (2, _), (3, _), (4, _)]) rfl rfl ?_
  refine w_ld rfl rfl ?_
  refine w_nlj rfl rfl ?_
  refine w_ld rfl rfl ?_
  refine w_cj rfl rfl (fun h_13 => ?_) (fun h_13 => ?_)
  · refine w_cst (v := .int (-1)) rfl rfl ?_
    refine w_ret rfl rfl (trivial) ?_
    first
      | exact ⟨fun _ => ⟨rfl, rfl, Fr_rf⟩, fun q => absurd ((hdB_lo h_13).symm.trans q) Bool.noConfusion⟩
      | exact ⟨fun _ => ⟨rfl, rfl, Fr_rf⟩, fun q => absurd ((hdB_hi h_18).symm.trans q) Bool.noConfusion⟩
  · refine w_ld rfl rfl ?_
    refine w_cst (v := .int 1) rfl rfl ?_
    refine w_cj rfl rfl (fun h_18 => ?_) (fun h_18 => ?_)
    · refine w_ld rfl rfl ?_
      refine w_cj rfl rfl (fun h_24 => ?_) (fun h_24 => ?_)
      · have hw := one_of (nlt_le.mp h_13) h_18 h_24
        subst hw
        rw [hdB_1]
        refine w_ld rfl rfl ?_
        refine w_getr rfl rfl rfl rfl rfl ?_
        refine w_ld rfl rfl ?_
        refine w_getr rfl rfl rfl rfl rfl ?_
        refine w_getv rfl rfl rfl rfl rfl (hS.1) ?_
        refine w_ld rfl rfl ?_
        obtain ⟨_, M3, L3, ⟨rfl, rfl, hF, -⟩, hE68⟩ := ok_X10_takeOne (d := d) (ML := ML) hW (x := v)
        refine w_cifn (as := [_, _, _]) (rest := []) rfl rfl rfl rfl rfl rfl rfl rfl hE68 rfl (fun h_68 => ?_) (fun h_68 => ?_)
        · refine w_ld rfl rfl ?_
          refine w_cst (v := .int 2) rfl rfl ?_
          refine w_ld rfl rfl ?_
          refine w_ld rfl rfl ?_
          refine w_getr rfl rfl rfl rfl rfl ?_
          refine w_getv rfl rfl rfl rfl rfl ((congrFun (hF 2 (by decide)) 0).trans hS.1) ?_
          refine w_callv (as := [_, _, _, _]) (rest := []) rfl rfl rfl rfl rfl rfl rfl rfl (ok_X3_take_4 ..) ?_
          refine w_ld rfl rfl ?_
          refine w_ret rfl rfl (trivial) ?_
          exact ⟨fun q => absurd (q.symm.trans h_68) Bool.noConfusion, fun _ => ⟨rfl, rfl, M3, hF, by rw [if_neg (by decide)]; rfl⟩⟩
        · refine w_cst (v := .int (-1)) rfl rfl ?_
          refine w_ret rfl rfl (trivial) ?_
          exact ⟨fun _ => ⟨rfl, rfl, hF⟩, fun q => absurd ((h_68).symm.trans q) Bool.noConfusion⟩
      · have hw := Classical.not_not.mp h_24
        subst hw
        rw [hdB_0]
        refine w_ld rfl rfl ?_
        refine w_getr rfl rfl rfl rfl rfl ?_
        refine w_ld rfl rfl ?_
        refine w_cifn (as := [_, _]) (rest := []) rfl rfl rfl rfl rfl rfl rfl rfl (ok_X4_hasArrowing _ _ _ _ hS.2.1 hE10) rfl (fun h_32 => ?_) (fun h_32 => ?_)
        · refine w_ld rfl rfl ?_
          refine w_cst (v := .int 1) rfl rfl ?_
          refine w_ld rfl rfl ?_
          refine w_ld rfl rfl ?_
          refine w_getr rfl rfl rfl rfl rfl ?_
          refine w_getv rfl rfl rfl rfl rfl (hS.2.1) ?_
          refine w_callv (as := [_, _, _, _]) (rest := []) rfl rfl rfl rfl rfl rfl rfl rfl (ok_X3_take_4 ..) ?_
          refine w_ld rfl rfl ?_
          refine w_ret rfl rfl (trivial) ?_
          exact ⟨fun q => absurd (q.symm.trans h_32) Bool.noConfusion, fun _ => ⟨rfl, rfl, M, Fr_rf, by rw [if_pos rfl]; rfl⟩⟩
        · refine w_cst (v := .int (-1)) rfl rfl ?_
          refine w_ret rfl rfl (trivial) ?_
          exact ⟨fun _ => ⟨rfl, rfl, Fr_rf⟩, fun q => absurd ((h_32).symm.trans q) Bool.noConfusion⟩
    · refine w_cst (v := .int (-1)) rfl rfl ?_
      refine w_ret rfl rfl (trivial) ?_
      first
        | exact ⟨fun _ => ⟨rfl, rfl, Fr_rf⟩, fun q => absurd ((hdB_lo h_13).symm.trans q) Bool.noConfusion⟩
        | exact ⟨fun _ => ⟨rfl, rfl, Fr_rf⟩, fun q => absurd ((hdB_hi h_18).symm.trans q) Bool.noConfusion⟩

set_option maxHeartbeats 1000000 in
set_option maxRecDepth 10000 in
theorem ok_X11_hold_5 {d : Nat} {M : Mm} {ML : Ml} {N E A : Nat} {l h : Nat → Nat} (hS : NS M 2 3 4 5 6 N E A l h) (hW : WN N E A l h) {w v : Int32} : EX (d + 4) k_X11_hold [.ref 1, .int (nI 5), .int w, .int v] M ML (fun r M2 L2 => (hdB N E w v = false → r = some (.int (-1)) ∧ L2 = ML ∧ Fr [40] M M2) ∧ (hdB N E w v = true → r = some (.int v) ∧ L2 = ML ∧ ∃ M3, Fr [40] M M3 ∧ M2 = up2 (up2 (up2 M3 71 0 (w + 1)) 71 1 v) 71 2 (if w = 0 then nI E else nI N))) := by
  refine EX_in mi_X11_hold rfl rfl ?_
  show WP _ cd_X11_hold false _ (0, [(0, .ref 1), (1, .int (nI 5)), (2, .int w), (3, .int v)], [], (SH, M, ML))
  have hE10 := hW.2.2.1
  refine w_ld rfl rfl ?_
  refine w_ld rfl rfl ?_
  refine w_call (as := [_, _]) (rest := []) rfl rfl rfl rfl rfl rfl rfl rfl (ok_X11_holderAt_5 ..) ?_
  refine w_sto (L' := [(0, _), (1, _), (2, _), (3, _), (4, _)]) rfl rfl ?_
  refine w_ld rfl rfl ?_
  refine w_nlj rfl rfl ?_
  refine w_ld rfl rfl ?_
  refine w_cj rfl rfl (fun h_13 => ?_) (fun h_13 => ?_)
  · refine w_cst (v := .int (-1)) rfl rfl ?_
    refine w_ret rfl rfl (trivial) ?_
    first
      | exact ⟨fun _ => ⟨rfl, rfl, Fr_rf⟩, fun q => absurd ((hdB_lo h_13).symm.trans q) Bool.noConfusion⟩
      | exact ⟨fun _ => ⟨rfl, rfl, Fr_rf⟩, fun q => absurd ((hdB_hi h_18).symm.trans q) Bool.noConfusion⟩
  · refine w_ld rfl rfl ?_
    refine w_cst (v := .int 1) rfl rfl ?_
    refine w_cj rfl rfl (fun h_18 => ?_) (fun h_18 => ?_)
    · refine w_ld rfl rfl ?_
      refine w_cj rfl rfl (fun h_24 => ?_) (fun h_24 => ?_)
      · have hw := one_of (nlt_le.mp h_13) h_18 h_24
        subst hw
        rw [hdB_1]
        refine w_ld rfl rfl ?_
        refine w_getr rfl rfl rfl rfl rfl ?_
        refine w_ld rfl rfl ?_
        refine w_getr rfl rfl rfl rfl rfl ?_
        refine w_getv rfl rfl rfl rfl rfl (hS.1) ?_
        refine w_ld rfl rfl ?_
        obtain ⟨_, M3, L3, ⟨rfl, rfl, hF, -⟩, hE68⟩ := ok_X10_takeOne (d := d) (ML := ML) hW (x := v)
        refine w_cifn (as := [_, _, _]) (rest := []) rfl rfl rfl rfl rfl rfl rfl rfl hE68 rfl (fun h_68 => ?_) (fun h_68 => ?_)
        · refine w_ld rfl rfl ?_
          refine w_cst (v := .int 2) rfl rfl ?_
          refine w_ld rfl rfl ?_
          refine w_ld rfl rfl ?_
          refine w_getr rfl rfl rfl rfl rfl ?_
          refine w_getv rfl rfl rfl rfl rfl ((congrFun (hF 2 (by decide)) 0).trans hS.1) ?_
          refine w_callv (as := [_, _, _, _]) (rest := []) rfl rfl rfl rfl rfl rfl rfl rfl (ok_X3_take_5 ..) ?_
          refine w_ld rfl rfl ?_
          refine w_ret rfl rfl (trivial) ?_
          exact ⟨fun q => absurd (q.symm.trans h_68) Bool.noConfusion, fun _ => ⟨rfl, rfl, M3, hF, by rw [if_neg (by decide)]; rfl⟩⟩
        · refine w_cst (v := .int (-1)) rfl rfl ?_
          refine w_ret rfl rfl (trivial) ?_
          exact ⟨fun _ => ⟨rfl, rfl, hF⟩, fun q => absurd ((h_68).symm.trans q) Bool.noConfusion⟩
      · have hw := Classical.not_not.mp h_24
        subst hw
        rw [hdB_0]
        refine w_ld rfl rfl ?_
        refine w_getr rfl rfl rfl rfl rfl ?_
        refine w_ld rfl rfl ?_
        refine w_cifn (as := [_, _]) (rest := []) rfl rfl rfl rfl rfl rfl rfl rfl (ok_X4_hasArrowing _ _ _ _ hS.2.1 hE10) rfl (fun h_32 => ?_) (fun h_32 => ?_)
        · refine w_ld rfl rfl ?_
          refine w_cst (v := .int 1) rfl rfl ?_
          refine w_ld rfl rfl ?_
          refine w_ld rfl rfl ?_
          refine w_getr rfl rfl rfl rfl rfl ?_
          refine w_getv rfl rfl rfl rfl rfl (hS.2.1) ?_
          refine w_callv (as := [_, _, _, _]) (rest := []) rfl rfl rfl rfl rfl rfl rfl rfl (ok_X3_take_5 ..) ?_
          refine w_ld rfl rfl ?_
          refine w_ret rfl rfl (trivial) ?_
          exact ⟨fun q => absurd (q.symm.trans h_32) Bool.noConfusion, fun _ => ⟨rfl, rfl, M, Fr_rf, by rw [if_pos rfl]; rfl⟩⟩
        · refine w_cst (v := .int (-1)) rfl rfl ?_
          refine w_ret rfl rfl (trivial) ?_
          exact ⟨fun _ => ⟨rfl, rfl, Fr_rf⟩, fun q => absurd ((h_32).symm.trans q) Bool.noConfusion⟩
    · refine w_cst (v := .int (-1)) rfl rfl ?_
      refine w_ret rfl rfl (trivial) ?_
      first
        | exact ⟨fun _ => ⟨rfl, rfl, Fr_rf⟩, fun q => absurd ((hdB_lo h_13).symm.trans q) Bool.noConfusion⟩
        | exact ⟨fun _ => ⟨rfl, rfl, Fr_rf⟩, fun q => absurd ((hdB_hi h_18).symm.trans q) Bool.noConfusion⟩

set_option maxHeartbeats 1000000 in
set_option maxRecDepth 10000 in
theorem ok_X11_hold_n {d : Nat} {M : Mm} {ML : Ml} {x w v : Int32} (hx : ¬ (0 ≤ x ∧ x < 6)) : EX (d + 4) k_X11_hold [.ref 1, .int x, .int w, .int v] M ML (fun r M2 L2 => r = some (.int (-1)) ∧ L2 = ML ∧ M2 = M) := by
  refine EX_in mi_X11_hold rfl rfl ?_
  show WP _ cd_X11_hold false _ (0, [(0, .ref 1), (1, .int x), (2, .int w), (3, .int v)], [], (SH, M, ML))
  refine w_ld rfl rfl ?_
  refine w_ld rfl rfl ?_
  refine w_call (as := [_, _]) (rest := []) rfl rfl rfl rfl rfl rfl rfl rfl (ok_X11_holderAt_n _ _ _ hx) ?_
  refine w_sto (L' := [(0, _), (1, _), (2, _), (3, _), (4, _)]) rfl rfl ?_
  refine w_ld rfl rfl ?_
  refine w_nlj rfl rfl ?_
  refine w_cst (v := .int (-1)) rfl rfl ?_
  refine w_ret rfl rfl (trivial) ?_
  exact ⟨rfl, rfl, rfl⟩

set_option maxHeartbeats 1000000 in
set_option maxRecDepth 10000 in
theorem ok_X12_hold {d : Nat} {M : Mm} {ML : Ml} {N E A : Nat} {l h : Nat → Nat} (hS : NM M N E A l h) (hW : WN N E A l h) {x w v : Int32} : EX (d + 3) k_X12_hold [.ref 73, .int x, .int w, .int v] M ML (fun r M2 L2 => ((decide (0 ≤ x ∧ x ≤ 5) && hdB N E w v) = false → r = some (.int (-1)) ∧ L2 = ML ∧ M2 = M) ∧ ((decide (0 ≤ x ∧ x ≤ 5) && hdB N E w v) = true → r = some (.int v) ∧ L2 = ML ∧ M2 = up2 (up2 (up2 M 81 x.toNatClampNeg (w + 1)) 82 x.toNatClampNeg v) 83 x.toNatClampNeg (if w = 0 then nI E else nI N))) := by
  refine EX_in mi_X12_hold rfl rfl ?_
  show WP _ cd_X12_hold false _ (0, [(0, .ref 73), (1, .int x), (2, .int w), (3, .int v)], [], (SH, M, ML))
  have hE10 := hW.2.2.1
  refine w_ld rfl rfl ?_
  refine w_cife (as := [_]) (rest := []) rfl rfl rfl rfl rfl rfl rfl rfl (ok_X12_isHolder ..) rfl (fun h_1 => ?_) (fun h_1 => ?_)
  · refine w_cst (v := .int (-1)) rfl rfl ?_
    refine w_ret rfl rfl (trivial) ?_
    first
      | exact ⟨fun _ => ⟨rfl, rfl, rfl⟩, fun q => absurd ((an_r h_33).symm.trans q) Bool.noConfusion⟩
      | exact ⟨fun _ => ⟨rfl, rfl, rfl⟩, fun q => absurd ((an_r h_22).symm.trans q) Bool.noConfusion⟩
      | exact ⟨fun _ => ⟨rfl, rfl, rfl⟩, fun q => absurd ((an_r (hdB_in h_10)).symm.trans q) Bool.noConfusion⟩
      | exact ⟨fun _ => ⟨rfl, rfl, rfl⟩, fun q => absurd ((an_l h_1).symm.trans q) Bool.noConfusion⟩
  · refine w_ld rfl rfl ?_
    refine w_cst (v := .int 0) rfl rfl ?_
    refine w_cst (v := .int 1) rfl rfl ?_
    refine w_cife (as := [_, _, _]) (rest := []) rfl rfl rfl rfl rfl rfl rfl rfl (ok_X12_in ..) rfl (fun h_10 => ?_) (fun h_10 => ?_)
    · refine w_cst (v := .int (-1)) rfl rfl ?_
      refine w_ret rfl rfl (trivial) ?_
      first
        | exact ⟨fun _ => ⟨rfl, rfl, rfl⟩, fun q => absurd ((an_r h_33).symm.trans q) Bool.noConfusion⟩
        | exact ⟨fun _ => ⟨rfl, rfl, rfl⟩, fun q => absurd ((an_r h_22).symm.trans q) Bool.noConfusion⟩
        | exact ⟨fun _ => ⟨rfl, rfl, rfl⟩, fun q => absurd ((an_r (hdB_in h_10)).symm.trans q) Bool.noConfusion⟩
        | exact ⟨fun _ => ⟨rfl, rfl, rfl⟩, fun q => absurd ((an_l h_1).symm.trans q) Bool.noConfusion⟩
    · refine w_ld rfl rfl ?_
      refine w_cj rfl rfl (fun h_17 => ?_) (fun h_17 => ?_)
      · have hw := one_of (of_decide_eq_true h_10).1 (of_decide_eq_true h_10).2 h_17
        subst hw
        rw [hdB_1]
        refine w_ld rfl rfl ?_
        refine w_ld rfl rfl ?_
        refine w_cifn (as := [_, _]) (rest := []) rfl rfl rfl rfl rfl rfl rfl rfl (EX_ex (ok_X12_isWord hS.1 hW.1 hW.2.1)) rfl (fun h_33 => ?_) (fun h_33 => ?_)
        · obtain ⟨i, hi, rfl⟩ := ho_ex h_1
          rw [nI_clamp (by omega)]
          refine w_ld rfl rfl ?_
          refine w_getr rfl rfl rfl rfl rfl ?_
          refine w_ld rfl rfl ?_
          refine w_ld rfl rfl ?_
          refine w_cst (v := .int 1) rfl rfl ?_
          refine w_bin rfl rfl ?_
          refine w_sin rfl rfl rfl (rfl) (hi) rfl ?_
          refine w_ld rfl rfl ?_
          refine w_getr rfl rfl rfl rfl rfl ?_
          refine w_ld rfl rfl ?_
          refine w_ld rfl rfl ?_
          refine w_sin rfl rfl rfl (rfl) (hi) rfl ?_
          refine w_ld rfl rfl ?_
          refine w_getr rfl rfl rfl rfl rfl ?_
          refine w_ld rfl rfl ?_
          refine w_ld rfl rfl ?_
          refine w_cj rfl rfl (fun h_63 => ?_) (fun h_63 => ?_)
          · refine w_ld rfl rfl ?_
            refine w_getv rfl rfl rfl rfl rfl (Eq.trans (by rw [up2_row (by decide), up2_row (by decide)]) (hS.1)) ?_
            refine w_sin rfl rfl rfl (rfl) (hi) rfl ?_
            refine w_ld rfl rfl ?_
            refine w_ret rfl rfl (trivial) ?_
            first
              | exact absurd rfl h_63
              | exact absurd (Classical.not_not.mp h_63) one_n0
              | exact ⟨fun q => absurd (q.symm.trans (an_t h_1 h_22)) Bool.noConfusion, fun _ => ⟨rfl, rfl, rfl⟩⟩
              | exact ⟨fun q => absurd (q.symm.trans (an_t h_1 h_33)) Bool.noConfusion, fun _ => ⟨rfl, rfl, rfl⟩⟩
          · refine w_ld rfl rfl ?_
            refine w_getv rfl rfl rfl rfl rfl (Eq.trans (by rw [up2_row (by decide), up2_row (by decide)]) (hS.2.1)) ?_
            refine w_go rfl ?_
            refine w_sin rfl rfl rfl (rfl) (hi) rfl ?_
            refine w_ld rfl rfl ?_
            refine w_ret rfl rfl (trivial) ?_
            first
              | exact absurd rfl h_63
              | exact absurd (Classical.not_not.mp h_63) one_n0
              | exact ⟨fun q => absurd (q.symm.trans (an_t h_1 h_22)) Bool.noConfusion, fun _ => ⟨rfl, rfl, rfl⟩⟩
              | exact ⟨fun q => absurd (q.symm.trans (an_t h_1 h_33)) Bool.noConfusion, fun _ => ⟨rfl, rfl, rfl⟩⟩
        · refine w_cst (v := .int (-1)) rfl rfl ?_
          refine w_ret rfl rfl (trivial) ?_
          first
            | exact ⟨fun _ => ⟨rfl, rfl, rfl⟩, fun q => absurd ((an_r h_33).symm.trans q) Bool.noConfusion⟩
            | exact ⟨fun _ => ⟨rfl, rfl, rfl⟩, fun q => absurd ((an_r h_22).symm.trans q) Bool.noConfusion⟩
            | exact ⟨fun _ => ⟨rfl, rfl, rfl⟩, fun q => absurd ((an_r (hdB_in h_10)).symm.trans q) Bool.noConfusion⟩
            | exact ⟨fun _ => ⟨rfl, rfl, rfl⟩, fun q => absurd ((an_l h_1).symm.trans q) Bool.noConfusion⟩
      · have hw := Classical.not_not.mp h_17
        subst hw
        rw [hdB_0]
        refine w_ld rfl rfl ?_
        refine w_ld rfl rfl ?_
        refine w_cifn (as := [_, _]) (rest := []) rfl rfl rfl rfl rfl rfl rfl rfl (ok_X12_isArrowing _ _ _ _ hS.2.1 hE10) rfl (fun h_22 => ?_) (fun h_22 => ?_)
        · obtain ⟨i, hi, rfl⟩ := ho_ex h_1
          rw [nI_clamp (by omega)]
          refine w_ld rfl rfl ?_
          refine w_getr rfl rfl rfl rfl rfl ?_
          refine w_ld rfl rfl ?_
          refine w_ld rfl rfl ?_
          refine w_cst (v := .int 1) rfl rfl ?_
          refine w_bin rfl rfl ?_
          refine w_sin rfl rfl rfl (rfl) (hi) rfl ?_
          refine w_ld rfl rfl ?_
          refine w_getr rfl rfl rfl rfl rfl ?_
          refine w_ld rfl rfl ?_
          refine w_ld rfl rfl ?_
          refine w_sin rfl rfl rfl (rfl) (hi) rfl ?_
          refine w_ld rfl rfl ?_
          refine w_getr rfl rfl rfl rfl rfl ?_
          refine w_ld rfl rfl ?_
          refine w_ld rfl rfl ?_
          refine w_cj rfl rfl (fun h_63 => ?_) (fun h_63 => ?_)
          · refine w_ld rfl rfl ?_
            refine w_getv rfl rfl rfl rfl rfl (Eq.trans (by rw [up2_row (by decide), up2_row (by decide)]) (hS.1)) ?_
            refine w_sin rfl rfl rfl (rfl) (hi) rfl ?_
            refine w_ld rfl rfl ?_
            refine w_ret rfl rfl (trivial) ?_
            first
              | exact absurd rfl h_63
              | exact absurd (Classical.not_not.mp h_63) one_n0
              | exact ⟨fun q => absurd (q.symm.trans (an_t h_1 h_22)) Bool.noConfusion, fun _ => ⟨rfl, rfl, rfl⟩⟩
              | exact ⟨fun q => absurd (q.symm.trans (an_t h_1 h_33)) Bool.noConfusion, fun _ => ⟨rfl, rfl, rfl⟩⟩
          · refine w_ld rfl rfl ?_
            refine w_getv rfl rfl rfl rfl rfl (Eq.trans (by rw [up2_row (by decide), up2_row (by decide)]) (hS.2.1)) ?_
            refine w_go rfl ?_
            refine w_sin rfl rfl rfl (rfl) (hi) rfl ?_
            refine w_ld rfl rfl ?_
            refine w_ret rfl rfl (trivial) ?_
            first
              | exact absurd rfl h_63
              | exact absurd (Classical.not_not.mp h_63) one_n0
              | exact ⟨fun q => absurd (q.symm.trans (an_t h_1 h_22)) Bool.noConfusion, fun _ => ⟨rfl, rfl, rfl⟩⟩
              | exact ⟨fun q => absurd (q.symm.trans (an_t h_1 h_33)) Bool.noConfusion, fun _ => ⟨rfl, rfl, rfl⟩⟩
        · refine w_go rfl ?_
          refine w_cst (v := .int (-1)) rfl rfl ?_
          refine w_ret rfl rfl (trivial) ?_
          first
            | exact ⟨fun _ => ⟨rfl, rfl, rfl⟩, fun q => absurd ((an_r h_33).symm.trans q) Bool.noConfusion⟩
            | exact ⟨fun _ => ⟨rfl, rfl, rfl⟩, fun q => absurd ((an_r h_22).symm.trans q) Bool.noConfusion⟩
            | exact ⟨fun _ => ⟨rfl, rfl, rfl⟩, fun q => absurd ((an_r (hdB_in h_10)).symm.trans q) Bool.noConfusion⟩
            | exact ⟨fun _ => ⟨rfl, rfl, rfl⟩, fun q => absurd ((an_l h_1).symm.trans q) Bool.noConfusion⟩

