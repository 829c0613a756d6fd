/-! ===== the choice of a firer ===== -/
theorem hv_pos {n : Nat} {w : Nat → Int32} : ∀ e, ¬ n % 2 ^ e = 0 → ¬ (hv n w e).1 = 0
  | 0, h => by rw [Nat.pow_zero, Nat.mod_one] at h; exact absurd rfl h
  | e + 1, h => by
    have ih := hv_pos (n := n) (w := w) e
    have h2 : 2 ^ e ≠ 0 := Nat.pos_iff_ne_zero.mp (Nat.two_pow_pos e)
    by_cases hb : n.testBit e = true
    · rw [hv]
      split
      · split
        · exact h2
        · exact fun q => h2 (Nat.or_eq_zero_iff.mp q).2
      · rename_i h3
        exact fun q => h3 ⟨hb, Or.inl q⟩
    · have hb' : n.testBit e = false := by simpa using hb
      rw [hv_0 hb']
      refine ih (fun q => h ?_)
      have h9 : n / 2 ^ e % 2 = 0 := by
        have h7 := hb'
        rw [Nat.testBit_eq_decide_div_mod_eq] at h7
        have h8 := of_decide_eq_false h7
        have := Nat.mod_lt (n / 2 ^ e) (show 0 < 2 by decide)
        omega
      rw [Nat.mod_pow_succ, q, h9, Nat.mul_zero]
theorem lfr_0 {n : Nat} : lfr n 0 = n := by
  unfold lfr
  rw [Nat.pow_zero, Nat.div_one, Nat.mul_one]
  split <;> rfl
/-- the node that a firer of kind k with number b picks in the mask n -/
def pick (k b n N : Nat) (wd wo : Nat → Int32) : Nat := match k with
  | 0 => lsb n
  | 1 => msb n
  | 2 => lsb (lfr n b)
  | 3 => msb (hv n (fun e => -(wo e)) N).1
  | 4 => lsb (lfr (hv n wd N).1 b)
  | _ => msb (hv n wo N).1

set_option maxHeartbeats 1000000 in
set_option maxRecDepth 10000 in
theorem ok_X7_choose_0 (d : Nat) (M : Nat → Nat → Int32) (ML : Nat → Nat → Int64) {E : Nat} {l h : Nat → Nat} (hT : ∀ v, v < 7 → M 5 v = nI (tmk E l h v) ∧ tmk E l h v < 2048) {N n b : Nat} (hN : M 2 0 = nI N) (hN7 : N ≤ 7) (hn : n < 2 ^ N) (h0 : 0 < n) (hb : b < 7) (h46 : ∀ e, e < N → (-41 : Int32) < M 46 e) (h46n : ∀ e, e < N → (-41 : Int32) < -(M 46 e)) (h4p : ∀ e, e < N → (-41 : Int32) < nI (popc (tmk E l h e))) : Ex (d + 4) k_X7_choose [.ref 44, .ref 2, .int 0, .int (nI b), .int (nI n)] (SH, M, ML) (some (.int (nI (pick 0 b n N (fun e => nI (popc (tmk E l h e))) (M 46)))), (SH, M, ML)) := by
  refine Ex_in mi_X7_choose rfl rfl ⟨Nat.le_refl _, Nat.le_refl _⟩ ?_
  show RR _ cd_X7_choose false _ (0, [(0, .ref 44), (1, .ref 2), (2, .int 0), (3, .int (nI b)), (4, .int (nI n))], [], (SH, M, ML))
  have hnn : n < 128 := Nat.lt_of_lt_of_le hn (Nat.pow_le_pow_right (by decide) hN7)
  have hg : ∀ w, (hv n w N).1 < 128 ∧ 0 < (hv n w N).1 := fun w => ⟨Nat.lt_of_lt_of_le (hv_lt n w N) (Nat.pow_le_pow_right (by decide) hN7), Nat.pos_of_ne_zero (hv_pos N (by rw [Nat.mod_eq_of_lt hn]; omega))⟩
  refine r_ld rfl rfl ?_
  refine r_sw rfl rfl ?_
  refine r_ld rfl rfl ?_
  refine r_cst (v := .int 0) rfl rfl ?_
  refine q_call (as := [_, _]) (rest := []) rfl rfl rfl rfl rfl rfl rfl rfl (ok_X7_leastFrom (b := 0) _ _ _ hnn h0 (by decide)) ?_
  refine r_ret rfl rfl (trivial) ?_
  rw [lfr_0]
  exact rfl

set_option maxHeartbeats 1000000 in
set_option maxRecDepth 10000 in
theorem ok_X7_choose_1 (d : Nat) (M : Nat → Nat → Int32) (ML : Nat → Nat → Int64) {E : Nat} {l h : Nat → Nat} (hT : ∀ v, v < 7 → M 5 v = nI (tmk E l h v) ∧ tmk E l h v < 2048) {N n b : Nat} (hN : M 2 0 = nI N) (hN7 : N ≤ 7) (hn : n < 2 ^ N) (h0 : 0 < n) (hb : b < 7) (h46 : ∀ e, e < N → (-41 : Int32) < M 46 e) (h46n : ∀ e, e < N → (-41 : Int32) < -(M 46 e)) (h4p : ∀ e, e < N → (-41 : Int32) < nI (popc (tmk E l h e))) : Ex (d + 4) k_X7_choose [.ref 44, .ref 2, .int 1, .int (nI b), .int (nI n)] (SH, M, ML) (some (.int (nI (pick 1 b n N (fun e => nI (popc (tmk E l h e))) (M 46)))), (SH, M, ML)) := by
  refine Ex_in mi_X7_choose rfl rfl ⟨Nat.le_refl _, Nat.le_refl _⟩ ?_
  show RR _ cd_X7_choose false _ (0, [(0, .ref 44), (1, .ref 2), (2, .int 1), (3, .int (nI b)), (4, .int (nI n))], [], (SH, M, ML))
  have hnn : n < 128 := Nat.lt_of_lt_of_le hn (Nat.pow_le_pow_right (by decide) hN7)
  have hg : ∀ w, (hv n w N).1 < 128 ∧ 0 < (hv n w N).1 := fun w => ⟨Nat.lt_of_lt_of_le (hv_lt n w N) (Nat.pow_le_pow_right (by decide) hN7), Nat.pos_of_ne_zero (hv_pos N (by rw [Nat.mod_eq_of_lt hn]; omega))⟩
  refine r_ld rfl rfl ?_
  refine r_sw rfl rfl ?_
  refine r_ld rfl rfl ?_
  refine q_call (as := [_]) (rest := []) rfl rfl rfl rfl rfl rfl rfl rfl (ok_X7_greatestOf _ _ _ hnn h0) ?_
  refine r_ret rfl rfl (trivial) ?_
  exact rfl

set_option maxHeartbeats 1000000 in
set_option maxRecDepth 10000 in
theorem ok_X7_choose_2 (d : Nat) (M : Nat → Nat → Int32) (ML : Nat → Nat → Int64) {E : Nat} {l h : Nat → Nat} (hT : ∀ v, v < 7 → M 5 v = nI (tmk E l h v) ∧ tmk E l h v < 2048) {N n b : Nat} (hN : M 2 0 = nI N) (hN7 : N ≤ 7) (hn : n < 2 ^ N) (h0 : 0 < n) (hb : b < 7) (h46 : ∀ e, e < N → (-41 : Int32) < M 46 e) (h46n : ∀ e, e < N → (-41 : Int32) < -(M 46 e)) (h4p : ∀ e, e < N → (-41 : Int32) < nI (popc (tmk E l h e))) : Ex (d + 4) k_X7_choose [.ref 44, .ref 2, .int 2, .int (nI b), .int (nI n)] (SH, M, ML) (some (.int (nI (pick 2 b n N (fun e => nI (popc (tmk E l h e))) (M 46)))), (SH, M, ML)) := by
  refine Ex_in mi_X7_choose rfl rfl ⟨Nat.le_refl _, Nat.le_refl _⟩ ?_
  show RR _ cd_X7_choose false _ (0, [(0, .ref 44), (1, .ref 2), (2, .int 2), (3, .int (nI b)), (4, .int (nI n))], [], (SH, M, ML))
  have hnn : n < 128 := Nat.lt_of_lt_of_le hn (Nat.pow_le_pow_right (by decide) hN7)
  have hg : ∀ w, (hv n w N).1 < 128 ∧ 0 < (hv n w N).1 := fun w => ⟨Nat.lt_of_lt_of_le (hv_lt n w N) (Nat.pow_le_pow_right (by decide) hN7), Nat.pos_of_ne_zero (hv_pos N (by rw [Nat.mod_eq_of_lt hn]; omega))⟩
  refine r_ld rfl rfl ?_
  refine r_sw rfl rfl ?_
  refine r_ld rfl rfl ?_
  refine r_ld rfl rfl ?_
  refine q_call (as := [_, _]) (rest := []) rfl rfl rfl rfl rfl rfl rfl rfl (ok_X7_leastFrom _ _ _ hnn h0 hb) ?_
  refine r_ret rfl rfl (trivial) ?_
  exact rfl

set_option maxHeartbeats 1000000 in
set_option maxRecDepth 10000 in
theorem ok_X7_choose_3 (d : Nat) (M : Nat → Nat → Int32) (ML : Nat → Nat → Int64) {E : Nat} {l h : Nat → Nat} (hT : ∀ v, v < 7 → M 5 v = nI (tmk E l h v) ∧ tmk E l h v < 2048) {N n b : Nat} (hN : M 2 0 = nI N) (hN7 : N ≤ 7) (hn : n < 2 ^ N) (h0 : 0 < n) (hb : b < 7) (h46 : ∀ e, e < N → (-41 : Int32) < M 46 e) (h46n : ∀ e, e < N → (-41 : Int32) < -(M 46 e)) (h4p : ∀ e, e < N → (-41 : Int32) < nI (popc (tmk E l h e))) : Ex (d + 4) k_X7_choose [.ref 44, .ref 2, .int 3, .int (nI b), .int (nI n)] (SH, M, ML) (some (.int (nI (pick 3 b n N (fun e => nI (popc (tmk E l h e))) (M 46)))), (SH, M, ML)) := by
  refine Ex_in mi_X7_choose rfl rfl ⟨Nat.le_refl _, Nat.le_refl _⟩ ?_
  show RR _ cd_X7_choose false _ (0, [(0, .ref 44), (1, .ref 2), (2, .int 3), (3, .int (nI b)), (4, .int (nI n))], [], (SH, M, ML))
  have hnn : n < 128 := Nat.lt_of_lt_of_le hn (Nat.pow_le_pow_right (by decide) hN7)
  have hg : ∀ w, (hv n w N).1 < 128 ∧ 0 < (hv n w N).1 := fun w => ⟨Nat.lt_of_lt_of_le (hv_lt n w N) (Nat.pow_le_pow_right (by decide) hN7), Nat.pos_of_ne_zero (hv_pos N (by rw [Nat.mod_eq_of_lt hn]; omega))⟩
  refine r_ld rfl rfl ?_
  refine r_sw rfl rfl ?_
  refine r_ld rfl rfl ?_
  refine r_ld rfl rfl ?_
  refine r_ld rfl rfl ?_
  refine r_ld rfl rfl ?_
  refine q_call (as := [_, _, _, _]) (rest := []) rfl rfl rfl rfl rfl rfl rfl rfl (ok_X7_heaviest_3 _ _ _ hT hN hN7 (by omega) h46n) ?_
  refine q_call (as := [_]) (rest := []) rfl rfl rfl rfl rfl rfl rfl rfl (ok_X7_greatestOf _ _ _ (hg _).1 (hg _).2) ?_
  refine r_ret rfl rfl (trivial) ?_
  exact rfl

set_option maxHeartbeats 1000000 in
set_option maxRecDepth 10000 in
theorem ok_X7_choose_4 (d : Nat) (M : Nat → Nat → Int32) (ML : Nat → Nat → Int64) {E : Nat} {l h : Nat → Nat} (hT : ∀ v, v < 7 → M 5 v = nI (tmk E l h v) ∧ tmk E l h v < 2048) {N n b : Nat} (hN : M 2 0 = nI N) (hN7 : N ≤ 7) (hn : n < 2 ^ N) (h0 : 0 < n) (hb : b < 7) (h46 : ∀ e, e < N → (-41 : Int32) < M 46 e) (h46n : ∀ e, e < N → (-41 : Int32) < -(M 46 e)) (h4p : ∀ e, e < N → (-41 : Int32) < nI (popc (tmk E l h e))) : Ex (d + 4) k_X7_choose [.ref 44, .ref 2, .int 4, .int (nI b), .int (nI n)] (SH, M, ML) (some (.int (nI (pick 4 b n N (fun e => nI (popc (tmk E l h e))) (M 46)))), (SH, M, ML)) := by
  refine Ex_in mi_X7_choose rfl rfl ⟨Nat.le_refl _, Nat.le_refl _⟩ ?_
  show RR _ cd_X7_choose false _ (0, [(0, .ref 44), (1, .ref 2), (2, .int 4), (3, .int (nI b)), (4, .int (nI n))], [], (SH, M, ML))
  have hnn : n < 128 := Nat.lt_of_lt_of_le hn (Nat.pow_le_pow_right (by decide) hN7)
  have hg : ∀ w, (hv n w N).1 < 128 ∧ 0 < (hv n w N).1 := fun w => ⟨Nat.lt_of_lt_of_le (hv_lt n w N) (Nat.pow_le_pow_right (by decide) hN7), Nat.pos_of_ne_zero (hv_pos N (by rw [Nat.mod_eq_of_lt hn]; omega))⟩
  refine r_ld rfl rfl ?_
  refine r_sw rfl rfl ?_
  refine r_ld rfl rfl ?_
  refine r_ld rfl rfl ?_
  refine r_ld rfl rfl ?_
  refine r_ld rfl rfl ?_
  refine q_call (as := [_, _, _, _]) (rest := []) rfl rfl rfl rfl rfl rfl rfl rfl (ok_X7_heaviest_4 _ _ _ hT hN hN7 (by omega) h4p) ?_
  refine r_ld rfl rfl ?_
  refine q_call (as := [_, _]) (rest := []) rfl rfl rfl rfl rfl rfl rfl rfl (ok_X7_leastFrom _ _ _ (hg _).1 (hg _).2 hb) ?_
  refine r_ret rfl rfl (trivial) ?_
  exact rfl

set_option maxHeartbeats 1000000 in
set_option maxRecDepth 10000 in
theorem ok_X7_choose_5 (d : Nat) (M : Nat → Nat → Int32) (ML : Nat → Nat → Int64) {E : Nat} {l h : Nat → Nat} (hT : ∀ v, v < 7 → M 5 v = nI (tmk E l h v) ∧ tmk E l h v < 2048) {N n b : Nat} (hN : M 2 0 = nI N) (hN7 : N ≤ 7) (hn : n < 2 ^ N) (h0 : 0 < n) (hb : b < 7) (h46 : ∀ e, e < N → (-41 : Int32) < M 46 e) (h46n : ∀ e, e < N → (-41 : Int32) < -(M 46 e)) (h4p : ∀ e, e < N → (-41 : Int32) < nI (popc (tmk E l h e))) : Ex (d + 4) k_X7_choose [.ref 44, .ref 2, .int 5, .int (nI b), .int (nI n)] (SH, M, ML) (some (.int (nI (pick 5 b n N (fun e => nI (popc (tmk E l h e))) (M 46)))), (SH, M, ML)) := by
  refine Ex_in mi_X7_choose rfl rfl ⟨Nat.le_refl _, Nat.le_refl _⟩ ?_
  show RR _ cd_X7_choose false _ (0, [(0, .ref 44), (1, .ref 2), (2, .int 5), (3, .int (nI b)), (4, .int (nI n))], [], (SH, M, ML))
  have hnn : n < 128 := Nat.lt_of_lt_of_le hn (Nat.pow_le_pow_right (by decide) hN7)
  have hg : ∀ w, (hv n w N).1 < 128 ∧ 0 < (hv n w N).1 := fun w => ⟨Nat.lt_of_lt_of_le (hv_lt n w N) (Nat.pow_le_pow_right (by decide) hN7), Nat.pos_of_ne_zero (hv_pos N (by rw [Nat.mod_eq_of_lt hn]; omega))⟩
  refine r_ld rfl rfl ?_
  refine r_sw rfl rfl ?_
  refine r_ld rfl rfl ?_
  refine r_ld rfl rfl ?_
  refine r_ld rfl rfl ?_
  refine r_ld rfl rfl ?_
  refine q_call (as := [_, _, _, _]) (rest := []) rfl rfl rfl rfl rfl rfl rfl rfl (ok_X7_heaviest_5 _ _ _ hT hN hN7 (by omega) h46) ?_
  refine q_call (as := [_]) (rest := []) rfl rfl rfl rfl rfl rfl rfl rfl (ok_X7_greatestOf _ _ _ (hg _).1 (hg _).2) ?_
  refine r_ret rfl rfl (trivial) ?_
  exact rfl

set_option maxHeartbeats 1000000 in
set_option maxRecDepth 10000 in
theorem ok_X12_chooses_0 (d : Nat) (M : Nat → Nat → Int32) (ML : Nat → Nat → Int64) {E A : Nat} {l h : Nat → Nat} {N n b i : Nat} (hS : NM M N E A l h) (hW : WN N E A l h) (hi : i < 4) (hm : M 79 i = nI b) (hn : n < 2 ^ N) (h0 : 0 < n) (hb : b < 7) (ht : ∀ e, e < N → tmk E l h e < 2048) (hk : M 78 i = 0) : Ex (d + 4) k_X12_chooses [.ref 73, .int (nI i), .int (nI n)] (SH, M, ML) (some (.int (nI (pick 0 b n N (fun e => nI (popc (tmk E l h e))) (M 97)))), (SH, M, ML)) := by
  refine Ex_in mi_X12_chooses rfl rfl ⟨Nat.le_refl _, Nat.le_refl _⟩ ?_
  show RR _ cd_X12_chooses false _ (0, [(0, .ref 73), (1, .int (nI i)), (2, .int (nI n))], [], (SH, M, ML))
  have hN7 : N ≤ 7 := hW.2.1
  have hnn : n < 128 := Nat.lt_of_lt_of_le hn (Nat.pow_le_pow_right (by decide) hN7)
  have hg : ∀ w, (hv n w N).1 < 128 ∧ 0 < (hv n w N).1 := fun w => ⟨Nat.lt_of_lt_of_le (hv_lt n w N) (Nat.pow_le_pow_right (by decide) hN7), Nat.pos_of_ne_zero (hv_pos N (by rw [Nat.mod_eq_of_lt hn]; omega))⟩
  refine r_ld rfl rfl ?_
  refine q_getr rfl rfl rfl rfl rfl ?_
  refine r_ld rfl rfl ?_
  refine q_ain rfl rfl rfl (rfl) (by omega) rfl ?_
  rw [hk]
  refine r_sw rfl rfl ?_
  refine r_ld rfl rfl ?_
  refine q_call (as := [_]) (rest := []) rfl rfl rfl rfl rfl rfl rfl rfl (ok_X12_leastOf _ _ _ hnn h0) ?_
  refine r_ret rfl rfl (trivial) ?_
  exact rfl

set_option maxHeartbeats 1000000 in
set_option maxRecDepth 10000 in
theorem ok_X12_chooses_1 (d : Nat) (M : Nat → Nat → Int32) (ML : Nat → Nat → Int64) {E A : Nat} {l h : Nat → Nat} {N n b i : Nat} (hS : NM M N E A l h) (hW : WN N E A l h) (hi : i < 4) (hm : M 79 i = nI b) (hn : n < 2 ^ N) (h0 : 0 < n) (hb : b < 7) (ht : ∀ e, e < N → tmk E l h e < 2048) (hk : M 78 i = 1) : Ex (d + 4) k_X12_chooses [.ref 73, .int (nI i), .int (nI n)] (SH, M, ML) (some (.int (nI (pick 1 b n N (fun e => nI (popc (tmk E l h e))) (M 97)))), (SH, M, ML)) := by
  refine Ex_in mi_X12_chooses rfl rfl ⟨Nat.le_refl _, Nat.le_refl _⟩ ?_
  show RR _ cd_X12_chooses false _ (0, [(0, .ref 73), (1, .int (nI i)), (2, .int (nI n))], [], (SH, M, ML))
  have hN7 : N ≤ 7 := hW.2.1
  have hnn : n < 128 := Nat.lt_of_lt_of_le hn (Nat.pow_le_pow_right (by decide) hN7)
  have hg : ∀ w, (hv n w N).1 < 128 ∧ 0 < (hv n w N).1 := fun w => ⟨Nat.lt_of_lt_of_le (hv_lt n w N) (Nat.pow_le_pow_right (by decide) hN7), Nat.pos_of_ne_zero (hv_pos N (by rw [Nat.mod_eq_of_lt hn]; omega))⟩
  refine r_ld rfl rfl ?_
  refine q_getr rfl rfl rfl rfl rfl ?_
  refine r_ld rfl rfl ?_
  refine q_ain rfl rfl rfl (rfl) (by omega) rfl ?_
  rw [hk]
  refine r_sw rfl rfl ?_
  refine r_ld rfl rfl ?_
  refine q_call (as := [_]) (rest := []) rfl rfl rfl rfl rfl rfl rfl rfl (ok_X12_greatestOf _ _ _ hnn h0) ?_
  refine r_ret rfl rfl (trivial) ?_
  exact rfl

set_option maxHeartbeats 1000000 in
set_option maxRecDepth 10000 in
theorem ok_X12_chooses_2 (d : Nat) (M : Nat → Nat → Int32) (ML : Nat → Nat → Int64) {E A : Nat} {l h : Nat → Nat} {N n b i : Nat} (hS : NM M N E A l h) (hW : WN N E A l h) (hi : i < 4) (hm : M 79 i = nI b) (hn : n < 2 ^ N) (h0 : 0 < n) (hb : b < 7) (ht : ∀ e, e < N → tmk E l h e < 2048) (hk : M 78 i = 2) : Ex (d + 4) k_X12_chooses [.ref 73, .int (nI i), .int (nI n)] (SH, M, ML) (some (.int (nI (pick 2 b n N (fun e => nI (popc (tmk E l h e))) (M 97)))), (SH, M, ML)) := by
  refine Ex_in mi_X12_chooses rfl rfl ⟨Nat.le_refl _, Nat.le_refl _⟩ ?_
  show RR _ cd_X12_chooses false _ (0, [(0, .ref 73), (1, .int (nI i)), (2, .int (nI n))], [], (SH, M, ML))
  have hN7 : N ≤ 7 := hW.2.1
  have hnn : n < 128 := Nat.lt_of_lt_of_le hn (Nat.pow_le_pow_right (by decide) hN7)
  have hg : ∀ w, (hv n w N).1 < 128 ∧ 0 < (hv n w N).1 := fun w => ⟨Nat.lt_of_lt_of_le (hv_lt n w N) (Nat.pow_le_pow_right (by decide) hN7), Nat.pos_of_ne_zero (hv_pos N (by rw [Nat.mod_eq_of_lt hn]; omega))⟩
  refine r_ld rfl rfl ?_
  refine q_getr rfl rfl rfl rfl rfl ?_
  refine r_ld rfl rfl ?_
  refine q_ain rfl rfl rfl (rfl) (by omega) rfl ?_
  rw [hk]
  refine r_sw rfl rfl ?_
  refine r_ld rfl rfl ?_
  refine r_ld rfl rfl ?_
  refine r_ld rfl rfl ?_
  refine q_call (as := [_, _, _]) (rest := []) rfl rfl rfl rfl rfl rfl rfl rfl (ok_X12_fromBy _ _ _ hnn h0 hi hm hb) ?_
  refine r_ret rfl rfl (trivial) ?_
  exact rfl

set_option maxHeartbeats 1000000 in
set_option maxRecDepth 10000 in
theorem ok_X12_chooses_3 (d : Nat) (M : Nat → Nat → Int32) (ML : Nat → Nat → Int64) {E A : Nat} {l h : Nat → Nat} {N n b i : Nat} (hS : NM M N E A l h) (hW : WN N E A l h) (hi : i < 4) (hm : M 79 i = nI b) (hn : n < 2 ^ N) (h0 : 0 < n) (hb : b < 7) (ht : ∀ e, e < N → tmk E l h e < 2048) (hk : M 78 i = 3) : Ex (d + 4) k_X12_chooses [.ref 73, .int (nI i), .int (nI n)] (SH, M, ML) (some (.int (nI (pick 3 b n N (fun e => nI (popc (tmk E l h e))) (M 97)))), (SH, M, ML)) := by
  refine Ex_in mi_X12_chooses rfl rfl ⟨Nat.le_refl _, Nat.le_refl _⟩ ?_
  show RR _ cd_X12_chooses false _ (0, [(0, .ref 73), (1, .int (nI i)), (2, .int (nI n))], [], (SH, M, ML))
  have hN7 : N ≤ 7 := hW.2.1
  have hnn : n < 128 := Nat.lt_of_lt_of_le hn (Nat.pow_le_pow_right (by decide) hN7)
  have hg : ∀ w, (hv n w N).1 < 128 ∧ 0 < (hv n w N).1 := fun w => ⟨Nat.lt_of_lt_of_le (hv_lt n w N) (Nat.pow_le_pow_right (by decide) hN7), Nat.pos_of_ne_zero (hv_pos N (by rw [Nat.mod_eq_of_lt hn]; omega))⟩
  refine r_ld rfl rfl ?_
  refine q_getr rfl rfl rfl rfl rfl ?_
  refine r_ld rfl rfl ?_
  refine q_ain rfl rfl rfl (rfl) (by omega) rfl ?_
  rw [hk]
  refine r_sw rfl rfl ?_
  refine r_ld rfl rfl ?_
  refine r_ld rfl rfl ?_
  refine r_cst (v := .int 2) rfl rfl ?_
  refine q_call (as := [_, _, _]) (rest := []) rfl rfl rfl rfl rfl rfl rfl rfl (ok_X12_mostOf_2 _ _ _ hS hW (by omega) ht) ?_
  refine q_call (as := [_]) (rest := []) rfl rfl rfl rfl rfl rfl rfl rfl (ok_X12_greatestOf _ _ _ (hg _).1 (hg _).2) ?_
  refine r_ret rfl rfl (trivial) ?_
  exact rfl

set_option maxHeartbeats 1000000 in
set_option maxRecDepth 10000 in
theorem ok_X12_chooses_4 (d : Nat) (M : Nat → Nat → Int32) (ML : Nat → Nat → Int64) {E A : Nat} {l h : Nat → Nat} {N n b i : Nat} (hS : NM M N E A l h) (hW : WN N E A l h) (hi : i < 4) (hm : M 79 i = nI b) (hn : n < 2 ^ N) (h0 : 0 < n) (hb : b < 7) (ht : ∀ e, e < N → tmk E l h e < 2048) (hk : M 78 i = 4) : Ex (d + 4) k_X12_chooses [.ref 73, .int (nI i), .int (nI n)] (SH, M, ML) (some (.int (nI (pick 4 b n N (fun e => nI (popc (tmk E l h e))) (M 97)))), (SH, M, ML)) := by
  refine Ex_in mi_X12_chooses rfl rfl ⟨Nat.le_refl _, Nat.le_refl _⟩ ?_
  show RR _ cd_X12_chooses false _ (0, [(0, .ref 73), (1, .int (nI i)), (2, .int (nI n))], [], (SH, M, ML))
  have hN7 : N ≤ 7 := hW.2.1
  have hnn : n < 128 := Nat.lt_of_lt_of_le hn (Nat.pow_le_pow_right (by decide) hN7)
  have hg : ∀ w, (hv n w N).1 < 128 ∧ 0 < (hv n w N).1 := fun w => ⟨Nat.lt_of_lt_of_le (hv_lt n w N) (Nat.pow_le_pow_right (by decide) hN7), Nat.pos_of_ne_zero (hv_pos N (by rw [Nat.mod_eq_of_lt hn]; omega))⟩
  refine r_ld rfl rfl ?_
  refine q_getr rfl rfl rfl rfl rfl ?_
  refine r_ld rfl rfl ?_
  refine q_ain rfl rfl rfl (rfl) (by omega) rfl ?_
  rw [hk]
  refine r_sw rfl rfl ?_
  refine r_ld rfl rfl ?_
  refine r_ld rfl rfl ?_
  refine r_ld rfl rfl ?_
  refine r_ld rfl rfl ?_
  refine r_cst (v := .int 0) rfl rfl ?_
  refine q_call (as := [_, _, _]) (rest := [_, _]) rfl rfl rfl rfl rfl rfl rfl rfl (ok_X12_mostOf_0 _ _ _ hS hW (by omega) ht) ?_
  refine q_call (as := [_, _, _]) (rest := []) rfl rfl rfl rfl rfl rfl rfl rfl (ok_X12_fromBy _ _ _ (hg _).1 (hg _).2 hi hm hb) ?_
  refine r_ret rfl rfl (trivial) ?_
  exact rfl

set_option maxHeartbeats 1000000 in
set_option maxRecDepth 10000 in
theorem ok_X12_chooses_5 (d : Nat) (M : Nat → Nat → Int32) (ML : Nat → Nat → Int64) {E A : Nat} {l h : Nat → Nat} {N n b i : Nat} (hS : NM M N E A l h) (hW : WN N E A l h) (hi : i < 4) (hm : M 79 i = nI b) (hn : n < 2 ^ N) (h0 : 0 < n) (hb : b < 7) (ht : ∀ e, e < N → tmk E l h e < 2048) (hk : M 78 i = 5) : Ex (d + 4) k_X12_chooses [.ref 73, .int (nI i), .int (nI n)] (SH, M, ML) (some (.int (nI (pick 5 b n N (fun e => nI (popc (tmk E l h e))) (M 97)))), (SH, M, ML)) := by
  refine Ex_in mi_X12_chooses rfl rfl ⟨Nat.le_refl _, Nat.le_refl _⟩ ?_
  show RR _ cd_X12_chooses false _ (0, [(0, .ref 73), (1, .int (nI i)), (2, .int (nI n))], [], (SH, M, ML))
  have hN7 : N ≤ 7 := hW.2.1
  have hnn : n < 128 := Nat.lt_of_lt_of_le hn (Nat.pow_le_pow_right (by decide) hN7)
  have hg : ∀ w, (hv n w N).1 < 128 ∧ 0 < (hv n w N).1 := fun w => ⟨Nat.lt_of_lt_of_le (hv_lt n w N) (Nat.pow_le_pow_right (by decide) hN7), Nat.pos_of_ne_zero (hv_pos N (by rw [Nat.mod_eq_of_lt hn]; omega))⟩
  refine r_ld rfl rfl ?_
  refine q_getr rfl rfl rfl rfl rfl ?_
  refine r_ld rfl rfl ?_
  refine q_ain rfl rfl rfl (rfl) (by omega) rfl ?_
  rw [hk]
  refine r_sw rfl rfl ?_
  refine r_ld rfl rfl ?_
  refine r_ld rfl rfl ?_
  refine r_cst (v := .int 1) rfl rfl ?_
  refine q_call (as := [_, _, _]) (rest := []) rfl rfl rfl rfl rfl rfl rfl rfl (ok_X12_mostOf_1 _ _ _ hS hW (by omega) ht) ?_
  refine q_call (as := [_]) (rest := []) rfl rfl rfl rfl rfl rfl rfl rfl (ok_X12_greatestOf _ _ _ (hg _).1 (hg _).2) ?_
  refine r_ret rfl rfl (trivial) ?_
  exact rfl

