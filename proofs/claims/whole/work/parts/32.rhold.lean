/-! ===== holders: get of the class; the reference ===== -/
set_option maxHeartbeats 1000000 in
set_option maxRecDepth 10000 in
theorem ok_X11_get_n (d : Nat) (M : Nat → Nat → Int32) (ML : Nat → Nat → Int64) {x : Int32} (hx : ¬ (0 ≤ x ∧ x < 6)) (y : Int32) : Ex (d + 2) k_X11_get [.ref 1, .int x, .int y] (SH, M, ML) (some (.long (Int64.ofInt (-9223372036854775808))), (SH, M, ML)) := by
  refine Ex_in mi_X11_get rfl rfl ⟨Nat.le_refl _, Nat.le_refl _⟩ ?_
  show RR _ cd_X11_get false _ (0, [(0, .ref 1), (1, .int x), (2, .int y)], [], (SH, M, ML))
  refine r_ld rfl rfl ?_
  refine r_ld rfl rfl ?_
  refine q_call (as := [_, _]) (rest := []) rfl rfl rfl rfl rfl rfl rfl rfl (ok_X11_holderAt_n _ _ _ hx) ?_
  refine r_sto (L' := [(0, _), (1, _), (2, _), (3, _)]) rfl rfl ?_
  refine r_ld rfl rfl ?_
  refine r_nlj rfl rfl ?_
  refine r_ldl rfl ?_
  refine r_ret rfl rfl (trivial) ?_
  exact rfl

set_option maxHeartbeats 1000000 in
set_option maxRecDepth 10000 in
theorem ok_X11_get_b_0 (d : Nat) (M : Nat → Nat → Int32) (ML : Nat → Nat → Int64) (y : Int32) (h0 : ¬ nrV (M 61 0) = 0) : Ex (d + 2) k_X11_get [.ref 1, .int (nI 0), .int y] (SH, M, ML) (some (.long (Int64.ofInt (-9223372036854775808))), (SH, M, ML)) := by
  refine Ex_in mi_X11_get rfl rfl ⟨Nat.le_refl _, Nat.le_refl _⟩ ?_
  show RR _ cd_X11_get false _ (0, [(0, .ref 1), (1, .int (nI 0)), (2, .int y)], [], (SH, M, ML))
  refine r_ld rfl rfl ?_
  refine r_ld rfl rfl ?_
  refine q_call (as := [_, _]) (rest := []) rfl rfl rfl rfl rfl rfl rfl rfl (ok_X11_holderAt_0 ..) ?_
  refine r_sto (L' := [(0, _), (1, _), (2, _), (3, _)]) rfl rfl ?_
  refine r_ld rfl rfl ?_
  refine r_nlj rfl rfl ?_
  refine r_ld rfl rfl ?_
  refine q_call (as := [_]) (rest := []) rfl rfl rfl rfl rfl rfl rfl rfl (ok_X11_noRow_0 ..) ?_
  refine q_cjT rfl rfl (h0) ?_
  refine r_ldl rfl ?_
  refine r_ret rfl rfl (trivial) ?_
  exact rfl

set_option maxHeartbeats 1000000 in
set_option maxRecDepth 10000 in
theorem ok_X11_get_c_0 (d : Nat) (M : Nat → Nat → Int32) (ML : Nat → Nat → Int64) (y : Int32) (h0 : nrV (M 61 0) = 0) (hy : ¬ (0 ≤ y ∧ y < M 61 2)) : Ex (d + 2) k_X11_get [.ref 1, .int (nI 0), .int y] (SH, M, ML) (some (.long (Int64.ofInt (-9223372036854775808))), (SH, M, ML)) := by
  refine Ex_in mi_X11_get rfl rfl ⟨Nat.le_refl _, Nat.le_refl _⟩ ?_
  show RR _ cd_X11_get false _ (0, [(0, .ref 1), (1, .int (nI 0)), (2, .int y)], [], (SH, M, ML))
  refine r_ld rfl rfl ?_
  refine r_ld rfl rfl ?_
  refine q_call (as := [_, _]) (rest := []) rfl rfl rfl rfl rfl rfl rfl rfl (ok_X11_holderAt_0 ..) ?_
  refine r_sto (L' := [(0, _), (1, _), (2, _), (3, _)]) rfl rfl ?_
  refine r_ld rfl rfl ?_
  refine r_nlj rfl rfl ?_
  refine r_ld rfl rfl ?_
  refine q_call (as := [_]) (rest := []) rfl rfl rfl rfl rfl rfl rfl rfl (ok_X11_noRow_0 ..) ?_
  refine q_cjF rfl rfl (fun q => q h0) ?_
  refine r_ld rfl rfl ?_
  refine r_cj rfl rfl (fun h_18 => ?_) (fun h_18 => ?_)
  · refine r_ldl rfl ?_
    refine r_ret rfl rfl (trivial) ?_
    exact rfl
  · refine r_ld rfl rfl ?_
    refine r_ld rfl rfl ?_
    refine q_geti rfl rfl rfl rfl rfl ?_
    refine r_cj rfl rfl (fun h_26 => ?_) (fun h_26 => ?_)
    · exact (hy ⟨nlt0.mp h_18, h_26⟩).elim
    · refine r_ldl rfl ?_
      refine r_ret rfl rfl (trivial) ?_
      exact rfl

set_option maxHeartbeats 1000000 in
set_option maxRecDepth 10000 in
theorem ok_X11_get_y_0 (d : Nat) (M : Nat → Nat → Int32) (ML : Nat → Nat → Int64) {k n : Nat} (h0 : nrV (M 61 0) = 0) (hn : M 61 2 = nI n) (hk : k < n) (hn2 : n ≤ 20) : Ex (d + 2) k_X11_get [.ref 1, .int (nI 0), .int (nI k)] (SH, M, ML) (some (.long (M 62 k).toInt64), (SH, M, ML)) := by
  refine Ex_in mi_X11_get rfl rfl ⟨Nat.le_refl _, Nat.le_refl _⟩ ?_
  show RR _ cd_X11_get false _ (0, [(0, .ref 1), (1, .int (nI 0)), (2, .int (nI k))], [], (SH, M, ML))
  refine r_ld rfl rfl ?_
  refine r_ld rfl rfl ?_
  refine q_call (as := [_, _]) (rest := []) rfl rfl rfl rfl rfl rfl rfl rfl (ok_X11_holderAt_0 ..) ?_
  refine r_sto (L' := [(0, _), (1, _), (2, _), (3, _)]) rfl rfl ?_
  refine r_ld rfl rfl ?_
  refine r_nlj rfl rfl ?_
  refine r_ld rfl rfl ?_
  refine q_call (as := [_]) (rest := []) rfl rfl rfl rfl rfl rfl rfl rfl (ok_X11_noRow_0 ..) ?_
  refine q_cjF rfl rfl (fun q => q h0) ?_
  refine r_ld rfl rfl ?_
  refine q_cjF rfl rfl (nlt0.mpr (nI_pos' (by omega))) ?_
  refine r_ld rfl rfl ?_
  refine r_ld rfl rfl ?_
  refine q_geti rfl rfl rfl rfl rfl ?_
  refine q_cjT rfl rfl (by rw [hn]; exact nI_lt hk (by omega)) ?_
  refine r_ld rfl rfl ?_
  refine q_getr rfl rfl rfl rfl rfl ?_
  refine r_ld rfl rfl ?_
  refine q_call (as := [_, _]) (rest := []) rfl rfl rfl rfl rfl rfl rfl rfl (ok_at_n _ _ _ _ rfl rfl rfl rfl (by omega)) ?_
  refine r_una rfl rfl ?_
  refine r_ret rfl rfl (trivial) ?_
  exact rfl

set_option maxHeartbeats 1000000 in
set_option maxRecDepth 10000 in
theorem ok_X11_get_b_1 (d : Nat) (M : Nat → Nat → Int32) (ML : Nat → Nat → Int64) (y : Int32) (h0 : ¬ nrV (M 63 0) = 0) : Ex (d + 2) k_X11_get [.ref 1, .int (nI 1), .int y] (SH, M, ML) (some (.long (Int64.ofInt (-9223372036854775808))), (SH, M, ML)) := by
  refine Ex_in mi_X11_get rfl rfl ⟨Nat.le_refl _, Nat.le_refl _⟩ ?_
  show RR _ cd_X11_get false _ (0, [(0, .ref 1), (1, .int (nI 1)), (2, .int y)], [], (SH, M, ML))
  refine r_ld rfl rfl ?_
  refine r_ld rfl rfl ?_
  refine q_call (as := [_, _]) (rest := []) rfl rfl rfl rfl rfl rfl rfl rfl (ok_X11_holderAt_1 ..) ?_
  refine r_sto (L' := [(0, _), (1, _), (2, _), (3, _)]) rfl rfl ?_
  refine r_ld rfl rfl ?_
  refine r_nlj rfl rfl ?_
  refine r_ld rfl rfl ?_
  refine q_call (as := [_]) (rest := []) rfl rfl rfl rfl rfl rfl rfl rfl (ok_X11_noRow_1 ..) ?_
  refine q_cjT rfl rfl (h0) ?_
  refine r_ldl rfl ?_
  refine r_ret rfl rfl (trivial) ?_
  exact rfl

set_option maxHeartbeats 1000000 in
set_option maxRecDepth 10000 in
theorem ok_X11_get_c_1 (d : Nat) (M : Nat → Nat → Int32) (ML : Nat → Nat → Int64) (y : Int32) (h0 : nrV (M 63 0) = 0) (hy : ¬ (0 ≤ y ∧ y < M 63 2)) : Ex (d + 2) k_X11_get [.ref 1, .int (nI 1), .int y] (SH, M, ML) (some (.long (Int64.ofInt (-9223372036854775808))), (SH, M, ML)) := by
  refine Ex_in mi_X11_get rfl rfl ⟨Nat.le_refl _, Nat.le_refl _⟩ ?_
  show RR _ cd_X11_get false _ (0, [(0, .ref 1), (1, .int (nI 1)), (2, .int y)], [], (SH, M, ML))
  refine r_ld rfl rfl ?_
  refine r_ld rfl rfl ?_
  refine q_call (as := [_, _]) (rest := []) rfl rfl rfl rfl rfl rfl rfl rfl (ok_X11_holderAt_1 ..) ?_
  refine r_sto (L' := [(0, _), (1, _), (2, _), (3, _)]) rfl rfl ?_
  refine r_ld rfl rfl ?_
  refine r_nlj rfl rfl ?_
  refine r_ld rfl rfl ?_
  refine q_call (as := [_]) (rest := []) rfl rfl rfl rfl rfl rfl rfl rfl (ok_X11_noRow_1 ..) ?_
  refine q_cjF rfl rfl (fun q => q h0) ?_
  refine r_ld rfl rfl ?_
  refine r_cj rfl rfl (fun h_18 => ?_) (fun h_18 => ?_)
  · refine r_ldl rfl ?_
    refine r_ret rfl rfl (trivial) ?_
    exact rfl
  · refine r_ld rfl rfl ?_
    refine r_ld rfl rfl ?_
    refine q_geti rfl rfl rfl rfl rfl ?_
    refine r_cj rfl rfl (fun h_26 => ?_) (fun h_26 => ?_)
    · exact (hy ⟨nlt0.mp h_18, h_26⟩).elim
    · refine r_ldl rfl ?_
      refine r_ret rfl rfl (trivial) ?_
      exact rfl

set_option maxHeartbeats 1000000 in
set_option maxRecDepth 10000 in
theorem ok_X11_get_y_1 (d : Nat) (M : Nat → Nat → Int32) (ML : Nat → Nat → Int64) {k n : Nat} (h0 : nrV (M 63 0) = 0) (hn : M 63 2 = nI n) (hk : k < n) (hn2 : n ≤ 20) : Ex (d + 2) k_X11_get [.ref 1, .int (nI 1), .int (nI k)] (SH, M, ML) (some (.long (M 64 k).toInt64), (SH, M, ML)) := by
  refine Ex_in mi_X11_get rfl rfl ⟨Nat.le_refl _, Nat.le_refl _⟩ ?_
  show RR _ cd_X11_get false _ (0, [(0, .ref 1), (1, .int (nI 1)), (2, .int (nI k))], [], (SH, M, ML))
  refine r_ld rfl rfl ?_
  refine r_ld rfl rfl ?_
  refine q_call (as := [_, _]) (rest := []) rfl rfl rfl rfl rfl rfl rfl rfl (ok_X11_holderAt_1 ..) ?_
  refine r_sto (L' := [(0, _), (1, _), (2, _), (3, _)]) rfl rfl ?_
  refine r_ld rfl rfl ?_
  refine r_nlj rfl rfl ?_
  refine r_ld rfl rfl ?_
  refine q_call (as := [_]) (rest := []) rfl rfl rfl rfl rfl rfl rfl rfl (ok_X11_noRow_1 ..) ?_
  refine q_cjF rfl rfl (fun q => q h0) ?_
  refine r_ld rfl rfl ?_
  refine q_cjF rfl rfl (nlt0.mpr (nI_pos' (by omega))) ?_
  refine r_ld rfl rfl ?_
  refine r_ld rfl rfl ?_
  refine q_geti rfl rfl rfl rfl rfl ?_
  refine q_cjT rfl rfl (by rw [hn]; exact nI_lt hk (by omega)) ?_
  refine r_ld rfl rfl ?_
  refine q_getr rfl rfl rfl rfl rfl ?_
  refine r_ld rfl rfl ?_
  refine q_call (as := [_, _]) (rest := []) rfl rfl rfl rfl rfl rfl rfl rfl (ok_at_n _ _ _ _ rfl rfl rfl rfl (by omega)) ?_
  refine r_una rfl rfl ?_
  refine r_ret rfl rfl (trivial) ?_
  exact rfl

set_option maxHeartbeats 1000000 in
set_option maxRecDepth 10000 in
theorem ok_X11_get_b_2 (d : Nat) (M : Nat → Nat → Int32) (ML : Nat → Nat → Int64) (y : Int32) (h0 : ¬ nrV (M 65 0) = 0) : Ex (d + 2) k_X11_get [.ref 1, .int (nI 2), .int y] (SH, M, ML) (some (.long (Int64.ofInt (-9223372036854775808))), (SH, M, ML)) := by
  refine Ex_in mi_X11_get rfl rfl ⟨Nat.le_refl _, Nat.le_refl _⟩ ?_
  show RR _ cd_X11_get false _ (0, [(0, .ref 1), (1, .int (nI 2)), (2, .int y)], [], (SH, M, ML))
  refine r_ld rfl rfl ?_
  refine r_ld rfl rfl ?_
  refine q_call (as := [_, _]) (rest := []) rfl rfl rfl rfl rfl rfl rfl rfl (ok_X11_holderAt_2 ..) ?_
  refine r_sto (L' := [(0, _), (1, _), (2, _), (3, _)]) rfl rfl ?_
  refine r_ld rfl rfl ?_
  refine r_nlj rfl rfl ?_
  refine r_ld rfl rfl ?_
  refine q_call (as := [_]) (rest := []) rfl rfl rfl rfl rfl rfl rfl rfl (ok_X11_noRow_2 ..) ?_
  refine q_cjT rfl rfl (h0) ?_
  refine r_ldl rfl ?_
  refine r_ret rfl rfl (trivial) ?_
  exact rfl

set_option maxHeartbeats 1000000 in
set_option maxRecDepth 10000 in
theorem ok_X11_get_c_2 (d : Nat) (M : Nat → Nat → Int32) (ML : Nat → Nat → Int64) (y : Int32) (h0 : nrV (M 65 0) = 0) (hy : ¬ (0 ≤ y ∧ y < M 65 2)) : Ex (d + 2) k_X11_get [.ref 1, .int (nI 2), .int y] (SH, M, ML) (some (.long (Int64.ofInt (-9223372036854775808))), (SH, M, ML)) := by
  refine Ex_in mi_X11_get rfl rfl ⟨Nat.le_refl _, Nat.le_refl _⟩ ?_
  show RR _ cd_X11_get false _ (0, [(0, .ref 1), (1, .int (nI 2)), (2, .int y)], [], (SH, M, ML))
  refine r_ld rfl rfl ?_
  refine r_ld rfl rfl ?_
  refine q_call (as := [_, _]) (rest := []) rfl rfl rfl rfl rfl rfl rfl rfl (ok_X11_holderAt_2 ..) ?_
  refine r_sto (L' := [(0, _), (1, _), (2, _), (3, _)]) rfl rfl ?_
  refine r_ld rfl rfl ?_
  refine r_nlj rfl rfl ?_
  refine r_ld rfl rfl ?_
  refine q_call (as := [_]) (rest := []) rfl rfl rfl rfl rfl rfl rfl rfl (ok_X11_noRow_2 ..) ?_
  refine q_cjF rfl rfl (fun q => q h0) ?_
  refine r_ld rfl rfl ?_
  refine r_cj rfl rfl (fun h_18 => ?_) (fun h_18 => ?_)
  · refine r_ldl rfl ?_
    refine r_ret rfl rfl (trivial) ?_
    exact rfl
  · refine r_ld rfl rfl ?_
    refine r_ld rfl rfl ?_
    refine q_geti rfl rfl rfl rfl rfl ?_
    refine r_cj rfl rfl (fun h_26 => ?_) (fun h_26 => ?_)
    · exact (hy ⟨nlt0.mp h_18, h_26⟩).elim
    · refine r_ldl rfl ?_
      refine r_ret rfl rfl (trivial) ?_
      exact rfl

set_option maxHeartbeats 1000000 in
set_option maxRecDepth 10000 in
theorem ok_X11_get_y_2 (d : Nat) (M : Nat → Nat → Int32) (ML : Nat → Nat → Int64) {k n : Nat} (h0 : nrV (M 65 0) = 0) (hn : M 65 2 = nI n) (hk : k < n) (hn2 : n ≤ 20) : Ex (d + 2) k_X11_get [.ref 1, .int (nI 2), .int (nI k)] (SH, M, ML) (some (.long (M 66 k).toInt64), (SH, M, ML)) := by
  refine Ex_in mi_X11_get rfl rfl ⟨Nat.le_refl _, Nat.le_refl _⟩ ?_
  show RR _ cd_X11_get false _ (0, [(0, .ref 1), (1, .int (nI 2)), (2, .int (nI k))], [], (SH, M, ML))
  refine r_ld rfl rfl ?_
  refine r_ld rfl rfl ?_
  refine q_call (as := [_, _]) (rest := []) rfl rfl rfl rfl rfl rfl rfl rfl (ok_X11_holderAt_2 ..) ?_
  refine r_sto (L' := [(0, _), (1, _), (2, _), (3, _)]) rfl rfl ?_
  refine r_ld rfl rfl ?_
  refine r_nlj rfl rfl ?_
  refine r_ld rfl rfl ?_
  refine q_call (as := [_]) (rest := []) rfl rfl rfl rfl rfl rfl rfl rfl (ok_X11_noRow_2 ..) ?_
  refine q_cjF rfl rfl (fun q => q h0) ?_
  refine r_ld rfl rfl ?_
  refine q_cjF rfl rfl (nlt0.mpr (nI_pos' (by omega))) ?_
  refine r_ld rfl rfl ?_
  refine r_ld rfl rfl ?_
  refine q_geti rfl rfl rfl rfl rfl ?_
  refine q_cjT rfl rfl (by rw [hn]; exact nI_lt hk (by omega)) ?_
  refine r_ld rfl rfl ?_
  refine q_getr rfl rfl rfl rfl rfl ?_
  refine r_ld rfl rfl ?_
  refine q_call (as := [_, _]) (rest := []) rfl rfl rfl rfl rfl rfl rfl rfl (ok_at_n _ _ _ _ rfl rfl rfl rfl (by omega)) ?_
  refine r_una rfl rfl ?_
  refine r_ret rfl rfl (trivial) ?_
  exact rfl

set_option maxHeartbeats 1000000 in
set_option maxRecDepth 10000 in
theorem ok_X11_get_b_3 (d : Nat) (M : Nat → Nat → Int32) (ML : Nat → Nat → Int64) (y : Int32) (h0 : ¬ nrV (M 67 0) = 0) : Ex (d + 2) k_X11_get [.ref 1, .int (nI 3), .int y] (SH, M, ML) (some (.long (Int64.ofInt (-9223372036854775808))), (SH, M, ML)) := by
  refine Ex_in mi_X11_get rfl rfl ⟨Nat.le_refl _, Nat.le_refl _⟩ ?_
  show RR _ cd_X11_get false _ (0, [(0, .ref 1), (1, .int (nI 3)), (2, .int y)], [], (SH, M, ML))
  refine r_ld rfl rfl ?_
  refine r_ld rfl rfl ?_
  refine q_call (as := [_, _]) (rest := []) rfl rfl rfl rfl rfl rfl rfl rfl (ok_X11_holderAt_3 ..) ?_
  refine r_sto (L' := [(0, _), (1, _), (2, _), (3, _)]) rfl rfl ?_
  refine r_ld rfl rfl ?_
  refine r_nlj rfl rfl ?_
  refine r_ld rfl rfl ?_
  refine q_call (as := [_]) (rest := []) rfl rfl rfl rfl rfl rfl rfl rfl (ok_X11_noRow_3 ..) ?_
  refine q_cjT rfl rfl (h0) ?_
  refine r_ldl rfl ?_
  refine r_ret rfl rfl (trivial) ?_
  exact rfl

set_option maxHeartbeats 1000000 in
set_option maxRecDepth 10000 in
theorem ok_X11_get_c_3 (d : Nat) (M : Nat → Nat → Int32) (ML : Nat → Nat → Int64) (y : Int32) (h0 : nrV (M 67 0) = 0) (hy : ¬ (0 ≤ y ∧ y < M 67 2)) : Ex (d + 2) k_X11_get [.ref 1, .int (nI 3), .int y] (SH, M, ML) (some (.long (Int64.ofInt (-9223372036854775808))), (SH, M, ML)) := by
  refine Ex_in mi_X11_get rfl rfl ⟨Nat.le_refl _, Nat.le_refl _⟩ ?_
  show RR _ cd_X11_get false _ (0, [(0, .ref 1), (1, .int (nI 3)), (2, .int y)], [], (SH, M, ML))
  refine r_ld rfl rfl ?_
  refine r_ld rfl rfl ?_
  refine q_call (as := [_, _]) (rest := []) rfl rfl rfl rfl rfl rfl rfl rfl (ok_X11_holderAt_3 ..) ?_
  refine r_sto (L' := [(0, _), (1, _), (2, _), (3, _)]) rfl rfl ?_
  refine r_ld rfl rfl ?_
  refine r_nlj rfl rfl ?_
  refine r_ld rfl rfl ?_
  refine q_call (as := [_]) (rest := []) rfl rfl rfl rfl rfl rfl rfl rfl (ok_X11_noRow_3 ..) ?_
  refine q_cjF rfl rfl (fun q => q h0) ?_
  refine r_ld rfl rfl ?_
  refine r_cj rfl rfl (fun h_18 => ?_) (fun h_18 => ?_)
  · refine r_ldl rfl ?_
    refine r_ret rfl rfl (trivial) ?_
    exact rfl
  · refine r_ld rfl rfl ?_
    refine r_ld rfl rfl ?_
    refine q_geti rfl rfl rfl rfl rfl ?_
    refine r_cj rfl rfl (fun h_26 => ?_) (fun h_26 => ?_)
    · exact (hy ⟨nlt0.mp h_18, h_26⟩).elim
    · refine r_ldl rfl ?_
      refine r_ret rfl rfl (trivial) ?_
      exact rfl

set_option maxHeartbeats 1000000 in
set_option maxRecDepth 10000 in
theorem ok_X11_get_y_3 (d : Nat) (M : Nat → Nat → Int32) (ML : Nat → Nat → Int64) {k n : Nat} (h0 : nrV (M 67 0) = 0) (hn : M 67 2 = nI n) (hk : k < n) (hn2 : n ≤ 20) : Ex (d + 2) k_X11_get [.ref 1, .int (nI 3), .int (nI k)] (SH, M, ML) (some (.long (M 68 k).toInt64), (SH, M, ML)) := by
  refine Ex_in mi_X11_get rfl rfl ⟨Nat.le_refl _, Nat.le_refl _⟩ ?_
  show RR _ cd_X11_get false _ (0, [(0, .ref 1), (1, .int (nI 3)), (2, .int (nI k))], [], (SH, M, ML))
  refine r_ld rfl rfl ?_
  refine r_ld rfl rfl ?_
  refine q_call (as := [_, _]) (rest := []) rfl rfl rfl rfl rfl rfl rfl rfl (ok_X11_holderAt_3 ..) ?_
  refine r_sto (L' := [(0, _), (1, _), (2, _), (3, _)]) rfl rfl ?_
  refine r_ld rfl rfl ?_
  refine r_nlj rfl rfl ?_
  refine r_ld rfl rfl ?_
  refine q_call (as := [_]) (rest := []) rfl rfl rfl rfl rfl rfl rfl rfl (ok_X11_noRow_3 ..) ?_
  refine q_cjF rfl rfl (fun q => q h0) ?_
  refine r_ld rfl rfl ?_
  refine q_cjF rfl rfl (nlt0.mpr (nI_pos' (by omega))) ?_
  refine r_ld rfl rfl ?_
  refine r_ld rfl rfl ?_
  refine q_geti rfl rfl rfl rfl rfl ?_
  refine q_cjT rfl rfl (by rw [hn]; exact nI_lt hk (by omega)) ?_
  refine r_ld rfl rfl ?_
  refine q_getr rfl rfl rfl rfl rfl ?_
  refine r_ld rfl rfl ?_
  refine q_call (as := [_, _]) (rest := []) rfl rfl rfl rfl rfl rfl rfl rfl (ok_at_n _ _ _ _ rfl rfl rfl rfl (by omega)) ?_
  refine r_una rfl rfl ?_
  refine r_ret rfl rfl (trivial) ?_
  exact rfl

set_option maxHeartbeats 1000000 in
set_option maxRecDepth 10000 in
theorem ok_X11_get_b_4 (d : Nat) (M : Nat → Nat → Int32) (ML : Nat → Nat → Int64) (y : Int32) (h0 : ¬ nrV (M 69 0) = 0) : Ex (d + 2) k_X11_get [.ref 1, .int (nI 4), .int y] (SH, M, ML) (some (.long (Int64.ofInt (-9223372036854775808))), (SH, M, ML)) := by
  refine Ex_in mi_X11_get rfl rfl ⟨Nat.le_refl _, Nat.le_refl _⟩ ?_
  show RR _ cd_X11_get false _ (0, [(0, .ref 1), (1, .int (nI 4)), (2, .int y)], [], (SH, M, ML))
  refine r_ld rfl rfl ?_
  refine r_ld rfl rfl ?_
  refine q_call (as := [_, _]) (rest := []) rfl rfl rfl rfl rfl rfl rfl rfl (ok_X11_holderAt_4 ..) ?_
  refine r_sto (L' := [(0, _), (1, _), (2, _), (3, _)]) rfl rfl ?_
  refine r_ld rfl rfl ?_
  refine r_nlj rfl rfl ?_
  refine r_ld rfl rfl ?_
  refine q_call (as := [_]) (rest := []) rfl rfl rfl rfl rfl rfl rfl rfl (ok_X11_noRow_4 ..) ?_
  refine q_cjT rfl rfl (h0) ?_
  refine r_ldl rfl ?_
  refine r_ret rfl rfl (trivial) ?_
  exact rfl

set_option maxHeartbeats 1000000 in
set_option maxRecDepth 10000 in
theorem ok_X11_get_c_4 (d : Nat) (M : Nat → Nat → Int32) (ML : Nat → Nat → Int64) (y : Int32) (h0 : nrV (M 69 0) = 0) (hy : ¬ (0 ≤ y ∧ y < M 69 2)) : Ex (d + 2) k_X11_get [.ref 1, .int (nI 4), .int y] (SH, M, ML) (some (.long (Int64.ofInt (-9223372036854775808))), (SH, M, ML)) := by
  refine Ex_in mi_X11_get rfl rfl ⟨Nat.le_refl _, Nat.le_refl _⟩ ?_
  show RR _ cd_X11_get false _ (0, [(0, .ref 1), (1, .int (nI 4)), (2, .int y)], [], (SH, M, ML))
  refine r_ld rfl rfl ?_
  refine r_ld rfl rfl ?_
  refine q_call (as := [_, _]) (rest := []) rfl rfl rfl rfl rfl rfl rfl rfl (ok_X11_holderAt_4 ..) ?_
  refine r_sto (L' := [(0, _), (1, _), (2, _), (3, _)]) rfl rfl ?_
  refine r_ld rfl rfl ?_
  refine r_nlj rfl rfl ?_
  refine r_ld rfl rfl ?_
  refine q_call (as := [_]) (rest := []) rfl rfl rfl rfl rfl rfl rfl rfl (ok_X11_noRow_4 ..) ?_
  refine q_cjF rfl rfl (fun q => q h0) ?_
  refine r_ld rfl rfl ?_
  refine r_cj rfl rfl (fun h_18 => ?_) (fun h_18 => ?_)
  · refine r_ldl rfl ?_
    refine r_ret rfl rfl (trivial) ?_
    exact rfl
  · refine r_ld rfl rfl ?_
    refine r_ld rfl rfl ?_
    refine q_geti rfl rfl rfl rfl rfl ?_
    refine r_cj rfl rfl (fun h_26 => ?_) (fun h_26 => ?_)
    · exact (hy ⟨nlt0.mp h_18, h_26⟩).elim
    · refine r_ldl rfl ?_
      refine r_ret rfl rfl (trivial) ?_
      exact rfl

set_option maxHeartbeats 1000000 in
set_option maxRecDepth 10000 in
theorem ok_X11_get_y_4 (d : Nat) (M : Nat → Nat → Int32) (ML : Nat → Nat → Int64) {k n : Nat} (h0 : nrV (M 69 0) = 0) (hn : M 69 2 = nI n) (hk : k < n) (hn2 : n ≤ 20) : Ex (d + 2) k_X11_get [.ref 1, .int (nI 4), .int (nI k)] (SH, M, ML) (some (.long (M 70 k).toInt64), (SH, M, ML)) := by
  refine Ex_in mi_X11_get rfl rfl ⟨Nat.le_refl _, Nat.le_refl _⟩ ?_
  show RR _ cd_X11_get false _ (0, [(0, .ref 1), (1, .int (nI 4)), (2, .int (nI k))], [], (SH, M, ML))
  refine r_ld rfl rfl ?_
  refine r_ld rfl rfl ?_
  refine q_call (as := [_, _]) (rest := []) rfl rfl rfl rfl rfl rfl rfl rfl (ok_X11_holderAt_4 ..) ?_
  refine r_sto (L' := [(0, _), (1, _), (2, _), (3, _)]) rfl rfl ?_
  refine r_ld rfl rfl ?_
  refine r_nlj rfl rfl ?_
  refine r_ld rfl rfl ?_
  refine q_call (as := [_]) (rest := []) rfl rfl rfl rfl rfl rfl rfl rfl (ok_X11_noRow_4 ..) ?_
  refine q_cjF rfl rfl (fun q => q h0) ?_
  refine r_ld rfl rfl ?_
  refine q_cjF rfl rfl (nlt0.mpr (nI_pos' (by omega))) ?_
  refine r_ld rfl rfl ?_
  refine r_ld rfl rfl ?_
  refine q_geti rfl rfl rfl rfl rfl ?_
  refine q_cjT rfl rfl (by rw [hn]; exact nI_lt hk (by omega)) ?_
  refine r_ld rfl rfl ?_
  refine q_getr rfl rfl rfl rfl rfl ?_
  refine r_ld rfl rfl ?_
  refine q_call (as := [_, _]) (rest := []) rfl rfl rfl rfl rfl rfl rfl rfl (ok_at_n _ _ _ _ rfl rfl rfl rfl (by omega)) ?_
  refine r_una rfl rfl ?_
  refine r_ret rfl rfl (trivial) ?_
  exact rfl

set_option maxHeartbeats 1000000 in
set_option maxRecDepth 10000 in
theorem ok_X11_get_b_5 (d : Nat) (M : Nat → Nat → Int32) (ML : Nat → Nat → Int64) (y : Int32) (h0 : ¬ nrV (M 71 0) = 0) : Ex (d + 2) k_X11_get [.ref 1, .int (nI 5), .int y] (SH, M, ML) (some (.long (Int64.ofInt (-9223372036854775808))), (SH, M, ML)) := by
  refine Ex_in mi_X11_get rfl rfl ⟨Nat.le_refl _, Nat.le_refl _⟩ ?_
  show RR _ cd_X11_get false _ (0, [(0, .ref 1), (1, .int (nI 5)), (2, .int y)], [], (SH, M, ML))
  refine r_ld rfl rfl ?_
  refine r_ld rfl rfl ?_
  refine q_call (as := [_, _]) (rest := []) rfl rfl rfl rfl rfl rfl rfl rfl (ok_X11_holderAt_5 ..) ?_
  refine r_sto (L' := [(0, _), (1, _), (2, _), (3, _)]) rfl rfl ?_
  refine r_ld rfl rfl ?_
  refine r_nlj rfl rfl ?_
  refine r_ld rfl rfl ?_
  refine q_call (as := [_]) (rest := []) rfl rfl rfl rfl rfl rfl rfl rfl (ok_X11_noRow_5 ..) ?_
  refine q_cjT rfl rfl (h0) ?_
  refine r_ldl rfl ?_
  refine r_ret rfl rfl (trivial) ?_
  exact rfl

set_option maxHeartbeats 1000000 in
set_option maxRecDepth 10000 in
theorem ok_X11_get_c_5 (d : Nat) (M : Nat → Nat → Int32) (ML : Nat → Nat → Int64) (y : Int32) (h0 : nrV (M 71 0) = 0) (hy : ¬ (0 ≤ y ∧ y < M 71 2)) : Ex (d + 2) k_X11_get [.ref 1, .int (nI 5), .int y] (SH, M, ML) (some (.long (Int64.ofInt (-9223372036854775808))), (SH, M, ML)) := by
  refine Ex_in mi_X11_get rfl rfl ⟨Nat.le_refl _, Nat.le_refl _⟩ ?_
  show RR _ cd_X11_get false _ (0, [(0, .ref 1), (1, .int (nI 5)), (2, .int y)], [], (SH, M, ML))
  refine r_ld rfl rfl ?_
  refine r_ld rfl rfl ?_
  refine q_call (as := [_, _]) (rest := []) rfl rfl rfl rfl rfl rfl rfl rfl (ok_X11_holderAt_5 ..) ?_
  refine r_sto (L' := [(0, _), (1, _), (2, _), (3, _)]) rfl rfl ?_
  refine r_ld rfl rfl ?_
  refine r_nlj rfl rfl ?_
  refine r_ld rfl rfl ?_
  refine q_call (as := [_]) (rest := []) rfl rfl rfl rfl rfl rfl rfl rfl (ok_X11_noRow_5 ..) ?_
  refine q_cjF rfl rfl (fun q => q h0) ?_
  refine r_ld rfl rfl ?_
  refine r_cj rfl rfl (fun h_18 => ?_) (fun h_18 => ?_)
  · refine r_ldl rfl ?_
    refine r_ret rfl rfl (trivial) ?_
    exact rfl
  · refine r_ld rfl rfl ?_
    refine r_ld rfl rfl ?_
    refine q_geti rfl rfl rfl rfl rfl ?_
    refine r_cj rfl rfl (fun h_26 => ?_) (fun h_26 => ?_)
    · exact (hy ⟨nlt0.mp h_18, h_26⟩).elim
    · refine r_ldl rfl ?_
      refine r_ret rfl rfl (trivial) ?_
      exact rfl

set_option maxHeartbeats 1000000 in
set_option maxRecDepth 10000 in
theorem ok_X11_get_y_5 (d : Nat) (M : Nat → Nat → Int32) (ML : Nat → Nat → Int64) {k n : Nat} (h0 : nrV (M 71 0) = 0) (hn : M 71 2 = nI n) (hk : k < n) (hn2 : n ≤ 20) : Ex (d + 2) k_X11_get [.ref 1, .int (nI 5), .int (nI k)] (SH, M, ML) (some (.long (M 72 k).toInt64), (SH, M, ML)) := by
  refine Ex_in mi_X11_get rfl rfl ⟨Nat.le_refl _, Nat.le_refl _⟩ ?_
  show RR _ cd_X11_get false _ (0, [(0, .ref 1), (1, .int (nI 5)), (2, .int (nI k))], [], (SH, M, ML))
  refine r_ld rfl rfl ?_
  refine r_ld rfl rfl ?_
  refine q_call (as := [_, _]) (rest := []) rfl rfl rfl rfl rfl rfl rfl rfl (ok_X11_holderAt_5 ..) ?_
  refine r_sto (L' := [(0, _), (1, _), (2, _), (3, _)]) rfl rfl ?_
  refine r_ld rfl rfl ?_
  refine r_nlj rfl rfl ?_
  refine r_ld rfl rfl ?_
  refine q_call (as := [_]) (rest := []) rfl rfl rfl rfl rfl rfl rfl rfl (ok_X11_noRow_5 ..) ?_
  refine q_cjF rfl rfl (fun q => q h0) ?_
  refine r_ld rfl rfl ?_
  refine q_cjF rfl rfl (nlt0.mpr (nI_pos' (by omega))) ?_
  refine r_ld rfl rfl ?_
  refine r_ld rfl rfl ?_
  refine q_geti rfl rfl rfl rfl rfl ?_
  refine q_cjT rfl rfl (by rw [hn]; exact nI_lt hk (by omega)) ?_
  refine r_ld rfl rfl ?_
  refine q_getr rfl rfl rfl rfl rfl ?_
  refine r_ld rfl rfl ?_
  refine q_call (as := [_, _]) (rest := []) rfl rfl rfl rfl rfl rfl rfl rfl (ok_at_n _ _ _ _ rfl rfl rfl rfl (by omega)) ?_
  refine r_una rfl rfl ?_
  refine r_ret rfl rfl (trivial) ?_
  exact rfl

theorem nrV_neg {h : Int32} (h0 : ¬ nrV h = 0) : ¬ 0 ≤ nrV h := by
  unfold nrV at *
  split
  · decide
  · split
    · rename_i h1 h2
      rw [if_neg h1, if_pos h2] at h0
      exact absurd rfl h0
    · decide
theorem le_pred {y : Int32} {n : Nat} (hn : n ≤ 20) : y ≤ nI n - 1 ↔ y < nI n := by
  rw [Int32.le_iff_toInt_le, Int32.lt_iff_toInt_lt]
  rcases n with _ | m
  · rw [show (nI 0 - 1).toInt = -1 by decide, show (nI 0).toInt = 0 by decide]; omega
  · rw [show nI (m + 1) - 1 = nI m by rw [show (1 : Int32) = nI 1 from rfl, pk_sub (by omega), Nat.add_sub_cancel], nI_toInt (by omega), nI_toInt (by omega)]; omega
theorem nI_20 (i k : Nat) : (20 : Int32) * nI i + nI k = nI (20 * i + k) := by
  rw [← nI_add]
  exact congrArg (· + nI k) (Int32.ofNat_mul 20 i).symm
/-- the cells 20 i .. 20 i + e - 1 of row 84 are 0 -/
def z84 (M : Nat → Nat → Int32) (i e : Nat) : Nat → Nat → Int32 := fun x y => if x = 84 ∧ 20 * i ≤ y ∧ y < 20 * i + e then 0 else M x y
theorem z84_0 (M : Nat → Nat → Int32) (i : Nat) : z84 M i 0 = M := by
  funext x y
  unfold z84
  rw [if_neg (by omega)]
theorem z84_succ (M : Nat → Nat → Int32) (i e : Nat) : up2 (z84 M i e) 84 (20 * i + e) 0 = z84 M i (e + 1) := by
  funext x y
  rw [up2_at]
  unfold z84
  by_cases h : x = 84
  · by_cases h2 : y = 20 * i + e
    · simp [h, h2]
    · have : (20 * i ≤ y ∧ y < 20 * i + (e + 1)) ↔ (20 * i ≤ y ∧ y < 20 * i + e) := by omega
      simp only [h, h2, this, and_false, if_false]
  · simp [h]

set_option maxHeartbeats 1000000 in
set_option maxRecDepth 10000 in
theorem ok_X12_isHolder (d : Nat) (M : Nat → Nat → Int32) (ML : Nat → Nat → Int64) (x : Int32) : Ex (d + 2) k_X12_isHolder [.int x] (SH, M, ML) (some (.int (b2i (decide (0 ≤ x ∧ x ≤ 5)))), (SH, M, ML)) := by
  refine Ex_in mi_X12_isHolder rfl rfl ⟨Nat.le_refl _, Nat.le_refl _⟩ ?_
  show RR _ cd_X12_isHolder true _ (0, [(0, .int x)], [], (SH, M, ML))
  refine r_ld rfl rfl ?_
  refine r_cst (v := .int 0) rfl rfl ?_
  refine r_cst (v := .int 5) rfl rfl ?_
  refine q_call (as := [_, _, _]) (rest := []) rfl rfl rfl rfl rfl rfl rfl rfl (ok_X12_in ..) ?_
  refine r_ret rfl rfl (by first | exact rb0 | exact rb1 | exact rbB _) ?_
  exact rfl

theorem h6 {i : Nat} (hi : i < 6) : decide ((0 : Int32) ≤ nI i ∧ nI i ≤ 5) = true := decide_eq_true ⟨nI_pos' (by omega), nI_le (b := 5) (by omega) (by decide)⟩
set_option maxHeartbeats 1000000 in
set_option maxRecDepth 10000 in
theorem ok_X12_hinders_n (d : Nat) (M : Nat → Nat → Int32) (ML : Nat → Nat → Int64) {x : Int32} (hx : ¬ (0 ≤ x ∧ x ≤ 5)) : Ex (d + 3) k_X12_hinders [.ref 73, .int x] (SH, M, ML) (some (.int (-1)), (SH, M, ML)) := by
  refine Ex_in mi_X12_hinders rfl rfl ⟨Nat.le_refl _, Nat.le_refl _⟩ ?_
  show RR _ cd_X12_hinders false _ (0, [(0, .ref 73), (1, .int x)], [], (SH, M, ML))
  refine r_ld rfl rfl ?_
  refine q_cifn (as := [_]) (rest := []) rfl rfl rfl rfl rfl rfl rfl rfl (ok_X12_isHolder ..) rfl (fun h_1 => ?_) (fun h_1 => ?_)
  · exact (hx (of_decide_eq_true h_1)).elim
  · refine r_cst (v := .int (-1)) rfl rfl ?_
    refine r_go rfl ?_
    refine r_ret rfl rfl (trivial) ?_
    exact rfl

set_option maxHeartbeats 1000000 in
set_option maxRecDepth 10000 in
theorem ok_X12_hinders_y (d : Nat) (M : Nat → Nat → Int32) (ML : Nat → Nat → Int64) {i : Nat} (hi : i < 6) : Ex (d + 3) k_X12_hinders [.ref 73, .int (nI i)] (SH, M, ML) (some (.int (nrV (M 81 i))), (SH, M, ML)) := by
  refine Ex_in mi_X12_hinders rfl rfl ⟨Nat.le_refl _, Nat.le_refl _⟩ ?_
  show RR _ cd_X12_hinders false _ (0, [(0, .ref 73), (1, .int (nI i))], [], (SH, M, ML))
  refine r_ld rfl rfl ?_
  refine q_cifn (as := [_]) (rest := []) rfl rfl rfl rfl rfl rfl rfl rfl (ok_X12_isHolder ..) rfl (fun h_1 => ?_) (fun h_1 => ?_)
  · refine r_ld rfl rfl ?_
    refine q_getr rfl rfl rfl rfl rfl ?_
    refine r_ld rfl rfl ?_
    refine q_ain rfl rfl rfl (rfl) (by omega) rfl ?_
    refine r_cj rfl rfl (fun h_17 => ?_) (fun h_17 => ?_)
    · refine r_ld rfl rfl ?_
      refine q_getr rfl rfl rfl rfl rfl ?_
      refine r_ld rfl rfl ?_
      refine q_ain rfl rfl rfl (rfl) (by omega) rfl ?_
      refine r_cst (v := .int 3) rfl rfl ?_
      refine r_cj rfl rfl (fun h_32 => ?_) (fun h_32 => ?_)
      · refine r_cst (v := .int 0) rfl rfl ?_
        refine r_ret rfl rfl (trivial) ?_
        first
          | (simp_all [nrV]; done)
          | (have h9 := Classical.not_not.mp h_17; simp_all [nrV]; done)
      · refine r_cst (v := .int (-12)) rfl rfl ?_
        refine r_go rfl ?_
        refine r_ret rfl rfl (trivial) ?_
        first
          | (simp_all [nrV]; done)
          | (have h9 := Classical.not_not.mp h_17; simp_all [nrV]; done)
    · refine r_cst (v := .int (-11)) rfl rfl ?_
      refine r_go rfl ?_
      refine r_ret rfl rfl (trivial) ?_
      first
        | (simp_all [nrV]; done)
        | (have h9 := Classical.not_not.mp h_17; simp_all [nrV]; done)
  · exact absurd h_1 (by rw [h6 hi]; decide)

set_option maxHeartbeats 1000000 in
set_option maxRecDepth 10000 in
theorem ok_X12_drop_n (d : Nat) (M : Nat → Nat → Int32) (ML : Nat → Nat → Int64) {x : Int32} (hx : ¬ (0 ≤ x ∧ x ≤ 5)) : Ex (d + 3) k_X12_drop [.ref 73, .int x] (SH, M, ML) (some (.int (-1)), (SH, M, ML)) := by
  refine Ex_in mi_X12_drop rfl rfl ⟨Nat.le_refl _, Nat.le_refl _⟩ ?_
  show RR _ cd_X12_drop false _ (0, [(0, .ref 73), (1, .int x)], [], (SH, M, ML))
  refine r_ld rfl rfl ?_
  refine q_cifn (as := [_]) (rest := []) rfl rfl rfl rfl rfl rfl rfl rfl (ok_X12_isHolder ..) rfl (fun h_1 => ?_) (fun h_1 => ?_)
  · exact (hx (of_decide_eq_true h_1)).elim
  · refine r_cst (v := .int (-1)) rfl rfl ?_
    refine r_ret rfl rfl (trivial) ?_
    exact rfl

set_option maxHeartbeats 1000000 in
set_option maxRecDepth 10000 in
theorem ok_X12_drop_y (d : Nat) (M : Nat → Nat → Int32) (ML : Nat → Nat → Int64) {i : Nat} (hi : i < 6) : Ex (d + 3) k_X12_drop [.ref 73, .int (nI i)] (SH, M, ML) (some (.int (M 81 i)), (SH, up2 M 81 i 0, ML)) := by
  refine Ex_in mi_X12_drop rfl rfl ⟨Nat.le_refl _, Nat.le_refl _⟩ ?_
  show RR _ cd_X12_drop false _ (0, [(0, .ref 73), (1, .int (nI i))], [], (SH, M, ML))
  refine r_ld rfl rfl ?_
  refine q_cifn (as := [_]) (rest := []) rfl rfl rfl rfl rfl rfl rfl rfl (ok_X12_isHolder ..) rfl (fun h_1 => ?_) (fun h_1 => ?_)
  · refine r_ld rfl rfl ?_
    refine q_getr rfl rfl rfl rfl rfl ?_
    refine r_ld rfl rfl ?_
    refine q_ain rfl rfl rfl (rfl) (by omega) rfl ?_
    refine r_sto (L' := [(0, _), (1, _), (2, _)]) rfl rfl ?_
    refine r_ld rfl rfl ?_
    refine q_getr rfl rfl rfl rfl rfl ?_
    refine r_ld rfl rfl ?_
    refine r_cst (v := .int 0) rfl rfl ?_
    refine q_sin rfl rfl rfl (rfl) (by omega) rfl ?_
    refine r_ld rfl rfl ?_
    refine r_ret rfl rfl (trivial) ?_
    exact rfl
  · exact absurd h_1 (by rw [h6 hi]; decide)

set_option maxHeartbeats 1000000 in
set_option maxRecDepth 10000 in
theorem ok_X12_taken_n (d : Nat) (M : Nat → Nat → Int32) (ML : Nat → Nat → Int64) {x : Int32} (hx : ¬ (0 ≤ x ∧ x ≤ 5)) (y : Int32) : Ex (d + 3) k_X12_taken [.ref 73, .int x, .int y] (SH, M, ML) (some (.int (-1)), (SH, M, ML)) := by
  refine Ex_in mi_X12_taken rfl rfl ⟨Nat.le_refl _, Nat.le_refl _⟩ ?_
  show RR _ cd_X12_taken false _ (0, [(0, .ref 73), (1, .int x), (2, .int y)], [], (SH, M, ML))
  refine r_ld rfl rfl ?_
  refine q_cife (as := [_]) (rest := []) rfl rfl rfl rfl rfl rfl rfl rfl (ok_X12_isHolder ..) rfl (fun h_1 => ?_) (fun h_1 => ?_)
  · refine r_cst (v := .int (-1)) rfl rfl ?_
    refine r_ret rfl rfl (trivial) ?_
    exact rfl
  · exact (hx (of_decide_eq_true h_1)).elim

set_option maxHeartbeats 1000000 in
set_option maxRecDepth 10000 in
theorem ok_X12_taken_b (d : Nat) (M : Nat → Nat → Int32) (ML : Nat → Nat → Int64) {x y : Int32} (hy : ¬ (0 ≤ y ∧ y ≤ 2)) : Ex (d + 3) k_X12_taken [.ref 73, .int x, .int y] (SH, M, ML) (some (.int (-1)), (SH, M, ML)) := by
  refine Ex_in mi_X12_taken rfl rfl ⟨Nat.le_refl _, Nat.le_refl _⟩ ?_
  show RR _ cd_X12_taken false _ (0, [(0, .ref 73), (1, .int x), (2, .int y)], [], (SH, M, ML))
  refine r_ld rfl rfl ?_
  refine q_cife (as := [_]) (rest := []) rfl rfl rfl rfl rfl rfl rfl rfl (ok_X12_isHolder ..) rfl (fun h_1 => ?_) (fun h_1 => ?_)
  · refine r_cst (v := .int (-1)) rfl rfl ?_
    refine r_ret rfl rfl (trivial) ?_
    exact rfl
  · refine r_ld rfl rfl ?_
    refine r_cst (v := .int 0) rfl rfl ?_
    refine r_cst (v := .int 2) rfl rfl ?_
    refine q_cifn (as := [_, _, _]) (rest := []) rfl rfl rfl rfl rfl rfl rfl rfl (ok_X12_in ..) rfl (fun h_10 => ?_) (fun h_10 => ?_)
    · exact (hy (of_decide_eq_true h_10)).elim
    · refine r_cst (v := .int (-1)) rfl rfl ?_
      refine r_ret rfl rfl (trivial) ?_
      exact rfl

set_option maxHeartbeats 1000000 in
set_option maxRecDepth 10000 in
theorem ok_X12_taken_y (d : Nat) (M : Nat → Nat → Int32) (ML : Nat → Nat → Int64) {i : Nat} (hi : i < 6) (y : Int32) (hy : 0 ≤ y ∧ y ≤ 2) : Ex (d + 3) k_X12_taken [.ref 73, .int (nI i), .int y] (SH, M, ML) (some (.int (tkV (M 81 i) y (M 82 i) (M 83 i))), (SH, M, ML)) := by
  refine Ex_in mi_X12_taken rfl rfl ⟨Nat.le_refl _, Nat.le_refl _⟩ ?_
  show RR _ cd_X12_taken false _ (0, [(0, .ref 73), (1, .int (nI i)), (2, .int y)], [], (SH, M, ML))
  have hy0 : y ≤ 0 ↔ y = 0 := ⟨fun q => Int32.le_antisymm q hy.1, fun q => by rw [q]; exact Int32.le_refl _⟩
  have hc : (y = M 81 i) ↔ (M 81 i = y) := eq_comm
  refine r_ld rfl rfl ?_
  refine q_cife (as := [_]) (rest := []) rfl rfl rfl rfl rfl rfl rfl rfl (ok_X12_isHolder ..) rfl (fun h_1 => ?_) (fun h_1 => ?_)
  · first
      | exact absurd h_1 (by rw [h6 hi]; decide)
      | exact absurd h_10 (by rw [decide_eq_true hy]; decide)
  · refine r_ld rfl rfl ?_
    refine r_cst (v := .int 0) rfl rfl ?_
    refine r_cst (v := .int 2) rfl rfl ?_
    refine q_cifn (as := [_, _, _]) (rest := []) rfl rfl rfl rfl rfl rfl rfl rfl (ok_X12_in ..) rfl (fun h_10 => ?_) (fun h_10 => ?_)
    · refine r_ld rfl rfl ?_
      refine q_getr rfl rfl rfl rfl rfl ?_
      refine r_ld rfl rfl ?_
      refine q_ain rfl rfl rfl (rfl) (by omega) rfl ?_
      refine r_cj rfl rfl (fun h_24 => ?_) (fun h_24 => ?_)
      · refine r_ld rfl rfl ?_
        refine q_getr rfl rfl rfl rfl rfl ?_
        refine r_ld rfl rfl ?_
        refine q_ain rfl rfl rfl (rfl) (by omega) rfl ?_
        refine r_cst (v := .int 3) rfl rfl ?_
        refine r_cj rfl rfl (fun h_37 => ?_) (fun h_37 => ?_)
        · refine r_cst (v := .int (-12)) rfl rfl ?_
          refine r_ret rfl rfl (trivial) ?_
          clear h_1 h_10
          first
            | (simp_all [tkV]; done)
            | (have h9 := Classical.not_not.mp h_24; simp_all [tkV]; done)
        · refine r_ld rfl rfl ?_
          refine r_cj rfl rfl (fun h_41 => ?_) (fun h_41 => ?_)
          · refine r_ld rfl rfl ?_
            refine r_cj rfl rfl (fun h_58 => ?_) (fun h_58 => ?_)
            · refine r_ld rfl rfl ?_
              refine q_getr rfl rfl rfl rfl rfl ?_
              refine r_ld rfl rfl ?_
              refine q_ain rfl rfl rfl (rfl) (by omega) rfl ?_
              refine r_ret rfl rfl (trivial) ?_
              clear h_1 h_10
              first
                | (simp_all [tkV]; done)
                | (have h9 := Classical.not_not.mp h_24; simp_all [tkV]; done)
            · refine r_ld rfl rfl ?_
              refine q_getr rfl rfl rfl rfl rfl ?_
              refine r_ld rfl rfl ?_
              refine q_ain rfl rfl rfl (rfl) (by omega) rfl ?_
              refine r_go rfl ?_
              refine r_ret rfl rfl (trivial) ?_
              clear h_1 h_10
              first
                | (simp_all [tkV]; done)
                | (have h9 := Classical.not_not.mp h_24; simp_all [tkV]; done)
          · refine r_ld rfl rfl ?_
            refine q_getr rfl rfl rfl rfl rfl ?_
            refine r_ld rfl rfl ?_
            refine q_ain rfl rfl rfl (rfl) (by omega) rfl ?_
            refine r_ld rfl rfl ?_
            refine r_cj rfl rfl (fun h_51 => ?_) (fun h_51 => ?_)
            · refine r_ld rfl rfl ?_
              refine r_cj rfl rfl (fun h_58 => ?_) (fun h_58 => ?_)
              · refine r_ld rfl rfl ?_
                refine q_getr rfl rfl rfl rfl rfl ?_
                refine r_ld rfl rfl ?_
                refine q_ain rfl rfl rfl (rfl) (by omega) rfl ?_
                refine r_ret rfl rfl (trivial) ?_
                clear h_1 h_10
                first
                  | (simp_all [tkV]; done)
                  | (have h9 := Classical.not_not.mp h_24; simp_all [tkV]; done)
              · refine r_ld rfl rfl ?_
                refine q_getr rfl rfl rfl rfl rfl ?_
                refine r_ld rfl rfl ?_
                refine q_ain rfl rfl rfl (rfl) (by omega) rfl ?_
                refine r_go rfl ?_
                refine r_ret rfl rfl (trivial) ?_
                clear h_1 h_10
                first
                  | (simp_all [tkV]; done)
                  | (have h9 := Classical.not_not.mp h_24; simp_all [tkV]; done)
            · refine r_cst (v := .int (-12)) rfl rfl ?_
              refine r_ret rfl rfl (trivial) ?_
              clear h_1 h_10
              first
                | (simp_all [tkV]; done)
                | (have h9 := Classical.not_not.mp h_24; simp_all [tkV]; done)
      · refine r_cst (v := .int (-11)) rfl rfl ?_
        refine r_ret rfl rfl (trivial) ?_
        clear h_1 h_10
        first
          | (simp_all [tkV]; done)
          | (have h9 := Classical.not_not.mp h_24; simp_all [tkV]; done)
    · first
        | exact absurd h_1 (by rw [h6 hi]; decide)
        | exact absurd h_10 (by rw [decide_eq_true hy]; decide)

set_option maxHeartbeats 1000000 in
set_option maxRecDepth 10000 in
theorem ok_X12_row_n (d : Nat) (M : Nat → Nat → Int32) (ML : Nat → Nat → Int64) {x : Int32} (hx : ¬ (0 ≤ x ∧ x ≤ 5)) (v : Int32) : Ex (d + 3) k_X12_row [.ref 73, .int x, .int v] (SH, M, ML) (some (.int (-1)), (SH, M, ML)) := by
  refine Ex_in mi_X12_row rfl rfl ⟨Nat.le_refl _, Nat.le_refl _⟩ ?_
  show RR _ cd_X12_row false _ (0, [(0, .ref 73), (1, .int x), (2, .int v)], [], (SH, M, ML))
  refine r_ld rfl rfl ?_
  refine q_cife (as := [_]) (rest := []) rfl rfl rfl rfl rfl rfl rfl rfl (ok_X12_isHolder ..) rfl (fun h_1 => ?_) (fun h_1 => ?_)
  · refine r_cst (v := .int (-1)) rfl rfl ?_
    refine r_ret rfl rfl (trivial) ?_
    exact rfl
  · exact (hx (of_decide_eq_true h_1)).elim

set_option maxHeartbeats 1000000 in
set_option maxRecDepth 10000 in
theorem ok_X12_row_b (d : Nat) (M : Nat → Nat → Int32) (ML : Nat → Nat → Int64) {x v : Int32} (hv : ¬ v ≤ 20) : Ex (d + 3) k_X12_row [.ref 73, .int x, .int v] (SH, M, ML) (some (.int (-1)), (SH, M, ML)) := by
  refine Ex_in mi_X12_row rfl rfl ⟨Nat.le_refl _, Nat.le_refl _⟩ ?_
  show RR _ cd_X12_row false _ (0, [(0, .ref 73), (1, .int x), (2, .int v)], [], (SH, M, ML))
  refine r_ld rfl rfl ?_
  refine q_cife (as := [_]) (rest := []) rfl rfl rfl rfl rfl rfl rfl rfl (ok_X12_isHolder ..) rfl (fun h_1 => ?_) (fun h_1 => ?_)
  · refine r_cst (v := .int (-1)) rfl rfl ?_
    refine r_ret rfl rfl (trivial) ?_
    exact rfl
  · refine r_ld rfl rfl ?_
    refine r_cst (v := .int 20) rfl rfl ?_
    refine q_cjF rfl rfl (hv) ?_
    refine r_cst (v := .int (-1)) rfl rfl ?_
    refine r_ret rfl rfl (trivial) ?_
    exact rfl

set_option maxHeartbeats 1000000 in
set_option maxRecDepth 10000 in
theorem ok_X12_row_c (d : Nat) (M : Nat → Nat → Int32) (ML : Nat → Nat → Int64) {i : Nat} (hi : i < 6) {v : Int32} (hv : ¬ 0 ≤ v) (hv2 : v ≤ 20) : Ex (d + 3) k_X12_row [.ref 73, .int (nI i), .int v] (SH, M, ML) (some (.int (-14)), (SH, M, ML)) := by
  refine Ex_in mi_X12_row rfl rfl ⟨Nat.le_refl _, Nat.le_refl _⟩ ?_
  show RR _ cd_X12_row false _ (0, [(0, .ref 73), (1, .int (nI i)), (2, .int v)], [], (SH, M, ML))
  refine r_ld rfl rfl ?_
  refine q_cife (as := [_]) (rest := []) rfl rfl rfl rfl rfl rfl rfl rfl (ok_X12_isHolder ..) rfl (fun h_1 => ?_) (fun h_1 => ?_)
  · exact absurd h_1 (by rw [h6 hi]; decide)
  · refine r_ld rfl rfl ?_
    refine r_cst (v := .int 20) rfl rfl ?_
    refine q_cjT rfl rfl (hv2) ?_
    refine r_ld rfl rfl ?_
    refine q_cjF rfl rfl (hv) ?_
    refine r_cst (v := .int (-14)) rfl rfl ?_
    refine r_ret rfl rfl (trivial) ?_
    exact rfl

set_option maxHeartbeats 1000000 in
set_option maxRecDepth 10000 in
theorem lp_X12_row_38 (d : Nat) (M : Nat → Nat → Int32) (ML : Nat → Nat → Int64) {i : Nat} (hi : i < 6) {n : Nat} (hn : n ≤ 20)  {res : Rt} (hk : res = (some (.int (nI n)), (SH, z84 M i n, ML))) :
    ∀ e, e ≤ n → ∀ (j9 : Int32) (M' : Nat → Nat → Int32), j9 = nI e → M' = z84 M i e → RR (d + 2) cd_X12_row false res (38, [(0, .ref 73), (1, .int ((nI i))), (2, .int ((nI n))), (3, .int j9)], [], (SH, M', ML)) := by
  refine up_ind fun e he ih => ?_
  intro j9 M' hv0 hv1
  subst hv0 hv1
  refine r_ld rfl rfl ?_
  refine r_ld rfl rfl ?_
  refine r_cj rfl rfl (fun h_40 => ?_) (fun h_40 => ?_)
  · have h9 : e = n := by have := nle (by omega) (by omega) h_40; omega
    subst h9
    refine r_ld rfl rfl ?_
    refine r_ret rfl rfl (trivial) ?_
    exact hk
  · have hlt : e < n := nnle (by omega) (by omega) h_40
    refine r_ld rfl rfl ?_
    refine q_getr rfl rfl rfl rfl rfl ?_
    refine r_cst (v := .int 20) rfl rfl ?_
    refine r_ld rfl rfl ?_
    refine r_bin rfl rfl ?_
    refine r_ld rfl rfl ?_
    refine r_bin rfl rfl ?_
    refine r_cst (v := .int 0) rfl rfl ?_
    refine q_sin rfl rfl rfl (nI_20 i e) (by omega) rfl ?_
    refine q_inc (y := _ + 1) rfl rfl rfl ?_
    refine q_norm (L' := [(0, _), (1, _), (2, _), (3, _)]) rfl ?_
    refine r_go rfl ?_
    exact ih hlt _ _ (nI_1 e) (z84_succ _ _ _)

set_option maxHeartbeats 1000000 in
set_option maxRecDepth 10000 in
theorem ok_X12_row_y (d : Nat) (M : Nat → Nat → Int32) (ML : Nat → Nat → Int64) {i : Nat} (hi : i < 6) {n : Nat} (hn : n ≤ 20) : Ex (d + 3) k_X12_row [.ref 73, .int (nI i), .int (nI n)] (SH, M, ML) (some (.int (nI n)), (SH, z84 (up2 (up2 M 81 i 3) 83 i (nI n)) i n, ML)) := by
  refine Ex_in mi_X12_row rfl rfl ⟨Nat.le_refl _, Nat.le_refl _⟩ ?_
  show RR _ cd_X12_row false _ (0, [(0, .ref 73), (1, .int (nI i)), (2, .int (nI n))], [], (SH, M, ML))
  refine r_ld rfl rfl ?_
  refine q_cife (as := [_]) (rest := []) rfl rfl rfl rfl rfl rfl rfl rfl (ok_X12_isHolder ..) rfl (fun h_1 => ?_) (fun h_1 => ?_)
  · exact absurd h_1 (by rw [h6 hi]; decide)
  · refine r_ld rfl rfl ?_
    refine r_cst (v := .int 20) rfl rfl ?_
    refine q_cjT rfl rfl (nI_le (b := 20) hn (by decide)) ?_
    refine r_ld rfl rfl ?_
    refine q_cjT rfl rfl (nI_pos' (by omega)) ?_
    refine r_ld rfl rfl ?_
    refine q_getr rfl rfl rfl rfl rfl ?_
    refine r_ld rfl rfl ?_
    refine r_cst (v := .int 3) rfl rfl ?_
    refine q_sin rfl rfl rfl (rfl) (by omega) rfl ?_
    refine r_ld rfl rfl ?_
    refine q_getr rfl rfl rfl rfl rfl ?_
    refine r_ld rfl rfl ?_
    refine r_ld rfl rfl ?_
    refine q_sin rfl rfl rfl (rfl) (by omega) rfl ?_
    refine r_cst (v := .int 0) rfl rfl ?_
    refine r_sto (L' := [(0, _), (1, _), (2, _), (3, _)]) rfl rfl ?_
    exact lp_X12_row_38 d _ ML hi hn rfl 0 (Nat.zero_le _) _ _ rfl (z84_0 _ _).symm

set_option maxHeartbeats 1000000 in
set_option maxRecDepth 10000 in
theorem ok_X12_put_n (d : Nat) (M : Nat → Nat → Int32) (ML : Nat → Nat → Int64) {x : Int32} (hx : ¬ (0 ≤ x ∧ x ≤ 5)) (y z : Int32) : Ex (d + 4) k_X12_put [.ref 73, .int x, .int y, .int z] (SH, M, ML) (some (.int (-1)), (SH, M, ML)) := by
  refine Ex_in mi_X12_put rfl rfl ⟨Nat.le_refl _, Nat.le_refl _⟩ ?_
  show RR _ cd_X12_put false _ (0, [(0, .ref 73), (1, .int x), (2, .int y), (3, .int z)], [], (SH, M, ML))
  refine r_ld rfl rfl ?_
  refine r_ld rfl rfl ?_
  refine q_call (as := [_, _]) (rest := []) rfl rfl rfl rfl rfl rfl rfl rfl (ok_X12_hinders_n _ _ _ hx) ?_
  refine r_sto (L' := [(0, _), (1, _), (2, _), (3, _), (4, _)]) rfl rfl ?_
  refine r_ld rfl rfl ?_
  refine q_cjF rfl rfl (by decide) ?_
  refine r_ld rfl rfl ?_
  refine r_ret rfl rfl (trivial) ?_
  exact rfl

set_option maxHeartbeats 1000000 in
set_option maxRecDepth 10000 in
theorem ok_X12_put_b (d : Nat) (M : Nat → Nat → Int32) (ML : Nat → Nat → Int64) {i : Nat} (hi : i < 6) (y z : Int32) (h0 : ¬ nrV (M 81 i) = 0) : Ex (d + 4) k_X12_put [.ref 73, .int (nI i), .int y, .int z] (SH, M, ML) (some (.int (nrV (M 81 i))), (SH, M, ML)) := by
  refine Ex_in mi_X12_put rfl rfl ⟨Nat.le_refl _, Nat.le_refl _⟩ ?_
  show RR _ cd_X12_put false _ (0, [(0, .ref 73), (1, .int (nI i)), (2, .int y), (3, .int z)], [], (SH, M, ML))
  refine r_ld rfl rfl ?_
  refine r_ld rfl rfl ?_
  refine q_call (as := [_, _]) (rest := []) rfl rfl rfl rfl rfl rfl rfl rfl (ok_X12_hinders_y _ _ _ hi) ?_
  refine r_sto (L' := [(0, _), (1, _), (2, _), (3, _), (4, _)]) rfl rfl ?_
  refine r_ld rfl rfl ?_
  refine q_cjF rfl rfl (nrV_neg h0) ?_
  refine r_ld rfl rfl ?_
  refine r_ret rfl rfl (trivial) ?_
  exact rfl

set_option maxHeartbeats 1000000 in
set_option maxRecDepth 10000 in
theorem ok_X12_put_c (d : Nat) (M : Nat → Nat → Int32) (ML : Nat → Nat → Int64) {i : Nat} (hi : i < 6) (y z : Int32) {n : Nat} (h0 : nrV (M 81 i) = 0) (hn : M 83 i = nI n) (hn2 : n ≤ 20) (hy : ¬ (0 ≤ y ∧ y < nI n)) : Ex (d + 4) k_X12_put [.ref 73, .int (nI i), .int y, .int z] (SH, M, ML) (some (.int (-13)), (SH, M, ML)) := by
  refine Ex_in mi_X12_put rfl rfl ⟨Nat.le_refl _, Nat.le_refl _⟩ ?_
  show RR _ cd_X12_put false _ (0, [(0, .ref 73), (1, .int (nI i)), (2, .int y), (3, .int z)], [], (SH, M, ML))
  refine r_ld rfl rfl ?_
  refine r_ld rfl rfl ?_
  refine q_call (as := [_, _]) (rest := []) rfl rfl rfl rfl rfl rfl rfl rfl (ok_X12_hinders_y _ _ _ hi) ?_
  refine r_sto (L' := [(0, _), (1, _), (2, _), (3, _), (4, _)]) rfl rfl ?_
  refine r_ld rfl rfl ?_
  refine q_cjT rfl rfl (by rw [h0]; exact Int32.le_refl _) ?_
  refine r_ld rfl rfl ?_
  refine r_cst (v := .int 0) rfl rfl ?_
  refine r_ld rfl rfl ?_
  refine q_getr rfl rfl rfl rfl rfl ?_
  refine r_ld rfl rfl ?_
  refine q_ain rfl rfl rfl (rfl) (by omega) rfl ?_
  refine r_cst (v := .int 1) rfl rfl ?_
  refine r_bin rfl rfl ?_
  refine q_cifn (as := [_, _, _]) (rest := []) rfl rfl rfl rfl rfl rfl rfl rfl (ok_X12_in ..) rfl (fun h_25 => ?_) (fun h_25 => ?_)
  · rw [hn] at h_25
    have h9 := of_decide_eq_true h_25
    exact (hy ⟨h9.1, (le_pred hn2).mp h9.2⟩).elim
  · refine r_cst (v := .int (-13)) rfl rfl ?_
    refine r_ret rfl rfl (trivial) ?_
    exact rfl

set_option maxHeartbeats 1000000 in
set_option maxRecDepth 10000 in
theorem ok_X12_put_y (d : Nat) (M : Nat → Nat → Int32) (ML : Nat → Nat → Int64) {i : Nat} (hi : i < 6) (z : Int32) {k n : Nat} (h0 : nrV (M 81 i) = 0) (hn : M 83 i = nI n) (hk : k < n) (hn2 : n ≤ 20) : Ex (d + 4) k_X12_put [.ref 73, .int (nI i), .int (nI k), .int z] (SH, M, ML) (some (.int 1), (SH, up2 M 84 (20 * i + k) z, ML)) := by
  refine Ex_in mi_X12_put rfl rfl ⟨Nat.le_refl _, Nat.le_refl _⟩ ?_
  show RR _ cd_X12_put false _ (0, [(0, .ref 73), (1, .int (nI i)), (2, .int (nI k)), (3, .int z)], [], (SH, M, ML))
  refine r_ld rfl rfl ?_
  refine r_ld rfl rfl ?_
  refine q_call (as := [_, _]) (rest := []) rfl rfl rfl rfl rfl rfl rfl rfl (ok_X12_hinders_y _ _ _ hi) ?_
  refine r_sto (L' := [(0, _), (1, _), (2, _), (3, _), (4, _)]) rfl rfl ?_
  refine r_ld rfl rfl ?_
  refine q_cjT rfl rfl (by rw [h0]; exact Int32.le_refl _) ?_
  refine r_ld rfl rfl ?_
  refine r_cst (v := .int 0) rfl rfl ?_
  refine r_ld rfl rfl ?_
  refine q_getr rfl rfl rfl rfl rfl ?_
  refine r_ld rfl rfl ?_
  refine q_ain rfl rfl rfl (rfl) (by omega) rfl ?_
  refine r_cst (v := .int 1) rfl rfl ?_
  refine r_bin rfl rfl ?_
  refine q_cifn (as := [_, _, _]) (rest := []) rfl rfl rfl rfl rfl rfl rfl rfl (ok_X12_in ..) rfl (fun h_25 => ?_) (fun h_25 => ?_)
  · refine r_ld rfl rfl ?_
    refine q_getr rfl rfl rfl rfl rfl ?_
    refine r_cst (v := .int 20) rfl rfl ?_
    refine r_ld rfl rfl ?_
    refine r_bin rfl rfl ?_
    refine r_ld rfl rfl ?_
    refine r_bin rfl rfl ?_
    refine r_ld rfl rfl ?_
    refine q_sin rfl rfl rfl (nI_20 i k) (by omega) rfl ?_
    refine r_cst (v := .int 1) rfl rfl ?_
    refine r_ret rfl rfl (trivial) ?_
    exact rfl
  · rw [hn] at h_25
    exact absurd h_25 (by rw [decide_eq_true (show (0 : Int32) ≤ nI k ∧ nI k ≤ nI n - 1 from ⟨nI_pos' (by omega), (le_pred hn2).mpr (nI_lt hk (by omega))⟩)]; decide)

set_option maxHeartbeats 1000000 in
set_option maxRecDepth 10000 in
theorem ok_X12_get_n (d : Nat) (M : Nat → Nat → Int32) (ML : Nat → Nat → Int64) {x : Int32} (hx : ¬ (0 ≤ x ∧ x ≤ 5)) (y : Int32) : Ex (d + 4) k_X12_get [.ref 73, .int x, .int y] (SH, M, ML) (some (.long (Int64.ofInt (-9223372036854775808))), (SH, M, ML)) := by
  refine Ex_in mi_X12_get rfl rfl ⟨Nat.le_refl _, Nat.le_refl _⟩ ?_
  show RR _ cd_X12_get false _ (0, [(0, .ref 73), (1, .int x), (2, .int y)], [], (SH, M, ML))
  refine r_ld rfl rfl ?_
  refine r_ld rfl rfl ?_
  refine q_call (as := [_, _]) (rest := []) rfl rfl rfl rfl rfl rfl rfl rfl (ok_X12_hinders_n _ _ _ hx) ?_
  refine q_cjT rfl rfl (by decide) ?_
  refine r_ldl rfl ?_
  refine r_ret rfl rfl (trivial) ?_
  exact rfl

set_option maxHeartbeats 1000000 in
set_option maxRecDepth 10000 in
theorem ok_X12_get_b (d : Nat) (M : Nat → Nat → Int32) (ML : Nat → Nat → Int64) {i : Nat} (hi : i < 6) (y : Int32) (h0 : ¬ nrV (M 81 i) = 0) : Ex (d + 4) k_X12_get [.ref 73, .int (nI i), .int y] (SH, M, ML) (some (.long (Int64.ofInt (-9223372036854775808))), (SH, M, ML)) := by
  refine Ex_in mi_X12_get rfl rfl ⟨Nat.le_refl _, Nat.le_refl _⟩ ?_
  show RR _ cd_X12_get false _ (0, [(0, .ref 73), (1, .int (nI i)), (2, .int y)], [], (SH, M, ML))
  refine r_ld rfl rfl ?_
  refine r_ld rfl rfl ?_
  refine q_call (as := [_, _]) (rest := []) rfl rfl rfl rfl rfl rfl rfl rfl (ok_X12_hinders_y _ _ _ hi) ?_
  refine q_cjT rfl rfl (h0) ?_
  refine r_ldl rfl ?_
  refine r_ret rfl rfl (trivial) ?_
  exact rfl

set_option maxHeartbeats 1000000 in
set_option maxRecDepth 10000 in
theorem ok_X12_get_c (d : Nat) (M : Nat → Nat → Int32) (ML : Nat → Nat → Int64) {i : Nat} (hi : i < 6) (y : Int32) {n : Nat} (h0 : nrV (M 81 i) = 0) (hn : M 83 i = nI n) (hn2 : n ≤ 20) (hy : ¬ (0 ≤ y ∧ y < nI n)) : Ex (d + 4) k_X12_get [.ref 73, .int (nI i), .int y] (SH, M, ML) (some (.long (Int64.ofInt (-9223372036854775808))), (SH, M, ML)) := by
  refine Ex_in mi_X12_get rfl rfl ⟨Nat.le_refl _, Nat.le_refl _⟩ ?_
  show RR _ cd_X12_get false _ (0, [(0, .ref 73), (1, .int (nI i)), (2, .int y)], [], (SH, M, ML))
  refine r_ld rfl rfl ?_
  refine r_ld rfl rfl ?_
  refine q_call (as := [_, _]) (rest := []) rfl rfl rfl rfl rfl rfl rfl rfl (ok_X12_hinders_y _ _ _ hi) ?_
  refine q_cjF rfl rfl (fun q => q h0) ?_
  refine r_ld rfl rfl ?_
  refine r_cst (v := .int 0) rfl rfl ?_
  refine r_ld rfl rfl ?_
  refine q_getr rfl rfl rfl rfl rfl ?_
  refine r_ld rfl rfl ?_
  refine q_ain rfl rfl rfl (rfl) (by omega) rfl ?_
  refine r_cst (v := .int 1) rfl rfl ?_
  refine r_bin rfl rfl ?_
  refine q_cife (as := [_, _, _]) (rest := []) rfl rfl rfl rfl rfl rfl rfl rfl (ok_X12_in ..) rfl (fun h_18 => ?_) (fun h_18 => ?_)
  · refine r_ldl rfl ?_
    refine r_ret rfl rfl (trivial) ?_
    exact rfl
  · rw [hn] at h_18
    have h9 := of_decide_eq_true h_18
    exact (hy ⟨h9.1, (le_pred hn2).mp h9.2⟩).elim

set_option maxHeartbeats 1000000 in
set_option maxRecDepth 10000 in
theorem ok_X12_get_y (d : Nat) (M : Nat → Nat → Int32) (ML : Nat → Nat → Int64) {i : Nat} (hi : i < 6) {k n : Nat} (h0 : nrV (M 81 i) = 0) (hn : M 83 i = nI n) (hk : k < n) (hn2 : n ≤ 20) : Ex (d + 4) k_X12_get [.ref 73, .int (nI i), .int (nI k)] (SH, M, ML) (some (.long (M 84 (20 * i + k)).toInt64), (SH, M, ML)) := by
  refine Ex_in mi_X12_get rfl rfl ⟨Nat.le_refl _, Nat.le_refl _⟩ ?_
  show RR _ cd_X12_get false _ (0, [(0, .ref 73), (1, .int (nI i)), (2, .int (nI k))], [], (SH, M, ML))
  refine r_ld rfl rfl ?_
  refine r_ld rfl rfl ?_
  refine q_call (as := [_, _]) (rest := []) rfl rfl rfl rfl rfl rfl rfl rfl (ok_X12_hinders_y _ _ _ hi) ?_
  refine q_cjF rfl rfl (fun q => q h0) ?_
  refine r_ld rfl rfl ?_
  refine r_cst (v := .int 0) rfl rfl ?_
  refine r_ld rfl rfl ?_
  refine q_getr rfl rfl rfl rfl rfl ?_
  refine r_ld rfl rfl ?_
  refine q_ain rfl rfl rfl (rfl) (by omega) rfl ?_
  refine r_cst (v := .int 1) rfl rfl ?_
  refine r_bin rfl rfl ?_
  refine q_cife (as := [_, _, _]) (rest := []) rfl rfl rfl rfl rfl rfl rfl rfl (ok_X12_in ..) rfl (fun h_18 => ?_) (fun h_18 => ?_)
  · rw [hn] at h_18
    exact absurd h_18 (by rw [decide_eq_true (show (0 : Int32) ≤ nI k ∧ nI k ≤ nI n - 1 from ⟨nI_pos' (by omega), (le_pred hn2).mpr (nI_lt hk (by omega))⟩)]; decide)
  · refine r_ld rfl rfl ?_
    refine q_getr rfl rfl rfl rfl rfl ?_
    refine r_cst (v := .int 20) rfl rfl ?_
    refine r_ld rfl rfl ?_
    refine r_bin rfl rfl ?_
    refine r_ld rfl rfl ?_
    refine r_bin rfl rfl ?_
    refine q_ain rfl rfl rfl (nI_20 i k) (by omega) rfl ?_
    refine r_una rfl rfl ?_
    refine r_go rfl ?_
    refine r_ret rfl rfl (trivial) ?_
    exact rfl

