/-! ===== one firing of a run in thought (class) ===== -/
set_option maxHeartbeats 1000000 in
set_option maxRecDepth 10000 in
theorem ok_X7_fireThought_k (d : Nat) (M : Nat → Nat → Int32) (ML : Nat → Nat → Int64) {a t c v o : Nat} (hv : v < 7) (hc40 : c < 40) (ho : o < 40) (ha : M 44 0 = nI a) (hT : M 5 v = nI t) (hc : M 44 1 = nI c) (hO : M 46 v = nI o) (hs : ¬ (M 44 2 = 0 ∧ nI (a ^^^ t) = M 2 2)) : Ex (d + 3) k_X7_fireThought [.ref 44, .ref 2, .int (nI v)] (SH, M, ML) (none, (SH, (up2 (up2 (up2 (up2 M 44 0 (nI (a ^^^ t))) 45 c (nI v)) 46 v (nI (o + 1))) 44 1 (nI (c + 1))), ML)) := by
  refine Ex_in mi_X7_fireThought rfl rfl ⟨Nat.le_refl _, Nat.le_refl _⟩ ?_
  show RR _ cd_X7_fireThought false _ (0, [(0, .ref 44), (1, .ref 2), (2, .int (nI v))], [], (SH, M, ML))
  have e2 : (up2 (up2 (up2 (up2 M 44 0 (nI (a ^^^ t))) 45 c (nI v)) 46 v (nI (o + 1))) 44 1 (nI (c + 1))) 44 2 = M 44 2 := by rw [up2_at, if_neg (by decide), up2_ne (by decide), up2_ne (by decide), up2_at, if_neg (by decide)]
  have e0 : (up2 (up2 (up2 (up2 M 44 0 (nI (a ^^^ t))) 45 c (nI v)) 46 v (nI (o + 1))) 44 1 (nI (c + 1))) 44 0 = nI (a ^^^ t) := by rw [up2_at, if_neg (by decide), up2_ne (by decide), up2_ne (by decide), up2_at, if_pos ⟨rfl, rfl⟩]
  have en : (up2 (up2 (up2 (up2 M 44 0 (nI (a ^^^ t))) 45 c (nI v)) 46 v (nI (o + 1))) 44 1 (nI (c + 1))) 2 2 = M 2 2 := by rw [up2_ne (by decide), up2_ne (by decide), up2_ne (by decide), up2_ne (by decide)]
  refine r_ld rfl rfl ?_
  refine r_ld rfl rfl ?_
  refine r_ld rfl rfl ?_
  refine q_geti rfl rfl rfl rfl rfl ?_
  refine r_ld rfl rfl ?_
  refine q_call (as := [_, _, _]) (rest := [_]) rfl rfl rfl rfl rfl rfl rfl rfl (ok_X4_turned _ _ _ _ hv) ?_
  rw [ha, hT, xorN]
  refine q_put rfl rfl rfl rfl rfl (Or.inl rfl) ?_
  refine r_ld rfl rfl ?_
  refine q_getr rfl rfl rfl rfl rfl ?_
  refine r_ld rfl rfl ?_
  refine q_geti rfl rfl rfl rfl rfl ?_
  refine r_ld rfl rfl ?_
  refine q_callv (as := [_, _, _]) (rest := []) rfl rfl rfl rfl rfl rfl rfl rfl (ok_lay_n _ _ _ _ _ rfl rfl rfl (by rw [up2_at, if_neg (by decide)]; exact hc) (by omega)) ?_
  refine r_ld rfl rfl ?_
  refine q_getr rfl rfl rfl rfl rfl ?_
  refine r_ld rfl rfl ?_
  refine r_ld rfl rfl ?_
  refine q_getr rfl rfl rfl rfl rfl ?_
  refine r_ld rfl rfl ?_
  refine q_call (as := [_, _]) (rest := [_, _]) rfl rfl rfl rfl rfl rfl rfl rfl (ok_at_n _ _ _ _ rfl rfl rfl rfl (by omega)) ?_
  refine r_cst (v := .int 1) rfl rfl ?_
  refine r_bin rfl rfl ?_
  rw [show (up2 (up2 M 44 0 (nI (a ^^^ t))) 45 c (nI v)) 46 v + 1 = nI (o + 1) from by rw [up2_ne (by decide), up2_ne (by decide), hO]; exact nI_1 _]
  refine q_callv (as := [_, _, _]) (rest := []) rfl rfl rfl rfl rfl rfl rfl rfl (ok_lay_n _ _ _ _ _ rfl rfl rfl rfl (by omega)) ?_
  refine r_ld rfl rfl ?_
  refine r_stk rfl rfl ?_
  refine q_geti rfl rfl rfl rfl rfl ?_
  refine r_cst (v := .int 1) rfl rfl ?_
  refine r_bin rfl rfl ?_
  rw [show (up2 (up2 (up2 M 44 0 (nI (a ^^^ t))) 45 c (nI v)) 46 v (nI (o + 1))) 44 1 + 1 = nI (c + 1) from by rw [up2_ne (by decide), up2_ne (by decide), up2_at, if_neg (by decide), hc]; exact nI_1 _]
  refine q_put rfl rfl rfl rfl rfl (Or.inl rfl) ?_
  refine r_ld rfl rfl ?_
  refine q_geti rfl rfl rfl rfl rfl ?_
  refine r_cj rfl rfl (fun h_57 => ?_) (fun h_57 => ?_)
  · refine r_ret rfl rfl (trivial) ?_
    exact rfl
  · refine r_ld rfl rfl ?_
    refine q_geti rfl rfl rfl rfl rfl ?_
    refine r_ld rfl rfl ?_
    refine q_geti rfl rfl rfl rfl rfl ?_
    refine r_cj rfl rfl (fun h_68 => ?_) (fun h_68 => ?_)
    · refine r_ret rfl rfl (trivial) ?_
      exact rfl
    · rw [e2] at h_57
      rw [e0, en] at h_68
      exact (hs ⟨Classical.not_not.mp h_57, Classical.not_not.mp h_68⟩).elim

set_option maxHeartbeats 1000000 in
set_option maxRecDepth 10000 in
theorem ok_X7_fireThought_s (d : Nat) (M : Nat → Nat → Int32) (ML : Nat → Nat → Int64) {a t c v o : Nat} (hv : v < 7) (hc40 : c < 40) (ho : o < 40) (ha : M 44 0 = nI a) (hT : M 5 v = nI t) (hc : M 44 1 = nI c) (hO : M 46 v = nI o) (hs : M 44 2 = 0 ∧ nI (a ^^^ t) = M 2 2) : Ex (d + 3) k_X7_fireThought [.ref 44, .ref 2, .int (nI v)] (SH, M, ML) (none, (SH, up2 (up2 (up2 (up2 (up2 M 44 0 (nI (a ^^^ t))) 45 c (nI v)) 46 v (nI (o + 1))) 44 1 (nI (c + 1))) 44 2 (nI (c + 1)), ML)) := by
  refine Ex_in mi_X7_fireThought rfl rfl ⟨Nat.le_refl _, Nat.le_refl _⟩ ?_
  show RR _ cd_X7_fireThought false _ (0, [(0, .ref 44), (1, .ref 2), (2, .int (nI v))], [], (SH, M, ML))
  have e2 : (up2 (up2 (up2 (up2 M 44 0 (nI (a ^^^ t))) 45 c (nI v)) 46 v (nI (o + 1))) 44 1 (nI (c + 1))) 44 2 = M 44 2 := by rw [up2_at, if_neg (by decide), up2_ne (by decide), up2_ne (by decide), up2_at, if_neg (by decide)]
  have e0 : (up2 (up2 (up2 (up2 M 44 0 (nI (a ^^^ t))) 45 c (nI v)) 46 v (nI (o + 1))) 44 1 (nI (c + 1))) 44 0 = nI (a ^^^ t) := by rw [up2_at, if_neg (by decide), up2_ne (by decide), up2_ne (by decide), up2_at, if_pos ⟨rfl, rfl⟩]
  have en : (up2 (up2 (up2 (up2 M 44 0 (nI (a ^^^ t))) 45 c (nI v)) 46 v (nI (o + 1))) 44 1 (nI (c + 1))) 2 2 = M 2 2 := by rw [up2_ne (by decide), up2_ne (by decide), up2_ne (by decide), up2_ne (by decide)]
  refine r_ld rfl rfl ?_
  refine r_ld rfl rfl ?_
  refine r_ld rfl rfl ?_
  refine q_geti rfl rfl rfl rfl rfl ?_
  refine r_ld rfl rfl ?_
  refine q_call (as := [_, _, _]) (rest := [_]) rfl rfl rfl rfl rfl rfl rfl rfl (ok_X4_turned _ _ _ _ hv) ?_
  rw [ha, hT, xorN]
  refine q_put rfl rfl rfl rfl rfl (Or.inl rfl) ?_
  refine r_ld rfl rfl ?_
  refine q_getr rfl rfl rfl rfl rfl ?_
  refine r_ld rfl rfl ?_
  refine q_geti rfl rfl rfl rfl rfl ?_
  refine r_ld rfl rfl ?_
  refine q_callv (as := [_, _, _]) (rest := []) rfl rfl rfl rfl rfl rfl rfl rfl (ok_lay_n _ _ _ _ _ rfl rfl rfl (by rw [up2_at, if_neg (by decide)]; exact hc) (by omega)) ?_
  refine r_ld rfl rfl ?_
  refine q_getr rfl rfl rfl rfl rfl ?_
  refine r_ld rfl rfl ?_
  refine r_ld rfl rfl ?_
  refine q_getr rfl rfl rfl rfl rfl ?_
  refine r_ld rfl rfl ?_
  refine q_call (as := [_, _]) (rest := [_, _]) rfl rfl rfl rfl rfl rfl rfl rfl (ok_at_n _ _ _ _ rfl rfl rfl rfl (by omega)) ?_
  refine r_cst (v := .int 1) rfl rfl ?_
  refine r_bin rfl rfl ?_
  rw [show (up2 (up2 M 44 0 (nI (a ^^^ t))) 45 c (nI v)) 46 v + 1 = nI (o + 1) from by rw [up2_ne (by decide), up2_ne (by decide), hO]; exact nI_1 _]
  refine q_callv (as := [_, _, _]) (rest := []) rfl rfl rfl rfl rfl rfl rfl rfl (ok_lay_n _ _ _ _ _ rfl rfl rfl rfl (by omega)) ?_
  refine r_ld rfl rfl ?_
  refine r_stk rfl rfl ?_
  refine q_geti rfl rfl rfl rfl rfl ?_
  refine r_cst (v := .int 1) rfl rfl ?_
  refine r_bin rfl rfl ?_
  rw [show (up2 (up2 (up2 M 44 0 (nI (a ^^^ t))) 45 c (nI v)) 46 v (nI (o + 1))) 44 1 + 1 = nI (c + 1) from by rw [up2_ne (by decide), up2_ne (by decide), up2_at, if_neg (by decide), hc]; exact nI_1 _]
  refine q_put rfl rfl rfl rfl rfl (Or.inl rfl) ?_
  refine r_ld rfl rfl ?_
  refine q_geti rfl rfl rfl rfl rfl ?_
  refine q_cjF rfl rfl (fun q => q (by rw [e2]; exact hs.1)) ?_
  refine r_ld rfl rfl ?_
  refine q_geti rfl rfl rfl rfl rfl ?_
  refine r_ld rfl rfl ?_
  refine q_geti rfl rfl rfl rfl rfl ?_
  refine q_cjF rfl rfl (fun q => q (by rw [e0, en]; exact hs.2)) ?_
  refine r_ld rfl rfl ?_
  refine r_ld rfl rfl ?_
  refine q_geti rfl rfl rfl rfl rfl ?_
  rw [show (up2 (up2 (up2 (up2 M 44 0 (nI (a ^^^ t))) 45 c (nI v)) 46 v (nI (o + 1))) 44 1 (nI (c + 1))) 44 1 = nI (c + 1) from by rw [up2_at, if_pos ⟨rfl, rfl⟩]]
  refine q_put rfl rfl rfl rfl rfl (Or.inl rfl) ?_
  refine r_ret rfl rfl (trivial) ?_
  exact rfl

