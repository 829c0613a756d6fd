/-! ===== the reference: net queries, log calls ===== -/
set_option maxHeartbeats 1000000 in
set_option maxRecDepth 10000 in
theorem ok_X12_logIsEmpty (d : Nat) (M : Nat → Nat → Int32) (ML : Nat → Nat → Int64) : Ex (d + 1) k_X12_logIsEmpty [.ref 73] (SH, M, ML) (none, (SH, up2 M 73 5 0, ML)) := by
  refine Ex_in mi_X12_logIsEmpty rfl rfl ⟨Nat.le_refl _, Nat.le_refl _⟩ ?_
  show RR _ cd_X12_logIsEmpty false _ (0, [(0, .ref 73)], [], (SH, M, ML))
  refine r_ld rfl rfl ?_
  refine r_cst (v := .int 0) rfl rfl ?_
  refine q_put rfl rfl rfl rfl rfl (Or.inl rfl) ?_
  refine r_ret rfl rfl (trivial) ?_
  exact rfl

set_option maxHeartbeats 1000000 in
set_option maxRecDepth 10000 in
theorem ok_X12_arrows (d : Nat) (M : Nat → Nat → Int32) (ML : Nat → Nat → Int64) {N E A : Nat} {l h : Nat → Nat} (hS : NM M N E A l h) (hW : WN N E A l h) : Ex (d + 1) k_X12_arrows [.ref 73] (SH, M, ML) (some (.int (nI A)), (SH, M, ML)) := by
  refine Ex_in mi_X12_arrows rfl rfl ⟨Nat.le_refl _, Nat.le_refl _⟩ ?_
  show RR _ cd_X12_arrows false _ (0, [(0, .ref 73)], [], (SH, M, ML))
  refine r_ld rfl rfl ?_
  refine q_geti rfl rfl rfl rfl rfl ?_
  refine r_ret rfl rfl (trivial) ?_
  rw [hS.2.2.1]

set_option maxHeartbeats 1000000 in
set_option maxRecDepth 10000 in
theorem ok_X12_set (d : Nat) (M : Nat → Nat → Int32) (ML : Nat → Nat → Int64) (x : Int32) {N E A : Nat} {l h : Nat → Nat} (hS : NM M N E A l h) (hW : WN N E A l h) : Ex (d + 3) k_X12_set [.ref 73, .int x] (SH, M, ML) (some (.int (bif inR x (2 ^ E) then nI A else -1)), (SH, bif inR x (2 ^ E) then up2 (up2 M 73 4 x) 73 5 0 else M, ML)) := by
  refine Ex_in mi_X12_set rfl rfl ⟨Nat.le_refl _, Nat.le_refl _⟩ ?_
  show RR _ cd_X12_set false _ (0, [(0, .ref 73), (1, .int x)], [], (SH, M, ML))
  refine r_ld rfl rfl ?_
  refine r_ld rfl rfl ?_
  refine q_cifn (as := [_, _]) (rest := []) rfl rfl rfl rfl rfl rfl rfl rfl (ok_X12_isArrowing _ _ _ _ hS.2.1 hW.2.2.1) rfl (fun h_2 => ?_) (fun h_2 => ?_)
  · refine r_ld rfl rfl ?_
    refine q_geti rfl rfl rfl rfl rfl ?_
    refine r_sto (L' := [(0, _), (1, _), (2, _)]) rfl rfl ?_
    refine r_ld rfl rfl ?_
    refine r_ld rfl rfl ?_
    refine q_put rfl rfl rfl rfl rfl (Or.inl rfl) ?_
    refine r_ld rfl rfl ?_
    refine q_callv (as := [_]) (rest := []) rfl rfl rfl rfl rfl rfl rfl rfl (ok_X12_logIsEmpty ..) ?_
    refine r_ld rfl rfl ?_
    refine r_ret rfl rfl (trivial) ?_
    rw [h_2]
    first | rfl | (rw [hS.2.2.1]; rfl)
  · refine r_cst (v := .int (-1)) rfl rfl ?_
    refine r_ret rfl rfl (trivial) ?_
    rw [h_2]
    first | rfl | (rw [hS.2.2.1]; rfl)

set_option maxHeartbeats 1000000 in
set_option maxRecDepth 10000 in
theorem ok_X12_ends (d : Nat) (M : Nat → Nat → Int32) (ML : Nat → Nat → Int64) (x y : Int32) {N E A : Nat} {l h : Nat → Nat} (hS : NM M N E A l h) (hW : WN N E A l h) : Ex (d + 5) k_X12_ends [.ref 73, .int x, .int y] (SH, M, ML) (some (.int (bif inR x (2 ^ E) && wh y 1 then nI (endsM E l h x (decide (y = 0))) else -1)), (SH, M, ML)) := by
  refine Ex_in mi_X12_ends rfl rfl ⟨Nat.le_refl _, Nat.le_refl _⟩ ?_
  show RR _ cd_X12_ends false _ (0, [(0, .ref 73), (1, .int x), (2, .int y)], [], (SH, M, ML))
  refine r_ld rfl rfl ?_
  refine r_ld rfl rfl ?_
  refine q_cife (as := [_, _]) (rest := []) rfl rfl rfl rfl rfl rfl rfl rfl (ok_X12_isArrowing _ _ _ _ hS.2.1 hW.2.2.1) rfl (fun h_2 => ?_) (fun h_2 => ?_)
  · refine r_cst (v := .int (-1)) rfl rfl ?_
    refine r_ret rfl rfl (trivial) ?_
    first
      | (rw [h_2]; rfl)
      | (rw [h_2, show wh y 1 = false from h_11]; rfl)
      | (rw [h_2, show wh y 1 = true from h_11, decide_eq_false h_20]; rfl)
      | (rw [h_2, show wh y 1 = true from h_11, decide_eq_true (Classical.not_not.mp h_20)]; rfl)
  · refine r_ld rfl rfl ?_
    refine r_cst (v := .int 0) rfl rfl ?_
    refine r_cst (v := .int 1) rfl rfl ?_
    refine q_cife (as := [_, _, _]) (rest := []) rfl rfl rfl rfl rfl rfl rfl rfl (ok_X12_in ..) rfl (fun h_11 => ?_) (fun h_11 => ?_)
    · refine r_cst (v := .int (-1)) rfl rfl ?_
      refine r_ret rfl rfl (trivial) ?_
      first
        | (rw [h_2]; rfl)
        | (rw [h_2, show wh y 1 = false from h_11]; rfl)
        | (rw [h_2, show wh y 1 = true from h_11, decide_eq_false h_20]; rfl)
        | (rw [h_2, show wh y 1 = true from h_11, decide_eq_true (Classical.not_not.mp h_20)]; rfl)
    · refine r_ld rfl rfl ?_
      refine r_ld rfl rfl ?_
      refine r_ld rfl rfl ?_
      refine r_cj rfl rfl (fun h_20 => ?_) (fun h_20 => ?_)
      · refine r_cst (v := .int 0) rfl rfl ?_
        refine q_call (as := [_, _, _]) (rest := []) rfl rfl rfl rfl rfl rfl rfl rfl (ok_X12_endsOf (s := false) _ _ _ hS hW) ?_
        refine r_go rfl ?_
        refine r_ret rfl rfl (trivial) ?_
        first
          | (rw [h_2]; rfl)
          | (rw [h_2, show wh y 1 = false from h_11]; rfl)
          | (rw [h_2, show wh y 1 = true from h_11, decide_eq_false h_20]; rfl)
          | (rw [h_2, show wh y 1 = true from h_11, decide_eq_true (Classical.not_not.mp h_20)]; rfl)
      · refine r_cst (v := .int 1) rfl rfl ?_
        refine r_go rfl ?_
        refine q_call (as := [_, _, _]) (rest := []) rfl rfl rfl rfl rfl rfl rfl rfl (ok_X12_endsOf (s := true) _ _ _ hS hW) ?_
        refine r_go rfl ?_
        refine r_ret rfl rfl (trivial) ?_
        first
          | (rw [h_2]; rfl)
          | (rw [h_2, show wh y 1 = false from h_11]; rfl)
          | (rw [h_2, show wh y 1 = true from h_11, decide_eq_false h_20]; rfl)
          | (rw [h_2, show wh y 1 = true from h_11, decide_eq_true (Classical.not_not.mp h_20)]; rfl)

set_option maxHeartbeats 1000000 in
set_option maxRecDepth 10000 in
theorem ok_X12_free (d : Nat) (M : Nat → Nat → Int32) (ML : Nat → Nat → Int64) (x : Int32) {N E A : Nat} {l h : Nat → Nat} (hS : NM M N E A l h) (hW : WN N E A l h) : Ex (d + 4) k_X12_free [.ref 73, .int x] (SH, M, ML) (some (.int (bif inR x (2 ^ E) then b2i (freeB E l h x) else -1)), (SH, M, ML)) := by
  refine Ex_in mi_X12_free rfl rfl ⟨Nat.le_refl _, Nat.le_refl _⟩ ?_
  show RR _ cd_X12_free false _ (0, [(0, .ref 73), (1, .int x)], [], (SH, M, ML))
  refine r_ld rfl rfl ?_
  refine r_ld rfl rfl ?_
  refine q_cifn (as := [_, _]) (rest := []) rfl rfl rfl rfl rfl rfl rfl rfl (ok_X12_isArrowing _ _ _ _ hS.2.1 hW.2.2.1) rfl (fun h_2 => ?_) (fun h_2 => ?_)
  · refine r_ld rfl rfl ?_
    refine r_ld rfl rfl ?_
    refine q_cife (as := [_, _]) (rest := []) rfl rfl rfl rfl rfl rfl rfl rfl (ok_X12_isFree _ _ _ hS hW) rfl (fun h_14 => ?_) (fun h_14 => ?_)
    · refine r_cst (v := .int 0) rfl rfl ?_
      refine r_ret rfl rfl (trivial) ?_
      first | (rw [h_2]; rfl) | (rw [h_2, h_14]; rfl)
    · refine r_cst (v := .int 1) rfl rfl ?_
      refine r_go rfl ?_
      refine r_ret rfl rfl (trivial) ?_
      first | (rw [h_2]; rfl) | (rw [h_2, h_14]; rfl)
  · refine r_cst (v := .int (-1)) rfl rfl ?_
    refine r_go rfl ?_
    refine r_ret rfl rfl (trivial) ?_
    first | (rw [h_2]; rfl) | (rw [h_2, h_14]; rfl)

set_option maxHeartbeats 1000000 in
set_option maxRecDepth 10000 in
theorem ok_X12_turns_fire_y (d : Nat) (M : Nat → Nat → Int32) (ML : Nat → Nat → Int64) {v : Nat} {N E A : Nat} {l h : Nat → Nat} (hS : NM M N E A l h) (hW : WN N E A l h) {L : List (Nat × Bool)} (hL : LG (M 73 5) (M 76) (M 77) L) (hv : v < N) (hy : (endsM E l h (nI A) true).testBit v = true) : ∃ M', Ex (d + 4) k_X12_turns [.ref 73, .int (nI v), .int (b2i true)] (SH, M, ML) (some (.int (nI (A ^^^ tmk E l h v))), (SH, M', ML)) ∧ LG (M' 73 5) (M' 76) (M' 77) (addL L (v, false)) ∧ Fm [76, 77] [5] (up2 M 73 4 (nI (A ^^^ tmk E l h v))) M' := by
  have hv7 : v < 7 := by have := hW.2.1; omega
  have hbv : endB E l h (nI A) v true = true := by
    unfold endsM at hy
    rw [msk_bit] at hy
    simp at hy
    exact hy.2
  obtain ⟨M2, h9, hl9, hf9⟩ := ok_X12_logs (v := v) (b := false) (d + 1) (up2 M 73 4 (nI (A ^^^ tmk E l h v))) ML (L := L) (by rw [up2_at, if_neg (by decide), up2_ne (by decide), up2_ne (by decide)]; exact hL) hv7
  refine ⟨M2, ?_, hl9, hf9⟩
  refine Ex_in mi_X12_turns rfl rfl ⟨Nat.le_refl _, Nat.le_refl _⟩ ?_
  show RR _ cd_X12_turns false _ (0, [(0, .ref 73), (1, .int (nI v)), (2, .int (b2i true))], [], (SH, M, ML))
  refine r_ld rfl rfl ?_
  refine r_ld rfl rfl ?_
  refine q_cifn (as := [_, _]) (rest := []) rfl rfl rfl rfl rfl rfl rfl rfl (ok_X12_isNode _ _ _ _ hS.1 (by have := hW.2.1; omega)) rfl (fun h_2 => ?_) (fun h_2 => ?_)
  · refine r_ld rfl rfl ?_
    refine r_ld rfl rfl ?_
    refine q_geti rfl rfl rfl rfl rfl ?_
    refine r_ld rfl rfl ?_
    refine r_ld rfl rfl ?_
    refine q_cifn (as := [_, _, _, _]) (rest := []) rfl rfl rfl rfl rfl rfl rfl rfl (ok_X12_isEnd _ _ _ hv7 hS hW) rfl (fun h_17 => ?_) (fun h_17 => ?_)
    · refine r_ld rfl rfl ?_
      refine r_stk rfl rfl ?_
      refine q_geti rfl rfl rfl rfl rfl ?_
      refine r_ld rfl rfl ?_
      refine r_ld rfl rfl ?_
      refine q_call (as := [_, _]) (rest := [_, _]) rfl rfl rfl rfl rfl rfl rfl rfl (ok_X12_edgesOf _ _ _ hv7 hS hW) ?_
      refine r_bin rfl rfl ?_
      rw [hS.2.2.1, xorN]
      refine q_put rfl rfl rfl rfl rfl (Or.inl rfl) ?_
      refine r_ld rfl rfl ?_
      refine r_ld rfl rfl ?_
      refine r_ld rfl rfl ?_
      refine q_cjF rfl rfl (by decide) ?_
      refine r_cst (v := .int 0) rfl rfl ?_
      refine r_go rfl ?_
      refine q_callv (as := [_, _, _]) (rest := []) rfl rfl rfl rfl rfl rfl rfl rfl h9 ?_
      refine r_ld rfl rfl ?_
      refine q_geti rfl rfl rfl rfl rfl ?_
      refine r_ret rfl rfl (trivial) ?_
      rw [hf9.2 4 (by decide), up2_at, if_pos ⟨rfl, rfl⟩]
    · refine r_cst (v := .int (-5)) rfl rfl ?_
      refine r_ret rfl rfl (trivial) ?_
      rw [hS.2.2.1, hbv] at h_17
      cases h_17
  · refine r_cst (v := .int (-1)) rfl rfl ?_
    refine r_ret rfl rfl (trivial) ?_
    rw [inR_nI (by have := hW.2.1; omega) hv] at h_2
    cases h_2

set_option maxHeartbeats 1000000 in
set_option maxRecDepth 10000 in
theorem ok_X12_turns_fire_n (d : Nat) (M : Nat → Nat → Int32) (ML : Nat → Nat → Int64) {x : Int32} {N E A : Nat} {l h : Nat → Nat} (hS : NM M N E A l h) (hW : WN N E A l h) (hx : inR x N = true → ∃ v, v < N ∧ x = nI v ∧ (endsM E l h (nI A) true).testBit v = false) : Ex (d + 4) k_X12_turns [.ref 73, .int x, .int (b2i true)] (SH, M, ML) (some (.int (bif inR x N then -5 else -1)), (SH, M, ML)) := by
  refine Ex_in mi_X12_turns rfl rfl ⟨Nat.le_refl _, Nat.le_refl _⟩ ?_
  show RR _ cd_X12_turns false _ (0, [(0, .ref 73), (1, .int x), (2, .int (b2i true))], [], (SH, M, ML))
  refine r_ld rfl rfl ?_
  refine r_ld rfl rfl ?_
  refine q_cifn (as := [_, _]) (rest := []) rfl rfl rfl rfl rfl rfl rfl rfl (ok_X12_isNode _ _ _ _ hS.1 (by have := hW.2.1; omega)) rfl (fun h_2 => ?_) (fun h_2 => ?_)
  · obtain ⟨v, hv, hxv, hb⟩ := hx h_2
    refine r_ld rfl rfl ?_
    refine r_ld rfl rfl ?_
    refine q_geti rfl rfl rfl rfl rfl ?_
    refine r_ld rfl rfl ?_
    refine r_ld rfl rfl ?_
    subst hxv
    have hv7 : v < 7 := by have := hW.2.1; omega
    have hbv : endB E l h (nI A) v true = false := by
      unfold endsM at hb
      rw [msk_bit] at hb
      simpa [hv7] using hb
    refine q_cifn (as := [_, _, _, _]) (rest := []) rfl rfl rfl rfl rfl rfl rfl rfl (ok_X12_isEnd _ _ _ hv7 hS hW) rfl (fun h_17 => ?_) (fun h_17 => ?_)
    · rw [hS.2.2.1, hbv] at h_17
      cases h_17
    · refine r_cst (v := .int (-5)) rfl rfl ?_
      refine r_ret rfl rfl (trivial) ?_
      rw [h_2]
      exact rfl
  · refine r_cst (v := .int (-1)) rfl rfl ?_
    refine r_ret rfl rfl (trivial) ?_
    rw [h_2]
    exact rfl

set_option maxHeartbeats 1000000 in
set_option maxRecDepth 10000 in
theorem ok_X12_fire_y (d : Nat) (M : Nat → Nat → Int32) (ML : Nat → Nat → Int64) {v : Nat} {N E A : Nat} {l h : Nat → Nat} (hS : NM M N E A l h) (hW : WN N E A l h) {L : List (Nat × Bool)} (hL : LG (M 73 5) (M 76) (M 77) L) (hv : v < N) (hy : (endsM E l h (nI A) true).testBit v = true) : ∃ M', Ex (d + 5) k_X12_fire [.ref 73, .int (nI v)] (SH, M, ML) (some (.int (nI (A ^^^ tmk E l h v))), (SH, M', ML)) ∧ LG (M' 73 5) (M' 76) (M' 77) (addL L (v, false)) ∧ Fm [76, 77] [5] (up2 M 73 4 (nI (A ^^^ tmk E l h v))) M' := by
  obtain ⟨M2, h9, hl9, hf9⟩ := ok_X12_turns_fire_y d M ML hS hW hL hv hy
  refine ⟨M2, ?_, hl9, hf9⟩
  refine Ex_in mi_X12_fire rfl rfl ⟨Nat.le_refl _, Nat.le_refl _⟩ ?_
  show RR _ cd_X12_fire false _ (0, [(0, .ref 73), (1, .int (nI v))], [], (SH, M, ML))
  refine r_ld rfl rfl ?_
  refine r_ld rfl rfl ?_
  refine r_cst (v := .int 1) rfl rfl ?_
  refine q_call (as := [_, _, _]) (rest := []) rfl rfl rfl rfl rfl rfl rfl rfl h9 ?_
  refine r_ret rfl rfl (trivial) ?_
  exact rfl

set_option maxHeartbeats 1000000 in
set_option maxRecDepth 10000 in
theorem ok_X12_fire_n (d : Nat) (M : Nat → Nat → Int32) (ML : Nat → Nat → Int64) {x : Int32} {N E A : Nat} {l h : Nat → Nat} (hS : NM M N E A l h) (hW : WN N E A l h) (hx : inR x N = true → ∃ v, v < N ∧ x = nI v ∧ (endsM E l h (nI A) true).testBit v = false) : Ex (d + 5) k_X12_fire [.ref 73, .int x] (SH, M, ML) (some (.int (bif inR x N then -5 else -1)), (SH, M, ML)) := by
  refine Ex_in mi_X12_fire rfl rfl ⟨Nat.le_refl _, Nat.le_refl _⟩ ?_
  show RR _ cd_X12_fire false _ (0, [(0, .ref 73), (1, .int x)], [], (SH, M, ML))
  refine r_ld rfl rfl ?_
  refine r_ld rfl rfl ?_
  refine r_cst (v := .int 1) rfl rfl ?_
  refine q_call (as := [_, _, _]) (rest := []) rfl rfl rfl rfl rfl rfl rfl rfl (ok_X12_turns_fire_n _ _ _ hS hW hx) ?_
  refine r_ret rfl rfl (trivial) ?_
  exact rfl

set_option maxHeartbeats 1000000 in
set_option maxRecDepth 10000 in
theorem ok_X12_turns_drown_y (d : Nat) (M : Nat → Nat → Int32) (ML : Nat → Nat → Int64) {v : Nat} {N E A : Nat} {l h : Nat → Nat} (hS : NM M N E A l h) (hW : WN N E A l h) {L : List (Nat × Bool)} (hL : LG (M 73 5) (M 76) (M 77) L) (hv : v < N) (hy : (endsM E l h (nI A) false).testBit v = true) : ∃ M', Ex (d + 4) k_X12_turns [.ref 73, .int (nI v), .int (b2i false)] (SH, M, ML) (some (.int (nI (A ^^^ tmk E l h v))), (SH, M', ML)) ∧ LG (M' 73 5) (M' 76) (M' 77) (addL L (v, true)) ∧ Fm [76, 77] [5] (up2 M 73 4 (nI (A ^^^ tmk E l h v))) M' := by
  have hv7 : v < 7 := by have := hW.2.1; omega
  have hbv : endB E l h (nI A) v false = true := by
    unfold endsM at hy
    rw [msk_bit] at hy
    simp at hy
    exact hy.2
  obtain ⟨M2, h9, hl9, hf9⟩ := ok_X12_logs (v := v) (b := true) (d + 1) (up2 M 73 4 (nI (A ^^^ tmk E l h v))) ML (L := L) (by rw [up2_at, if_neg (by decide), up2_ne (by decide), up2_ne (by decide)]; exact hL) hv7
  refine ⟨M2, ?_, hl9, hf9⟩
  refine Ex_in mi_X12_turns rfl rfl ⟨Nat.le_refl _, Nat.le_refl _⟩ ?_
  show RR _ cd_X12_turns false _ (0, [(0, .ref 73), (1, .int (nI v)), (2, .int (b2i false))], [], (SH, M, ML))
  refine r_ld rfl rfl ?_
  refine r_ld rfl rfl ?_
  refine q_cifn (as := [_, _]) (rest := []) rfl rfl rfl rfl rfl rfl rfl rfl (ok_X12_isNode _ _ _ _ hS.1 (by have := hW.2.1; omega)) rfl (fun h_2 => ?_) (fun h_2 => ?_)
  · refine r_ld rfl rfl ?_
    refine r_ld rfl rfl ?_
    refine q_geti rfl rfl rfl rfl rfl ?_
    refine r_ld rfl rfl ?_
    refine r_ld rfl rfl ?_
    refine q_cifn (as := [_, _, _, _]) (rest := []) rfl rfl rfl rfl rfl rfl rfl rfl (ok_X12_isEnd _ _ _ hv7 hS hW) rfl (fun h_17 => ?_) (fun h_17 => ?_)
    · refine r_ld rfl rfl ?_
      refine r_stk rfl rfl ?_
      refine q_geti rfl rfl rfl rfl rfl ?_
      refine r_ld rfl rfl ?_
      refine r_ld rfl rfl ?_
      refine q_call (as := [_, _]) (rest := [_, _]) rfl rfl rfl rfl rfl rfl rfl rfl (ok_X12_edgesOf _ _ _ hv7 hS hW) ?_
      refine r_bin rfl rfl ?_
      rw [hS.2.2.1, xorN]
      refine q_put rfl rfl rfl rfl rfl (Or.inl rfl) ?_
      refine r_ld rfl rfl ?_
      refine r_ld rfl rfl ?_
      refine r_ld rfl rfl ?_
      refine q_cjT rfl rfl (by decide) ?_
      refine r_cst (v := .int 1) rfl rfl ?_
      refine q_callv (as := [_, _, _]) (rest := []) rfl rfl rfl rfl rfl rfl rfl rfl h9 ?_
      refine r_ld rfl rfl ?_
      refine q_geti rfl rfl rfl rfl rfl ?_
      refine r_ret rfl rfl (trivial) ?_
      rw [hf9.2 4 (by decide), up2_at, if_pos ⟨rfl, rfl⟩]
    · refine r_cst (v := .int (-5)) rfl rfl ?_
      refine r_ret rfl rfl (trivial) ?_
      rw [hS.2.2.1, hbv] at h_17
      cases h_17
  · refine r_cst (v := .int (-1)) rfl rfl ?_
    refine r_ret rfl rfl (trivial) ?_
    rw [inR_nI (by have := hW.2.1; omega) hv] at h_2
    cases h_2

set_option maxHeartbeats 1000000 in
set_option maxRecDepth 10000 in
theorem ok_X12_turns_drown_n (d : Nat) (M : Nat → Nat → Int32) (ML : Nat → Nat → Int64) {x : Int32} {N E A : Nat} {l h : Nat → Nat} (hS : NM M N E A l h) (hW : WN N E A l h) (hx : inR x N = true → ∃ v, v < N ∧ x = nI v ∧ (endsM E l h (nI A) false).testBit v = false) : Ex (d + 4) k_X12_turns [.ref 73, .int x, .int (b2i false)] (SH, M, ML) (some (.int (bif inR x N then -5 else -1)), (SH, M, ML)) := by
  refine Ex_in mi_X12_turns rfl rfl ⟨Nat.le_refl _, Nat.le_refl _⟩ ?_
  show RR _ cd_X12_turns false _ (0, [(0, .ref 73), (1, .int x), (2, .int (b2i false))], [], (SH, M, ML))
  refine r_ld rfl rfl ?_
  refine r_ld rfl rfl ?_
  refine q_cifn (as := [_, _]) (rest := []) rfl rfl rfl rfl rfl rfl rfl rfl (ok_X12_isNode _ _ _ _ hS.1 (by have := hW.2.1; omega)) rfl (fun h_2 => ?_) (fun h_2 => ?_)
  · obtain ⟨v, hv, hxv, hb⟩ := hx h_2
    refine r_ld rfl rfl ?_
    refine r_ld rfl rfl ?_
    refine q_geti rfl rfl rfl rfl rfl ?_
    refine r_ld rfl rfl ?_
    refine r_ld rfl rfl ?_
    subst hxv
    have hv7 : v < 7 := by have := hW.2.1; omega
    have hbv : endB E l h (nI A) v false = false := by
      unfold endsM at hb
      rw [msk_bit] at hb
      simpa [hv7] using hb
    refine q_cifn (as := [_, _, _, _]) (rest := []) rfl rfl rfl rfl rfl rfl rfl rfl (ok_X12_isEnd _ _ _ hv7 hS hW) rfl (fun h_17 => ?_) (fun h_17 => ?_)
    · rw [hS.2.2.1, hbv] at h_17
      cases h_17
    · refine r_cst (v := .int (-5)) rfl rfl ?_
      refine r_ret rfl rfl (trivial) ?_
      rw [h_2]
      exact rfl
  · refine r_cst (v := .int (-1)) rfl rfl ?_
    refine r_ret rfl rfl (trivial) ?_
    rw [h_2]
    exact rfl

set_option maxHeartbeats 1000000 in
set_option maxRecDepth 10000 in
theorem ok_X12_drown_y (d : Nat) (M : Nat → Nat → Int32) (ML : Nat → Nat → Int64) {v : Nat} {N E A : Nat} {l h : Nat → Nat} (hS : NM M N E A l h) (hW : WN N E A l h) {L : List (Nat × Bool)} (hL : LG (M 73 5) (M 76) (M 77) L) (hv : v < N) (hy : (endsM E l h (nI A) false).testBit v = true) : ∃ M', Ex (d + 5) k_X12_drown [.ref 73, .int (nI v)] (SH, M, ML) (some (.int (nI (A ^^^ tmk E l h v))), (SH, M', ML)) ∧ LG (M' 73 5) (M' 76) (M' 77) (addL L (v, true)) ∧ Fm [76, 77] [5] (up2 M 73 4 (nI (A ^^^ tmk E l h v))) M' := by
  obtain ⟨M2, h9, hl9, hf9⟩ := ok_X12_turns_drown_y d M ML hS hW hL hv hy
  refine ⟨M2, ?_, hl9, hf9⟩
  refine Ex_in mi_X12_drown rfl rfl ⟨Nat.le_refl _, Nat.le_refl _⟩ ?_
  show RR _ cd_X12_drown false _ (0, [(0, .ref 73), (1, .int (nI v))], [], (SH, M, ML))
  refine r_ld rfl rfl ?_
  refine r_ld rfl rfl ?_
  refine r_cst (v := .int 0) rfl rfl ?_
  refine q_call (as := [_, _, _]) (rest := []) rfl rfl rfl rfl rfl rfl rfl rfl h9 ?_
  refine r_ret rfl rfl (trivial) ?_
  exact rfl

set_option maxHeartbeats 1000000 in
set_option maxRecDepth 10000 in
theorem ok_X12_drown_n (d : Nat) (M : Nat → Nat → Int32) (ML : Nat → Nat → Int64) {x : Int32} {N E A : Nat} {l h : Nat → Nat} (hS : NM M N E A l h) (hW : WN N E A l h) (hx : inR x N = true → ∃ v, v < N ∧ x = nI v ∧ (endsM E l h (nI A) false).testBit v = false) : Ex (d + 5) k_X12_drown [.ref 73, .int x] (SH, M, ML) (some (.int (bif inR x N then -5 else -1)), (SH, M, ML)) := by
  refine Ex_in mi_X12_drown rfl rfl ⟨Nat.le_refl _, Nat.le_refl _⟩ ?_
  show RR _ cd_X12_drown false _ (0, [(0, .ref 73), (1, .int x)], [], (SH, M, ML))
  refine r_ld rfl rfl ?_
  refine r_ld rfl rfl ?_
  refine r_cst (v := .int 0) rfl rfl ?_
  refine q_call (as := [_, _, _]) (rest := []) rfl rfl rfl rfl rfl rfl rfl rfl (ok_X12_turns_drown_n _ _ _ hS hW hx) ?_
  refine r_ret rfl rfl (trivial) ?_
  exact rfl

set_option maxHeartbeats 1000000 in
set_option maxRecDepth 10000 in
theorem ok_X12_back_y (d : Nat) (M : Nat → Nat → Int32) (ML : Nat → Nat → Int64) {N E A : Nat} {l h : Nat → Nat} (hS : NM M N E A l h) (hW : WN N E A l h) {L : List (Nat × Bool)} (hL : LG (M 73 5) (M 76) (M 77) L) {v : Nat} {b : Bool} (hl : L[L.length - 1]? = some (v, b)) : ∃ M', Ex (d + 3) k_X12_back [.ref 73] (SH, M, ML) (some (.int (nI (A ^^^ tmk E l h v))), (SH, M', ML)) ∧ LG (M' 73 5) (M' 76) (M' 77) (L.take (L.length - 1)) ∧ Fm [] [5] (up2 M 73 4 (nI (A ^^^ tmk E l h v))) M' := by
  have h24 := hL.2.1
  have hlt := (List.getElem?_eq_some_iff.mp hl).1
  have hv := (hL.2.2 _ _ _ hl).1
  have hS2 : NM (up2 M 73 5 (nI (L.length - 1))) N E A l h := ⟨by rw [up2_at, if_neg (by decide)]; exact hS.1, by rw [up2_at, if_neg (by decide)]; exact hS.2.1, by rw [up2_at, if_neg (by decide)]; exact hS.2.2.1, fun e he => by rw [up2_ne (by decide), up2_ne (by decide)]; exact hS.2.2.2 e he⟩
  refine ⟨up2 (up2 M 73 5 (nI (L.length - 1))) 73 4 (nI (A ^^^ tmk E l h v)), ?_, ?_, ?_⟩
  rotate_left 1
  · refine ⟨by simp [up2_at], by simp; omega, fun k v b hk => ?_⟩
    rw [up2_ne (by decide), up2_ne (by decide), up2_ne (by decide), up2_ne (by decide)]
    have hk2 : k < L.length - 1 := by
      have := (List.getElem?_eq_some_iff.mp hk).1
      simp at this
      omega
    rw [List.getElem?_take, if_pos hk2] at hk
    exact hL.2.2 k v b hk
  · refine ⟨fun x _ h9 => ?_, fun j hj => ?_⟩
    · rw [up2_ne h9, up2_ne h9, up2_ne h9]
    · simp only [List.mem_singleton] at hj
      rw [up2_at, up2_at, up2_at]
      by_cases h4 : j = 4
      · simp [h4]
      · simp [h4, hj]
  refine Ex_in mi_X12_back rfl rfl ⟨Nat.le_refl _, Nat.le_refl _⟩ ?_
  show RR _ cd_X12_back false _ (0, [(0, .ref 73)], [], (SH, M, ML))
  refine r_ld rfl rfl ?_
  refine q_geti rfl rfl rfl rfl rfl ?_
  refine q_cjT rfl rfl (by rw [hL.1]; exact fun q => by have := neq (b := 0) (by omega) (by decide) q; omega) ?_
  refine r_ld rfl rfl ?_
  refine r_stk rfl rfl ?_
  refine q_geti rfl rfl rfl rfl rfl ?_
  refine r_cst (v := .int 1) rfl rfl ?_
  refine r_bin rfl rfl ?_
  rw [hL.1, show (1 : Int32) = nI 1 from rfl, pk_sub (by omega)]
  refine q_put rfl rfl rfl rfl rfl (Or.inl rfl) ?_
  refine r_ld rfl rfl ?_
  refine r_stk rfl rfl ?_
  refine q_geti rfl rfl rfl rfl rfl ?_
  refine r_ld rfl rfl ?_
  refine r_ld rfl rfl ?_
  refine q_getr rfl rfl rfl rfl rfl ?_
  refine r_ld rfl rfl ?_
  refine q_geti rfl rfl rfl rfl rfl ?_
  refine q_ain rfl rfl rfl (show up2 M 73 5 (nI (L.length - 1)) 73 5 = nI (L.length - 1) by simp [up2_at]) (by omega) rfl ?_
  rw [show up2 M 73 5 (nI (L.length - 1)) 76 (L.length - 1) = nI v from by rw [up2_ne (by decide)]; exact (hL.2.2 _ _ _ hl).2.1]
  refine q_call (as := [_, _]) (rest := [_, _]) rfl rfl rfl rfl rfl rfl rfl rfl (ok_X12_edgesOf _ _ _ hv hS2 hW) ?_
  refine r_bin rfl rfl ?_
  rw [show up2 M 73 5 (nI (L.length - 1)) 73 4 = nI A from by rw [up2_at, if_neg (by decide)]; exact hS.2.2.1, xorN]
  refine q_put rfl rfl rfl rfl rfl (Or.inl rfl) ?_
  refine r_ld rfl rfl ?_
  refine q_geti rfl rfl rfl rfl rfl ?_
  refine r_ret rfl rfl (trivial) ?_
  rw [up2_at, if_pos ⟨rfl, rfl⟩]

set_option maxHeartbeats 1000000 in
set_option maxRecDepth 10000 in
theorem ok_X12_back_n (d : Nat) (M : Nat → Nat → Int32) (ML : Nat → Nat → Int64) (h0 : M 73 5 = 0) : Ex (d + 3) k_X12_back [.ref 73] (SH, M, ML) (some (.int (-5)), (SH, M, ML)) := by
  refine Ex_in mi_X12_back rfl rfl ⟨Nat.le_refl _, Nat.le_refl _⟩ ?_
  show RR _ cd_X12_back false _ (0, [(0, .ref 73)], [], (SH, M, ML))
  refine r_ld rfl rfl ?_
  refine q_geti rfl rfl rfl rfl rfl ?_
  refine q_cjF rfl rfl (fun q => q h0) ?_
  refine r_cst (v := .int (-5)) rfl rfl ?_
  refine r_ret rfl rfl (trivial) ?_
  exact rfl

set_option maxHeartbeats 1000000 in
set_option maxRecDepth 10000 in
theorem ok_X12_log (d : Nat) (M : Nat → Nat → Int32) (ML : Nat → Nat → Int64) (k y : Int32) {L : List (Nat × Bool)} (hL : LG (M 73 5) (M 76) (M 77) L) : Ex (d + 2) k_X12_log [.ref 73, .int k, .int y] (SH, M, ML) (some (.int (logR L k y)), (SH, M, ML)) := by
  refine Ex_in mi_X12_log rfl rfl ⟨Nat.le_refl _, Nat.le_refl _⟩ ?_
  show RR _ cd_X12_log false _ (0, [(0, .ref 73), (1, .int k), (2, .int y)], [], (SH, M, ML))
  refine r_ld rfl rfl ?_
  refine r_cst (v := .int 0) rfl rfl ?_
  refine r_cst (v := .int 1) rfl rfl ?_
  refine q_cife (as := [_, _, _]) (rest := []) rfl rfl rfl rfl rfl rfl rfl rfl (ok_X12_in ..) rfl (fun h_3 => ?_) (fun h_3 => ?_)
  · refine r_cst (v := .int (-1)) rfl rfl ?_
    refine r_ret rfl rfl (trivial) ?_
    first
      | (rw [logR, show wh y 1 = false from h_3]; rfl)
      | (rw [logR, decide_eq_false h_10, Bool.and_false]; rfl)
      | (rw [List.getElem?_eq_none (nnlt hj (by omega) (by rw [← hL.1]; exact h_20))]; rfl)
      | (simp [h3, h_29]; done)
      | (have h31 := Classical.not_not.mp h_29
         simp [h2, h31]; done)
  · refine r_ld rfl rfl ?_
    refine r_cj rfl rfl (fun h_10 => ?_) (fun h_10 => ?_)
    · obtain ⟨j, hj, rfl⟩ := nI_of (nlt0.mpr h_10)
      have h24 := hL.2.1
      rw [logR, show wh y 1 = true from h_3, decide_eq_true h_10, nI_clamp hj]
      refine r_ld rfl rfl ?_
      refine r_ld rfl rfl ?_
      refine q_geti rfl rfl rfl rfl rfl ?_
      refine r_cj rfl rfl (fun h_20 => ?_) (fun h_20 => ?_)
      · have hlt : j < L.length := nlt hj (by omega) (by rw [← hL.1]; exact h_20)
        have hjl : L[j]? = some (L[j].1, L[j].2) := List.getElem?_eq_getElem hlt
        obtain ⟨-, h2, h3⟩ := hL.2.2 j _ _ hjl
        rw [hjl]
        refine r_ld rfl rfl ?_
        refine r_cj rfl rfl (fun h_29 => ?_) (fun h_29 => ?_)
        · refine r_ld rfl rfl ?_
          refine q_getr rfl rfl rfl rfl rfl ?_
          refine r_ld rfl rfl ?_
          refine q_ain rfl rfl rfl (rfl) (by omega) rfl ?_
          refine r_ret rfl rfl (trivial) ?_
          first
            | (rw [logR, show wh y 1 = false from h_3]; rfl)
            | (rw [logR, decide_eq_false h_10, Bool.and_false]; rfl)
            | (rw [List.getElem?_eq_none (nnlt hj (by omega) (by rw [← hL.1]; exact h_20))]; rfl)
            | (simp [h3, h_29]; done)
            | (have h31 := Classical.not_not.mp h_29
               simp [h2, h31]; done)
        · refine r_ld rfl rfl ?_
          refine q_getr rfl rfl rfl rfl rfl ?_
          refine r_ld rfl rfl ?_
          refine q_ain rfl rfl rfl (rfl) (by omega) rfl ?_
          refine r_go rfl ?_
          refine r_ret rfl rfl (trivial) ?_
          first
            | (rw [logR, show wh y 1 = false from h_3]; rfl)
            | (rw [logR, decide_eq_false h_10, Bool.and_false]; rfl)
            | (rw [List.getElem?_eq_none (nnlt hj (by omega) (by rw [← hL.1]; exact h_20))]; rfl)
            | (simp [h3, h_29]; done)
            | (have h31 := Classical.not_not.mp h_29
               simp [h2, h31]; done)
      · refine r_cst (v := .int (-2)) rfl rfl ?_
        refine r_go rfl ?_
        refine r_ret rfl rfl (trivial) ?_
        first
          | (rw [logR, show wh y 1 = false from h_3]; rfl)
          | (rw [logR, decide_eq_false h_10, Bool.and_false]; rfl)
          | (rw [List.getElem?_eq_none (nnlt hj (by omega) (by rw [← hL.1]; exact h_20))]; rfl)
          | (simp [h3, h_29]; done)
          | (have h31 := Classical.not_not.mp h_29
             simp [h2, h31]; done)
    · refine r_cst (v := .int (-1)) rfl rfl ?_
      refine r_ret rfl rfl (trivial) ?_
      first
        | (rw [logR, show wh y 1 = false from h_3]; rfl)
        | (rw [logR, decide_eq_false h_10, Bool.and_false]; rfl)
        | (rw [List.getElem?_eq_none (nnlt hj (by omega) (by rw [← hL.1]; exact h_20))]; rfl)
        | (simp [h3, h_29]; done)
        | (have h31 := Classical.not_not.mp h_29
           simp [h2, h31]; done)

