/-! ===== class: net queries, log calls ===== -/
theorem endsM_b {E : Nat} {l h : Nat → Nat} {x : Int32} {b : Bool} : endsM E l h x b < 2 ^ 31 := Nat.lt_of_lt_of_le (msk_lt _ 7) (by decide)
set_option maxHeartbeats 1000000 in
set_option maxRecDepth 10000 in
theorem ok_X11_arrows (d : Nat) (M : Nat → Nat → Int32) (ML : Nat → Nat → Int64) {N E A : Nat} {l h : Nat → Nat} (hS : NS M 2 3 4 5 6 N E A l h) (hW : WN N E A l h) : Ex (d + 1) k_X11_arrows [.ref 1] (SH, M, ML) (some (.int (nI A)), (SH, M, ML)) := by
  refine Ex_in mi_X11_arrows rfl rfl ⟨Nat.le_refl _, Nat.le_refl _⟩ ?_
  show RR _ cd_X11_arrows false _ (0, [(0, .ref 1)], [], (SH, M, ML))
  refine r_ld rfl rfl ?_
  refine q_getr rfl rfl rfl rfl rfl ?_
  refine q_geti rfl rfl rfl rfl rfl ?_
  refine r_ret rfl rfl (trivial) ?_
  rw [hS.2.2.1]

set_option maxHeartbeats 1000000 in
set_option maxRecDepth 10000 in
theorem ok_X11_set (d : Nat) (M : Nat → Nat → Int32) (ML : Nat → Nat → Int64) (x : Int32) {N E A : Nat} {l h : Nat → Nat} (hS : NS M 2 3 4 5 6 N E A l h) (hW : WN N E A l h) : Ex (d + 2) k_X11_set [.ref 1, .int x] (SH, M, ML) (some (.int (bif inR x (2 ^ E) then nI A else -1)), (SH, bif inR x (2 ^ E) then up2 (up2 M 2 2 x) 12 0 0 else M, ML)) := by
  refine Ex_in mi_X11_set rfl rfl ⟨Nat.le_refl _, Nat.le_refl _⟩ ?_
  show RR _ cd_X11_set false _ (0, [(0, .ref 1), (1, .int x)], [], (SH, M, ML))
  refine r_ld rfl rfl ?_
  refine q_getr rfl rfl rfl rfl rfl ?_
  refine r_ld rfl rfl ?_
  refine q_cifn (as := [_, _]) (rest := []) rfl rfl rfl rfl rfl rfl rfl rfl (ok_X4_hasArrowing _ _ _ _ hS.2.1 hW.2.2.1) rfl (fun h_5 => ?_) (fun h_5 => ?_)
  · refine r_ld rfl rfl ?_
    refine q_getr rfl rfl rfl rfl rfl ?_
    refine q_geti rfl rfl rfl rfl rfl ?_
    refine r_sto (L' := [(0, _), (1, _), (2, _)]) rfl rfl ?_
    refine r_ld rfl rfl ?_
    refine q_getr rfl rfl rfl rfl rfl ?_
    refine r_ld rfl rfl ?_
    refine q_put rfl rfl rfl rfl rfl (Or.inl rfl) ?_
    refine r_ld rfl rfl ?_
    refine q_getr rfl rfl rfl rfl rfl ?_
    refine r_cst (v := .int 0) rfl rfl ?_
    refine q_put rfl rfl rfl rfl rfl (Or.inl rfl) ?_
    refine r_ld rfl rfl ?_
    refine r_ret rfl rfl (trivial) ?_
    rw [h_5]
    first | rfl | (rw [hS.2.2.1]; rfl)
  · refine r_cst (v := .int (-1)) rfl rfl ?_
    refine r_ret rfl rfl (trivial) ?_
    rw [h_5]
    first | rfl | (rw [hS.2.2.1]; rfl)

/-- a what of 0 .. n -/
def wh (x : Int32) (n : Nat) : Bool := decide (0 ≤ x ∧ x ≤ nI n)
theorem wh_ex {x : Int32} {n : Nat} (hn : n < 2 ^ 31) (h : wh x n = true) : ∃ k, k ≤ n ∧ x = nI k := by
  have h1 := of_decide_eq_true h
  obtain ⟨j, hj, rfl⟩ := nI_of (nlt0.mpr h1.1)
  exact ⟨j, nle hj hn h1.2, rfl⟩
theorem wh_no1 {x : Int32} {n : Nat} (h : x < 0) : wh x n = false := decide_eq_false (fun q => nlt0.mpr q.1 h)
theorem wh_no2 {x : Int32} {n : Nat} (h : nI n < x) : wh x n = false := decide_eq_false (fun q => nlt_le.mpr q.2 h)
theorem wh_yes {x : Int32} {n : Nat} (h : ¬ x < 0) (h2 : x ≤ nI n) : wh x n = true := decide_eq_true ⟨nlt0.mp h, h2⟩

set_option maxHeartbeats 1000000 in
set_option maxRecDepth 10000 in
theorem ok_X11_ends (d : Nat) (M : Nat → Nat → Int32) (ML : Nat → Nat → Int64) (x y : Int32) {N E A : Nat} {l h : Nat → Nat} (hS : NS M 2 3 4 5 6 N E A l h) (hW : WN N E A l h) : Ex (d + 3) k_X11_ends [.ref 1, .int x, .int y] (SH, M, ML) (some (.int (bif inR x (2 ^ E) && wh y 1 then nI (endsM E l h x (decide (y = 0))) else -1)), (SH, M, ML)) := by
  refine Ex_in mi_X11_ends rfl rfl ⟨Nat.le_refl _, Nat.le_refl _⟩ ?_
  show RR _ cd_X11_ends false _ (0, [(0, .ref 1), (1, .int x), (2, .int y)], [], (SH, M, ML))
  refine r_ld rfl rfl ?_
  refine q_getr rfl rfl rfl rfl rfl ?_
  refine r_ld rfl rfl ?_
  refine q_cife (as := [_, _]) (rest := []) rfl rfl rfl rfl rfl rfl rfl rfl (ok_X4_hasArrowing _ _ _ _ hS.2.1 hW.2.2.1) rfl (fun h_5 => ?_) (fun h_5 => ?_)
  · refine r_cst (v := .int (-1)) rfl rfl ?_
    refine r_ret rfl rfl (trivial) ?_
    first
      | (rw [h_5]; rfl)
      | (rw [wh_no1 h_12, Bool.and_false]; rfl)
      | (rw [wh_no2 (nle_lt.mp h_17), Bool.and_false]; rfl)
      | (rw [h_5, wh_yes h_12 h_17, decide_eq_false h_23]; rfl)
      | (rw [h_5, wh_yes h_12 h_17, decide_eq_true (Classical.not_not.mp h_23)]; rfl)
  · refine r_ld rfl rfl ?_
    refine r_cj rfl rfl (fun h_12 => ?_) (fun h_12 => ?_)
    · refine r_cst (v := .int (-1)) rfl rfl ?_
      refine r_ret rfl rfl (trivial) ?_
      first
        | (rw [h_5]; rfl)
        | (rw [wh_no1 h_12, Bool.and_false]; rfl)
        | (rw [wh_no2 (nle_lt.mp h_17), Bool.and_false]; rfl)
        | (rw [h_5, wh_yes h_12 h_17, decide_eq_false h_23]; rfl)
        | (rw [h_5, wh_yes h_12 h_17, decide_eq_true (Classical.not_not.mp h_23)]; rfl)
    · refine r_ld rfl rfl ?_
      refine r_cst (v := .int 1) rfl rfl ?_
      refine r_cj rfl rfl (fun h_17 => ?_) (fun h_17 => ?_)
      · refine r_ld rfl rfl ?_
        refine r_cj rfl rfl (fun h_23 => ?_) (fun h_23 => ?_)
        · refine r_ld rfl rfl ?_
          refine q_getr rfl rfl rfl rfl rfl ?_
          refine r_ld rfl rfl ?_
          refine q_call (as := [_, _]) (rest := []) rfl rfl rfl rfl rfl rfl rfl rfl (ok_X4_sinks _ _ _ _ hS hW) ?_
          refine r_ret rfl rfl (trivial) ?_
          first
            | (rw [h_5]; rfl)
            | (rw [wh_no1 h_12, Bool.and_false]; rfl)
            | (rw [wh_no2 (nle_lt.mp h_17), Bool.and_false]; rfl)
            | (rw [h_5, wh_yes h_12 h_17, decide_eq_false h_23]; rfl)
            | (rw [h_5, wh_yes h_12 h_17, decide_eq_true (Classical.not_not.mp h_23)]; rfl)
        · refine r_ld rfl rfl ?_
          refine q_getr rfl rfl rfl rfl rfl ?_
          refine r_ld rfl rfl ?_
          refine q_call (as := [_, _]) (rest := []) rfl rfl rfl rfl rfl rfl rfl rfl (ok_sources _ _ _ _ hS hW) ?_
          refine r_go rfl ?_
          refine r_ret rfl rfl (trivial) ?_
          first
            | (rw [h_5]; rfl)
            | (rw [wh_no1 h_12, Bool.and_false]; rfl)
            | (rw [wh_no2 (nle_lt.mp h_17), Bool.and_false]; rfl)
            | (rw [h_5, wh_yes h_12 h_17, decide_eq_false h_23]; rfl)
            | (rw [h_5, wh_yes h_12 h_17, decide_eq_true (Classical.not_not.mp h_23)]; rfl)
      · refine r_cst (v := .int (-1)) rfl rfl ?_
        refine r_ret rfl rfl (trivial) ?_
        first
          | (rw [h_5]; rfl)
          | (rw [wh_no1 h_12, Bool.and_false]; rfl)
          | (rw [wh_no2 (nle_lt.mp h_17), Bool.and_false]; rfl)
          | (rw [h_5, wh_yes h_12 h_17, decide_eq_false h_23]; rfl)
          | (rw [h_5, wh_yes h_12 h_17, decide_eq_true (Classical.not_not.mp h_23)]; rfl)

set_option maxHeartbeats 1000000 in
set_option maxRecDepth 10000 in
theorem ok_X11_free (d : Nat) (M : Nat → Nat → Int32) (ML : Nat → Nat → Int64) (x : Int32) {N E A : Nat} {l h : Nat → Nat} (hS : NS M 2 3 4 5 6 N E A l h) (hW : WN N E A l h) : Ex (d + 2) k_X11_free [.ref 1, .int x] (SH, M, ML) (some (.int (bif inR x (2 ^ E) then b2i (freeB E l h x) else -1)), (SH, M, ML)) := by
  refine Ex_in mi_X11_free rfl rfl ⟨Nat.le_refl _, Nat.le_refl _⟩ ?_
  show RR _ cd_X11_free false _ (0, [(0, .ref 1), (1, .int x)], [], (SH, M, ML))
  refine r_ld rfl rfl ?_
  refine q_getr rfl rfl rfl rfl rfl ?_
  refine r_ld rfl rfl ?_
  refine q_cifn (as := [_, _]) (rest := []) rfl rfl rfl rfl rfl rfl rfl rfl (ok_X4_hasArrowing _ _ _ _ hS.2.1 hW.2.2.1) rfl (fun h_5 => ?_) (fun h_5 => ?_)
  · refine r_ld rfl rfl ?_
    refine q_getr rfl rfl rfl rfl rfl ?_
    refine r_ld rfl rfl ?_
    refine q_cife (as := [_, _]) (rest := []) rfl rfl rfl rfl rfl rfl rfl rfl (ok_X4_isFree _ _ _ hS hW) rfl (fun h_18 => ?_) (fun h_18 => ?_)
    · refine r_cst (v := .int 0) rfl rfl ?_
      refine r_ret rfl rfl (trivial) ?_
      first | (rw [h_5]; rfl) | (rw [h_5, h_18]; rfl)
    · refine r_cst (v := .int 1) rfl rfl ?_
      refine r_go rfl ?_
      refine r_ret rfl rfl (trivial) ?_
      first | (rw [h_5]; rfl) | (rw [h_5, h_18]; rfl)
  · refine r_cst (v := .int (-1)) rfl rfl ?_
    refine r_ret rfl rfl (trivial) ?_
    first | (rw [h_5]; rfl) | (rw [h_5, h_18]; rfl)

set_option maxHeartbeats 1000000 in
set_option maxRecDepth 10000 in
theorem ok_X11_deed_y (d : Nat) (M : Nat → Nat → Int32) (ML : Nat → Nat → Int64) {y : Int32} {v : Nat} {b : Bool} {N E A : Nat} {l h : Nat → Nat} (hS : NS M 2 3 4 5 6 N E A l h) (hW : WN N E A l h) {L : List (Nat × Bool)} (hL : LG (M 12 0) (M 13) (M 14) L) (hv : v < 7) (hy : tb y (nI v) = true) : ∃ M', Ex (d + 3) k_X11_deed [.ref 1, .int (nI v), .int (b2i b), .int y] (SH, M, ML) (some (.int (nI (A ^^^ tmk E l h v))), (SH, M', ML)) ∧ LG (M' 12 0) (M' 13) (M' 14) (addL L (v, b)) ∧ Fr [12, 13, 14] (up2 M 2 2 (nI (A ^^^ tmk E l h v))) M' := by
  obtain ⟨M2, h9, hl9, hf9⟩ := ok_X1_add_12 d (up2 M 2 2 (nI (A ^^^ tmk E l h v))) ML (L := L) (v := v) (b := b) (by rw [up2_ne (by decide), up2_ne (by decide), up2_ne (by decide)]; exact hL) hv
  refine ⟨M2, ?_, hl9, hf9⟩
  refine Ex_in mi_X11_deed rfl rfl ⟨Nat.le_refl _, Nat.le_refl _⟩ ?_
  show RR _ cd_X11_deed false _ (0, [(0, .ref 1), (1, .int (nI v)), (2, .int (b2i b)), (3, .int y)], [], (SH, M, ML))
  refine r_ld rfl rfl ?_
  refine r_ld rfl rfl ?_
  refine q_cifn (as := [_, _]) (rest := []) rfl rfl rfl rfl rfl rfl rfl rfl (ok_X11_isIn ..) rfl (fun h_2 => ?_) (fun h_2 => ?_)
  · refine r_ld rfl rfl ?_
    refine q_getr rfl rfl rfl rfl rfl ?_
    refine r_ld rfl rfl ?_
    refine q_getr rfl rfl rfl rfl rfl ?_
    refine r_ld rfl rfl ?_
    refine q_getr rfl rfl rfl rfl rfl ?_
    refine q_geti rfl rfl rfl rfl rfl ?_
    refine r_ld rfl rfl ?_
    refine q_call (as := [_, _, _]) (rest := [_]) rfl rfl rfl rfl rfl rfl rfl rfl (ok_X4_turned _ _ _ _ hv) ?_
    rw [hS.2.2.1, (hS.2.2.2.2 v hv).1, xorN]
    refine q_put rfl rfl rfl rfl rfl (Or.inl rfl) ?_
    refine r_ld rfl rfl ?_
    refine q_getr rfl rfl rfl rfl rfl ?_
    refine r_ld rfl rfl ?_
    refine r_ld rfl rfl ?_
    refine q_callv (as := [_, _, _]) (rest := []) rfl rfl rfl rfl rfl rfl rfl rfl h9 ?_
    refine r_ld rfl rfl ?_
    refine q_getr rfl rfl rfl rfl rfl ?_
    refine q_geti rfl rfl rfl rfl rfl ?_
    refine r_ret rfl rfl (trivial) ?_
    first | rw [hf9 2 (by decide), up2_at, if_pos ⟨rfl, rfl⟩] | (rw [hy] at h_2; cases h_2)
  · refine r_cst (v := .int (-5)) rfl rfl ?_
    refine r_ret rfl rfl (trivial) ?_
    first | rw [hf9 2 (by decide), up2_at, if_pos ⟨rfl, rfl⟩] | (rw [hy] at h_2; cases h_2)

set_option maxHeartbeats 1000000 in
set_option maxRecDepth 10000 in
theorem ok_X11_deed_n (d : Nat) (M : Nat → Nat → Int32) (ML : Nat → Nat → Int64) {y w : Int32} {v : Nat} (hy : tb y (nI v) = false) : Ex (d + 3) k_X11_deed [.ref 1, .int (nI v), .int w, .int y] (SH, M, ML) (some (.int (-5)), (SH, M, ML)) := by
  refine Ex_in mi_X11_deed rfl rfl ⟨Nat.le_refl _, Nat.le_refl _⟩ ?_
  show RR _ cd_X11_deed false _ (0, [(0, .ref 1), (1, .int (nI v)), (2, .int w), (3, .int y)], [], (SH, M, ML))
  refine r_ld rfl rfl ?_
  refine r_ld rfl rfl ?_
  refine q_cifn (as := [_, _]) (rest := []) rfl rfl rfl rfl rfl rfl rfl rfl (ok_X11_isIn ..) rfl (fun h_2 => ?_) (fun h_2 => ?_)
  · rw [hy] at h_2
    cases h_2
  · refine r_cst (v := .int (-5)) rfl rfl ?_
    refine r_ret rfl rfl (trivial) ?_
    exact rfl

set_option maxHeartbeats 1000000 in
set_option maxRecDepth 10000 in
theorem ok_X11_fire_y (d : Nat) (M : Nat → Nat → Int32) (ML : Nat → Nat → Int64) {v : Nat} {N E A : Nat} {l h : Nat → Nat} (hS : NS M 2 3 4 5 6 N E A l h) (hW : WN N E A l h) {L : List (Nat × Bool)} (hL : LG (M 12 0) (M 13) (M 14) L) (hv : v < N) (hy : (endsM E l h (nI A) true).testBit v = true) : ∃ M', Ex (d + 4) k_X11_fire [.ref 1, .int (nI v)] (SH, M, ML) (some (.int (nI (A ^^^ tmk E l h v))), (SH, M', ML)) ∧ LG (M' 12 0) (M' 13) (M' 14) (addL L (v, false)) ∧ Fr [12, 13, 14] (up2 M 2 2 (nI (A ^^^ tmk E l h v))) M' := by
  obtain ⟨M2, h9, hl9, hf9⟩ := ok_X11_deed_y (y := nI (endsM E l h (nI A) true)) (v := v) (b := false) d M ML hS hW hL (by have := hW.2.1; omega) (by rw [tb_nI endsM_b (by have := hW.2.1; omega)]; exact hy)
  refine ⟨M2, ?_, hl9, hf9⟩
  refine Ex_in mi_X11_fire rfl rfl ⟨Nat.le_refl _, Nat.le_refl _⟩ ?_
  show RR _ cd_X11_fire false _ (0, [(0, .ref 1), (1, .int (nI v))], [], (SH, M, ML))
  refine r_ld rfl rfl ?_
  refine q_getr rfl rfl rfl rfl rfl ?_
  refine r_ld rfl rfl ?_
  refine q_cifn (as := [_, _]) (rest := []) rfl rfl rfl rfl rfl rfl rfl rfl (ok_X4_hasNode_2 _ _ _ _ hS.1) rfl (fun h_5 => ?_) (fun h_5 => ?_)
  · refine r_ld rfl rfl ?_
    refine r_ld rfl rfl ?_
    refine r_cst (v := .int 0) rfl rfl ?_
    refine r_ld rfl rfl ?_
    refine q_getr rfl rfl rfl rfl rfl ?_
    refine r_ld rfl rfl ?_
    refine q_getr rfl rfl rfl rfl rfl ?_
    refine q_geti rfl rfl rfl rfl rfl ?_
    refine q_call (as := [_, _]) (rest := [_, _, _]) rfl rfl rfl rfl rfl rfl rfl rfl (ok_sources _ _ _ _ hS hW) ?_
    rw [hS.2.2.1]
    refine q_call (as := [_, _, _, _]) (rest := []) rfl rfl rfl rfl rfl rfl rfl rfl h9 ?_
    refine r_ret rfl rfl (trivial) ?_
    exact rfl
  · rw [inR_nI (by have := hW.2.1; omega) hv] at h_5
    cases h_5

set_option maxHeartbeats 1000000 in
set_option maxRecDepth 10000 in
theorem ok_X11_fire_n (d : Nat) (M : Nat → Nat → Int32) (ML : Nat → Nat → Int64) {x : Int32} {N E A : Nat} {l h : Nat → Nat} (hS : NS M 2 3 4 5 6 N E A l h) (hW : WN N E A l h) (hx : inR x N = true → ∃ v, v < N ∧ x = nI v ∧ (endsM E l h (nI A) true).testBit v = false) : Ex (d + 4) k_X11_fire [.ref 1, .int x] (SH, M, ML) (some (.int (bif inR x N then -5 else -1)), (SH, M, ML)) := by
  refine Ex_in mi_X11_fire rfl rfl ⟨Nat.le_refl _, Nat.le_refl _⟩ ?_
  show RR _ cd_X11_fire false _ (0, [(0, .ref 1), (1, .int x)], [], (SH, M, ML))
  refine r_ld rfl rfl ?_
  refine q_getr rfl rfl rfl rfl rfl ?_
  refine r_ld rfl rfl ?_
  refine q_cifn (as := [_, _]) (rest := []) rfl rfl rfl rfl rfl rfl rfl rfl (ok_X4_hasNode_2 _ _ _ _ hS.1) rfl (fun h_5 => ?_) (fun h_5 => ?_)
  · obtain ⟨v, hv, hxv, hb⟩ := hx h_5
    refine r_ld rfl rfl ?_
    refine r_ld rfl rfl ?_
    refine r_cst (v := .int 0) rfl rfl ?_
    refine r_ld rfl rfl ?_
    refine q_getr rfl rfl rfl rfl rfl ?_
    refine r_ld rfl rfl ?_
    refine q_getr rfl rfl rfl rfl rfl ?_
    refine q_geti rfl rfl rfl rfl rfl ?_
    refine q_call (as := [_, _]) (rest := [_, _, _]) rfl rfl rfl rfl rfl rfl rfl rfl (ok_sources _ _ _ _ hS hW) ?_
    subst hxv
    rw [hS.2.2.1]
    refine q_call (as := [_, _, _, _]) (rest := []) rfl rfl rfl rfl rfl rfl rfl rfl (ok_X11_deed_n _ _ _ (by rw [tb_nI endsM_b (by have := hW.2.1; omega)]; exact hb)) ?_
    refine r_ret rfl rfl (trivial) ?_
    rw [h_5]
    exact rfl
  · refine r_cst (v := .int (-1)) rfl rfl ?_
    refine r_ret rfl rfl (trivial) ?_
    rw [h_5]
    exact rfl

set_option maxHeartbeats 1000000 in
set_option maxRecDepth 10000 in
theorem ok_X11_drown_y (d : Nat) (M : Nat → Nat → Int32) (ML : Nat → Nat → Int64) {v : Nat} {N E A : Nat} {l h : Nat → Nat} (hS : NS M 2 3 4 5 6 N E A l h) (hW : WN N E A l h) {L : List (Nat × Bool)} (hL : LG (M 12 0) (M 13) (M 14) L) (hv : v < N) (hy : (endsM E l h (nI A) false).testBit v = true) : ∃ M', Ex (d + 4) k_X11_drown [.ref 1, .int (nI v)] (SH, M, ML) (some (.int (nI (A ^^^ tmk E l h v))), (SH, M', ML)) ∧ LG (M' 12 0) (M' 13) (M' 14) (addL L (v, true)) ∧ Fr [12, 13, 14] (up2 M 2 2 (nI (A ^^^ tmk E l h v))) M' := by
  obtain ⟨M2, h9, hl9, hf9⟩ := ok_X11_deed_y (y := nI (endsM E l h (nI A) false)) (v := v) (b := true) d M ML hS hW hL (by have := hW.2.1; omega) (by rw [tb_nI endsM_b (by have := hW.2.1; omega)]; exact hy)
  refine ⟨M2, ?_, hl9, hf9⟩
  refine Ex_in mi_X11_drown rfl rfl ⟨Nat.le_refl _, Nat.le_refl _⟩ ?_
  show RR _ cd_X11_drown false _ (0, [(0, .ref 1), (1, .int (nI v))], [], (SH, M, ML))
  refine r_ld rfl rfl ?_
  refine q_getr rfl rfl rfl rfl rfl ?_
  refine r_ld rfl rfl ?_
  refine q_cifn (as := [_, _]) (rest := []) rfl rfl rfl rfl rfl rfl rfl rfl (ok_X4_hasNode_2 _ _ _ _ hS.1) rfl (fun h_5 => ?_) (fun h_5 => ?_)
  · refine r_ld rfl rfl ?_
    refine r_ld rfl rfl ?_
    refine r_cst (v := .int 1) rfl rfl ?_
    refine r_ld rfl rfl ?_
    refine q_getr rfl rfl rfl rfl rfl ?_
    refine r_ld rfl rfl ?_
    refine q_getr rfl rfl rfl rfl rfl ?_
    refine q_geti rfl rfl rfl rfl rfl ?_
    refine q_call (as := [_, _]) (rest := [_, _, _]) rfl rfl rfl rfl rfl rfl rfl rfl (ok_X4_sinks _ _ _ _ hS hW) ?_
    rw [hS.2.2.1]
    refine q_call (as := [_, _, _, _]) (rest := []) rfl rfl rfl rfl rfl rfl rfl rfl h9 ?_
    refine r_ret rfl rfl (trivial) ?_
    exact rfl
  · rw [inR_nI (by have := hW.2.1; omega) hv] at h_5
    cases h_5

set_option maxHeartbeats 1000000 in
set_option maxRecDepth 10000 in
theorem ok_X11_drown_n (d : Nat) (M : Nat → Nat → Int32) (ML : Nat → Nat → Int64) {x : Int32} {N E A : Nat} {l h : Nat → Nat} (hS : NS M 2 3 4 5 6 N E A l h) (hW : WN N E A l h) (hx : inR x N = true → ∃ v, v < N ∧ x = nI v ∧ (endsM E l h (nI A) false).testBit v = false) : Ex (d + 4) k_X11_drown [.ref 1, .int x] (SH, M, ML) (some (.int (bif inR x N then -5 else -1)), (SH, M, ML)) := by
  refine Ex_in mi_X11_drown rfl rfl ⟨Nat.le_refl _, Nat.le_refl _⟩ ?_
  show RR _ cd_X11_drown false _ (0, [(0, .ref 1), (1, .int x)], [], (SH, M, ML))
  refine r_ld rfl rfl ?_
  refine q_getr rfl rfl rfl rfl rfl ?_
  refine r_ld rfl rfl ?_
  refine q_cifn (as := [_, _]) (rest := []) rfl rfl rfl rfl rfl rfl rfl rfl (ok_X4_hasNode_2 _ _ _ _ hS.1) rfl (fun h_5 => ?_) (fun h_5 => ?_)
  · obtain ⟨v, hv, hxv, hb⟩ := hx h_5
    refine r_ld rfl rfl ?_
    refine r_ld rfl rfl ?_
    refine r_cst (v := .int 1) rfl rfl ?_
    refine r_ld rfl rfl ?_
    refine q_getr rfl rfl rfl rfl rfl ?_
    refine r_ld rfl rfl ?_
    refine q_getr rfl rfl rfl rfl rfl ?_
    refine q_geti rfl rfl rfl rfl rfl ?_
    refine q_call (as := [_, _]) (rest := [_, _, _]) rfl rfl rfl rfl rfl rfl rfl rfl (ok_X4_sinks _ _ _ _ hS hW) ?_
    subst hxv
    rw [hS.2.2.1]
    refine q_call (as := [_, _, _, _]) (rest := []) rfl rfl rfl rfl rfl rfl rfl rfl (ok_X11_deed_n _ _ _ (by rw [tb_nI endsM_b (by have := hW.2.1; omega)]; exact hb)) ?_
    refine r_ret rfl rfl (trivial) ?_
    rw [h_5]
    exact rfl
  · refine r_cst (v := .int (-1)) rfl rfl ?_
    refine r_ret rfl rfl (trivial) ?_
    rw [h_5]
    exact rfl

set_option maxHeartbeats 1000000 in
set_option maxRecDepth 10000 in
theorem ok_X11_back_y (d : Nat) (M : Nat → Nat → Int32) (ML : Nat → Nat → Int64) {N E A : Nat} {l h : Nat → Nat} (hS : NS M 2 3 4 5 6 N E A l h) (hW : WN N E A l h) {L : List (Nat × Bool)} (hL : LG (M 12 0) (M 13) (M 14) L) {v : Nat} {b : Bool} (hl : L[L.length - 1]? = some (v, b)) : ∃ M', Ex (d + 3) k_X11_back [.ref 1] (SH, M, ML) (some (.int (nI (A ^^^ tmk E l h v))), (SH, M', ML)) ∧ LG (M' 12 0) (M' 13) (M' 14) (L.take (L.length - 1)) ∧ Fr [12] (up2 M 2 2 (nI (A ^^^ tmk E l h v))) M' := by
  have h24 := hL.2.1
  have hlt := (List.getElem?_eq_some_iff.mp hl).1
  have hv := (hL.2.2 _ _ _ hl).1
  obtain ⟨M2, h9, hl9, hf9⟩ := ok_X1_takeNewest d M ML hL hl
  refine ⟨up2 M2 2 2 (nI (A ^^^ tmk E l h v)), ?_, by rw [up2_ne (by decide), up2_ne (by decide), up2_ne (by decide)]; exact hl9, ?_⟩
  rotate_left 1
  · intro x hx
    by_cases h2 : x = 2
    · subst h2
      funext y
      rw [up2_at, up2_at, hf9 2 (by decide)]
    · rw [up2_ne h2, up2_ne h2]
      exact hf9 x hx
  refine Ex_in mi_X11_back rfl rfl ⟨Nat.le_refl _, Nat.le_refl _⟩ ?_
  show RR _ cd_X11_back false _ (0, [(0, .ref 1)], [], (SH, M, ML))
  refine r_ld rfl rfl ?_
  refine q_getr rfl rfl rfl rfl rfl ?_
  refine q_geti rfl rfl rfl rfl rfl ?_
  refine q_cjT rfl rfl (by rw [hL.1]; exact fun q => by have := neq (b := 0) (by omega) (by decide) q; omega) ?_
  refine r_ld rfl rfl ?_
  refine q_getr rfl rfl rfl rfl rfl ?_
  refine r_ld rfl rfl ?_
  refine q_getr rfl rfl rfl rfl rfl ?_
  refine r_ld rfl rfl ?_
  refine q_getr rfl rfl rfl rfl rfl ?_
  refine q_geti rfl rfl rfl rfl rfl ?_
  refine r_ld rfl rfl ?_
  refine q_getr rfl rfl rfl rfl rfl ?_
  refine q_call (as := [_]) (rest := [_, _, _]) rfl rfl rfl rfl rfl rfl rfl rfl h9 ?_
  refine q_call (as := [_, _, _]) (rest := [_]) rfl rfl rfl rfl rfl rfl rfl rfl (ok_X4_turned _ _ _ _ hv) ?_
  rw [show M2 5 v = nI (tmk E l h v) from by rw [hf9 5 (by decide)]; exact (hS.2.2.2.2 v hv).1, hS.2.2.1, xorN]
  refine q_put rfl rfl rfl rfl rfl (Or.inl rfl) ?_
  refine r_ld rfl rfl ?_
  refine q_getr rfl rfl rfl rfl rfl ?_
  refine q_geti rfl rfl rfl rfl rfl ?_
  refine r_ret rfl rfl (trivial) ?_
  rw [up2_at, if_pos ⟨rfl, rfl⟩]

set_option maxHeartbeats 1000000 in
set_option maxRecDepth 10000 in
theorem ok_X11_back_n (d : Nat) (M : Nat → Nat → Int32) (ML : Nat → Nat → Int64) (h0 : M 12 0 = 0) : Ex (d + 3) k_X11_back [.ref 1] (SH, M, ML) (some (.int (-5)), (SH, M, ML)) := by
  refine Ex_in mi_X11_back rfl rfl ⟨Nat.le_refl _, Nat.le_refl _⟩ ?_
  show RR _ cd_X11_back false _ (0, [(0, .ref 1)], [], (SH, M, ML))
  refine r_ld rfl rfl ?_
  refine q_getr rfl rfl rfl rfl rfl ?_
  refine q_geti rfl rfl rfl rfl rfl ?_
  refine q_cjF rfl rfl (fun q => q h0) ?_
  refine r_cst (v := .int (-5)) rfl rfl ?_
  refine r_ret rfl rfl (trivial) ?_
  exact rfl

set_option maxHeartbeats 1000000 in
theorem ok_X1_thinOut (d : Nat) (M : Nat → Nat → Int32) (ML : Nat → Nat → Int64) {L : List (Nat × Bool)} (hL : LG (M 12 0) (M 13) (M 14) L) : ∃ M', Ex (d + 3) k_X1_thinOut [.ref 12] (SH, M, ML) (some (.int (nI (L.length - (runS [] L).length))), (SH, M', ML)) ∧ LG (M' 12 0) (M' 13) (M' 14) (runS [] L) ∧ Fr [12, 13, 14] M M' := by
  have h9 := lp_X1_thinOut_12 d M ML hL 0 (Nat.zero_le _) (up2 M 12 0 0) [] (by
    rw [show up2 M 12 0 0 12 0 = 0 from by simp [up2_at]]
    exact LG_0 _ _) (Nat.le_refl _) (fun j _ => ⟨by rw [up2_ne (by decide)], by rw [up2_ne (by decide)]⟩) (by rw [List.drop_zero]) (Fr_up (by decide) Fr_rf)
  obtain ⟨M9, ⟨hq1, hq2⟩, hR⟩ := h9
  refine ⟨M9, ?_, hq1, hq2⟩
  refine Ex_in mi_X1_thinOut rfl rfl ⟨Nat.le_refl _, Nat.le_refl _⟩ ?_
  show RR _ cd_X1_thinOut false _ (0, [(0, .ref 12)], [], (SH, M, ML))
  refine r_ld rfl rfl ?_
  refine q_geti rfl rfl rfl rfl rfl ?_
  rw [hL.1]
  refine r_sto (L' := [(0, _), (1, _)]) rfl rfl ?_
  refine r_ld rfl rfl ?_
  refine r_cst (v := .int 0) rfl rfl ?_
  refine q_put rfl rfl rfl rfl rfl (Or.inl rfl) ?_
  refine r_cst (v := .int 0) rfl rfl ?_
  refine r_sto (L' := [(0, _), (1, _), (2, _)]) rfl rfl ?_
  exact hR

set_option maxHeartbeats 1000000 in
set_option maxRecDepth 10000 in
theorem ok_X11_thin (d : Nat) (M : Nat → Nat → Int32) (ML : Nat → Nat → Int64) {L : List (Nat × Bool)} (hL : LG (M 12 0) (M 13) (M 14) L) : ∃ M', Ex (d + 4) k_X11_thin [.ref 1] (SH, M, ML) (some (.int (nI (L.length - (runS [] L).length))), (SH, M', ML)) ∧ LG (M' 12 0) (M' 13) (M' 14) (runS [] L) ∧ Fr [12, 13, 14] M M' := by
  obtain ⟨M2, h9, hl9, hf9⟩ := ok_X1_thinOut d M ML hL
  refine ⟨M2, ?_, hl9, hf9⟩
  refine Ex_in mi_X11_thin rfl rfl ⟨Nat.le_refl _, Nat.le_refl _⟩ ?_
  show RR _ cd_X11_thin false _ (0, [(0, .ref 1)], [], (SH, M, ML))
  refine r_ld rfl rfl ?_
  refine q_getr rfl rfl rfl rfl rfl ?_
  refine q_call (as := [_]) (rest := []) rfl rfl rfl rfl rfl rfl rfl rfl h9 ?_
  refine r_ret rfl rfl (trivial) ?_
  exact rfl

/-- what log(k, what) answers -/
def logR (L : List (Nat × Bool)) (k y : Int32) : Int32 := bif wh y 1 && decide (0 ≤ k) then (match L[k.toNatClampNeg]? with
  | some (v, b) => if y = 0 then nI v else b2i b
  | none => -2) else -1

set_option maxHeartbeats 1000000 in
set_option maxRecDepth 10000 in
theorem ok_X11_log (d : Nat) (M : Nat → Nat → Int32) (ML : Nat → Nat → Int64) (k y : Int32) {L : List (Nat × Bool)} (hL : LG (M 12 0) (M 13) (M 14) L) : Ex (d + 2) k_X11_log [.ref 1, .int k, .int y] (SH, M, ML) (some (.int (logR L k y)), (SH, M, ML)) := by
  refine Ex_in mi_X11_log rfl rfl ⟨Nat.le_refl _, Nat.le_refl _⟩ ?_
  show RR _ cd_X11_log false _ (0, [(0, .ref 1), (1, .int k), (2, .int y)], [], (SH, M, ML))
  refine r_ld rfl rfl ?_
  refine r_cj rfl rfl (fun h_1 => ?_) (fun h_1 => ?_)
  · refine r_cst (v := .int (-1)) rfl rfl ?_
    refine r_ret rfl rfl (trivial) ?_
    first
      | (rw [logR, wh_no1 h_1]; rfl)
      | (rw [logR, wh_no2 h_6]; rfl)
      | (rw [logR, decide_eq_false h_10, Bool.and_false]; rfl)
      | (rw [List.getElem?_eq_none (nnlt hj (by omega) (by rw [← hL.1]; exact h_23))]; rfl)
      | (simp [h3, h_30]; done)
      | (have h31 := Classical.not_not.mp h_30
         simp [h2, h31]; done)
  · refine r_ld rfl rfl ?_
    refine r_cst (v := .int 1) rfl rfl ?_
    refine r_cj rfl rfl (fun h_6 => ?_) (fun h_6 => ?_)
    · refine r_cst (v := .int (-1)) rfl rfl ?_
      refine r_ret rfl rfl (trivial) ?_
      first
        | (rw [logR, wh_no1 h_1]; rfl)
        | (rw [logR, wh_no2 h_6]; rfl)
        | (rw [logR, decide_eq_false h_10, Bool.and_false]; rfl)
        | (rw [List.getElem?_eq_none (nnlt hj (by omega) (by rw [← hL.1]; exact h_23))]; rfl)
        | (simp [h3, h_30]; done)
        | (have h31 := Classical.not_not.mp h_30
           simp [h2, h31]; done)
    · refine r_ld rfl rfl ?_
      refine r_cj rfl rfl (fun h_10 => ?_) (fun h_10 => ?_)
      · obtain ⟨j, hj, rfl⟩ := nI_of (nlt0.mpr h_10)
        have h24 := hL.2.1
        rw [logR, wh_yes h_1 (nlt_le.mp h_6), decide_eq_true h_10, nI_clamp hj]
        
        refine r_ld rfl rfl ?_
        refine r_ld rfl rfl ?_
        refine q_getr rfl rfl rfl rfl rfl ?_
        refine q_geti rfl rfl rfl rfl rfl ?_
        refine r_cj rfl rfl (fun h_23 => ?_) (fun h_23 => ?_)
        · have hlt : j < L.length := nlt hj (by omega) (by rw [← hL.1]; exact h_23)
          have hjl : L[j]? = some (L[j].1, L[j].2) := List.getElem?_eq_getElem hlt
          obtain ⟨-, h2, h3⟩ := hL.2.2 j _ _ hjl
          rw [hjl]
          refine r_ld rfl rfl ?_
          refine r_cj rfl rfl (fun h_30 => ?_) (fun h_30 => ?_)
          · refine r_ld rfl rfl ?_
            refine q_getr rfl rfl rfl rfl rfl ?_
            refine q_getr rfl rfl rfl rfl rfl ?_
            refine r_ld rfl rfl ?_
            refine q_call (as := [_, _]) (rest := []) rfl rfl rfl rfl rfl rfl rfl rfl (ok_at_n _ _ _ _ rfl rfl rfl rfl (by omega)) ?_
            refine r_ret rfl rfl (trivial) ?_
            first
              | (rw [logR, wh_no1 h_1]; rfl)
              | (rw [logR, wh_no2 h_6]; rfl)
              | (rw [logR, decide_eq_false h_10, Bool.and_false]; rfl)
              | (rw [List.getElem?_eq_none (nnlt hj (by omega) (by rw [← hL.1]; exact h_23))]; rfl)
              | (simp [h3, h_30]; done)
              | (have h31 := Classical.not_not.mp h_30
                 simp [h2, h31]; done)
          · refine r_ld rfl rfl ?_
            refine q_getr rfl rfl rfl rfl rfl ?_
            refine q_getr rfl rfl rfl rfl rfl ?_
            refine r_ld rfl rfl ?_
            refine q_call (as := [_, _]) (rest := []) rfl rfl rfl rfl rfl rfl rfl rfl (ok_at_n _ _ _ _ rfl rfl rfl rfl (by omega)) ?_
            refine r_go rfl ?_
            refine r_ret rfl rfl (trivial) ?_
            first
              | (rw [logR, wh_no1 h_1]; rfl)
              | (rw [logR, wh_no2 h_6]; rfl)
              | (rw [logR, decide_eq_false h_10, Bool.and_false]; rfl)
              | (rw [List.getElem?_eq_none (nnlt hj (by omega) (by rw [← hL.1]; exact h_23))]; rfl)
              | (simp [h3, h_30]; done)
              | (have h31 := Classical.not_not.mp h_30
                 simp [h2, h31]; done)
        · refine r_cst (v := .int (-2)) rfl rfl ?_
          refine r_ret rfl rfl (trivial) ?_
          first
            | (rw [logR, wh_no1 h_1]; rfl)
            | (rw [logR, wh_no2 h_6]; rfl)
            | (rw [logR, decide_eq_false h_10, Bool.and_false]; rfl)
            | (rw [List.getElem?_eq_none (nnlt hj (by omega) (by rw [← hL.1]; exact h_23))]; rfl)
            | (simp [h3, h_30]; done)
            | (have h31 := Classical.not_not.mp h_30
               simp [h2, h31]; done)
      · refine r_cst (v := .int (-1)) rfl rfl ?_
        refine r_ret rfl rfl (trivial) ?_
        first
          | (rw [logR, wh_no1 h_1]; rfl)
          | (rw [logR, wh_no2 h_6]; rfl)
          | (rw [logR, decide_eq_false h_10, Bool.and_false]; rfl)
          | (rw [List.getElem?_eq_none (nnlt hj (by omega) (by rw [← hL.1]; exact h_23))]; rfl)
          | (simp [h3, h_30]; done)
          | (have h31 := Classical.not_not.mp h_30
             simp [h2, h31]; done)

