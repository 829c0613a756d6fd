/-! ===== nodes, edge, cut of the reference ===== -/
set_option maxHeartbeats 1000000 in
set_option maxRecDepth 10000 in
theorem ok_X12_nodes {d : Nat} {M : Mm} {ML : Ml} {N E A : Nat} {l h : Nat → Nat} (hS : NM M N E A l h) {x : Int32} : EX (d + 2) k_X12_nodes [.ref 73, .int x] M ML (fun r M2 L2 => (wh1 x = false → r = some (.int (-1)) ∧ L2 = ML ∧ M2 = M) ∧ (wh1 x = true → r = some (.int (nI N)) ∧ L2 = ML ∧ NM M2 x.toNatClampNeg 0 0 l h ∧ M2 73 5 = 0 ∧ Fm [74, 75] [0, 1, 4, 5] M M2)) := by
  refine EX_in mi_X12_nodes rfl rfl ?_
  show WP _ cd_X12_nodes false _ (0, [(0, .ref 73), (1, .int x)], [], (SH, M, ML))
  refine w_ld rfl rfl ?_
  refine w_cst (v := .int 1) rfl rfl ?_
  refine w_cst (v := .int 7) rfl rfl ?_
  refine w_cifn (as := [_, _, _]) (rest := []) rfl rfl rfl rfl rfl rfl rfl rfl (ok_X12_in ..) rfl (fun h_4 => ?_) (fun h_4 => ?_)
  · have hx : wh1 x = true := h_4
    obtain ⟨k, hk1, hk7, rfl⟩ := wh1_ex hx
    refine w_ld rfl rfl ?_
    refine w_getv rfl rfl rfl rfl rfl (hS.1) ?_
    refine w_sto (L' := [(0, _), (1, _), (2, _)]) rfl rfl ?_
    refine w_ld rfl rfl ?_
    refine w_ld rfl rfl ?_
    refine w_put rfl rfl rfl rfl rfl (Or.inl rfl) ?_
    refine w_ld rfl rfl ?_
    refine w_cst (v := .int 0) rfl rfl ?_
    refine w_put rfl rfl rfl rfl rfl (Or.inl rfl) ?_
    refine w_ld rfl rfl ?_
    refine w_cst (v := .int 0) rfl rfl ?_
    refine w_put rfl rfl rfl rfl rfl (Or.inl rfl) ?_
    refine w_ld rfl rfl ?_
    refine w_callv (as := [_]) (rest := []) rfl rfl rfl rfl rfl rfl rfl rfl (ok_X12_logIsEmpty ..) ?_
    refine w_ld rfl rfl ?_
    refine w_ret rfl rfl (trivial) ?_
    refine ⟨fun q => absurd (q.symm.trans hx) Bool.noConfusion, fun _ => ⟨rfl, rfl, ⟨?_, ?_, ?_, fun e he => absurd he (Nat.not_lt_zero e)⟩, up2_e, Fm_f (by decide) (Fm_f (by decide) (Fm_f (by decide) (Fm_f (by decide) Fm_rf)))⟩⟩
    · rw [nI_clamp (by omega), up2_k (by decide), up2_k (by decide), up2_k (by decide), up2_e]
    · rw [up2_k (by decide), up2_k (by decide), up2_e]
      rfl
    · rw [up2_k (by decide), up2_e]
      rfl
  · have hx : wh1 x = false := h_4
    refine w_cst (v := .int (-1)) rfl rfl ?_
    refine w_ret rfl rfl (trivial) ?_
    exact ⟨fun _ => ⟨rfl, rfl, rfl⟩, fun q => absurd (hx.symm.trans q) Bool.noConfusion⟩

theorem pE_y {l h : Nat → Nat} {i j e N : Nat} (hw : l e < h e ∧ h e < N) (hij : i ≠ j) (h1 : l e = i ∨ h e = i) (h2 : l e = j ∨ h e = j) : pE l h i j e = true := by
  unfold pE
  rw [Bool.and_eq_true]
  refine ⟨decide_eq_true ?_, decide_eq_true ?_⟩ <;> omega
theorem pE_n {l h : Nat → Nat} {i j e : Nat} (q : pE l h i j e = true) : (l e = i ∨ h e = i) ∧ (l e = j ∨ h e = j) := by
  unfold pE at q
  rw [Bool.and_eq_true] at q
  have w1 := of_decide_eq_true q.1
  have w2 := of_decide_eq_true q.2
  omega

set_option maxHeartbeats 1000000 in
set_option maxRecDepth 10000 in
theorem lp_X12_between_5 {d : Nat} {M : Mm} {ML : Ml} {N E A i j : Nat} {l h : Nat → Nat} (hS : NM M N E A l h) (hW : WN N E A l h) (hi : i < 7) (hj : j < 7) (hij : i ≠ j) : ∀ e, e ≤ E → WP (d + 1) cd_X12_between false (fun r M2 L2 => r = some (.int (lstI (pE l h i j) E)) ∧ L2 = ML ∧ M2 = M) (5, [(0, .ref 73), (1, .int (nI i)), (2, .int (nI j)), (3, .int (lstI (pE l h i j) e)), (4, .int (nI e))], [], (SH, M, ML)) := by
  have hE10 := hW.2.2.1
  refine up_ind fun e he ih => ?_
  refine w_ld rfl rfl ?_
  refine w_ld rfl rfl ?_
  refine w_getv rfl rfl rfl rfl rfl (hS.2.1) ?_
  refine w_cj rfl rfl (fun h_11 => ?_) (fun h_11 => ?_)
  · refine w_ld rfl rfl ?_
    refine w_ret rfl rfl (trivial) ?_
    have h9 : e = E := by have := nle (by omega) (by omega) h_11; omega
    subst h9
    exact ⟨rfl, rfl, rfl⟩
  · refine w_ld rfl rfl ?_
    refine w_ld rfl rfl ?_
    refine w_ld rfl rfl ?_
    have hlt : e < E := nnle (by omega) (by omega) h_11
    have hwe := hW.2.2.2.2 e hlt
    have hp := ih hlt
    rw [lstI] at hp
    refine w_cife (as := [_, _, _]) (rest := []) rfl rfl rfl rfl rfl rfl rfl rfl (ok_X12_isAt _ _ _ hS hE10 hlt (WN_b hW e hlt) hi) rfl (fun h_18 => ?_) (fun h_18 => ?_)
    · refine w_ld rfl rfl ?_
      refine w_sto (L' := [(0, _), (1, _), (2, _), (3, _), (4, _)]) rfl rfl ?_
      refine w_inc (y := _ + 1) rfl rfl rfl ?_
      refine w_norm (L' := [(0, _), (1, _), (2, _), (3, _), (4, _)]) rfl ?_
      refine w_go rfl ?_
      rw [nI_1]
      first
        | exact (fun (w1 : decide (l e = i ∨ h e = i) = true) (w2 : decide (l e = j ∨ h e = j) = true) (w3 : ¬ nI i = nI j) => by
            rw [if_pos (pE_y hwe hij (of_decide_eq_true w1) (of_decide_eq_true w2))] at hp
            exact hp) h_18 h_28 h_36
        | exact (fun (w3 : nI i = nI j) => absurd (neq (by omega) (by omega) w3) hij) h_36
        | exact (fun (w2 : decide (l e = j ∨ h e = j) = false) => by
            rw [if_neg (fun q => of_decide_eq_false w2 (pE_n q).2)] at hp
            exact hp) h_28
        | exact (fun (w2 : decide (l e = i ∨ h e = i) = false) => by
            rw [if_neg (fun q => of_decide_eq_false w2 (pE_n q).1)] at hp
            exact hp) h_18
    · refine w_ld rfl rfl ?_
      refine w_ld rfl rfl ?_
      refine w_ld rfl rfl ?_
      refine w_cife (as := [_, _, _]) (rest := []) rfl rfl rfl rfl rfl rfl rfl rfl (ok_X12_isAt _ _ _ hS hE10 hlt (WN_b hW e hlt) hj) rfl (fun h_28 => ?_) (fun h_28 => ?_)
      · refine w_ld rfl rfl ?_
        refine w_sto (L' := [(0, _), (1, _), (2, _), (3, _), (4, _)]) rfl rfl ?_
        refine w_inc (y := _ + 1) rfl rfl rfl ?_
        refine w_norm (L' := [(0, _), (1, _), (2, _), (3, _), (4, _)]) rfl ?_
        refine w_go rfl ?_
        rw [nI_1]
        first
          | exact (fun (w1 : decide (l e = i ∨ h e = i) = true) (w2 : decide (l e = j ∨ h e = j) = true) (w3 : ¬ nI i = nI j) => by
              rw [if_pos (pE_y hwe hij (of_decide_eq_true w1) (of_decide_eq_true w2))] at hp
              exact hp) h_18 h_28 h_36
          | exact (fun (w3 : nI i = nI j) => absurd (neq (by omega) (by omega) w3) hij) h_36
          | exact (fun (w2 : decide (l e = j ∨ h e = j) = false) => by
              rw [if_neg (fun q => of_decide_eq_false w2 (pE_n q).2)] at hp
              exact hp) h_28
          | exact (fun (w2 : decide (l e = i ∨ h e = i) = false) => by
              rw [if_neg (fun q => of_decide_eq_false w2 (pE_n q).1)] at hp
              exact hp) h_18
      · refine w_ld rfl rfl ?_
        refine w_ld rfl rfl ?_
        refine w_cj rfl rfl (fun h_36 => ?_) (fun h_36 => ?_)
        · refine w_ld rfl rfl ?_
          refine w_sto (L' := [(0, _), (1, _), (2, _), (3, _), (4, _)]) rfl rfl ?_
          refine w_inc (y := _ + 1) rfl rfl rfl ?_
          refine w_norm (L' := [(0, _), (1, _), (2, _), (3, _), (4, _)]) rfl ?_
          refine w_go rfl ?_
          rw [nI_1]
          first
            | exact (fun (w1 : decide (l e = i ∨ h e = i) = true) (w2 : decide (l e = j ∨ h e = j) = true) (w3 : ¬ nI i = nI j) => by
                rw [if_pos (pE_y hwe hij (of_decide_eq_true w1) (of_decide_eq_true w2))] at hp
                exact hp) h_18 h_28 h_36
            | exact (fun (w3 : nI i = nI j) => absurd (neq (by omega) (by omega) w3) hij) h_36
            | exact (fun (w2 : decide (l e = j ∨ h e = j) = false) => by
                rw [if_neg (fun q => of_decide_eq_false w2 (pE_n q).2)] at hp
                exact hp) h_28
            | exact (fun (w2 : decide (l e = i ∨ h e = i) = false) => by
                rw [if_neg (fun q => of_decide_eq_false w2 (pE_n q).1)] at hp
                exact hp) h_18
        · refine w_ld rfl rfl ?_
          refine w_go rfl ?_
          refine w_sto (L' := [(0, _), (1, _), (2, _), (3, _), (4, _)]) rfl rfl ?_
          refine w_inc (y := _ + 1) rfl rfl rfl ?_
          refine w_norm (L' := [(0, _), (1, _), (2, _), (3, _), (4, _)]) rfl ?_
          refine w_go rfl ?_
          rw [nI_1]
          first
            | exact (fun (w1 : decide (l e = i ∨ h e = i) = true) (w2 : decide (l e = j ∨ h e = j) = true) (w3 : ¬ nI i = nI j) => by
                rw [if_pos (pE_y hwe hij (of_decide_eq_true w1) (of_decide_eq_true w2))] at hp
                exact hp) h_18 h_28 h_36
            | exact (fun (w3 : nI i = nI j) => absurd (neq (by omega) (by omega) w3) hij) h_36
            | exact (fun (w2 : decide (l e = j ∨ h e = j) = false) => by
                rw [if_neg (fun q => of_decide_eq_false w2 (pE_n q).2)] at hp
                exact hp) h_28
            | exact (fun (w2 : decide (l e = i ∨ h e = i) = false) => by
                rw [if_neg (fun q => of_decide_eq_false w2 (pE_n q).1)] at hp
                exact hp) h_18

set_option maxHeartbeats 1000000 in
set_option maxRecDepth 10000 in
theorem ok_X12_between {d : Nat} {M : Mm} {ML : Ml} {N E A i j : Nat} {l h : Nat → Nat} (hS : NM M N E A l h) (hW : WN N E A l h) (hi : i < 7) (hj : j < 7) (hij : i ≠ j) : EX (d + 2) k_X12_between [.ref 73, .int (nI i), .int (nI j)] M ML (fun r M2 L2 => r = some (.int (lstI (pE l h i j) E)) ∧ L2 = ML ∧ M2 = M) := by
  refine EX_in mi_X12_between rfl rfl ?_
  show WP _ cd_X12_between false _ (0, [(0, .ref 73), (1, .int (nI i)), (2, .int (nI j))], [], (SH, M, ML))
  refine w_cst (v := .int (-1)) rfl rfl ?_
  refine w_sto (L' := [(0, _), (1, _), (2, _), (3, _)]) rfl rfl ?_
  refine w_cst (v := .int 0) rfl rfl ?_
  refine w_sto (L' := [(0, _), (1, _), (2, _), (3, _), (4, _)]) rfl rfl ?_
  exact lp_X12_between_5 hS hW hi hj hij 0 (Nat.zero_le _)

set_option maxHeartbeats 1000000 in
set_option maxRecDepth 10000 in
theorem ok_X12_comes {d : Nat} {M : Mm} {ML : Ml} {N E A i j : Nat} {l h : Nat → Nat} (hS : NM M N E A l h) (hE : E < 10) (hi : i < 7) (hj : j < 7) (hij : i ≠ j) : EX (d + 1) k_X12_comes [.ref 73, .int (nI i), .int (nI j)] M ML (fun r M2 L2 => r = none ∧ L2 = ML ∧ NM M2 N (E + 1) (edA A E (nI i) (nI j)) (edl l E (nI i) (nI j)) (edh h E (nI i) (nI j)) ∧ Fm [74, 75] [1, 4] M M2) := by
  refine EX_in mi_X12_comes rfl rfl ?_
  show WP _ cd_X12_comes false _ (0, [(0, .ref 73), (1, .int (nI i)), (2, .int (nI j))], [], (SH, M, ML))
  refine w_ld rfl rfl ?_
  refine w_getr rfl rfl rfl rfl rfl ?_
  refine w_ld rfl rfl ?_
  refine w_getv rfl rfl rfl rfl rfl (hS.2.1) ?_
  refine w_ld rfl rfl ?_
  refine w_ld rfl rfl ?_
  refine w_mm rfl rfl (Nat.le_of_ble_eq_true rfl) ?_
  rw [minI (by omega) (by omega)]
  refine w_sin rfl rfl rfl (rfl) (hE) rfl ?_
  refine w_ld rfl rfl ?_
  refine w_getr rfl rfl rfl rfl rfl ?_
  refine w_ld rfl rfl ?_
  refine w_getv rfl rfl rfl rfl rfl (Eq.trans (by rw [up2_row (by decide)]) (hS.2.1)) ?_
  refine w_ld rfl rfl ?_
  refine w_ld rfl rfl ?_
  refine w_mm rfl rfl (Nat.le_of_ble_eq_true rfl) ?_
  rw [maxI (by omega) (by omega)]
  refine w_sin rfl rfl rfl (rfl) (hE) rfl ?_
  refine w_ld rfl rfl ?_
  refine w_stk rfl rfl ?_
  refine w_getv rfl rfl rfl rfl rfl (Eq.trans (by rw [up2_row (by decide), up2_row (by decide)]) (hS.2.2.1)) ?_
  refine w_ld rfl rfl ?_
  refine w_ld rfl rfl ?_
  refine w_cj rfl rfl (fun h_35 => ?_) (fun h_35 => ?_)
  · refine w_cst (v := .int 0) rfl rfl ?_
    refine w_bin rfl rfl ?_
    refine w_put rfl rfl rfl rfl rfl (Or.inl rfl) ?_
    refine w_ld rfl rfl ?_
    refine w_stk rfl rfl ?_
    refine w_getv rfl rfl rfl rfl rfl (Eq.trans (by rw [up2_k (by decide), up2_row (by decide), up2_row (by decide)]) (hS.2.1)) ?_
    refine w_cst (v := .int 1) rfl rfl ?_
    refine w_bin rfl rfl ?_
    refine w_put rfl rfl rfl rfl rfl (Or.inl rfl) ?_
    refine w_ret rfl rfl (trivial) ?_
    have hci : (nI i).toNatClampNeg = i := nI_clamp (by omega)
    have hcj : (nI j).toNatClampNeg = j := nI_clamp (by omega)
    refine ⟨rfl, rfl, ⟨?_, ?_, ?_, fun e he => ?_⟩, Fm_f (by decide) (Fm_f (by decide) (Fm_up (by decide) (by decide) (Fm_up (by decide) (by decide) Fm_rf)))⟩
    · rw [up2_k (by decide), up2_k (by decide), up2_row (by decide), up2_row (by decide)]
      exact hS.1
    · rw [up2_e, nI_1]
    · rw [up2_k (by decide), up2_e]
      unfold edA
      rw [hci, hcj]
      first
        | exact (fun (w : ¬ i < j) => by rw [if_neg w, shl1 (by omega), orN]) (fun w => h_35 (nI_le (Nat.le_of_lt w) (by omega)))
        | exact (fun (w : i < j) => by rw [if_pos w]; exact orN (b := 0)) (Nat.lt_of_le_of_ne (nle (by omega) (by omega) h_35) hij)
    · unfold edl edh
      rw [hci, hcj]
      refine ⟨?_, ?_⟩
      · rw [up2_row (x := 74) (a := 73) (by decide), up2_row (x := 74) (a := 73) (by decide), up2_row (x := 74) (a := 75) (by decide)]
        by_cases q : e = E
        · rw [q, if_pos rfl, up2_e]
        · rw [if_neg q, up2_k q]
          exact (hS.2.2.2 e (by omega)).1
      · rw [up2_row (x := 75) (a := 73) (by decide), up2_row (x := 75) (a := 73) (by decide)]
        by_cases q : e = E
        · rw [q, if_pos rfl, up2_e]
        · rw [if_neg q, up2_k q, up2_row (by decide)]
          exact (hS.2.2.2 e (by omega)).2
  · refine w_cst (v := .int 1) rfl rfl ?_
    refine w_ld rfl rfl ?_
    refine w_getv rfl rfl rfl rfl rfl (Eq.trans (by rw [up2_row (by decide), up2_row (by decide)]) (hS.2.1)) ?_
    refine w_bin rfl rfl ?_
    refine w_go rfl ?_
    refine w_bin rfl rfl ?_
    refine w_put rfl rfl rfl rfl rfl (Or.inl rfl) ?_
    refine w_ld rfl rfl ?_
    refine w_stk rfl rfl ?_
    refine w_getv rfl rfl rfl rfl rfl (Eq.trans (by rw [up2_k (by decide), up2_row (by decide), up2_row (by decide)]) (hS.2.1)) ?_
    refine w_cst (v := .int 1) rfl rfl ?_
    refine w_bin rfl rfl ?_
    refine w_put rfl rfl rfl rfl rfl (Or.inl rfl) ?_
    refine w_ret rfl rfl (trivial) ?_
    have hci : (nI i).toNatClampNeg = i := nI_clamp (by omega)
    have hcj : (nI j).toNatClampNeg = j := nI_clamp (by omega)
    refine ⟨rfl, rfl, ⟨?_, ?_, ?_, fun e he => ?_⟩, Fm_f (by decide) (Fm_f (by decide) (Fm_up (by decide) (by decide) (Fm_up (by decide) (by decide) Fm_rf)))⟩
    · rw [up2_k (by decide), up2_k (by decide), up2_row (by decide), up2_row (by decide)]
      exact hS.1
    · rw [up2_e, nI_1]
    · rw [up2_k (by decide), up2_e]
      unfold edA
      rw [hci, hcj]
      first
        | exact (fun (w : ¬ i < j) => by rw [if_neg w, shl1 (by omega), orN]) (fun w => h_35 (nI_le (Nat.le_of_lt w) (by omega)))
        | exact (fun (w : i < j) => by rw [if_pos w]; exact orN (b := 0)) (Nat.lt_of_le_of_ne (nle (by omega) (by omega) h_35) hij)
    · unfold edl edh
      rw [hci, hcj]
      refine ⟨?_, ?_⟩
      · rw [up2_row (x := 74) (a := 73) (by decide), up2_row (x := 74) (a := 73) (by decide), up2_row (x := 74) (a := 75) (by decide)]
        by_cases q : e = E
        · rw [q, if_pos rfl, up2_e]
        · rw [if_neg q, up2_k q]
          exact (hS.2.2.2 e (by omega)).1
      · rw [up2_row (x := 75) (a := 73) (by decide), up2_row (x := 75) (a := 73) (by decide)]
        by_cases q : e = E
        · rw [q, if_pos rfl, up2_e]
        · rw [if_neg q, up2_k q, up2_row (by decide)]
          exact (hS.2.2.2 e (by omega)).2

set_option maxHeartbeats 1000000 in
set_option maxRecDepth 10000 in
theorem ok_X12_edge {d : Nat} {M : Mm} {ML : Ml} {N E A : Nat} {l h : Nat → Nat} (hS : NM M N E A l h) (hW : WN N E A l h) {x y : Int32} : EX (d + 3) k_X12_edge [.ref 73, .int x, .int y] M ML (fun r M2 L2 => (¬ edR N E l h x y = 0 → r = some (.int (edR N E l h x y)) ∧ L2 = ML ∧ M2 = M) ∧ (edR N E l h x y = 0 → r = some (.int (nI E)) ∧ L2 = ML ∧ NM M2 N (E + 1) (edA A E x y) (edl l E x y) (edh h E x y) ∧ M2 73 5 = 0 ∧ Fm [74, 75] [0, 1, 4, 5] M M2)) := by
  refine EX_in mi_X12_edge rfl rfl ?_
  show WP _ cd_X12_edge false _ (0, [(0, .ref 73), (1, .int x), (2, .int y)], [], (SH, M, ML))
  refine w_ld rfl rfl ?_
  refine w_ld rfl rfl ?_
  refine w_cife (as := [_, _]) (rest := []) rfl rfl rfl rfl rfl rfl rfl rfl (ok_X12_isNode _ _ _ _ hS.1 (by have := hW.2.1; omega)) rfl (fun h_2 => ?_) (fun h_2 => ?_)
  · refine w_cst (v := .int (-1)) rfl rfl ?_
    refine w_ret rfl rfl (trivial) ?_
    have he : edR N E l h x y = -1 := edR_m (by
      first
        | exact (fun (w : inR x N = false) => by rw [w]; rfl) h_2
        | exact (fun (w : inR y N = false) => by rw [w]; cases inR x N <;> rfl) h_10
        | exact (fun (w : ¬ x ≠ y) => by rw [decide_eq_false w]; exact Bool.and_false _) h_18)
    exact ⟨fun _ => ⟨by rw [he], rfl, rfl⟩, fun q => absurd (he.symm.trans q) (by decide)⟩
  · refine w_ld rfl rfl ?_
    refine w_ld rfl rfl ?_
    refine w_cife (as := [_, _]) (rest := []) rfl rfl rfl rfl rfl rfl rfl rfl (ok_X12_isNode _ _ _ _ hS.1 (by have := hW.2.1; omega)) rfl (fun h_10 => ?_) (fun h_10 => ?_)
    · refine w_cst (v := .int (-1)) rfl rfl ?_
      refine w_ret rfl rfl (trivial) ?_
      have he : edR N E l h x y = -1 := edR_m (by
        first
          | exact (fun (w : inR x N = false) => by rw [w]; rfl) h_2
          | exact (fun (w : inR y N = false) => by rw [w]; cases inR x N <;> rfl) h_10
          | exact (fun (w : ¬ x ≠ y) => by rw [decide_eq_false w]; exact Bool.and_false _) h_18)
      exact ⟨fun _ => ⟨by rw [he], rfl, rfl⟩, fun q => absurd (he.symm.trans q) (by decide)⟩
    · refine w_ld rfl rfl ?_
      refine w_ld rfl rfl ?_
      refine w_cj rfl rfl (fun h_18 => ?_) (fun h_18 => ?_)
      · refine w_ld rfl rfl ?_
        have hN7 := hW.2.1
        obtain ⟨i, hi, rfl⟩ := inR_ex (by omega) h_2
        obtain ⟨j, hj, rfl⟩ := inR_ex (by omega) h_10
        have hci : (nI i).toNatClampNeg = i := nI_clamp (by omega)
        have hcj : (nI j).toNatClampNeg = j := nI_clamp (by omega)
        have hij : i ≠ j := fun w => h_18 (congrArg nI w)
        have hP : hasP l h E (nI i) (nI j) ↔ fa_first (pE l h i j) E < E := by
          unfold hasP
          rw [hci, hcj]
        have hE10 := hW.2.2.1
        have hed := edR_t (E := E) (l := l) (h := h) h_2 h_10 h_18
        refine w_ld rfl rfl ?_
        refine w_ld rfl rfl ?_
        refine w_call (as := [_, _, _]) (rest := []) rfl rfl rfl rfl rfl rfl rfl rfl (EX_ex (ok_X12_between hS hW (by omega) (by omega) hij)) ?_
        refine w_cj rfl rfl (fun h_29 => ?_) (fun h_29 => ?_)
        · refine w_ld rfl rfl ?_
          refine w_getv rfl rfl rfl rfl rfl (hS.2.1) ?_
          refine w_cst (v := .int 10) rfl rfl ?_
          refine w_cj rfl rfl (fun h_41 => ?_) (fun h_41 => ?_)
          · refine w_ld rfl rfl ?_
            have hlt : E < 10 := Nat.lt_of_le_of_ne hE10 (fun w => h_41 (by rw [w]; rfl))
            have hne : ¬ hasP l h E (nI i) (nI j) := fun w => (lstI_neg (by omega)).mp h_29 (hP.mp w)
            have he : edR N E l h (nI i) (nI j) = 0 := by rw [hed, if_neg hne, if_pos hlt]
            refine w_ld rfl rfl ?_
            refine w_ld rfl rfl ?_
            obtain ⟨_, M3, L3, ⟨rfl, rfl, hS3, hF3⟩, hE50⟩ := ok_X12_comes (d := d + 1) (ML := ML) hS hlt (i := i) (j := j) (by omega) (by omega) hij
            refine w_callv (as := [_, _, _]) (rest := []) rfl rfl rfl rfl rfl rfl rfl rfl hE50 ?_
            refine w_ld rfl rfl ?_
            refine w_callv (as := [_]) (rest := []) rfl rfl rfl rfl rfl rfl rfl rfl (ok_X12_logIsEmpty ..) ?_
            refine w_ld rfl rfl ?_
            refine w_getv rfl rfl rfl rfl rfl (Eq.trans (by rw [up2_k (by decide)]) (hS3.2.1)) ?_
            refine w_cst (v := .int 1) rfl rfl ?_
            refine w_bin rfl rfl ?_
            refine w_ret rfl rfl (trivial) ?_
            have hF9 : Fm [] [5] M3 (up2 M3 73 5 0) := Fm_f (by decide) Fm_rf
            exact ⟨fun q => absurd he q, fun _ => ⟨by rw [nI_s1], rfl, NM_Fm hS3 hF9 (by decide) (by decide), up2_e, Fm_f (by decide) (Fm_mono hF3 (by decide) (by decide))⟩⟩
          · refine w_cst (v := .int (-3)) rfl rfl ?_
            refine w_ret rfl rfl (trivial) ?_
            have hne : ¬ hasP l h E (nI i) (nI j) := fun w => (lstI_neg (by omega)).mp h_29 (hP.mp w)
            have h10 : E = 10 := neq (by omega) (by decide) (Classical.not_not.mp h_41)
            have he : edR N E l h (nI i) (nI j) = -3 := by rw [hed, if_neg hne, if_neg (by omega)]
            exact ⟨fun _ => ⟨by rw [he], rfl, rfl⟩, fun q => absurd (he.symm.trans q) (by decide)⟩
        · refine w_cst (v := .int (-5)) rfl rfl ?_
          refine w_ret rfl rfl (trivial) ?_
          have hyes : hasP l h E (nI i) (nI j) := hP.mpr (Classical.byContradiction fun w => h_29 ((lstI_neg (by omega)).mpr w))
          have he : edR N E l h (nI i) (nI j) = -5 := by rw [hed, if_pos hyes]
          exact ⟨fun _ => ⟨by rw [he], rfl, rfl⟩, fun q => absurd (he.symm.trans q) (by decide)⟩
      · refine w_cst (v := .int (-1)) rfl rfl ?_
        refine w_ret rfl rfl (trivial) ?_
        have he : edR N E l h x y = -1 := edR_m (by
          first
            | exact (fun (w : inR x N = false) => by rw [w]; rfl) h_2
            | exact (fun (w : inR y N = false) => by rw [w]; cases inR x N <;> rfl) h_10
            | exact (fun (w : ¬ x ≠ y) => by rw [decide_eq_false w]; exact Bool.and_false _) h_18)
        exact ⟨fun _ => ⟨by rw [he], rfl, rfl⟩, fun q => absurd (he.symm.trans q) (by decide)⟩

set_option maxHeartbeats 1000000 in
set_option maxRecDepth 10000 in
theorem lp_X12_cut_47 {d : Nat} {M : Mm} {ML : Ml} {N E A k : Nat} {l h : Nat → Nat} (hS : NM M N E A l h) (hW : WN N E A l h) (hk : k < E) : ∀ e, e ≤ E - 1 → k ≤ e → WP (d + 2) cd_X12_cut false (fun r M2 L2 => r = some (.int (nI (E - 1))) ∧ L2 = ML ∧ NM M2 N (E - 1) (remB A k) (shN k l) (shN k h) ∧ M2 73 5 = 0 ∧ Fm [74, 75] [0, 1, 4, 5] M M2) (47, [(0, .ref 73), (1, .int (nI k)), (2, .int (nI e))], [], (SH, (shf (up2 (up2 M 73 4 (nI (remB A k))) 73 1 (nI (E - 1))) 74 75 k e), ML)) := by
  have hE10 := hW.2.2.1
  refine up_ind fun e he ih => ?_
  intro hke
  have hm1 : shf (up2 (up2 M 73 4 (nI (remB A k))) 73 1 (nI (E - 1))) 74 75 k e 73 1 = nI (E - 1) := by rw [shf_ne (by decide) (by decide), up2_e]
  refine w_ld rfl rfl ?_
  refine w_ld rfl rfl ?_
  refine w_getv rfl rfl rfl rfl rfl (hm1) ?_
  refine w_cj rfl rfl (fun h_52 => ?_) (fun h_52 => ?_)
  · refine w_ld rfl rfl ?_
    refine w_callv (as := [_]) (rest := []) rfl rfl rfl rfl rfl rfl rfl rfl (ok_X12_logIsEmpty ..) ?_
    refine w_ld rfl rfl ?_
    refine w_getv rfl rfl rfl rfl rfl (Eq.trans (by rw [up2_k (by decide)]) (hm1)) ?_
    refine w_ret rfl rfl (trivial) ?_
    have h9 : e = E - 1 := by have := nle (by omega) (by omega) h_52; omega
    subst h9
    have hFB : Fm [74, 75] [0, 1, 4, 5] M (shf (up2 (up2 M 73 4 (nI (remB A k))) 73 1 (nI (E - 1))) 74 75 k (E - 1)) := by
      refine ⟨fun x hx h7 => ?_, fun y hy => ?_⟩
      · simp only [List.mem_cons, not_or] at hx
        rw [shf_ne (by omega) (by omega), up2_row h7, up2_row h7]
      · simp only [List.mem_cons, not_or] at hy
        rw [shf_ne (by decide) (by decide), up2_k (by omega), up2_k (by omega)]
    refine ⟨rfl, rfl, ⟨?_, ?_, ?_, fun e he2 => ?_⟩, up2_e, Fm_f (by decide) hFB⟩
    · rw [up2_k (by decide), shf_ne (by decide) (by decide), up2_k (by decide), up2_k (by decide)]
      exact hS.1
    · rw [up2_k (by decide), hm1]
    · rw [up2_k (by decide), shf_ne (by decide) (by decide), up2_k (by decide), up2_e]
    · rw [up2_row (by decide), up2_row (by decide)]
      unfold shN shf
      have hb : ∀ x y, x ≠ 73 → up2 (up2 M 73 4 (nI (remB A k))) 73 1 (nI (E - 1)) x y = M x y := fun x y w => by rw [up2_row w, up2_row w]
      by_cases q : e < k
      · rw [if_pos q, if_pos q, if_neg (by omega), if_neg (by omega), hb _ _ (by decide), hb _ _ (by decide)]
        exact hS.2.2.2 e (by omega)
      · rw [if_neg q, if_neg q, if_pos ⟨Or.inl rfl, by omega, by omega⟩, if_pos ⟨Or.inr rfl, by omega, by omega⟩, hb _ _ (by decide), hb _ _ (by decide)]
        exact hS.2.2.2 (e + 1) (by omega)
  · refine w_ld rfl rfl ?_
    have hlt : e < E - 1 := nnle (by omega) (by omega) h_52
    refine w_getr rfl rfl rfl rfl rfl ?_
    refine w_ld rfl rfl ?_
    refine w_ld rfl rfl ?_
    refine w_getr rfl rfl rfl rfl rfl ?_
    refine w_ld rfl rfl ?_
    refine w_cst (v := .int 1) rfl rfl ?_
    refine w_bin rfl rfl ?_
    refine w_ain rfl rfl rfl (nI_1 e) (by omega) rfl ?_
    refine w_sin rfl rfl rfl (rfl) (by omega) rfl ?_
    refine w_ld rfl rfl ?_
    refine w_getr rfl rfl rfl rfl rfl ?_
    refine w_ld rfl rfl ?_
    refine w_ld rfl rfl ?_
    refine w_getr rfl rfl rfl rfl rfl ?_
    refine w_ld rfl rfl ?_
    refine w_cst (v := .int 1) rfl rfl ?_
    refine w_bin rfl rfl ?_
    refine w_ain rfl rfl rfl (nI_1 e) (by omega) rfl ?_
    refine w_sin rfl rfl rfl (rfl) (by omega) rfl ?_
    refine w_inc (y := _ + 1) rfl rfl rfl ?_
    refine w_norm (L' := [(0, _), (1, _), (2, _)]) rfl ?_
    refine w_go rfl ?_
    rw [nI_1]
    refine WP_m ?_ (ih hlt (by omega))
    rw [up2_row (M := shf (up2 (up2 M 73 4 (nI (remB A k))) 73 1 (nI (E - 1))) 74 75 k e) (x := 75) (a := 74) (by decide), shf_hi (x := 74) (y := e + 1) (Nat.le_succ e), shf_hi (x := 75) (y := e + 1) (Nat.le_succ e)]
    exact shf_succ (M := (up2 (up2 M 73 4 (nI (remB A k))) 73 1 (nI (E - 1)))) (lo := 74) (hi := 75) (by decide) hke

set_option maxHeartbeats 1000000 in
set_option maxRecDepth 10000 in
theorem ok_X12_cut {d : Nat} {M : Mm} {ML : Ml} {N E A : Nat} {l h : Nat → Nat} (hS : NM M N E A l h) (hW : WN N E A l h) {x : Int32} : EX (d + 3) k_X12_cut [.ref 73, .int x] M ML (fun r M2 L2 => (inR x E = false → r = some (.int (-1)) ∧ L2 = ML ∧ M2 = M) ∧ (inR x E = true → r = some (.int (nI (E - 1))) ∧ L2 = ML ∧ NM M2 N (E - 1) (remB A x.toNatClampNeg) (shN x.toNatClampNeg l) (shN x.toNatClampNeg h) ∧ M2 73 5 = 0 ∧ Fm [74, 75] [0, 1, 4, 5] M M2)) := by
  refine EX_in mi_X12_cut rfl rfl ?_
  show WP _ cd_X12_cut false _ (0, [(0, .ref 73), (1, .int x)], [], (SH, M, ML))
  refine w_ld rfl rfl ?_
  refine w_ld rfl rfl ?_
  refine w_cifn (as := [_, _]) (rest := []) rfl rfl rfl rfl rfl rfl rfl rfl (ok_X12_isEdge _ _ _ _ hS.2.1 (by have := hW.2.2.1; omega)) rfl (fun h_2 => ?_) (fun h_2 => ?_)
  · have hE10 := hW.2.2.1
    have hAlt : A < 2 ^ 31 := Nat.lt_of_lt_of_le hW.2.2.2.1 (p2 (by omega))
    obtain ⟨k, hk, rfl⟩ := inR_ex (by omega) h_2
    have hc : (nI k).toNatClampNeg = k := nI_clamp (by omega)
    refine w_ld rfl rfl ?_
    refine w_ld rfl rfl ?_
    refine w_getv rfl rfl rfl rfl rfl (hS.2.2.1) ?_
    refine w_cst (v := .int 1) rfl rfl ?_
    refine w_ld rfl rfl ?_
    refine w_bin rfl rfl ?_
    refine w_cst (v := .int 1) rfl rfl ?_
    refine w_bin rfl rfl ?_
    refine w_bin rfl rfl ?_
    refine w_ld rfl rfl ?_
    refine w_getv rfl rfl rfl rfl rfl (hS.2.2.1) ?_
    refine w_ld rfl rfl ?_
    refine w_cst (v := .int 1) rfl rfl ?_
    refine w_bin rfl rfl ?_
    refine w_bin rfl rfl ?_
    refine w_ld rfl rfl ?_
    refine w_bin rfl rfl ?_
    refine w_bin rfl rfl ?_
    rw [remR hAlt (by omega)]
    refine w_put rfl rfl rfl rfl rfl (Or.inl rfl) ?_
    refine w_ld rfl rfl ?_
    refine w_stk rfl rfl ?_
    refine w_getv rfl rfl rfl rfl rfl (Eq.trans (by rw [up2_k (by decide)]) (hS.2.1)) ?_
    refine w_cst (v := .int 1) rfl rfl ?_
    refine w_bin rfl rfl ?_
    rw [show nI E - 1 = nI (E - 1) from pk_sub (b := 1) (by omega)]
    refine w_put rfl rfl rfl rfl rfl (Or.inl rfl) ?_
    refine w_ld rfl rfl ?_
    refine w_sto (L' := [(0, _), (1, _), (2, _)]) rfl rfl ?_
    refine WP_mono (WP_m (shf_0 _ _ _ _).symm (lp_X12_cut_47 hS hW hk k (by omega) (Nat.le_refl _))) (fun r M2 L2 q => ⟨fun w => absurd (w.symm.trans h_2) Bool.noConfusion, fun _ => ?_⟩)
    rw [hc]
    exact q
  · refine w_cst (v := .int (-1)) rfl rfl ?_
    refine w_ret rfl rfl (trivial) ?_
    exact ⟨fun _ => ⟨rfl, rfl, rfl⟩, fun q => absurd (h_2.symm.trans q) Bool.noConfusion⟩

