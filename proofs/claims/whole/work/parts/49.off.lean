/-! ===== off ===== -/
theorem sm_swap (g : Nat → Nat → Nat) (m : Nat) : ∀ n, fb_sm (fun v => fb_sm (fun w => g v w) m) n = fb_sm (fun w => fb_sm (fun v => g v w) n) m
  | 0 => by
    have h : fb_sm (fun _ : Nat => 0) m = 0 := by rw [fb_sm_const, Nat.mul_zero]
    exact h.symm
  | n + 1 => by
    rw [fb_sm_succ, sm_swap g m n, ← fb_sm_add]
    rfl
theorem sm_cut {g : Nat → Nat} {w : Nat} : ∀ {n : Nat}, w ≤ n → fb_sm (fun v => if v < w then g v else 0) n = fb_sm g w
  | 0, h => by
    have : w = 0 := by omega
    subst this
    rfl
  | n + 1, h => by
    rw [fb_sm_succ]
    rcases Nat.lt_or_ge n w with q | q
    · have : w = n + 1 := by omega
      subst this
      rw [if_pos q, fb_sm_succ]
      exact congrArg (· + g n) (fb_sm_cong fun k hk => if_pos (by omega))
    · rw [sm_cut (n := n) q, if_neg (by omega)]
      rfl
/-- do two nodes stand otherwise in two words -/
def ofF (N a b v w : Nat) : Nat := if (decide (pl N a v < pl N a w) != decide (pl N b v < pl N b w)) = true then 1 else 0
def ofS (N a b : Nat) : Nat := fb_sm (fun v => fb_sm (ofF N a b v) v) N
theorem of_sym {N a b v w : Nat} (ha : wB N a = true) (hb : wB N b = true) (hv : v < N) (hw : w < N) (hne : v ≠ w) : ofF N a b v w = ofF N a b w v := by
  have h1 : pl N a v ≠ pl N a w := fun q => hne (wB_3 ha hv hw q)
  have h2 : pl N b v ≠ pl N b w := fun q => hne (wB_3 hb hv hw q)
  unfold ofF
  have e1 : decide (pl N a v < pl N a w) = !decide (pl N a w < pl N a v) := by
    by_cases q : pl N a v < pl N a w
    · rw [decide_eq_true q, decide_eq_false (by omega)]; rfl
    · rw [decide_eq_false q, decide_eq_true (by omega)]; rfl
  have e2 : decide (pl N b v < pl N b w) = !decide (pl N b w < pl N b v) := by
    by_cases q : pl N b v < pl N b w
    · rw [decide_eq_true q, decide_eq_false (by omega)]; rfl
    · rw [decide_eq_false q, decide_eq_true (by omega)]; rfl
  rw [e1, e2]
  cases decide (pl N a w < pl N a v) <;> cases decide (pl N b w < pl N b v) <;> rfl
theorem of_eq {N a b : Nat} (ha : wB N a = true) (hb : wB N b = true) : fb_sm (fun v => fb_sm (fun w => if v < w then ofF N a b v w else 0) N) N = ofS N a b := by
  rw [sm_swap]
  refine fb_sm_cong fun w hw => ?_
  rw [sm_cut (g := fun v => ofF N a b v w) (by omega)]
  exact fb_sm_cong fun v hv => of_sym ha hb (by omega) hw (by omega)
theorem of_le (N a b v w : Nat) : ofF N a b v w ≤ 1 := by unfold ofF; split <;> omega
theorem of_b (N a b v : Nat) (n : Nat) : fb_sm (ofF N a b v) n ≤ n := by
  have := fb_sm_bound (f := ofF N a b v) (c := 1) (n := n) (fun k _ => of_le ..)
  omega
theorem of_b2 (N a b v : Nat) (n : Nat) : fb_sm (fun w => if v < w then ofF N a b v w else 0) n ≤ n := by
  have := fb_sm_bound (f := fun w => if v < w then ofF N a b v w else 0) (c := 1) (n := n) (fun k _ => by
    show (if v < k then _ else 0) ≤ 1
    split
    · exact of_le ..
    · omega)
  omega
theorem of_1 {N a b v w : Nat} (h : ¬ ((pl N a v < pl N a w) ↔ (pl N b v < pl N b w))) : ofF N a b v w = 1 := by
  unfold ofF
  by_cases q : pl N a v < pl N a w
  · have q2 : ¬ pl N b v < pl N b w := fun r => h ⟨fun _ => r, fun _ => q⟩
    rw [decide_eq_true q, decide_eq_false q2]
    rfl
  · have q2 : pl N b v < pl N b w := Classical.byContradiction fun r => h ⟨fun w => absurd w q, fun w => absurd w r⟩
    rw [decide_eq_false q, decide_eq_true q2]
    rfl
theorem of_0 {N a b v w : Nat} (h : (pl N a v < pl N a w) ↔ (pl N b v < pl N b w)) : ofF N a b v w = 0 := by
  unfold ofF
  by_cases q : pl N a v < pl N a w
  · rw [decide_eq_true q, decide_eq_true (h.mp q)]
    rfl
  · rw [decide_eq_false q, decide_eq_false (fun r => q (h.mpr r))]
    rfl

set_option maxHeartbeats 1000000 in
set_option maxRecDepth 10000 in
theorem lp_X10_pairsOff_14 {d : Nat} {M : Mm} {ML : Ml} {N a b : Nat} (hN1 : 1 ≤ N) (hN7 : N ≤ 7) (hp1 : ∀ v, v < N → M 40 v = nI (pl N a v)) (hp2 : ∀ v, v < N → M 41 v = nI (pl N b v)) {v : Nat} (hv : v < N) (hk : WP (d + 1) cd_X10_pairsOff false (fun r M2 L2 => r = some (.int (nI (fb_sm (fun v => fb_sm (fun w => if v < w then ofF N a b v w else 0) N) N))) ∧ L2 = ML ∧ M2 = M) (82, [(0, .ref 39), (1, .int (nI N)), (2, .int (nI (fb_sm (fun v => fb_sm (fun w => if v < w then ofF N a b v w else 0) N) (v + 1)))), (3, .int (nI v))], [], (SH, M, ML))) : ∀ w, w ≤ N → v < w → WP (d + 1) cd_X10_pairsOff false (fun r M2 L2 => r = some (.int (nI (fb_sm (fun v => fb_sm (fun w => if v < w then ofF N a b v w else 0) N) N))) ∧ L2 = ML ∧ M2 = M) (14, [(0, .ref 39), (1, .int (nI N)), (2, .int (nI (fb_sm (fun v => fb_sm (fun w => if v < w then ofF N a b v w else 0) N) v + fb_sm (fun w => if v < w then ofF N a b v w else 0) w))), (3, .int (nI v)), (4, .int (nI w))], [], (SH, M, ML)) := by
  have hpl : ∀ w v, pl N w v < 7 := fun w v => Nat.lt_of_lt_of_le (pl_lt hN1) hN7
  refine up_ind fun w hw ih0 => ?_
  intro hvw
  have ih := fun hlt => ih0 hlt (by omega)
  refine w_ld rfl rfl ?_
  refine w_ld rfl rfl ?_
  refine w_cj rfl rfl (fun h_17 => ?_) (fun h_17 => ?_)
  · refine w_keep [0, 1, 2, 3] (L' := [(0, _), (1, _), (2, _), (3, _)]) rfl ?_
    have h9 : w = N := by have := nle (by omega) (by omega) h_17; omega
    subst h9
    exact hk
  · have hlt : w < N := nnle (by omega) (by omega) h_17
    have a1 := hpl a v
    have a2 := hpl a w
    have a3 := hpl b v
    have a4 := hpl b w
    refine w_ld rfl rfl ?_
    refine w_getr rfl rfl rfl rfl rfl ?_
    refine w_ld rfl rfl ?_
    refine w_call (as := [_, _]) (rest := []) rfl rfl rfl rfl rfl rfl rfl rfl (ok_at_v _ _ _ rfl rfl rfl (rfl) (by omega) (hp1 v hv)) ?_
    refine w_ld rfl rfl ?_
    refine w_getr rfl rfl rfl rfl rfl ?_
    refine w_ld rfl rfl ?_
    refine w_call (as := [_, _]) (rest := [_]) rfl rfl rfl rfl rfl rfl rfl rfl (ok_at_v _ _ _ rfl rfl rfl (rfl) (by omega) (hp1 w hlt)) ?_
    refine w_cj rfl rfl (fun h_37 => ?_) (fun h_37 => ?_)
    · refine w_cst (v := .int 0) rfl rfl ?_
      refine w_ld rfl rfl ?_
      refine w_getr rfl rfl rfl rfl rfl ?_
      refine w_ld rfl rfl ?_
      refine w_call (as := [_, _]) (rest := [_]) rfl rfl rfl rfl rfl rfl rfl rfl (ok_at_v _ _ _ rfl rfl rfl (rfl) (by omega) (hp2 v hv)) ?_
      refine w_ld rfl rfl ?_
      refine w_getr rfl rfl rfl rfl rfl ?_
      refine w_ld rfl rfl ?_
      refine w_call (as := [_, _]) (rest := [_, _]) rfl rfl rfl rfl rfl rfl rfl rfl (ok_at_v _ _ _ rfl rfl rfl (rfl) (by omega) (hp2 w hlt)) ?_
      refine w_cj rfl rfl (fun h_62 => ?_) (fun h_62 => ?_)
      · refine w_cst (v := .int 0) rfl rfl ?_
        refine w_cjT rfl rfl (by decide) ?_
        refine w_inc (y := _ + 1) rfl rfl rfl ?_
        refine w_norm (L' := [(0, _), (1, _), (2, _), (3, _), (4, _)]) rfl ?_
        refine w_go rfl ?_
        first
          | (have e : ofF N a b v w = 1 := of_1 (fun q => absurd (nle (by omega) (by omega) h_37) (Nat.not_le.mpr (q.mpr (nnle (by omega) (by omega) h_62))))
             rw [nI_1, nI_1]
             have hp := ih hlt
             rw [fb_sm_succ, if_pos hvw, e] at hp
             exact hp)
          | (have e : ofF N a b v w = 1 := of_1 (fun q => absurd (nle (by omega) (by omega) h_62) (Nat.not_le.mpr (q.mp (nnle (by omega) (by omega) h_37))))
             rw [nI_1, nI_1]
             have hp := ih hlt
             rw [fb_sm_succ, if_pos hvw, e] at hp
             exact hp)
          | (have e : ofF N a b v w = 0 := of_0 ⟨fun _ => nnle (by omega) (by omega) h_62, fun _ => nnle (by omega) (by omega) h_37⟩
             rw [nI_1]
             have hp := ih hlt
             rw [fb_sm_succ, if_pos hvw, e] at hp
             exact hp)
          | (have e : ofF N a b v w = 0 := of_0 ⟨fun q => absurd q (Nat.not_lt.mpr (nle (by omega) (by omega) h_37)), fun q => absurd q (Nat.not_lt.mpr (nle (by omega) (by omega) h_62))⟩
             rw [nI_1]
             have hp := ih hlt
             rw [fb_sm_succ, if_pos hvw, e] at hp
             exact hp)
      · refine w_cst (v := .int 1) rfl rfl ?_
        refine w_go rfl ?_
        refine w_cjF rfl rfl (by decide) ?_
        refine w_inc (y := _ + 1) rfl rfl rfl ?_
        refine w_norm (L' := [(0, _), (1, _), (2, _), (3, _), (4, _)]) rfl ?_
        refine w_inc (y := _ + 1) rfl rfl rfl ?_
        refine w_norm (L' := [(0, _), (1, _), (2, _), (3, _), (4, _)]) rfl ?_
        refine w_go rfl ?_
        first
          | (have e : ofF N a b v w = 1 := of_1 (fun q => absurd (nle (by omega) (by omega) h_37) (Nat.not_le.mpr (q.mpr (nnle (by omega) (by omega) h_62))))
             rw [nI_1, nI_1]
             have hp := ih hlt
             rw [fb_sm_succ, if_pos hvw, e] at hp
             exact hp)
          | (have e : ofF N a b v w = 1 := of_1 (fun q => absurd (nle (by omega) (by omega) h_62) (Nat.not_le.mpr (q.mp (nnle (by omega) (by omega) h_37))))
             rw [nI_1, nI_1]
             have hp := ih hlt
             rw [fb_sm_succ, if_pos hvw, e] at hp
             exact hp)
          | (have e : ofF N a b v w = 0 := of_0 ⟨fun _ => nnle (by omega) (by omega) h_62, fun _ => nnle (by omega) (by omega) h_37⟩
             rw [nI_1]
             have hp := ih hlt
             rw [fb_sm_succ, if_pos hvw, e] at hp
             exact hp)
          | (have e : ofF N a b v w = 0 := of_0 ⟨fun q => absurd q (Nat.not_lt.mpr (nle (by omega) (by omega) h_37)), fun q => absurd q (Nat.not_lt.mpr (nle (by omega) (by omega) h_62))⟩
             rw [nI_1]
             have hp := ih hlt
             rw [fb_sm_succ, if_pos hvw, e] at hp
             exact hp)
    · refine w_cst (v := .int 1) rfl rfl ?_
      refine w_go rfl ?_
      refine w_ld rfl rfl ?_
      refine w_getr rfl rfl rfl rfl rfl ?_
      refine w_ld rfl rfl ?_
      refine w_call (as := [_, _]) (rest := [_]) rfl rfl rfl rfl rfl rfl rfl rfl (ok_at_v _ _ _ rfl rfl rfl (rfl) (by omega) (hp2 v hv)) ?_
      refine w_ld rfl rfl ?_
      refine w_getr rfl rfl rfl rfl rfl ?_
      refine w_ld rfl rfl ?_
      refine w_call (as := [_, _]) (rest := [_, _]) rfl rfl rfl rfl rfl rfl rfl rfl (ok_at_v _ _ _ rfl rfl rfl (rfl) (by omega) (hp2 w hlt)) ?_
      refine w_cj rfl rfl (fun h_62 => ?_) (fun h_62 => ?_)
      · refine w_cst (v := .int 0) rfl rfl ?_
        refine w_cjF rfl rfl (by decide) ?_
        refine w_inc (y := _ + 1) rfl rfl rfl ?_
        refine w_norm (L' := [(0, _), (1, _), (2, _), (3, _), (4, _)]) rfl ?_
        refine w_inc (y := _ + 1) rfl rfl rfl ?_
        refine w_norm (L' := [(0, _), (1, _), (2, _), (3, _), (4, _)]) rfl ?_
        refine w_go rfl ?_
        first
          | (have e : ofF N a b v w = 1 := of_1 (fun q => absurd (nle (by omega) (by omega) h_37) (Nat.not_le.mpr (q.mpr (nnle (by omega) (by omega) h_62))))
             rw [nI_1, nI_1]
             have hp := ih hlt
             rw [fb_sm_succ, if_pos hvw, e] at hp
             exact hp)
          | (have e : ofF N a b v w = 1 := of_1 (fun q => absurd (nle (by omega) (by omega) h_62) (Nat.not_le.mpr (q.mp (nnle (by omega) (by omega) h_37))))
             rw [nI_1, nI_1]
             have hp := ih hlt
             rw [fb_sm_succ, if_pos hvw, e] at hp
             exact hp)
          | (have e : ofF N a b v w = 0 := of_0 ⟨fun _ => nnle (by omega) (by omega) h_62, fun _ => nnle (by omega) (by omega) h_37⟩
             rw [nI_1]
             have hp := ih hlt
             rw [fb_sm_succ, if_pos hvw, e] at hp
             exact hp)
          | (have e : ofF N a b v w = 0 := of_0 ⟨fun q => absurd q (Nat.not_lt.mpr (nle (by omega) (by omega) h_37)), fun q => absurd q (Nat.not_lt.mpr (nle (by omega) (by omega) h_62))⟩
             rw [nI_1]
             have hp := ih hlt
             rw [fb_sm_succ, if_pos hvw, e] at hp
             exact hp)
      · refine w_cst (v := .int 1) rfl rfl ?_
        refine w_go rfl ?_
        refine w_cjT rfl rfl (by decide) ?_
        refine w_inc (y := _ + 1) rfl rfl rfl ?_
        refine w_norm (L' := [(0, _), (1, _), (2, _), (3, _), (4, _)]) rfl ?_
        refine w_go rfl ?_
        first
          | (have e : ofF N a b v w = 1 := of_1 (fun q => absurd (nle (by omega) (by omega) h_37) (Nat.not_le.mpr (q.mpr (nnle (by omega) (by omega) h_62))))
             rw [nI_1, nI_1]
             have hp := ih hlt
             rw [fb_sm_succ, if_pos hvw, e] at hp
             exact hp)
          | (have e : ofF N a b v w = 1 := of_1 (fun q => absurd (nle (by omega) (by omega) h_62) (Nat.not_le.mpr (q.mp (nnle (by omega) (by omega) h_37))))
             rw [nI_1, nI_1]
             have hp := ih hlt
             rw [fb_sm_succ, if_pos hvw, e] at hp
             exact hp)
          | (have e : ofF N a b v w = 0 := of_0 ⟨fun _ => nnle (by omega) (by omega) h_62, fun _ => nnle (by omega) (by omega) h_37⟩
             rw [nI_1]
             have hp := ih hlt
             rw [fb_sm_succ, if_pos hvw, e] at hp
             exact hp)
          | (have e : ofF N a b v w = 0 := of_0 ⟨fun q => absurd q (Nat.not_lt.mpr (nle (by omega) (by omega) h_37)), fun q => absurd q (Nat.not_lt.mpr (nle (by omega) (by omega) h_62))⟩
             rw [nI_1]
             have hp := ih hlt
             rw [fb_sm_succ, if_pos hvw, e] at hp
             exact hp)

set_option maxHeartbeats 1000000 in
set_option maxRecDepth 10000 in
theorem lp_X10_pairsOff_4 {d : Nat} {M : Mm} {ML : Ml} {N a b : Nat} (hN1 : 1 ≤ N) (hN7 : N ≤ 7) (hp1 : ∀ v, v < N → M 40 v = nI (pl N a v)) (hp2 : ∀ v, v < N → M 41 v = nI (pl N b v)) : ∀ v, v ≤ N → WP (d + 1) cd_X10_pairsOff false (fun r M2 L2 => r = some (.int (nI (fb_sm (fun v => fb_sm (fun w => if v < w then ofF N a b v w else 0) N) N))) ∧ L2 = ML ∧ M2 = M) (4, [(0, .ref 39), (1, .int (nI N)), (2, .int (nI (fb_sm (fun v => fb_sm (fun w => if v < w then ofF N a b v w else 0) N) v))), (3, .int (nI v))], [], (SH, M, ML)) := by
  have hpl : ∀ w v, pl N w v < 7 := fun w v => Nat.lt_of_lt_of_le (pl_lt hN1) hN7
  refine up_ind fun v hv ih => ?_
  refine w_ld rfl rfl ?_
  refine w_ld rfl rfl ?_
  refine w_cj rfl rfl (fun h_6 => ?_) (fun h_6 => ?_)
  · have h9 : v = N := by have := nle (by omega) (by omega) h_6; omega
    subst h9
    refine w_ld rfl rfl ?_
    refine w_ret rfl rfl (trivial) ?_
    exact ⟨rfl, rfl, rfl⟩
  · have hlt : v < N := nnle (by omega) (by omega) h_6
    refine w_ld rfl rfl ?_
    refine w_cst (v := .int 1) rfl rfl ?_
    refine w_bin rfl rfl ?_
    rw [nI_1]
    refine w_sto (L' := [(0, _), (1, _), (2, _), (3, _), (4, _)]) rfl rfl ?_
    have hz : fb_sm (fun w => if v < w then ofF N a b v w else 0) (v + 1) = 0 := by
      have e : fb_sm (fun w => if v < w then ofF N a b v w else 0) (v + 1) = fb_sm (fun _ => 0) (v + 1) := fb_sm_cong fun k hk => if_neg (by omega)
      rw [e, fb_sm_const, Nat.mul_zero]
    have hp := lp_X10_pairsOff_14 (d := d) (ML := ML) hN1 hN7 hp1 hp2 hlt ?_ (v + 1) hlt (Nat.lt_succ_self v)
    · rw [hz] at hp
      exact hp
    · refine w_inc (y := _ + 1) rfl rfl rfl ?_
      refine w_norm (L' := [(0, _), (1, _), (2, _), (3, _)]) rfl ?_
      refine w_go rfl ?_
      rw [nI_1]
      exact ih hlt

set_option maxHeartbeats 1000000 in
set_option maxRecDepth 10000 in
theorem ok_X10_pairsOff {d : Nat} {M : Mm} {ML : Ml} {N a b : Nat} (hN1 : 1 ≤ N) (hN7 : N ≤ 7) (hp1 : ∀ v, v < N → M 40 v = nI (pl N a v)) (hp2 : ∀ v, v < N → M 41 v = nI (pl N b v)) : EX (d + 2) k_X10_pairsOff [.ref 39, .int (nI N)] M ML (fun r M2 L2 => r = some (.int (nI (fb_sm (fun v => fb_sm (fun w => if v < w then ofF N a b v w else 0) N) N))) ∧ L2 = ML ∧ M2 = M) := by
  refine EX_in mi_X10_pairsOff rfl rfl ?_
  show WP _ cd_X10_pairsOff false _ (0, [(0, .ref 39), (1, .int (nI N))], [], (SH, M, ML))
  refine w_cst (v := .int 0) rfl rfl ?_
  refine w_sto (L' := [(0, _), (1, _), (2, _)]) rfl rfl ?_
  refine w_cst (v := .int 0) rfl rfl ?_
  refine w_sto (L' := [(0, _), (1, _), (2, _), (3, _)]) rfl rfl ?_
  exact lp_X10_pairsOff_4 hN1 hN7 hp1 hp2 0 (Nat.zero_le _)

set_option maxHeartbeats 1000000 in
set_option maxRecDepth 10000 in
theorem lp_X12_off_51 {d : Nat} {M : Mm} {ML : Ml} {N a b : Nat} (hN : M 73 0 = nI N) (hN1 : 1 ≤ N) (hN7 : N ≤ 7) (ha : wB N a = true) (hb : wB N b = true) {v : Nat} (hv : v < N) (hk : WP (d + 2) cd_X12_off false (fun r M2 L2 => r = some (.int (nI (ofS N a b))) ∧ L2 = ML ∧ M2 = M) (119, [(0, .ref 73), (1, .int (nI a)), (2, .int (nI b)), (3, .int (nI (fb_sm (fun v => fb_sm (ofF N a b v) v) (v + 1)))), (4, .int (nI v))], [], (SH, M, ML))) : ∀ w, w ≤ v → WP (d + 2) cd_X12_off false (fun r M2 L2 => r = some (.int (nI (ofS N a b))) ∧ L2 = ML ∧ M2 = M) (51, [(0, .ref 73), (1, .int (nI a)), (2, .int (nI b)), (3, .int (nI (fb_sm (fun v => fb_sm (ofF N a b v) v) v + fb_sm (ofF N a b v) w))), (4, .int (nI v)), (5, .int (nI w))], [], (SH, M, ML)) := by
  have hpl : ∀ w v, pl N w v < 7 := fun w v => Nat.lt_of_lt_of_le (pl_lt hN1) hN7
  have ha31 : a < 2 ^ 31 := Nat.lt_trans (wB_lt ha hN7) (by decide)
  have hb31 : b < 2 ^ 31 := Nat.lt_trans (wB_lt hb hN7) (by decide)
  refine up_ind fun w hw ih => ?_
  refine w_ld rfl rfl ?_
  refine w_ld rfl rfl ?_
  refine w_cj rfl rfl (fun h_55 => ?_) (fun h_55 => ?_)
  · refine w_keep [0, 1, 2, 3, 4] (L' := [(0, _), (1, _), (2, _), (3, _), (4, _)]) rfl ?_
    have h9 : w = v := by have := nle (by omega) (by omega) h_55; omega
    subst h9
    exact hk
  · have hlt : w < v := nnle (by omega) (by omega) h_55
    have a1 := hpl a v
    have a2 := hpl a w
    have a3 := hpl b v
    have a4 := hpl b w
    refine w_ld rfl rfl ?_
    refine w_ld rfl rfl ?_
    refine w_ld rfl rfl ?_
    refine w_ld rfl rfl ?_
    refine w_call (as := [_, _, _]) (rest := [_]) rfl rfl rfl rfl rfl rfl rfl rfl (EX_ex (ok_X12_placeIn hN hN7 ha31 hv)) ?_
    rw [plI_y ha hv]
    refine w_ld rfl rfl ?_
    refine w_ld rfl rfl ?_
    refine w_ld rfl rfl ?_
    refine w_call (as := [_, _, _]) (rest := [_, _]) rfl rfl rfl rfl rfl rfl rfl rfl (EX_ex (ok_X12_placeIn (v := w) hN hN7 ha31 (by omega))) ?_
    rw [plI_y ha (by omega)]
    refine w_cj rfl rfl (fun h_73 => ?_) (fun h_73 => ?_)
    · refine w_cst (v := .int 0) rfl rfl ?_
      refine w_ld rfl rfl ?_
      refine w_ld rfl rfl ?_
      refine w_ld rfl rfl ?_
      refine w_call (as := [_, _, _]) (rest := [_, _]) rfl rfl rfl rfl rfl rfl rfl rfl (EX_ex (ok_X12_placeIn hN hN7 hb31 hv)) ?_
      rw [plI_y hb hv]
      refine w_ld rfl rfl ?_
      refine w_ld rfl rfl ?_
      refine w_ld rfl rfl ?_
      refine w_call (as := [_, _, _]) (rest := [_, _, _]) rfl rfl rfl rfl rfl rfl rfl rfl (EX_ex (ok_X12_placeIn (v := w) hN hN7 hb31 (by omega))) ?_
      rw [plI_y hb (by omega)]
      refine w_cj rfl rfl (fun h_95 => ?_) (fun h_95 => ?_)
      · refine w_cst (v := .int 0) rfl rfl ?_
        refine w_cjT rfl rfl (by decide) ?_
        refine w_cst (v := .int 0) rfl rfl ?_
        refine w_bin rfl rfl ?_
        refine w_sto (L' := [(0, _), (1, _), (2, _), (3, _), (4, _), (5, _)]) rfl rfl ?_
        refine w_inc (y := _ + 1) rfl rfl rfl ?_
        refine w_norm (L' := [(0, _), (1, _), (2, _), (3, _), (4, _), (5, _)]) rfl ?_
        refine w_go rfl ?_
        first
          | (have e : ofF N a b v w = 1 := of_1 (fun q => absurd (nle (by omega) (by omega) h_73) (Nat.not_le.mpr (q.mpr (nnle (by omega) (by omega) h_95))))
             show WP _ _ _ _ (_, [_, _, _, (_, .int (nI _ + 1)), _, (_, .int (nI _ + 1))], _)
             rw [nI_1, nI_1]
             have hp := ih hlt
             rw [fb_sm_succ, e] at hp
             exact hp)
          | (have e : ofF N a b v w = 1 := of_1 (fun q => absurd (nle (by omega) (by omega) h_95) (Nat.not_le.mpr (q.mp (nnle (by omega) (by omega) h_73))))
             show WP _ _ _ _ (_, [_, _, _, (_, .int (nI _ + 1)), _, (_, .int (nI _ + 1))], _)
             rw [nI_1, nI_1]
             have hp := ih hlt
             rw [fb_sm_succ, e] at hp
             exact hp)
          | (have e : ofF N a b v w = 0 := of_0 ⟨fun _ => nnle (by omega) (by omega) h_95, fun _ => nnle (by omega) (by omega) h_73⟩
             rw [nI_1, show ∀ n : Nat, nI n + 0 = nI n from fun n => nI_add n 0]
             have hp := ih hlt
             rw [fb_sm_succ, e] at hp
             exact hp)
          | (have e : ofF N a b v w = 0 := of_0 ⟨fun q => absurd q (Nat.not_lt.mpr (nle (by omega) (by omega) h_73)), fun q => absurd q (Nat.not_lt.mpr (nle (by omega) (by omega) h_95))⟩
             rw [nI_1, show ∀ n : Nat, nI n + 0 = nI n from fun n => nI_add n 0]
             have hp := ih hlt
             rw [fb_sm_succ, e] at hp
             exact hp)
      · refine w_cst (v := .int 1) rfl rfl ?_
        refine w_go rfl ?_
        refine w_cjF rfl rfl (by decide) ?_
        refine w_cst (v := .int 1) rfl rfl ?_
        refine w_go rfl ?_
        refine w_bin rfl rfl ?_
        refine w_sto (L' := [(0, _), (1, _), (2, _), (3, _), (4, _), (5, _)]) rfl rfl ?_
        refine w_inc (y := _ + 1) rfl rfl rfl ?_
        refine w_norm (L' := [(0, _), (1, _), (2, _), (3, _), (4, _), (5, _)]) rfl ?_
        refine w_go rfl ?_
        first
          | (have e : ofF N a b v w = 1 := of_1 (fun q => absurd (nle (by omega) (by omega) h_73) (Nat.not_le.mpr (q.mpr (nnle (by omega) (by omega) h_95))))
             show WP _ _ _ _ (_, [_, _, _, (_, .int (nI _ + 1)), _, (_, .int (nI _ + 1))], _)
             rw [nI_1, nI_1]
             have hp := ih hlt
             rw [fb_sm_succ, e] at hp
             exact hp)
          | (have e : ofF N a b v w = 1 := of_1 (fun q => absurd (nle (by omega) (by omega) h_95) (Nat.not_le.mpr (q.mp (nnle (by omega) (by omega) h_73))))
             show WP _ _ _ _ (_, [_, _, _, (_, .int (nI _ + 1)), _, (_, .int (nI _ + 1))], _)
             rw [nI_1, nI_1]
             have hp := ih hlt
             rw [fb_sm_succ, e] at hp
             exact hp)
          | (have e : ofF N a b v w = 0 := of_0 ⟨fun _ => nnle (by omega) (by omega) h_95, fun _ => nnle (by omega) (by omega) h_73⟩
             rw [nI_1, show ∀ n : Nat, nI n + 0 = nI n from fun n => nI_add n 0]
             have hp := ih hlt
             rw [fb_sm_succ, e] at hp
             exact hp)
          | (have e : ofF N a b v w = 0 := of_0 ⟨fun q => absurd q (Nat.not_lt.mpr (nle (by omega) (by omega) h_73)), fun q => absurd q (Nat.not_lt.mpr (nle (by omega) (by omega) h_95))⟩
             rw [nI_1, show ∀ n : Nat, nI n + 0 = nI n from fun n => nI_add n 0]
             have hp := ih hlt
             rw [fb_sm_succ, e] at hp
             exact hp)
    · refine w_cst (v := .int 1) rfl rfl ?_
      refine w_go rfl ?_
      refine w_ld rfl rfl ?_
      refine w_ld rfl rfl ?_
      refine w_ld rfl rfl ?_
      refine w_call (as := [_, _, _]) (rest := [_, _]) rfl rfl rfl rfl rfl rfl rfl rfl (EX_ex (ok_X12_placeIn hN hN7 hb31 hv)) ?_
      rw [plI_y hb hv]
      refine w_ld rfl rfl ?_
      refine w_ld rfl rfl ?_
      refine w_ld rfl rfl ?_
      refine w_call (as := [_, _, _]) (rest := [_, _, _]) rfl rfl rfl rfl rfl rfl rfl rfl (EX_ex (ok_X12_placeIn (v := w) hN hN7 hb31 (by omega))) ?_
      rw [plI_y hb (by omega)]
      refine w_cj rfl rfl (fun h_95 => ?_) (fun h_95 => ?_)
      · refine w_cst (v := .int 0) rfl rfl ?_
        refine w_cjF rfl rfl (by decide) ?_
        refine w_cst (v := .int 1) rfl rfl ?_
        refine w_go rfl ?_
        refine w_bin rfl rfl ?_
        refine w_sto (L' := [(0, _), (1, _), (2, _), (3, _), (4, _), (5, _)]) rfl rfl ?_
        refine w_inc (y := _ + 1) rfl rfl rfl ?_
        refine w_norm (L' := [(0, _), (1, _), (2, _), (3, _), (4, _), (5, _)]) rfl ?_
        refine w_go rfl ?_
        first
          | (have e : ofF N a b v w = 1 := of_1 (fun q => absurd (nle (by omega) (by omega) h_73) (Nat.not_le.mpr (q.mpr (nnle (by omega) (by omega) h_95))))
             show WP _ _ _ _ (_, [_, _, _, (_, .int (nI _ + 1)), _, (_, .int (nI _ + 1))], _)
             rw [nI_1, nI_1]
             have hp := ih hlt
             rw [fb_sm_succ, e] at hp
             exact hp)
          | (have e : ofF N a b v w = 1 := of_1 (fun q => absurd (nle (by omega) (by omega) h_95) (Nat.not_le.mpr (q.mp (nnle (by omega) (by omega) h_73))))
             show WP _ _ _ _ (_, [_, _, _, (_, .int (nI _ + 1)), _, (_, .int (nI _ + 1))], _)
             rw [nI_1, nI_1]
             have hp := ih hlt
             rw [fb_sm_succ, e] at hp
             exact hp)
          | (have e : ofF N a b v w = 0 := of_0 ⟨fun _ => nnle (by omega) (by omega) h_95, fun _ => nnle (by omega) (by omega) h_73⟩
             rw [nI_1, show ∀ n : Nat, nI n + 0 = nI n from fun n => nI_add n 0]
             have hp := ih hlt
             rw [fb_sm_succ, e] at hp
             exact hp)
          | (have e : ofF N a b v w = 0 := of_0 ⟨fun q => absurd q (Nat.not_lt.mpr (nle (by omega) (by omega) h_73)), fun q => absurd q (Nat.not_lt.mpr (nle (by omega) (by omega) h_95))⟩
             rw [nI_1, show ∀ n : Nat, nI n + 0 = nI n from fun n => nI_add n 0]
             have hp := ih hlt
             rw [fb_sm_succ, e] at hp
             exact hp)
      · refine w_cst (v := .int 1) rfl rfl ?_
        refine w_go rfl ?_
        refine w_cjT rfl rfl (by decide) ?_
        refine w_cst (v := .int 0) rfl rfl ?_
        refine w_bin rfl rfl ?_
        refine w_sto (L' := [(0, _), (1, _), (2, _), (3, _), (4, _), (5, _)]) rfl rfl ?_
        refine w_inc (y := _ + 1) rfl rfl rfl ?_
        refine w_norm (L' := [(0, _), (1, _), (2, _), (3, _), (4, _), (5, _)]) rfl ?_
        refine w_go rfl ?_
        first
          | (have e : ofF N a b v w = 1 := of_1 (fun q => absurd (nle (by omega) (by omega) h_73) (Nat.not_le.mpr (q.mpr (nnle (by omega) (by omega) h_95))))
             show WP _ _ _ _ (_, [_, _, _, (_, .int (nI _ + 1)), _, (_, .int (nI _ + 1))], _)
             rw [nI_1, nI_1]
             have hp := ih hlt
             rw [fb_sm_succ, e] at hp
             exact hp)
          | (have e : ofF N a b v w = 1 := of_1 (fun q => absurd (nle (by omega) (by omega) h_95) (Nat.not_le.mpr (q.mp (nnle (by omega) (by omega) h_73))))
             show WP _ _ _ _ (_, [_, _, _, (_, .int (nI _ + 1)), _, (_, .int (nI _ + 1))], _)
             rw [nI_1, nI_1]
             have hp := ih hlt
             rw [fb_sm_succ, e] at hp
             exact hp)
          | (have e : ofF N a b v w = 0 := of_0 ⟨fun _ => nnle (by omega) (by omega) h_95, fun _ => nnle (by omega) (by omega) h_73⟩
             rw [nI_1, show ∀ n : Nat, nI n + 0 = nI n from fun n => nI_add n 0]
             have hp := ih hlt
             rw [fb_sm_succ, e] at hp
             exact hp)
          | (have e : ofF N a b v w = 0 := of_0 ⟨fun q => absurd q (Nat.not_lt.mpr (nle (by omega) (by omega) h_73)), fun q => absurd q (Nat.not_lt.mpr (nle (by omega) (by omega) h_95))⟩
             rw [nI_1, show ∀ n : Nat, nI n + 0 = nI n from fun n => nI_add n 0]
             have hp := ih hlt
             rw [fb_sm_succ, e] at hp
             exact hp)

set_option maxHeartbeats 1000000 in
set_option maxRecDepth 10000 in
theorem lp_X12_off_39 {d : Nat} {M : Mm} {ML : Ml} {N a b : Nat} (hN : M 73 0 = nI N) (hN1 : 1 ≤ N) (hN7 : N ≤ 7) (ha : wB N a = true) (hb : wB N b = true) : ∀ v, v ≤ N → WP (d + 2) cd_X12_off false (fun r M2 L2 => r = some (.int (nI (ofS N a b))) ∧ L2 = ML ∧ M2 = M) (39, [(0, .ref 73), (1, .int (nI a)), (2, .int (nI b)), (3, .int (nI (fb_sm (fun v => fb_sm (ofF N a b v) v) v))), (4, .int (nI v))], [], (SH, M, ML)) := by
  have hpl : ∀ w v, pl N w v < 7 := fun w v => Nat.lt_of_lt_of_le (pl_lt hN1) hN7
  have ha31 : a < 2 ^ 31 := Nat.lt_trans (wB_lt ha hN7) (by decide)
  have hb31 : b < 2 ^ 31 := Nat.lt_trans (wB_lt hb hN7) (by decide)
  refine up_ind fun v hv ih => ?_
  refine w_ld rfl rfl ?_
  refine w_ld rfl rfl ?_
  refine w_getv rfl rfl rfl rfl rfl (hN) ?_
  refine w_cj rfl rfl (fun h_45 => ?_) (fun h_45 => ?_)
  · have h9 : v = N := by have := nle (by omega) (by omega) h_45; omega
    subst h9
    refine w_ld rfl rfl ?_
    refine w_ret rfl rfl (trivial) ?_
    exact ⟨rfl, rfl, rfl⟩
  · have hlt : v < N := nnle (by omega) (by omega) h_45
    refine w_cst (v := .int 0) rfl rfl ?_
    refine w_sto (L' := [(0, _), (1, _), (2, _), (3, _), (4, _), (5, _)]) rfl rfl ?_
    refine lp_X12_off_51 (d := d) (ML := ML) hN hN1 hN7 ha hb hlt ?_ 0 (Nat.zero_le _)
    refine w_inc (y := _ + 1) rfl rfl rfl ?_
    refine w_norm (L' := [(0, _), (1, _), (2, _), (3, _), (4, _)]) rfl ?_
    refine w_go rfl ?_
    rw [nI_1]
    exact ih hlt

set_option maxHeartbeats 1000000 in
set_option maxRecDepth 10000 in
theorem ok_X12_off {d : Nat} {M : Mm} {ML : Ml} {N E A : Nat} {l h : Nat → Nat} (hS : NM M N E A l h) (hW : WN N E A l h) {x y : Int32} : EX (d + 3) k_X12_off [.ref 73, .int x, .int y] M ML (fun r M2 L2 => r = some (.int (if wdB N x && wdB N y then (if arW E l h N x.toNatClampNeg = arW E l h N y.toNatClampNeg then nI (ofS N x.toNatClampNeg y.toNatClampNeg) else -2) else -1)) ∧ L2 = ML ∧ M2 = M) := by
  refine EX_in mi_X12_off rfl rfl ?_
  show WP _ cd_X12_off false _ (0, [(0, .ref 73), (1, .int x), (2, .int y)], [], (SH, M, ML))
  have hA1 : ∀ w, arW E l h N w < 2 ^ 31 := fun w => Nat.lt_of_lt_of_le arW_lt (Nat.le_trans (p2 hW.2.2.1) (by decide))
  refine w_ld rfl rfl ?_
  refine w_ld rfl rfl ?_
  refine w_cife (as := [_, _]) (rest := []) rfl rfl rfl rfl rfl rfl rfl rfl (EX_ex (ok_X12_isWord hS.1 hW.1 hW.2.1)) rfl (fun h_2 => ?_) (fun h_2 => ?_)
  · refine w_cst (v := .int (-1)) rfl rfl ?_
    refine w_ret rfl rfl (trivial) ?_
    refine ⟨?_, rfl, rfl⟩
    first
      | (rw [h_2]; rfl)
      | (rw [h_2, h_10]; rfl)
  · refine w_ld rfl rfl ?_
    refine w_ld rfl rfl ?_
    refine w_cifn (as := [_, _]) (rest := []) rfl rfl rfl rfl rfl rfl rfl rfl (EX_ex (ok_X12_isWord hS.1 hW.1 hW.2.1)) rfl (fun h_10 => ?_) (fun h_10 => ?_)
    · rw [h_2, h_10]
      obtain ⟨a, ha, rfl, hB1⟩ := wdB_ex h_2
      obtain ⟨b, hb, rfl, hB2⟩ := wdB_ex h_10
      rw [nI_clamp ha, nI_clamp hb]
      refine w_ld rfl rfl ?_
      refine w_ld rfl rfl ?_
      refine w_call (as := [_, _]) (rest := []) rfl rfl rfl rfl rfl rfl rfl rfl (EX_ex (ok_X12_arrowsOf hS hW hB1)) ?_
      refine w_ld rfl rfl ?_
      refine w_ld rfl rfl ?_
      refine w_call (as := [_, _]) (rest := [_]) rfl rfl rfl rfl rfl rfl rfl rfl (EX_ex (ok_X12_arrowsOf hS hW hB2)) ?_
      refine w_cj rfl rfl (fun h_28 => ?_) (fun h_28 => ?_)
      · refine w_cst (v := .int 0) rfl rfl ?_
        refine w_sto (L' := [(0, _), (1, _), (2, _), (3, _)]) rfl rfl ?_
        refine w_cst (v := .int 0) rfl rfl ?_
        refine w_sto (L' := [(0, _), (1, _), (2, _), (3, _), (4, _)]) rfl rfl ?_
        rw [if_pos (neq (hA1 _) (hA1 _) h_28)]
        exact lp_X12_off_39 hS.1 hW.1 hW.2.1 hB1 hB2 0 (Nat.zero_le _)
      · refine w_cst (v := .int (-2)) rfl rfl ?_
        refine w_ret rfl rfl (trivial) ?_
        refine ⟨?_, rfl, rfl⟩
        have hne : ¬ arW E l h N a = arW E l h N b := fun q => h_28 (by rw [q])
        rw [if_pos (show (true && true) = true from rfl), if_neg hne]
    · refine w_cst (v := .int (-1)) rfl rfl ?_
      refine w_ret rfl rfl (trivial) ?_
      refine ⟨?_, rfl, rfl⟩
      first
        | (rw [h_2]; rfl)
        | (rw [h_2, h_10]; rfl)

set_option maxHeartbeats 1000000 in
set_option maxRecDepth 10000 in
theorem ok_X11_off {d : Nat} {M : Mm} {ML : Ml} {N E A : Nat} {l h : Nat → Nat} (hS : NS M 2 3 4 5 6 N E A l h) (hW : WN N E A l h) {x y : Int32} : EX (d + 4) k_X11_off [.ref 1, .int x, .int y] M ML (fun r M2 L2 => r = some (.int (if wdB N x && wdB N y then (if arW E l h N x.toNatClampNeg = arW E l h N y.toNatClampNeg then nI (ofS N x.toNatClampNeg y.toNatClampNeg) else -2) else -1)) ∧ L2 = ML ∧ Fr [40, 41] M M2) := by
  refine EX_in mi_X11_off rfl rfl ?_
  show WP _ cd_X11_off false _ (0, [(0, .ref 1), (1, .int x), (2, .int y)], [], (SH, M, ML))
  have hA1 : ∀ w, arW E l h N w < 2 ^ 31 := fun w => Nat.lt_of_lt_of_le arW_lt (Nat.le_trans (p2 hW.2.2.1) (by decide))
  refine w_ld rfl rfl ?_
  refine w_getr rfl rfl rfl rfl rfl ?_
  refine w_ld rfl rfl ?_
  refine w_getr rfl rfl rfl rfl rfl ?_
  refine w_getv rfl rfl rfl rfl rfl (hS.1) ?_
  refine w_ld rfl rfl ?_
  obtain ⟨_, M3, L3, ⟨rfl, rfl, hF, hp⟩, hE12⟩ := ok_X10_takeOne (d := d) (ML := ML) (M := M) (x := x) hW
  refine w_cife (as := [_, _, _]) (rest := []) rfl rfl rfl rfl rfl rfl rfl rfl hE12 rfl (fun h_12 => ?_) (fun h_12 => ?_)
  · refine w_cst (v := .int (-1)) rfl rfl ?_
    refine w_ret rfl rfl (trivial) ?_
    first
      | exact ⟨by rw [h_12]; rfl, rfl, Fr_mono hF (by decide)⟩
      | exact ⟨by rw [h_12, h_30]; rfl, rfl, Fr_tr (Fr_mono hF (by decide)) (Fr_mono hF2 (by decide))⟩
  · have hS3 := NS_Fr hS hF (by decide)
    obtain ⟨a, ha, rfl, hB1⟩ := wdB_ex h_12
    rw [nI_clamp ha] at hp
    have hp1 := hp h_12
    refine w_ld rfl rfl ?_
    refine w_getr rfl rfl rfl rfl rfl ?_
    refine w_ld rfl rfl ?_
    refine w_getr rfl rfl rfl rfl rfl ?_
    refine w_getv rfl rfl rfl rfl rfl (hS3.1) ?_
    refine w_ld rfl rfl ?_
    obtain ⟨_, M4, L4, ⟨rfl, rfl, hF2, hp2⟩, hE30⟩ := ok_X10_takeOther (d := d) (ML := L3) (M := M3) (x := y) hW
    refine w_cifn (as := [_, _, _]) (rest := []) rfl rfl rfl rfl rfl rfl rfl rfl hE30 rfl (fun h_30 => ?_) (fun h_30 => ?_)
    · have hS4 := NS_Fr hS3 hF2 (by decide)
      obtain ⟨b, hb, rfl, hB2⟩ := wdB_ex h_30
      rw [nI_clamp hb] at hp2
      have hp2' := hp2 h_30
      have hp1' : ∀ v, v < N → M4 40 v = nI (pl N a v) := fun v hv => by rw [hF2 40 (by decide)]; exact hp1 v hv
      rw [h_12, h_30, nI_clamp ha, nI_clamp hb]
      refine w_ld rfl rfl ?_
      refine w_getr rfl rfl rfl rfl rfl ?_
      refine w_ld rfl rfl ?_
      refine w_getr rfl rfl rfl rfl rfl ?_
      refine w_ld rfl rfl ?_
      refine w_getr rfl rfl rfl rfl rfl ?_
      refine w_getr rfl rfl rfl rfl rfl ?_
      refine w_call (as := [_, _, _]) (rest := []) rfl rfl rfl rfl rfl rfl rfl rfl (EX_ex (ok_X10_arrowsOf_40 hS4 hW hp1')) ?_
      refine w_ld rfl rfl ?_
      refine w_getr rfl rfl rfl rfl rfl ?_
      refine w_ld rfl rfl ?_
      refine w_getr rfl rfl rfl rfl rfl ?_
      refine w_ld rfl rfl ?_
      refine w_getr rfl rfl rfl rfl rfl ?_
      refine w_getr rfl rfl rfl rfl rfl ?_
      refine w_call (as := [_, _, _]) (rest := [_]) rfl rfl rfl rfl rfl rfl rfl rfl (EX_ex (ok_X10_arrowsOf_41 hS4 hW hp2')) ?_
      refine w_cj rfl rfl (fun h_74 => ?_) (fun h_74 => ?_)
      · refine w_ld rfl rfl ?_
        refine w_getr rfl rfl rfl rfl rfl ?_
        refine w_ld rfl rfl ?_
        refine w_getr rfl rfl rfl rfl rfl ?_
        refine w_getv rfl rfl rfl rfl rfl (hS4.1) ?_
        refine w_call (as := [_, _]) (rest := []) rfl rfl rfl rfl rfl rfl rfl rfl (EX_ex (ok_X10_pairsOff hW.1 hW.2.1 hp1' hp2')) ?_
        refine w_ret rfl rfl (trivial) ?_
        refine ⟨?_, rfl, Fr_tr (Fr_mono hF (by decide)) (Fr_mono hF2 (by decide))⟩
        rw [if_pos (neq (hA1 _) (hA1 _) h_74), of_eq hB1 hB2]
        exact rfl
      · refine w_cst (v := .int (-2)) rfl rfl ?_
        refine w_ret rfl rfl (trivial) ?_
        refine ⟨?_, rfl, Fr_tr (Fr_mono hF (by decide)) (Fr_mono hF2 (by decide))⟩
        have hne : ¬ arW E l h N a = arW E l h N b := fun q => h_74 (by rw [q])
        rw [if_pos (show (true && true) = true from rfl), if_neg hne]
    · refine w_cst (v := .int (-1)) rfl rfl ?_
      refine w_ret rfl rfl (trivial) ?_
      first
        | exact ⟨by rw [h_12]; rfl, rfl, Fr_mono hF (by decide)⟩
        | exact ⟨by rw [h_12, h_30]; rfl, rfl, Fr_tr (Fr_mono hF (by decide)) (Fr_mono hF2 (by decide))⟩

