/-! ===== tree, chords and flows of the reference ===== -/
/-- tree and chords in their rows -/
def TR (M : Mm) (E : Nat) (l h : Nat → Nat) : Prop := (∀ e, e < E → M 85 e = b2i (isCh l h e)) ∧ M 73 19 = nI (cc l h E)
theorem nar1 : vp_nar .boolean 1 = 1 := by decide
theorem nar0 : vp_nar .boolean 0 = 0 := by decide
theorem cc_s1 {l h : Nat → Nat} {e : Nat} (q : isCh l h e = true) : cc l h (e + 1) = cc l h e + 1 := by
  unfold cc
  rw [fb_ct_succ, if_pos q]
theorem cc_s0 {l h : Nat → Nat} {e : Nat} (q : isCh l h e = false) : cc l h (e + 1) = cc l h e := by
  unfold cc
  rw [fb_ct_succ, if_neg (by rw [q]; exact Bool.noConfusion)]
  rfl

set_option maxHeartbeats 1000000 in
set_option maxRecDepth 10000 in
theorem lp_X12_layTree_104 {d : Nat} {M : Mm} {ML : Ml} {N E A : Nat} {l h : Nat → Nat} (hS : NM M N E A l h) (hW : WN N E A l h) {e : Nat} (he : e < E) (hk : ∀ M', Fm [85, 86] [19] M M' → (∀ v, v < N → M' 86 v = nI (LA l h (e + 1) v)) → (∀ i, i < (e + 1) → M' 85 i = b2i (isCh l h i)) → M' 73 19 = nI (cc l h (e + 1)) → WP d cd_X12_layTree false (fun r M2 L2 => r = none ∧ L2 = ML ∧ Fm [85, 86] [19] M M2 ∧ TR M2 E l h) (30, [(0, .ref 73), (1, .int (nI (e + 1)))], [], (SH, M', ML))) : ∀ v, v ≤ N → ∀ M', Fm [85, 86] [19] M M' → (∀ u, u < N → M' 86 u = nI (if u < v then LA l h (e + 1) u else LA l h e u)) → (∀ i, i < e + 1 → M' 85 i = b2i (isCh l h i)) → M' 73 19 = nI (cc l h (e + 1)) → WP d cd_X12_layTree false (fun r M2 L2 => r = none ∧ L2 = ML ∧ Fm [85, 86] [19] M M2 ∧ TR M2 E l h) (104, [(0, .ref 73), (1, .int (nI e)), (2, .int (nI (LA l h e (l e)))), (3, .int (nI (LA l h e (h e)))), (4, .int (nI v))], [], (SH, M', ML)) := by
  have hN7 := hW.2.1
  have hE10 := hW.2.2.1
  have hb : ∀ e, e < E → l e < N ∧ h e < N := fun e he => by have := hW.2.2.2.2 e he; omega
  have hLl : ∀ e, e ≤ E → ∀ v, v < N → LA l h e v < N := fun e he v hv => lb_lt hb e he v hv
  have ho := hLl e (Nat.le_of_lt he) _ (hb e he).2
  refine up_ind fun v hv ih => ?_
  intro M' hF hj h85 h19
  have hS' := NM_Fm hS hF (by decide) (by decide)
  refine w_ld rfl rfl ?_
  refine w_ld rfl rfl ?_
  refine w_getv rfl rfl rfl rfl rfl (hS'.1) ?_
  refine w_cj rfl rfl (fun h_110 => ?_) (fun h_110 => ?_)
  · refine w_keep [0, 1] (L' := [(0, _), (1, _)]) rfl ?_
    have h9 : v = N := by have := nle (by omega) (by omega) h_110; omega
    subst h9
    refine w_inc (y := _ + 1) rfl rfl rfl ?_
    refine w_norm (L' := [(0, _), (1, _)]) rfl ?_
    refine w_go rfl ?_
    rw [nI_1]
    exact hk M' hF (fun u hu => by rw [hj u hu, if_pos hu]) h85 h19
  · have hlt : v < N := nnle (by omega) (by omega) h_110
    have hjv : M' 86 v = nI (LA l h e v) := (hj v hlt).trans (by rw [if_neg (Nat.lt_irrefl v)])
    have hlv := hLl e (Nat.le_of_lt he) v hlt
    refine w_ld rfl rfl ?_
    refine w_getr rfl rfl rfl rfl rfl ?_
    refine w_ld rfl rfl ?_
    refine w_ld rfl rfl ?_
    refine w_getr rfl rfl rfl rfl rfl ?_
    refine w_ld rfl rfl ?_
    refine w_aiv rfl rfl rfl (rfl) (by omega) rfl (hjv) ?_
    refine w_ld rfl rfl ?_
    refine w_cj rfl rfl (fun h_127 => ?_) (fun h_127 => ?_)
    · refine w_ld rfl rfl ?_
      refine w_getr rfl rfl rfl rfl rfl ?_
      refine w_ld rfl rfl ?_
      refine w_aiv rfl rfl rfl (rfl) (by omega) rfl (hjv) ?_
      refine w_sin rfl rfl rfl (rfl) (by omega) rfl ?_
      refine w_inc (y := _ + 1) rfl rfl rfl ?_
      refine w_norm (L' := [(0, _), (1, _), (2, _), (3, _), (4, _)]) rfl ?_
      refine w_go rfl ?_
      rw [nI_1 v]
      refine ih hlt _ (Fm_up (by decide) (by decide) hF) (fun u hu => ?_) (fun i hi => by rw [up2_row (by decide)]; exact h85 i hi) (by rw [up2_row (by decide)]; exact h19)
      by_cases q : u = v
      · rw [q, up2_e, if_pos (Nat.lt_succ_self v), LA_s]
        first
          | rw [if_neg (fun w => h_127 (congrArg nI w))]
          | rw [if_pos (neq (by omega) (by omega) (Classical.not_not.mp h_127))]
      · rw [up2_k q, hj u hu]
        by_cases w : u < v
        · rw [if_pos w, if_pos (by omega)]
        · rw [if_neg w, if_neg (by omega)]
    · refine w_ld rfl rfl ?_
      refine w_go rfl ?_
      refine w_sin rfl rfl rfl (rfl) (by omega) rfl ?_
      refine w_inc (y := _ + 1) rfl rfl rfl ?_
      refine w_norm (L' := [(0, _), (1, _), (2, _), (3, _), (4, _)]) rfl ?_
      refine w_go rfl ?_
      rw [nI_1 v]
      refine ih hlt _ (Fm_up (by decide) (by decide) hF) (fun u hu => ?_) (fun i hi => by rw [up2_row (by decide)]; exact h85 i hi) (by rw [up2_row (by decide)]; exact h19)
      by_cases q : u = v
      · rw [q, up2_e, if_pos (Nat.lt_succ_self v), LA_s]
        first
          | rw [if_neg (fun w => h_127 (congrArg nI w))]
          | rw [if_pos (neq (by omega) (by omega) (Classical.not_not.mp h_127))]
      · rw [up2_k q, hj u hu]
        by_cases w : u < v
        · rw [if_pos w, if_pos (by omega)]
        · rw [if_neg w, if_neg (by omega)]

set_option maxHeartbeats 1000000 in
set_option maxRecDepth 10000 in
theorem lp_X12_layTree_30 {d : Nat} {M : Mm} {ML : Ml} {N E A : Nat} {l h : Nat → Nat} (hS : NM M N E A l h) (hW : WN N E A l h) : ∀ e, e ≤ E → ∀ M', Fm [85, 86] [19] M M' → (∀ v, v < N → M' 86 v = nI (LA l h e v)) → (∀ i, i < e → M' 85 i = b2i (isCh l h i)) → M' 73 19 = nI (cc l h e) → WP d cd_X12_layTree false (fun r M2 L2 => r = none ∧ L2 = ML ∧ Fm [85, 86] [19] M M2 ∧ TR M2 E l h) (30, [(0, .ref 73), (1, .int (nI e))], [], (SH, M', ML)) := by
  have hN7 := hW.2.1
  have hE10 := hW.2.2.1
  have hb : ∀ e, e < E → l e < N ∧ h e < N := fun e he => by have := hW.2.2.2.2 e he; omega
  have hLl : ∀ e, e ≤ E → ∀ v, v < N → LA l h e v < N := fun e he v hv => lb_lt hb e he v hv
  refine up_ind fun e he ih => ?_
  intro M' hF hj h85 h19
  have hS' := NM_Fm hS hF (by decide) (by decide)
  refine w_ld rfl rfl ?_
  refine w_ld rfl rfl ?_
  refine w_getv rfl rfl rfl rfl rfl (hS'.2.1) ?_
  refine w_cj rfl rfl (fun h_35 => ?_) (fun h_35 => ?_)
  · refine w_ret rfl rfl (trivial) ?_
    have h9 : e = E := by have := nle (by omega) (by omega) h_35; omega
    subst h9
    exact ⟨rfl, rfl, hF, h85, h19⟩
  · have hlt : e < E := nnle (by omega) (by omega) h_35
    have hbe := hb e hlt
    have hed := hS'.2.2.2 e hlt
    have l1 := hLl e he _ hbe.1
    have l2 := hLl e he _ hbe.2
    refine w_ld rfl rfl ?_
    refine w_getr rfl rfl rfl rfl rfl ?_
    refine w_ld rfl rfl ?_
    refine w_getr rfl rfl rfl rfl rfl ?_
    refine w_ld rfl rfl ?_
    refine w_aiv rfl rfl rfl (rfl) (by omega) rfl (hed.1) ?_
    refine w_aiv rfl rfl rfl (rfl) (by omega) rfl (hj _ hbe.1) ?_
    refine w_sto (L' := [(0, _), (1, _), (2, _)]) rfl rfl ?_
    refine w_ld rfl rfl ?_
    refine w_getr rfl rfl rfl rfl rfl ?_
    refine w_ld rfl rfl ?_
    refine w_getr rfl rfl rfl rfl rfl ?_
    refine w_ld rfl rfl ?_
    refine w_aiv rfl rfl rfl (rfl) (by omega) rfl (hed.2) ?_
    refine w_aiv rfl rfl rfl (rfl) (by omega) rfl (hj _ hbe.2) ?_
    refine w_sto (L' := [(0, _), (1, _), (2, _), (3, _)]) rfl rfl ?_
    refine w_ld rfl rfl ?_
    refine w_getr rfl rfl rfl rfl rfl ?_
    refine w_ld rfl rfl ?_
    refine w_ld rfl rfl ?_
    refine w_ld rfl rfl ?_
    refine w_cj rfl rfl (fun h_69 => ?_) (fun h_69 => ?_)
    · refine w_cst (v := .int 0) rfl rfl ?_
      refine w_sbn rfl rfl rfl (rfl) (by omega) rfl ?_
      first | rw [nar1] | rw [nar0]
      refine w_ld rfl rfl ?_
      refine w_stk rfl rfl ?_
      refine w_getv rfl rfl rfl rfl rfl (Eq.trans (by rw [up2_row (by decide)]) (h19)) ?_
      refine w_ld rfl rfl ?_
      refine w_getr rfl rfl rfl rfl rfl ?_
      refine w_ld rfl rfl ?_
      refine w_abv rfl rfl rfl (rfl) (by omega) rfl (up2_e) ?_
      refine w_cj rfl rfl (fun h_89 => ?_) (fun h_89 => ?_)
      · refine w_cst (v := .int 0) rfl rfl ?_
        refine w_bin rfl rfl ?_
        first
          | exact absurd rfl h_89
          | exact absurd h_89 (by decide)
          | (first
               | rw [show nI (cc l h e) + 0 = nI (cc l h e) from nI_add _ 0]
               | rw [nI_1]
             refine w_put rfl rfl rfl rfl rfl (Or.inl rfl) ?_
             refine w_cst (v := .int 0) rfl rfl ?_
             refine w_sto (L' := [(0, _), (1, _), (2, _), (3, _), (4, _)]) rfl rfl ?_
             refine lp_X12_layTree_104 hS hW hlt (fun M9 hF9 a1 a2 a3 => ih hlt M9 hF9 a1 a2 a3) 0 (Nat.zero_le _) _ (Fm_f (by decide) (Fm_up (by decide) (by decide) hF)) (fun u hu => ?_) (fun i hi => ?_) ?_
             · rw [if_neg (Nat.not_lt_zero u), up2_row (by decide), up2_row (by decide)]
               exact hj u hu
             · rw [up2_row (a := 73) (x := 85) (by decide)]
               by_cases q : i = e
               · rw [q, up2_e]
                 first
                   | (rw [show isCh l h e = true from decide_eq_true (neq (by omega) (by omega) (Classical.not_not.mp h_69))]
                      rfl)
                   | (rw [show isCh l h e = false from decide_eq_false (fun w => h_69 (congrArg nI w))]
                      rfl)
               · rw [up2_k q]
                 exact h85 i (by omega)
             · rw [up2_e]
               first
                 | rw [cc_s1 (show isCh l h e = true from decide_eq_true (neq (by omega) (by omega) (Classical.not_not.mp h_69)))]
                 | rw [cc_s0 (show isCh l h e = false from decide_eq_false (fun w => h_69 (congrArg nI w)))])
      · refine w_cst (v := .int 1) rfl rfl ?_
        refine w_go rfl ?_
        refine w_bin rfl rfl ?_
        first
          | exact absurd rfl h_89
          | exact absurd h_89 (by decide)
          | (first
               | rw [show nI (cc l h e) + 0 = nI (cc l h e) from nI_add _ 0]
               | rw [nI_1]
             refine w_put rfl rfl rfl rfl rfl (Or.inl rfl) ?_
             refine w_cst (v := .int 0) rfl rfl ?_
             refine w_sto (L' := [(0, _), (1, _), (2, _), (3, _), (4, _)]) rfl rfl ?_
             refine lp_X12_layTree_104 hS hW hlt (fun M9 hF9 a1 a2 a3 => ih hlt M9 hF9 a1 a2 a3) 0 (Nat.zero_le _) _ (Fm_f (by decide) (Fm_up (by decide) (by decide) hF)) (fun u hu => ?_) (fun i hi => ?_) ?_
             · rw [if_neg (Nat.not_lt_zero u), up2_row (by decide), up2_row (by decide)]
               exact hj u hu
             · rw [up2_row (a := 73) (x := 85) (by decide)]
               by_cases q : i = e
               · rw [q, up2_e]
                 first
                   | (rw [show isCh l h e = true from decide_eq_true (neq (by omega) (by omega) (Classical.not_not.mp h_69))]
                      rfl)
                   | (rw [show isCh l h e = false from decide_eq_false (fun w => h_69 (congrArg nI w))]
                      rfl)
               · rw [up2_k q]
                 exact h85 i (by omega)
             · rw [up2_e]
               first
                 | rw [cc_s1 (show isCh l h e = true from decide_eq_true (neq (by omega) (by omega) (Classical.not_not.mp h_69)))]
                 | rw [cc_s0 (show isCh l h e = false from decide_eq_false (fun w => h_69 (congrArg nI w)))])
    · refine w_cst (v := .int 1) rfl rfl ?_
      refine w_go rfl ?_
      refine w_sbn rfl rfl rfl (rfl) (by omega) rfl ?_
      first | rw [nar1] | rw [nar0]
      refine w_ld rfl rfl ?_
      refine w_stk rfl rfl ?_
      refine w_getv rfl rfl rfl rfl rfl (Eq.trans (by rw [up2_row (by decide)]) (h19)) ?_
      refine w_ld rfl rfl ?_
      refine w_getr rfl rfl rfl rfl rfl ?_
      refine w_ld rfl rfl ?_
      refine w_abv rfl rfl rfl (rfl) (by omega) rfl (up2_e) ?_
      refine w_cj rfl rfl (fun h_89 => ?_) (fun h_89 => ?_)
      · refine w_cst (v := .int 0) rfl rfl ?_
        refine w_bin rfl rfl ?_
        first
          | exact absurd rfl h_89
          | exact absurd h_89 (by decide)
          | (first
               | rw [show nI (cc l h e) + 0 = nI (cc l h e) from nI_add _ 0]
               | rw [nI_1]
             refine w_put rfl rfl rfl rfl rfl (Or.inl rfl) ?_
             refine w_cst (v := .int 0) rfl rfl ?_
             refine w_sto (L' := [(0, _), (1, _), (2, _), (3, _), (4, _)]) rfl rfl ?_
             refine lp_X12_layTree_104 hS hW hlt (fun M9 hF9 a1 a2 a3 => ih hlt M9 hF9 a1 a2 a3) 0 (Nat.zero_le _) _ (Fm_f (by decide) (Fm_up (by decide) (by decide) hF)) (fun u hu => ?_) (fun i hi => ?_) ?_
             · rw [if_neg (Nat.not_lt_zero u), up2_row (by decide), up2_row (by decide)]
               exact hj u hu
             · rw [up2_row (a := 73) (x := 85) (by decide)]
               by_cases q : i = e
               · rw [q, up2_e]
                 first
                   | (rw [show isCh l h e = true from decide_eq_true (neq (by omega) (by omega) (Classical.not_not.mp h_69))]
                      rfl)
                   | (rw [show isCh l h e = false from decide_eq_false (fun w => h_69 (congrArg nI w))]
                      rfl)
               · rw [up2_k q]
                 exact h85 i (by omega)
             · rw [up2_e]
               first
                 | rw [cc_s1 (show isCh l h e = true from decide_eq_true (neq (by omega) (by omega) (Classical.not_not.mp h_69)))]
                 | rw [cc_s0 (show isCh l h e = false from decide_eq_false (fun w => h_69 (congrArg nI w)))])
      · refine w_cst (v := .int 1) rfl rfl ?_
        refine w_go rfl ?_
        refine w_bin rfl rfl ?_
        first
          | exact absurd rfl h_89
          | exact absurd h_89 (by decide)
          | (first
               | rw [show nI (cc l h e) + 0 = nI (cc l h e) from nI_add _ 0]
               | rw [nI_1]
             refine w_put rfl rfl rfl rfl rfl (Or.inl rfl) ?_
             refine w_cst (v := .int 0) rfl rfl ?_
             refine w_sto (L' := [(0, _), (1, _), (2, _), (3, _), (4, _)]) rfl rfl ?_
             refine lp_X12_layTree_104 hS hW hlt (fun M9 hF9 a1 a2 a3 => ih hlt M9 hF9 a1 a2 a3) 0 (Nat.zero_le _) _ (Fm_f (by decide) (Fm_up (by decide) (by decide) hF)) (fun u hu => ?_) (fun i hi => ?_) ?_
             · rw [if_neg (Nat.not_lt_zero u), up2_row (by decide), up2_row (by decide)]
               exact hj u hu
             · rw [up2_row (a := 73) (x := 85) (by decide)]
               by_cases q : i = e
               · rw [q, up2_e]
                 first
                   | (rw [show isCh l h e = true from decide_eq_true (neq (by omega) (by omega) (Classical.not_not.mp h_69))]
                      rfl)
                   | (rw [show isCh l h e = false from decide_eq_false (fun w => h_69 (congrArg nI w))]
                      rfl)
               · rw [up2_k q]
                 exact h85 i (by omega)
             · rw [up2_e]
               first
                 | rw [cc_s1 (show isCh l h e = true from decide_eq_true (neq (by omega) (by omega) (Classical.not_not.mp h_69)))]
                 | rw [cc_s0 (show isCh l h e = false from decide_eq_false (fun w => h_69 (congrArg nI w)))])

set_option maxHeartbeats 1000000 in
set_option maxRecDepth 10000 in
theorem lp_X12_layTree_7 {d : Nat} {M : Mm} {ML : Ml} {N E A : Nat} {l h : Nat → Nat} (hS : NM M N E A l h) (hW : WN N E A l h) : ∀ e, e ≤ N → ∀ M', Fm [85, 86] [19] M M' → (∀ v, v < e → M' 86 v = nI v) → M' 73 19 = 0 → WP d cd_X12_layTree false (fun r M2 L2 => r = none ∧ L2 = ML ∧ Fm [85, 86] [19] M M2 ∧ TR M2 E l h) (7, [(0, .ref 73), (1, .int (nI e))], [], (SH, M', ML)) := by
  have hN7 := hW.2.1
  have hE10 := hW.2.2.1
  have hb : ∀ e, e < E → l e < N ∧ h e < N := fun e he => by have := hW.2.2.2.2 e he; omega
  have hLl : ∀ e, e ≤ E → ∀ v, v < N → LA l h e v < N := fun e he v hv => lb_lt hb e he v hv
  refine up_ind fun e he ih => ?_
  intro M' hF hj h19
  have hS' := NM_Fm hS hF (by decide) (by decide)
  refine w_ld rfl rfl ?_
  refine w_ld rfl rfl ?_
  refine w_getv rfl rfl rfl rfl rfl (hS'.1) ?_
  refine w_cj rfl rfl (fun h_12 => ?_) (fun h_12 => ?_)
  · have h9 : e = N := by have := nle (by omega) (by omega) h_12; omega
    subst h9
    refine w_cst (v := .int 0) rfl rfl ?_
    refine w_sto (L' := [(0, _), (1, _)]) rfl rfl ?_
    exact lp_X12_layTree_30 hS hW 0 (Nat.zero_le _) M' hF hj (fun i hi => absurd hi (Nat.not_lt_zero i)) h19
  · have hlt : e < N := nnle (by omega) (by omega) h_12
    refine w_ld rfl rfl ?_
    refine w_getr rfl rfl rfl rfl rfl ?_
    refine w_ld rfl rfl ?_
    refine w_ld rfl rfl ?_
    refine w_sin rfl rfl rfl (rfl) (by omega) rfl ?_
    refine w_inc (y := _ + 1) rfl rfl rfl ?_
    refine w_norm (L' := [(0, _), (1, _)]) rfl ?_
    refine w_go rfl ?_
    rw [nI_1]
    refine ih hlt _ (Fm_up (by decide) (by decide) hF) (fun v hv => ?_) (by rw [up2_row (by decide)]; exact h19)
    by_cases q : v = e
    · rw [q, up2_e]
    · rw [up2_k q]
      exact hj v (by omega)

set_option maxHeartbeats 1000000 in
set_option maxRecDepth 10000 in
theorem ok_X12_layTree {d : Nat} {M : Mm} {ML : Ml} {N E A : Nat} {l h : Nat → Nat} (hS : NM M N E A l h) (hW : WN N E A l h) : EX (d + 1) k_X12_layTree [.ref 73] M ML (fun r M2 L2 => r = none ∧ L2 = ML ∧ Fm [85, 86] [19] M M2 ∧ TR M2 E l h) := by
  refine EX_in mi_X12_layTree rfl rfl ?_
  show WP _ cd_X12_layTree false _ (0, [(0, .ref 73)], [], (SH, M, ML))
  refine w_ld rfl rfl ?_
  refine w_cst (v := .int 0) rfl rfl ?_
  refine w_put rfl rfl rfl rfl rfl (Or.inl rfl) ?_
  refine w_cst (v := .int 0) rfl rfl ?_
  refine w_sto (L' := [(0, _), (1, _)]) rfl rfl ?_
  exact lp_X12_layTree_7 hS hW 0 (Nat.zero_le _) _ (Fm_f (by decide) Fm_rf) (fun v hv => absurd hv (Nat.not_lt_zero v)) up2_e

