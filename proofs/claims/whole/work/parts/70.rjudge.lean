/-! ===== judge of the reference ===== -/
set_option maxHeartbeats 1000000 in
set_option maxRecDepth 10000 in
theorem lp_X12_judge_39 {d : Nat} {M : Mm} {ML : Ml} {N E A : Nat} {l h : Nat → Nat} (hS : NM M N E A l h) (hW : WN N E A l h) {a n i : Nat} (hi : i < 6) (ha : a < 2 ^ E) (h0 : nrV (M 81 i) = 0) (hn : M 83 i = nI n) (hn20 : n ≤ 20) : ∀ e, e ≤ E → ∀ M', Fm [85, 86, 87] [19] M M' → TR M' E l h → (∀ j, j < cc l h e → jdP l h E (nI a) n (fun k => M 84 (20 * i + k)) j = false) → WP (d + 3) cd_X12_judge false (fun r M2 L2 => r = some (.int (jdR l h E (nI a) n (fun k => M 84 (20 * i + k)))) ∧ L2 = ML ∧ Fm [85, 86, 87] [19] M M2) (39, [(0, .ref 73), (1, .int (nI i)), (2, .int (nI a)), (3, .int 0), (4, .int (nI (cc l h e))), (5, .int (nI e))], [], (SH, M', ML)) := by
  have hE10 := hW.2.2.1
  have h1024 := pow_b hE10
  have hcE := cc_le l h E
  refine up_ind fun e he ih => ?_
  intro M' hF hT hj
  have hS' := NM_Fm hS hF (by decide) (by decide)
  have hn' : M' 83 i = nI n := by rw [hF.1 83 (by decide) (by decide)]; exact hn
  have hce := cc_le l h e
  refine w_ld rfl rfl ?_
  refine w_ld rfl rfl ?_
  refine w_getv rfl rfl rfl rfl rfl (hS'.2.1) ?_
  refine w_cj rfl rfl (fun h_45 => ?_) (fun h_45 => ?_)
  · refine w_ld rfl rfl ?_
    refine w_getr rfl rfl rfl rfl rfl ?_
    refine w_ld rfl rfl ?_
    refine w_aiv rfl rfl rfl (rfl) (by omega) rfl (hn') ?_
    refine w_ld rfl rfl ?_
    refine w_cj rfl rfl (fun h_114 => ?_) (fun h_114 => ?_)
    · refine w_cst (v := .int (-2)) rfl rfl ?_
      refine w_ret rfl rfl (trivial) ?_
      have h9 : e = E := by have := nle (by omega) (by omega) h_45; omega
      subst h9
      refine ⟨?_, rfl, hF⟩
      rw [jdR_end hj]
      first
        | rw [if_neg (Nat.not_lt.mpr (nle (by omega) (by omega) h_114))]
        | rw [if_pos (nnle (by omega) (by omega) h_114)]
    · refine w_ld rfl rfl ?_
      refine w_go rfl ?_
      refine w_ret rfl rfl (trivial) ?_
      have h9 : e = E := by have := nle (by omega) (by omega) h_45; omega
      subst h9
      refine ⟨?_, rfl, hF⟩
      rw [jdR_end hj]
      first
        | rw [if_neg (Nat.not_lt.mpr (nle (by omega) (by omega) h_114))]
        | rw [if_pos (nnle (by omega) (by omega) h_114)]
  · have hlt : e < E := nnle (by omega) (by omega) h_45
    refine w_ld rfl rfl ?_
    refine w_getr rfl rfl rfl rfl rfl ?_
    refine w_ld rfl rfl ?_
    refine w_abv rfl rfl rfl (rfl) (by omega) rfl (hT.1 e hlt) ?_
    refine w_cj rfl rfl (fun h_55 => ?_) (fun h_55 => ?_)
    · have hch := hct h_55
      have hkt := kth_of hlt hch
      have hcl := cc_lt hlt hch
      refine w_ld rfl rfl ?_
      refine w_ld rfl rfl ?_
      refine w_getr rfl rfl rfl rfl rfl ?_
      refine w_ld rfl rfl ?_
      refine w_aiv rfl rfl rfl (rfl) (by omega) rfl (hn') ?_
      refine w_cj rfl rfl (fun h_69 => ?_) (fun h_69 => ?_)
      · refine w_ld rfl rfl ?_
        refine w_ret rfl rfl (trivial) ?_
        first
          | (refine ⟨?_, rfl, Fm_tr hF (Fm_mono hF2 (by decide) (by decide))⟩
             rw [jdR_at hcl (by unfold jdP; rw [hkt, decide_eq_false h_91]; simp) hj])
          | (refine ⟨?_, rfl, hF⟩
             rw [jdR_at hcl (by unfold jdP; rw [decide_eq_true (nle (by omega) (by omega) h_69), Bool.true_or]) hj])
      · have hkn : cc l h e < n := nnle (by omega) (by omega) h_69
        refine w_ld rfl rfl ?_
        refine w_getr rfl rfl rfl rfl rfl ?_
        refine w_cst (v := .int 20) rfl rfl ?_
        refine w_ld rfl rfl ?_
        refine w_bin rfl rfl ?_
        refine w_ld rfl rfl ?_
        refine w_bin rfl rfl ?_
        rw [nI_20]
        refine w_aiv rfl rfl rfl (rfl) (by omega) rfl (congrFun (hF.1 84 (by decide) (by decide)) _) ?_
        refine w_ld rfl rfl ?_
        refine w_ld rfl rfl ?_
        refine w_ld rfl rfl ?_
        obtain ⟨_, M3, L3, ⟨rfl, rfl, hF2⟩, hE88⟩ := ok_X12_flowOf (d := d) (ML := ML) (x := nI a) hS' hW hT.1 hlt hch
        refine w_call (as := [_, _, _]) (rest := [_]) rfl rfl rfl rfl rfl rfl rfl rfl hE88 ?_
        refine w_cj rfl rfl (fun h_91 => ?_) (fun h_91 => ?_)
        · refine w_inc (y := _ + 1) rfl rfl rfl ?_
          refine w_norm (L' := [(0, _), (1, _), (2, _), (3, _), (4, _), (5, _)]) rfl ?_
          refine w_inc (y := _ + 1) rfl rfl rfl ?_
          refine w_norm (L' := [(0, _), (1, _), (2, _), (3, _), (4, _), (5, _)]) rfl ?_
          refine w_go rfl ?_
          first
            | exact (fun (hcn : isCh l h e = false) => by
                rw [nI_1]
                have hp := ih hlt M' hF hT
                rw [cc_s0 hcn] at hp
                exact hp hj) (hcf h_55)
            | (rw [nI_1, nI_1]
               have hp := ih hlt M3 (Fm_tr hF (Fm_mono hF2 (by decide) (by decide))) (TR_Fm hT hF2 (by decide) (by decide))
               rw [cc_s1 hch] at hp
               refine hp (fun j hjk => ?_)
               rcases Nat.lt_or_ge j (cc l h e) with w | w
               · exact hj j w
               · have : j = cc l h e := by omega
                 subst this
                 unfold jdP
                 rw [hkt, decide_eq_true (Classical.not_not.mp (fun y => y h_91)), decide_eq_false (by omega)]
                 rfl)
        · refine w_ld rfl rfl ?_
          refine w_ret rfl rfl (trivial) ?_
          first
            | (refine ⟨?_, rfl, Fm_tr hF (Fm_mono hF2 (by decide) (by decide))⟩
               rw [jdR_at hcl (by unfold jdP; rw [hkt, decide_eq_false h_91]; simp) hj])
            | (refine ⟨?_, rfl, hF⟩
               rw [jdR_at hcl (by unfold jdP; rw [decide_eq_true (nle (by omega) (by omega) h_69), Bool.true_or]) hj])
    · refine w_go rfl ?_
      refine w_inc (y := _ + 1) rfl rfl rfl ?_
      refine w_norm (L' := [(0, _), (1, _), (2, _), (3, _), (4, _), (5, _)]) rfl ?_
      refine w_go rfl ?_
      first
        | exact (fun (hcn : isCh l h e = false) => by
            rw [nI_1]
            have hp := ih hlt M' hF hT
            rw [cc_s0 hcn] at hp
            exact hp hj) (hcf h_55)
        | (rw [nI_1, nI_1]
           have hp := ih hlt M3 (Fm_tr hF (Fm_mono hF2 (by decide) (by decide))) (TR_Fm hT hF2 (by decide) (by decide))
           rw [cc_s1 hch] at hp
           refine hp (fun j hjk => ?_)
           rcases Nat.lt_or_ge j (cc l h e) with w | w
           · exact hj j w
           · have : j = cc l h e := by omega
             subst this
             unfold jdP
             rw [hkt, decide_eq_true (Classical.not_not.mp (fun y => y h_91)), decide_eq_false (by omega)]
             rfl)

set_option maxHeartbeats 1000000 in
set_option maxRecDepth 10000 in
theorem ok_X12_judge_y {d : Nat} {M : Mm} {ML : Ml} {N E A : Nat} {l h : Nat → Nat} (hS : NM M N E A l h) (hW : WN N E A l h) {a n i : Nat} (hi : i < 6) (ha : a < 2 ^ E) (h0 : nrV (M 81 i) = 0) (hn : M 83 i = nI n) (hn20 : n ≤ 20) : EX (d + 4) k_X12_judge [.ref 73, .int (nI i), .int (nI a)] M ML (fun r M2 L2 => r = some (.int (jdR l h E (nI a) n (fun k => M 84 (20 * i + k)))) ∧ L2 = ML ∧ Fm [85, 86, 87] [19] M M2) := by
  refine EX_in mi_X12_judge rfl rfl ?_
  show WP _ cd_X12_judge false _ (0, [(0, .ref 73), (1, .int (nI i)), (2, .int (nI a))], [], (SH, M, ML))
  have hE10 := hW.2.2.1
  have h1024 := pow_b hE10
  have hcE := cc_le l h E
  refine w_ld rfl rfl ?_
  refine w_cife (as := [_]) (rest := []) rfl rfl rfl rfl rfl rfl rfl rfl (ok_X12_isHolder ..) rfl (fun h_1 => ?_) (fun h_1 => ?_)
  · exfalso
    first
      | (rw [inR_nI (by omega) ha] at h_9; exact Bool.noConfusion h_9)
      | (rw [h6 hi] at h_1; exact Bool.noConfusion h_1)
  · refine w_ld rfl rfl ?_
    refine w_ld rfl rfl ?_
    refine w_cifn (as := [_, _]) (rest := []) rfl rfl rfl rfl rfl rfl rfl rfl (ok_X12_isArrowing _ _ _ _ hS.2.1 hW.2.2.1) rfl (fun h_9 => ?_) (fun h_9 => ?_)
    · refine w_ld rfl rfl ?_
      refine w_ld rfl rfl ?_
      refine w_call (as := [_, _]) (rest := []) rfl rfl rfl rfl rfl rfl rfl rfl (ok_X12_hinders_y _ _ _ hi) ?_
      rw [h0]
      refine w_sto (L' := [(0, _), (1, _), (2, _), (3, _)]) rfl rfl ?_
      refine w_ld rfl rfl ?_
      refine w_cjT rfl rfl (by decide) ?_
      refine w_ld rfl rfl ?_
      obtain ⟨_, M3, L3, ⟨rfl, rfl, hF, hT⟩, hE30⟩ := ok_X12_layTree (d := d + 2) (ML := ML) hS hW
      refine w_callv (as := [_]) (rest := []) rfl rfl rfl rfl rfl rfl rfl rfl hE30 ?_
      refine w_cst (v := .int 0) rfl rfl ?_
      refine w_sto (L' := [(0, _), (1, _), (2, _), (3, _), (4, _)]) rfl rfl ?_
      refine w_cst (v := .int 0) rfl rfl ?_
      refine w_sto (L' := [(0, _), (1, _), (2, _), (3, _), (4, _), (5, _)]) rfl rfl ?_
      exact lp_X12_judge_39 hS hW hi ha h0 hn hn20 0 (Nat.zero_le _) M3 (Fm_mono hF (by decide) (by decide)) hT (fun j hj => absurd hj (Nat.not_lt_zero j))
    · exfalso
      first
        | (rw [inR_nI (by omega) ha] at h_9; exact Bool.noConfusion h_9)
        | (rw [h6 hi] at h_1; exact Bool.noConfusion h_1)

set_option maxHeartbeats 1000000 in
set_option maxRecDepth 10000 in
theorem ok_X12_judge_b {d : Nat} {M : Mm} {ML : Ml} {N E A : Nat} {l h : Nat → Nat} (hS : NM M N E A l h) (hW : WN N E A l h) {i : Nat} (hi : i < 6) {x : Int32} (hq : inR x (2 ^ E) = false ∨ ¬ nrV (M 81 i) = 0) {n : Nat} {f : Nat → Int32} : EX (d + 4) k_X12_judge [.ref 73, .int (nI i), .int x] M ML (fun r M2 L2 => r = some (.int (jdV l h E x (M 81 i) n f)) ∧ L2 = ML ∧ M2 = M) := by
  refine EX_in mi_X12_judge rfl rfl ?_
  show WP _ cd_X12_judge false _ (0, [(0, .ref 73), (1, .int (nI i)), (2, .int x)], [], (SH, M, ML))
  have hE10 := hW.2.2.1
  have h1024 := pow_b hE10
  have hcE := cc_le l h E
  refine w_ld rfl rfl ?_
  refine w_cife (as := [_]) (rest := []) rfl rfl rfl rfl rfl rfl rfl rfl (ok_X12_isHolder ..) rfl (fun h_1 => ?_) (fun h_1 => ?_)
  · refine w_cst (v := .int (-1)) rfl rfl ?_
    refine w_ret rfl rfl (trivial) ?_
    refine ⟨?_, rfl, rfl⟩
    unfold jdV
    first
      | (rw [h_9]; rfl)
      | (rw [h6 hi] at h_1; exact Bool.noConfusion h_1)
  · refine w_ld rfl rfl ?_
    refine w_ld rfl rfl ?_
    refine w_cifn (as := [_, _]) (rest := []) rfl rfl rfl rfl rfl rfl rfl rfl (ok_X12_isArrowing _ _ _ _ hS.2.1 hW.2.2.1) rfl (fun h_9 => ?_) (fun h_9 => ?_)
    · refine w_ld rfl rfl ?_
      refine w_ld rfl rfl ?_
      refine w_call (as := [_, _]) (rest := []) rfl rfl rfl rfl rfl rfl rfl rfl (ok_X12_hinders_y _ _ _ hi) ?_
      refine w_sto (L' := [(0, _), (1, _), (2, _), (3, _)]) rfl rfl ?_
      refine w_ld rfl rfl ?_
      refine w_cj rfl rfl (fun h_24 => ?_) (fun h_24 => ?_)
      · exfalso
        rcases hq with q | q
        · rw [q] at h_9
          exact Bool.noConfusion h_9
        · exact nrV_neg q h_24
      · refine w_ld rfl rfl ?_
        refine w_ret rfl rfl (trivial) ?_
        refine ⟨?_, rfl, rfl⟩
        unfold jdV
        rw [h_9]
        show some (Value.int (nrV (M 81 i))) = some (Value.int (if nrV (M 81 i) = 0 then _ else _))
        rw [if_neg (fun w => h_24 (by rw [w]; decide))]
    · refine w_cst (v := .int (-1)) rfl rfl ?_
      refine w_ret rfl rfl (trivial) ?_
      refine ⟨?_, rfl, rfl⟩
      unfold jdV
      first
        | (rw [h_9]; rfl)
        | (rw [h6 hi] at h_1; exact Bool.noConfusion h_1)

set_option maxHeartbeats 1000000 in
set_option maxRecDepth 10000 in
theorem ok_X12_judge_n {d : Nat} {M : Mm} {ML : Ml} {x y : Int32} (hx : ¬ (0 ≤ x ∧ x ≤ 5)) : EX (d + 4) k_X12_judge [.ref 73, .int x, .int y] M ML (fun r M2 L2 => r = some (.int (-1)) ∧ L2 = ML ∧ M2 = M) := by
  refine EX_in mi_X12_judge rfl rfl ?_
  show WP _ cd_X12_judge false _ (0, [(0, .ref 73), (1, .int x), (2, .int y)], [], (SH, M, ML))
  refine w_ld rfl rfl ?_
  refine w_cife (as := [_]) (rest := []) rfl rfl rfl rfl rfl rfl rfl rfl (ok_X12_isHolder ..) rfl (fun h_1 => ?_) (fun h_1 => ?_)
  · refine w_cst (v := .int (-1)) rfl rfl ?_
    refine w_ret rfl rfl (trivial) ?_
    exact ⟨rfl, rfl, rfl⟩
  · exact absurd (of_decide_eq_true h_1) hx

