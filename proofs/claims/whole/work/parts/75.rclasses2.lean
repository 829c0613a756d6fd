/-! ===== classes of the reference: the calls ===== -/
set_option maxHeartbeats 1000000 in
set_option maxRecDepth 10000 in
theorem lp_X12_aheadOf_4 {d : Nat} {M : Mm} {ML : Ml} {E : Nat} {l h : Nat → Nat} (hE10 : E ≤ 10) (hC : CLM M E l h) {c : Nat} (hc : c < clC l h E) : ∀ k, k ≤ clC l h E → WP d cd_X12_aheadOf false (fun r M2 L2 => r = some (.int (nI (rkC (clS l h E) (clC l h E) c))) ∧ L2 = ML ∧ M2 = M) (4, [(0, .ref 73), (1, .int (nI c)), (2, .int (nI (fb_ct (fun i => decide (clS l h E c < clS l h E i ∨ (clS l h E i = clS l h E c ∧ i < c))) k))), (3, .int (nI k))], [], (SH, M, ML)) := by
  have h1024 := pow_b hE10
  have hCl : clC l h E ≤ 2 ^ E := hdc_le _
  have hSl : ∀ k, clS l h E k ≤ 2 ^ E := fun k => szN_le _ k
  have hcr := hC.2.2.1 c hc
  have hsc := hSl c
  have hhc := clH_lt hc
  refine up_ind fun k hk ih => ?_
  have hah := fb_ct_le (fun i => decide (clS l h E c < clS l h E i ∨ (clS l h E i = clS l h E c ∧ i < c))) k
  refine w_ld rfl rfl ?_
  refine w_ld rfl rfl ?_
  refine w_getv rfl rfl rfl rfl rfl (hC.2.1) ?_
  refine w_cj rfl rfl (fun h_9 => ?_) (fun h_9 => ?_)
  · refine w_ld rfl rfl ?_
    refine w_ret rfl rfl (trivial) ?_
    have h9 : k = clC l h E := by have := nle (by omega) (by omega) h_9; omega
    subst h9
    exact ⟨rfl, rfl, rfl⟩
  · have hlt : k < clC l h E := nnle (by omega) (by omega) h_9
    have hkr := hC.2.2.1 k hlt
    have hsk := hSl k
    have hhk := clH_lt hlt
    have hiff := clH_iff hlt hc
    refine w_ld rfl rfl ?_
    refine w_ld rfl rfl ?_
    refine w_getr rfl rfl rfl rfl rfl ?_
    refine w_ld rfl rfl ?_
    refine w_aiv rfl rfl rfl (rfl) (by omega) rfl (hkr.1) ?_
    refine w_ld rfl rfl ?_
    refine w_getr rfl rfl rfl rfl rfl ?_
    refine w_ld rfl rfl ?_
    refine w_aiv rfl rfl rfl (rfl) (by omega) rfl (hcr.1) ?_
    refine w_cj rfl rfl (fun h_25 => ?_) (fun h_25 => ?_)
    · refine w_cst (v := .int 1) rfl rfl ?_
      refine w_go rfl ?_
      refine w_bin rfl rfl ?_
      refine w_sto (L' := [(0, _), (1, _), (2, _), (3, _)]) rfl rfl ?_
      refine w_inc (y := _ + 1) rfl rfl rfl ?_
      refine w_norm (L' := [(0, _), (1, _), (2, _), (3, _)]) rfl ?_
      refine w_go rfl ?_
      have hp := ih hlt
      rw [fb_ct_succ] at hp
      first
        | exact (fun (hw : clS l h E c < clS l h E k) => by
            rw [if_pos (decide_eq_true (Or.inl hw))] at hp
            rw [nI_1, nI_1]
            exact hp) (nlt (by omega) (by omega) h_25)
        | exact (fun (hw : clS l h E k = clS l h E c ∧ k < c) => by
            rw [if_pos (decide_eq_true (Or.inr hw))] at hp
            rw [nI_1, nI_1]
            exact hp) ⟨neq (by omega) (by omega) (Classical.not_not.mp h_40), hiff.mp (nnle (by omega) (by omega) h_55)⟩
        | exact (fun (hw : ¬ (clS l h E c < clS l h E k ∨ (clS l h E k = clS l h E c ∧ k < c))) => by
            rw [if_neg (fun w => hw (of_decide_eq_true w))] at hp
            rw [nI_1, show ∀ n : Nat, nI n + 0 = nI n from fun n => nI_add n 0]
            exact hp) (fun w => w.elim (fun y => h_25 (nI_lt y (by omega))) (fun y => h_40 (congrArg nI y.1)))
        | exact (fun (hw : ¬ (clS l h E c < clS l h E k ∨ (clS l h E k = clS l h E c ∧ k < c))) => by
            rw [if_neg (fun w => hw (of_decide_eq_true w))] at hp
            rw [nI_1, show ∀ n : Nat, nI n + 0 = nI n from fun n => nI_add n 0]
            exact hp) (fun w => w.elim (fun y => h_25 (nI_lt y (by omega))) (fun y => absurd (nle (by omega) (by omega) h_55) (Nat.not_le.mpr (hiff.mpr y.2))))
    · refine w_ld rfl rfl ?_
      refine w_getr rfl rfl rfl rfl rfl ?_
      refine w_ld rfl rfl ?_
      refine w_aiv rfl rfl rfl (rfl) (by omega) rfl (hkr.1) ?_
      refine w_ld rfl rfl ?_
      refine w_getr rfl rfl rfl rfl rfl ?_
      refine w_ld rfl rfl ?_
      refine w_aiv rfl rfl rfl (rfl) (by omega) rfl (hcr.1) ?_
      refine w_cj rfl rfl (fun h_40 => ?_) (fun h_40 => ?_)
      · refine w_cst (v := .int 0) rfl rfl ?_
        refine w_bin rfl rfl ?_
        refine w_sto (L' := [(0, _), (1, _), (2, _), (3, _)]) rfl rfl ?_
        refine w_inc (y := _ + 1) rfl rfl rfl ?_
        refine w_norm (L' := [(0, _), (1, _), (2, _), (3, _)]) rfl ?_
        refine w_go rfl ?_
        have hp := ih hlt
        rw [fb_ct_succ] at hp
        first
          | exact (fun (hw : clS l h E c < clS l h E k) => by
              rw [if_pos (decide_eq_true (Or.inl hw))] at hp
              rw [nI_1, nI_1]
              exact hp) (nlt (by omega) (by omega) h_25)
          | exact (fun (hw : clS l h E k = clS l h E c ∧ k < c) => by
              rw [if_pos (decide_eq_true (Or.inr hw))] at hp
              rw [nI_1, nI_1]
              exact hp) ⟨neq (by omega) (by omega) (Classical.not_not.mp h_40), hiff.mp (nnle (by omega) (by omega) h_55)⟩
          | exact (fun (hw : ¬ (clS l h E c < clS l h E k ∨ (clS l h E k = clS l h E c ∧ k < c))) => by
              rw [if_neg (fun w => hw (of_decide_eq_true w))] at hp
              rw [nI_1, show ∀ n : Nat, nI n + 0 = nI n from fun n => nI_add n 0]
              exact hp) (fun w => w.elim (fun y => h_25 (nI_lt y (by omega))) (fun y => h_40 (congrArg nI y.1)))
          | exact (fun (hw : ¬ (clS l h E c < clS l h E k ∨ (clS l h E k = clS l h E c ∧ k < c))) => by
              rw [if_neg (fun w => hw (of_decide_eq_true w))] at hp
              rw [nI_1, show ∀ n : Nat, nI n + 0 = nI n from fun n => nI_add n 0]
              exact hp) (fun w => w.elim (fun y => h_25 (nI_lt y (by omega))) (fun y => absurd (nle (by omega) (by omega) h_55) (Nat.not_le.mpr (hiff.mpr y.2))))
      · refine w_ld rfl rfl ?_
        refine w_getr rfl rfl rfl rfl rfl ?_
        refine w_ld rfl rfl ?_
        refine w_aiv rfl rfl rfl (rfl) (by omega) rfl (hkr.2) ?_
        refine w_ld rfl rfl ?_
        refine w_getr rfl rfl rfl rfl rfl ?_
        refine w_ld rfl rfl ?_
        refine w_aiv rfl rfl rfl (rfl) (by omega) rfl (hcr.2) ?_
        refine w_cj rfl rfl (fun h_55 => ?_) (fun h_55 => ?_)
        · refine w_cst (v := .int 0) rfl rfl ?_
          refine w_bin rfl rfl ?_
          refine w_sto (L' := [(0, _), (1, _), (2, _), (3, _)]) rfl rfl ?_
          refine w_inc (y := _ + 1) rfl rfl rfl ?_
          refine w_norm (L' := [(0, _), (1, _), (2, _), (3, _)]) rfl ?_
          refine w_go rfl ?_
          have hp := ih hlt
          rw [fb_ct_succ] at hp
          first
            | exact (fun (hw : clS l h E c < clS l h E k) => by
                rw [if_pos (decide_eq_true (Or.inl hw))] at hp
                rw [nI_1, nI_1]
                exact hp) (nlt (by omega) (by omega) h_25)
            | exact (fun (hw : clS l h E k = clS l h E c ∧ k < c) => by
                rw [if_pos (decide_eq_true (Or.inr hw))] at hp
                rw [nI_1, nI_1]
                exact hp) ⟨neq (by omega) (by omega) (Classical.not_not.mp h_40), hiff.mp (nnle (by omega) (by omega) h_55)⟩
            | exact (fun (hw : ¬ (clS l h E c < clS l h E k ∨ (clS l h E k = clS l h E c ∧ k < c))) => by
                rw [if_neg (fun w => hw (of_decide_eq_true w))] at hp
                rw [nI_1, show ∀ n : Nat, nI n + 0 = nI n from fun n => nI_add n 0]
                exact hp) (fun w => w.elim (fun y => h_25 (nI_lt y (by omega))) (fun y => h_40 (congrArg nI y.1)))
            | exact (fun (hw : ¬ (clS l h E c < clS l h E k ∨ (clS l h E k = clS l h E c ∧ k < c))) => by
                rw [if_neg (fun w => hw (of_decide_eq_true w))] at hp
                rw [nI_1, show ∀ n : Nat, nI n + 0 = nI n from fun n => nI_add n 0]
                exact hp) (fun w => w.elim (fun y => h_25 (nI_lt y (by omega))) (fun y => absurd (nle (by omega) (by omega) h_55) (Nat.not_le.mpr (hiff.mpr y.2))))
        · refine w_cst (v := .int 1) rfl rfl ?_
          refine w_go rfl ?_
          refine w_bin rfl rfl ?_
          refine w_sto (L' := [(0, _), (1, _), (2, _), (3, _)]) rfl rfl ?_
          refine w_inc (y := _ + 1) rfl rfl rfl ?_
          refine w_norm (L' := [(0, _), (1, _), (2, _), (3, _)]) rfl ?_
          refine w_go rfl ?_
          have hp := ih hlt
          rw [fb_ct_succ] at hp
          first
            | exact (fun (hw : clS l h E c < clS l h E k) => by
                rw [if_pos (decide_eq_true (Or.inl hw))] at hp
                rw [nI_1, nI_1]
                exact hp) (nlt (by omega) (by omega) h_25)
            | exact (fun (hw : clS l h E k = clS l h E c ∧ k < c) => by
                rw [if_pos (decide_eq_true (Or.inr hw))] at hp
                rw [nI_1, nI_1]
                exact hp) ⟨neq (by omega) (by omega) (Classical.not_not.mp h_40), hiff.mp (nnle (by omega) (by omega) h_55)⟩
            | exact (fun (hw : ¬ (clS l h E c < clS l h E k ∨ (clS l h E k = clS l h E c ∧ k < c))) => by
                rw [if_neg (fun w => hw (of_decide_eq_true w))] at hp
                rw [nI_1, show ∀ n : Nat, nI n + 0 = nI n from fun n => nI_add n 0]
                exact hp) (fun w => w.elim (fun y => h_25 (nI_lt y (by omega))) (fun y => h_40 (congrArg nI y.1)))
            | exact (fun (hw : ¬ (clS l h E c < clS l h E k ∨ (clS l h E k = clS l h E c ∧ k < c))) => by
                rw [if_neg (fun w => hw (of_decide_eq_true w))] at hp
                rw [nI_1, show ∀ n : Nat, nI n + 0 = nI n from fun n => nI_add n 0]
                exact hp) (fun w => w.elim (fun y => h_25 (nI_lt y (by omega))) (fun y => absurd (nle (by omega) (by omega) h_55) (Nat.not_le.mpr (hiff.mpr y.2))))

set_option maxHeartbeats 1000000 in
set_option maxRecDepth 10000 in
theorem ok_X12_aheadOf {d : Nat} {M : Mm} {ML : Ml} {E : Nat} {l h : Nat → Nat} (hE10 : E ≤ 10) (hC : CLM M E l h) {c : Nat} (hc : c < clC l h E) : EX (d + 1) k_X12_aheadOf [.ref 73, .int (nI c)] M ML (fun r M2 L2 => r = some (.int (nI (rkC (clS l h E) (clC l h E) c))) ∧ L2 = ML ∧ M2 = M) := by
  refine EX_in mi_X12_aheadOf rfl rfl ?_
  show WP _ cd_X12_aheadOf false _ (0, [(0, .ref 73), (1, .int (nI c))], [], (SH, M, ML))
  refine w_cst (v := .int 0) rfl rfl ?_
  refine w_sto (L' := [(0, _), (1, _), (2, _)]) rfl rfl ?_
  refine w_cst (v := .int 0) rfl rfl ?_
  refine w_sto (L' := [(0, _), (1, _), (2, _), (3, _)]) rfl rfl ?_
  exact lp_X12_aheadOf_4 hE10 hC hc 0 (Nat.zero_le _)

set_option maxHeartbeats 1000000 in
set_option maxRecDepth 10000 in
theorem ok_X12_many {d : Nat} {M : Mm} {ML : Ml} {N E A : Nat} {l h : Nat → Nat} (hS : NM M N E A l h) (hW : WN N E A l h) {y : Int32} : EX (d + 6) k_X12_many [.ref 73, .int y] M ML (fun r M2 L2 => r = some (.int (manyA l h E y)) ∧ Fm [85, 86, 87, 88, 89, 90] [19, 21, 22] M M2) := by
  refine EX_in mi_X12_many rfl rfl ?_
  show WP _ cd_X12_many false _ (0, [(0, .ref 73), (1, .int y)], [], (SH, M, ML))
  refine w_ld rfl rfl ?_
  refine w_cst (v := .int 0) rfl rfl ?_
  refine w_cst (v := .int 1) rfl rfl ?_
  refine w_cifn (as := [_, _, _]) (rest := []) rfl rfl rfl rfl rfl rfl rfl rfl (ok_X12_in ..) rfl (fun h_3 => ?_) (fun h_3 => ?_)
  · refine w_ld rfl rfl ?_
    obtain ⟨_, M3, L3, ⟨rfl, hF, hC⟩, hE12⟩ := ok_X12_layClasses (d := d) (ML := ML) hS hW
    refine w_callv (as := [_]) (rest := []) rfl rfl rfl rfl rfl rfl rfl rfl hE12 ?_
    refine w_ld rfl rfl ?_
    refine w_cj rfl rfl (fun h_16 => ?_) (fun h_16 => ?_)
    · refine w_ld rfl rfl ?_
      refine w_getv rfl rfl rfl rfl rfl (hC.2.1) ?_
      refine w_ret rfl rfl (trivial) ?_
      refine ⟨?_, hF⟩
      unfold manyA
      rw [show wh y 1 = true from h_3]
      show _ = some (Value.int (if y = 0 then _ else _))
      first
        | rw [if_pos (Classical.not_not.mp h_16)]
        | rw [if_neg h_16]
    · refine w_ld rfl rfl ?_
      refine w_getv rfl rfl rfl rfl rfl (hC.1) ?_
      refine w_go rfl ?_
      refine w_ret rfl rfl (trivial) ?_
      refine ⟨?_, hF⟩
      unfold manyA
      rw [show wh y 1 = true from h_3]
      show _ = some (Value.int (if y = 0 then _ else _))
      first
        | rw [if_pos (Classical.not_not.mp h_16)]
        | rw [if_neg h_16]
  · refine w_cst (v := .int (-1)) rfl rfl ?_
    refine w_ret rfl rfl (trivial) ?_
    refine ⟨?_, Fm_rf⟩
    unfold manyA
    rw [show wh y 1 = false from h_3]
    exact rfl

set_option maxHeartbeats 1000000 in
set_option maxRecDepth 10000 in
theorem lp_X12_ofClass_21 {d : Nat} {M : Mm} {ML : Ml} {E : Nat} {l h : Nat → Nat} (hE10 : E ≤ 10) (hC : CLM M E l h) {k : Nat} (hk : k < 2 ^ 31) {y : Int32} : ∀ c, c ≤ clC l h E → (∀ j, j < c → ¬ rkC (clS l h E) (clC l h E) j = k) → WP (d + 5) cd_X12_ofClass false (fun r M2 L2 => r = some (.int (ofcV l h E k y)) ∧ M2 = M) (21, [(0, .ref 73), (1, .int (nI k)), (2, .int y), (3, .int (nI c))], [], (SH, M, ML)) := by
  have h1024 := pow_b hE10
  have hCl : clC l h E ≤ 2 ^ E := hdc_le _
  refine up_ind fun c hc ih => ?_
  intro hj
  refine w_ld rfl rfl ?_
  refine w_ld rfl rfl ?_
  refine w_getv rfl rfl rfl rfl rfl (hC.2.1) ?_
  refine w_cj rfl rfl (fun h_26 => ?_) (fun h_26 => ?_)
  · refine w_cst (v := .int (-2)) rfl rfl ?_
    refine w_ret rfl rfl (trivial) ?_
    have h9 := nle (by omega) (by omega) h_26
    refine ⟨?_, rfl⟩
    unfold ofcV
    rw [if_neg (fun (w : ocI (clS l h E) (clC l h E) k < clC l h E) => hj _ (Nat.lt_of_lt_of_le w h9) (of_decide_eq_true (fa_first_yes (fun c => decide (rkC (clS l h E) (clC l h E) c = k)) (clC l h E) w)))]
  · have hlt : c < clC l h E := nnle (by omega) (by omega) h_26
    have hrow := hC.2.2.1 c hlt
    have hrk := rkC_lt (S := clS l h E) hlt
    refine w_ld rfl rfl ?_
    refine w_ld rfl rfl ?_
    refine w_call (as := [_, _]) (rest := []) rfl rfl rfl rfl rfl rfl rfl rfl (EX_ex (ok_X12_aheadOf hE10 hC hlt)) ?_
    refine w_ld rfl rfl ?_
    refine w_cj rfl rfl (fun h_35 => ?_) (fun h_35 => ?_)
    · refine w_inc (y := _ + 1) rfl rfl rfl ?_
      refine w_norm (L' := [(0, _), (1, _), (2, _), (3, _)]) rfl ?_
      refine w_go rfl ?_
      rw [nI_1]
      refine ih hlt (fun j hjc => ?_)
      rcases Nat.lt_or_ge j c with w | w
      · exact hj j w
      · have : j = c := by omega
        subst this
        exact fun y => h_35 (congrArg nI y)
    · have hoc : ocI (clS l h E) (clC l h E) k = c := ff_eq hlt (decide_eq_true (neq (by omega) (by omega) (Classical.not_not.mp h_35))) (fun i hi => decide_eq_false (hj i hi))
      refine w_ld rfl rfl ?_
      refine w_cj rfl rfl (fun h_39 => ?_) (fun h_39 => ?_)
      · refine w_ld rfl rfl ?_
        refine w_getr rfl rfl rfl rfl rfl ?_
        refine w_ld rfl rfl ?_
        refine w_aiv rfl rfl rfl (rfl) (by omega) rfl (hrow.2) ?_
        refine w_ret rfl rfl (trivial) ?_
        refine ⟨?_, rfl⟩
        unfold ofcV
        rw [hoc, if_pos hlt]
        show _ = some (Value.int (if y = 0 then _ else _))
        first
          | rw [if_pos (Classical.not_not.mp h_39)]
          | rw [if_neg h_39]
      · refine w_ld rfl rfl ?_
        refine w_getr rfl rfl rfl rfl rfl ?_
        refine w_ld rfl rfl ?_
        refine w_aiv rfl rfl rfl (rfl) (by omega) rfl (hrow.1) ?_
        refine w_go rfl ?_
        refine w_ret rfl rfl (trivial) ?_
        refine ⟨?_, rfl⟩
        unfold ofcV
        rw [hoc, if_pos hlt]
        show _ = some (Value.int (if y = 0 then _ else _))
        first
          | rw [if_pos (Classical.not_not.mp h_39)]
          | rw [if_neg h_39]

set_option maxHeartbeats 1000000 in
set_option maxRecDepth 10000 in
theorem ok_X12_ofClass {d : Nat} {M : Mm} {ML : Ml} {N E A : Nat} {l h : Nat → Nat} (hS : NM M N E A l h) (hW : WN N E A l h) {x y : Int32} : EX (d + 6) k_X12_ofClass [.ref 73, .int x, .int y] M ML (fun r M2 L2 => r = some (.int (ofcA l h E x y)) ∧ Fm [85, 86, 87, 88, 89, 90] [19, 21, 22] M M2) := by
  refine EX_in mi_X12_ofClass rfl rfl ?_
  show WP _ cd_X12_ofClass false _ (0, [(0, .ref 73), (1, .int x), (2, .int y)], [], (SH, M, ML))
  refine w_ld rfl rfl ?_
  refine w_cst (v := .int 0) rfl rfl ?_
  refine w_cst (v := .int 1) rfl rfl ?_
  refine w_cife (as := [_, _, _]) (rest := []) rfl rfl rfl rfl rfl rfl rfl rfl (ok_X12_in ..) rfl (fun h_3 => ?_) (fun h_3 => ?_)
  · refine w_cst (v := .int (-1)) rfl rfl ?_
    refine w_ret rfl rfl (trivial) ?_
    refine ⟨?_, Fm_rf⟩
    unfold ofcA
    first
      | (rw [show wh y 1 = false from h_3]; rfl)
      | (rw [decide_eq_false h_10, Bool.and_false]; rfl)
  · refine w_ld rfl rfl ?_
    refine w_cj rfl rfl (fun h_10 => ?_) (fun h_10 => ?_)
    · obtain ⟨k, hk, rfl⟩ := nI_of (nlt0.mpr h_10)
      refine w_ld rfl rfl ?_
      obtain ⟨_, M3, L3, ⟨rfl, hF, hC⟩, hE16⟩ := ok_X12_layClasses (d := d) (ML := ML) hS hW
      refine w_callv (as := [_]) (rest := []) rfl rfl rfl rfl rfl rfl rfl rfl hE16 ?_
      refine w_cst (v := .int 0) rfl rfl ?_
      refine w_sto (L' := [(0, _), (1, _), (2, _), (3, _)]) rfl rfl ?_
      unfold ofcA
      rw [show wh y 1 = true from h_3, decide_eq_true h_10, nI_clamp hk]
      exact WP_mono (lp_X12_ofClass_21 (ML := L3) hW.2.2.1 hC hk 0 (Nat.zero_le _) (fun j hj => absurd hj (Nat.not_lt_zero j))) (fun r M2 L2 q => ⟨q.1, by rw [q.2]; exact hF⟩)
    · refine w_cst (v := .int (-1)) rfl rfl ?_
      refine w_ret rfl rfl (trivial) ?_
      refine ⟨?_, Fm_rf⟩
      unfold ofcA
      first
        | (rw [show wh y 1 = false from h_3]; rfl)
        | (rw [decide_eq_false h_10, Bool.and_false]; rfl)

set_option maxHeartbeats 1000000 in
set_option maxRecDepth 10000 in
theorem ok_X12_place {d : Nat} {M : Mm} {ML : Ml} {N E A : Nat} {l h : Nat → Nat} (hS : NM M N E A l h) (hW : WN N E A l h) {x : Int32} : EX (d + 6) k_X12_place [.ref 73, .int x] M ML (fun r M2 L2 => r = some (.int (placeA l h E x)) ∧ Fm [85, 86, 87, 88, 89, 90] [19, 21, 22] M M2) := by
  refine EX_in mi_X12_place rfl rfl ?_
  show WP _ cd_X12_place false _ (0, [(0, .ref 73), (1, .int x)], [], (SH, M, ML))
  have hE10 := hW.2.2.1
  have h1024 := pow_b hE10
  have hCl : clC l h E ≤ 2 ^ E := hdc_le _
  have hSl : ∀ k, clS l h E k ≤ 2 ^ E := fun k => szN_le _ k
  refine w_ld rfl rfl ?_
  refine w_ld rfl rfl ?_
  refine w_cifn (as := [_, _]) (rest := []) rfl rfl rfl rfl rfl rfl rfl rfl (ok_X12_isArrowing _ _ _ _ hS.2.1 hW.2.2.1) rfl (fun h_2 => ?_) (fun h_2 => ?_)
  · obtain ⟨a, ha, rfl⟩ := inR_ex (by omega) h_2
    refine w_ld rfl rfl ?_
    obtain ⟨_, M3, L3, ⟨rfl, hF, hC⟩, hE11⟩ := ok_X12_layClasses (d := d) (ML := ML) hS hW
    refine w_callv (as := [_]) (rest := []) rfl rfl rfl rfl rfl rfl rfl rfl hE11 ?_
    refine w_ld rfl rfl ?_
    refine w_getr rfl rfl rfl rfl rfl ?_
    refine w_ld rfl rfl ?_
    refine w_aiv rfl rfl rfl (rfl) (by omega) rfl (hC.2.2.2 a ha) ?_
    refine w_cj rfl rfl (fun h_20 => ?_) (fun h_20 => ?_)
    · have hfr : frB E l h a = true := Bool.not_eq_false _ |>.mp (fun w => nlt0.mpr h_20 ((hoV_neg hE10 ha).mpr w))
      have hia := clI_lt ha hfr
      have hho : hoV l h E a = nI (clI l h E a) := if_pos hfr
      refine w_ld rfl rfl ?_
      refine w_ld rfl rfl ?_
      refine w_getr rfl rfl rfl rfl rfl ?_
      refine w_ld rfl rfl ?_
      refine w_aiv rfl rfl rfl (rfl) (by omega) rfl (hC.2.2.2 a ha) ?_
      rw [hho]
      refine w_call (as := [_, _]) (rest := []) rfl rfl rfl rfl rfl rfl rfl rfl (EX_ex (ok_X12_aheadOf hE10 hC hia)) ?_
      refine w_ret rfl rfl (trivial) ?_
      refine ⟨?_, hF⟩
      unfold placeA
      rw [h_2, nI_clamp (by omega)]
      first
        | exact (fun (w : frB E l h a = true) => by rw [w]; rfl) hfr
        | exact (fun (w : frB E l h a = false) => by rw [w]; rfl) ((hoV_neg hE10 ha).mp (nle_lt.mp h_20))
    · refine w_cst (v := .int (-2)) rfl rfl ?_
      refine w_go rfl ?_
      refine w_ret rfl rfl (trivial) ?_
      refine ⟨?_, hF⟩
      unfold placeA
      rw [h_2, nI_clamp (by omega)]
      first
        | exact (fun (w : frB E l h a = true) => by rw [w]; rfl) hfr
        | exact (fun (w : frB E l h a = false) => by rw [w]; rfl) ((hoV_neg hE10 ha).mp (nle_lt.mp h_20))
  · refine w_cst (v := .int (-1)) rfl rfl ?_
    refine w_ret rfl rfl (trivial) ?_
    refine ⟨?_, Fm_rf⟩
    unfold placeA
    rw [h_2]
    exact rfl

set_option maxHeartbeats 1000000 in
set_option maxRecDepth 10000 in
theorem lp_X12_rooted_14 {d : Nat} {M : Mm} {ML : Ml} {N E A : Nat} {l h : Nat → Nat} (hS : NM M N E A l h) (hW : WN N E A l h) {v : Nat} (hv : v < 7) : ∀ a, a ≤ 2 ^ E → WP (d + 4) cd_X12_rooted false (fun r M2 L2 => r = some (.int (nI (rtN l h E v (2 ^ E)))) ∧ L2 = ML ∧ M2 = M) (14, [(0, .ref 73), (1, .int (nI v)), (2, .int (nI (rtN l h E v a))), (3, .int (nI a))], [], (SH, M, ML)) := by
  have hE10 := hW.2.2.1
  have h1024 := pow_b hE10
  have hCl : clC l h E ≤ 2 ^ E := hdc_le _
  have hSl : ∀ k, clS l h E k ≤ 2 ^ E := fun k => szN_le _ k
  refine up_ind fun a ha ih => ?_
  have h2v : 2 ^ v ≤ 64 := p2 (k := 6) (by omega)
  have hev : endsM E l h (nI a) true < 2 ^ 31 := endsM_b
  refine w_ld rfl rfl ?_
  refine w_ld rfl rfl ?_
  refine w_call (as := [_]) (rest := [_]) rfl rfl rfl rfl rfl rfl rfl rfl (ok_X12_all _ _ _ hS.2.1 hE10) ?_
  refine w_cj rfl rfl (fun h_19 => ?_) (fun h_19 => ?_)
  · have h9 : a = 2 ^ E := by have := nle (by omega) (by omega) h_19; omega
    subst h9
    refine w_ld rfl rfl ?_
    refine w_ret rfl rfl (trivial) ?_
    exact ⟨rfl, rfl, rfl⟩
  · have hlt : a < 2 ^ E := nnle (by omega) (by omega) h_19
    refine w_ld rfl rfl ?_
    refine w_ld rfl rfl ?_
    refine w_ld rfl rfl ?_
    refine w_cst (v := .int 1) rfl rfl ?_
    refine w_call (as := [_, _, _]) (rest := [_]) rfl rfl rfl rfl rfl rfl rfl rfl (ok_X12_endsOf (s := true) _ _ _ hS hW) ?_
    refine w_cst (v := .int 1) rfl rfl ?_
    refine w_ld rfl rfl ?_
    refine w_bin rfl rfl ?_
    rw [shl1 (by omega)]
    refine w_cj rfl rfl (fun h_32 => ?_) (fun h_32 => ?_)
    · refine w_cst (v := .int 0) rfl rfl ?_
      refine w_bin rfl rfl ?_
      refine w_sto (L' := [(0, _), (1, _), (2, _), (3, _)]) rfl rfl ?_
      refine w_inc (y := _ + 1) rfl rfl rfl ?_
      refine w_norm (L' := [(0, _), (1, _), (2, _), (3, _)]) rfl ?_
      refine w_go rfl ?_
      have hp := ih hlt
      first
        | exact (fun (h1 : frB E l h a = true) (h2 : endsM E l h (nI a) true = 2 ^ v) => by
            rw [rt_1 h1 h2] at hp
            rw [nI_1, nI_1]
            exact hp) h_37 (neq hev (by omega) (Classical.not_not.mp h_32))
        | exact (fun (h1 : frB E l h a = false ∨ ¬ endsM E l h (nI a) true = 2 ^ v) => by
            rw [rt_0 h1] at hp
            rw [nI_1, show ∀ n : Nat, nI n + 0 = nI n from fun n => nI_add n 0]
            exact hp) (Or.inr (fun w => h_32 (congrArg nI w)))
        | exact (fun (h1 : frB E l h a = false ∨ ¬ endsM E l h (nI a) true = 2 ^ v) => by
            rw [rt_0 h1] at hp
            rw [nI_1, show ∀ n : Nat, nI n + 0 = nI n from fun n => nI_add n 0]
            exact hp) (Or.inl h_37)
    · refine w_ld rfl rfl ?_
      refine w_ld rfl rfl ?_
      refine w_cife (as := [_, _]) (rest := [_]) rfl rfl rfl rfl rfl rfl rfl rfl (ok_X12_isFree _ _ _ hS hW) rfl (fun h_37 => ?_) (fun h_37 => ?_)
      · refine w_cst (v := .int 0) rfl rfl ?_
        refine w_bin rfl rfl ?_
        refine w_sto (L' := [(0, _), (1, _), (2, _), (3, _)]) rfl rfl ?_
        refine w_inc (y := _ + 1) rfl rfl rfl ?_
        refine w_norm (L' := [(0, _), (1, _), (2, _), (3, _)]) rfl ?_
        refine w_go rfl ?_
        have hp := ih hlt
        first
          | exact (fun (h1 : frB E l h a = true) (h2 : endsM E l h (nI a) true = 2 ^ v) => by
              rw [rt_1 h1 h2] at hp
              rw [nI_1, nI_1]
              exact hp) h_37 (neq hev (by omega) (Classical.not_not.mp h_32))
          | exact (fun (h1 : frB E l h a = false ∨ ¬ endsM E l h (nI a) true = 2 ^ v) => by
              rw [rt_0 h1] at hp
              rw [nI_1, show ∀ n : Nat, nI n + 0 = nI n from fun n => nI_add n 0]
              exact hp) (Or.inr (fun w => h_32 (congrArg nI w)))
          | exact (fun (h1 : frB E l h a = false ∨ ¬ endsM E l h (nI a) true = 2 ^ v) => by
              rw [rt_0 h1] at hp
              rw [nI_1, show ∀ n : Nat, nI n + 0 = nI n from fun n => nI_add n 0]
              exact hp) (Or.inl h_37)
      · refine w_cst (v := .int 1) rfl rfl ?_
        refine w_go rfl ?_
        refine w_bin rfl rfl ?_
        refine w_sto (L' := [(0, _), (1, _), (2, _), (3, _)]) rfl rfl ?_
        refine w_inc (y := _ + 1) rfl rfl rfl ?_
        refine w_norm (L' := [(0, _), (1, _), (2, _), (3, _)]) rfl ?_
        refine w_go rfl ?_
        have hp := ih hlt
        first
          | exact (fun (h1 : frB E l h a = true) (h2 : endsM E l h (nI a) true = 2 ^ v) => by
              rw [rt_1 h1 h2] at hp
              rw [nI_1, nI_1]
              exact hp) h_37 (neq hev (by omega) (Classical.not_not.mp h_32))
          | exact (fun (h1 : frB E l h a = false ∨ ¬ endsM E l h (nI a) true = 2 ^ v) => by
              rw [rt_0 h1] at hp
              rw [nI_1, show ∀ n : Nat, nI n + 0 = nI n from fun n => nI_add n 0]
              exact hp) (Or.inr (fun w => h_32 (congrArg nI w)))
          | exact (fun (h1 : frB E l h a = false ∨ ¬ endsM E l h (nI a) true = 2 ^ v) => by
              rw [rt_0 h1] at hp
              rw [nI_1, show ∀ n : Nat, nI n + 0 = nI n from fun n => nI_add n 0]
              exact hp) (Or.inl h_37)

set_option maxHeartbeats 1000000 in
set_option maxRecDepth 10000 in
theorem ok_X12_rooted {d : Nat} {M : Mm} {ML : Ml} {N E A : Nat} {l h : Nat → Nat} (hS : NM M N E A l h) (hW : WN N E A l h) {x : Int32} : EX (d + 5) k_X12_rooted [.ref 73, .int x] M ML (fun r M2 L2 => r = some (.int (rootA l h N E x)) ∧ L2 = ML ∧ M2 = M) := by
  refine EX_in mi_X12_rooted rfl rfl ?_
  show WP _ cd_X12_rooted false _ (0, [(0, .ref 73), (1, .int x)], [], (SH, M, ML))
  have hE10 := hW.2.2.1
  have h1024 := pow_b hE10
  have hCl : clC l h E ≤ 2 ^ E := hdc_le _
  have hSl : ∀ k, clS l h E k ≤ 2 ^ E := fun k => szN_le _ k
  have hN7 := hW.2.1
  refine w_ld rfl rfl ?_
  refine w_ld rfl rfl ?_
  refine w_cifn (as := [_, _]) (rest := []) rfl rfl rfl rfl rfl rfl rfl rfl (ok_X12_isNode _ _ _ _ hS.1 (by have := hW.2.1; omega)) rfl (fun h_2 => ?_) (fun h_2 => ?_)
  · obtain ⟨v, hv, rfl⟩ := inR_ex (by omega) h_2
    refine w_cst (v := .int 0) rfl rfl ?_
    refine w_sto (L' := [(0, _), (1, _), (2, _)]) rfl rfl ?_
    refine w_cst (v := .int 0) rfl rfl ?_
    refine w_sto (L' := [(0, _), (1, _), (2, _), (3, _)]) rfl rfl ?_
    unfold rootA
    rw [h_2, nI_clamp (by omega)]
    exact lp_X12_rooted_14 hS hW (by omega) 0 (Nat.zero_le _)
  · refine w_cst (v := .int (-1)) rfl rfl ?_
    refine w_ret rfl rfl (trivial) ?_
    refine ⟨?_, rfl, rfl⟩
    unfold rootA
    rw [h_2]
    exact rfl

