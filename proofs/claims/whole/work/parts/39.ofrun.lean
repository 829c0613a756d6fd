/-! ===== what a run may be asked ===== -/
def runQ (N : Nat) (x : Int32) : Bool := bif decide (60 ≤ x) then inR (x - 60) N else decide ((0 ≤ x ∧ x ≤ 2) ∨ (10 ≤ x ∧ x < 50))
theorem runQ_1 {N : Nat} {x : Int32} (h3 : x < 60) (h : (0 ≤ x ∧ x ≤ 2) ∨ (10 ≤ x ∧ x < 50)) : runQ N x = true := by
  unfold runQ
  rw [decide_eq_false (Int32.not_le.mpr h3), decide_eq_true h]
  rfl
theorem runQ_0 {N : Nat} {x : Int32} (h3 : x < 60) (h1 : ¬ (0 ≤ x ∧ x ≤ 2)) (h2 : ¬ (10 ≤ x ∧ x < 50)) : runQ N x = false := by
  unfold runQ
  rw [decide_eq_false (Int32.not_le.mpr h3), decide_eq_false (fun q => q.elim h1 h2)]
  rfl
theorem runQ_2 {N : Nat} {x : Int32} (h3 : ¬ x < 60) : runQ N x = inR (x - 60) N := by
  unfold runQ
  rw [decide_eq_true (nlt_le.mp h3)]
  rfl

set_option maxHeartbeats 1000000 in
set_option maxRecDepth 10000 in
theorem ok_X11_isOfRun (d : Nat) (M : Nat → Nat → Int32) (ML : Nat → Nat → Int64) {x : Int32} {N : Nat} (hN : M 2 0 = nI N) (hN7 : N ≤ 7) : Ex (d + 2) k_X11_isOfRun [.ref 1, .int x] (SH, M, ML) (some (.int (b2i (runQ N x))), (SH, M, ML)) := by
  refine Ex_in mi_X11_isOfRun rfl rfl ⟨Nat.le_refl _, Nat.le_refl _⟩ ?_
  show RR _ cd_X11_isOfRun true _ (0, [(0, .ref 1), (1, .int x)], [], (SH, M, ML))
  refine r_ld rfl rfl ?_
  refine r_cst (v := .int 60) rfl rfl ?_
  refine r_cj rfl rfl (fun h_3 => ?_) (fun h_3 => ?_)
  · refine r_ld rfl rfl ?_
    refine r_cj rfl rfl (fun h_19 => ?_) (fun h_19 => ?_)
    · refine r_ld rfl rfl ?_
      refine r_cst (v := .int 10) rfl rfl ?_
      refine r_cj rfl rfl (fun h_30 => ?_) (fun h_30 => ?_)
      · refine r_cst (v := .int 0) rfl rfl ?_
        refine r_ret rfl rfl (by first | exact rb0 | exact rb1 | exact rbB _) ?_
        first
          | exact congrArg (fun q => (some (Value.int (b2i q)), (SH, M, ML))) (runQ_2 h_3)
          | exact congrArg (fun q => (some (Value.int (b2i q)), (SH, M, ML))) (runQ_1 h_3 (Or.inl ⟨nlt0.mp h_19, h_24⟩))
          | exact congrArg (fun q => (some (Value.int (b2i q)), (SH, M, ML))) (runQ_1 h_3 (Or.inr ⟨nlt_le.mp h_30, nle_lt.mp h_36⟩))
          | exact congrArg (fun q => (some (Value.int (b2i q)), (SH, M, ML))) (runQ_0 h_3 (fun r => nlt0.mpr r.1 h_19) (fun r => nlt_le.mpr r.1 h_30))
          | exact congrArg (fun q => (some (Value.int (b2i q)), (SH, M, ML))) (runQ_0 h_3 (fun r => h_24 r.2) (fun r => nlt_le.mpr r.1 h_30))
          | exact congrArg (fun q => (some (Value.int (b2i q)), (SH, M, ML))) (runQ_0 h_3 (fun r => nlt0.mpr r.1 h_19) (fun r => nle_lt.mpr r.2 h_36))
          | exact congrArg (fun q => (some (Value.int (b2i q)), (SH, M, ML))) (runQ_0 h_3 (fun r => h_24 r.2) (fun r => nle_lt.mpr r.2 h_36))
      · refine r_ld rfl rfl ?_
        refine r_cst (v := .int 50) rfl rfl ?_
        refine r_cj rfl rfl (fun h_36 => ?_) (fun h_36 => ?_)
        · refine r_cst (v := .int 0) rfl rfl ?_
          refine r_ret rfl rfl (by first | exact rb0 | exact rb1 | exact rbB _) ?_
          first
            | exact congrArg (fun q => (some (Value.int (b2i q)), (SH, M, ML))) (runQ_2 h_3)
            | exact congrArg (fun q => (some (Value.int (b2i q)), (SH, M, ML))) (runQ_1 h_3 (Or.inl ⟨nlt0.mp h_19, h_24⟩))
            | exact congrArg (fun q => (some (Value.int (b2i q)), (SH, M, ML))) (runQ_1 h_3 (Or.inr ⟨nlt_le.mp h_30, nle_lt.mp h_36⟩))
            | exact congrArg (fun q => (some (Value.int (b2i q)), (SH, M, ML))) (runQ_0 h_3 (fun r => nlt0.mpr r.1 h_19) (fun r => nlt_le.mpr r.1 h_30))
            | exact congrArg (fun q => (some (Value.int (b2i q)), (SH, M, ML))) (runQ_0 h_3 (fun r => h_24 r.2) (fun r => nlt_le.mpr r.1 h_30))
            | exact congrArg (fun q => (some (Value.int (b2i q)), (SH, M, ML))) (runQ_0 h_3 (fun r => nlt0.mpr r.1 h_19) (fun r => nle_lt.mpr r.2 h_36))
            | exact congrArg (fun q => (some (Value.int (b2i q)), (SH, M, ML))) (runQ_0 h_3 (fun r => h_24 r.2) (fun r => nle_lt.mpr r.2 h_36))
        · refine r_cst (v := .int 1) rfl rfl ?_
          refine r_go rfl ?_
          refine r_ret rfl rfl (by first | exact rb0 | exact rb1 | exact rbB _) ?_
          first
            | exact congrArg (fun q => (some (Value.int (b2i q)), (SH, M, ML))) (runQ_2 h_3)
            | exact congrArg (fun q => (some (Value.int (b2i q)), (SH, M, ML))) (runQ_1 h_3 (Or.inl ⟨nlt0.mp h_19, h_24⟩))
            | exact congrArg (fun q => (some (Value.int (b2i q)), (SH, M, ML))) (runQ_1 h_3 (Or.inr ⟨nlt_le.mp h_30, nle_lt.mp h_36⟩))
            | exact congrArg (fun q => (some (Value.int (b2i q)), (SH, M, ML))) (runQ_0 h_3 (fun r => nlt0.mpr r.1 h_19) (fun r => nlt_le.mpr r.1 h_30))
            | exact congrArg (fun q => (some (Value.int (b2i q)), (SH, M, ML))) (runQ_0 h_3 (fun r => h_24 r.2) (fun r => nlt_le.mpr r.1 h_30))
            | exact congrArg (fun q => (some (Value.int (b2i q)), (SH, M, ML))) (runQ_0 h_3 (fun r => nlt0.mpr r.1 h_19) (fun r => nle_lt.mpr r.2 h_36))
            | exact congrArg (fun q => (some (Value.int (b2i q)), (SH, M, ML))) (runQ_0 h_3 (fun r => h_24 r.2) (fun r => nle_lt.mpr r.2 h_36))
    · refine r_ld rfl rfl ?_
      refine r_cst (v := .int 2) rfl rfl ?_
      refine r_cj rfl rfl (fun h_24 => ?_) (fun h_24 => ?_)
      · refine r_cst (v := .int 1) rfl rfl ?_
        refine r_go rfl ?_
        refine r_ret rfl rfl (by first | exact rb0 | exact rb1 | exact rbB _) ?_
        first
          | exact congrArg (fun q => (some (Value.int (b2i q)), (SH, M, ML))) (runQ_2 h_3)
          | exact congrArg (fun q => (some (Value.int (b2i q)), (SH, M, ML))) (runQ_1 h_3 (Or.inl ⟨nlt0.mp h_19, h_24⟩))
          | exact congrArg (fun q => (some (Value.int (b2i q)), (SH, M, ML))) (runQ_1 h_3 (Or.inr ⟨nlt_le.mp h_30, nle_lt.mp h_36⟩))
          | exact congrArg (fun q => (some (Value.int (b2i q)), (SH, M, ML))) (runQ_0 h_3 (fun r => nlt0.mpr r.1 h_19) (fun r => nlt_le.mpr r.1 h_30))
          | exact congrArg (fun q => (some (Value.int (b2i q)), (SH, M, ML))) (runQ_0 h_3 (fun r => h_24 r.2) (fun r => nlt_le.mpr r.1 h_30))
          | exact congrArg (fun q => (some (Value.int (b2i q)), (SH, M, ML))) (runQ_0 h_3 (fun r => nlt0.mpr r.1 h_19) (fun r => nle_lt.mpr r.2 h_36))
          | exact congrArg (fun q => (some (Value.int (b2i q)), (SH, M, ML))) (runQ_0 h_3 (fun r => h_24 r.2) (fun r => nle_lt.mpr r.2 h_36))
      · refine r_ld rfl rfl ?_
        refine r_cst (v := .int 10) rfl rfl ?_
        refine r_cj rfl rfl (fun h_30 => ?_) (fun h_30 => ?_)
        · refine r_cst (v := .int 0) rfl rfl ?_
          refine r_ret rfl rfl (by first | exact rb0 | exact rb1 | exact rbB _) ?_
          first
            | exact congrArg (fun q => (some (Value.int (b2i q)), (SH, M, ML))) (runQ_2 h_3)
            | exact congrArg (fun q => (some (Value.int (b2i q)), (SH, M, ML))) (runQ_1 h_3 (Or.inl ⟨nlt0.mp h_19, h_24⟩))
            | exact congrArg (fun q => (some (Value.int (b2i q)), (SH, M, ML))) (runQ_1 h_3 (Or.inr ⟨nlt_le.mp h_30, nle_lt.mp h_36⟩))
            | exact congrArg (fun q => (some (Value.int (b2i q)), (SH, M, ML))) (runQ_0 h_3 (fun r => nlt0.mpr r.1 h_19) (fun r => nlt_le.mpr r.1 h_30))
            | exact congrArg (fun q => (some (Value.int (b2i q)), (SH, M, ML))) (runQ_0 h_3 (fun r => h_24 r.2) (fun r => nlt_le.mpr r.1 h_30))
            | exact congrArg (fun q => (some (Value.int (b2i q)), (SH, M, ML))) (runQ_0 h_3 (fun r => nlt0.mpr r.1 h_19) (fun r => nle_lt.mpr r.2 h_36))
            | exact congrArg (fun q => (some (Value.int (b2i q)), (SH, M, ML))) (runQ_0 h_3 (fun r => h_24 r.2) (fun r => nle_lt.mpr r.2 h_36))
        · refine r_ld rfl rfl ?_
          refine r_cst (v := .int 50) rfl rfl ?_
          refine r_cj rfl rfl (fun h_36 => ?_) (fun h_36 => ?_)
          · refine r_cst (v := .int 0) rfl rfl ?_
            refine r_ret rfl rfl (by first | exact rb0 | exact rb1 | exact rbB _) ?_
            first
              | exact congrArg (fun q => (some (Value.int (b2i q)), (SH, M, ML))) (runQ_2 h_3)
              | exact congrArg (fun q => (some (Value.int (b2i q)), (SH, M, ML))) (runQ_1 h_3 (Or.inl ⟨nlt0.mp h_19, h_24⟩))
              | exact congrArg (fun q => (some (Value.int (b2i q)), (SH, M, ML))) (runQ_1 h_3 (Or.inr ⟨nlt_le.mp h_30, nle_lt.mp h_36⟩))
              | exact congrArg (fun q => (some (Value.int (b2i q)), (SH, M, ML))) (runQ_0 h_3 (fun r => nlt0.mpr r.1 h_19) (fun r => nlt_le.mpr r.1 h_30))
              | exact congrArg (fun q => (some (Value.int (b2i q)), (SH, M, ML))) (runQ_0 h_3 (fun r => h_24 r.2) (fun r => nlt_le.mpr r.1 h_30))
              | exact congrArg (fun q => (some (Value.int (b2i q)), (SH, M, ML))) (runQ_0 h_3 (fun r => nlt0.mpr r.1 h_19) (fun r => nle_lt.mpr r.2 h_36))
              | exact congrArg (fun q => (some (Value.int (b2i q)), (SH, M, ML))) (runQ_0 h_3 (fun r => h_24 r.2) (fun r => nle_lt.mpr r.2 h_36))
          · refine r_cst (v := .int 1) rfl rfl ?_
            refine r_go rfl ?_
            refine r_ret rfl rfl (by first | exact rb0 | exact rb1 | exact rbB _) ?_
            first
              | exact congrArg (fun q => (some (Value.int (b2i q)), (SH, M, ML))) (runQ_2 h_3)
              | exact congrArg (fun q => (some (Value.int (b2i q)), (SH, M, ML))) (runQ_1 h_3 (Or.inl ⟨nlt0.mp h_19, h_24⟩))
              | exact congrArg (fun q => (some (Value.int (b2i q)), (SH, M, ML))) (runQ_1 h_3 (Or.inr ⟨nlt_le.mp h_30, nle_lt.mp h_36⟩))
              | exact congrArg (fun q => (some (Value.int (b2i q)), (SH, M, ML))) (runQ_0 h_3 (fun r => nlt0.mpr r.1 h_19) (fun r => nlt_le.mpr r.1 h_30))
              | exact congrArg (fun q => (some (Value.int (b2i q)), (SH, M, ML))) (runQ_0 h_3 (fun r => h_24 r.2) (fun r => nlt_le.mpr r.1 h_30))
              | exact congrArg (fun q => (some (Value.int (b2i q)), (SH, M, ML))) (runQ_0 h_3 (fun r => nlt0.mpr r.1 h_19) (fun r => nle_lt.mpr r.2 h_36))
              | exact congrArg (fun q => (some (Value.int (b2i q)), (SH, M, ML))) (runQ_0 h_3 (fun r => h_24 r.2) (fun r => nle_lt.mpr r.2 h_36))
  · refine r_ld rfl rfl ?_
    refine q_getr rfl rfl rfl rfl rfl ?_
    refine r_ld rfl rfl ?_
    refine r_cst (v := .int 60) rfl rfl ?_
    refine r_bin rfl rfl ?_
    refine q_call (as := [_, _]) (rest := []) rfl rfl rfl rfl rfl rfl rfl rfl (ok_X4_hasNode_2 _ _ _ _ hN) ?_
    refine r_ret rfl rfl (by first | exact rb0 | exact rb1 | exact rbB _) ?_
    first
      | exact congrArg (fun q => (some (Value.int (b2i q)), (SH, M, ML))) (runQ_2 h_3)
      | exact congrArg (fun q => (some (Value.int (b2i q)), (SH, M, ML))) (runQ_1 h_3 (Or.inl ⟨nlt0.mp h_19, h_24⟩))
      | exact congrArg (fun q => (some (Value.int (b2i q)), (SH, M, ML))) (runQ_1 h_3 (Or.inr ⟨nlt_le.mp h_30, nle_lt.mp h_36⟩))
      | exact congrArg (fun q => (some (Value.int (b2i q)), (SH, M, ML))) (runQ_0 h_3 (fun r => nlt0.mpr r.1 h_19) (fun r => nlt_le.mpr r.1 h_30))
      | exact congrArg (fun q => (some (Value.int (b2i q)), (SH, M, ML))) (runQ_0 h_3 (fun r => h_24 r.2) (fun r => nlt_le.mpr r.1 h_30))
      | exact congrArg (fun q => (some (Value.int (b2i q)), (SH, M, ML))) (runQ_0 h_3 (fun r => nlt0.mpr r.1 h_19) (fun r => nle_lt.mpr r.2 h_36))
      | exact congrArg (fun q => (some (Value.int (b2i q)), (SH, M, ML))) (runQ_0 h_3 (fun r => h_24 r.2) (fun r => nle_lt.mpr r.2 h_36))

