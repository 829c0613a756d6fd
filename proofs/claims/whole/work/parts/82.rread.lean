/-! ===== read of the reference ===== -/
theorem rng48 {b : Int32} {N : Nat} (hb : ∃ j, j < 256 ∧ b = nI j) (h1 : 1 ≤ N) (h7 : N ≤ 7) : decide (48 ≤ b ∧ b ≤ 48 + nI N - 1) = inR (b - 48) N := by
  obtain ⟨j, hj, rfl⟩ := hb
  have e : (48 : Int32) + nI N - 1 = nI (48 + N - 1) := by
    rw [show (48 : Int32) + nI N = nI (48 + N) from nI_add 48 N]
    exact pk_sub (b := 1) (by omega)
  have e2 : (nI j - 48).toInt = (j : Int) - 48 := pk_sub_toInt (b := 48) (by omega) (by decide)
  have e3 : (48 : Int32).toInt = 48 := rfl
  have e0 : (0 : Int32).toInt = 0 := rfl
  unfold inR
  rw [e]
  rw [decide_eq_decide, Int32.le_iff_toInt_le, Int32.le_iff_toInt_le, Int32.le_iff_toInt_le, Int32.lt_iff_toInt_lt, e2, e3, e0, nI_toInt (by omega), nI_toInt (by omega), nI_toInt (by omega)]
  omega
theorem dgB_in {B : List Int32} {i : Nat} (hi : i < B.length) : dgB B i = byB B i - 48 := if_pos hi
theorem dgB_out {B : List Int32} {i : Nat} (hi : ¬ i < B.length) : dgB B i = -1 := if_neg hi
theorem inR_m1 (n : Nat) : inR (-1) n = false := decide_eq_false (fun q => absurd q.1 (by decide))
/-- the reference's reading, E edges in -/
def RDM (M : Mm) (B : List Int32) (E : Nat) : Prop := M 73 36 = nI E ∧ M 73 35 = nI (rdN B) ∧ TS (M 73 12) (M 80) B ∧ ∀ e, e < E → M 99 e = nI (rdF B e) ∧ M 100 e = nI (rdT B e)
theorem RDM_Fm {M M' : Mm} {S F : List Nat} {B : List Int32} {E : Nat} (h : RDM M B E) (f : Fm S F M M') (hd : 80 ∉ S ∧ 99 ∉ S ∧ 100 ∉ S) (hf : 12 ∉ F ∧ 35 ∉ F ∧ 36 ∉ F) : RDM M' B E := by
  obtain ⟨h1, h2, h3, h4⟩ := h
  refine ⟨(f.2 36 hf.2.2).trans h1, (f.2 35 hf.2.1).trans h2, ?_, ?_⟩
  · rw [f.2 12 hf.1, f.1 80 hd.1 (by decide)]
    exact h3
  · rw [f.1 99 hd.2.1 (by decide), f.1 100 hd.2.2 (by decide)]
    exact h4
theorem rdP {B : List Int32} {i j e : Nat} : pE (rdl B) (rdh B) i j e = true ↔ (rdF B e = i ∧ rdT B e = j) ∨ (rdF B e = j ∧ rdT B e = i) := by
  unfold pE rdl rdh
  rw [Bool.and_eq_true, decide_eq_true_iff, decide_eq_true_iff]
  omega
theorem FV_nn {B : List Int32} {v : Nat} (e : FV B = nI v) (hv : v < 2 ^ 31) : ¬ FV B < 0 := by
  rw [e]
  exact ne_m1 hv

set_option maxHeartbeats 1000000 in
set_option maxRecDepth 10000 in
theorem ok_X12_node {d : Nat} {M : Mm} {ML : Ml} {B : List Int32} (hB : TS (M 73 12) (M 80) B) {i N : Nat} (hi : M 73 34 = nI i) (hil : i ≤ B.length) (hN : M 73 35 = nI N) (h1 : 1 ≤ N) (h7 : N ≤ 7) : EX (d + 2) k_X12_node [.ref 73] M ML (fun r M2 L2 => (inR (dgB B i) N = true → r = some (.int (dgB B i)) ∧ L2 = ML ∧ M2 = up2 M 73 34 (nI (i + 1))) ∧ (inR (dgB B i) N = false → r = some (.int (-1)) ∧ L2 = ML ∧ M2 = M)) := by
  refine EX_in mi_X12_node rfl rfl ?_
  show WP _ cd_X12_node false _ (0, [(0, .ref 73)], [], (SH, M, ML))
  have h40 := hB.2.1
  refine w_ld rfl rfl ?_
  refine w_getv rfl rfl rfl rfl rfl (hi) ?_
  refine w_ld rfl rfl ?_
  refine w_getv rfl rfl rfl rfl rfl (hB.1) ?_
  refine w_cj rfl rfl (fun h_8 => ?_) (fun h_8 => ?_)
  · refine w_cst (v := .int (-1)) rfl rfl ?_
    refine w_ret rfl rfl (trivial) ?_
    have hno : inR (dgB B i) N = false := by
      by_cases hq : i < B.length
      · rw [dgB_in hq, ← rng48 (TS_by hB hq).2 h1 h7]
        first
          | exact h_31
          | exact absurd (neq (by omega) (by omega) h_8) (Nat.ne_of_lt hq)
      · rw [dgB_out hq]
        exact inR_m1 N
    exact ⟨fun q => absurd (q.symm.trans hno) Bool.noConfusion, fun _ => ⟨rfl, rfl, rfl⟩⟩
  · have hlt : i < B.length := Nat.lt_of_le_of_ne hil (fun w => h_8 (congrArg nI w))
    have hby := TS_by hB hlt
    have hrg := rng48 hby.2 h1 h7
    refine w_ld rfl rfl ?_
    refine w_getr rfl rfl rfl rfl rfl ?_
    refine w_ld rfl rfl ?_
    refine w_getv rfl rfl rfl rfl rfl (hi) ?_
    refine w_aiv rfl rfl rfl (rfl) (by omega) rfl (hby.1) ?_
    refine w_cst (v := .int 48) rfl rfl ?_
    refine w_cst (v := .int 48) rfl rfl ?_
    refine w_ld rfl rfl ?_
    refine w_getv rfl rfl rfl rfl rfl (hN) ?_
    refine w_bin rfl rfl ?_
    refine w_cst (v := .int 1) rfl rfl ?_
    refine w_bin rfl rfl ?_
    refine w_cifn (as := [_, _, _]) (rest := []) rfl rfl rfl rfl rfl rfl rfl rfl (ok_X12_in ..) rfl (fun h_31 => ?_) (fun h_31 => ?_)
    · rw [hrg, ← dgB_in hlt] at h_31
      refine w_ld rfl rfl ?_
      refine w_stk rfl rfl ?_
      refine w_getv rfl rfl rfl rfl rfl (hi) ?_
      refine w_cst (v := .int 1) rfl rfl ?_
      refine w_bin rfl rfl ?_
      refine w_put rfl rfl rfl rfl rfl (Or.inl rfl) ?_
      refine w_ld rfl rfl ?_
      refine w_getr rfl rfl rfl rfl rfl ?_
      refine w_ld rfl rfl ?_
      refine w_getv rfl rfl rfl rfl rfl (up2_e) ?_
      refine w_cst (v := .int 1) rfl rfl ?_
      refine w_bin rfl rfl ?_
      refine w_aiv rfl rfl rfl (Int32.add_sub_cancel _ _) (by omega) rfl (Eq.trans (by rw [up2_row (by decide)]) hby.1) ?_
      refine w_cst (v := .int 48) rfl rfl ?_
      refine w_bin rfl rfl ?_
      refine w_ret rfl rfl (trivial) ?_
      refine ⟨fun _ => ⟨?_, rfl, ?_⟩, fun q => absurd (q.symm.trans h_31) Bool.noConfusion⟩
      · rw [dgB_in hlt]
      · rw [nI_1]
    · refine w_cst (v := .int (-1)) rfl rfl ?_
      refine w_ret rfl rfl (trivial) ?_
      have hno : inR (dgB B i) N = false := by
        by_cases hq : i < B.length
        · rw [dgB_in hq, ← rng48 (TS_by hB hq).2 h1 h7]
          first
            | exact h_31
            | exact absurd (neq (by omega) (by omega) h_8) (Nat.ne_of_lt hq)
        · rw [dgB_out hq]
          exact inR_m1 N
      exact ⟨fun q => absurd (q.symm.trans hno) Bool.noConfusion, fun _ => ⟨rfl, rfl, rfl⟩⟩

theorem fa_at {p : Nat → Bool} {n e : Nat} (he : e < n) (hp : p e = true) : fa_first p n < n := by
  rcases Nat.lt_or_ge (fa_first p n) n with w | w
  · exact w
  · exact absurd (hp.symm.trans (fa_first_no p n e (by omega))) (fun q => Bool.noConfusion q)
theorem fa_none {p : Nat → Bool} {n : Nat} (h : ∀ j, j < n → p j = false) : ¬ fa_first p n < n := fun w => Bool.noConfusion ((fa_first_yes p n w).symm.trans (h _ w))

set_option maxHeartbeats 1000000 in
set_option maxRecDepth 10000 in
theorem lp_X12_isRead_2 {d : Nat} {M : Mm} {ML : Ml} {B : List Int32} {E i j : Nat} (hR : RDM M B E) (hE : E ≤ 10) (hi : i < 7) (hj : j < 7) (hb : ∀ e, e < E → rdF B e < 7 ∧ rdT B e < 7) : ∀ e, e ≤ E → (∀ k, k < e → pE (rdl B) (rdh B) i j k = false) → WP d cd_X12_isRead true (fun r M2 L2 => r = some (.int (b2i (decide (fa_first (pE (rdl B) (rdh B) i j) E < E)))) ∧ L2 = ML ∧ M2 = M) (2, [(0, .ref 73), (1, .int (nI i)), (2, .int (nI j)), (3, .int (nI e))], [], (SH, M, ML)) := by
  refine up_ind fun e he ih => ?_
  intro hn
  refine w_ld rfl rfl ?_
  refine w_ld rfl rfl ?_
  refine w_getv rfl rfl rfl rfl rfl (hR.1) ?_
  refine w_cj rfl rfl (fun h_7 => ?_) (fun h_7 => ?_)
  · refine w_cst (v := .int 0) rfl rfl ?_
    refine w_ret rfl rfl (by first | exact rb0 | exact rb1 | exact rbB _) ?_
    have h9 : e = E := by have := nle (by omega) (by omega) h_7; omega
    subst h9
    exact ⟨by rw [decide_eq_false (fa_none hn)]; rfl, rfl, rfl⟩
  · have hlt : e < E := nnle (by omega) (by omega) h_7
    have hr := hR.2.2.2 e hlt
    refine w_ld rfl rfl ?_
    refine w_getr rfl rfl rfl rfl rfl ?_
    refine w_ld rfl rfl ?_
    refine w_aiv rfl rfl rfl (rfl) (by omega) rfl (hr.1) ?_
    refine w_ld rfl rfl ?_
    refine w_cj rfl rfl (fun h_17 => ?_) (fun h_17 => ?_)
    · refine w_ld rfl rfl ?_
      refine w_getr rfl rfl rfl rfl rfl ?_
      refine w_ld rfl rfl ?_
      refine w_aiv rfl rfl rfl (rfl) (by omega) rfl (hr.1) ?_
      refine w_ld rfl rfl ?_
      refine w_cj rfl rfl (fun h_37 => ?_) (fun h_37 => ?_)
      · refine w_inc (y := _ + 1) rfl rfl rfl ?_
        refine w_norm (L' := [(0, _), (1, _), (2, _), (3, _)]) rfl ?_
        refine w_go rfl ?_
        rw [nI_1]
        refine ih hlt (fun k hk => ?_)
        rw [Nat.lt_succ_iff_lt_or_eq] at hk
        rcases hk with w | w
        · exact hn k w
        · rw [w]
          refine Bool.eq_false_iff.mpr fun q => ?_
          have w2 := rdP.mp q
          first
            | exact (fun (q1 : ¬ nI (rdF B e) = nI i) (q2 : ¬ nI (rdF B e) = nI j) => w2.elim (fun y => q1 (congrArg nI y.1)) (fun y => q2 (congrArg nI y.1))) h_17 h_37
            | exact (fun (q1 : ¬ nI (rdF B e) = nI i) (q2 : ¬ nI (rdT B e) = nI i) => w2.elim (fun y => q1 (congrArg nI y.1)) (fun y => q2 (congrArg nI y.2))) h_17 h_47
            | exact (fun (q1 : ¬ nI (rdT B e) = nI j) (q2 : ¬ nI (rdF B e) = nI j) => w2.elim (fun y => q1 (congrArg nI y.2)) (fun y => q2 (congrArg nI y.1))) h_27 h_37
            | exact (fun (q1 : ¬ nI (rdT B e) = nI j) (q2 : ¬ nI (rdT B e) = nI i) => w2.elim (fun y => q1 (congrArg nI y.2)) (fun y => q2 (congrArg nI y.2))) h_27 h_47
      · refine w_ld rfl rfl ?_
        refine w_getr rfl rfl rfl rfl rfl ?_
        refine w_ld rfl rfl ?_
        refine w_aiv rfl rfl rfl (rfl) (by omega) rfl (hr.2) ?_
        refine w_ld rfl rfl ?_
        refine w_cj rfl rfl (fun h_47 => ?_) (fun h_47 => ?_)
        · refine w_inc (y := _ + 1) rfl rfl rfl ?_
          refine w_norm (L' := [(0, _), (1, _), (2, _), (3, _)]) rfl ?_
          refine w_go rfl ?_
          rw [nI_1]
          refine ih hlt (fun k hk => ?_)
          rw [Nat.lt_succ_iff_lt_or_eq] at hk
          rcases hk with w | w
          · exact hn k w
          · rw [w]
            refine Bool.eq_false_iff.mpr fun q => ?_
            have w2 := rdP.mp q
            first
              | exact (fun (q1 : ¬ nI (rdF B e) = nI i) (q2 : ¬ nI (rdF B e) = nI j) => w2.elim (fun y => q1 (congrArg nI y.1)) (fun y => q2 (congrArg nI y.1))) h_17 h_37
              | exact (fun (q1 : ¬ nI (rdF B e) = nI i) (q2 : ¬ nI (rdT B e) = nI i) => w2.elim (fun y => q1 (congrArg nI y.1)) (fun y => q2 (congrArg nI y.2))) h_17 h_47
              | exact (fun (q1 : ¬ nI (rdT B e) = nI j) (q2 : ¬ nI (rdF B e) = nI j) => w2.elim (fun y => q1 (congrArg nI y.2)) (fun y => q2 (congrArg nI y.1))) h_27 h_37
              | exact (fun (q1 : ¬ nI (rdT B e) = nI j) (q2 : ¬ nI (rdT B e) = nI i) => w2.elim (fun y => q1 (congrArg nI y.2)) (fun y => q2 (congrArg nI y.2))) h_27 h_47
        · refine w_cst (v := .int 1) rfl rfl ?_
          refine w_ret rfl rfl (by first | exact rb0 | exact rb1 | exact rbB _) ?_
          have hb2 := hb e hlt
          have fin : ((rdF B e = i ∧ rdT B e = j) ∨ (rdF B e = j ∧ rdT B e = i)) → some (Value.int 1) = some (Value.int (b2i (decide (fa_first (pE (rdl B) (rdh B) i j) E < E)))) ∧ ML = ML ∧ M = M := fun q => ⟨by rw [decide_eq_true (fa_at hlt (rdP.mpr q))]; rfl, rfl, rfl⟩
          have nq : ∀ a b, a < 7 → b < 7 → nI a = nI b → a = b := fun a b ha hb q => neq (by omega) (by omega) q
          first
            | exact fin (Or.inl ⟨nq _ _ hb2.1 hi (Classical.not_not.mp h_17), nq _ _ hb2.2 hj h_27⟩)
            | exact fin (Or.inr ⟨nq _ _ hb2.1 hj (Classical.not_not.mp h_37), nq _ _ hb2.2 hi (Classical.not_not.mp h_47)⟩)
    · refine w_ld rfl rfl ?_
      refine w_getr rfl rfl rfl rfl rfl ?_
      refine w_ld rfl rfl ?_
      refine w_aiv rfl rfl rfl (rfl) (by omega) rfl (hr.2) ?_
      refine w_ld rfl rfl ?_
      refine w_cj rfl rfl (fun h_27 => ?_) (fun h_27 => ?_)
      · refine w_cst (v := .int 1) rfl rfl ?_
        refine w_ret rfl rfl (by first | exact rb0 | exact rb1 | exact rbB _) ?_
        have hb2 := hb e hlt
        have fin : ((rdF B e = i ∧ rdT B e = j) ∨ (rdF B e = j ∧ rdT B e = i)) → some (Value.int 1) = some (Value.int (b2i (decide (fa_first (pE (rdl B) (rdh B) i j) E < E)))) ∧ ML = ML ∧ M = M := fun q => ⟨by rw [decide_eq_true (fa_at hlt (rdP.mpr q))]; rfl, rfl, rfl⟩
        have nq : ∀ a b, a < 7 → b < 7 → nI a = nI b → a = b := fun a b ha hb q => neq (by omega) (by omega) q
        first
          | exact fin (Or.inl ⟨nq _ _ hb2.1 hi (Classical.not_not.mp h_17), nq _ _ hb2.2 hj h_27⟩)
          | exact fin (Or.inr ⟨nq _ _ hb2.1 hj (Classical.not_not.mp h_37), nq _ _ hb2.2 hi (Classical.not_not.mp h_47)⟩)
      · refine w_ld rfl rfl ?_
        refine w_getr rfl rfl rfl rfl rfl ?_
        refine w_ld rfl rfl ?_
        refine w_aiv rfl rfl rfl (rfl) (by omega) rfl (hr.1) ?_
        refine w_ld rfl rfl ?_
        refine w_cj rfl rfl (fun h_37 => ?_) (fun h_37 => ?_)
        · refine w_inc (y := _ + 1) rfl rfl rfl ?_
          refine w_norm (L' := [(0, _), (1, _), (2, _), (3, _)]) rfl ?_
          refine w_go rfl ?_
          rw [nI_1]
          refine ih hlt (fun k hk => ?_)
          rw [Nat.lt_succ_iff_lt_or_eq] at hk
          rcases hk with w | w
          · exact hn k w
          · rw [w]
            refine Bool.eq_false_iff.mpr fun q => ?_
            have w2 := rdP.mp q
            first
              | exact (fun (q1 : ¬ nI (rdF B e) = nI i) (q2 : ¬ nI (rdF B e) = nI j) => w2.elim (fun y => q1 (congrArg nI y.1)) (fun y => q2 (congrArg nI y.1))) h_17 h_37
              | exact (fun (q1 : ¬ nI (rdF B e) = nI i) (q2 : ¬ nI (rdT B e) = nI i) => w2.elim (fun y => q1 (congrArg nI y.1)) (fun y => q2 (congrArg nI y.2))) h_17 h_47
              | exact (fun (q1 : ¬ nI (rdT B e) = nI j) (q2 : ¬ nI (rdF B e) = nI j) => w2.elim (fun y => q1 (congrArg nI y.2)) (fun y => q2 (congrArg nI y.1))) h_27 h_37
              | exact (fun (q1 : ¬ nI (rdT B e) = nI j) (q2 : ¬ nI (rdT B e) = nI i) => w2.elim (fun y => q1 (congrArg nI y.2)) (fun y => q2 (congrArg nI y.2))) h_27 h_47
        · refine w_ld rfl rfl ?_
          refine w_getr rfl rfl rfl rfl rfl ?_
          refine w_ld rfl rfl ?_
          refine w_aiv rfl rfl rfl (rfl) (by omega) rfl (hr.2) ?_
          refine w_ld rfl rfl ?_
          refine w_cj rfl rfl (fun h_47 => ?_) (fun h_47 => ?_)
          · refine w_inc (y := _ + 1) rfl rfl rfl ?_
            refine w_norm (L' := [(0, _), (1, _), (2, _), (3, _)]) rfl ?_
            refine w_go rfl ?_
            rw [nI_1]
            refine ih hlt (fun k hk => ?_)
            rw [Nat.lt_succ_iff_lt_or_eq] at hk
            rcases hk with w | w
            · exact hn k w
            · rw [w]
              refine Bool.eq_false_iff.mpr fun q => ?_
              have w2 := rdP.mp q
              first
                | exact (fun (q1 : ¬ nI (rdF B e) = nI i) (q2 : ¬ nI (rdF B e) = nI j) => w2.elim (fun y => q1 (congrArg nI y.1)) (fun y => q2 (congrArg nI y.1))) h_17 h_37
                | exact (fun (q1 : ¬ nI (rdF B e) = nI i) (q2 : ¬ nI (rdT B e) = nI i) => w2.elim (fun y => q1 (congrArg nI y.1)) (fun y => q2 (congrArg nI y.2))) h_17 h_47
                | exact (fun (q1 : ¬ nI (rdT B e) = nI j) (q2 : ¬ nI (rdF B e) = nI j) => w2.elim (fun y => q1 (congrArg nI y.2)) (fun y => q2 (congrArg nI y.1))) h_27 h_37
                | exact (fun (q1 : ¬ nI (rdT B e) = nI j) (q2 : ¬ nI (rdT B e) = nI i) => w2.elim (fun y => q1 (congrArg nI y.2)) (fun y => q2 (congrArg nI y.2))) h_27 h_47
          · refine w_cst (v := .int 1) rfl rfl ?_
            refine w_ret rfl rfl (by first | exact rb0 | exact rb1 | exact rbB _) ?_
            have hb2 := hb e hlt
            have fin : ((rdF B e = i ∧ rdT B e = j) ∨ (rdF B e = j ∧ rdT B e = i)) → some (Value.int 1) = some (Value.int (b2i (decide (fa_first (pE (rdl B) (rdh B) i j) E < E)))) ∧ ML = ML ∧ M = M := fun q => ⟨by rw [decide_eq_true (fa_at hlt (rdP.mpr q))]; rfl, rfl, rfl⟩
            have nq : ∀ a b, a < 7 → b < 7 → nI a = nI b → a = b := fun a b ha hb q => neq (by omega) (by omega) q
            first
              | exact fin (Or.inl ⟨nq _ _ hb2.1 hi (Classical.not_not.mp h_17), nq _ _ hb2.2 hj h_27⟩)
              | exact fin (Or.inr ⟨nq _ _ hb2.1 hj (Classical.not_not.mp h_37), nq _ _ hb2.2 hi (Classical.not_not.mp h_47)⟩)

set_option maxHeartbeats 1000000 in
set_option maxRecDepth 10000 in
theorem ok_X12_isRead {d : Nat} {M : Mm} {ML : Ml} {B : List Int32} {E i j : Nat} (hR : RDM M B E) (hE : E ≤ 10) (hi : i < 7) (hj : j < 7) (hb : ∀ e, e < E → rdF B e < 7 ∧ rdT B e < 7) : EX (d + 1) k_X12_isRead [.ref 73, .int (nI i), .int (nI j)] M ML (fun r M2 L2 => r = some (.int (b2i (decide (fa_first (pE (rdl B) (rdh B) i j) E < E)))) ∧ L2 = ML ∧ M2 = M) := by
  refine EX_in mi_X12_isRead rfl rfl ?_
  show WP _ cd_X12_isRead true _ (0, [(0, .ref 73), (1, .int (nI i)), (2, .int (nI j))], [], (SH, M, ML))
  refine w_cst (v := .int 0) rfl rfl ?_
  refine w_sto (L' := [(0, _), (1, _), (2, _), (3, _)]) rfl rfl ?_
  exact lp_X12_isRead_2 hR hE hi hj hb 0 (Nat.zero_le _) (fun k hk => absurd hk (Nat.not_lt_zero k))

