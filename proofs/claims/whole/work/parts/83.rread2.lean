/-! ===== read of the reference: edges, net, read ===== -/
theorem dgB_lt {B : List Int32} {i N : Nat} (h : inR (dgB B i) N = true) : i < B.length := by
  rcases Nat.lt_or_ge i B.length with w | w
  · exact w
  · rw [dgB_out (Nat.not_lt.mpr w), inR_m1] at h
    exact Bool.noConfusion h
theorem rng49 {b : Int32} (hb : ∃ j, j < 256 ∧ b = nI j) : decide (49 ≤ b ∧ b ≤ 55) = wh1 (b - 48) := by
  obtain ⟨j, hj, rfl⟩ := hb
  have e2 : (nI j - 48).toInt = (j : Int) - 48 := pk_sub_toInt (b := 48) (by omega) (by decide)
  have e3 : (49 : Int32).toInt = 49 := rfl
  have e0 : (55 : Int32).toInt = 55 := rfl
  have e4 : (1 : Int32).toInt = 1 := rfl
  have e5 : (7 : Int32).toInt = 7 := rfl
  unfold wh1
  rw [decide_eq_decide, Int32.le_iff_toInt_le, Int32.le_iff_toInt_le, Int32.le_iff_toInt_le, Int32.le_iff_toInt_le, e2, e3, e0, e4, e5, nI_toInt (by omega)]
  omega
def goB (B : List Int32) (E : Nat) : Bool := decide (goP B E)
theorem goB_t {B : List Int32} {E : Nat} (q : goP B E) : goB B E = true := decide_eq_true q
theorem goB_f {B : List Int32} {E : Nat} (q : ¬ goP B E) : goB B E = false := decide_eq_false q
theorem wh1_m1 : wh1 (-1) = false := decide_eq_false (fun q => absurd q.1 (by decide))

set_option maxHeartbeats 1000000 in
set_option maxRecDepth 10000 in
theorem ok_X12_readEdge_1 {d : Nat} {M : Mm} {ML : Ml} {B : List Int32} {E : Nat} (hw : wh1 (dgB B 0) = true) (hR : RDM M B E) (hat : M 73 34 = nI (3 * E + 2)) (hg : ∀ e, e < E → goP B e) (hlen : 3 * E + 1 < B.length) (h59 : byB B (3 * E + 1) = 59 ∧ E < 10) (h2 : inR (dgB B (3 * E + 2)) (rdN B) = false) : EX (d + 3) k_X12_readEdge [.ref 73] M ML (fun r M2 L2 => r = some (.int (b2i (goB B E))) ∧ L2 = ML ∧ Fm [99, 100] [34, 36] M M2 ∧ (goP B E → RDM M2 B (E + 1) ∧ M2 73 34 = nI (3 * (E + 1) + 1)) ∧ (¬ goP B E → M2 73 34 = FV B)) := by
  refine EX_in mi_X12_readEdge rfl rfl ?_
  show WP _ cd_X12_readEdge true _ (0, [(0, .ref 73)], [], (SH, M, ML))
  obtain ⟨hNw, hN1, hN7⟩ := rdN_w hw
  have h40 := hR.2.2.1.2.1
  refine w_ld rfl rfl ?_
  obtain ⟨_, M3, L3, ⟨rfl, rfl, e1⟩, hE1⟩ := EX_mono (ok_X12_node (d := d) (ML := ML) hR.2.2.1 hat (by omega) hR.2.1 hN1 hN7) (fun r M2 L2 q => q.2 h2)
  refine w_call (as := [_]) (rest := []) rfl rfl rfl rfl rfl rfl rfl rfl hE1 ?_
  subst e1
  refine w_sto (L' := [(0, _), (1, _)]) rfl rfl ?_
  refine w_ld rfl rfl ?_
  refine w_cjF rfl rfl (by decide) ?_
  refine w_cst (v := .int (-1)) rfl rfl ?_
  refine w_go rfl ?_
  refine w_sto (L' := [(0, _), (1, _), (2, _)]) rfl rfl ?_
  refine w_ld rfl rfl ?_
  refine w_cjF rfl rfl (by decide) ?_
  refine w_cst (v := .int 0) rfl rfl ?_
  refine w_ret rfl rfl (by first | exact rb0 | exact rb1 | exact rbB _) ?_
  have hno : ¬ goP B E := fun q => Bool.noConfusion (h2.symm.trans q.2.2.1)
  exact ⟨by rw [goB_f hno]; rfl, rfl, Fm_rf, fun q => absurd q hno, fun _ => hat.trans (FV_2 hw (Nat.le_of_lt h59.2) hg hlen h59 h2).symm⟩

set_option maxHeartbeats 1000000 in
set_option maxRecDepth 10000 in
theorem ok_X12_readEdge_2 {d : Nat} {M : Mm} {ML : Ml} {B : List Int32} {E : Nat} (hw : wh1 (dgB B 0) = true) (hR : RDM M B E) (hat : M 73 34 = nI (3 * E + 2)) (hg : ∀ e, e < E → goP B e) (hlen : 3 * E + 1 < B.length) (h59 : byB B (3 * E + 1) = 59 ∧ E < 10) (h2 : inR (dgB B (3 * E + 2)) (rdN B) = true) (h3 : inR (dgB B (3 * E + 3)) (rdN B) = false) : EX (d + 3) k_X12_readEdge [.ref 73] M ML (fun r M2 L2 => r = some (.int (b2i (goB B E))) ∧ L2 = ML ∧ Fm [99, 100] [34, 36] M M2 ∧ (goP B E → RDM M2 B (E + 1) ∧ M2 73 34 = nI (3 * (E + 1) + 1)) ∧ (¬ goP B E → M2 73 34 = FV B)) := by
  refine EX_in mi_X12_readEdge rfl rfl ?_
  show WP _ cd_X12_readEdge true _ (0, [(0, .ref 73)], [], (SH, M, ML))
  obtain ⟨hNw, hN1, hN7⟩ := rdN_w hw
  have h40 := hR.2.2.1.2.1
  refine w_ld rfl rfl ?_
  obtain ⟨_, M3, L3, ⟨rfl, rfl, rfl⟩, hE1⟩ := EX_mono (ok_X12_node (d := d) (ML := ML) hR.2.2.1 hat (by omega) hR.2.1 hN1 hN7) (fun r M2 L2 q => q.1 h2)
  refine w_call (as := [_]) (rest := []) rfl rfl rfl rfl rfl rfl rfl rfl hE1 ?_
  refine w_sto (L' := [(0, _), (1, _)]) rfl rfl ?_
  refine w_ld rfl rfl ?_
  refine w_cjT rfl rfl ((of_decide_eq_true h2).1) ?_
  have hlt2 := dgB_lt h2
  have hF1 : Fm [99, 100] [34, 36] M (up2 M 73 34 (nI (3 * E + 2 + 1))) := Fm_f (by decide) Fm_rf
  have hR3 := RDM_Fm (F := [34]) (S := []) hR (Fm_f (k := 34) (v := nI (3 * E + 2 + 1)) (by decide) Fm_rf) (by decide) (by decide)
  refine w_ld rfl rfl ?_
  obtain ⟨_, M4, L4, ⟨rfl, rfl, e1⟩, hE14⟩ := EX_mono (ok_X12_node (d := d) (ML := L3) (i := 3 * E + 3) hR3.2.2.1 up2_e hlt2 hR3.2.1 hN1 hN7) (fun r M2 L2 q => q.2 h3)
  refine w_call (as := [_]) (rest := []) rfl rfl rfl rfl rfl rfl rfl rfl hE14 ?_
  subst e1
  refine w_sto (L' := [(0, _), (1, _), (2, _)]) rfl rfl ?_
  refine w_ld rfl rfl ?_
  refine w_cjF rfl rfl (by decide) ?_
  refine w_cst (v := .int 0) rfl rfl ?_
  refine w_ret rfl rfl (by first | exact rb0 | exact rb1 | exact rbB _) ?_
  have hno : ¬ goP B E := fun q => Bool.noConfusion (h3.symm.trans q.2.2.2.1)
  have hv := FV_3 hw (Nat.le_of_lt h59.2) hg hlen h59 h2 hno
  exact ⟨by rw [goB_f hno]; rfl, rfl, hF1, fun q => absurd q hno, fun _ => Eq.trans up2_e hv.symm⟩

set_option maxHeartbeats 1000000 in
set_option maxRecDepth 10000 in
theorem ok_X12_readEdge_3 {d : Nat} {M : Mm} {ML : Ml} {B : List Int32} {E : Nat} (hw : wh1 (dgB B 0) = true) (hR : RDM M B E) (hat : M 73 34 = nI (3 * E + 2)) (hg : ∀ e, e < E → goP B e) (hlen : 3 * E + 1 < B.length) (h59 : byB B (3 * E + 1) = 59 ∧ E < 10) (h2 : inR (dgB B (3 * E + 2)) (rdN B) = true) (h3 : inR (dgB B (3 * E + 3)) (rdN B) = true) : EX (d + 3) k_X12_readEdge [.ref 73] M ML (fun r M2 L2 => r = some (.int (b2i (goB B E))) ∧ L2 = ML ∧ Fm [99, 100] [34, 36] M M2 ∧ (goP B E → RDM M2 B (E + 1) ∧ M2 73 34 = nI (3 * (E + 1) + 1)) ∧ (¬ goP B E → M2 73 34 = FV B)) := by
  refine EX_in mi_X12_readEdge rfl rfl ?_
  show WP _ cd_X12_readEdge true _ (0, [(0, .ref 73)], [], (SH, M, ML))
  obtain ⟨hNw, hN1, hN7⟩ := rdN_w hw
  have h40 := hR.2.2.1.2.1
  refine w_ld rfl rfl ?_
  obtain ⟨_, M3, L3, ⟨rfl, rfl, rfl⟩, hE1⟩ := EX_mono (ok_X12_node (d := d) (ML := ML) hR.2.2.1 hat (by omega) hR.2.1 hN1 hN7) (fun r M2 L2 q => q.1 h2)
  refine w_call (as := [_]) (rest := []) rfl rfl rfl rfl rfl rfl rfl rfl hE1 ?_
  refine w_sto (L' := [(0, _), (1, _)]) rfl rfl ?_
  refine w_ld rfl rfl ?_
  refine w_cjT rfl rfl ((of_decide_eq_true h2).1) ?_
  have hlt2 := dgB_lt h2
  have hF1 : Fm [99, 100] [34, 36] M (up2 M 73 34 (nI (3 * E + 2 + 1))) := Fm_f (by decide) Fm_rf
  have hR3 := RDM_Fm (F := [34]) (S := []) hR (Fm_f (k := 34) (v := nI (3 * E + 2 + 1)) (by decide) Fm_rf) (by decide) (by decide)
  refine w_ld rfl rfl ?_
  obtain ⟨_, M4, L4, ⟨rfl, rfl, rfl⟩, hE14⟩ := EX_mono (ok_X12_node (d := d) (ML := L3) (i := 3 * E + 3) hR3.2.2.1 up2_e hlt2 hR3.2.1 hN1 hN7) (fun r M2 L2 q => q.1 h3)
  refine w_call (as := [_]) (rest := []) rfl rfl rfl rfl rfl rfl rfl rfl hE14 ?_
  refine w_sto (L' := [(0, _), (1, _), (2, _)]) rfl rfl ?_
  refine w_ld rfl rfl ?_
  refine w_cjT rfl rfl ((of_decide_eq_true h3).1) ?_
  have hF2 : Fm [99, 100] [34, 36] M (up2 (up2 M 73 34 (nI (3 * E + 2 + 1))) 73 34 (nI (3 * E + 3 + 1))) := Fm_f (by decide) hF1
  have hR4 := RDM_Fm (F := [34]) (S := []) hR3 (Fm_f (k := 34) (v := nI (3 * E + 3 + 1)) (by decide) Fm_rf) (by decide) (by decide)
  have e1 := inR_cl (by omega) h2
  have e2 := inR_cl (by omega) h3
  have e1a : dgB B (3 * E + 2) = nI (rdF B E) := e1.1
  have e2a : dgB B (3 * E + 3) = nI (rdT B E) := e2.1
  have e1b : rdF B E < rdN B := e1.2
  have e2b : rdT B E < rdN B := e2.2
  have hb7 : ∀ e, e < E → rdF B e < 7 ∧ rdT B e < 7 := fun e he => by
    have := rd_go hN7 (hg e he)
    omega
  rw [e1a, e2a]
  refine w_ld rfl rfl ?_
  refine w_ld rfl rfl ?_
  refine w_cj rfl rfl (fun h_26 => ?_) (fun h_26 => ?_)
  · refine w_ld rfl rfl ?_
    refine w_stk rfl rfl ?_
    refine w_getv rfl rfl rfl rfl rfl (up2_e) ?_
    refine w_cst (v := .int 1) rfl rfl ?_
    refine w_bin rfl rfl ?_
    rw [show nI (3 * E + 3 + 1) - 1 = nI (3 * E + 3) from nI_s1 _]
    refine w_put rfl rfl rfl rfl rfl (Or.inl rfl) ?_
    refine w_cst (v := .int 0) rfl rfl ?_
    refine w_ret rfl rfl (by first | exact rb0 | exact rb1 | exact rbB _) ?_
    have hno : ¬ goP B E := by
      intro q
      first
        | exact (fun (w : nI (rdF B E) = nI (rdT B E)) => q.2.2.2.2.1 (e2a.trans (w.symm.trans e1a.symm))) h_26
        | exact (fun (w : decide (fa_first (pE (rdl B) (rdh B) (rdF B E) (rdT B E)) E < E) = true) => q.2.2.2.2.2 (of_decide_eq_true w)) h_32
    have hv := FV_3 hw (Nat.le_of_lt h59.2) hg hlen h59 h2 hno
    exact ⟨by rw [goB_f hno]; rfl, rfl, Fm_f (by decide) hF2, fun q => absurd q hno, fun _ => Eq.trans up2_e hv.symm⟩
  · refine w_ld rfl rfl ?_
    refine w_ld rfl rfl ?_
    refine w_ld rfl rfl ?_
    refine w_cife (as := [_, _, _]) (rest := []) rfl rfl rfl rfl rfl rfl rfl rfl (EX_ex (ok_X12_isRead hR4 (Nat.le_of_lt h59.2) (by omega) (by omega) hb7)) rfl (fun h_32 => ?_) (fun h_32 => ?_)
    · refine w_ld rfl rfl ?_
      refine w_getr rfl rfl rfl rfl rfl ?_
      refine w_ld rfl rfl ?_
      refine w_getv rfl rfl rfl rfl rfl (hR4.1) ?_
      refine w_ld rfl rfl ?_
      refine w_sin rfl rfl rfl (rfl) (h59.2) rfl ?_
      refine w_ld rfl rfl ?_
      refine w_getr rfl rfl rfl rfl rfl ?_
      refine w_ld rfl rfl ?_
      refine w_getv rfl rfl rfl rfl rfl (Eq.trans (by rw [up2_row (by decide)]) (hR4.1)) ?_
      refine w_ld rfl rfl ?_
      refine w_sin rfl rfl rfl (rfl) (h59.2) rfl ?_
      refine w_ld rfl rfl ?_
      refine w_stk rfl rfl ?_
      refine w_getv rfl rfl rfl rfl rfl (Eq.trans (by rw [up2_row (by decide), up2_row (by decide)]) (hR4.1)) ?_
      refine w_cst (v := .int 1) rfl rfl ?_
      refine w_bin rfl rfl ?_
      refine w_put rfl rfl rfl rfl rfl (Or.inl rfl) ?_
      refine w_cst (v := .int 1) rfl rfl ?_
      refine w_ret rfl rfl (by first | exact rb0 | exact rb1 | exact rbB _) ?_
      have hgo : goP B E := ⟨hlen, h59, h2, h3, fun w => h_26 (e1a.symm.trans (w.symm.trans e2a)), fun w => of_decide_eq_false h_32 w⟩
      refine ⟨by rw [goB_t hgo]; rfl, rfl, Fm_f (by decide) (Fm_up (by decide) (by decide) (Fm_up (by decide) (by decide) hF2)), fun _ => ⟨⟨?_, ?_, ?_, fun e he => ?_⟩, ?_⟩, fun q => absurd hgo q⟩
      · rw [up2_e, nI_1]
      · rw [up2_k (by decide), up2_row (by decide), up2_row (by decide)]
        exact hR4.2.1
      · rw [up2_k (by decide), up2_row (x := 73) (by decide), up2_row (x := 73) (by decide), up2_row (x := 80) (by decide), up2_row (x := 80) (by decide), up2_row (x := 80) (by decide)]
        exact hR4.2.2.1
      · rw [up2_row (x := 99) (a := 73) (by decide), up2_row (x := 100) (a := 73) (by decide), up2_row (x := 99) (a := 100) (by decide)]
        by_cases q : e = E
        · rw [q, up2_e, up2_e]
          exact ⟨rfl, rfl⟩
        · rw [up2_k q, up2_k q, up2_row (x := 100) (a := 99) (by decide)]
          exact hR4.2.2.2 e (by omega)
      · rw [up2_k (by decide), up2_row (by decide), up2_row (by decide), up2_e]
        exact congrArg nI (by omega)
    · refine w_ld rfl rfl ?_
      refine w_stk rfl rfl ?_
      refine w_getv rfl rfl rfl rfl rfl (up2_e) ?_
      refine w_cst (v := .int 1) rfl rfl ?_
      refine w_bin rfl rfl ?_
      rw [show nI (3 * E + 3 + 1) - 1 = nI (3 * E + 3) from nI_s1 _]
      refine w_put rfl rfl rfl rfl rfl (Or.inl rfl) ?_
      refine w_cst (v := .int 0) rfl rfl ?_
      refine w_ret rfl rfl (by first | exact rb0 | exact rb1 | exact rbB _) ?_
      have hno : ¬ goP B E := by
        intro q
        first
          | exact (fun (w : nI (rdF B E) = nI (rdT B E)) => q.2.2.2.2.1 (e2a.trans (w.symm.trans e1a.symm))) h_26
          | exact (fun (w : decide (fa_first (pE (rdl B) (rdh B) (rdF B E) (rdT B E)) E < E) = true) => q.2.2.2.2.2 (of_decide_eq_true w)) h_32
      have hv := FV_3 hw (Nat.le_of_lt h59.2) hg hlen h59 h2 hno
      exact ⟨by rw [goB_f hno]; rfl, rfl, Fm_f (by decide) hF2, fun q => absurd q hno, fun _ => Eq.trans up2_e hv.symm⟩

theorem ok_X12_readEdge {d : Nat} {M : Mm} {ML : Ml} {B : List Int32} {E : Nat} (hw : wh1 (dgB B 0) = true) (hR : RDM M B E) (hat : M 73 34 = nI (3 * E + 2)) (hg : ∀ e, e < E → goP B e) (hlen : 3 * E + 1 < B.length) (h59 : byB B (3 * E + 1) = 59 ∧ E < 10) : EX (d + 3) k_X12_readEdge [.ref 73] M ML (fun r M2 L2 => r = some (.int (b2i (goB B E))) ∧ L2 = ML ∧ Fm [99, 100] [34, 36] M M2 ∧ (goP B E → RDM M2 B (E + 1) ∧ M2 73 34 = nI (3 * (E + 1) + 1)) ∧ (¬ goP B E → M2 73 34 = FV B)) := by
  rcases Bool.eq_false_or_eq_true (inR (dgB B (3 * E + 2)) (rdN B)) with h2 | h2
  · rcases Bool.eq_false_or_eq_true (inR (dgB B (3 * E + 3)) (rdN B)) with h3 | h3
    · exact ok_X12_readEdge_3 hw hR hat hg hlen h59 h2 h3
    · exact ok_X12_readEdge_2 hw hR hat hg hlen h59 h2 h3
  · exact ok_X12_readEdge_1 hw hR hat hg hlen h59 h2

set_option maxHeartbeats 1000000 in
set_option maxRecDepth 10000 in
theorem lp_X12_readNet_53 {d : Nat} {M : Mm} {ML : Ml} {B : List Int32} (hB : TS (M 73 12) (M 80) B) (hw : wh1 (dgB B 0) = true) : ∀ E, E ≤ 10 → ∀ M', Fm [99, 100] [34, 35, 36] M M' → RDM M' B E → M' 73 34 = nI (3 * E + 1) → (∀ e, e < E → goP B e) → WP (d + 3) cd_X12_readNet true (fun r M2 L2 => r = some (.int (b2i (decide (FV B < 0)))) ∧ L2 = ML ∧ Fm [99, 100] [34, 35, 36] M M2 ∧ (FV B < 0 → wh1 (dgB B 0) = true ∧ (∀ e, e < rdE B → goP B e) ∧ rdE B ≤ 10 ∧ RDM M2 B (rdE B)) ∧ (¬ FV B < 0 → M2 73 34 = FV B)) (53, [(0, .ref 73)], [], (SH, M', ML)) := by
  obtain ⟨hNw, hN1, hN7⟩ := rdN_w hw
  have h40 := hB.2.1
  refine up_ind fun E hE ih => ?_
  intro M' hF hR hat hg
  refine w_ld rfl rfl ?_
  refine w_getv rfl rfl rfl rfl rfl (hat) ?_
  refine w_ld rfl rfl ?_
  refine w_getv rfl rfl rfl rfl rfl (hR.2.2.1.1) ?_
  refine w_cj rfl rfl (fun h_61 => ?_) (fun h_61 => ?_)
  · refine w_cst (v := .int 1) rfl rfl ?_
    refine w_ret rfl rfl (by first | exact rb0 | exact rb1 | exact rbB _) ?_
    have hv := FV_end hw hE hg (nle (by omega) (by omega) h_61)
    have hng : FV B < 0 := by rw [hv.1]; decide
    refine ⟨by rw [decide_eq_true hng]; rfl, rfl, hF, fun _ => ⟨hw, ?_⟩, fun q => absurd hng q⟩
    rw [hv.2]
    exact ⟨hg, hE, hR⟩
  · have hlen : 3 * E + 1 < B.length := nnle (by omega) (by omega) h_61
    have hby := TS_by hR.2.2.1 hlen
    refine w_ld rfl rfl ?_
    refine w_getr rfl rfl rfl rfl rfl ?_
    refine w_ld rfl rfl ?_
    refine w_getv rfl rfl rfl rfl rfl (hat) ?_
    refine w_aiv rfl rfl rfl (rfl) (by omega) rfl (hby.1) ?_
    refine w_cst (v := .int 59) rfl rfl ?_
    refine w_cj rfl rfl (fun h_75 => ?_) (fun h_75 => ?_)
    · refine w_cst (v := .int 0) rfl rfl ?_
      refine w_ret rfl rfl (by first | exact rb0 | exact rb1 | exact rbB _) ?_
      have hv : FV B = nI (3 * E + 1) := FV_1 hw hE hg hlen (by
        first
          | exact fun w => h_75 w.1
          | exact fun w => absurd (neq (by omega) (by decide) (Classical.not_not.mp h_84)) (Nat.ne_of_lt w.2))
      have hno := FV_nn hv (by omega)
      exact ⟨by rw [decide_eq_false hno]; rfl, rfl, hF, fun q => absurd q hno, fun _ => hat.trans hv.symm⟩
    · refine w_ld rfl rfl ?_
      refine w_getv rfl rfl rfl rfl rfl (hR.1) ?_
      refine w_cst (v := .int 10) rfl rfl ?_
      refine w_cj rfl rfl (fun h_84 => ?_) (fun h_84 => ?_)
      · have h59 : byB B (3 * E + 1) = 59 ∧ E < 10 := ⟨Classical.not_not.mp h_75, Nat.lt_of_le_of_ne hE (fun w => h_84 (by rw [w]; rfl))⟩
        refine w_ld rfl rfl ?_
        refine w_stk rfl rfl ?_
        refine w_getv rfl rfl rfl rfl rfl (hat) ?_
        refine w_cst (v := .int 1) rfl rfl ?_
        refine w_bin rfl rfl ?_
        rw [show nI (3 * E + 1) + 1 = nI (3 * E + 2) from nI_1 _]
        refine w_put rfl rfl rfl rfl rfl (Or.inl rfl) ?_
        have hF1 : Fm [] [34] M' (up2 M' 73 34 (nI (3 * E + 2))) := Fm_f (by decide) Fm_rf
        have hR1 := RDM_Fm hR hF1 (by decide) (by decide)
        refine w_ld rfl rfl ?_
        obtain ⟨_, M3, L3, ⟨rfl, rfl, hF3, hX, hY⟩, hE100⟩ := ok_X12_readEdge (d := d) (ML := ML) hw hR1 up2_e hg hlen h59
        refine w_cifn (as := [_]) (rest := []) rfl rfl rfl rfl rfl rfl rfl rfl hE100 rfl (fun h_100 => ?_) (fun h_100 => ?_)
        · have hgo : goP B E := of_decide_eq_true (show goB B E = true from h_100)
          have hm := hX hgo
          refine ih h59.2 M3 (Fm_tr (Fm_tr hF (Fm_mono hF1 (by decide) (by decide))) (Fm_mono hF3 (by decide) (by decide))) hm.1 hm.2 (fun e he => ?_)
          rcases Nat.lt_or_ge e E with w | w
          · exact hg e w
          · have : e = E := by omega
            exact this ▸ hgo
        · refine w_cst (v := .int 0) rfl rfl ?_
          refine w_ret rfl rfl (by first | exact rb0 | exact rb1 | exact rbB _) ?_
          have hno : ¬ goP B E := fun q => Bool.noConfusion (h_100.symm.trans (goB_t q))
          have hm := hY hno
          have hv : ¬ FV B < 0 := by
            cases h2 : inR (dgB B (3 * E + 2)) (rdN B) with
            | false => exact FV_nn (FV_2 hw hE hg hlen h59 h2) (by omega)
            | true => exact FV_nn (FV_3 hw hE hg hlen h59 h2 hno) (by omega)
          exact ⟨by rw [decide_eq_false hv]; rfl, rfl, Fm_tr (Fm_tr hF (Fm_mono hF1 (by decide) (by decide))) (Fm_mono hF3 (by decide) (by decide)), fun q => absurd q hv, fun _ => hm⟩
      · refine w_cst (v := .int 0) rfl rfl ?_
        refine w_ret rfl rfl (by first | exact rb0 | exact rb1 | exact rbB _) ?_
        have hv : FV B = nI (3 * E + 1) := FV_1 hw hE hg hlen (by
          first
            | exact fun w => h_75 w.1
            | exact fun w => absurd (neq (by omega) (by decide) (Classical.not_not.mp h_84)) (Nat.ne_of_lt w.2))
        have hno := FV_nn hv (by omega)
        exact ⟨by rw [decide_eq_false hno]; rfl, rfl, hF, fun q => absurd q hno, fun _ => hat.trans hv.symm⟩

set_option maxHeartbeats 1000000 in
set_option maxRecDepth 10000 in
theorem ok_X12_readNet {d : Nat} {M : Mm} {ML : Ml} {B : List Int32} (hB : TS (M 73 12) (M 80) B) : EX (d + 4) k_X12_readNet [.ref 73] M ML (fun r M2 L2 => r = some (.int (b2i (decide (FV B < 0)))) ∧ L2 = ML ∧ Fm [99, 100] [34, 35, 36] M M2 ∧ (FV B < 0 → wh1 (dgB B 0) = true ∧ (∀ e, e < rdE B → goP B e) ∧ rdE B ≤ 10 ∧ RDM M2 B (rdE B)) ∧ (¬ FV B < 0 → M2 73 34 = FV B)) := by
  refine EX_in mi_X12_readNet rfl rfl ?_
  show WP _ cd_X12_readNet true _ (0, [(0, .ref 73)], [], (SH, M, ML))
  have h40 := hB.2.1
  refine w_ld rfl rfl ?_
  refine w_cst (v := .int 0) rfl rfl ?_
  refine w_put rfl rfl rfl rfl rfl (Or.inl rfl) ?_
  refine w_ld rfl rfl ?_
  refine w_cst (v := .int 0) rfl rfl ?_
  refine w_put rfl rfl rfl rfl rfl (Or.inl rfl) ?_
  refine w_ld rfl rfl ?_
  refine w_getv rfl rfl rfl rfl rfl (Eq.trans (by rw [up2_k (by decide), up2_k (by decide)]) (hB.1)) ?_
  refine w_cj rfl rfl (fun h_14 => ?_) (fun h_14 => ?_)
  · refine w_cst (v := .int 0) rfl rfl ?_
    refine w_ret rfl rfl (by first | exact rb0 | exact rb1 | exact rbB _) ?_
    have hv : FV B = nI 0 := by
      refine FV_bad ?_
      by_cases hq : 0 < B.length
      · rw [dgB_in hq, ← rng49 (TS_by hB hq).2]
        first
          | exact h_27
          | exact absurd ((nI_e0 (by omega)).mp h_14) (by omega)
      · rw [dgB_out hq]
        exact wh1_m1
    have hno := FV_nn hv (by decide)
    exact ⟨by rw [decide_eq_false hno]; rfl, rfl, Fm_f (by decide) (Fm_f (by decide) Fm_rf), fun q => absurd q hno, fun _ => Eq.trans (Eq.trans (up2_k (by decide)) up2_e) hv.symm⟩
  · have hlen : 0 < B.length := Nat.pos_of_ne_zero (fun w => h_14 (by rw [w]; rfl))
    have hby := TS_by hB hlen
    have hrg := rng49 hby.2
    have hd0 : dgB B 0 = byB B 0 - 48 := dgB_in hlen
    refine w_ld rfl rfl ?_
    refine w_getr rfl rfl rfl rfl rfl ?_
    refine w_cst (v := .int 0) rfl rfl ?_
    refine w_aiv rfl rfl rfl (rfl) (by decide) rfl (Eq.trans (by rw [up2_row (by decide), up2_row (by decide)]) hby.1) ?_
    refine w_cst (v := .int 49) rfl rfl ?_
    refine w_cst (v := .int 55) rfl rfl ?_
    refine w_cifn (as := [_, _, _]) (rest := []) rfl rfl rfl rfl rfl rfl rfl rfl (ok_X12_in ..) rfl (fun h_27 => ?_) (fun h_27 => ?_)
    · rw [hrg, ← hd0] at h_27
      obtain ⟨hNw, hN1, hN7⟩ := rdN_w h_27
      refine w_ld rfl rfl ?_
      refine w_ld rfl rfl ?_
      refine w_getr rfl rfl rfl rfl rfl ?_
      refine w_cst (v := .int 0) rfl rfl ?_
      refine w_aiv rfl rfl rfl (rfl) (by decide) rfl (Eq.trans (by rw [up2_row (by decide), up2_row (by decide)]) hby.1) ?_
      refine w_cst (v := .int 48) rfl rfl ?_
      refine w_bin rfl rfl ?_
      refine WP_v (hd0.symm.trans hNw) ?_
      refine w_put rfl rfl rfl rfl rfl (Or.inl rfl) ?_
      refine w_ld rfl rfl ?_
      refine w_cst (v := .int 1) rfl rfl ?_
      refine w_put rfl rfl rfl rfl rfl (Or.inl rfl) ?_
      have hF0 : Fm [99, 100] [34, 35, 36] M (up2 (up2 (up2 (up2 M 73 34 0) 73 36 0) 73 35 (nI (rdN B))) 73 34 1) := Fm_f (by decide) (Fm_f (by decide) (Fm_f (by decide) (Fm_f (by decide) Fm_rf)))
      refine lp_X12_readNet_53 hB h_27 0 (by decide) _ hF0 ⟨?_, ?_, ?_, fun e he => absurd he (Nat.not_lt_zero e)⟩ up2_e (fun e he => absurd he (Nat.not_lt_zero e))
      · rw [up2_k (by decide), up2_k (by decide), up2_e]
        rfl
      · rw [up2_k (by decide), up2_e]
      · rw [up2_k (by decide), up2_k (by decide), up2_k (by decide), up2_k (by decide), up2_row (x := 80) (by decide), up2_row (x := 80) (by decide), up2_row (x := 80) (by decide), up2_row (x := 80) (by decide)]
        exact hB
    · refine w_cst (v := .int 0) rfl rfl ?_
      refine w_ret rfl rfl (by first | exact rb0 | exact rb1 | exact rbB _) ?_
      have hv : FV B = nI 0 := by
        refine FV_bad ?_
        by_cases hq : 0 < B.length
        · rw [dgB_in hq, ← rng49 (TS_by hB hq).2]
          first
            | exact h_27
            | exact absurd ((nI_e0 (by omega)).mp h_14) (by omega)
        · rw [dgB_out hq]
          exact wh1_m1
      have hno := FV_nn hv (by decide)
      exact ⟨by rw [decide_eq_false hno]; rfl, rfl, Fm_f (by decide) (Fm_f (by decide) Fm_rf), fun q => absurd q hno, fun _ => Eq.trans (Eq.trans (up2_k (by decide)) up2_e) hv.symm⟩

theorem edl_rd {B : List Int32} {e : Nat} (hf : rdF B e < 7) (ht : rdT B e < 7) : edl (rdl B) e (nI (rdF B e)) (nI (rdT B e)) = rdl B ∧ edh (rdh B) e (nI (rdF B e)) (nI (rdT B e)) = rdh B ∧ edA (rdAr B e) e (nI (rdF B e)) (nI (rdT B e)) = rdAr B (e + 1) := by
  unfold edl edh edA
  rw [nI_clamp (by omega), nI_clamp (by omega), rdl_s, rdh_s]
  exact ⟨rfl, rfl, rfl⟩

set_option maxHeartbeats 1000000 in
set_option maxRecDepth 10000 in
theorem lp_X12_read_34 {d : Nat} {M : Mm} {ML : Ml} {B : List Int32} {x1 x2 : Int32} (hw : wh1 (dgB B 0) = true) {n : Nat} (hE : n ≤ 10) (hg : ∀ e, e < n → goP B e) : ∀ e, e ≤ n → ∀ M', Fm [74, 75, 99, 100] [0, 1, 4, 5, 12, 34, 35, 36] M M' → M' 73 12 = 0 → M' 73 5 = 0 → M' 73 36 = nI n → (∀ e, e < n → M' 99 e = nI (rdF B e) ∧ M' 100 e = nI (rdT B e)) → NM M' (rdN B) e (rdAr B e) (rdl B) (rdh B) → WP (d + 4) cd_X12_read false (fun r M2 L2 => r = some (.int (nI n)) ∧ L2 = ML ∧ Fm [74, 75, 99, 100] [0, 1, 4, 5, 12, 34, 35, 36] M M2 ∧ M2 73 12 = 0 ∧ M2 73 5 = 0 ∧ NM M2 (rdN B) n (rdAr B n) (rdl B) (rdh B)) (34, [(0, .ref 73), (1, .int x1), (2, .int x2), (3, .int (nI e))], [], (SH, M', ML)) := by
  obtain ⟨hNw, hN1, hN7⟩ := rdN_w hw
  refine up_ind fun e he ih => ?_
  intro M' hF h12 h5 h36 hr hS
  refine w_ld rfl rfl ?_
  refine w_ld rfl rfl ?_
  refine w_getv rfl rfl rfl rfl rfl (h36) ?_
  refine w_cj rfl rfl (fun h_39 => ?_) (fun h_39 => ?_)
  · refine w_ld rfl rfl ?_
    refine w_getv rfl rfl rfl rfl rfl (hS.2.1) ?_
    refine w_ret rfl rfl (trivial) ?_
    have h9 : e = n := by have := nle (by omega) (by omega) h_39; omega
    subst h9
    exact ⟨rfl, rfl, hF, h12, h5, hS⟩
  · have hlt : e < n := nnle (by omega) (by omega) h_39
    have hgo := rd_go hN7 (hg e hlt)
    have hre := hr e hlt
    refine w_ld rfl rfl ?_
    refine w_ld rfl rfl ?_
    refine w_getr rfl rfl rfl rfl rfl ?_
    refine w_ld rfl rfl ?_
    refine w_aiv rfl rfl rfl (rfl) (by omega) rfl (hre.1) ?_
    refine w_ld rfl rfl ?_
    refine w_getr rfl rfl rfl rfl rfl ?_
    refine w_ld rfl rfl ?_
    refine w_aiv rfl rfl rfl (rfl) (by omega) rfl (hre.2) ?_
    obtain ⟨_, M3, L3, ⟨rfl, rfl, hS3, hF3⟩, hE55⟩ := ok_X12_comes (d := d + 3) (ML := ML) hS (by omega) (i := rdF B e) (j := rdT B e) (by omega) (by omega) hgo.2.2.2.2
    refine w_callv (as := [_, _, _]) (rest := []) rfl rfl rfl rfl rfl rfl rfl rfl hE55 ?_
    refine w_inc (y := _ + 1) rfl rfl rfl ?_
    refine w_norm (L' := [(0, _), (1, _), (2, _), (3, _)]) rfl ?_
    refine w_go rfl ?_
    have hed := edl_rd (B := B) (e := e) (by omega) (by omega)
    rw [hed.1, hed.2.1, hed.2.2] at hS3
    rw [nI_1]
    refine ih hlt M3 (Fm_tr hF (Fm_mono hF3 (by decide) (by decide))) ((hF3.2 12 (by decide)).trans h12) ((hF3.2 5 (by decide)).trans h5) ((hF3.2 36 (by decide)).trans h36) ?_ hS3
    rw [hF3.1 99 (by decide) (by decide), hF3.1 100 (by decide) (by decide)]
    exact hr

set_option maxHeartbeats 1000000 in
set_option maxRecDepth 10000 in
theorem ok_X12_read {d : Nat} {M : Mm} {ML : Ml} {B : List Int32} (hB : TS (M 73 12) (M 80) B) {N E A : Nat} {l h : Nat → Nat} (hS : NM M N E A l h) : EX (d + 5) k_X12_read [.ref 73] M ML (fun r M2 L2 => (¬ FV B < 0 → r = some (.int (-1000 - FV B)) ∧ L2 = ML ∧ Fm [99, 100] [12, 34, 35, 36] M M2 ∧ M2 73 12 = 0) ∧ (FV B < 0 → r = some (.int (nI (rdE B))) ∧ L2 = ML ∧ Fm [74, 75, 99, 100] [0, 1, 4, 5, 12, 34, 35, 36] M M2 ∧ M2 73 12 = 0 ∧ M2 73 5 = 0 ∧ NM M2 (rdN B) (rdE B) (rdAr B (rdE B)) (rdl B) (rdh B))) := by
  refine EX_in mi_X12_read rfl rfl ?_
  show WP _ cd_X12_read false _ (0, [(0, .ref 73)], [], (SH, M, ML))
  refine w_ld rfl rfl ?_
  obtain ⟨_, M3, L3, ⟨rfl, rfl, hF3, hX, hY⟩, hE1⟩ := ok_X12_readNet (d := d) (ML := ML) hB
  refine w_call (as := [_]) (rest := []) rfl rfl rfl rfl rfl rfl rfl rfl hE1 ?_
  refine w_sto (L' := [(0, _), (1, _)]) rfl rfl ?_
  refine w_ld rfl rfl ?_
  refine w_cst (v := .int 0) rfl rfl ?_
  refine w_put rfl rfl rfl rfl rfl (Or.inl rfl) ?_
  refine w_ld rfl rfl ?_
  refine w_cj rfl rfl (fun h_11 => ?_) (fun h_11 => ?_)
  · have hng : FV B < 0 := Classical.byContradiction fun w => h_11 (by rw [decide_eq_false w]; rfl)
    obtain ⟨hw, hg, hE, hR⟩ := hX hng
    obtain ⟨hNw, hN1, hN7⟩ := rdN_w hw
    have hwN : wh1 (nI (rdN B)) = true := hNw ▸ hw
    have hF4 : Fm [99, 100] [12, 34, 35, 36] M (up2 M3 73 12 0) := Fm_f (by decide) (Fm_mono hF3 (by decide) (by decide))
    have hS4 := NM_Fm hS hF4 (by decide) (by decide)
    refine w_ld rfl rfl ?_
    refine w_ld rfl rfl ?_
    refine w_getv rfl rfl rfl rfl rfl (Eq.trans (by rw [up2_k (by decide)]) (hR.2.1)) ?_
    obtain ⟨_, M5, L5, ⟨rfl, rfl, hS5, h5, hF5⟩, hE28⟩ := EX_mono (ok_X12_nodes (d := d + 2) (ML := L3) hS4 (x := nI (rdN B))) (fun r M2 L2 q => q.2 hwN)
    refine w_call (as := [_, _]) (rest := []) rfl rfl rfl rfl rfl rfl rfl rfl hE28 ?_
    refine w_sto (L' := [(0, _), (1, _), (2, _)]) rfl rfl ?_
    refine w_cst (v := .int 0) rfl rfl ?_
    refine w_sto (L' := [(0, _), (1, _), (2, _), (3, _)]) rfl rfl ?_
    rw [nI_clamp (by omega)] at hS5
    refine WP_mono (lp_X12_read_34 (M := M) hw hE hg 0 (Nat.zero_le _) M5 (Fm_tr (Fm_mono hF4 (by decide) (by decide)) (Fm_mono hF5 (by decide) (by decide))) ?_ h5 ?_ ?_ ?_) (fun r M2 L2 q => ⟨fun w => absurd hng w, fun _ => q⟩)
    · rw [hF5.2 12 (by decide), up2_e]
    · rw [hF5.2 36 (by decide), up2_k (by decide)]
      exact hR.1
    · rw [hF5.1 99 (by decide) (by decide), hF5.1 100 (by decide) (by decide), up2_row (by decide), up2_row (by decide)]
      exact hR.2.2.2
    · exact ⟨hS5.1, hS5.2.1, hS5.2.2.1, fun e he => absurd he (Nat.not_lt_zero e)⟩
  · have hng : ¬ FV B < 0 := fun w => absurd (show b2i (decide (FV B < 0)) = 0 from Classical.not_not.mp h_11) (by rw [decide_eq_true w]; decide)
    have hm := hY hng
    refine w_cst (v := .int (-1000)) rfl rfl ?_
    refine w_ld rfl rfl ?_
    refine w_getv rfl rfl rfl rfl rfl (Eq.trans (by rw [up2_k (by decide)]) (hm)) ?_
    refine w_bin rfl rfl ?_
    refine w_ret rfl rfl (trivial) ?_
    exact ⟨fun _ => ⟨rfl, rfl, Fm_f (by decide) (Fm_mono hF3 (by decide) (by decide)), up2_e⟩, fun q => absurd q hng⟩

