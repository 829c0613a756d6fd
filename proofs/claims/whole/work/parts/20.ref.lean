/-! ===== the reference: the net ===== -/
/-- the reference's net in its cells -/
def NM (M : Nat → Nat → Int32) (N E A : Nat) (l h : Nat → Nat) : Prop := M 73 0 = nI N ∧ M 73 1 = nI E ∧ M 73 4 = nI A ∧ ∀ e, e < E → M 74 e = nI (l e) ∧ M 75 e = nI (h e)
theorem sub1_le {v : Int32} {n : Nat} (hn : n < 2 ^ 31) : (0 ≤ v ∧ v ≤ nI n - 1) ↔ (0 ≤ v ∧ v < nI n) := by
  refine and_congr_right fun h0 => ?_
  obtain ⟨j, hj, rfl⟩ := nI_of (nlt0.mpr h0)
  cases n with
  | zero =>
    rw [Int32.le_iff_toInt_le, Int32.lt_iff_toInt_lt, show (nI 0 - 1).toInt = -1 from by decide, nI_toInt hj, show (nI 0).toInt = 0 from by decide]
    omega
  | succ k =>
    rw [nI_pred, nI_leI hj (by omega), nI_ltI hj hn]
    omega
theorem and1 (y : Int32) : y &&& 1 = 0 ∨ y &&& 1 = 1 := by
  cases h : bt y 0 with
  | false =>
    left
    apply b_ext
    intro i hi
    rw [b_and, b_0 hi]
    by_cases h0 : i = 0
    · subst h0; rw [h]; rfl
    · rw [(by decide +kernel : ∀ i, i < 32 → i ≠ 0 → bt 1 i = false) i hi h0, Bool.and_false]
  | true =>
    right
    apply b_ext
    intro i hi
    rw [b_and]
    by_cases h0 : i = 0
    · subst h0; rw [h]; rfl
    · rw [(by decide +kernel : ∀ i, i < 32 → i ≠ 0 → bt 1 i = false) i hi h0, Bool.and_false]
theorem or_end {A k E : Nat} : True := trivial

set_option maxHeartbeats 1000000 in
set_option maxRecDepth 10000 in
theorem ok_X12_in (d : Nat) (M : Nat → Nat → Int32) (ML : Nat → Nat → Int64) (v a b : Int32) : Ex (d + 1) k_X12_in [.int v, .int a, .int b] (SH, M, ML) (some (.int (b2i (decide (a ≤ v ∧ v ≤ b)))), (SH, M, ML)) := by
  refine Ex_in mi_X12_in rfl rfl ⟨Nat.le_refl _, Nat.le_refl _⟩ ?_
  show RR _ cd_X12_in true _ (0, [(0, .int v), (1, .int a), (2, .int b)], [], (SH, M, ML))
  refine r_ld rfl rfl ?_
  refine r_ld rfl rfl ?_
  refine r_cj rfl rfl (fun h_2 => ?_) (fun h_2 => ?_)
  · refine r_cst (v := .int 0) rfl rfl ?_
    refine r_ret rfl rfl (by first | exact rb0 | exact rb1 | exact rbB _) ?_
    first | rw [b2f (fun q => nlt_le.mpr q.1 h_2)] | rw [b2f (fun q => nlt_le.mpr q.2 h_7)] | rw [b2t ⟨nlt_le.mp h_2, nlt_le.mp h_7⟩]
  · refine r_ld rfl rfl ?_
    refine r_ld rfl rfl ?_
    refine r_cj rfl rfl (fun h_7 => ?_) (fun h_7 => ?_)
    · refine r_cst (v := .int 0) rfl rfl ?_
      refine r_ret rfl rfl (by first | exact rb0 | exact rb1 | exact rbB _) ?_
      first | rw [b2f (fun q => nlt_le.mpr q.1 h_2)] | rw [b2f (fun q => nlt_le.mpr q.2 h_7)] | rw [b2t ⟨nlt_le.mp h_2, nlt_le.mp h_7⟩]
    · refine r_cst (v := .int 1) rfl rfl ?_
      refine r_go rfl ?_
      refine r_ret rfl rfl (by first | exact rb0 | exact rb1 | exact rbB _) ?_
      first | rw [b2f (fun q => nlt_le.mpr q.1 h_2)] | rw [b2f (fun q => nlt_le.mpr q.2 h_7)] | rw [b2t ⟨nlt_le.mp h_2, nlt_le.mp h_7⟩]

set_option maxHeartbeats 1000000 in
set_option maxRecDepth 10000 in
theorem ok_X12_isNode (d : Nat) (M : Nat → Nat → Int32) (ML : Nat → Nat → Int64) (v : Int32) {N : Nat} (hN : M 73 0 = nI N) (hb : N < 2 ^ 31) : Ex (d + 2) k_X12_isNode [.ref 73, .int v] (SH, M, ML) (some (.int (b2i (inR v N))), (SH, M, ML)) := by
  refine Ex_in mi_X12_isNode rfl rfl ⟨Nat.le_refl _, Nat.le_refl _⟩ ?_
  show RR _ cd_X12_isNode true _ (0, [(0, .ref 73), (1, .int v)], [], (SH, M, ML))
  refine r_ld rfl rfl ?_
  refine r_cst (v := .int 0) rfl rfl ?_
  refine r_ld rfl rfl ?_
  refine q_geti rfl rfl rfl rfl rfl ?_
  refine r_cst (v := .int 1) rfl rfl ?_
  refine r_bin rfl rfl ?_
  refine q_call (as := [_, _, _]) (rest := []) rfl rfl rfl rfl rfl rfl rfl rfl (ok_X12_in ..) ?_
  refine r_ret rfl rfl (by first | exact rb0 | exact rb1 | exact rbB _) ?_
  rw [hN, decide_eq_decide.mpr (sub1_le hb)]
  exact rfl

set_option maxHeartbeats 1000000 in
set_option maxRecDepth 10000 in
theorem ok_X12_isEdge (d : Nat) (M : Nat → Nat → Int32) (ML : Nat → Nat → Int64) (v : Int32) {E : Nat} (hN : M 73 1 = nI E) (hb : E < 2 ^ 31) : Ex (d + 2) k_X12_isEdge [.ref 73, .int v] (SH, M, ML) (some (.int (b2i (inR v E))), (SH, M, ML)) := by
  refine Ex_in mi_X12_isEdge rfl rfl ⟨Nat.le_refl _, Nat.le_refl _⟩ ?_
  show RR _ cd_X12_isEdge true _ (0, [(0, .ref 73), (1, .int v)], [], (SH, M, ML))
  refine r_ld rfl rfl ?_
  refine r_cst (v := .int 0) rfl rfl ?_
  refine r_ld rfl rfl ?_
  refine q_geti rfl rfl rfl rfl rfl ?_
  refine r_cst (v := .int 1) rfl rfl ?_
  refine r_bin rfl rfl ?_
  refine q_call (as := [_, _, _]) (rest := []) rfl rfl rfl rfl rfl rfl rfl rfl (ok_X12_in ..) ?_
  refine r_ret rfl rfl (by first | exact rb0 | exact rb1 | exact rbB _) ?_
  rw [hN, decide_eq_decide.mpr (sub1_le hb)]
  exact rfl

set_option maxHeartbeats 1000000 in
set_option maxRecDepth 10000 in
theorem ok_X12_all (d : Nat) (M : Nat → Nat → Int32) (ML : Nat → Nat → Int64) {E : Nat} (hE : M 73 1 = nI E) (hb : E ≤ 10) : Ex (d + 1) k_X12_all [.ref 73] (SH, M, ML) (some (.int (nI (2 ^ E))), (SH, M, ML)) := by
  refine Ex_in mi_X12_all rfl rfl ⟨Nat.le_refl _, Nat.le_refl _⟩ ?_
  show RR _ cd_X12_all false _ (0, [(0, .ref 73)], [], (SH, M, ML))
  refine r_cst (v := .int 1) rfl rfl ?_
  refine r_ld rfl rfl ?_
  refine q_geti rfl rfl rfl rfl rfl ?_
  refine r_bin rfl rfl ?_
  refine r_ret rfl rfl (trivial) ?_
  rw [hE, shl1 (by omega)]

theorem pow_b {E : Nat} (h : E ≤ 10) : 2 ^ E ≤ 1024 := p2 (k := 10) h

set_option maxHeartbeats 1000000 in
set_option maxRecDepth 10000 in
theorem ok_X12_isArrowing (d : Nat) (M : Nat → Nat → Int32) (ML : Nat → Nat → Int64) (v : Int32) {E : Nat} (hE : M 73 1 = nI E) (hb : E ≤ 10) : Ex (d + 2) k_X12_isArrowing [.ref 73, .int v] (SH, M, ML) (some (.int (b2i (inR v (2 ^ E)))), (SH, M, ML)) := by
  refine Ex_in mi_X12_isArrowing rfl rfl ⟨Nat.le_refl _, Nat.le_refl _⟩ ?_
  show RR _ cd_X12_isArrowing true _ (0, [(0, .ref 73), (1, .int v)], [], (SH, M, ML))
  refine r_ld rfl rfl ?_
  refine r_cst (v := .int 0) rfl rfl ?_
  refine r_ld rfl rfl ?_
  refine q_call (as := [_]) (rest := [_, _]) rfl rfl rfl rfl rfl rfl rfl rfl (ok_X12_all _ _ _ hE hb) ?_
  refine r_cst (v := .int 1) rfl rfl ?_
  refine r_bin rfl rfl ?_
  refine q_call (as := [_, _, _]) (rest := []) rfl rfl rfl rfl rfl rfl rfl rfl (ok_X12_in ..) ?_
  refine r_ret rfl rfl (by first | exact rb0 | exact rb1 | exact rbB _) ?_
  rw [decide_eq_decide.mpr (sub1_le (n := 2 ^ E) (by have := pow_b hb; omega))]
  exact rfl

set_option maxHeartbeats 1000000 in
set_option maxRecDepth 10000 in
theorem ok_X12_has (d : Nat) (M : Nat → Nat → Int32) (ML : Nat → Nat → Int64) (x k : Int32) : Ex (d + 1) k_X12_has [.int x, .int k] (SH, M, ML) (some (.int (b2i (tb x k))), (SH, M, ML)) := by
  refine Ex_in mi_X12_has rfl rfl ⟨Nat.le_refl _, Nat.le_refl _⟩ ?_
  show RR _ cd_X12_has true _ (0, [(0, .int x), (1, .int k)], [], (SH, M, ML))
  refine r_ld rfl rfl ?_
  refine r_ld rfl rfl ?_
  refine r_bin rfl rfl ?_
  refine r_cst (v := .int 1) rfl rfl ?_
  refine r_bin rfl rfl ?_
  refine r_cst (v := .int 1) rfl rfl ?_
  refine r_cj rfl rfl (fun h_6 => ?_) (fun h_6 => ?_)
  · refine r_cst (v := .int 0) rfl rfl ?_
    refine r_ret rfl rfl (by first | exact rb0 | exact rb1 | exact rbB _) ?_
    first
      | (rw [tb, b2f (fun q => h_6 ((and1 _).resolve_left q))]; done)
      | (have q9 : ¬ (x >>> (k &&& 31)) &&& 1 = 0 := fun q => by rw [q] at h_6; exact h_6 (by decide)
         simp [tb, b2i, q9]; done)
  · refine r_cst (v := .int 1) rfl rfl ?_
    refine r_go rfl ?_
    refine r_ret rfl rfl (by first | exact rb0 | exact rb1 | exact rbB _) ?_
    first
      | (rw [tb, b2f (fun q => h_6 ((and1 _).resolve_left q))]; done)
      | (have q9 : ¬ (x >>> (k &&& 31)) &&& 1 = 0 := fun q => by rw [q] at h_6; exact h_6 (by decide)
         simp [tb, b2i, q9]; done)

set_option maxHeartbeats 1000000 in
set_option maxRecDepth 10000 in
theorem ok_X12_isAt (d : Nat) (M : Nat → Nat → Int32) (ML : Nat → Nat → Int64) {v : Nat} {N E A e : Nat} {l h : Nat → Nat} (hS : NM M N E A l h) (hE : E ≤ 10) (he : e < E) (hb : l e < 7 ∧ h e < 7) (hv : v < 7) : Ex (d + 1) k_X12_isAt [.ref 73, .int (nI e), .int (nI v)] (SH, M, ML) (some (.int (b2i (decide (l e = v ∨ h e = v)))), (SH, M, ML)) := by
  refine Ex_in mi_X12_isAt rfl rfl ⟨Nat.le_refl _, Nat.le_refl _⟩ ?_
  show RR _ cd_X12_isAt true _ (0, [(0, .ref 73), (1, .int (nI e)), (2, .int (nI v))], [], (SH, M, ML))
  obtain ⟨hl1, hh1⟩ := hS.2.2.2 e he
  refine r_ld rfl rfl ?_
  refine q_getr rfl rfl rfl rfl rfl ?_
  refine r_ld rfl rfl ?_
  refine q_ain rfl rfl rfl (rfl) (by omega) rfl ?_
  refine r_ld rfl rfl ?_
  rw [hl1]
  refine r_cj rfl rfl (fun h_7 => ?_) (fun h_7 => ?_)
  · refine r_cst (v := .int 1) rfl rfl ?_
    refine r_go rfl ?_
    refine r_ret rfl rfl (by first | exact rb0 | exact rb1 | exact rbB _) ?_
    first
      | rw [b2t (Or.inl (neq (by omega) (by omega) h_7))]
      | rw [b2t (Or.inr (neq (by omega) (by omega) (Classical.not_not.mp h_17)))]
      | rw [b2f (fun q => q.elim (fun q => h_7 (congrArg nI q)) (fun q => h_17 (congrArg nI q)))]
  · refine r_ld rfl rfl ?_
    refine q_getr rfl rfl rfl rfl rfl ?_
    refine r_ld rfl rfl ?_
    refine q_ain rfl rfl rfl (rfl) (by omega) rfl ?_
    refine r_ld rfl rfl ?_
    rw [hh1]
    refine r_cj rfl rfl (fun h_17 => ?_) (fun h_17 => ?_)
    · refine r_cst (v := .int 0) rfl rfl ?_
      refine r_ret rfl rfl (by first | exact rb0 | exact rb1 | exact rbB _) ?_
      first
        | rw [b2t (Or.inl (neq (by omega) (by omega) h_7))]
        | rw [b2t (Or.inr (neq (by omega) (by omega) (Classical.not_not.mp h_17)))]
        | rw [b2f (fun q => q.elim (fun q => h_7 (congrArg nI q)) (fun q => h_17 (congrArg nI q)))]
    · refine r_cst (v := .int 1) rfl rfl ?_
      refine r_go rfl ?_
      refine r_ret rfl rfl (by first | exact rb0 | exact rb1 | exact rbB _) ?_
      first
        | rw [b2t (Or.inl (neq (by omega) (by omega) h_7))]
        | rw [b2t (Or.inr (neq (by omega) (by omega) (Classical.not_not.mp h_17)))]
        | rw [b2f (fun q => q.elim (fun q => h_7 (congrArg nI q)) (fun q => h_17 (congrArg nI q)))]

set_option maxHeartbeats 1000000 in
set_option maxRecDepth 10000 in
theorem ok_X12_fromOf (d : Nat) (M : Nat → Nat → Int32) (ML : Nat → Nat → Int64) (x : Int32) {N E A e : Nat} {l h : Nat → Nat} (hS : NM M N E A l h) (hE : E ≤ 10) (he : e < E) : Ex (d + 2) k_X12_fromOf [.ref 73, .int x, .int (nI e)] (SH, M, ML) (some (.int (nI (fr l h x e))), (SH, M, ML)) := by
  refine Ex_in mi_X12_fromOf rfl rfl ⟨Nat.le_refl _, Nat.le_refl _⟩ ?_
  show RR _ cd_X12_fromOf false _ (0, [(0, .ref 73), (1, .int x), (2, .int (nI e))], [], (SH, M, ML))
  obtain ⟨hl1, hh1⟩ := hS.2.2.2 e he
  refine r_ld rfl rfl ?_
  refine r_ld rfl rfl ?_
  refine q_cife (as := [_, _]) (rest := []) rfl rfl rfl rfl rfl rfl rfl rfl (ok_X12_has ..) rfl (fun h_2 => ?_) (fun h_2 => ?_)
  · refine r_ld rfl rfl ?_
    refine q_getr rfl rfl rfl rfl rfl ?_
    refine r_ld rfl rfl ?_
    refine q_ain rfl rfl rfl (rfl) (by omega) rfl ?_
    refine r_ret rfl rfl (trivial) ?_
    rw [tb_bt (by omega)] at h_2
    simp [fr, h_2, hl1, hh1]
  · refine r_ld rfl rfl ?_
    refine q_getr rfl rfl rfl rfl rfl ?_
    refine r_ld rfl rfl ?_
    refine q_ain rfl rfl rfl (rfl) (by omega) rfl ?_
    refine r_go rfl ?_
    refine r_ret rfl rfl (trivial) ?_
    rw [tb_bt (by omega)] at h_2
    simp [fr, h_2, hl1, hh1]

set_option maxHeartbeats 1000000 in
set_option maxRecDepth 10000 in
theorem ok_X12_toOf (d : Nat) (M : Nat → Nat → Int32) (ML : Nat → Nat → Int64) (x : Int32) {N E A e : Nat} {l h : Nat → Nat} (hS : NM M N E A l h) (hE : E ≤ 10) (he : e < E) : Ex (d + 2) k_X12_toOf [.ref 73, .int x, .int (nI e)] (SH, M, ML) (some (.int (nI (to l h x e))), (SH, M, ML)) := by
  refine Ex_in mi_X12_toOf rfl rfl ⟨Nat.le_refl _, Nat.le_refl _⟩ ?_
  show RR _ cd_X12_toOf false _ (0, [(0, .ref 73), (1, .int x), (2, .int (nI e))], [], (SH, M, ML))
  obtain ⟨hl1, hh1⟩ := hS.2.2.2 e he
  refine r_ld rfl rfl ?_
  refine r_ld rfl rfl ?_
  refine q_cife (as := [_, _]) (rest := []) rfl rfl rfl rfl rfl rfl rfl rfl (ok_X12_has ..) rfl (fun h_2 => ?_) (fun h_2 => ?_)
  · refine r_ld rfl rfl ?_
    refine q_getr rfl rfl rfl rfl rfl ?_
    refine r_ld rfl rfl ?_
    refine q_ain rfl rfl rfl (rfl) (by omega) rfl ?_
    refine r_ret rfl rfl (trivial) ?_
    rw [tb_bt (by omega)] at h_2
    simp [to, h_2, hl1, hh1]
  · refine r_ld rfl rfl ?_
    refine q_getr rfl rfl rfl rfl rfl ?_
    refine r_ld rfl rfl ?_
    refine q_ain rfl rfl rfl (rfl) (by omega) rfl ?_
    refine r_go rfl ?_
    refine r_ret rfl rfl (trivial) ?_
    rw [tb_bt (by omega)] at h_2
    simp [to, h_2, hl1, hh1]

set_option maxHeartbeats 1000000 in
set_option maxRecDepth 10000 in
theorem lp_X12_edgesOf_4 (d : Nat) (M : Nat → Nat → Int32) (ML : Nat → Nat → Int64) {v : Nat} (hv : v < 7) {N E A : Nat} {l h : Nat → Nat} (hS : NM M N E A l h) (hW : WN N E A l h)  {res : Rt} (hk : res = (some (.int (nI (tmk E l h v))), (SH, M, ML))) :
    ∀ e, e ≤ E → ∀ (x : Int32) (i : Int32), x = nI (tmk e l h v) → i = nI e → RR (d + 1) cd_X12_edgesOf false res (4, [(0, .ref 73), (1, .int ((nI v))), (2, .int x), (3, .int i)], [], (SH, M, ML)) := by
  refine up_ind fun e he ih => ?_
  intro x i hv0 hv1
  subst hv0 hv1
  refine r_ld rfl rfl ?_
  refine r_ld rfl rfl ?_
  refine q_geti rfl rfl rfl rfl rfl ?_
  refine r_cj rfl rfl (fun h_9 => ?_) (fun h_9 => ?_)
  · have h9 : e = E := by
      have := nle (by have := hW.2.2.1; omega) (by have := hW.2.2.1; omega) (show nI E ≤ nI e by rw [← hS.2.1]; exact h_9)
      omega
    subst h9
    refine r_ld rfl rfl ?_
    refine r_ret rfl rfl (trivial) ?_
    exact hk
  · have hlt : e < E := nnle (by have := hW.2.2.1; omega) (by have := hW.2.2.1; omega) (by rw [← hS.2.1]; exact h_9)
    refine r_ld rfl rfl ?_
    refine r_ld rfl rfl ?_
    refine r_ld rfl rfl ?_
    refine r_ld rfl rfl ?_
    refine q_cife (as := [_, _, _]) (rest := [_]) rfl rfl rfl rfl rfl rfl rfl rfl (ok_X12_isAt _ _ _ hS hW.2.2.1 hlt (WN_b hW _ hlt) hv) rfl (fun h_16 => ?_) (fun h_16 => ?_)
    · refine r_cst (v := .int 0) rfl rfl ?_
      refine r_bin rfl rfl ?_
      refine r_sto (L' := [(0, _), (1, _), (2, _), (3, _)]) rfl rfl ?_
      refine q_inc (y := _ + 1) rfl rfl rfl ?_
      refine q_norm (L' := [(0, _), (1, _), (2, _), (3, _)]) rfl ?_
      refine r_go rfl ?_
      exact ih hlt _ _ (by
        have hE := hW.2.2.1
        first
          | exact or_b1 (by omega) (by rcases of_decide_eq_true h_16 with q | q <;> simp [q])
          | exact or_z0 (by
              have q := of_decide_eq_false h_16
              simp only [not_or] at q
              simp [q.1, q.2])) (nI_1 e)
    · refine r_cst (v := .int 1) rfl rfl ?_
      refine r_ld rfl rfl ?_
      refine r_bin rfl rfl ?_
      refine r_go rfl ?_
      refine r_bin rfl rfl ?_
      refine r_sto (L' := [(0, _), (1, _), (2, _), (3, _)]) rfl rfl ?_
      refine q_inc (y := _ + 1) rfl rfl rfl ?_
      refine q_norm (L' := [(0, _), (1, _), (2, _), (3, _)]) rfl ?_
      refine r_go rfl ?_
      exact ih hlt _ _ (by
        have hE := hW.2.2.1
        first
          | exact or_b1 (by omega) (by rcases of_decide_eq_true h_16 with q | q <;> simp [q])
          | exact or_z0 (by
              have q := of_decide_eq_false h_16
              simp only [not_or] at q
              simp [q.1, q.2])) (nI_1 e)

set_option maxHeartbeats 1000000 in
set_option maxRecDepth 10000 in
theorem ok_X12_edgesOf (d : Nat) (M : Nat → Nat → Int32) (ML : Nat → Nat → Int64) {v : Nat} (hv : v < 7) {N E A : Nat} {l h : Nat → Nat} (hS : NM M N E A l h) (hW : WN N E A l h) : Ex (d + 2) k_X12_edgesOf [.ref 73, .int (nI v)] (SH, M, ML) (some (.int (nI (tmk E l h v))), (SH, M, ML)) := by
  refine Ex_in mi_X12_edgesOf rfl rfl ⟨Nat.le_refl _, Nat.le_refl _⟩ ?_
  show RR _ cd_X12_edgesOf false _ (0, [(0, .ref 73), (1, .int (nI v))], [], (SH, M, ML))
  refine r_cst (v := .int 0) rfl rfl ?_
  refine r_sto (L' := [(0, _), (1, _), (2, _)]) rfl rfl ?_
  refine r_cst (v := .int 0) rfl rfl ?_
  refine r_sto (L' := [(0, _), (1, _), (2, _), (3, _)]) rfl rfl ?_
  exact lp_X12_edgesOf_4 d M ML hv hS hW rfl 0 (Nat.zero_le _) _ _ rfl rfl

set_option maxHeartbeats 1000000 in
set_option maxRecDepth 10000 in
theorem lp_X12_isEnd_6 (d : Nat) (M : Nat → Nat → Int32) (ML : Nat → Nat → Int64) {x : Int32} {v : Nat} {s : Bool} (hv : v < 7) {N E A : Nat} {l h : Nat → Nat} (hS : NM M N E A l h) (hW : WN N E A l h)  {res : Rt} (hk : res = (some (.int (b2i (endB E l h x v s))), (SH, M, ML))) :
    ∀ e, e ≤ E → (∀ y, y < e → (l y = v ∨ h y = v) → decide (fr l h x y = v) = s) → ∀ (q : Int32) (i : Int32), q = b2i (decide (∃ y, y < e ∧ (l y = v ∨ h y = v))) → i = nI e → RR (d + 2) cd_X12_isEnd true res (6, [(0, .ref 73), (1, .int x), (2, .int ((nI v))), (3, .int ((b2i s))), (4, .int q), (5, .int i)], [], (SH, M, ML)) := by
  refine up_ind fun e he ih hno => ?_
  intro q i hv0 hv1
  subst hv0 hv1
  refine r_ld rfl rfl ?_
  refine r_ld rfl rfl ?_
  refine q_geti rfl rfl rfl rfl rfl ?_
  refine r_cj rfl rfl (fun h_12 => ?_) (fun h_12 => ?_)
  · have h9 : e = E := by
      have := nle (by have := hW.2.2.1; omega) (by have := hW.2.2.1; omega) (show nI E ≤ nI e by rw [← hS.2.1]; exact h_12)
      omega
    subst h9
    refine r_ld rfl rfl ?_
    refine r_ret rfl rfl (rbB _) ?_
    rw [hk, endB]
    congr 5
    exact propext ⟨fun q => q.1, fun q => ⟨q, hno⟩⟩
  · have hlt : e < E := nnle (by have := hW.2.2.1; omega) (by have := hW.2.2.1; omega) (by rw [← hS.2.1]; exact h_12)
    have hbe := WN_b hW e hlt
    have hfb : fr l h x e < 7 := by
      unfold fr
      split
      · exact hbe.2
      · exact hbe.1
    refine r_ld rfl rfl ?_
    refine r_ld rfl rfl ?_
    refine r_ld rfl rfl ?_
    refine q_cife (as := [_, _, _]) (rest := []) rfl rfl rfl rfl rfl rfl rfl rfl (ok_X12_isAt _ _ _ hS hW.2.2.1 hlt (WN_b hW _ hlt) hv) rfl (fun h_19 => ?_) (fun h_19 => ?_)
    · refine q_inc (y := _ + 1) rfl rfl rfl ?_
      refine q_norm (L' := [(0, _), (1, _), (2, _), (3, _), (4, _), (5, _)]) rfl ?_
      refine r_go rfl ?_
      refine ih hlt (fun y hy ht => ?_) _ _ ?_ (nI_1 e)
      · by_cases hye : y = e
        · subst hye
          first
            | (exact absurd ht (of_decide_eq_false h_19))
            | (cases s with
               | true => exact decide_eq_true (neq (by omega) (by omega) (Classical.not_not.mp h_36))
               | false => exact absurd h_45 (by decide))
            | (cases s with
               | false => exact decide_eq_false (fun q => h_36 (congrArg nI q))
               | true => exact absurd h_45 (by decide))
        · exact hno y (by omega) ht
      · first
          | exact (b2t ⟨e, Nat.lt_succ_self e, of_decide_eq_true h_19⟩).symm
          | (congr 1
             apply decide_eq_decide.mpr
             constructor
             · rintro ⟨y, hy, ht⟩
               exact ⟨y, Nat.lt_succ_of_lt hy, ht⟩
             · rintro ⟨y, hy, ht⟩
               by_cases hye : y = e
               · subst hye
                 exact absurd ht (of_decide_eq_false h_19)
               · exact ⟨y, by omega, ht⟩)
    · refine r_cst (v := .int 1) rfl rfl ?_
      refine r_sto (L' := [(0, _), (1, _), (2, _), (3, _), (4, _), (5, _)]) rfl rfl ?_
      refine r_ld rfl rfl ?_
      refine r_ld rfl rfl ?_
      refine r_ld rfl rfl ?_
      refine q_call (as := [_, _, _]) (rest := []) rfl rfl rfl rfl rfl rfl rfl rfl (ok_X12_fromOf _ _ _ _ hS hW.2.2.1 hlt) ?_
      refine r_ld rfl rfl ?_
      refine r_cj rfl rfl (fun h_36 => ?_) (fun h_36 => ?_)
      · refine r_cst (v := .int 0) rfl rfl ?_
        refine r_ld rfl rfl ?_
        refine r_cj rfl rfl (fun h_45 => ?_) (fun h_45 => ?_)
        · refine q_inc (y := _ + 1) rfl rfl rfl ?_
          refine q_norm (L' := [(0, _), (1, _), (2, _), (3, _), (4, _), (5, _)]) rfl ?_
          refine r_go rfl ?_
          refine ih hlt (fun y hy ht => ?_) _ _ ?_ (nI_1 e)
          · by_cases hye : y = e
            · subst hye
              first
                | (exact absurd ht (of_decide_eq_false h_19))
                | (cases s with
                   | true => exact decide_eq_true (neq (by omega) (by omega) (Classical.not_not.mp h_36))
                   | false => exact absurd h_45 (by decide))
                | (cases s with
                   | false => exact decide_eq_false (fun q => h_36 (congrArg nI q))
                   | true => exact absurd h_45 (by decide))
            · exact hno y (by omega) ht
          · first
              | exact (b2t ⟨e, Nat.lt_succ_self e, of_decide_eq_true h_19⟩).symm
              | (congr 1
                 apply decide_eq_decide.mpr
                 constructor
                 · rintro ⟨y, hy, ht⟩
                   exact ⟨y, Nat.lt_succ_of_lt hy, ht⟩
                 · rintro ⟨y, hy, ht⟩
                   by_cases hye : y = e
                   · subst hye
                     exact absurd ht (of_decide_eq_false h_19)
                   · exact ⟨y, by omega, ht⟩)
        · refine r_cst (v := .int 0) rfl rfl ?_
          refine r_ret rfl rfl (by first | exact rb0 | exact rb1 | exact rbB _) ?_
          rw [hk, endB, b2f]
          rintro ⟨-, q⟩
          have := q e hlt (of_decide_eq_true h_19)
          first
            | (cases s with
               | true => exact h_45 (by decide)
               | false => rw [decide_eq_true (neq (by omega) (by omega) (Classical.not_not.mp h_36))] at this; cases this)
            | (cases s with
               | false => exact h_45 (by decide)
               | true => exact h_36 (congrArg nI (of_decide_eq_true this)))
      · refine r_cst (v := .int 1) rfl rfl ?_
        refine r_go rfl ?_
        refine r_ld rfl rfl ?_
        refine r_cj rfl rfl (fun h_45 => ?_) (fun h_45 => ?_)
        · refine q_inc (y := _ + 1) rfl rfl rfl ?_
          refine q_norm (L' := [(0, _), (1, _), (2, _), (3, _), (4, _), (5, _)]) rfl ?_
          refine r_go rfl ?_
          refine ih hlt (fun y hy ht => ?_) _ _ ?_ (nI_1 e)
          · by_cases hye : y = e
            · subst hye
              first
                | (exact absurd ht (of_decide_eq_false h_19))
                | (cases s with
                   | true => exact decide_eq_true (neq (by omega) (by omega) (Classical.not_not.mp h_36))
                   | false => exact absurd h_45 (by decide))
                | (cases s with
                   | false => exact decide_eq_false (fun q => h_36 (congrArg nI q))
                   | true => exact absurd h_45 (by decide))
            · exact hno y (by omega) ht
          · first
              | exact (b2t ⟨e, Nat.lt_succ_self e, of_decide_eq_true h_19⟩).symm
              | (congr 1
                 apply decide_eq_decide.mpr
                 constructor
                 · rintro ⟨y, hy, ht⟩
                   exact ⟨y, Nat.lt_succ_of_lt hy, ht⟩
                 · rintro ⟨y, hy, ht⟩
                   by_cases hye : y = e
                   · subst hye
                     exact absurd ht (of_decide_eq_false h_19)
                   · exact ⟨y, by omega, ht⟩)
        · refine r_cst (v := .int 0) rfl rfl ?_
          refine r_ret rfl rfl (by first | exact rb0 | exact rb1 | exact rbB _) ?_
          rw [hk, endB, b2f]
          rintro ⟨-, q⟩
          have := q e hlt (of_decide_eq_true h_19)
          first
            | (cases s with
               | true => exact h_45 (by decide)
               | false => rw [decide_eq_true (neq (by omega) (by omega) (Classical.not_not.mp h_36))] at this; cases this)
            | (cases s with
               | false => exact h_45 (by decide)
               | true => exact h_36 (congrArg nI (of_decide_eq_true this)))

set_option maxHeartbeats 1000000 in
set_option maxRecDepth 10000 in
theorem ok_X12_isEnd (d : Nat) (M : Nat → Nat → Int32) (ML : Nat → Nat → Int64) {x : Int32} {v : Nat} {s : Bool} (hv : v < 7) {N E A : Nat} {l h : Nat → Nat} (hS : NM M N E A l h) (hW : WN N E A l h) : Ex (d + 3) k_X12_isEnd [.ref 73, .int x, .int (nI v), .int (b2i s)] (SH, M, ML) (some (.int (b2i (endB E l h x v s))), (SH, M, ML)) := by
  refine Ex_in mi_X12_isEnd rfl rfl ⟨Nat.le_refl _, Nat.le_refl _⟩ ?_
  show RR _ cd_X12_isEnd true _ (0, [(0, .ref 73), (1, .int x), (2, .int (nI v)), (3, .int (b2i s))], [], (SH, M, ML))
  refine r_cst (v := .int 0) rfl rfl ?_
  refine r_sto (L' := [(0, _), (1, _), (2, _), (3, _), (4, _)]) rfl rfl ?_
  refine r_cst (v := .int 0) rfl rfl ?_
  refine r_sto (L' := [(0, _), (1, _), (2, _), (3, _), (4, _), (5, _)]) rfl rfl ?_
  exact lp_X12_isEnd_6 d M ML hv hS hW rfl 0 (Nat.zero_le _) (fun y hy => absurd hy (Nat.not_lt_zero _)) _ _ (b2f (fun q => by obtain ⟨y, hy, -⟩ := q; omega)).symm rfl

set_option maxHeartbeats 1000000 in
set_option maxRecDepth 10000 in
theorem lp_X12_endsOf_5 (d : Nat) (M : Nat → Nat → Int32) (ML : Nat → Nat → Int64) {x : Int32} {s : Bool} {N E A : Nat} {l h : Nat → Nat} (hS : NM M N E A l h) (hW : WN N E A l h)  {res : Rt} (hk : res = (some (.int (nI (msk (fun v => endB E l h x v s) N))), (SH, M, ML))) :
    ∀ v, v ≤ N → ∀ (q : Int32) (i : Int32), q = nI (msk (fun v => endB E l h x v s) v) → i = nI v → RR (d + 3) cd_X12_endsOf false res (5, [(0, .ref 73), (1, .int x), (2, .int ((b2i s))), (3, .int q), (4, .int i)], [], (SH, M, ML)) := by
  refine up_ind fun v hv ih => ?_
  intro q i hv0 hv1
  subst hv0 hv1
  refine r_ld rfl rfl ?_
  refine r_ld rfl rfl ?_
  refine q_geti rfl rfl rfl rfl rfl ?_
  refine r_cj rfl rfl (fun h_11 => ?_) (fun h_11 => ?_)
  · have h9 : v = N := by
      have := nle (by have := hW.2.1; omega) (by have := hW.2.1; omega) (show nI N ≤ nI v by rw [← hS.1]; exact h_11)
      omega
    subst h9
    refine r_ld rfl rfl ?_
    refine r_ret rfl rfl (trivial) ?_
    exact hk
  · have hlt : v < N := nnle (by have := hW.2.1; omega) (by have := hW.2.1; omega) (by rw [← hS.1]; exact h_11)
    refine r_ld rfl rfl ?_
    refine r_ld rfl rfl ?_
    refine r_ld rfl rfl ?_
    refine r_ld rfl rfl ?_
    refine r_ld rfl rfl ?_
    refine q_cife (as := [_, _, _, _]) (rest := [_]) rfl rfl rfl rfl rfl rfl rfl rfl (ok_X12_isEnd _ _ _ (by have := hW.2.1; omega) hS hW) rfl (fun h_20 => ?_) (fun h_20 => ?_)
    · refine r_cst (v := .int 0) rfl rfl ?_
      refine r_bin rfl rfl ?_
      refine r_sto (L' := [(0, _), (1, _), (2, _), (3, _), (4, _)]) rfl rfl ?_
      refine q_inc (y := _ + 1) rfl rfl rfl ?_
      refine q_norm (L' := [(0, _), (1, _), (2, _), (3, _), (4, _)]) rfl ?_
      refine r_go rfl ?_
      exact ih hlt _ _ (by
        have hN := hW.2.1
        first
          | exact or_b1 (by omega) h_20
          | exact or_z0 h_20) (nI_1 v)
    · refine r_cst (v := .int 1) rfl rfl ?_
      refine r_ld rfl rfl ?_
      refine r_bin rfl rfl ?_
      refine r_go rfl ?_
      refine r_bin rfl rfl ?_
      refine r_sto (L' := [(0, _), (1, _), (2, _), (3, _), (4, _)]) rfl rfl ?_
      refine q_inc (y := _ + 1) rfl rfl rfl ?_
      refine q_norm (L' := [(0, _), (1, _), (2, _), (3, _), (4, _)]) rfl ?_
      refine r_go rfl ?_
      exact ih hlt _ _ (by
        have hN := hW.2.1
        first
          | exact or_b1 (by omega) h_20
          | exact or_z0 h_20) (nI_1 v)

theorem endB_out {N E A : Nat} {l h : Nat → Nat} (hW : WN N E A l h) {x : Int32} {v : Nat} {s : Bool} (hv : N ≤ v) : endB E l h x v s = false := by
  apply decide_eq_false
  rintro ⟨⟨e, he, ht⟩, -⟩
  have := hW.2.2.2.2 e he
  omega
theorem endsM_N {N E A : Nat} {l h : Nat → Nat} (hW : WN N E A l h) (x : Int32) (s : Bool) : msk (fun v => endB E l h x v s) N = endsM E l h x s := by
  apply Nat.eq_of_testBit_eq
  intro i
  unfold endsM
  rw [msk_bit, msk_bit]
  have hN := hW.2.1
  by_cases h1 : i < N
  · have : i < 7 := by omega
    simp [h1, this]
  · rw [endB_out hW (by omega)]
    simp

set_option maxHeartbeats 1000000 in
set_option maxRecDepth 10000 in
theorem ok_X12_endsOf (d : Nat) (M : Nat → Nat → Int32) (ML : Nat → Nat → Int64) {x : Int32} {s : Bool} {N E A : Nat} {l h : Nat → Nat} (hS : NM M N E A l h) (hW : WN N E A l h) : Ex (d + 4) k_X12_endsOf [.ref 73, .int x, .int (b2i s)] (SH, M, ML) (some (.int (nI (endsM E l h x s))), (SH, M, ML)) := by
  refine Ex_in mi_X12_endsOf rfl rfl ⟨Nat.le_refl _, Nat.le_refl _⟩ ?_
  show RR _ cd_X12_endsOf false _ (0, [(0, .ref 73), (1, .int x), (2, .int (b2i s))], [], (SH, M, ML))
  refine r_cst (v := .int 0) rfl rfl ?_
  refine r_sto (L' := [(0, _), (1, _), (2, _), (3, _)]) rfl rfl ?_
  refine r_cst (v := .int 0) rfl rfl ?_
  refine r_sto (L' := [(0, _), (1, _), (2, _), (3, _), (4, _)]) rfl rfl ?_
  exact lp_X12_endsOf_5 d M ML hS hW (by rw [endsM_N hW]) 0 (Nat.zero_le _) _ _ rfl rfl

