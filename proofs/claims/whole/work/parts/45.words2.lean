/-! ===== words of the reference; arrows of a word ===== -/
theorem EX_ex {d k : Nat} {as : List Value} {M : Mm} {ML : Ml} {v : Option Value} (h : EX d k as M ML (fun r M2 L2 => r = v ∧ L2 = ML ∧ M2 = M)) : Ex d k as (SH, M, ML) (v, (SH, M, ML)) := by
  obtain ⟨r, M', ML', ⟨rfl, rfl, rfl⟩, hE⟩ := h
  exact hE
/-- the place as the reference tells it -/
def plI (N w v : Nat) : Int32 := if pj N w v < N then nI (pl N w v) else -1
theorem plI_y {N w v : Nat} (h : wB N w = true) (hv : v < N) : plI N w v = nI (pl N w v) := if_pos (wB_1 h hv).1
theorem pl_lt {N w v : Nat} (hN : 1 ≤ N) : pl N w v < N := by unfold pl; omega
/-- the arrows of a word -/
def arW (E : Nat) (l h : Nat → Nat) (N w : Nat) : Nat := msk (fun e => decide (pl N w (h e) < pl N w (l e))) E
theorem arW_lt {E : Nat} {l h : Nat → Nat} {N w : Nat} : arW E l h N w < 2 ^ E := msk_lt _ E
theorem p10 {N : Nat} (h : N ≤ 7) : 10 ^ N ≤ 10000000 := show 10 ^ N ≤ 10 ^ 7 from Nat.pow_le_pow_right (by decide) h
theorem wB_ge {N w : Nat} (h : wB N w = true) (hN : 1 ≤ N) : 10 ^ N / 10 ≤ w := by
  obtain ⟨v, hv, e, -⟩ := wB_2 h (j := N - 1) (by omega)
  have h1 : 10 ^ N = 10 ^ (N - 1) * 10 := by rw [← Nat.pow_succ]; exact congrArg _ (by omega)
  rw [h1, Nat.mul_div_cancel _ (by decide)]
  refine Nat.not_lt.mp fun q => ?_
  unfold dg at e
  rw [Nat.div_eq_of_lt q] at e
  exact absurd e (by omega)

set_option maxHeartbeats 1000000 in
set_option maxRecDepth 10000 in
theorem lp_X12_placeIn_10 {d : Nat} {M : Mm} {ML : Ml} {N w v : Nat} (hN7 : N ≤ 7) (hw : w < 2 ^ 31) (hv : v < N) : ∀ e t, e + t = N → (∀ j, j < t → dg w j ≠ v + 1) → WP d cd_X12_placeIn false (fun r M2 L2 => r = some (.int (plI N w v)) ∧ L2 = ML ∧ M2 = M) (10, [(0, .ref 73), (1, .int (nI w)), (2, .int (nI v)), (3, .int (nI (w / 10 ^ t))), (4, .int (nI e - 1))], [], (SH, M, ML)) := by
  intro e
  induction e with
  | zero =>
    intro t ht hno
    have ht' : t = N := by omega
    subst ht'
    refine w_ld rfl rfl ?_
    refine w_cjT rfl rfl (by decide) ?_
    refine w_cst (v := .int (-1)) rfl rfl ?_
    refine w_ret rfl rfl (trivial) ?_
    refine ⟨?_, rfl, rfl⟩
    unfold plI
    rw [if_neg (fun q => ?_)]
    exact hno _ q (of_decide_eq_true (fa_first_yes (fun j => decide (dg w j = v + 1)) t q))
  | succ e ih =>
    intro t ht hno
    refine w_ld rfl rfl ?_
    refine w_cjF rfl rfl (by rw [nI_s1]; exact ne_m1 (by omega)) ?_
    refine w_ld rfl rfl ?_
    refine w_cst (v := .int 10) rfl rfl ?_
    refine w_div rfl rfl (by decide) ?_
    rw [rem10 (dgd hw)]
    refine w_ld rfl rfl ?_
    refine w_cst (v := .int 1) rfl rfl ?_
    refine w_bin rfl rfl ?_
    rw [nI_1]
    show WP _ _ _ _ (_, _, [.int (nI (v + 1)), .int (nI (dg w t))], _)
    refine w_cj rfl rfl (fun h_22 => ?_) (fun h_22 => ?_)
    · skip
      refine w_ld rfl rfl ?_
      refine w_cst (v := .int 10) rfl rfl ?_
      refine w_div rfl rfl (by decide) ?_
      rw [div10 (dgd hw), div_step]
      refine w_sto (L' := [(0, _), (1, _), (2, _), (3, _), (4, _)]) rfl rfl ?_
      refine w_inc (y := nI e - 1) rfl rfl (by rw [nI_s1]; exact nI_pm e) ?_
      refine w_norm (L' := [(0, _), (1, _), (2, _), (3, _), (4, _)]) rfl ?_
      refine w_go rfl ?_
      refine ih (t + 1) (by omega) (fun j hj => ?_)
      rcases Nat.lt_or_ge j t with q | q
      · exact hno j q
      · have : j = t := by omega
        subst this
        exact fun q2 => h_22 (by rw [q2])
    · have hd : dg w t = v + 1 := neq (Nat.lt_trans (Nat.mod_lt _ (by decide)) (by decide)) (by omega) (Classical.not_not.mp h_22)
      refine w_ld rfl rfl ?_
      refine w_ret rfl rfl (trivial) ?_
      have hp : pj N w v = t := ff_eq (by omega) (decide_eq_true hd) (fun i hi => decide_eq_false (hno i hi))
      refine ⟨?_, rfl, rfl⟩
      unfold plI pl
      rw [hp, if_pos (by omega), nI_s1]
      exact congrArg (fun q => some (Value.int (nI q))) (by omega)

set_option maxHeartbeats 1000000 in
set_option maxRecDepth 10000 in
theorem ok_X12_placeIn {d : Nat} {M : Mm} {ML : Ml} {N w v : Nat} (hN : M 73 0 = nI N) (hN7 : N ≤ 7) (hw : w < 2 ^ 31) (hv : v < N) : EX (d + 1) k_X12_placeIn [.ref 73, .int (nI w), .int (nI v)] M ML (fun r M2 L2 => r = some (.int (plI N w v)) ∧ L2 = ML ∧ M2 = M) := by
  refine EX_in mi_X12_placeIn rfl rfl ?_
  show WP _ cd_X12_placeIn false _ (0, [(0, .ref 73), (1, .int (nI w)), (2, .int (nI v))], [], (SH, M, ML))
  refine w_ld rfl rfl ?_
  refine w_sto (L' := [(0, _), (1, _), (2, _), (3, _)]) rfl rfl ?_
  refine w_ld rfl rfl ?_
  refine w_getv rfl rfl rfl rfl rfl (hN) ?_
  refine w_cst (v := .int 1) rfl rfl ?_
  refine w_bin rfl rfl ?_
  refine w_sto (L' := [(0, _), (1, _), (2, _), (3, _), (4, _)]) rfl rfl ?_
  have hp := lp_X12_placeIn_10 (d := d) (M := M) (ML := ML) hN7 hw hv N 0 (by omega) (fun j hj => absurd hj (Nat.not_lt_zero j))
  rw [Nat.pow_zero, Nat.div_one] at hp
  exact hp

set_option maxHeartbeats 1000000 in
set_option maxRecDepth 10000 in
theorem lp_X12_isWord_41 {d : Nat} {M : Mm} {ML : Ml} {N w : Nat} {q : Int32} (hN : M 73 0 = nI N) (hN7 : N ≤ 7) (hw : w < 2 ^ 31) (hw2 : w < 10 ^ N) : ∀ e, e ≤ N → (∀ v, v < e → pj N w v < N) → WP (d + 1) cd_X12_isWord true (fun r M2 L2 => r = some (.int (b2i (wB N w))) ∧ L2 = ML ∧ M2 = M) (41, [(0, .ref 73), (1, .int (nI w)), (2, .int q), (3, .int (nI e))], [], (SH, M, ML)) := by
  refine up_ind fun e he ih => ?_
  intro hv
  refine w_ld rfl rfl ?_
  refine w_ld rfl rfl ?_
  refine w_getv rfl rfl rfl rfl rfl (hN) ?_
  refine w_cj rfl rfl (fun h_46 => ?_) (fun h_46 => ?_)
  · have h9 : e = N := by have := nle (by omega) (by omega) h_46; omega
    subst h9
    refine w_cst (v := .int 1) rfl rfl ?_
    refine w_ret rfl rfl (by first | exact rb1 | exact rb0) ?_
    have hB : wB e w = true := wB_iff.mpr ⟨hw2, fun v hq => ⟨_, hv v hq, of_decide_eq_true (fa_first_yes (fun j => decide (dg w j = v + 1)) e (hv v hq))⟩⟩
    exact ⟨by rw [hB]; rfl, rfl, rfl⟩
  · have hlt : e < N := nnle (by omega) (by omega) h_46
    refine w_ld rfl rfl ?_
    refine w_ld rfl rfl ?_
    refine w_ld rfl rfl ?_
    refine w_call (as := [_, _, _]) (rest := []) rfl rfl rfl rfl rfl rfl rfl rfl (EX_ex (ok_X12_placeIn hN hN7 hw hlt)) ?_
    refine w_cj rfl rfl (fun h_55 => ?_) (fun h_55 => ?_)
    · refine w_inc (y := _ + 1) rfl rfl rfl ?_
      refine w_norm (L' := [(0, _), (1, _), (2, _), (3, _)]) rfl ?_
      refine w_go rfl ?_
      rw [nI_1]
      refine ih hlt (fun v hq => ?_)
      rcases Nat.lt_or_ge v e with r | r
      · exact hv v r
      · have : v = e := by omega
        subst this
        refine Nat.not_le.mp fun w2 => ?_
        unfold plI at h_55
        rw [if_neg (by omega)] at h_55
        exact absurd h_55 (by decide)
    · refine w_cst (v := .int 0) rfl rfl ?_
      refine w_ret rfl rfl (by first | exact rb1 | exact rb0) ?_
      have hbad : wB N w = false := by
        refine Bool.eq_false_iff.mpr fun hB => h_55 ?_
        rw [plI_y hB hlt]
        exact nI_pos' (by have := pl_lt (N := N) (w := w) (v := e) (by omega); omega)
      exact ⟨by rw [hbad]; rfl, rfl, rfl⟩

set_option maxHeartbeats 1000000 in
set_option maxRecDepth 10000 in
theorem lp_X12_isWord_4 {d : Nat} {M : Mm} {ML : Ml} {N : Nat} {x : Int32} (hN : M 73 0 = nI N) (hN1 : 1 ≤ N) (hN7 : N ≤ 7) : ∀ e, e ≤ N → WP (d + 1) cd_X12_isWord true (fun r M2 L2 => r = some (.int (b2i (wdB N x))) ∧ L2 = ML ∧ M2 = M) (4, [(0, .ref 73), (1, .int x), (2, .int (nI (10 ^ e))), (3, .int (nI e))], [], (SH, M, ML)) := by
  refine up_ind fun e he ih => ?_
  refine w_ld rfl rfl ?_
  refine w_ld rfl rfl ?_
  refine w_getv rfl rfl rfl rfl rfl (hN) ?_
  refine w_cj rfl rfl (fun h_9 => ?_) (fun h_9 => ?_)
  · have h9 : e = N := by have := nle (by omega) (by omega) h_9; omega
    subst h9
    have hp := p10 hN7
    have hp1 : 0 < 10 ^ e := Nat.pow_pos (by decide)
    refine w_ld rfl rfl ?_
    refine w_ld rfl rfl ?_
    refine w_cst (v := .int 10) rfl rfl ?_
    refine w_div rfl rfl (by decide) ?_
    rw [show (10 : Int32) = nI 10 from rfl, pk_div (by omega) (by decide) (by decide)]
    refine w_ld rfl rfl ?_
    refine w_cst (v := .int 1) rfl rfl ?_
    refine w_bin rfl rfl ?_
    rw [show (1 : Int32) = nI 1 from rfl, pk_sub (by omega)]
    refine w_cifn (as := [_, _, _]) (rest := []) rfl rfl rfl rfl rfl rfl rfl rfl (ok_X12_in ..) rfl (fun h_31 => ?_) (fun h_31 => ?_)
    · refine w_cst (v := .int 0) rfl rfl ?_
      refine w_sto (L' := [(0, _), (1, _), (2, _), (3, _)]) rfl rfl ?_
      have h1 := of_decide_eq_true h_31
      have hx : ¬ x < 0 := fun q => absurd (Int32.lt_of_le_of_lt h1.1 q) (ne_m1 (by omega))
      obtain ⟨w, hw, rfl⟩ := nI_of hx
      have h2 := nle (by omega) (by omega) h1.2
      rw [wdB_nI hw]
      exact lp_X12_isWord_41 hN hN7 hw (by omega) 0 (Nat.zero_le _) (fun v hv => absurd hv (Nat.not_lt_zero v))
    · refine w_cst (v := .int 0) rfl rfl ?_
      refine w_ret rfl rfl (rb0) ?_
      refine ⟨?_, rfl, rfl⟩
      have hbad : wdB e x = false := by
        refine Bool.eq_false_iff.mpr fun hB => ?_
        obtain ⟨w, hw, rfl, hB2⟩ := wdB_ex hB
        have h1 := wB_ge hB2 hN1
        have h2 := (wB_iff.mp hB2).1
        exact of_decide_eq_false h_31 ⟨nI_le h1 hw, nI_le (by omega) (by omega)⟩
      rw [hbad]
      exact rfl
  · have hlt : e < N := nnle (by omega) (by omega) h_9
    refine w_ld rfl rfl ?_
    refine w_cst (v := .int 10) rfl rfl ?_
    refine w_bin rfl rfl ?_
    rw [show (10 : Int32) = nI 10 from rfl, pk_mul, ← Nat.pow_succ]
    refine w_sto (L' := [(0, _), (1, _), (2, _), (3, _)]) rfl rfl ?_
    refine w_inc (y := _ + 1) rfl rfl rfl ?_
    refine w_norm (L' := [(0, _), (1, _), (2, _), (3, _)]) rfl ?_
    refine w_go rfl ?_
    rw [nI_1]
    exact ih hlt

set_option maxHeartbeats 1000000 in
set_option maxRecDepth 10000 in
theorem ok_X12_isWord {d : Nat} {M : Mm} {ML : Ml} {N : Nat} {x : Int32} (hN : M 73 0 = nI N) (hN1 : 1 ≤ N) (hN7 : N ≤ 7) : EX (d + 2) k_X12_isWord [.ref 73, .int x] M ML (fun r M2 L2 => r = some (.int (b2i (wdB N x))) ∧ L2 = ML ∧ M2 = M) := by
  refine EX_in mi_X12_isWord rfl rfl ?_
  show WP _ cd_X12_isWord true _ (0, [(0, .ref 73), (1, .int x)], [], (SH, M, ML))
  refine w_cst (v := .int 1) rfl rfl ?_
  refine w_sto (L' := [(0, _), (1, _), (2, _)]) rfl rfl ?_
  refine w_cst (v := .int 0) rfl rfl ?_
  refine w_sto (L' := [(0, _), (1, _), (2, _), (3, _)]) rfl rfl ?_
  exact lp_X12_isWord_4 hN hN1 hN7 0 (Nat.zero_le _)

set_option maxHeartbeats 1000000 in
set_option maxRecDepth 10000 in
theorem lp_X10_arrowsOf_40 {d : Nat} {M : Mm} {ML : Ml} {N E A : Nat} {l h : Nat → Nat} (hS : NS M 2 3 4 5 6 N E A l h) (hW : WN N E A l h) {w : Nat} (hp : ∀ v, v < N → M 40 v = nI (pl N w v)) : ∀ e, e ≤ E → WP (d + 1) cd_X10_arrowsOf false (fun r M2 L2 => r = some (.int (nI (arW E l h N w))) ∧ L2 = ML ∧ M2 = M) (5, [(0, .ref 39), (1, .ref 2), (2, .ref 40), (3, .int (nI (msk (fun e => decide (pl N w (h e) < pl N w (l e))) e))), (4, .int (nI e))], [], (SH, M, ML)) := by
  have hN7 := hW.2.1
  have hE10 := hW.2.2.1
  have hpl : ∀ v, pl N w v < 7 := fun v => Nat.lt_of_lt_of_le (pl_lt hW.1) hN7
  refine up_ind fun e he ih => ?_
  refine w_ld rfl rfl ?_
  refine w_ld rfl rfl ?_
  refine w_getv rfl rfl rfl rfl rfl (hS.2.1) ?_
  refine w_cj rfl rfl (fun h_11 => ?_) (fun h_11 => ?_)
  · have h9 : e = E := by have := nle (by omega) (by omega) h_11; omega
    subst h9
    refine w_ld rfl rfl ?_
    refine w_ret rfl rfl (trivial) ?_
    exact ⟨rfl, rfl, rfl⟩
  · have hlt : e < E := nnle (by omega) (by omega) h_11
    have hlh := hW.2.2.2.2 e hlt
    refine w_ld rfl rfl ?_
    refine w_ld rfl rfl ?_
    refine w_getr rfl rfl rfl rfl rfl ?_
    refine w_ld rfl rfl ?_
    refine w_call (as := [_, _]) (rest := [_]) rfl rfl rfl rfl rfl rfl rfl rfl (ok_at_v _ _ _ rfl rfl rfl (rfl) (by omega) ((hS.2.2.2.1 e hlt).1)) ?_
    refine w_call (as := [_, _]) (rest := []) rfl rfl rfl rfl rfl rfl rfl rfl (ok_at_v _ _ _ rfl rfl rfl (rfl) (by omega) (hp _ (by omega))) ?_
    refine w_ld rfl rfl ?_
    refine w_ld rfl rfl ?_
    refine w_getr rfl rfl rfl rfl rfl ?_
    refine w_ld rfl rfl ?_
    refine w_call (as := [_, _]) (rest := [_, _]) rfl rfl rfl rfl rfl rfl rfl rfl (ok_at_v _ _ _ rfl rfl rfl (rfl) (by omega) ((hS.2.2.2.1 e hlt).2)) ?_
    refine w_call (as := [_, _]) (rest := [_]) rfl rfl rfl rfl rfl rfl rfl rfl (ok_at_v _ _ _ rfl rfl rfl (rfl) (by omega) (hp _ (by omega))) ?_
    refine w_cj rfl rfl (fun h_40 => ?_) (fun h_40 => ?_)
    · refine w_inc (y := _ + 1) rfl rfl rfl ?_
      refine w_norm (L' := [(0, _), (1, _), (2, _), (3, _), (4, _)]) rfl ?_
      refine w_go rfl ?_
      have a1 := hpl (l e)
      have a2 := hpl (h e)
      rw [nI_1]
      first
        | (rw [or_b1 (p := (fun e => decide (pl N w (h e) < pl N w (l e)))) (by omega) (decide_eq_true (nnle (by omega) (by omega) h_40))]
           exact ih hlt)
        | (rw [sk_b0 (p := (fun e => decide (pl N w (h e) < pl N w (l e)))) (decide_eq_false (Nat.not_lt.mpr (nle (by omega) (by omega) h_40)))]
           exact ih hlt)
    · refine w_ld rfl rfl ?_
      refine w_cst (v := .int 1) rfl rfl ?_
      refine w_ld rfl rfl ?_
      refine w_bin rfl rfl ?_
      refine w_bin rfl rfl ?_
      refine w_sto (L' := [(0, _), (1, _), (2, _), (3, _), (4, _)]) rfl rfl ?_
      refine w_inc (y := _ + 1) rfl rfl rfl ?_
      refine w_norm (L' := [(0, _), (1, _), (2, _), (3, _), (4, _)]) rfl ?_
      refine w_go rfl ?_
      have a1 := hpl (l e)
      have a2 := hpl (h e)
      rw [nI_1]
      first
        | (rw [or_b1 (p := (fun e => decide (pl N w (h e) < pl N w (l e)))) (by omega) (decide_eq_true (nnle (by omega) (by omega) h_40))]
           exact ih hlt)
        | (rw [sk_b0 (p := (fun e => decide (pl N w (h e) < pl N w (l e)))) (decide_eq_false (Nat.not_lt.mpr (nle (by omega) (by omega) h_40)))]
           exact ih hlt)

set_option maxHeartbeats 1000000 in
set_option maxRecDepth 10000 in
theorem ok_X10_arrowsOf_40 {d : Nat} {M : Mm} {ML : Ml} {N E A : Nat} {l h : Nat → Nat} (hS : NS M 2 3 4 5 6 N E A l h) (hW : WN N E A l h) {w : Nat} (hp : ∀ v, v < N → M 40 v = nI (pl N w v)) : EX (d + 2) k_X10_arrowsOf [.ref 39, .ref 2, .ref 40] M ML (fun r M2 L2 => r = some (.int (nI (arW E l h N w))) ∧ L2 = ML ∧ M2 = M) := by
  refine EX_in mi_X10_arrowsOf rfl rfl ?_
  show WP _ cd_X10_arrowsOf false _ (0, [(0, .ref 39), (1, .ref 2), (2, .ref 40)], [], (SH, M, ML))
  refine w_cst (v := .int 0) rfl rfl ?_
  refine w_sto (L' := [(0, _), (1, _), (2, _), (3, _)]) rfl rfl ?_
  refine w_cst (v := .int 0) rfl rfl ?_
  refine w_sto (L' := [(0, _), (1, _), (2, _), (3, _), (4, _)]) rfl rfl ?_
  exact lp_X10_arrowsOf_40 hS hW hp 0 (Nat.zero_le _)

set_option maxHeartbeats 1000000 in
set_option maxRecDepth 10000 in
theorem lp_X10_arrowsOf_41 {d : Nat} {M : Mm} {ML : Ml} {N E A : Nat} {l h : Nat → Nat} (hS : NS M 2 3 4 5 6 N E A l h) (hW : WN N E A l h) {w : Nat} (hp : ∀ v, v < N → M 41 v = nI (pl N w v)) : ∀ e, e ≤ E → WP (d + 1) cd_X10_arrowsOf false (fun r M2 L2 => r = some (.int (nI (arW E l h N w))) ∧ L2 = ML ∧ M2 = M) (5, [(0, .ref 39), (1, .ref 2), (2, .ref 41), (3, .int (nI (msk (fun e => decide (pl N w (h e) < pl N w (l e))) e))), (4, .int (nI e))], [], (SH, M, ML)) := by
  have hN7 := hW.2.1
  have hE10 := hW.2.2.1
  have hpl : ∀ v, pl N w v < 7 := fun v => Nat.lt_of_lt_of_le (pl_lt hW.1) hN7
  refine up_ind fun e he ih => ?_
  refine w_ld rfl rfl ?_
  refine w_ld rfl rfl ?_
  refine w_getv rfl rfl rfl rfl rfl (hS.2.1) ?_
  refine w_cj rfl rfl (fun h_11 => ?_) (fun h_11 => ?_)
  · have h9 : e = E := by have := nle (by omega) (by omega) h_11; omega
    subst h9
    refine w_ld rfl rfl ?_
    refine w_ret rfl rfl (trivial) ?_
    exact ⟨rfl, rfl, rfl⟩
  · have hlt : e < E := nnle (by omega) (by omega) h_11
    have hlh := hW.2.2.2.2 e hlt
    refine w_ld rfl rfl ?_
    refine w_ld rfl rfl ?_
    refine w_getr rfl rfl rfl rfl rfl ?_
    refine w_ld rfl rfl ?_
    refine w_call (as := [_, _]) (rest := [_]) rfl rfl rfl rfl rfl rfl rfl rfl (ok_at_v _ _ _ rfl rfl rfl (rfl) (by omega) ((hS.2.2.2.1 e hlt).1)) ?_
    refine w_call (as := [_, _]) (rest := []) rfl rfl rfl rfl rfl rfl rfl rfl (ok_at_v _ _ _ rfl rfl rfl (rfl) (by omega) (hp _ (by omega))) ?_
    refine w_ld rfl rfl ?_
    refine w_ld rfl rfl ?_
    refine w_getr rfl rfl rfl rfl rfl ?_
    refine w_ld rfl rfl ?_
    refine w_call (as := [_, _]) (rest := [_, _]) rfl rfl rfl rfl rfl rfl rfl rfl (ok_at_v _ _ _ rfl rfl rfl (rfl) (by omega) ((hS.2.2.2.1 e hlt).2)) ?_
    refine w_call (as := [_, _]) (rest := [_]) rfl rfl rfl rfl rfl rfl rfl rfl (ok_at_v _ _ _ rfl rfl rfl (rfl) (by omega) (hp _ (by omega))) ?_
    refine w_cj rfl rfl (fun h_40 => ?_) (fun h_40 => ?_)
    · refine w_inc (y := _ + 1) rfl rfl rfl ?_
      refine w_norm (L' := [(0, _), (1, _), (2, _), (3, _), (4, _)]) rfl ?_
      refine w_go rfl ?_
      have a1 := hpl (l e)
      have a2 := hpl (h e)
      rw [nI_1]
      first
        | (rw [or_b1 (p := (fun e => decide (pl N w (h e) < pl N w (l e)))) (by omega) (decide_eq_true (nnle (by omega) (by omega) h_40))]
           exact ih hlt)
        | (rw [sk_b0 (p := (fun e => decide (pl N w (h e) < pl N w (l e)))) (decide_eq_false (Nat.not_lt.mpr (nle (by omega) (by omega) h_40)))]
           exact ih hlt)
    · refine w_ld rfl rfl ?_
      refine w_cst (v := .int 1) rfl rfl ?_
      refine w_ld rfl rfl ?_
      refine w_bin rfl rfl ?_
      refine w_bin rfl rfl ?_
      refine w_sto (L' := [(0, _), (1, _), (2, _), (3, _), (4, _)]) rfl rfl ?_
      refine w_inc (y := _ + 1) rfl rfl rfl ?_
      refine w_norm (L' := [(0, _), (1, _), (2, _), (3, _), (4, _)]) rfl ?_
      refine w_go rfl ?_
      have a1 := hpl (l e)
      have a2 := hpl (h e)
      rw [nI_1]
      first
        | (rw [or_b1 (p := (fun e => decide (pl N w (h e) < pl N w (l e)))) (by omega) (decide_eq_true (nnle (by omega) (by omega) h_40))]
           exact ih hlt)
        | (rw [sk_b0 (p := (fun e => decide (pl N w (h e) < pl N w (l e)))) (decide_eq_false (Nat.not_lt.mpr (nle (by omega) (by omega) h_40)))]
           exact ih hlt)

set_option maxHeartbeats 1000000 in
set_option maxRecDepth 10000 in
theorem ok_X10_arrowsOf_41 {d : Nat} {M : Mm} {ML : Ml} {N E A : Nat} {l h : Nat → Nat} (hS : NS M 2 3 4 5 6 N E A l h) (hW : WN N E A l h) {w : Nat} (hp : ∀ v, v < N → M 41 v = nI (pl N w v)) : EX (d + 2) k_X10_arrowsOf [.ref 39, .ref 2, .ref 41] M ML (fun r M2 L2 => r = some (.int (nI (arW E l h N w))) ∧ L2 = ML ∧ M2 = M) := by
  refine EX_in mi_X10_arrowsOf rfl rfl ?_
  show WP _ cd_X10_arrowsOf false _ (0, [(0, .ref 39), (1, .ref 2), (2, .ref 41)], [], (SH, M, ML))
  refine w_cst (v := .int 0) rfl rfl ?_
  refine w_sto (L' := [(0, _), (1, _), (2, _), (3, _)]) rfl rfl ?_
  refine w_cst (v := .int 0) rfl rfl ?_
  refine w_sto (L' := [(0, _), (1, _), (2, _), (3, _), (4, _)]) rfl rfl ?_
  exact lp_X10_arrowsOf_41 hS hW hp 0 (Nat.zero_le _)

set_option maxHeartbeats 1000000 in
set_option maxRecDepth 10000 in
theorem lp_X12_arrowsOf_4 {d : Nat} {M : Mm} {ML : Ml} {N E A : Nat} {l h : Nat → Nat} (hS : NM M N E A l h) (hW : WN N E A l h) {w : Nat} (hB : wB N w = true) : ∀ e, e ≤ E → WP (d + 1) cd_X12_arrowsOf false (fun r M2 L2 => r = some (.int (nI (arW E l h N w))) ∧ L2 = ML ∧ M2 = M) (4, [(0, .ref 73), (1, .int (nI w)), (2, .int (nI (msk (fun e => decide (pl N w (h e) < pl N w (l e))) e))), (3, .int (nI e))], [], (SH, M, ML)) := by
  have hw31 : w < 2 ^ 31 := Nat.lt_trans (wB_lt hB hW.2.1) (by decide)
  have hN7 := hW.2.1
  have hE10 := hW.2.2.1
  have hpl : ∀ v, pl N w v < 7 := fun v => Nat.lt_of_lt_of_le (pl_lt hW.1) hN7
  refine up_ind fun e he ih => ?_
  refine w_ld rfl rfl ?_
  refine w_ld rfl rfl ?_
  refine w_getv rfl rfl rfl rfl rfl (hS.2.1) ?_
  refine w_cj rfl rfl (fun h_9 => ?_) (fun h_9 => ?_)
  · have h9 : e = E := by have := nle (by omega) (by omega) h_9; omega
    subst h9
    refine w_ld rfl rfl ?_
    refine w_ret rfl rfl (trivial) ?_
    exact ⟨rfl, rfl, rfl⟩
  · have hlt : e < E := nnle (by omega) (by omega) h_9
    have hlh := hW.2.2.2.2 e hlt
    have a1 := hpl (l e)
    have a2 := hpl (h e)
    refine w_ld rfl rfl ?_
    refine w_ld rfl rfl ?_
    refine w_ld rfl rfl ?_
    refine w_ld rfl rfl ?_
    refine w_getr rfl rfl rfl rfl rfl ?_
    refine w_ld rfl rfl ?_
    refine w_aiv rfl rfl rfl (rfl) (by omega) rfl ((hS.2.2.2 e hlt).2) ?_
    refine w_call (as := [_, _, _]) (rest := [_]) rfl rfl rfl rfl rfl rfl rfl rfl (EX_ex (ok_X12_placeIn hS.1 hN7 hw31 hlh.2)) ?_
    rw [plI_y hB (by omega)]
    refine w_ld rfl rfl ?_
    refine w_ld rfl rfl ?_
    refine w_ld rfl rfl ?_
    refine w_getr rfl rfl rfl rfl rfl ?_
    refine w_ld rfl rfl ?_
    refine w_aiv rfl rfl rfl (rfl) (by omega) rfl ((hS.2.2.2 e hlt).1) ?_
    refine w_call (as := [_, _, _]) (rest := [_, _]) rfl rfl rfl rfl rfl rfl rfl rfl (EX_ex (ok_X12_placeIn hS.1 hN7 hw31 (Nat.lt_trans hlh.1 hlh.2))) ?_
    rw [plI_y hB (by omega)]
    refine w_cj rfl rfl (fun h_35 => ?_) (fun h_35 => ?_)
    · refine w_cst (v := .int 0) rfl rfl ?_
      refine w_bin rfl rfl ?_
      refine w_sto (L' := [(0, _), (1, _), (2, _), (3, _)]) rfl rfl ?_
      refine w_inc (y := _ + 1) rfl rfl rfl ?_
      refine w_norm (L' := [(0, _), (1, _), (2, _), (3, _)]) rfl ?_
      refine w_go rfl ?_
      rw [nI_1]
      first
        | (rw [or_b1 (p := (fun e => decide (pl N w (h e) < pl N w (l e)))) (by omega) (decide_eq_true (nnle (by omega) (by omega) h_35))]
           exact ih hlt)
        | (rw [or_z0 (p := (fun e => decide (pl N w (h e) < pl N w (l e)))) (decide_eq_false (Nat.not_lt.mpr (nle (by omega) (by omega) h_35)))]
           exact ih hlt)
    · refine w_cst (v := .int 1) rfl rfl ?_
      refine w_ld rfl rfl ?_
      refine w_bin rfl rfl ?_
      refine w_go rfl ?_
      refine w_bin rfl rfl ?_
      refine w_sto (L' := [(0, _), (1, _), (2, _), (3, _)]) rfl rfl ?_
      refine w_inc (y := _ + 1) rfl rfl rfl ?_
      refine w_norm (L' := [(0, _), (1, _), (2, _), (3, _)]) rfl ?_
      refine w_go rfl ?_
      rw [nI_1]
      first
        | (rw [or_b1 (p := (fun e => decide (pl N w (h e) < pl N w (l e)))) (by omega) (decide_eq_true (nnle (by omega) (by omega) h_35))]
           exact ih hlt)
        | (rw [or_z0 (p := (fun e => decide (pl N w (h e) < pl N w (l e)))) (decide_eq_false (Nat.not_lt.mpr (nle (by omega) (by omega) h_35)))]
           exact ih hlt)

set_option maxHeartbeats 1000000 in
set_option maxRecDepth 10000 in
theorem ok_X12_arrowsOf {d : Nat} {M : Mm} {ML : Ml} {N E A : Nat} {l h : Nat → Nat} (hS : NM M N E A l h) (hW : WN N E A l h) {w : Nat} (hB : wB N w = true) : EX (d + 2) k_X12_arrowsOf [.ref 73, .int (nI w)] M ML (fun r M2 L2 => r = some (.int (nI (arW E l h N w))) ∧ L2 = ML ∧ M2 = M) := by
  refine EX_in mi_X12_arrowsOf rfl rfl ?_
  show WP _ cd_X12_arrowsOf false _ (0, [(0, .ref 73), (1, .int (nI w))], [], (SH, M, ML))
  refine w_cst (v := .int 0) rfl rfl ?_
  refine w_sto (L' := [(0, _), (1, _), (2, _)]) rfl rfl ?_
  refine w_cst (v := .int 0) rfl rfl ?_
  refine w_sto (L' := [(0, _), (1, _), (2, _), (3, _)]) rfl rfl ?_
  exact lp_X12_arrowsOf_4 hS hW hB 0 (Nat.zero_le _)

set_option maxHeartbeats 1000000 in
set_option maxRecDepth 10000 in
theorem ok_X12_byWord {d : Nat} {M : Mm} {ML : Ml} {N E A : Nat} {l h : Nat → Nat} (hS : NM M N E A l h) (hW : WN N E A l h) {x : Int32} : EX (d + 3) k_X12_byWord [.ref 73, .int x] M ML (fun r M2 L2 => r = some (.int (if wdB N x then nI (arW E l h N x.toNatClampNeg) else -1)) ∧ L2 = ML ∧ M2 = M) := by
  refine EX_in mi_X12_byWord rfl rfl ?_
  show WP _ cd_X12_byWord false _ (0, [(0, .ref 73), (1, .int x)], [], (SH, M, ML))
  refine w_ld rfl rfl ?_
  refine w_ld rfl rfl ?_
  refine w_cife (as := [_, _]) (rest := []) rfl rfl rfl rfl rfl rfl rfl rfl (EX_ex (ok_X12_isWord hS.1 hW.1 hW.2.1)) rfl (fun h_2 => ?_) (fun h_2 => ?_)
  · refine w_cst (v := .int (-1)) rfl rfl ?_
    refine w_ret rfl rfl (trivial) ?_
    rw [h_2]
    exact ⟨rfl, rfl, rfl⟩
  · obtain ⟨w, hw, rfl, hB⟩ := wdB_ex h_2
    rw [nI_clamp hw]
    refine w_ld rfl rfl ?_
    refine w_ld rfl rfl ?_
    refine w_call (as := [_, _]) (rest := []) rfl rfl rfl rfl rfl rfl rfl rfl (EX_ex (ok_X12_arrowsOf hS hW hB)) ?_
    refine w_go rfl ?_
    refine w_ret rfl rfl (trivial) ?_
    rw [h_2]
    exact ⟨rfl, rfl, rfl⟩

set_option maxHeartbeats 1000000 in
set_option maxRecDepth 10000 in
theorem ok_X11_byWord {d : Nat} {M : Mm} {ML : Ml} {N E A : Nat} {l h : Nat → Nat} (hS : NS M 2 3 4 5 6 N E A l h) (hW : WN N E A l h) {x : Int32} : EX (d + 4) k_X11_byWord [.ref 1, .int x] M ML (fun r M2 L2 => r = some (.int (if wdB N x then nI (arW E l h N x.toNatClampNeg) else -1)) ∧ L2 = ML ∧ Fr [40] M M2) := by
  refine EX_in mi_X11_byWord rfl rfl ?_
  show WP _ cd_X11_byWord false _ (0, [(0, .ref 1), (1, .int x)], [], (SH, M, ML))
  refine w_ld rfl rfl ?_
  refine w_getr rfl rfl rfl rfl rfl ?_
  refine w_ld rfl rfl ?_
  refine w_getr rfl rfl rfl rfl rfl ?_
  refine w_getv rfl rfl rfl rfl rfl (hS.1) ?_
  refine w_ld rfl rfl ?_
  obtain ⟨_, M3, L3, ⟨rfl, rfl, hF, hp⟩, hE12⟩ := ok_X10_takeOne (d := d) (ML := ML) (M := M) (x := x) hW
  refine w_cifn (as := [_, _, _]) (rest := []) rfl rfl rfl rfl rfl rfl rfl rfl hE12 rfl (fun h_12 => ?_) (fun h_12 => ?_)
  · refine w_ld rfl rfl ?_
    refine w_getr rfl rfl rfl rfl rfl ?_
    refine w_ld rfl rfl ?_
    refine w_getr rfl rfl rfl rfl rfl ?_
    refine w_ld rfl rfl ?_
    refine w_getr rfl rfl rfl rfl rfl ?_
    refine w_getr rfl rfl rfl rfl rfl ?_
    refine w_call (as := [_, _, _]) (rest := []) rfl rfl rfl rfl rfl rfl rfl rfl (EX_ex (ok_X10_arrowsOf_40 (NS_Fr hS hF (by decide)) hW (hp h_12))) ?_
    refine w_ret rfl rfl (trivial) ?_
    rw [h_12]
    exact ⟨rfl, rfl, hF⟩
  · refine w_cst (v := .int (-1)) rfl rfl ?_
    refine w_ret rfl rfl (trivial) ?_
    rw [h_12]
    exact ⟨rfl, rfl, hF⟩

