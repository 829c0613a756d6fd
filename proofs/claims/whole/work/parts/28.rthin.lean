/-! ===== the reference: thin ===== -/
/-- no two neighbours undo each other among the first k + 1 -/
def chL (k : Nat) (L : List (Nat × Bool)) : Prop := ∀ j, j < k → ∀ x y, L[j]? = some x → L[j + 1]? = some y → prD x y = false
theorem runS_take {L : List (Nat × Bool)} : ∀ k, chL k L → runS [] L = runS (L.take (k + 1)).reverse (L.drop (k + 1))
  | 0, _ => by
    cases L with
    | nil => rfl
    | cons x t => simp [runS]
  | k + 1, h => by
    rw [runS_take k (fun j hj => h j (by omega))]
    rcases Nat.lt_or_ge (k + 1) L.length with hlt | hge
    · have hk : k < L.length := by omega
      have hp := h k (by omega) L[k] L[k + 1] (List.getElem?_eq_getElem hk) (List.getElem?_eq_getElem hlt)
      rw [List.drop_eq_getElem_cons hlt, List.take_succ_eq_append_getElem hlt, List.take_succ_eq_append_getElem hk]
      simp only [List.reverse_append, List.reverse_cons, List.reverse_nil, List.nil_append, List.cons_append]
      rw [runS, hp]
      rfl
    · rw [List.drop_eq_nil_of_le hge, List.drop_eq_nil_of_le (by omega), List.take_of_length_le hge, List.take_of_length_le (by omega)]
theorem runS_end {L : List (Nat × Bool)} {k : Nat} (h : chL k L) (hk : L.length ≤ k + 1) : runS [] L = L := by
  rw [runS_take k h, List.drop_eq_nil_of_le hk, List.take_of_length_le hk]
  have : ∀ s : List (Nat × Bool), runS s [] = s.reverse := fun s => by cases s <;> rfl
  rw [this, List.reverse_reverse]
theorem runS_out {L : List (Nat × Bool)} {k : Nat} (h : chL k L) (hlt : k + 1 < L.length) (hp : prD (L[k]'(by omega)) L[k + 1] = true) : runS [] (L.take k ++ L.drop (k + 2)) = runS [] L := by
  have hk : k < L.length := by omega
  have e1 : runS [] L = runS (L.take k).reverse (L.drop (k + 2)) := by
    rw [runS_take k h, List.drop_eq_getElem_cons hlt, List.take_succ_eq_append_getElem hk]
    simp only [List.reverse_append, List.reverse_cons, List.reverse_nil, List.nil_append, List.cons_append]
    rw [runS, hp]
    rfl
  rw [e1]
  rcases k with _ | j
  · simp
  · have hl : (L.take (j + 1)).length = j + 1 := by simp; omega
    have hc : chL j (L.take (j + 1) ++ L.drop (j + 1 + 2)) := by
      intro i hi x y hx hy
      rw [List.getElem?_append_left (by omega), List.getElem?_take, if_pos (by omega)] at hx hy
      exact h i (by omega) x y hx hy
    rw [runS_take j hc, List.take_append_of_le_length (by omega), List.drop_append_of_le_length (by omega), List.take_of_length_le (l := L.take (j + 1)) (by omega), List.drop_eq_nil_of_le (as := L.take (j + 1)) (by omega), List.nil_append]

set_option maxHeartbeats 1000000 in
set_option maxRecDepth 10000 in
theorem lp_X12_thin_4 (d : Nat) (M : Nat → Nat → Int32) (ML : Nat → Nat → Int64) {L : List (Nat × Bool)} {n : Nat} : ∀ f (Lc : List (Nat × Bool)) (k : Nat) (M' : Nat → Nat → Int32), 32 * Lc.length + 32 - k ≤ f → k ≤ Lc.length → Lc.length ≤ n → n ≤ 24 → LG (M' 73 5) (M' 76) (M' 77) Lc → chL k Lc → runS [] Lc = runS [] L → Fm [76, 77] [5] M M' → ∃ M9, (LG (M9 73 5) (M9 76) (M9 77) (runS [] L) ∧ Fm [76, 77] [5] M M9) ∧ RR (d + 1) cd_X12_thin false (some (.int (nI (n - (runS [] L).length))), (SH, M9, ML)) (4, [(0, .ref 73), (1, .int (nI (n - Lc.length))), (2, .int (nI k))], [], (SH, M', ML)) := by
  intro f
  induction f with
  | zero => intro Lc k M' hf hk hn h24 hl hc hr hm; omega
  | succ f ih =>
    intro Lc k M' hf hk hn h24 hl hc hr hm
    rcases Nat.lt_or_ge (k + 1) Lc.length with hlt | hge
    · have hk1 : k < Lc.length := by omega
      have hF : ¬ (M' 73 5 - 1 ≤ nI k) := by
        rw [hl.1, show (1 : Int32) = nI 1 from rfl, pk_sub (by omega)]
        exact fun q => by have := nle (by omega) (by omega) q; omega
      obtain ⟨h7, h1, h2⟩ := hl.2.2 k _ _ (List.getElem?_eq_getElem hk1)
      obtain ⟨h8, h3, h4⟩ := hl.2.2 (k + 1) _ _ (List.getElem?_eq_getElem hlt)
      simp only [List.get_eq_getElem] at h1 h2 h3 h4 h7 h8
      by_cases hy1 : Lc[k].1 = Lc[k + 1].1
      · by_cases hy2 : Lc[k].2 = Lc[k + 1].2
        · obtain ⟨M9, hq, hR⟩ := ih Lc (k + 1) M' (by omega) (by omega) hn h24 hl (by
            intro j hj x y hx hy
            rcases Nat.lt_or_ge j k with hj2 | hj2
            · exact hc j hj2 x y hx hy
            · have hjk : j = k := by omega
              subst hjk
              rw [List.getElem?_eq_getElem hk1] at hx
              rw [List.getElem?_eq_getElem hlt] at hy
              cases hx
              cases hy
              simp [prD, hy2]) hr hm
          refine ⟨M9, hq, ?_⟩
          refine r_ld rfl rfl ?_
          refine r_ld rfl rfl ?_
          refine q_geti rfl rfl rfl rfl rfl ?_
          refine r_cst (v := .int 1) rfl rfl ?_
          refine r_bin rfl rfl ?_
          refine q_cjF rfl rfl (hF) ?_
          refine r_ld rfl rfl ?_
          refine q_getr rfl rfl rfl rfl rfl ?_
          refine r_ld rfl rfl ?_
          refine q_ain rfl rfl rfl (rfl) (by omega) rfl ?_
          refine r_ld rfl rfl ?_
          refine q_getr rfl rfl rfl rfl rfl ?_
          refine r_ld rfl rfl ?_
          refine r_cst (v := .int 1) rfl rfl ?_
          refine r_bin rfl rfl ?_
          refine q_ain rfl rfl rfl (nI_1 k) (by omega) rfl ?_
          refine q_cjF rfl rfl (fun q => q (by rw [h1, h3, hy1])) ?_
          refine r_ld rfl rfl ?_
          refine q_getr rfl rfl rfl rfl rfl ?_
          refine r_ld rfl rfl ?_
          refine q_ain rfl rfl rfl (rfl) (by omega) rfl ?_
          refine r_ld rfl rfl ?_
          refine q_getr rfl rfl rfl rfl rfl ?_
          refine r_ld rfl rfl ?_
          refine r_cst (v := .int 1) rfl rfl ?_
          refine r_bin rfl rfl ?_
          refine q_ain rfl rfl rfl (nI_1 k) (by omega) rfl ?_
          refine q_cjT rfl rfl (by rw [h2, h4, hy2]) ?_
          refine q_inc (y := nI (k + 1)) rfl rfl (nI_1 k) ?_
          refine q_norm (L' := [(0, _), (1, _), (2, _)]) rfl ?_
          refine r_go rfl ?_
          exact hR
        · have hp : prD Lc[k] Lc[k + 1] = true := by simp [prD, hy1, hy2]
          obtain ⟨M2, hx2, hl2, hm2⟩ := ok_X12_goesOut (k := k) (m := 2) d M' ML hl (by omega)
          have hlen : (Lc.take k ++ Lc.drop (k + 2)).length = Lc.length - 2 := by simp; omega
          obtain ⟨M9, hq, hR⟩ := ih (Lc.take k ++ Lc.drop (k + 2)) 0 M2 (by rw [hlen]; omega) (Nat.zero_le _) (by rw [hlen]; omega) h24 hl2 (fun j hj => by omega) ((runS_out hc hlt hp).trans hr) (Fm_tr hm hm2)
          rw [hlen, show n - (Lc.length - 2) = n - Lc.length + 2 by omega] at hR
          refine ⟨M9, hq, ?_⟩
          refine r_ld rfl rfl ?_
          refine r_ld rfl rfl ?_
          refine q_geti rfl rfl rfl rfl rfl ?_
          refine r_cst (v := .int 1) rfl rfl ?_
          refine r_bin rfl rfl ?_
          refine q_cjF rfl rfl (hF) ?_
          refine r_ld rfl rfl ?_
          refine q_getr rfl rfl rfl rfl rfl ?_
          refine r_ld rfl rfl ?_
          refine q_ain rfl rfl rfl (rfl) (by omega) rfl ?_
          refine r_ld rfl rfl ?_
          refine q_getr rfl rfl rfl rfl rfl ?_
          refine r_ld rfl rfl ?_
          refine r_cst (v := .int 1) rfl rfl ?_
          refine r_bin rfl rfl ?_
          refine q_ain rfl rfl rfl (nI_1 k) (by omega) rfl ?_
          refine q_cjF rfl rfl (fun q => q (by rw [h1, h3, hy1])) ?_
          refine r_ld rfl rfl ?_
          refine q_getr rfl rfl rfl rfl rfl ?_
          refine r_ld rfl rfl ?_
          refine q_ain rfl rfl rfl (rfl) (by omega) rfl ?_
          refine r_ld rfl rfl ?_
          refine q_getr rfl rfl rfl rfl rfl ?_
          refine r_ld rfl rfl ?_
          refine r_cst (v := .int 1) rfl rfl ?_
          refine r_bin rfl rfl ?_
          refine q_ain rfl rfl rfl (nI_1 k) (by omega) rfl ?_
          refine q_cjF rfl rfl (fun q => hy2 (b2i_inj (by rw [h2, h4] at q; exact q))) ?_
          refine r_ld rfl rfl ?_
          refine r_ld rfl rfl ?_
          refine r_cst (v := .int 2) rfl rfl ?_
          refine q_callv (as := [_, _, _]) (rest := []) rfl rfl rfl rfl rfl rfl rfl rfl hx2 ?_
          refine q_inc (y := nI (n - Lc.length + 2)) rfl rfl (nI_add _ 2) ?_
          refine q_norm (L' := [(0, _), (1, _), (2, _)]) rfl ?_
          refine r_cst (v := .int 0) rfl rfl ?_
          refine r_sto (L' := [(0, _), (1, _), (2, _)]) rfl rfl ?_
          refine r_go rfl ?_
          exact hR
      · obtain ⟨M9, hq, hR⟩ := ih Lc (k + 1) M' (by omega) (by omega) hn h24 hl (by
          intro j hj x y hx hy
          rcases Nat.lt_or_ge j k with hj2 | hj2
          · exact hc j hj2 x y hx hy
          · have hjk : j = k := by omega
            subst hjk
            rw [List.getElem?_eq_getElem hk1] at hx
            rw [List.getElem?_eq_getElem hlt] at hy
            cases hx
            cases hy
            simp [prD, hy1]) hr hm
        refine ⟨M9, hq, ?_⟩
        refine r_ld rfl rfl ?_
        refine r_ld rfl rfl ?_
        refine q_geti rfl rfl rfl rfl rfl ?_
        refine r_cst (v := .int 1) rfl rfl ?_
        refine r_bin rfl rfl ?_
        refine q_cjF rfl rfl (hF) ?_
        refine r_ld rfl rfl ?_
        refine q_getr rfl rfl rfl rfl rfl ?_
        refine r_ld rfl rfl ?_
        refine q_ain rfl rfl rfl (rfl) (by omega) rfl ?_
        refine r_ld rfl rfl ?_
        refine q_getr rfl rfl rfl rfl rfl ?_
        refine r_ld rfl rfl ?_
        refine r_cst (v := .int 1) rfl rfl ?_
        refine r_bin rfl rfl ?_
        refine q_ain rfl rfl rfl (nI_1 k) (by omega) rfl ?_
        refine q_cjT rfl rfl (fun q => hy1 (neq (by omega) (by omega) (by rw [← h1, ← h3]; exact q))) ?_
        refine q_inc (y := nI (k + 1)) rfl rfl (nI_1 k) ?_
        refine q_norm (L' := [(0, _), (1, _), (2, _)]) rfl ?_
        refine r_go rfl ?_
        exact hR
    · have hT : M' 73 5 - 1 ≤ nI k := by
        rw [hl.1]
        rcases Nat.eq_zero_or_pos Lc.length with h0 | h0
        · rw [h0]
          exact Int32.le_trans (show nI 0 - 1 ≤ nI 0 by decide) (nI_le (Nat.zero_le _) (by omega))
        · rw [show (1 : Int32) = nI 1 from rfl, pk_sub h0]
          exact nI_le (by omega) (by omega)
      have he := runS_end hc hge
      rw [← hr, he]
      refine ⟨M', ⟨hl, hm⟩, ?_⟩
      refine r_ld rfl rfl ?_
      refine r_ld rfl rfl ?_
      refine q_geti rfl rfl rfl rfl rfl ?_
      refine r_cst (v := .int 1) rfl rfl ?_
      refine r_bin rfl rfl ?_
      refine q_cjT rfl rfl (hT) ?_
      refine r_ld rfl rfl ?_
      refine r_ret rfl rfl (trivial) ?_
      exact rfl

set_option maxHeartbeats 1000000 in
set_option maxRecDepth 10000 in
theorem ok_X12_thin (d : Nat) (M : Nat → Nat → Int32) (ML : Nat → Nat → Int64) {L : List (Nat × Bool)} (hL : LG (M 73 5) (M 76) (M 77) L) : ∃ M', Ex (d + 2) k_X12_thin [.ref 73] (SH, M, ML) (some (.int (nI (L.length - (runS [] L).length))), (SH, M', ML)) ∧ LG (M' 73 5) (M' 76) (M' 77) (runS [] L) ∧ Fm [76, 77] [5] M M' := by
  have h24 := hL.2.1
  obtain ⟨M9, ⟨hq1, hq2⟩, hR⟩ := lp_X12_thin_4 (L := L) (n := L.length) d M ML _ L 0 M (Nat.le_refl _) (Nat.zero_le _) (Nat.le_refl _) h24 hL (fun j hj => by omega) rfl Fm_rf
  rw [Nat.sub_self] at hR
  refine ⟨M9, ?_, hq1, hq2⟩
  refine Ex_in mi_X12_thin rfl rfl ⟨Nat.le_refl _, Nat.le_refl _⟩ ?_
  show RR _ cd_X12_thin false _ (0, [(0, .ref 73)], [], (SH, M, ML))
  refine r_cst (v := .int 0) rfl rfl ?_
  refine r_sto (L' := [(0, _), (1, _)]) rfl rfl ?_
  refine r_cst (v := .int 0) rfl rfl ?_
  refine r_sto (L' := [(0, _), (1, _), (2, _)]) rfl rfl ?_
  exact hR

