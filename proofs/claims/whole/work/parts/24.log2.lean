/-! ===== the log, 2 ===== -/
set_option maxHeartbeats 1000000 in
set_option maxRecDepth 10000 in
theorem lp_X1_copy_7_12_55 (d : Nat) (M : Nat → Nat → Int32) (ML : Nat → Nat → Int64) {L : List (Nat × Bool)} (hL : LG (M 55 0) (M 56) (M 57) L) : ∀ e, e ≤ L.length → ∀ M', LG (M' 12 0) (M' 13) (M' 14) (L.take e) → Fr [12, 13, 14] M M' → ∃ M9, (LG (M9 12 0) (M9 13) (M9 14) L ∧ Fr [12, 13, 14] M M9) ∧ RR (d + 2) cd_X1_copy false (none, (SH, M9, ML)) (7, [(0, .ref 12), (1, .ref 55), (2, .int (nI e))], [], (SH, M', ML)) := by
  refine up_ind fun e he ih => ?_
  intro M' hl hf
  have h24 := hL.2.1
  have hc : M' 55 0 = nI L.length := by rw [hf 55 (by decide)]; exact hL.1
  rcases Nat.lt_or_ge e L.length with hlt | hge
  · have hel : L[e]? = some (L[e].1, L[e].2) := List.getElem?_eq_getElem hlt
    obtain ⟨h7, h1, h2⟩ := hL.2.2 e _ _ hel
    have h1' : M' 56 e = nI L[e].1 := by rw [hf 56 (by decide)]; exact h1
    have h2' : M' 57 e = b2i L[e].2 := by rw [hf 57 (by decide)]; exact h2
    obtain ⟨M2, hx2, hl2, hf2⟩ := ok_X1_add_12 d M' ML (v := L[e].1) (b := L[e].2) hl h7
    have e9 : addL (L.take e) (L[e].1, L[e].2) = L.take (e + 1) := by
      unfold addL
      rw [if_neg (by simp; omega), List.take_succ_eq_append_getElem hlt]
    rw [e9] at hl2
    obtain ⟨M9, hq, hR⟩ := ih hlt M2 hl2 (Fr_tr hf hf2)
    refine ⟨M9, hq, ?_⟩
    refine r_ld rfl rfl ?_
    refine r_ld rfl rfl ?_
    refine q_geti rfl rfl rfl rfl rfl ?_
    refine q_cjF rfl rfl (by rw [hc]; exact nI_ge hlt (by omega)) ?_
    refine r_ld rfl rfl ?_
    refine r_ld rfl rfl ?_
    refine q_getr rfl rfl rfl rfl rfl ?_
    refine r_ld rfl rfl ?_
    refine q_call (as := [_, _]) (rest := [_]) rfl rfl rfl rfl rfl rfl rfl rfl (ok_at_n _ _ _ _ rfl rfl rfl rfl (by omega)) ?_
    refine r_ld rfl rfl ?_
    refine q_getr rfl rfl rfl rfl rfl ?_
    refine r_ld rfl rfl ?_
    refine q_call (as := [_, _]) (rest := [_, _]) rfl rfl rfl rfl rfl rfl rfl rfl (ok_at_n _ _ _ _ rfl rfl rfl rfl (by omega)) ?_
    rw [h1', h2']
    refine q_callv (as := [_, _, _]) (rest := []) rfl rfl rfl rfl rfl rfl rfl rfl hx2 ?_
    refine q_inc (y := nI (e + 1)) rfl rfl (nI_1 e) ?_
    refine q_norm (L' := [(0, _), (1, _), (2, _)]) rfl ?_
    refine r_go rfl ?_
    exact hR
  · have h9 : e = L.length := by omega
    subst h9
    rw [List.take_length] at hl
    refine ⟨M', ⟨hl, hf⟩, ?_⟩
    refine r_ld rfl rfl ?_
    refine r_ld rfl rfl ?_
    refine q_geti rfl rfl rfl rfl rfl ?_
    refine q_cjT rfl rfl (by rw [hc]; exact nI_le (Nat.le_refl _) (by omega)) ?_
    refine r_ret rfl rfl (trivial) ?_
    exact rfl

set_option maxHeartbeats 1000000 in
theorem ok_X1_copy_12_55 (d : Nat) (M : Nat → Nat → Int32) (ML : Nat → Nat → Int64) {L : List (Nat × Bool)} (hL : LG (M 55 0) (M 56) (M 57) L) : ∃ M', Ex (d + 3) k_X1_copy [.ref 12, .ref 55] (SH, M, ML) (none, (SH, M', ML)) ∧ LG (M' 12 0) (M' 13) (M' 14) L ∧ Fr [12, 13, 14] M M' := by
  have hLs : LG (up2 M 12 0 0 55 0) (up2 M 12 0 0 56) (up2 M 12 0 0 57) L := by rw [up2_ne (by decide), up2_ne (by decide), up2_ne (by decide)]; exact hL
  obtain ⟨M9, ⟨hq1, hq2⟩, hR⟩ := lp_X1_copy_7_12_55 d (up2 M 12 0 0) ML hLs 0 (Nat.zero_le _) _ (by rw [List.take_zero, show up2 M 12 0 0 12 0 = 0 from by simp [up2_at]]; exact LG_0 _ _) Fr_rf
  refine ⟨M9, ?_, hq1, Fr_tr (Fr_up (by decide) Fr_rf) hq2⟩
  refine Ex_in mi_X1_copy rfl rfl ⟨Nat.le_refl _, Nat.le_refl _⟩ ?_
  show RR _ cd_X1_copy false _ (0, [(0, .ref 12), (1, .ref 55)], [], (SH, M, ML))
  refine r_ld rfl rfl ?_
  refine r_cst (v := .int 0) rfl rfl ?_
  refine q_put rfl rfl rfl rfl rfl (Or.inl rfl) ?_
  refine r_cst (v := .int 0) rfl rfl ?_
  refine r_sto (L' := [(0, _), (1, _), (2, _)]) rfl rfl ?_
  exact hR

set_option maxHeartbeats 1000000 in
set_option maxRecDepth 10000 in
theorem lp_X1_copy_7_55_12 (d : Nat) (M : Nat → Nat → Int32) (ML : Nat → Nat → Int64) {L : List (Nat × Bool)} (hL : LG (M 12 0) (M 13) (M 14) L) : ∀ e, e ≤ L.length → ∀ M', LG (M' 55 0) (M' 56) (M' 57) (L.take e) → Fr [55, 56, 57] M M' → ∃ M9, (LG (M9 55 0) (M9 56) (M9 57) L ∧ Fr [55, 56, 57] M M9) ∧ RR (d + 2) cd_X1_copy false (none, (SH, M9, ML)) (7, [(0, .ref 55), (1, .ref 12), (2, .int (nI e))], [], (SH, M', ML)) := by
  refine up_ind fun e he ih => ?_
  intro M' hl hf
  have h24 := hL.2.1
  have hc : M' 12 0 = nI L.length := by rw [hf 12 (by decide)]; exact hL.1
  rcases Nat.lt_or_ge e L.length with hlt | hge
  · have hel : L[e]? = some (L[e].1, L[e].2) := List.getElem?_eq_getElem hlt
    obtain ⟨h7, h1, h2⟩ := hL.2.2 e _ _ hel
    have h1' : M' 13 e = nI L[e].1 := by rw [hf 13 (by decide)]; exact h1
    have h2' : M' 14 e = b2i L[e].2 := by rw [hf 14 (by decide)]; exact h2
    obtain ⟨M2, hx2, hl2, hf2⟩ := ok_X1_add_55 d M' ML (v := L[e].1) (b := L[e].2) hl h7
    have e9 : addL (L.take e) (L[e].1, L[e].2) = L.take (e + 1) := by
      unfold addL
      rw [if_neg (by simp; omega), List.take_succ_eq_append_getElem hlt]
    rw [e9] at hl2
    obtain ⟨M9, hq, hR⟩ := ih hlt M2 hl2 (Fr_tr hf hf2)
    refine ⟨M9, hq, ?_⟩
    refine r_ld rfl rfl ?_
    refine r_ld rfl rfl ?_
    refine q_geti rfl rfl rfl rfl rfl ?_
    refine q_cjF rfl rfl (by rw [hc]; exact nI_ge hlt (by omega)) ?_
    refine r_ld rfl rfl ?_
    refine r_ld rfl rfl ?_
    refine q_getr rfl rfl rfl rfl rfl ?_
    refine r_ld rfl rfl ?_
    refine q_call (as := [_, _]) (rest := [_]) rfl rfl rfl rfl rfl rfl rfl rfl (ok_at_n _ _ _ _ rfl rfl rfl rfl (by omega)) ?_
    refine r_ld rfl rfl ?_
    refine q_getr rfl rfl rfl rfl rfl ?_
    refine r_ld rfl rfl ?_
    refine q_call (as := [_, _]) (rest := [_, _]) rfl rfl rfl rfl rfl rfl rfl rfl (ok_at_n _ _ _ _ rfl rfl rfl rfl (by omega)) ?_
    rw [h1', h2']
    refine q_callv (as := [_, _, _]) (rest := []) rfl rfl rfl rfl rfl rfl rfl rfl hx2 ?_
    refine q_inc (y := nI (e + 1)) rfl rfl (nI_1 e) ?_
    refine q_norm (L' := [(0, _), (1, _), (2, _)]) rfl ?_
    refine r_go rfl ?_
    exact hR
  · have h9 : e = L.length := by omega
    subst h9
    rw [List.take_length] at hl
    refine ⟨M', ⟨hl, hf⟩, ?_⟩
    refine r_ld rfl rfl ?_
    refine r_ld rfl rfl ?_
    refine q_geti rfl rfl rfl rfl rfl ?_
    refine q_cjT rfl rfl (by rw [hc]; exact nI_le (Nat.le_refl _) (by omega)) ?_
    refine r_ret rfl rfl (trivial) ?_
    exact rfl

set_option maxHeartbeats 1000000 in
theorem ok_X1_copy_55_12 (d : Nat) (M : Nat → Nat → Int32) (ML : Nat → Nat → Int64) {L : List (Nat × Bool)} (hL : LG (M 12 0) (M 13) (M 14) L) : ∃ M', Ex (d + 3) k_X1_copy [.ref 55, .ref 12] (SH, M, ML) (none, (SH, M', ML)) ∧ LG (M' 55 0) (M' 56) (M' 57) L ∧ Fr [55, 56, 57] M M' := by
  have hLs : LG (up2 M 55 0 0 12 0) (up2 M 55 0 0 13) (up2 M 55 0 0 14) L := by rw [up2_ne (by decide), up2_ne (by decide), up2_ne (by decide)]; exact hL
  obtain ⟨M9, ⟨hq1, hq2⟩, hR⟩ := lp_X1_copy_7_55_12 d (up2 M 55 0 0) ML hLs 0 (Nat.zero_le _) _ (by rw [List.take_zero, show up2 M 55 0 0 55 0 = 0 from by simp [up2_at]]; exact LG_0 _ _) Fr_rf
  refine ⟨M9, ?_, hq1, Fr_tr (Fr_up (by decide) Fr_rf) hq2⟩
  refine Ex_in mi_X1_copy rfl rfl ⟨Nat.le_refl _, Nat.le_refl _⟩ ?_
  show RR _ cd_X1_copy false _ (0, [(0, .ref 55), (1, .ref 12)], [], (SH, M, ML))
  refine r_ld rfl rfl ?_
  refine r_cst (v := .int 0) rfl rfl ?_
  refine q_put rfl rfl rfl rfl rfl (Or.inl rfl) ?_
  refine r_cst (v := .int 0) rfl rfl ?_
  refine r_sto (L' := [(0, _), (1, _), (2, _)]) rfl rfl ?_
  exact hR

set_option maxHeartbeats 1000000 in
set_option maxRecDepth 10000 in
theorem ok_X1_takeNewest (d : Nat) (M : Nat → Nat → Int32) (ML : Nat → Nat → Int64) {L : List (Nat × Bool)} (hL : LG (M 12 0) (M 13) (M 14) L) {v : Nat} {b : Bool} (hl : L[L.length - 1]? = some (v, b)) : ∃ M', Ex (d + 2) k_X1_takeNewest [.ref 12] (SH, M, ML) (some (.int (nI v)), (SH, M', ML)) ∧ LG (M' 12 0) (M' 13) (M' 14) (L.take (L.length - 1)) ∧ Fr [12] M M' := by
  have h24 := hL.2.1
  have hlt := (List.getElem?_eq_some_iff.mp hl).1
  refine ⟨up2 M 12 0 (nI (L.length - 1)), ?_, ?_, Fr_up (by decide) Fr_rf⟩
  rotate_left 1
  · refine ⟨by simp [up2_at], by simp; omega, fun k v b hk => ?_⟩
    rw [up2_ne (by decide), up2_ne (by decide)]
    have hk2 : k < L.length - 1 := by
      have := (List.getElem?_eq_some_iff.mp hk).1
      simp at this
      omega
    rw [List.getElem?_take, if_pos hk2] at hk
    exact hL.2.2 k v b hk
  refine Ex_in mi_X1_takeNewest rfl rfl ⟨Nat.le_refl _, Nat.le_refl _⟩ ?_
  show RR _ cd_X1_takeNewest false _ (0, [(0, .ref 12)], [], (SH, M, ML))
  refine r_ld rfl rfl ?_
  refine r_stk rfl rfl ?_
  refine q_geti rfl rfl rfl rfl rfl ?_
  refine r_cst (v := .int 1) rfl rfl ?_
  refine r_bin rfl rfl ?_
  rw [hL.1, show (1 : Int32) = nI 1 from rfl, pk_sub (by omega)]
  refine q_put rfl rfl rfl rfl rfl (Or.inl rfl) ?_
  refine r_ld rfl rfl ?_
  refine q_getr rfl rfl rfl rfl rfl ?_
  refine r_ld rfl rfl ?_
  refine q_geti rfl rfl rfl rfl rfl ?_
  refine q_call (as := [_, _]) (rest := []) rfl rfl rfl rfl rfl rfl rfl rfl (ok_at_n _ _ _ _ (k := L.length - 1) rfl rfl rfl (by simp [up2_at]) (by omega)) ?_
  refine r_ret rfl rfl (trivial) ?_
  rw [show up2 M 12 0 (nI (L.length - 1)) 13 (L.length - 1) = nI v from by rw [up2_ne (by decide)]; exact (hL.2.2 _ _ _ hl).2.1]

theorem b2i_inj {a b : Bool} (h : b2i a = b2i b) : a = b := by
  cases a <;> cases b <;> first | rfl | exact absurd h (by decide)
/-- two deeds that undo each other -/
def prD (x y : Nat × Bool) : Bool := decide (x.1 = y.1) && (x.2 != y.2)
/-- each deed meets the newest of those that stay (the stack: newest first) -/
def runS : List (Nat × Bool) → List (Nat × Bool) → List (Nat × Bool)
  | s, [] => s.reverse
  | [], x :: t => runS [x] t
  | y :: s, x :: t => if prD y x then runS s t else runS (x :: y :: s) t
theorem runS_len : ∀ (t s : List (Nat × Bool)), (runS s t).length ≤ s.length + t.length
  | [], s => by cases s <;> simp [runS]
  | x :: t, [] => by
    rw [runS]
    have := runS_len t [x]
    simp at this ⊢
    omega
  | x :: t, y :: s => by
    rw [runS]
    split
    · have := runS_len t s
      simp; omega
    · have := runS_len t (x :: y :: s)
      simp at this ⊢
      omega

set_option maxHeartbeats 1000000 in
set_option maxRecDepth 10000 in
theorem lp_X1_thinOut_12 (d : Nat) (M : Nat → Nat → Int32) (ML : Nat → Nat → Int64) {L : List (Nat × Bool)} (hL : LG (M 12 0) (M 13) (M 14) L) : ∀ k, k ≤ L.length → ∀ M' S0, LG (M' 12 0) (M' 13) (M' 14) S0.reverse → S0.length ≤ k → (∀ j, k ≤ j → M' 13 j = M 13 j ∧ M' 14 j = M 14 j) → runS S0 (L.drop k) = runS [] L → Fr [12, 13, 14] M M' → ∃ M9, (LG (M9 12 0) (M9 13) (M9 14) (runS [] L) ∧ Fr [12, 13, 14] M M9) ∧ RR (d + 2) cd_X1_thinOut false (some (.int (nI (L.length - (runS [] L).length))), (SH, M9, ML)) (12, [(0, .ref 12), (1, .int (nI L.length)), (2, .int (nI k))], [], (SH, M', ML)) := by
  refine up_ind fun k hk ih => ?_
  intro M' S0 hl hs hu hr hf
  have h24 := hL.2.1
  have hc : M' 12 0 = nI S0.length := by have := hl.1; simpa using this
  rcases Nat.lt_or_ge k L.length with hlt | hge
  · rcases hS : S0 with _ | ⟨y, S1⟩
    · have hkl : L[k]? = some (L[k].1, L[k].2) := List.getElem?_eq_getElem hlt
      obtain ⟨h7, h1, h2⟩ := hL.2.2 k _ _ hkl
      have h1' : M' 13 k = nI L[k].1 := by rw [(hu k (Nat.le_refl _)).1]; exact h1
      have h2' : M' 14 k = b2i L[k].2 := by rw [(hu k (Nat.le_refl _)).2]; exact h2
      have hdk : L.drop k = L[k] :: L.drop (k + 1) := List.drop_eq_getElem_cons hlt
      rw [hdk] at hr
      obtain ⟨M2, hx2, hl2, hf2, hu2⟩ := ok_X1_add_b_12 d M' ML (v := L[k].1) (b := L[k].2) hl h7 (by simp only [List.length_reverse] at hs ⊢; omega)
      obtain ⟨M9, hq, hR⟩ := ih hlt M2 (L[k] :: S0) (by
        have e9 : addL S0.reverse (L[k].1, L[k].2) = (L[k] :: S0).reverse := by
          unfold addL
          rw [if_neg (by simp; omega), List.reverse_cons]
        rw [← e9]; exact hl2) (by simp only [List.length_cons]; omega) (fun j hj => by
          have := hu2 j (by simp only [List.length_reverse]; omega)
          rw [this.1, this.2]
          exact hu j (by omega)) (by rw [hS, runS] at hr; rw [hS]; exact hr) (Fr_tr hf hf2)
      refine ⟨M9, hq, ?_⟩
      refine r_ld rfl rfl ?_
      refine r_ld rfl rfl ?_
      refine q_cjF rfl rfl (nI_ge hlt (by omega)) ?_
      refine r_ld rfl rfl ?_
      refine q_getr rfl rfl rfl rfl rfl ?_
      refine r_ld rfl rfl ?_
      refine q_call (as := [_, _]) (rest := []) rfl rfl rfl rfl rfl rfl rfl rfl (ok_at_n _ _ _ _ rfl rfl rfl rfl (by omega)) ?_
      refine r_sto (L' := [(0, _), (1, _), (2, _), (3, _)]) rfl rfl ?_
      refine r_ld rfl rfl ?_
      refine q_getr rfl rfl rfl rfl rfl ?_
      refine r_ld rfl rfl ?_
      refine q_call (as := [_, _]) (rest := []) rfl rfl rfl rfl rfl rfl rfl rfl (ok_at_n _ _ _ _ rfl rfl rfl rfl (by omega)) ?_
      refine r_sto (L' := [(0, _), (1, _), (2, _), (3, _), (4, _)]) rfl rfl ?_
      refine r_ld rfl rfl ?_
      refine q_geti rfl rfl rfl rfl rfl ?_
      refine r_cst (v := .int 1) rfl rfl ?_
      refine r_bin rfl rfl ?_
      refine r_sto (L' := [(0, _), (1, _), (2, _), (3, _), (4, _), (5, _)]) rfl rfl ?_
      refine r_ld rfl rfl ?_
      refine q_geti rfl rfl rfl rfl rfl ?_
      refine q_cjT rfl rfl (by rw [hc, hS]; exact Int32.le_refl _) ?_
      refine r_ld rfl rfl ?_
      refine r_ld rfl rfl ?_
      refine r_ld rfl rfl ?_
      rw [h1', h2']
      refine q_callv (as := [_, _, _]) (rest := []) rfl rfl rfl rfl rfl rfl rfl rfl hx2 ?_
      refine q_inc (y := nI (k + 1)) rfl rfl (nI_1 k) ?_
      refine q_norm (L' := [(0, _), (1, _), (2, _), (3, _), (4, _), (5, _)]) rfl ?_
      refine r_go rfl ?_
      refine q_keep [0, 1, 2] (L' := [(0, _), (1, _), (2, _)]) rfl ?_
      exact hR
    · by_cases hy1 : y.1 = L[k].1
      · by_cases hy2 : y.2 = L[k].2
        · have hkl : L[k]? = some (L[k].1, L[k].2) := List.getElem?_eq_getElem hlt
          obtain ⟨h7, h1, h2⟩ := hL.2.2 k _ _ hkl
          have h1' : M' 13 k = nI L[k].1 := by rw [(hu k (Nat.le_refl _)).1]; exact h1
          have h2' : M' 14 k = b2i L[k].2 := by rw [(hu k (Nat.le_refl _)).2]; exact h2
          have hdk : L.drop k = L[k] :: L.drop (k + 1) := List.drop_eq_getElem_cons hlt
          rw [hdk] at hr
          have hst : S0.reverse[S0.length - 1]? = some (y.1, y.2) := by subst hS; simp
          obtain ⟨h5, h3, h4⟩ := hl.2.2 _ _ _ hst
          have hS1 : S0.length - 1 + 1 = S0.length := by subst hS; simp
          obtain ⟨M2, hx2, hl2, hf2, hu2⟩ := ok_X1_add_b_12 d M' ML (v := L[k].1) (b := L[k].2) hl h7 (by simp only [List.length_reverse] at hs ⊢; omega)
          obtain ⟨M9, hq, hR⟩ := ih hlt M2 (L[k] :: S0) (by
            have e9 : addL S0.reverse (L[k].1, L[k].2) = (L[k] :: S0).reverse := by
              unfold addL
              rw [if_neg (by simp; omega), List.reverse_cons]
            rw [← e9]; exact hl2) (by simp only [List.length_cons]; omega) (fun j hj => by
              have := hu2 j (by simp only [List.length_reverse]; omega)
              rw [this.1, this.2]
              exact hu j (by omega)) (by
            have hp : prD y L[k] = false := by simp [prD, hy2]
            rw [hS, runS, hp] at hr
            rw [hS]
            exact hr) (Fr_tr hf hf2)
          refine ⟨M9, hq, ?_⟩
          refine r_ld rfl rfl ?_
          refine r_ld rfl rfl ?_
          refine q_cjF rfl rfl (nI_ge hlt (by omega)) ?_
          refine r_ld rfl rfl ?_
          refine q_getr rfl rfl rfl rfl rfl ?_
          refine r_ld rfl rfl ?_
          refine q_call (as := [_, _]) (rest := []) rfl rfl rfl rfl rfl rfl rfl rfl (ok_at_n _ _ _ _ rfl rfl rfl rfl (by omega)) ?_
          refine r_sto (L' := [(0, _), (1, _), (2, _), (3, _)]) rfl rfl ?_
          refine r_ld rfl rfl ?_
          refine q_getr rfl rfl rfl rfl rfl ?_
          refine r_ld rfl rfl ?_
          refine q_call (as := [_, _]) (rest := []) rfl rfl rfl rfl rfl rfl rfl rfl (ok_at_n _ _ _ _ rfl rfl rfl rfl (by omega)) ?_
          refine r_sto (L' := [(0, _), (1, _), (2, _), (3, _), (4, _)]) rfl rfl ?_
          refine r_ld rfl rfl ?_
          refine q_geti rfl rfl rfl rfl rfl ?_
          refine r_cst (v := .int 1) rfl rfl ?_
          refine r_bin rfl rfl ?_
          rw [hc, show (1 : Int32) = nI 1 from rfl, pk_sub (by omega)]
          refine r_sto (L' := [(0, _), (1, _), (2, _), (3, _), (4, _), (5, _)]) rfl rfl ?_
          refine r_ld rfl rfl ?_
          refine q_geti rfl rfl rfl rfl rfl ?_
          refine q_cjF rfl rfl (by rw [hc]; exact nI_nle (by omega) (by omega)) ?_
          refine r_ld rfl rfl ?_
          refine q_getr rfl rfl rfl rfl rfl ?_
          refine r_ld rfl rfl ?_
          refine q_call (as := [_, _]) (rest := []) rfl rfl rfl rfl rfl rfl rfl rfl (ok_at_n _ _ _ _ (k := S0.length - 1) rfl rfl rfl rfl (by omega)) ?_
          refine r_ld rfl rfl ?_
          refine q_cjF rfl rfl (fun q => q (by rw [h3, h1', hy1])) ?_
          refine r_ld rfl rfl ?_
          refine q_getr rfl rfl rfl rfl rfl ?_
          refine r_ld rfl rfl ?_
          refine q_call (as := [_, _]) (rest := []) rfl rfl rfl rfl rfl rfl rfl rfl (ok_at_n _ _ _ _ (k := S0.length - 1) rfl rfl rfl rfl (by omega)) ?_
          refine r_ld rfl rfl ?_
          refine q_cjT rfl rfl (by rw [h4, h2', hy2]) ?_
          refine r_ld rfl rfl ?_
          refine r_ld rfl rfl ?_
          refine r_ld rfl rfl ?_
          rw [h1', h2']
          refine q_callv (as := [_, _, _]) (rest := []) rfl rfl rfl rfl rfl rfl rfl rfl hx2 ?_
          refine q_inc (y := nI (k + 1)) rfl rfl (nI_1 k) ?_
          refine q_norm (L' := [(0, _), (1, _), (2, _), (3, _), (4, _), (5, _)]) rfl ?_
          refine r_go rfl ?_
          refine q_keep [0, 1, 2] (L' := [(0, _), (1, _), (2, _)]) rfl ?_
          exact hR
        · have hkl : L[k]? = some (L[k].1, L[k].2) := List.getElem?_eq_getElem hlt
          obtain ⟨h7, h1, h2⟩ := hL.2.2 k _ _ hkl
          have h1' : M' 13 k = nI L[k].1 := by rw [(hu k (Nat.le_refl _)).1]; exact h1
          have h2' : M' 14 k = b2i L[k].2 := by rw [(hu k (Nat.le_refl _)).2]; exact h2
          have hdk : L.drop k = L[k] :: L.drop (k + 1) := List.drop_eq_getElem_cons hlt
          rw [hdk] at hr
          have hst : S0.reverse[S0.length - 1]? = some (y.1, y.2) := by subst hS; simp
          obtain ⟨h5, h3, h4⟩ := hl.2.2 _ _ _ hst
          have hS1 : S0.length - 1 + 1 = S0.length := by subst hS; simp
          have hp : prD y L[k] = true := by simp [prD, hy1, hy2]
          obtain ⟨M9, hq, hR⟩ := ih hlt (up2 M' 12 0 (nI (S0.length - 1))) S1 (by
            refine ⟨by subst hS; simp [up2_at], by have := hl.2.1; subst hS; simp at this ⊢; omega, fun k2 v b hk2 => ?_⟩
            rw [up2_ne (by decide), up2_ne (by decide)]
            apply hl.2.2 k2 v b
            subst hS
            rw [List.reverse_cons, List.getElem?_append_left (List.getElem?_eq_some_iff.mp hk2).1]
            exact hk2) (by subst hS; simp at hs; omega) (fun j hj => by
              rw [up2_ne (by decide), up2_ne (by decide)]
              exact hu j (by omega)) (by
            rw [hS, runS, hp] at hr
            exact hr) (Fr_up (by decide) hf)
          refine ⟨M9, hq, ?_⟩
          refine r_ld rfl rfl ?_
          refine r_ld rfl rfl ?_
          refine q_cjF rfl rfl (nI_ge hlt (by omega)) ?_
          refine r_ld rfl rfl ?_
          refine q_getr rfl rfl rfl rfl rfl ?_
          refine r_ld rfl rfl ?_
          refine q_call (as := [_, _]) (rest := []) rfl rfl rfl rfl rfl rfl rfl rfl (ok_at_n _ _ _ _ rfl rfl rfl rfl (by omega)) ?_
          refine r_sto (L' := [(0, _), (1, _), (2, _), (3, _)]) rfl rfl ?_
          refine r_ld rfl rfl ?_
          refine q_getr rfl rfl rfl rfl rfl ?_
          refine r_ld rfl rfl ?_
          refine q_call (as := [_, _]) (rest := []) rfl rfl rfl rfl rfl rfl rfl rfl (ok_at_n _ _ _ _ rfl rfl rfl rfl (by omega)) ?_
          refine r_sto (L' := [(0, _), (1, _), (2, _), (3, _), (4, _)]) rfl rfl ?_
          refine r_ld rfl rfl ?_
          refine q_geti rfl rfl rfl rfl rfl ?_
          refine r_cst (v := .int 1) rfl rfl ?_
          refine r_bin rfl rfl ?_
          rw [hc, show (1 : Int32) = nI 1 from rfl, pk_sub (by omega)]
          refine r_sto (L' := [(0, _), (1, _), (2, _), (3, _), (4, _), (5, _)]) rfl rfl ?_
          refine r_ld rfl rfl ?_
          refine q_geti rfl rfl rfl rfl rfl ?_
          refine q_cjF rfl rfl (by rw [hc]; exact nI_nle (by omega) (by omega)) ?_
          refine r_ld rfl rfl ?_
          refine q_getr rfl rfl rfl rfl rfl ?_
          refine r_ld rfl rfl ?_
          refine q_call (as := [_, _]) (rest := []) rfl rfl rfl rfl rfl rfl rfl rfl (ok_at_n _ _ _ _ (k := S0.length - 1) rfl rfl rfl rfl (by omega)) ?_
          refine r_ld rfl rfl ?_
          refine q_cjF rfl rfl (fun q => q (by rw [h3, h1', hy1])) ?_
          refine r_ld rfl rfl ?_
          refine q_getr rfl rfl rfl rfl rfl ?_
          refine r_ld rfl rfl ?_
          refine q_call (as := [_, _]) (rest := []) rfl rfl rfl rfl rfl rfl rfl rfl (ok_at_n _ _ _ _ (k := S0.length - 1) rfl rfl rfl rfl (by omega)) ?_
          refine r_ld rfl rfl ?_
          refine q_cjF rfl rfl (fun q => hy2 (b2i_inj (by rw [h4, h2'] at q; exact q))) ?_
          refine r_ld rfl rfl ?_
          refine r_stk rfl rfl ?_
          refine q_geti rfl rfl rfl rfl rfl ?_
          refine r_cst (v := .int 1) rfl rfl ?_
          refine r_bin rfl rfl ?_
          rw [hc, show (1 : Int32) = nI 1 from rfl, pk_sub (by omega)]
          refine q_put rfl rfl rfl rfl rfl (Or.inl rfl) ?_
          refine r_go rfl ?_
          refine q_inc (y := nI (k + 1)) rfl rfl (nI_1 k) ?_
          refine q_norm (L' := [(0, _), (1, _), (2, _), (3, _), (4, _), (5, _)]) rfl ?_
          refine r_go rfl ?_
          refine q_keep [0, 1, 2] (L' := [(0, _), (1, _), (2, _)]) rfl ?_
          exact hR
      · have hkl : L[k]? = some (L[k].1, L[k].2) := List.getElem?_eq_getElem hlt
        obtain ⟨h7, h1, h2⟩ := hL.2.2 k _ _ hkl
        have h1' : M' 13 k = nI L[k].1 := by rw [(hu k (Nat.le_refl _)).1]; exact h1
        have h2' : M' 14 k = b2i L[k].2 := by rw [(hu k (Nat.le_refl _)).2]; exact h2
        have hdk : L.drop k = L[k] :: L.drop (k + 1) := List.drop_eq_getElem_cons hlt
        rw [hdk] at hr
        have hst : S0.reverse[S0.length - 1]? = some (y.1, y.2) := by subst hS; simp
        obtain ⟨h5, h3, h4⟩ := hl.2.2 _ _ _ hst
        have hS1 : S0.length - 1 + 1 = S0.length := by subst hS; simp
        obtain ⟨M2, hx2, hl2, hf2, hu2⟩ := ok_X1_add_b_12 d M' ML (v := L[k].1) (b := L[k].2) hl h7 (by simp only [List.length_reverse] at hs ⊢; omega)
        obtain ⟨M9, hq, hR⟩ := ih hlt M2 (L[k] :: S0) (by
          have e9 : addL S0.reverse (L[k].1, L[k].2) = (L[k] :: S0).reverse := by
            unfold addL
            rw [if_neg (by simp; omega), List.reverse_cons]
          rw [← e9]; exact hl2) (by simp only [List.length_cons]; omega) (fun j hj => by
            have := hu2 j (by simp only [List.length_reverse]; omega)
            rw [this.1, this.2]
            exact hu j (by omega)) (by
          have hp : prD y L[k] = false := by simp [prD, hy1]
          rw [hS, runS, hp] at hr
          rw [hS]
          exact hr) (Fr_tr hf hf2)
        refine ⟨M9, hq, ?_⟩
        refine r_ld rfl rfl ?_
        refine r_ld rfl rfl ?_
        refine q_cjF rfl rfl (nI_ge hlt (by omega)) ?_
        refine r_ld rfl rfl ?_
        refine q_getr rfl rfl rfl rfl rfl ?_
        refine r_ld rfl rfl ?_
        refine q_call (as := [_, _]) (rest := []) rfl rfl rfl rfl rfl rfl rfl rfl (ok_at_n _ _ _ _ rfl rfl rfl rfl (by omega)) ?_
        refine r_sto (L' := [(0, _), (1, _), (2, _), (3, _)]) rfl rfl ?_
        refine r_ld rfl rfl ?_
        refine q_getr rfl rfl rfl rfl rfl ?_
        refine r_ld rfl rfl ?_
        refine q_call (as := [_, _]) (rest := []) rfl rfl rfl rfl rfl rfl rfl rfl (ok_at_n _ _ _ _ rfl rfl rfl rfl (by omega)) ?_
        refine r_sto (L' := [(0, _), (1, _), (2, _), (3, _), (4, _)]) rfl rfl ?_
        refine r_ld rfl rfl ?_
        refine q_geti rfl rfl rfl rfl rfl ?_
        refine r_cst (v := .int 1) rfl rfl ?_
        refine r_bin rfl rfl ?_
        rw [hc, show (1 : Int32) = nI 1 from rfl, pk_sub (by omega)]
        refine r_sto (L' := [(0, _), (1, _), (2, _), (3, _), (4, _), (5, _)]) rfl rfl ?_
        refine r_ld rfl rfl ?_
        refine q_geti rfl rfl rfl rfl rfl ?_
        refine q_cjF rfl rfl (by rw [hc]; exact nI_nle (by omega) (by omega)) ?_
        refine r_ld rfl rfl ?_
        refine q_getr rfl rfl rfl rfl rfl ?_
        refine r_ld rfl rfl ?_
        refine q_call (as := [_, _]) (rest := []) rfl rfl rfl rfl rfl rfl rfl rfl (ok_at_n _ _ _ _ (k := S0.length - 1) rfl rfl rfl rfl (by omega)) ?_
        refine r_ld rfl rfl ?_
        refine q_cjT rfl rfl (fun q => hy1 (neq (by omega) (by omega) (by rw [← h3, ← h1']; exact q))) ?_
        refine r_ld rfl rfl ?_
        refine r_ld rfl rfl ?_
        refine r_ld rfl rfl ?_
        rw [h1', h2']
        refine q_callv (as := [_, _, _]) (rest := []) rfl rfl rfl rfl rfl rfl rfl rfl hx2 ?_
        refine q_inc (y := nI (k + 1)) rfl rfl (nI_1 k) ?_
        refine q_norm (L' := [(0, _), (1, _), (2, _), (3, _), (4, _), (5, _)]) rfl ?_
        refine r_go rfl ?_
        refine q_keep [0, 1, 2] (L' := [(0, _), (1, _), (2, _)]) rfl ?_
        exact hR
  · have h9 : k = L.length := by omega
    subst h9
    rw [List.drop_length] at hr
    have hrl : runS S0 [] = S0.reverse := by cases S0 <;> rfl
    rw [hrl] at hr
    rw [hr] at hl
    have hrn : (runS [] L).length = S0.length := by rw [← hr]; simp
    refine ⟨M', ⟨hl, hf⟩, ?_⟩
    refine r_ld rfl rfl ?_
    refine r_ld rfl rfl ?_
    refine q_cjT rfl rfl (nI_le (Nat.le_refl _) (by omega)) ?_
    refine r_ld rfl rfl ?_
    refine r_ld rfl rfl ?_
    refine q_geti rfl rfl rfl rfl rfl ?_
    refine r_bin rfl rfl ?_
    refine r_ret rfl rfl (trivial) ?_
    rw [hc, hrn, pk_sub hs]

