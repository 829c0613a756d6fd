/-! ===== Net, 4: remove, between, isFree ===== -/
set_option maxHeartbeats 1000000 in
set_option maxRecDepth 10000 in
theorem lp_X4_remove_39 (d : Nat) (M : Nat → Nat → Int32) (ML : Nat → Nat → Int64) {b : Int32} {k E : Nat} (hE : E ≤ 10) (hE1 : M 2 1 = nI (E - 1)) (hk0 : k < E) {res : Rt} (hk : res = (none, (SH, mkM (shf M 3 4 k (E - 1)) 3 4 5 6 (E - 1) 7, ML))) :
    ∀ e, e ≤ (E - 1) → k ≤ e → ∀ (i : Int32) (M' : Nat → Nat → Int32), i = nI e → M' = shf M 3 4 k e → RR (d + 2) cd_X4_remove false res (39, [(0, .ref 2), (1, .int ((nI k))), (2, .int b), (3, .int i)], [], (SH, M', ML)) := by
  refine up_ind fun e he ih hke => ?_
  intro i M' hv0 hv1
  subst hv0 hv1
  refine r_ld rfl rfl ?_
  refine r_ld rfl rfl ?_
  refine q_geti rfl rfl rfl rfl rfl ?_
  refine r_cj rfl rfl (fun h_44 => ?_) (fun h_44 => ?_)
  · have h9 : e = E - 1 := by
      have := nle (by omega) (by omega) (show nI (E - 1) ≤ nI e by rw [← hE1, ← shf_ne (M := M) (lo := 3) (hi := 4) (k := k) (e := e) (x := 2) (by decide) (by decide)]; exact h_44)
      omega
    subst h9
    refine r_ld rfl rfl ?_
    refine q_callv (as := [_]) (rest := []) rfl rfl rfl rfl rfl rfl rfl rfl (ok_X4_mark_2 _ _ _ (E := E - 1) (by rw [shf_ne (by decide) (by decide)]; exact hE1) (by omega)) ?_
    refine r_ret rfl rfl (trivial) ?_
    exact hk
  · have hlt : e < E - 1 := nnle (by omega) (by omega) (by rw [← hE1, ← shf_ne (M := M) (lo := 3) (hi := 4) (k := k) (e := e) (x := 2) (by decide) (by decide)]; exact h_44)
    refine r_ld rfl rfl ?_
    refine q_getr rfl rfl rfl rfl rfl ?_
    refine r_ld rfl rfl ?_
    refine r_ld rfl rfl ?_
    refine q_getr rfl rfl rfl rfl rfl ?_
    refine r_ld rfl rfl ?_
    refine r_cst (v := .int 1) rfl rfl ?_
    refine r_bin rfl rfl ?_
    refine q_call (as := [_, _]) (rest := [_, _]) rfl rfl rfl rfl rfl rfl rfl rfl (ok_at_n _ _ _ _ rfl rfl rfl (nI_1 e) (by omega)) ?_
    refine q_callv (as := [_, _, _]) (rest := []) rfl rfl rfl rfl rfl rfl rfl rfl (ok_lay_n _ _ _ _ _ rfl rfl rfl rfl (by omega)) ?_
    refine r_ld rfl rfl ?_
    refine q_getr rfl rfl rfl rfl rfl ?_
    refine r_ld rfl rfl ?_
    refine r_ld rfl rfl ?_
    refine q_getr rfl rfl rfl rfl rfl ?_
    refine r_ld rfl rfl ?_
    refine r_cst (v := .int 1) rfl rfl ?_
    refine r_bin rfl rfl ?_
    refine q_call (as := [_, _]) (rest := [_, _]) rfl rfl rfl rfl rfl rfl rfl rfl (ok_at_n _ _ _ _ rfl rfl rfl (nI_1 e) (by omega)) ?_
    refine q_callv (as := [_, _, _]) (rest := []) rfl rfl rfl rfl rfl rfl rfl rfl (ok_lay_n _ _ _ _ _ rfl rfl rfl rfl (by omega)) ?_
    refine q_inc (y := _ + 1) rfl rfl rfl ?_
    refine q_norm (L' := [(0, _), (1, _), (2, _), (3, _)]) rfl ?_
    refine r_go rfl ?_
    refine ih hlt (by omega) _ _ (nI_1 e) ?_
    rw [shf_hi (by omega), up2_ne (by decide), shf_hi (by omega)]
    exact shf_succ (by decide) hke

set_option maxHeartbeats 1000000 in
set_option maxRecDepth 10000 in
theorem ok_X4_remove (d : Nat) (M : Nat → Nat → Int32) (ML : Nat → Nat → Int64) {N E A k : Nat} {l h : Nat → Nat} (hS : NS M 2 3 4 5 6 N E A l h) (hE : E ≤ 10) (hk : k < E) (hA : A < 2 ^ E) (hb : ∀ e, e < E → l e < 7 ∧ h e < 7) : ∃ M', Ex (d + 3) k_X4_remove [.ref 2, .int (nI k)] (SH, M, ML) (none, (SH, M', ML)) ∧ NS M' 2 3 4 5 6 N (E - 1) (remB A k) (fun e => if e < k then l e else l (e + 1)) (fun e => if e < k then h e else h (e + 1)) ∧ Fr [2, 3, 4, 5, 6] M M' := by
  obtain ⟨hN1, hE1, hA1, hl1, -⟩ := hS
  refine ⟨mkM (shf (up2 (up2 M 2 2 (nI (remB A k))) 2 1 (nI (E - 1))) 3 4 k (E - 1)) 3 4 5 6 (E - 1) 7, ?_, NS_mk ⟨by decide, by decide, by decide⟩ ⟨by decide, by decide, by decide, by decide⟩ (by rw [shf_ne (by decide) (by decide)]; simp [up2_at, hN1]) (by rw [shf_ne (by decide) (by decide)]; simp [up2_at]) (by rw [shf_ne (by decide) (by decide)]; simp [up2_at]) (fun e he => ?_) (fun e he => ?_), Fr_mk (by decide) (by decide) (fun x hx => ?_)⟩
  rotate_left 1
  · unfold shf
    by_cases hek : e < k
    · have := hl1 e (by omega)
      have hn : ∀ x : Nat, ¬ ((x = 3 ∨ x = 4) ∧ k ≤ e ∧ e < E - 1) := fun x q => by omega
      exact ⟨by rw [if_neg (hn 3), if_pos hek]; simp [up2_at, this.1], by rw [if_neg (hn 4), if_pos hek]; simp [up2_at, this.2]⟩
    · have := hl1 (e + 1) (by omega)
      have hp : ∀ x : Nat, (x = 3 ∨ x = 4) → ((x = 3 ∨ x = 4) ∧ k ≤ e ∧ e < E - 1) := fun x q => ⟨q, by omega, he⟩
      exact ⟨by rw [if_pos (hp 3 (Or.inl rfl)), if_neg hek]; simp [up2_at, this.1], by rw [if_pos (hp 4 (Or.inr rfl)), if_neg hek]; simp [up2_at, this.2]⟩
  · by_cases hek : e < k
    · have := hb e (by omega)
      simp [hek, this]
    · have := hb (e + 1) (by omega)
      simp [hek, this]
  · simp only [List.mem_cons, not_or] at hx
    rw [shf_ne (by omega) (by omega), up2_ne (by omega), up2_ne (by omega)]
  refine Ex_in mi_X4_remove rfl rfl ⟨Nat.le_refl _, Nat.le_refl _⟩ ?_
  show RR _ cd_X4_remove false _ (0, [(0, .ref 2), (1, .int (nI k))], [], (SH, M, ML))
  refine r_cst (v := .int 1) rfl rfl ?_
  refine r_ld rfl rfl ?_
  refine r_bin rfl rfl ?_
  refine r_cst (v := .int 1) rfl rfl ?_
  refine r_bin rfl rfl ?_
  refine r_sto (L' := [(0, _), (1, _), (2, _)]) rfl rfl ?_
  refine r_ld rfl rfl ?_
  refine r_ld rfl rfl ?_
  refine q_geti rfl rfl rfl rfl rfl ?_
  refine r_ld rfl rfl ?_
  refine r_bin rfl rfl ?_
  refine r_ld rfl rfl ?_
  refine q_geti rfl rfl rfl rfl rfl ?_
  refine r_cst (v := .int 1) rfl rfl ?_
  refine r_bin rfl rfl ?_
  refine r_ld rfl rfl ?_
  refine r_cst (v := .int (-1)) rfl rfl ?_
  refine r_bin rfl rfl ?_
  refine r_bin rfl rfl ?_
  refine r_bin rfl rfl ?_
  rw [hA1, rem_I (Nat.lt_of_lt_of_le hA (p2 (by omega))) (by omega)]
  refine q_put rfl rfl rfl rfl rfl (Or.inl rfl) ?_
  refine r_ld rfl rfl ?_
  refine r_stk rfl rfl ?_
  refine q_geti rfl rfl rfl rfl rfl ?_
  refine r_cst (v := .int 1) rfl rfl ?_
  refine r_bin rfl rfl ?_
  rw [show up2 M 2 2 (nI (remB A k)) 2 1 - 1 = nI (E - 1) by rw [up2_at, if_neg (by decide), hE1, show (1 : Int32) = nI 1 from rfl, pk_sub (by omega)]]
  refine q_put rfl rfl rfl rfl rfl (Or.inl rfl) ?_
  refine r_ld rfl rfl ?_
  refine r_sto (L' := [(0, _), (1, _), (2, _), (3, _)]) rfl rfl ?_
  exact lp_X4_remove_39 d (up2 (up2 M 2 2 (nI (remB A k))) 2 1 (nI (E - 1))) ML hE (by simp [up2_at]) hk rfl k (by omega) (Nat.le_refl _) _ _ rfl (shf_0 _ _ _ _).symm

set_option maxHeartbeats 1000000 in
set_option maxRecDepth 10000 in
theorem lp_X4_between_2_2 (d : Nat) (M : Nat → Nat → Int32) (ML : Nat → Nat → Int64) {N E A i j : Nat} {l h : Nat → Nat} (hS : NS M 2 3 4 5 6 N E A l h) (hE : E ≤ 10) (hi : i < 7) (hj : j < 7) (hb : ∀ e, e < E → l e < 7 ∧ h e < 7) {res : Rt} (hk : res = (some (.int (fstI (fun e => decide (l e = min i j) && decide (h e = max i j)) E)), (SH, M, ML))) :
    ∀ e, e ≤ E → (∀ y, y < e → (fun e => decide (l e = min i j) && decide (h e = max i j)) y = false) → ∀ (x : Int32), x = nI e → RR (d + 1) cd_X4_between false res (2, [(0, .ref 2), (1, .int ((nI i))), (2, .int ((nI j))), (3, .int x)], [], (SH, M, ML)) := by
  obtain ⟨hN1, hE1, hA1, hl1, -⟩ := hS
  refine up_ind fun e he ih hno => ?_
  intro x hv0
  subst hv0
  refine r_ld rfl rfl ?_
  refine r_ld rfl rfl ?_
  refine q_geti rfl rfl rfl rfl rfl ?_
  refine r_cj rfl rfl (fun h_7 => ?_) (fun h_7 => ?_)
  · have h9 : e = E := by
      have := nle (by omega) (by omega) (show nI E ≤ nI e by rw [← hE1]; exact h_7)
      omega
    subst h9
    refine r_cst (v := .int (-1)) rfl rfl ?_
    refine r_ret rfl rfl (trivial) ?_
    rw [hk, fstI_no hno]
  · have hlt : e < E := nnle (by omega) (by omega) (by rw [← hE1]; exact h_7)
    obtain ⟨hl9, hh9⟩ := hl1 e hlt
    obtain ⟨hb1, hb2⟩ := hb e hlt
    refine r_ld rfl rfl ?_
    refine q_getr rfl rfl rfl rfl rfl ?_
    refine r_ld rfl rfl ?_
    refine q_call (as := [_, _]) (rest := []) rfl rfl rfl rfl rfl rfl rfl rfl (ok_at_n _ _ _ _ rfl rfl rfl rfl (by omega)) ?_
    refine r_ld rfl rfl ?_
    refine r_ld rfl rfl ?_
    refine r_mm rfl rfl (Nat.le_of_ble_eq_true rfl) ?_
    rw [minI (by omega) (by omega), hl9]
    refine r_cj rfl rfl (fun h_23 => ?_) (fun h_23 => ?_)
    · refine q_inc (y := _ + 1) rfl rfl rfl ?_
      refine q_norm (L' := [(0, _), (1, _), (2, _), (3, _)]) rfl ?_
      refine r_go rfl ?_
      refine ih hlt (fun y hy => ?_) _ (nI_1 e)
      by_cases hye : y = e
      · subst hye
        first
          | (have : ¬ l y = min i j := fun q => h_23 (congrArg nI q); simp [this]; done)
          | (have : ¬ h y = max i j := fun q => h_39 (congrArg nI q); simp [this]; done)
      · exact hno y (by omega)
    · refine r_ld rfl rfl ?_
      refine q_getr rfl rfl rfl rfl rfl ?_
      refine r_ld rfl rfl ?_
      refine q_call (as := [_, _]) (rest := []) rfl rfl rfl rfl rfl rfl rfl rfl (ok_at_n _ _ _ _ rfl rfl rfl rfl (by omega)) ?_
      refine r_ld rfl rfl ?_
      refine r_ld rfl rfl ?_
      refine r_mm rfl rfl (Nat.le_of_ble_eq_true rfl) ?_
      rw [maxI (by omega) (by omega), hh9]
      refine r_cj rfl rfl (fun h_39 => ?_) (fun h_39 => ?_)
      · refine q_inc (y := _ + 1) rfl rfl rfl ?_
        refine q_norm (L' := [(0, _), (1, _), (2, _), (3, _)]) rfl ?_
        refine r_go rfl ?_
        refine ih hlt (fun y hy => ?_) _ (nI_1 e)
        by_cases hye : y = e
        · subst hye
          first
            | (have : ¬ l y = min i j := fun q => h_23 (congrArg nI q); simp [this]; done)
            | (have : ¬ h y = max i j := fun q => h_39 (congrArg nI q); simp [this]; done)
        · exact hno y (by omega)
      · refine r_ld rfl rfl ?_
        refine r_ret rfl rfl (trivial) ?_
        rw [hk, fstI_yes hlt (by simp [neq (by omega) (by omega) (Classical.not_not.mp h_23), neq (by omega) (by omega) (Classical.not_not.mp h_39)]) hno]

set_option maxHeartbeats 1000000 in
set_option maxRecDepth 10000 in
theorem ok_X4_between_2 (d : Nat) (M : Nat → Nat → Int32) (ML : Nat → Nat → Int64) {N E A i j : Nat} {l h : Nat → Nat} (hS : NS M 2 3 4 5 6 N E A l h) (hE : E ≤ 10) (hi : i < 7) (hj : j < 7) (hb : ∀ e, e < E → l e < 7 ∧ h e < 7) : Ex (d + 2) k_X4_between [.ref 2, .int (nI i), .int (nI j)] (SH, M, ML) (some (.int (fstI (fun e => decide (l e = min i j) && decide (h e = max i j)) E)), (SH, M, ML)) := by
  refine Ex_in mi_X4_between rfl rfl ⟨Nat.le_refl _, Nat.le_refl _⟩ ?_
  show RR _ cd_X4_between false _ (0, [(0, .ref 2), (1, .int (nI i)), (2, .int (nI j))], [], (SH, M, ML))
  refine r_cst (v := .int 0) rfl rfl ?_
  refine r_sto (L' := [(0, _), (1, _), (2, _), (3, _)]) rfl rfl ?_
  exact lp_X4_between_2_2 d M ML hS hE hi hj hb rfl 0 (Nat.zero_le _) (fun y hy => absurd hy (Nat.not_lt_zero _)) _ rfl

set_option maxHeartbeats 1000000 in
set_option maxRecDepth 10000 in
theorem lp_X4_between_2_7 (d : Nat) (M : Nat → Nat → Int32) (ML : Nat → Nat → Int64) {N E A i j : Nat} {l h : Nat → Nat} (hS : NS M 7 8 9 10 11 N E A l h) (hE : E ≤ 10) (hi : i < 7) (hj : j < 7) (hb : ∀ e, e < E → l e < 7 ∧ h e < 7) {res : Rt} (hk : res = (some (.int (fstI (fun e => decide (l e = min i j) && decide (h e = max i j)) E)), (SH, M, ML))) :
    ∀ e, e ≤ E → (∀ y, y < e → (fun e => decide (l e = min i j) && decide (h e = max i j)) y = false) → ∀ (x : Int32), x = nI e → RR (d + 1) cd_X4_between false res (2, [(0, .ref 7), (1, .int ((nI i))), (2, .int ((nI j))), (3, .int x)], [], (SH, M, ML)) := by
  obtain ⟨hN1, hE1, hA1, hl1, -⟩ := hS
  refine up_ind fun e he ih hno => ?_
  intro x hv0
  subst hv0
  refine r_ld rfl rfl ?_
  refine r_ld rfl rfl ?_
  refine q_geti rfl rfl rfl rfl rfl ?_
  refine r_cj rfl rfl (fun h_7 => ?_) (fun h_7 => ?_)
  · have h9 : e = E := by
      have := nle (by omega) (by omega) (show nI E ≤ nI e by rw [← hE1]; exact h_7)
      omega
    subst h9
    refine r_cst (v := .int (-1)) rfl rfl ?_
    refine r_ret rfl rfl (trivial) ?_
    rw [hk, fstI_no hno]
  · have hlt : e < E := nnle (by omega) (by omega) (by rw [← hE1]; exact h_7)
    obtain ⟨hl9, hh9⟩ := hl1 e hlt
    obtain ⟨hb1, hb2⟩ := hb e hlt
    refine r_ld rfl rfl ?_
    refine q_getr rfl rfl rfl rfl rfl ?_
    refine r_ld rfl rfl ?_
    refine q_call (as := [_, _]) (rest := []) rfl rfl rfl rfl rfl rfl rfl rfl (ok_at_n _ _ _ _ rfl rfl rfl rfl (by omega)) ?_
    refine r_ld rfl rfl ?_
    refine r_ld rfl rfl ?_
    refine r_mm rfl rfl (Nat.le_of_ble_eq_true rfl) ?_
    rw [minI (by omega) (by omega), hl9]
    refine r_cj rfl rfl (fun h_23 => ?_) (fun h_23 => ?_)
    · refine q_inc (y := _ + 1) rfl rfl rfl ?_
      refine q_norm (L' := [(0, _), (1, _), (2, _), (3, _)]) rfl ?_
      refine r_go rfl ?_
      refine ih hlt (fun y hy => ?_) _ (nI_1 e)
      by_cases hye : y = e
      · subst hye
        first
          | (have : ¬ l y = min i j := fun q => h_23 (congrArg nI q); simp [this]; done)
          | (have : ¬ h y = max i j := fun q => h_39 (congrArg nI q); simp [this]; done)
      · exact hno y (by omega)
    · refine r_ld rfl rfl ?_
      refine q_getr rfl rfl rfl rfl rfl ?_
      refine r_ld rfl rfl ?_
      refine q_call (as := [_, _]) (rest := []) rfl rfl rfl rfl rfl rfl rfl rfl (ok_at_n _ _ _ _ rfl rfl rfl rfl (by omega)) ?_
      refine r_ld rfl rfl ?_
      refine r_ld rfl rfl ?_
      refine r_mm rfl rfl (Nat.le_of_ble_eq_true rfl) ?_
      rw [maxI (by omega) (by omega), hh9]
      refine r_cj rfl rfl (fun h_39 => ?_) (fun h_39 => ?_)
      · refine q_inc (y := _ + 1) rfl rfl rfl ?_
        refine q_norm (L' := [(0, _), (1, _), (2, _), (3, _)]) rfl ?_
        refine r_go rfl ?_
        refine ih hlt (fun y hy => ?_) _ (nI_1 e)
        by_cases hye : y = e
        · subst hye
          first
            | (have : ¬ l y = min i j := fun q => h_23 (congrArg nI q); simp [this]; done)
            | (have : ¬ h y = max i j := fun q => h_39 (congrArg nI q); simp [this]; done)
        · exact hno y (by omega)
      · refine r_ld rfl rfl ?_
        refine r_ret rfl rfl (trivial) ?_
        rw [hk, fstI_yes hlt (by simp [neq (by omega) (by omega) (Classical.not_not.mp h_23), neq (by omega) (by omega) (Classical.not_not.mp h_39)]) hno]

set_option maxHeartbeats 1000000 in
set_option maxRecDepth 10000 in
theorem ok_X4_between_7 (d : Nat) (M : Nat → Nat → Int32) (ML : Nat → Nat → Int64) {N E A i j : Nat} {l h : Nat → Nat} (hS : NS M 7 8 9 10 11 N E A l h) (hE : E ≤ 10) (hi : i < 7) (hj : j < 7) (hb : ∀ e, e < E → l e < 7 ∧ h e < 7) : Ex (d + 2) k_X4_between [.ref 7, .int (nI i), .int (nI j)] (SH, M, ML) (some (.int (fstI (fun e => decide (l e = min i j) && decide (h e = max i j)) E)), (SH, M, ML)) := by
  refine Ex_in mi_X4_between rfl rfl ⟨Nat.le_refl _, Nat.le_refl _⟩ ?_
  show RR _ cd_X4_between false _ (0, [(0, .ref 7), (1, .int (nI i)), (2, .int (nI j))], [], (SH, M, ML))
  refine r_cst (v := .int 0) rfl rfl ?_
  refine r_sto (L' := [(0, _), (1, _), (2, _), (3, _)]) rfl rfl ?_
  exact lp_X4_between_2_7 d M ML hS hE hi hj hb rfl 0 (Nat.zero_le _) (fun y hy => absurd hy (Nat.not_lt_zero _)) _ rfl

