/-! ===== the log ===== -/
/-- a log in its cells -/
def LG (c : Int32) (f g : Nat → Int32) (L : List (Nat × Bool)) : Prop := c = nI L.length ∧ L.length ≤ 24 ∧ ∀ k v b, L[k]? = some (v, b) → v < 7 ∧ f k = nI v ∧ g k = b2i b
def addL (L : List (Nat × Bool)) (x : Nat × Bool) : List (Nat × Bool) := (if L.length = 24 then L.tail else L) ++ [x]
theorem LG_0 (f g : Nat → Int32) : LG 0 f g [] := ⟨rfl, Nat.zero_le _, fun k v b h => by simp at h⟩
theorem addL_len (L : List (Nat × Bool)) (x : Nat × Bool) (h : L.length ≤ 24) : (addL L x).length ≤ 24 := by
  unfold addL
  split
  · simp; omega
  · simp; omega
theorem LG_add {f g : Nat → Int32} {c : Int32} {L : List (Nat × Bool)} {v : Nat} {b : Bool} (h : LG c f g L) (hn : L.length < 24) (hv : v < 7) : LG (nI (L.length + 1)) (upd f L.length (nI v)) (upd g L.length (b2i b)) (L ++ [(v, b)]) := by
  obtain ⟨-, h2, h3⟩ := h
  refine ⟨by simp, by simp; omega, fun k v' b' hk => ?_⟩
  rcases Nat.lt_trichotomy k L.length with hl | hl | hl
  · rw [List.getElem?_append_left hl] at hk
    have := h3 k v' b' hk
    unfold upd
    rw [if_neg (by omega), if_neg (by omega)]
    exact this
  · subst hl
    rw [List.getElem?_append_right (Nat.le_refl _), Nat.sub_self] at hk
    cases hk
    unfold upd
    rw [if_pos rfl, if_pos rfl]
    exact ⟨hv, rfl, rfl⟩
  · rw [List.getElem?_append_right (by omega)] at hk
    have : k - L.length ≠ 0 := by omega
    cases hq : k - L.length with
    | zero => omega
    | succ n => rw [hq] at hk; simp at hk
theorem LG_tail {f g f' g' : Nat → Int32} {c : Int32} {L : List (Nat × Bool)} (h : LG c f g L) (hf : ∀ k, k + 1 < L.length → f' k = f (k + 1) ∧ g' k = g (k + 1)) : LG (nI (L.length - 1)) f' g' L.tail := by
  obtain ⟨-, h2, h3⟩ := h
  refine ⟨by simp, by simp; omega, fun k v b hk => ?_⟩
  rw [List.getElem?_tail] at hk
  have hl := (List.getElem?_eq_some_iff.mp hk).1
  have := h3 (k + 1) v b hk
  have h9 := hf k hl
  rw [h9.1, h9.2]
  exact this
theorem LG_cong {c c' : Int32} {f g f' g' : Nat → Int32} {L : List (Nat × Bool)} (h : LG c f g L) (hc : c' = c) (hf : ∀ k, k < L.length → f' k = f k ∧ g' k = g k) : LG c' f' g' L := by
  obtain ⟨h1, h2, h3⟩ := h
  refine ⟨hc.trans h1, h2, fun k v b hk => ?_⟩
  have hl := (List.getElem?_eq_some_iff.mp hk).1
  rw [(hf k hl).1, (hf k hl).2]
  exact h3 k v b hk

set_option maxHeartbeats 1000000 in
set_option maxRecDepth 10000 in
theorem lp_X1_add_11_12 (d : Nat) (M : Nat → Nat → Int32) (ML : Nat → Nat → Int64) {u w : Int32} {res : Rt} (hk9 : RR (d + 1) cd_X1_add false res (59, [(0, .ref 12), (1, .int u), (2, .int w), (3, .int (nI 24))], [], (SH, shf M 13 14 0 23, ML))) :
    ∀ k, k ≤ 23 → ∀ (i : Int32) (M' : Nat → Nat → Int32), i = nI (k + 1) → M' = shf M 13 14 0 k → RR (d + 1) cd_X1_add false res (11, [(0, .ref 12), (1, .int u), (2, .int w), (3, .int i)], [], (SH, M', ML)) := by
  refine up_ind fun k hk ih => ?_
  intro i M' hv0 hv1
  subst hv0 hv1
  refine r_ld rfl rfl ?_
  refine r_cst (v := .int 24) rfl rfl ?_
  refine r_cj rfl rfl (fun h_14 => ?_) (fun h_14 => ?_)
  · have h9 : k = 23 := by have := nle (a := 24) (b := k + 1) (by decide) (by omega) h_14; omega
    subst h9
    exact hk9
  · have hlt : k < 23 := by have := nnle (a := 24) (b := k + 1) (by decide) (by omega) h_14; omega
    refine r_ld rfl rfl ?_
    refine q_getr rfl rfl rfl rfl rfl ?_
    refine r_ld rfl rfl ?_
    refine r_cst (v := .int 1) rfl rfl ?_
    refine r_bin rfl rfl ?_
    refine r_ld rfl rfl ?_
    refine q_getr rfl rfl rfl rfl rfl ?_
    refine r_ld rfl rfl ?_
    refine q_call (as := [_, _]) (rest := [_, _]) rfl rfl rfl rfl rfl rfl rfl rfl (ok_at_n _ _ _ _ rfl rfl rfl rfl (by omega)) ?_
    refine q_callv (as := [_, _, _]) (rest := []) rfl rfl rfl rfl rfl rfl rfl rfl (ok_lay_n _ _ _ _ _ rfl rfl rfl (nI_pred k) (by omega)) ?_
    refine r_ld rfl rfl ?_
    refine q_getr rfl rfl rfl rfl rfl ?_
    refine r_ld rfl rfl ?_
    refine r_cst (v := .int 1) rfl rfl ?_
    refine r_bin rfl rfl ?_
    refine r_ld rfl rfl ?_
    refine q_getr rfl rfl rfl rfl rfl ?_
    refine r_ld rfl rfl ?_
    refine q_call (as := [_, _]) (rest := [_, _]) rfl rfl rfl rfl rfl rfl rfl rfl (ok_at_n _ _ _ _ rfl rfl rfl rfl (by omega)) ?_
    refine q_callv (as := [_, _, _]) (rest := []) rfl rfl rfl rfl rfl rfl rfl rfl (ok_lay_n _ _ _ _ _ rfl rfl rfl (nI_pred k) (by omega)) ?_
    refine q_inc (y := _ + 1) rfl rfl rfl ?_
    refine q_norm (L' := [(0, _), (1, _), (2, _), (3, _)]) rfl ?_
    refine r_go rfl ?_
    refine ih hlt _ _ (nI_1 (k + 1)) ?_
    rw [shf_hi (by omega), up2_ne (by decide), shf_hi (by omega)]
    exact shf_succ (by decide) (Nat.zero_le _)

set_option maxHeartbeats 1000000 in
set_option maxRecDepth 10000 in
theorem ok_X1_add_b_12 (d : Nat) (M : Nat → Nat → Int32) (ML : Nat → Nat → Int64) {L : List (Nat × Bool)} {v : Nat} {b : Bool} (hL : LG (M 12 0) (M 13) (M 14) L) (hv : v < 7) (h24 : L.length < 24) : ∃ M', Ex (d + 2) k_X1_add [.ref 12, .int (nI v), .int (b2i b)] (SH, M, ML) (none, (SH, M', ML)) ∧ LG (M' 12 0) (M' 13) (M' 14) (addL L (v, b)) ∧ Fr [12, 13, 14] M M' ∧ ∀ j, j ≠ L.length → M' 13 j = M 13 j ∧ M' 14 j = M 14 j := by
  have hc := hL.1
  refine ⟨(up2 (up2 (up2 M 13 L.length (nI v)) 14 L.length (b2i b)) 12 0 (nI (L.length + 1))), ?_, ?_, ?_, ?_⟩
  rotate_left 1
  · have h9 := LG_add (v := v) (b := b) hL h24 hv
    unfold addL
    rw [if_neg (by omega)]
    exact LG_cong h9 (by simp [up2_at]) (fun k hk => ⟨by simp [up2_at, upd], by simp [up2_at, upd]⟩)
  · exact Fr_up (by decide) (Fr_up (by decide) (Fr_up (by decide) Fr_rf))
  · intro j hj
    exact ⟨by simp [up2_at, hj], by simp [up2_at, hj]⟩
  refine Ex_in mi_X1_add rfl rfl ⟨Nat.le_refl _, Nat.le_refl _⟩ ?_
  show RR _ cd_X1_add false _ (0, [(0, .ref 12), (1, .int (nI v)), (2, .int (b2i b))], [], (SH, M, ML))
  refine r_ld rfl rfl ?_
  refine q_geti rfl rfl rfl rfl rfl ?_
  refine r_cst (v := .int 24) rfl rfl ?_
  refine q_cjT rfl rfl (by rw [hc]; exact fun q => by have := neq (b := 24) (by omega) (by decide) q; omega) ?_
  refine r_ld rfl rfl ?_
  refine q_getr rfl rfl rfl rfl rfl ?_
  refine r_ld rfl rfl ?_
  refine q_geti rfl rfl rfl rfl rfl ?_
  refine r_ld rfl rfl ?_
  refine q_callv (as := [_, _, _]) (rest := []) rfl rfl rfl rfl rfl rfl rfl rfl (ok_lay_n _ _ _ _ _ rfl rfl rfl hc (by omega)) ?_
  refine r_ld rfl rfl ?_
  refine q_getr rfl rfl rfl rfl rfl ?_
  refine r_ld rfl rfl ?_
  refine q_geti rfl rfl rfl rfl rfl ?_
  refine r_ld rfl rfl ?_
  refine q_callv (as := [_, _, _]) (rest := []) rfl rfl rfl rfl rfl rfl rfl rfl (ok_lay_n _ _ _ _ _ rfl rfl rfl (by rw [up2_ne (by decide)]; exact hc) (by omega)) ?_
  refine r_ld rfl rfl ?_
  refine r_stk rfl rfl ?_
  refine q_geti rfl rfl rfl rfl rfl ?_
  refine r_cst (v := .int 1) rfl rfl ?_
  refine r_bin rfl rfl ?_
  rw [show (up2 (up2 M 13 L.length (nI v)) 14 L.length (b2i b)) 12 0 + 1 = nI (L.length + 1) from by simp [up2_at, hc]; exact nI_1 _]
  refine q_put rfl rfl rfl rfl rfl (Or.inl rfl) ?_
  refine r_ret rfl rfl (trivial) ?_
  exact rfl

set_option maxHeartbeats 1000000 in
set_option maxRecDepth 10000 in
theorem ok_X1_add_a_12 (d : Nat) (M : Nat → Nat → Int32) (ML : Nat → Nat → Int64) {L : List (Nat × Bool)} {v : Nat} {b : Bool} (hL : LG (M 12 0) (M 13) (M 14) L) (hv : v < 7) (h24 : L.length = 24) : ∃ M', Ex (d + 2) k_X1_add [.ref 12, .int (nI v), .int (b2i b)] (SH, M, ML) (none, (SH, M', ML)) ∧ LG (M' 12 0) (M' 13) (M' 14) (addL L (v, b)) ∧ Fr [12, 13, 14] M M' := by
  have hc : (up2 (shf M 13 14 0 23) 12 0 (nI 23)) 12 0 = nI 23 := by simp [up2_at]
  refine ⟨(up2 (up2 (up2 (up2 (shf M 13 14 0 23) 12 0 (nI 23)) 13 23 (nI v)) 14 23 (b2i b)) 12 0 (nI 24)), ?_, ?_, ?_⟩
  rotate_left 1
  · have h8 := LG_tail (f' := shf M 13 14 0 23 13) (g' := shf M 13 14 0 23 14) hL (fun k hk => ⟨by unfold shf; rw [if_pos ⟨Or.inl rfl, Nat.zero_le _, by omega⟩], by unfold shf; rw [if_pos ⟨Or.inr rfl, Nat.zero_le _, by omega⟩]⟩)
    have ht : L.tail.length = 23 := by simp; omega
    have h9 := LG_add (v := v) (b := b) h8 (by omega) hv
    unfold addL
    rw [if_pos h24]
    rw [ht] at h9
    exact LG_cong h9 (by simp [up2_at]) (fun k hk => ⟨by simp [up2_at, upd], by simp [up2_at, upd]⟩)
  · exact Fr_up (by decide) (Fr_up (by decide) (Fr_up (by decide) (Fr_up (by decide) (fun x hx => by
      simp only [List.mem_cons, not_or] at hx
      exact shf_ne (by omega) (by omega)))))
  refine Ex_in mi_X1_add rfl rfl ⟨Nat.le_refl _, Nat.le_refl _⟩ ?_
  show RR _ cd_X1_add false _ (0, [(0, .ref 12), (1, .int (nI v)), (2, .int (b2i b))], [], (SH, M, ML))
  refine r_ld rfl rfl ?_
  refine q_geti rfl rfl rfl rfl rfl ?_
  refine r_cst (v := .int 24) rfl rfl ?_
  refine q_cjF rfl rfl (by rw [hL.1, h24]; exact fun q => q rfl) ?_
  refine r_cst (v := .int 1) rfl rfl ?_
  refine r_sto (L' := [(0, _), (1, _), (2, _), (3, _)]) rfl rfl ?_
  refine lp_X1_add_11_12 d M ML ?_ 0 (Nat.zero_le _) _ _ rfl (shf_0 _ _ _ _).symm
  refine r_ld rfl rfl ?_
  refine r_stk rfl rfl ?_
  refine q_geti rfl rfl rfl rfl rfl ?_
  refine r_cst (v := .int 1) rfl rfl ?_
  refine r_bin rfl rfl ?_
  rw [show shf M 13 14 0 23 12 0 - 1 = nI 23 from by rw [shf_ne (by decide) (by decide), hL.1, h24]; rfl]
  refine q_put rfl rfl rfl rfl rfl (Or.inl rfl) ?_
  refine r_ld rfl rfl ?_
  refine q_getr rfl rfl rfl rfl rfl ?_
  refine r_ld rfl rfl ?_
  refine q_geti rfl rfl rfl rfl rfl ?_
  refine r_ld rfl rfl ?_
  refine q_callv (as := [_, _, _]) (rest := []) rfl rfl rfl rfl rfl rfl rfl rfl (ok_lay_n _ _ _ _ _ rfl rfl rfl hc (by omega)) ?_
  refine r_ld rfl rfl ?_
  refine q_getr rfl rfl rfl rfl rfl ?_
  refine r_ld rfl rfl ?_
  refine q_geti rfl rfl rfl rfl rfl ?_
  refine r_ld rfl rfl ?_
  refine q_callv (as := [_, _, _]) (rest := []) rfl rfl rfl rfl rfl rfl rfl rfl (ok_lay_n _ _ _ _ _ rfl rfl rfl (by rw [up2_ne (by decide)]; exact hc) (by omega)) ?_
  refine r_ld rfl rfl ?_
  refine r_stk rfl rfl ?_
  refine q_geti rfl rfl rfl rfl rfl ?_
  refine r_cst (v := .int 1) rfl rfl ?_
  refine r_bin rfl rfl ?_
  rw [show (up2 (up2 (up2 (shf M 13 14 0 23) 12 0 (nI 23)) 13 23 (nI v)) 14 23 (b2i b)) 12 0 + 1 = nI (23 + 1) from by simp [up2_at, hc]; exact nI_1 _]
  refine q_put rfl rfl rfl rfl rfl (Or.inl rfl) ?_
  refine r_ret rfl rfl (trivial) ?_
  exact rfl

theorem ok_X1_add_12 (d : Nat) (M : Nat → Nat → Int32) (ML : Nat → Nat → Int64) {L : List (Nat × Bool)} {v : Nat} {b : Bool} (hL : LG (M 12 0) (M 13) (M 14) L) (hv : v < 7) : ∃ M', Ex (d + 2) k_X1_add [.ref 12, .int (nI v), .int (b2i b)] (SH, M, ML) (none, (SH, M', ML)) ∧ LG (M' 12 0) (M' 13) (M' 14) (addL L (v, b)) ∧ Fr [12, 13, 14] M M' := by
  by_cases h24 : L.length = 24
  · exact ok_X1_add_a_12 d M ML hL hv h24
  · obtain ⟨M2, h1, h2, h3, -⟩ := ok_X1_add_b_12 d M ML hL hv (by have := hL.2.1; omega)
    exact ⟨M2, h1, h2, h3⟩

set_option maxHeartbeats 1000000 in
set_option maxRecDepth 10000 in
theorem lp_X1_add_11_55 (d : Nat) (M : Nat → Nat → Int32) (ML : Nat → Nat → Int64) {u w : Int32} {res : Rt} (hk9 : RR (d + 1) cd_X1_add false res (59, [(0, .ref 55), (1, .int u), (2, .int w), (3, .int (nI 24))], [], (SH, shf M 56 57 0 23, ML))) :
    ∀ k, k ≤ 23 → ∀ (i : Int32) (M' : Nat → Nat → Int32), i = nI (k + 1) → M' = shf M 56 57 0 k → RR (d + 1) cd_X1_add false res (11, [(0, .ref 55), (1, .int u), (2, .int w), (3, .int i)], [], (SH, M', ML)) := by
  refine up_ind fun k hk ih => ?_
  intro i M' hv0 hv1
  subst hv0 hv1
  refine r_ld rfl rfl ?_
  refine r_cst (v := .int 24) rfl rfl ?_
  refine r_cj rfl rfl (fun h_14 => ?_) (fun h_14 => ?_)
  · have h9 : k = 23 := by have := nle (a := 24) (b := k + 1) (by decide) (by omega) h_14; omega
    subst h9
    exact hk9
  · have hlt : k < 23 := by have := nnle (a := 24) (b := k + 1) (by decide) (by omega) h_14; omega
    refine r_ld rfl rfl ?_
    refine q_getr rfl rfl rfl rfl rfl ?_
    refine r_ld rfl rfl ?_
    refine r_cst (v := .int 1) rfl rfl ?_
    refine r_bin rfl rfl ?_
    refine r_ld rfl rfl ?_
    refine q_getr rfl rfl rfl rfl rfl ?_
    refine r_ld rfl rfl ?_
    refine q_call (as := [_, _]) (rest := [_, _]) rfl rfl rfl rfl rfl rfl rfl rfl (ok_at_n _ _ _ _ rfl rfl rfl rfl (by omega)) ?_
    refine q_callv (as := [_, _, _]) (rest := []) rfl rfl rfl rfl rfl rfl rfl rfl (ok_lay_n _ _ _ _ _ rfl rfl rfl (nI_pred k) (by omega)) ?_
    refine r_ld rfl rfl ?_
    refine q_getr rfl rfl rfl rfl rfl ?_
    refine r_ld rfl rfl ?_
    refine r_cst (v := .int 1) rfl rfl ?_
    refine r_bin rfl rfl ?_
    refine r_ld rfl rfl ?_
    refine q_getr rfl rfl rfl rfl rfl ?_
    refine r_ld rfl rfl ?_
    refine q_call (as := [_, _]) (rest := [_, _]) rfl rfl rfl rfl rfl rfl rfl rfl (ok_at_n _ _ _ _ rfl rfl rfl rfl (by omega)) ?_
    refine q_callv (as := [_, _, _]) (rest := []) rfl rfl rfl rfl rfl rfl rfl rfl (ok_lay_n _ _ _ _ _ rfl rfl rfl (nI_pred k) (by omega)) ?_
    refine q_inc (y := _ + 1) rfl rfl rfl ?_
    refine q_norm (L' := [(0, _), (1, _), (2, _), (3, _)]) rfl ?_
    refine r_go rfl ?_
    refine ih hlt _ _ (nI_1 (k + 1)) ?_
    rw [shf_hi (by omega), up2_ne (by decide), shf_hi (by omega)]
    exact shf_succ (by decide) (Nat.zero_le _)

set_option maxHeartbeats 1000000 in
set_option maxRecDepth 10000 in
theorem ok_X1_add_b_55 (d : Nat) (M : Nat → Nat → Int32) (ML : Nat → Nat → Int64) {L : List (Nat × Bool)} {v : Nat} {b : Bool} (hL : LG (M 55 0) (M 56) (M 57) L) (hv : v < 7) (h24 : L.length < 24) : ∃ M', Ex (d + 2) k_X1_add [.ref 55, .int (nI v), .int (b2i b)] (SH, M, ML) (none, (SH, M', ML)) ∧ LG (M' 55 0) (M' 56) (M' 57) (addL L (v, b)) ∧ Fr [55, 56, 57] M M' ∧ ∀ j, j ≠ L.length → M' 56 j = M 56 j ∧ M' 57 j = M 57 j := by
  have hc := hL.1
  refine ⟨(up2 (up2 (up2 M 56 L.length (nI v)) 57 L.length (b2i b)) 55 0 (nI (L.length + 1))), ?_, ?_, ?_, ?_⟩
  rotate_left 1
  · have h9 := LG_add (v := v) (b := b) hL h24 hv
    unfold addL
    rw [if_neg (by omega)]
    exact LG_cong h9 (by simp [up2_at]) (fun k hk => ⟨by simp [up2_at, upd], by simp [up2_at, upd]⟩)
  · exact Fr_up (by decide) (Fr_up (by decide) (Fr_up (by decide) Fr_rf))
  · intro j hj
    exact ⟨by simp [up2_at, hj], by simp [up2_at, hj]⟩
  refine Ex_in mi_X1_add rfl rfl ⟨Nat.le_refl _, Nat.le_refl _⟩ ?_
  show RR _ cd_X1_add false _ (0, [(0, .ref 55), (1, .int (nI v)), (2, .int (b2i b))], [], (SH, M, ML))
  refine r_ld rfl rfl ?_
  refine q_geti rfl rfl rfl rfl rfl ?_
  refine r_cst (v := .int 24) rfl rfl ?_
  refine q_cjT rfl rfl (by rw [hc]; exact fun q => by have := neq (b := 24) (by omega) (by decide) q; omega) ?_
  refine r_ld rfl rfl ?_
  refine q_getr rfl rfl rfl rfl rfl ?_
  refine r_ld rfl rfl ?_
  refine q_geti rfl rfl rfl rfl rfl ?_
  refine r_ld rfl rfl ?_
  refine q_callv (as := [_, _, _]) (rest := []) rfl rfl rfl rfl rfl rfl rfl rfl (ok_lay_n _ _ _ _ _ rfl rfl rfl hc (by omega)) ?_
  refine r_ld rfl rfl ?_
  refine q_getr rfl rfl rfl rfl rfl ?_
  refine r_ld rfl rfl ?_
  refine q_geti rfl rfl rfl rfl rfl ?_
  refine r_ld rfl rfl ?_
  refine q_callv (as := [_, _, _]) (rest := []) rfl rfl rfl rfl rfl rfl rfl rfl (ok_lay_n _ _ _ _ _ rfl rfl rfl (by rw [up2_ne (by decide)]; exact hc) (by omega)) ?_
  refine r_ld rfl rfl ?_
  refine r_stk rfl rfl ?_
  refine q_geti rfl rfl rfl rfl rfl ?_
  refine r_cst (v := .int 1) rfl rfl ?_
  refine r_bin rfl rfl ?_
  rw [show (up2 (up2 M 56 L.length (nI v)) 57 L.length (b2i b)) 55 0 + 1 = nI (L.length + 1) from by simp [up2_at, hc]; exact nI_1 _]
  refine q_put rfl rfl rfl rfl rfl (Or.inl rfl) ?_
  refine r_ret rfl rfl (trivial) ?_
  exact rfl

set_option maxHeartbeats 1000000 in
set_option maxRecDepth 10000 in
theorem ok_X1_add_a_55 (d : Nat) (M : Nat → Nat → Int32) (ML : Nat → Nat → Int64) {L : List (Nat × Bool)} {v : Nat} {b : Bool} (hL : LG (M 55 0) (M 56) (M 57) L) (hv : v < 7) (h24 : L.length = 24) : ∃ M', Ex (d + 2) k_X1_add [.ref 55, .int (nI v), .int (b2i b)] (SH, M, ML) (none, (SH, M', ML)) ∧ LG (M' 55 0) (M' 56) (M' 57) (addL L (v, b)) ∧ Fr [55, 56, 57] M M' := by
  have hc : (up2 (shf M 56 57 0 23) 55 0 (nI 23)) 55 0 = nI 23 := by simp [up2_at]
  refine ⟨(up2 (up2 (up2 (up2 (shf M 56 57 0 23) 55 0 (nI 23)) 56 23 (nI v)) 57 23 (b2i b)) 55 0 (nI 24)), ?_, ?_, ?_⟩
  rotate_left 1
  · have h8 := LG_tail (f' := shf M 56 57 0 23 56) (g' := shf M 56 57 0 23 57) hL (fun k hk => ⟨by unfold shf; rw [if_pos ⟨Or.inl rfl, Nat.zero_le _, by omega⟩], by unfold shf; rw [if_pos ⟨Or.inr rfl, Nat.zero_le _, by omega⟩]⟩)
    have ht : L.tail.length = 23 := by simp; omega
    have h9 := LG_add (v := v) (b := b) h8 (by omega) hv
    unfold addL
    rw [if_pos h24]
    rw [ht] at h9
    exact LG_cong h9 (by simp [up2_at]) (fun k hk => ⟨by simp [up2_at, upd], by simp [up2_at, upd]⟩)
  · exact Fr_up (by decide) (Fr_up (by decide) (Fr_up (by decide) (Fr_up (by decide) (fun x hx => by
      simp only [List.mem_cons, not_or] at hx
      exact shf_ne (by omega) (by omega)))))
  refine Ex_in mi_X1_add rfl rfl ⟨Nat.le_refl _, Nat.le_refl _⟩ ?_
  show RR _ cd_X1_add false _ (0, [(0, .ref 55), (1, .int (nI v)), (2, .int (b2i b))], [], (SH, M, ML))
  refine r_ld rfl rfl ?_
  refine q_geti rfl rfl rfl rfl rfl ?_
  refine r_cst (v := .int 24) rfl rfl ?_
  refine q_cjF rfl rfl (by rw [hL.1, h24]; exact fun q => q rfl) ?_
  refine r_cst (v := .int 1) rfl rfl ?_
  refine r_sto (L' := [(0, _), (1, _), (2, _), (3, _)]) rfl rfl ?_
  refine lp_X1_add_11_55 d M ML ?_ 0 (Nat.zero_le _) _ _ rfl (shf_0 _ _ _ _).symm
  refine r_ld rfl rfl ?_
  refine r_stk rfl rfl ?_
  refine q_geti rfl rfl rfl rfl rfl ?_
  refine r_cst (v := .int 1) rfl rfl ?_
  refine r_bin rfl rfl ?_
  rw [show shf M 56 57 0 23 55 0 - 1 = nI 23 from by rw [shf_ne (by decide) (by decide), hL.1, h24]; rfl]
  refine q_put rfl rfl rfl rfl rfl (Or.inl rfl) ?_
  refine r_ld rfl rfl ?_
  refine q_getr rfl rfl rfl rfl rfl ?_
  refine r_ld rfl rfl ?_
  refine q_geti rfl rfl rfl rfl rfl ?_
  refine r_ld rfl rfl ?_
  refine q_callv (as := [_, _, _]) (rest := []) rfl rfl rfl rfl rfl rfl rfl rfl (ok_lay_n _ _ _ _ _ rfl rfl rfl hc (by omega)) ?_
  refine r_ld rfl rfl ?_
  refine q_getr rfl rfl rfl rfl rfl ?_
  refine r_ld rfl rfl ?_
  refine q_geti rfl rfl rfl rfl rfl ?_
  refine r_ld rfl rfl ?_
  refine q_callv (as := [_, _, _]) (rest := []) rfl rfl rfl rfl rfl rfl rfl rfl (ok_lay_n _ _ _ _ _ rfl rfl rfl (by rw [up2_ne (by decide)]; exact hc) (by omega)) ?_
  refine r_ld rfl rfl ?_
  refine r_stk rfl rfl ?_
  refine q_geti rfl rfl rfl rfl rfl ?_
  refine r_cst (v := .int 1) rfl rfl ?_
  refine r_bin rfl rfl ?_
  rw [show (up2 (up2 (up2 (shf M 56 57 0 23) 55 0 (nI 23)) 56 23 (nI v)) 57 23 (b2i b)) 55 0 + 1 = nI (23 + 1) from by simp [up2_at, hc]; exact nI_1 _]
  refine q_put rfl rfl rfl rfl rfl (Or.inl rfl) ?_
  refine r_ret rfl rfl (trivial) ?_
  exact rfl

theorem ok_X1_add_55 (d : Nat) (M : Nat → Nat → Int32) (ML : Nat → Nat → Int64) {L : List (Nat × Bool)} {v : Nat} {b : Bool} (hL : LG (M 55 0) (M 56) (M 57) L) (hv : v < 7) : ∃ M', Ex (d + 2) k_X1_add [.ref 55, .int (nI v), .int (b2i b)] (SH, M, ML) (none, (SH, M', ML)) ∧ LG (M' 55 0) (M' 56) (M' 57) (addL L (v, b)) ∧ Fr [55, 56, 57] M M' := by
  by_cases h24 : L.length = 24
  · exact ok_X1_add_a_55 d M ML hL hv h24
  · obtain ⟨M2, h1, h2, h3, -⟩ := ok_X1_add_b_55 d M ML hL hv (by have := hL.2.1; omega)
    exact ⟨M2, h1, h2, h3⟩

