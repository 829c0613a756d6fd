/-! ===== firers ===== -/
/-- the firers in their cells: kind, number -/
def FS (c : Int32) (f g : Nat → Int32) (F : List (Nat × Nat)) : Prop := c = nI F.length ∧ F.length ≤ 4 ∧ ∀ k a b, F[k]? = some (a, b) → a < 6 ∧ b < 7 ∧ f k = nI a ∧ g k = nI b
theorem FS_0 (f g : Nat → Int32) : FS 0 f g [] := ⟨rfl, Nat.zero_le _, fun k v b h => by simp at h⟩
theorem FS_add {f g f' g' : Nat → Int32} {c c' : Int32} {F : List (Nat × Nat)} {a b : Nat} (h : FS c f g F) (hn : F.length < 4) (ha : a < 6) (hb : b < 7) (hc : c' = nI (F.length + 1)) (hf : f' = upd f F.length (nI a)) (hg : g' = upd g F.length (nI b)) : FS c' f' g' (F ++ [(a, b)]) := by
  obtain ⟨-, h2, h3⟩ := h
  subst hc hf hg
  refine ⟨by simp, by simp; omega, fun k v' b' hk => ?_⟩
  rcases Nat.lt_trichotomy k F.length with hl | hl | hl
  · rw [List.getElem?_append_left hl] at hk
    have := h3 k v' b' hk
    unfold upd
    rw [if_neg (by omega), if_neg (by omega)]
    exact this
  · subst hl
    rw [List.getElem?_append_right (Nat.le_refl _), Nat.sub_self] at hk
    cases hk
    unfold upd
    rw [if_pos rfl, if_pos rfl]
    exact ⟨ha, hb, rfl, rfl⟩
  · rw [List.getElem?_append_right (by omega)] at hk
    have : k - F.length ≠ 0 := by omega
    cases hq : k - F.length with
    | zero => omega
    | succ n => rw [hq] at hk; simp at hk

set_option maxHeartbeats 1000000 in
set_option maxRecDepth 10000 in
theorem ok_X2_add_15 (d : Nat) (M : Nat → Nat → Int32) (ML : Nat → Nat → Int64) {F : List (Nat × Nat)} {a b : Nat} (hF : FS (M 15 0) (M 16) (M 17) F) (h4 : F.length < 4) (ha : a < 6) (hb : b < 7) : ∃ M', Ex (d + 2) k_X2_add [.ref 15, .int (nI a), .int (nI b)] (SH, M, ML) (some (.int (nI F.length)), (SH, M', ML)) ∧ FS (M' 15 0) (M' 16) (M' 17) (F ++ [(a, b)]) ∧ Fr [15, 16, 17] M M' := by
  have hc := hF.1
  refine ⟨up2 (up2 (up2 M 16 F.length (nI a)) 17 F.length (nI b)) 15 0 (nI (F.length + 1)), ?_, FS_add hF h4 ha hb (by simp [up2_at]) (by rw [up2_ne (by decide), up2_ne (by decide), up2_eq]) (by rw [up2_ne (by decide), up2_eq, up2_ne (by decide)]), Fr_up (by decide) (Fr_up (by decide) (Fr_up (by decide) Fr_rf))⟩
  refine Ex_in mi_X2_add rfl rfl ⟨Nat.le_refl _, Nat.le_refl _⟩ ?_
  show RR _ cd_X2_add false _ (0, [(0, .ref 15), (1, .int (nI a)), (2, .int (nI b))], [], (SH, M, ML))
  refine r_ld rfl rfl ?_
  refine q_getr rfl rfl rfl rfl rfl ?_
  refine r_ld rfl rfl ?_
  refine q_geti rfl rfl rfl rfl rfl ?_
  refine r_ld rfl rfl ?_
  refine q_callv (as := [_, _, _]) (rest := []) rfl rfl rfl rfl rfl rfl rfl rfl (ok_lay_n _ _ _ _ _ rfl rfl rfl hc (by omega)) ?_
  refine r_ld rfl rfl ?_
  refine q_getr rfl rfl rfl rfl rfl ?_
  refine r_ld rfl rfl ?_
  refine q_geti rfl rfl rfl rfl rfl ?_
  refine r_ld rfl rfl ?_
  refine q_callv (as := [_, _, _]) (rest := []) rfl rfl rfl rfl rfl rfl rfl rfl (ok_lay_n _ _ _ _ _ rfl rfl rfl (by rw [up2_ne (by decide)]; exact hc) (by omega)) ?_
  refine r_ld rfl rfl ?_
  refine r_stk rfl rfl ?_
  refine q_geti rfl rfl rfl rfl rfl ?_
  refine r_cst (v := .int 1) rfl rfl ?_
  refine r_bin rfl rfl ?_
  rw [show (up2 (up2 M 16 F.length (nI a)) 17 F.length (nI b)) 15 0 + 1 = nI (F.length + 1) from by rw [up2_ne (by decide), up2_ne (by decide), hc]; exact nI_1 _]
  refine q_put rfl rfl rfl rfl rfl (Or.inl rfl) ?_
  refine r_ld rfl rfl ?_
  refine q_geti rfl rfl rfl rfl rfl ?_
  refine r_cst (v := .int 1) rfl rfl ?_
  refine r_bin rfl rfl ?_
  refine r_ret rfl rfl (trivial) ?_
  rw [up2_at, if_pos ⟨rfl, rfl⟩, show (1 : Int32) = nI 1 from rfl, pk_sub (by omega), Nat.add_sub_cancel]

set_option maxHeartbeats 1000000 in
set_option maxRecDepth 10000 in
theorem ok_X2_add_58 (d : Nat) (M : Nat → Nat → Int32) (ML : Nat → Nat → Int64) {F : List (Nat × Nat)} {a b : Nat} (hF : FS (M 58 0) (M 59) (M 60) F) (h4 : F.length < 4) (ha : a < 6) (hb : b < 7) : ∃ M', Ex (d + 2) k_X2_add [.ref 58, .int (nI a), .int (nI b)] (SH, M, ML) (some (.int (nI F.length)), (SH, M', ML)) ∧ FS (M' 58 0) (M' 59) (M' 60) (F ++ [(a, b)]) ∧ Fr [58, 59, 60] M M' := by
  have hc := hF.1
  refine ⟨up2 (up2 (up2 M 59 F.length (nI a)) 60 F.length (nI b)) 58 0 (nI (F.length + 1)), ?_, FS_add hF h4 ha hb (by simp [up2_at]) (by rw [up2_ne (by decide), up2_ne (by decide), up2_eq]) (by rw [up2_ne (by decide), up2_eq, up2_ne (by decide)]), Fr_up (by decide) (Fr_up (by decide) (Fr_up (by decide) Fr_rf))⟩
  refine Ex_in mi_X2_add rfl rfl ⟨Nat.le_refl _, Nat.le_refl _⟩ ?_
  show RR _ cd_X2_add false _ (0, [(0, .ref 58), (1, .int (nI a)), (2, .int (nI b))], [], (SH, M, ML))
  refine r_ld rfl rfl ?_
  refine q_getr rfl rfl rfl rfl rfl ?_
  refine r_ld rfl rfl ?_
  refine q_geti rfl rfl rfl rfl rfl ?_
  refine r_ld rfl rfl ?_
  refine q_callv (as := [_, _, _]) (rest := []) rfl rfl rfl rfl rfl rfl rfl rfl (ok_lay_n _ _ _ _ _ rfl rfl rfl hc (by omega)) ?_
  refine r_ld rfl rfl ?_
  refine q_getr rfl rfl rfl rfl rfl ?_
  refine r_ld rfl rfl ?_
  refine q_geti rfl rfl rfl rfl rfl ?_
  refine r_ld rfl rfl ?_
  refine q_callv (as := [_, _, _]) (rest := []) rfl rfl rfl rfl rfl rfl rfl rfl (ok_lay_n _ _ _ _ _ rfl rfl rfl (by rw [up2_ne (by decide)]; exact hc) (by omega)) ?_
  refine r_ld rfl rfl ?_
  refine r_stk rfl rfl ?_
  refine q_geti rfl rfl rfl rfl rfl ?_
  refine r_cst (v := .int 1) rfl rfl ?_
  refine r_bin rfl rfl ?_
  rw [show (up2 (up2 M 59 F.length (nI a)) 60 F.length (nI b)) 58 0 + 1 = nI (F.length + 1) from by rw [up2_ne (by decide), up2_ne (by decide), hc]; exact nI_1 _]
  refine q_put rfl rfl rfl rfl rfl (Or.inl rfl) ?_
  refine r_ld rfl rfl ?_
  refine q_geti rfl rfl rfl rfl rfl ?_
  refine r_cst (v := .int 1) rfl rfl ?_
  refine r_bin rfl rfl ?_
  refine r_ret rfl rfl (trivial) ?_
  rw [up2_at, if_pos ⟨rfl, rfl⟩, show (1 : Int32) = nI 1 from rfl, pk_sub (by omega), Nat.add_sub_cancel]

set_option maxHeartbeats 1000000 in
set_option maxRecDepth 10000 in
theorem lp_X2_copy_7_15_58 (d : Nat) (M : Nat → Nat → Int32) (ML : Nat → Nat → Int64) {F : List (Nat × Nat)} (hF : FS (M 58 0) (M 59) (M 60) F) : ∀ e, e ≤ F.length → ∀ M', FS (M' 15 0) (M' 16) (M' 17) (F.take e) → Fr [15, 16, 17] M M' → ∃ M9, (FS (M9 15 0) (M9 16) (M9 17) F ∧ Fr [15, 16, 17] M M9) ∧ RR (d + 2) cd_X2_copy false (none, (SH, M9, ML)) (7, [(0, .ref 15), (1, .ref 58), (2, .int (nI e))], [], (SH, M', ML)) := by
  refine up_ind fun e he ih => ?_
  intro M' hl hf
  have h24 := hF.2.1
  have hc : M' 58 0 = nI F.length := by rw [hf 58 (by decide)]; exact hF.1
  rcases Nat.lt_or_ge e F.length with hlt | hge
  · have hel : F[e]? = some (F[e].1, F[e].2) := List.getElem?_eq_getElem hlt
    obtain ⟨h6, h7, h1, h2⟩ := hF.2.2 e _ _ hel
    have h1' : M' 59 e = nI F[e].1 := by rw [hf 59 (by decide)]; exact h1
    have h2' : M' 60 e = nI F[e].2 := by rw [hf 60 (by decide)]; exact h2
    have htl : (F.take e).length = e := by simp; omega
    obtain ⟨M2, hx2, hl2, hf2⟩ := ok_X2_add_15 d M' ML (a := F[e].1) (b := F[e].2) hl (by omega) h6 h7
    rw [← List.take_succ_eq_append_getElem hlt] at hl2
    obtain ⟨M9, hq, hR⟩ := ih hlt M2 hl2 (Fr_tr hf hf2)
    refine ⟨M9, hq, ?_⟩
    refine r_ld rfl rfl ?_
    refine r_ld rfl rfl ?_
    refine q_geti rfl rfl rfl rfl rfl ?_
    refine q_cjF rfl rfl (by rw [hc]; exact nI_ge hlt (by omega)) ?_
    refine r_ld rfl rfl ?_
    refine r_ld rfl rfl ?_
    refine q_getr rfl rfl rfl rfl rfl ?_
    refine r_ld rfl rfl ?_
    refine q_call (as := [_, _]) (rest := [_]) rfl rfl rfl rfl rfl rfl rfl rfl (ok_at_n _ _ _ _ rfl rfl rfl rfl (by omega)) ?_
    refine r_ld rfl rfl ?_
    refine q_getr rfl rfl rfl rfl rfl ?_
    refine r_ld rfl rfl ?_
    refine q_call (as := [_, _]) (rest := [_, _]) rfl rfl rfl rfl rfl rfl rfl rfl (ok_at_n _ _ _ _ rfl rfl rfl rfl (by omega)) ?_
    rw [h1', h2']
    refine q_call (as := [_, _, _]) (rest := []) rfl rfl rfl rfl rfl rfl rfl rfl hx2 ?_
    refine r_stk rfl rfl ?_
    refine q_inc (y := nI (e + 1)) rfl rfl (nI_1 e) ?_
    refine q_norm (L' := [(0, _), (1, _), (2, _)]) rfl ?_
    refine r_go rfl ?_
    exact hR
  · have h9 : e = F.length := by omega
    subst h9
    rw [List.take_length] at hl
    refine ⟨M', ⟨hl, hf⟩, ?_⟩
    refine r_ld rfl rfl ?_
    refine r_ld rfl rfl ?_
    refine q_geti rfl rfl rfl rfl rfl ?_
    refine q_cjT rfl rfl (by rw [hc]; exact nI_le (Nat.le_refl _) (by omega)) ?_
    refine r_ret rfl rfl (trivial) ?_
    exact rfl

set_option maxHeartbeats 1000000 in
theorem ok_X2_copy_15_58 (d : Nat) (M : Nat → Nat → Int32) (ML : Nat → Nat → Int64) {F : List (Nat × Nat)} (hF : FS (M 58 0) (M 59) (M 60) F) : ∃ M', Ex (d + 3) k_X2_copy [.ref 15, .ref 58] (SH, M, ML) (none, (SH, M', ML)) ∧ FS (M' 15 0) (M' 16) (M' 17) F ∧ Fr [15, 16, 17] M M' := by
  have hLs : FS (up2 M 15 0 0 58 0) (up2 M 15 0 0 59) (up2 M 15 0 0 60) F := by rw [up2_ne (by decide), up2_ne (by decide), up2_ne (by decide)]; exact hF
  obtain ⟨M9, ⟨hq1, hq2⟩, hR⟩ := lp_X2_copy_7_15_58 d (up2 M 15 0 0) ML hLs 0 (Nat.zero_le _) _ (by rw [List.take_zero, show up2 M 15 0 0 15 0 = 0 from by simp [up2_at]]; exact FS_0 _ _) Fr_rf
  refine ⟨M9, ?_, hq1, Fr_tr (Fr_up (by decide) Fr_rf) hq2⟩
  refine Ex_in mi_X2_copy rfl rfl ⟨Nat.le_refl _, Nat.le_refl _⟩ ?_
  show RR _ cd_X2_copy false _ (0, [(0, .ref 15), (1, .ref 58)], [], (SH, M, ML))
  refine r_ld rfl rfl ?_
  refine r_cst (v := .int 0) rfl rfl ?_
  refine q_put rfl rfl rfl rfl rfl (Or.inl rfl) ?_
  refine r_cst (v := .int 0) rfl rfl ?_
  refine r_sto (L' := [(0, _), (1, _), (2, _)]) rfl rfl ?_
  exact hR

set_option maxHeartbeats 1000000 in
set_option maxRecDepth 10000 in
theorem lp_X2_copy_7_58_15 (d : Nat) (M : Nat → Nat → Int32) (ML : Nat → Nat → Int64) {F : List (Nat × Nat)} (hF : FS (M 15 0) (M 16) (M 17) F) : ∀ e, e ≤ F.length → ∀ M', FS (M' 58 0) (M' 59) (M' 60) (F.take e) → Fr [58, 59, 60] M M' → ∃ M9, (FS (M9 58 0) (M9 59) (M9 60) F ∧ Fr [58, 59, 60] M M9) ∧ RR (d + 2) cd_X2_copy false (none, (SH, M9, ML)) (7, [(0, .ref 58), (1, .ref 15), (2, .int (nI e))], [], (SH, M', ML)) := by
  refine up_ind fun e he ih => ?_
  intro M' hl hf
  have h24 := hF.2.1
  have hc : M' 15 0 = nI F.length := by rw [hf 15 (by decide)]; exact hF.1
  rcases Nat.lt_or_ge e F.length with hlt | hge
  · have hel : F[e]? = some (F[e].1, F[e].2) := List.getElem?_eq_getElem hlt
    obtain ⟨h6, h7, h1, h2⟩ := hF.2.2 e _ _ hel
    have h1' : M' 16 e = nI F[e].1 := by rw [hf 16 (by decide)]; exact h1
    have h2' : M' 17 e = nI F[e].2 := by rw [hf 17 (by decide)]; exact h2
    have htl : (F.take e).length = e := by simp; omega
    obtain ⟨M2, hx2, hl2, hf2⟩ := ok_X2_add_58 d M' ML (a := F[e].1) (b := F[e].2) hl (by omega) h6 h7
    rw [← List.take_succ_eq_append_getElem hlt] at hl2
    obtain ⟨M9, hq, hR⟩ := ih hlt M2 hl2 (Fr_tr hf hf2)
    refine ⟨M9, hq, ?_⟩
    refine r_ld rfl rfl ?_
    refine r_ld rfl rfl ?_
    refine q_geti rfl rfl rfl rfl rfl ?_
    refine q_cjF rfl rfl (by rw [hc]; exact nI_ge hlt (by omega)) ?_
    refine r_ld rfl rfl ?_
    refine r_ld rfl rfl ?_
    refine q_getr rfl rfl rfl rfl rfl ?_
    refine r_ld rfl rfl ?_
    refine q_call (as := [_, _]) (rest := [_]) rfl rfl rfl rfl rfl rfl rfl rfl (ok_at_n _ _ _ _ rfl rfl rfl rfl (by omega)) ?_
    refine r_ld rfl rfl ?_
    refine q_getr rfl rfl rfl rfl rfl ?_
    refine r_ld rfl rfl ?_
    refine q_call (as := [_, _]) (rest := [_, _]) rfl rfl rfl rfl rfl rfl rfl rfl (ok_at_n _ _ _ _ rfl rfl rfl rfl (by omega)) ?_
    rw [h1', h2']
    refine q_call (as := [_, _, _]) (rest := []) rfl rfl rfl rfl rfl rfl rfl rfl hx2 ?_
    refine r_stk rfl rfl ?_
    refine q_inc (y := nI (e + 1)) rfl rfl (nI_1 e) ?_
    refine q_norm (L' := [(0, _), (1, _), (2, _)]) rfl ?_
    refine r_go rfl ?_
    exact hR
  · have h9 : e = F.length := by omega
    subst h9
    rw [List.take_length] at hl
    refine ⟨M', ⟨hl, hf⟩, ?_⟩
    refine r_ld rfl rfl ?_
    refine r_ld rfl rfl ?_
    refine q_geti rfl rfl rfl rfl rfl ?_
    refine q_cjT rfl rfl (by rw [hc]; exact nI_le (Nat.le_refl _) (by omega)) ?_
    refine r_ret rfl rfl (trivial) ?_
    exact rfl

set_option maxHeartbeats 1000000 in
theorem ok_X2_copy_58_15 (d : Nat) (M : Nat → Nat → Int32) (ML : Nat → Nat → Int64) {F : List (Nat × Nat)} (hF : FS (M 15 0) (M 16) (M 17) F) : ∃ M', Ex (d + 3) k_X2_copy [.ref 58, .ref 15] (SH, M, ML) (none, (SH, M', ML)) ∧ FS (M' 58 0) (M' 59) (M' 60) F ∧ Fr [58, 59, 60] M M' := by
  have hLs : FS (up2 M 58 0 0 15 0) (up2 M 58 0 0 16) (up2 M 58 0 0 17) F := by rw [up2_ne (by decide), up2_ne (by decide), up2_ne (by decide)]; exact hF
  obtain ⟨M9, ⟨hq1, hq2⟩, hR⟩ := lp_X2_copy_7_58_15 d (up2 M 58 0 0) ML hLs 0 (Nat.zero_le _) _ (by rw [List.take_zero, show up2 M 58 0 0 58 0 = 0 from by simp [up2_at]]; exact FS_0 _ _) Fr_rf
  refine ⟨M9, ?_, hq1, Fr_tr (Fr_up (by decide) Fr_rf) hq2⟩
  refine Ex_in mi_X2_copy rfl rfl ⟨Nat.le_refl _, Nat.le_refl _⟩ ?_
  show RR _ cd_X2_copy false _ (0, [(0, .ref 58), (1, .ref 15)], [], (SH, M, ML))
  refine r_ld rfl rfl ?_
  refine r_cst (v := .int 0) rfl rfl ?_
  refine q_put rfl rfl rfl rfl rfl (Or.inl rfl) ?_
  refine r_cst (v := .int 0) rfl rfl ?_
  refine r_sto (L' := [(0, _), (1, _), (2, _)]) rfl rfl ?_
  exact hR

set_option maxHeartbeats 1000000 in
set_option maxRecDepth 10000 in
theorem ok_X11_firer_n (d : Nat) (M : Nat → Nat → Int32) (ML : Nat → Nat → Int64) {x y : Int32} (hb : ¬ ((0 ≤ x ∧ x ≤ 5) ∧ (0 ≤ y ∧ y ≤ 6))) : Ex (d + 3) k_X11_firer [.ref 1, .int x, .int y] (SH, M, ML) (some (.int (-1)), (SH, M, ML)) := by
  refine Ex_in mi_X11_firer rfl rfl ⟨Nat.le_refl _, Nat.le_refl _⟩ ?_
  show RR _ cd_X11_firer false _ (0, [(0, .ref 1), (1, .int x), (2, .int y)], [], (SH, M, ML))
  refine r_ld rfl rfl ?_
  refine r_cj rfl rfl (fun h_1 => ?_) (fun h_1 => ?_)
  · refine r_cst (v := .int (-1)) rfl rfl ?_
    refine r_ret rfl rfl (trivial) ?_
    exact rfl
  · refine r_ld rfl rfl ?_
    refine r_cst (v := .int 5) rfl rfl ?_
    refine r_cj rfl rfl (fun h_6 => ?_) (fun h_6 => ?_)
    · refine r_cst (v := .int (-1)) rfl rfl ?_
      refine r_ret rfl rfl (trivial) ?_
      exact rfl
    · refine r_ld rfl rfl ?_
      refine r_cj rfl rfl (fun h_10 => ?_) (fun h_10 => ?_)
      · refine r_cst (v := .int (-1)) rfl rfl ?_
        refine r_ret rfl rfl (trivial) ?_
        exact rfl
      · refine r_ld rfl rfl ?_
        refine r_cst (v := .int 6) rfl rfl ?_
        refine r_cj rfl rfl (fun h_16 => ?_) (fun h_16 => ?_)
        · exact (hb ⟨⟨nlt0.mp h_1, nlt_le.mp h_6⟩, ⟨nlt0.mp h_10, h_16⟩⟩).elim
        · refine r_cst (v := .int (-1)) rfl rfl ?_
          refine r_ret rfl rfl (trivial) ?_
          exact rfl

set_option maxHeartbeats 1000000 in
set_option maxRecDepth 10000 in
theorem ok_X12_firer_n (d : Nat) (M : Nat → Nat → Int32) (ML : Nat → Nat → Int64) {x y : Int32} (hb : ¬ ((0 ≤ x ∧ x ≤ 5) ∧ (0 ≤ y ∧ y ≤ 6))) : Ex (d + 2) k_X12_firer [.ref 73, .int x, .int y] (SH, M, ML) (some (.int (-1)), (SH, M, ML)) := by
  refine Ex_in mi_X12_firer rfl rfl ⟨Nat.le_refl _, Nat.le_refl _⟩ ?_
  show RR _ cd_X12_firer false _ (0, [(0, .ref 73), (1, .int x), (2, .int y)], [], (SH, M, ML))
  refine r_ld rfl rfl ?_
  refine r_cst (v := .int 0) rfl rfl ?_
  refine r_cst (v := .int 5) rfl rfl ?_
  refine q_cife (as := [_, _, _]) (rest := []) rfl rfl rfl rfl rfl rfl rfl rfl (ok_X12_in ..) rfl (fun h_3 => ?_) (fun h_3 => ?_)
  · refine r_cst (v := .int (-1)) rfl rfl ?_
    refine r_ret rfl rfl (trivial) ?_
    exact rfl
  · refine r_ld rfl rfl ?_
    refine r_cst (v := .int 0) rfl rfl ?_
    refine r_cst (v := .int 6) rfl rfl ?_
    refine q_cifn (as := [_, _, _]) (rest := []) rfl rfl rfl rfl rfl rfl rfl rfl (ok_X12_in ..) rfl (fun h_13 => ?_) (fun h_13 => ?_)
    · exact (hb ⟨of_decide_eq_true h_3, of_decide_eq_true h_13⟩).elim
    · refine r_cst (v := .int (-1)) rfl rfl ?_
      refine r_ret rfl rfl (trivial) ?_
      exact rfl

set_option maxHeartbeats 1000000 in
set_option maxRecDepth 10000 in
theorem ok_X11_firer_f (d : Nat) (M : Nat → Nat → Int32) (ML : Nat → Nat → Int64) {F : List (Nat × Nat)} {a b : Nat} (hF : FS (M 15 0) (M 16) (M 17) F) (h4 : F.length = 4) (ha : a < 6) (hb : b < 7) : Ex (d + 3) k_X11_firer [.ref 1, .int (nI a), .int (nI b)] (SH, M, ML) (some (.int (-3)), (SH, M, ML)) := by
  refine Ex_in mi_X11_firer rfl rfl ⟨Nat.le_refl _, Nat.le_refl _⟩ ?_
  show RR _ cd_X11_firer false _ (0, [(0, .ref 1), (1, .int (nI a)), (2, .int (nI b))], [], (SH, M, ML))
  refine r_ld rfl rfl ?_
  refine q_cjF rfl rfl (nlt0.mpr (nI_pos' (by omega))) ?_
  refine r_ld rfl rfl ?_
  refine r_cst (v := .int 5) rfl rfl ?_
  refine q_cjF rfl rfl (nlt_le.mpr (nI_le (b := 5) (by omega) (by decide))) ?_
  refine r_ld rfl rfl ?_
  refine q_cjF rfl rfl (nlt0.mpr (nI_pos' (by omega))) ?_
  refine r_ld rfl rfl ?_
  refine r_cst (v := .int 6) rfl rfl ?_
  refine q_cjT rfl rfl (nI_le (b := 6) (by omega) (by decide)) ?_
  refine r_ld rfl rfl ?_
  refine q_getr rfl rfl rfl rfl rfl ?_
  refine q_geti rfl rfl rfl rfl rfl ?_
  refine r_cst (v := .int 4) rfl rfl ?_
  refine q_cjF rfl rfl (by rw [hF.1, h4]; decide) ?_
  refine r_cst (v := .int (-3)) rfl rfl ?_
  refine r_ret rfl rfl (trivial) ?_
  exact rfl

set_option maxHeartbeats 1000000 in
set_option maxRecDepth 10000 in
theorem ok_X12_firer_f (d : Nat) (M : Nat → Nat → Int32) (ML : Nat → Nat → Int64) {F : List (Nat × Nat)} {a b : Nat} (hF : FS (M 73 8) (M 78) (M 79) F) (h4 : F.length = 4) (ha : a < 6) (hb : b < 7) : Ex (d + 2) k_X12_firer [.ref 73, .int (nI a), .int (nI b)] (SH, M, ML) (some (.int (-3)), (SH, M, ML)) := by
  refine Ex_in mi_X12_firer rfl rfl ⟨Nat.le_refl _, Nat.le_refl _⟩ ?_
  show RR _ cd_X12_firer false _ (0, [(0, .ref 73), (1, .int (nI a)), (2, .int (nI b))], [], (SH, M, ML))
  refine r_ld rfl rfl ?_
  refine r_cst (v := .int 0) rfl rfl ?_
  refine r_cst (v := .int 5) rfl rfl ?_
  refine q_cife (as := [_, _, _]) (rest := []) rfl rfl rfl rfl rfl rfl rfl rfl (ok_X12_in ..) rfl (fun h_3 => ?_) (fun h_3 => ?_)
  · first
      | exact absurd h_3 (by rw [decide_eq_true (show (0 : Int32) ≤ nI a ∧ nI a ≤ 5 from ⟨nI_pos' (by omega), nI_le (b := 5) (by omega) (by decide)⟩)]; decide)
      | exact absurd h_13 (by rw [decide_eq_true (show (0 : Int32) ≤ nI b ∧ nI b ≤ 6 from ⟨nI_pos' (by omega), nI_le (b := 6) (by omega) (by decide)⟩)]; decide)
  · refine r_ld rfl rfl ?_
    refine r_cst (v := .int 0) rfl rfl ?_
    refine r_cst (v := .int 6) rfl rfl ?_
    refine q_cifn (as := [_, _, _]) (rest := []) rfl rfl rfl rfl rfl rfl rfl rfl (ok_X12_in ..) rfl (fun h_13 => ?_) (fun h_13 => ?_)
    · refine r_ld rfl rfl ?_
      refine q_geti rfl rfl rfl rfl rfl ?_
      refine r_cst (v := .int 4) rfl rfl ?_
      refine q_cjF rfl rfl (by rw [hF.1, h4]; exact fun q => q rfl) ?_
      refine r_cst (v := .int (-3)) rfl rfl ?_
      refine r_ret rfl rfl (trivial) ?_
      exact rfl
    · first
        | exact absurd h_3 (by rw [decide_eq_true (show (0 : Int32) ≤ nI a ∧ nI a ≤ 5 from ⟨nI_pos' (by omega), nI_le (b := 5) (by omega) (by decide)⟩)]; decide)
        | exact absurd h_13 (by rw [decide_eq_true (show (0 : Int32) ≤ nI b ∧ nI b ≤ 6 from ⟨nI_pos' (by omega), nI_le (b := 6) (by omega) (by decide)⟩)]; decide)

set_option maxHeartbeats 1000000 in
set_option maxRecDepth 10000 in
theorem ok_X11_firer_y (d : Nat) (M : Nat → Nat → Int32) (ML : Nat → Nat → Int64) {F : List (Nat × Nat)} {a b : Nat} (hF : FS (M 15 0) (M 16) (M 17) F) (h4 : F.length < 4) (ha : a < 6) (hb : b < 7)  : ∃ M', Ex (d + 3) k_X11_firer [.ref 1, .int (nI a), .int (nI b)] (SH, M, ML) (some (.int (nI F.length)), (SH, M', ML)) ∧ FS (M' 15 0) (M' 16) (M' 17) (F ++ [(a, b)]) ∧ Fr [15, 16, 17] M M' := by
  obtain ⟨M2, h9, hl9, hf9⟩ := ok_X2_add_15 d M ML hF h4 ha hb
  refine ⟨M2, ?_, hl9, hf9⟩
  refine Ex_in mi_X11_firer rfl rfl ⟨Nat.le_refl _, Nat.le_refl _⟩ ?_
  show RR _ cd_X11_firer false _ (0, [(0, .ref 1), (1, .int (nI a)), (2, .int (nI b))], [], (SH, M, ML))
  refine r_ld rfl rfl ?_
  refine q_cjF rfl rfl (nlt0.mpr (nI_pos' (by omega))) ?_
  refine r_ld rfl rfl ?_
  refine r_cst (v := .int 5) rfl rfl ?_
  refine q_cjF rfl rfl (nlt_le.mpr (nI_le (b := 5) (by omega) (by decide))) ?_
  refine r_ld rfl rfl ?_
  refine q_cjF rfl rfl (nlt0.mpr (nI_pos' (by omega))) ?_
  refine r_ld rfl rfl ?_
  refine r_cst (v := .int 6) rfl rfl ?_
  refine q_cjT rfl rfl (nI_le (b := 6) (by omega) (by decide)) ?_
  refine r_ld rfl rfl ?_
  refine q_getr rfl rfl rfl rfl rfl ?_
  refine q_geti rfl rfl rfl rfl rfl ?_
  refine r_cst (v := .int 4) rfl rfl ?_
  refine q_cjT rfl rfl (by rw [hF.1]; exact nI_lt (b := 4) h4 (by decide)) ?_
  refine r_ld rfl rfl ?_
  refine q_getr rfl rfl rfl rfl rfl ?_
  refine r_ld rfl rfl ?_
  refine r_ld rfl rfl ?_
  refine q_call (as := [_, _, _]) (rest := []) rfl rfl rfl rfl rfl rfl rfl rfl h9 ?_
  refine r_ret rfl rfl (trivial) ?_
  exact rfl

set_option maxHeartbeats 1000000 in
set_option maxRecDepth 10000 in
theorem ok_X12_firer_y (d : Nat) (M : Nat → Nat → Int32) (ML : Nat → Nat → Int64) {F : List (Nat × Nat)} {a b : Nat} (hF : FS (M 73 8) (M 78) (M 79) F) (h4 : F.length < 4) (ha : a < 6) (hb : b < 7)  : ∃ M', Ex (d + 2) k_X12_firer [.ref 73, .int (nI a), .int (nI b)] (SH, M, ML) (some (.int (nI F.length)), (SH, M', ML)) ∧ FS (M' 73 8) (M' 78) (M' 79) (F ++ [(a, b)]) ∧ Fm [78, 79] [8] M M' := by
  refine ⟨up2 (up2 (up2 M 78 F.length (nI a)) 79 F.length (nI b)) 73 8 (nI (F.length + 1)), ?_, FS_add hF h4 ha hb (by simp [up2_at]) (by rw [up2_ne (by decide), up2_ne (by decide), up2_eq]) (by rw [up2_ne (by decide), up2_eq, up2_ne (by decide)]), Fm_f (by decide) (Fm_up (by decide) (by decide) (Fm_up (by decide) (by decide) Fm_rf))⟩
  refine Ex_in mi_X12_firer rfl rfl ⟨Nat.le_refl _, Nat.le_refl _⟩ ?_
  show RR _ cd_X12_firer false _ (0, [(0, .ref 73), (1, .int (nI a)), (2, .int (nI b))], [], (SH, M, ML))
  refine r_ld rfl rfl ?_
  refine r_cst (v := .int 0) rfl rfl ?_
  refine r_cst (v := .int 5) rfl rfl ?_
  refine q_cife (as := [_, _, _]) (rest := []) rfl rfl rfl rfl rfl rfl rfl rfl (ok_X12_in ..) rfl (fun h_3 => ?_) (fun h_3 => ?_)
  · first
      | exact absurd h_3 (by rw [decide_eq_true (show (0 : Int32) ≤ nI a ∧ nI a ≤ 5 from ⟨nI_pos' (by omega), nI_le (b := 5) (by omega) (by decide)⟩)]; decide)
      | exact absurd h_13 (by rw [decide_eq_true (show (0 : Int32) ≤ nI b ∧ nI b ≤ 6 from ⟨nI_pos' (by omega), nI_le (b := 6) (by omega) (by decide)⟩)]; decide)
  · refine r_ld rfl rfl ?_
    refine r_cst (v := .int 0) rfl rfl ?_
    refine r_cst (v := .int 6) rfl rfl ?_
    refine q_cifn (as := [_, _, _]) (rest := []) rfl rfl rfl rfl rfl rfl rfl rfl (ok_X12_in ..) rfl (fun h_13 => ?_) (fun h_13 => ?_)
    · refine r_ld rfl rfl ?_
      refine q_geti rfl rfl rfl rfl rfl ?_
      refine r_cst (v := .int 4) rfl rfl ?_
      refine q_cjT rfl rfl (by rw [hF.1]; exact fun q => by have := neq (b := 4) (by omega) (by decide) q; omega) ?_
      refine r_ld rfl rfl ?_
      refine q_getr rfl rfl rfl rfl rfl ?_
      refine r_ld rfl rfl ?_
      refine q_geti rfl rfl rfl rfl rfl ?_
      refine r_ld rfl rfl ?_
      refine q_sin rfl rfl rfl (hF.1) (by omega) rfl ?_
      refine r_ld rfl rfl ?_
      refine q_getr rfl rfl rfl rfl rfl ?_
      refine r_ld rfl rfl ?_
      refine q_geti rfl rfl rfl rfl rfl ?_
      refine r_ld rfl rfl ?_
      refine q_sin rfl rfl rfl (by rw [up2_ne (by decide)]; exact hF.1) (by omega) rfl ?_
      refine r_ld rfl rfl ?_
      refine r_stk rfl rfl ?_
      refine q_geti rfl rfl rfl rfl rfl ?_
      refine r_cst (v := .int 1) rfl rfl ?_
      refine r_bin rfl rfl ?_
      rw [show (up2 (up2 M 78 F.length (nI a)) 79 F.length (nI b)) 73 8 + 1 = nI (F.length + 1) from by rw [up2_ne (by decide), up2_ne (by decide), hF.1]; exact nI_1 _]
      refine q_put rfl rfl rfl rfl rfl (Or.inl rfl) ?_
      refine r_ld rfl rfl ?_
      refine q_geti rfl rfl rfl rfl rfl ?_
      refine r_cst (v := .int 1) rfl rfl ?_
      refine r_bin rfl rfl ?_
      refine r_ret rfl rfl (trivial) ?_
      rw [up2_at, if_pos ⟨rfl, rfl⟩, show (1 : Int32) = nI 1 from rfl, pk_sub (by omega), Nat.add_sub_cancel]
    · first
        | exact absurd h_3 (by rw [decide_eq_true (show (0 : Int32) ≤ nI a ∧ nI a ≤ 5 from ⟨nI_pos' (by omega), nI_le (b := 5) (by omega) (by decide)⟩)]; decide)
        | exact absurd h_13 (by rw [decide_eq_true (show (0 : Int32) ≤ nI b ∧ nI b ≤ 6 from ⟨nI_pos' (by omega), nI_le (b := 6) (by omega) (by decide)⟩)]; decide)

