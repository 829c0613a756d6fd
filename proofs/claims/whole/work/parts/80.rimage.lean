/-! ===== image and undo of the reference ===== -/
set_option maxHeartbeats 1000000 in
set_option maxRecDepth 10000 in
theorem lp_X12_image_92 {d : Nat} {M : Mm} {ML : Ml} {N E A : Nat} {l h : Nat → Nat} (hS : NM M N E A l h) (hW : WN N E A l h) {L : List (Nat × Bool)} {F : List (Nat × Nat)} (hL : LG (M 73 5) (M 76) (M 77) L) (hF : FS (M 73 8) (M 78) (M 79) F) : ∀ e, e ≤ 4 → ∀ M', Fm [101] [39] M M' → M' 73 39 = 1 → cpR (M 74) (M 75) (fun j => M' 101 (0 + j)) (fun j => M' 101 (10 + j)) 10 → cpR (M 76) (M 77) (fun j => M' 101 (20 + j)) (fun j => M' 101 (44 + j)) 24 → cpR (M 78) (M 79) (fun j => M' 101 (68 + j)) (fun j => M' 101 (72 + j)) e → WP d cd_X12_image false (fun r M2 L2 => r = some (.int (nI E)) ∧ L2 = ML ∧ Fm [101] [39] M M2 ∧ IMG M2 N E A l h L F ∧ M2 73 39 = 1) (92, [(0, .ref 73), (1, .int (nI e))], [], (SH, M', ML)) := by
  have hE10 := hW.2.2.1
  refine up_ind fun e he ih => ?_
  intro M' hM hg h1 h2 h3
  refine w_ld rfl rfl ?_
  refine w_cst (v := .int 4) rfl rfl ?_
  refine w_cj rfl rfl (fun h_94 => ?_) (fun h_94 => ?_)
  · refine w_ld rfl rfl ?_
    refine w_getr rfl rfl rfl rfl rfl ?_
    refine w_cst (v := .int 76) rfl rfl ?_
    refine w_ld rfl rfl ?_
    refine w_getv rfl rfl rfl rfl rfl ((hM.2 0 (by decide)).trans (hS.1)) ?_
    refine w_sin rfl rfl rfl (rfl) (by decide) rfl ?_
    refine w_ld rfl rfl ?_
    refine w_getr rfl rfl rfl rfl rfl ?_
    refine w_cst (v := .int 77) rfl rfl ?_
    refine w_ld rfl rfl ?_
    refine w_getv rfl rfl rfl rfl rfl (Eq.trans (by rw [up2_row (by decide)]) ((hM.2 1 (by decide)).trans (hS.2.1))) ?_
    refine w_sin rfl rfl rfl (rfl) (by decide) rfl ?_
    refine w_ld rfl rfl ?_
    refine w_getr rfl rfl rfl rfl rfl ?_
    refine w_cst (v := .int 78) rfl rfl ?_
    refine w_ld rfl rfl ?_
    refine w_getv rfl rfl rfl rfl rfl (Eq.trans (by rw [up2_row (by decide), up2_row (by decide)]) ((hM.2 4 (by decide)).trans (hS.2.2.1))) ?_
    refine w_sin rfl rfl rfl (rfl) (by decide) rfl ?_
    refine w_ld rfl rfl ?_
    refine w_getr rfl rfl rfl rfl rfl ?_
    refine w_cst (v := .int 79) rfl rfl ?_
    refine w_ld rfl rfl ?_
    refine w_getv rfl rfl rfl rfl rfl (Eq.trans (by rw [up2_row (by decide), up2_row (by decide), up2_row (by decide)]) (hM.2 5 (by decide))) ?_
    refine w_sin rfl rfl rfl (rfl) (by decide) rfl ?_
    refine w_ld rfl rfl ?_
    refine w_getr rfl rfl rfl rfl rfl ?_
    refine w_cst (v := .int 80) rfl rfl ?_
    refine w_ld rfl rfl ?_
    refine w_getv rfl rfl rfl rfl rfl (Eq.trans (by rw [up2_row (by decide), up2_row (by decide), up2_row (by decide), up2_row (by decide)]) (hM.2 8 (by decide))) ?_
    refine w_sin rfl rfl rfl (rfl) (by decide) rfl ?_
    refine w_ld rfl rfl ?_
    refine w_getv rfl rfl rfl rfl rfl (Eq.trans (by rw [up2_row (by decide), up2_row (by decide), up2_row (by decide), up2_row (by decide), up2_row (by decide)]) ((hM.2 1 (by decide)).trans (hS.2.1))) ?_
    refine w_ret rfl rfl (trivial) ?_
    have hx : ∀ k v1 v2 v3 v4 v5, k < 76 → up2 (up2 (up2 (up2 (up2 M' 101 76 v1) 101 77 v2) 101 78 v3) 101 79 v4) 101 80 v5 101 k = M' 101 k := fun k v1 v2 v3 v4 v5 w => by rw [up2_k (by omega), up2_k (by omega), up2_k (by omega), up2_k (by omega), up2_k (by omega)]
    have h9 : e = 4 := by have := nle (a := 4) (by decide) (by omega) h_94; omega
    subst h9
    refine ⟨rfl, rfl, Fm_up (by decide) (by decide) (Fm_up (by decide) (by decide) (Fm_up (by decide) (by decide) (Fm_up (by decide) (by decide) (Fm_up (by decide) (by decide) hM)))), ⟨?_, ?_, ?_, fun e he => ⟨?_, ?_⟩, ?_, ?_⟩, ?_⟩
    · rw [up2_k (by decide), up2_k (by decide), up2_k (by decide), up2_k (by decide), up2_e]
    · rw [up2_k (by decide), up2_k (by decide), up2_k (by decide), up2_e]
    · rw [up2_k (by decide), up2_k (by decide), up2_e]
    · rw [hx e _ _ _ _ _ (by omega)]
      have this : M' 101 (0 + e) = M 74 e := (h1 e (by omega)).1
      rw [Nat.zero_add] at this
      exact this.trans (hS.2.2.2 e he).1
    · rw [hx (10 + e) _ _ _ _ _ (by omega)]
      exact (h1 e (by omega)).2.trans (hS.2.2.2 e he).2
    · refine LG_cong hL ?_ (fun k hk => ?_)
      · rw [up2_k (by decide), up2_e]
      · have hk24 := Nat.lt_of_lt_of_le hk hL.2.1
        show up2 (up2 (up2 (up2 (up2 M' 101 76 _) 101 77 _) 101 78 _) 101 79 _) 101 80 _ 101 (20 + k) = _ ∧ up2 (up2 (up2 (up2 (up2 M' 101 76 _) 101 77 _) 101 78 _) 101 79 _) 101 80 _ 101 (44 + k) = _
        rw [hx (20 + k) _ _ _ _ _ (by omega), hx (44 + k) _ _ _ _ _ (by omega)]
        exact h2 k hk24
    · refine FS_cong hF ?_ (fun k hk => ?_)
      · rw [up2_e]
      · have hk4 := Nat.lt_of_lt_of_le hk hF.2.1
        show up2 (up2 (up2 (up2 (up2 M' 101 76 _) 101 77 _) 101 78 _) 101 79 _) 101 80 _ 101 (68 + k) = _ ∧ up2 (up2 (up2 (up2 (up2 M' 101 76 _) 101 77 _) 101 78 _) 101 79 _) 101 80 _ 101 (72 + k) = _
        rw [hx (68 + k) _ _ _ _ _ (by omega), hx (72 + k) _ _ _ _ _ (by omega)]
        exact h3 k hk4
    · rw [up2_row (by decide), up2_row (by decide), up2_row (by decide), up2_row (by decide), up2_row (by decide)]
      exact hg
  · have hlt : e < 4 := nnle (b := e) (a := 4) (by omega) (by omega) h_94
    refine w_ld rfl rfl ?_
    refine w_getr rfl rfl rfl rfl rfl ?_
    refine w_cst (v := .int 68) rfl rfl ?_
    refine w_ld rfl rfl ?_
    refine w_bin rfl rfl ?_
    refine w_ld rfl rfl ?_
    refine w_getr rfl rfl rfl rfl rfl ?_
    refine w_ld rfl rfl ?_
    refine w_ain rfl rfl rfl (rfl) (hlt) rfl ?_
    refine w_sin rfl rfl rfl ((nI_add 68 e)) (by omega) rfl ?_
    refine w_ld rfl rfl ?_
    refine w_getr rfl rfl rfl rfl rfl ?_
    refine w_cst (v := .int 72) rfl rfl ?_
    refine w_ld rfl rfl ?_
    refine w_bin rfl rfl ?_
    refine w_ld rfl rfl ?_
    refine w_getr rfl rfl rfl rfl rfl ?_
    refine w_ld rfl rfl ?_
    refine w_ain rfl rfl rfl (rfl) (hlt) rfl ?_
    refine w_sin rfl rfl rfl ((nI_add 72 e)) (by omega) rfl ?_
    refine w_inc (y := _ + 1) rfl rfl rfl ?_
    refine w_norm (L' := [(0, _), (1, _)]) rfl ?_
    refine w_go rfl ?_
    rw [nI_1]
    refine ih hlt _ (Fm_up (by decide) (by decide) (Fm_up (by decide) (by decide) hM)) ?_ ?_ ?_ ?_
    · rw [up2_row (by decide), up2_row (by decide)]
      exact hg
    · refine cpR_k h1 (fun j hj => ⟨?_, ?_⟩)
      · show up2 (up2 M' 101 (68 + e) _) 101 (72 + e) _ 101 (0 + j) = _
        rw [up2_k (by omega), up2_k (by omega)]
      · show up2 (up2 M' 101 (68 + e) _) 101 (72 + e) _ 101 (10 + j) = _
        rw [up2_k (by omega), up2_k (by omega)]
    · refine cpR_k h2 (fun j hj => ⟨?_, ?_⟩)
      · show up2 (up2 M' 101 (68 + e) _) 101 (72 + e) _ 101 (20 + j) = _
        rw [up2_k (by omega), up2_k (by omega)]
      · show up2 (up2 M' 101 (68 + e) _) 101 (72 + e) _ 101 (44 + j) = _
        rw [up2_k (by omega), up2_k (by omega)]
    · refine cpR_s h3 ?_ ?_ (fun j hj => ⟨?_, ?_⟩)
      · show up2 (up2 M' 101 (68 + e) _) 101 (72 + e) _ 101 (68 + e) = _
        rw [up2_k (by omega), up2_e, hM.1 78 (by decide) (by decide)]
      · show up2 (up2 M' 101 (68 + e) _) 101 (72 + e) _ 101 (72 + e) = _
        rw [up2_e, up2_row (by decide), hM.1 79 (by decide) (by decide)]
      · show up2 (up2 M' 101 (68 + e) _) 101 (72 + e) _ 101 (68 + j) = _
        rw [up2_k (by omega), up2_k (by omega)]
      · show up2 (up2 M' 101 (68 + e) _) 101 (72 + e) _ 101 (72 + j) = _
        rw [up2_k (by omega), up2_k (by omega)]

set_option maxHeartbeats 1000000 in
set_option maxRecDepth 10000 in
theorem lp_X12_image_48 {d : Nat} {M : Mm} {ML : Ml} {N E A : Nat} {l h : Nat → Nat} (hS : NM M N E A l h) (hW : WN N E A l h) {L : List (Nat × Bool)} {F : List (Nat × Nat)} (hL : LG (M 73 5) (M 76) (M 77) L) (hF : FS (M 73 8) (M 78) (M 79) F) : ∀ e, e ≤ 24 → ∀ M', Fm [101] [39] M M' → M' 73 39 = 1 → cpR (M 74) (M 75) (fun j => M' 101 (0 + j)) (fun j => M' 101 (10 + j)) 10 → cpR (M 76) (M 77) (fun j => M' 101 (20 + j)) (fun j => M' 101 (44 + j)) e → WP d cd_X12_image false (fun r M2 L2 => r = some (.int (nI E)) ∧ L2 = ML ∧ Fm [101] [39] M M2 ∧ IMG M2 N E A l h L F ∧ M2 73 39 = 1) (48, [(0, .ref 73), (1, .int (nI e))], [], (SH, M', ML)) := by
  have hE10 := hW.2.2.1
  refine up_ind fun e he ih => ?_
  intro M' hM hg h1 h2
  refine w_ld rfl rfl ?_
  refine w_cst (v := .int 24) rfl rfl ?_
  refine w_cj rfl rfl (fun h_51 => ?_) (fun h_51 => ?_)
  · refine w_cst (v := .int 0) rfl rfl ?_
    refine w_sto (L' := [(0, _), (1, _)]) rfl rfl ?_
    have h9 : e = 24 := by have := nle (a := 24) (by decide) (by omega) h_51; omega
    subst h9
    exact lp_X12_image_92 hS hW hL hF 0 (by decide) M' hM hg h1 h2 cpR_0
  · have hlt : e < 24 := nnle (b := e) (a := 24) (by omega) (by omega) h_51
    refine w_ld rfl rfl ?_
    refine w_getr rfl rfl rfl rfl rfl ?_
    refine w_cst (v := .int 20) rfl rfl ?_
    refine w_ld rfl rfl ?_
    refine w_bin rfl rfl ?_
    refine w_ld rfl rfl ?_
    refine w_getr rfl rfl rfl rfl rfl ?_
    refine w_ld rfl rfl ?_
    refine w_ain rfl rfl rfl (rfl) (hlt) rfl ?_
    refine w_sin rfl rfl rfl ((nI_add 20 e)) (by omega) rfl ?_
    refine w_ld rfl rfl ?_
    refine w_getr rfl rfl rfl rfl rfl ?_
    refine w_cst (v := .int 44) rfl rfl ?_
    refine w_ld rfl rfl ?_
    refine w_bin rfl rfl ?_
    refine w_ld rfl rfl ?_
    refine w_getr rfl rfl rfl rfl rfl ?_
    refine w_ld rfl rfl ?_
    refine w_ain rfl rfl rfl (rfl) (hlt) rfl ?_
    refine w_sin rfl rfl rfl ((nI_add 44 e)) (by omega) rfl ?_
    refine w_inc (y := _ + 1) rfl rfl rfl ?_
    refine w_norm (L' := [(0, _), (1, _)]) rfl ?_
    refine w_go rfl ?_
    rw [nI_1]
    refine ih hlt _ (Fm_up (by decide) (by decide) (Fm_up (by decide) (by decide) hM)) ?_ ?_ ?_
    · rw [up2_row (by decide), up2_row (by decide)]
      exact hg
    · refine cpR_k h1 (fun j hj => ⟨?_, ?_⟩)
      · show up2 (up2 M' 101 (20 + e) _) 101 (44 + e) _ 101 (0 + j) = _
        rw [up2_k (by omega), up2_k (by omega)]
      · show up2 (up2 M' 101 (20 + e) _) 101 (44 + e) _ 101 (10 + j) = _
        rw [up2_k (by omega), up2_k (by omega)]
    · refine cpR_s h2 ?_ ?_ (fun j hj => ⟨?_, ?_⟩)
      · show up2 (up2 M' 101 (20 + e) _) 101 (44 + e) _ 101 (20 + e) = _
        rw [up2_k (by omega), up2_e, hM.1 76 (by decide) (by decide)]
      · show up2 (up2 M' 101 (20 + e) _) 101 (44 + e) _ 101 (44 + e) = _
        rw [up2_e, up2_row (by decide), hM.1 77 (by decide) (by decide)]
      · show up2 (up2 M' 101 (20 + e) _) 101 (44 + e) _ 101 (20 + j) = _
        rw [up2_k (by omega), up2_k (by omega)]
      · show up2 (up2 M' 101 (20 + e) _) 101 (44 + e) _ 101 (44 + j) = _
        rw [up2_k (by omega), up2_k (by omega)]

set_option maxHeartbeats 1000000 in
set_option maxRecDepth 10000 in
theorem lp_X12_image_7 {d : Nat} {M : Mm} {ML : Ml} {N E A : Nat} {l h : Nat → Nat} (hS : NM M N E A l h) (hW : WN N E A l h) {L : List (Nat × Bool)} {F : List (Nat × Nat)} (hL : LG (M 73 5) (M 76) (M 77) L) (hF : FS (M 73 8) (M 78) (M 79) F) : ∀ e, e ≤ 10 → ∀ M', Fm [101] [39] M M' → M' 73 39 = 1 → cpR (M 74) (M 75) (fun j => M' 101 (0 + j)) (fun j => M' 101 (10 + j)) e → WP d cd_X12_image false (fun r M2 L2 => r = some (.int (nI E)) ∧ L2 = ML ∧ Fm [101] [39] M M2 ∧ IMG M2 N E A l h L F ∧ M2 73 39 = 1) (7, [(0, .ref 73), (1, .int (nI e))], [], (SH, M', ML)) := by
  have hE10 := hW.2.2.1
  refine up_ind fun e he ih => ?_
  intro M' hM hg h1
  refine w_ld rfl rfl ?_
  refine w_cst (v := .int 10) rfl rfl ?_
  refine w_cj rfl rfl (fun h_10 => ?_) (fun h_10 => ?_)
  · refine w_cst (v := .int 0) rfl rfl ?_
    refine w_sto (L' := [(0, _), (1, _)]) rfl rfl ?_
    have h9 : e = 10 := by have := nle (a := 10) (by decide) (by omega) h_10; omega
    subst h9
    exact lp_X12_image_48 hS hW hL hF 0 (by decide) M' hM hg h1 cpR_0
  · have hlt : e < 10 := nnle (b := e) (a := 10) (by omega) (by omega) h_10
    refine w_ld rfl rfl ?_
    refine w_getr rfl rfl rfl rfl rfl ?_
    refine w_ld rfl rfl ?_
    refine w_ld rfl rfl ?_
    refine w_getr rfl rfl rfl rfl rfl ?_
    refine w_ld rfl rfl ?_
    refine w_ain rfl rfl rfl (rfl) (hlt) rfl ?_
    refine w_sin rfl rfl rfl ((congrArg nI (Nat.zero_add e).symm)) (by omega) rfl ?_
    refine w_ld rfl rfl ?_
    refine w_getr rfl rfl rfl rfl rfl ?_
    refine w_cst (v := .int 10) rfl rfl ?_
    refine w_ld rfl rfl ?_
    refine w_bin rfl rfl ?_
    refine w_ld rfl rfl ?_
    refine w_getr rfl rfl rfl rfl rfl ?_
    refine w_ld rfl rfl ?_
    refine w_ain rfl rfl rfl (rfl) (hlt) rfl ?_
    refine w_sin rfl rfl rfl ((nI_add 10 e)) (by omega) rfl ?_
    refine w_inc (y := _ + 1) rfl rfl rfl ?_
    refine w_norm (L' := [(0, _), (1, _)]) rfl ?_
    refine w_go rfl ?_
    rw [nI_1]
    refine ih hlt _ (Fm_up (by decide) (by decide) (Fm_up (by decide) (by decide) hM)) ?_ ?_
    · rw [up2_row (by decide), up2_row (by decide)]
      exact hg
    · refine cpR_s h1 ?_ ?_ (fun j hj => ⟨?_, ?_⟩)
      · show up2 (up2 M' 101 (0 + e) _) 101 (10 + e) _ 101 (0 + e) = _
        rw [up2_k (by omega), up2_e, hM.1 74 (by decide) (by decide)]
      · show up2 (up2 M' 101 (0 + e) _) 101 (10 + e) _ 101 (10 + e) = _
        rw [up2_e, up2_row (by decide), hM.1 75 (by decide) (by decide)]
      · show up2 (up2 M' 101 (0 + e) _) 101 (10 + e) _ 101 (0 + j) = _
        rw [up2_k (by omega), up2_k (by omega)]
      · show up2 (up2 M' 101 (0 + e) _) 101 (10 + e) _ 101 (10 + j) = _
        rw [up2_k (by omega), up2_k (by omega)]

set_option maxHeartbeats 1000000 in
set_option maxRecDepth 10000 in
theorem ok_X12_image {d : Nat} {M : Mm} {ML : Ml} {N E A : Nat} {l h : Nat → Nat} (hS : NM M N E A l h) (hW : WN N E A l h) {L : List (Nat × Bool)} {F : List (Nat × Nat)} (hL : LG (M 73 5) (M 76) (M 77) L) (hF : FS (M 73 8) (M 78) (M 79) F) : EX (d + 1) k_X12_image [.ref 73] M ML (fun r M2 L2 => r = some (.int (nI E)) ∧ L2 = ML ∧ Fm [101] [39] M M2 ∧ IMG M2 N E A l h L F ∧ M2 73 39 = 1) := by
  refine EX_in mi_X12_image rfl rfl ?_
  show WP _ cd_X12_image false _ (0, [(0, .ref 73)], [], (SH, M, ML))
  refine w_ld rfl rfl ?_
  refine w_cst (v := .int 1) rfl rfl ?_
  refine w_put rfl rfl rfl rfl rfl (Or.inr (Or.inr rfl)) ?_
  refine w_cst (v := .int 0) rfl rfl ?_
  refine w_sto (L' := [(0, _), (1, _)]) rfl rfl ?_
  exact lp_X12_image_7 hS hW hL hF 0 (by decide) _ (Fm_f (by decide) Fm_rf) up2_e cpR_0

set_option maxHeartbeats 1000000 in
set_option maxRecDepth 10000 in
theorem ok_X12_undo_n {d : Nat} {M : Mm} {ML : Ml} (hk : M 73 39 = 0) : EX (d + 1) k_X12_undo [.ref 73] M ML (fun r M2 L2 => r = some (.int (-5)) ∧ L2 = ML ∧ M2 = M) := by
  refine EX_in mi_X12_undo rfl rfl ?_
  show WP _ cd_X12_undo false _ (0, [(0, .ref 73)], [], (SH, M, ML))
  refine w_ld rfl rfl ?_
  refine w_getv rfl rfl rfl rfl rfl (hk) ?_
  refine w_cjF rfl rfl (fun q => q rfl) ?_
  refine w_cst (v := .int (-5)) rfl rfl ?_
  refine w_ret rfl rfl (trivial) ?_
  exact ⟨rfl, rfl, rfl⟩

set_option maxHeartbeats 1000000 in
set_option maxRecDepth 10000 in
theorem lp_X12_undo_97 {d : Nat} {M : Mm} {ML : Ml} {N E A : Nat} {l h : Nat → Nat} {L : List (Nat × Bool)} {F : List (Nat × Nat)} (hI : IMG M N E A l h L F) (hW : WN N E A l h) : ∀ e, e ≤ 4 → ∀ M', Fm [74, 75, 76, 77, 78, 79] [] M M' → cpR (fun j => M 101 (0 + j)) (fun j => M 101 (10 + j)) (M' 74) (M' 75) 10 → cpR (fun j => M 101 (20 + j)) (fun j => M 101 (44 + j)) (M' 76) (M' 77) 24 → cpR (fun j => M 101 (68 + j)) (fun j => M 101 (72 + j)) (M' 78) (M' 79) e → WP d cd_X12_undo false (fun r M2 L2 => r = some (.int (nI E)) ∧ L2 = ML ∧ Fm [74, 75, 76, 77, 78, 79] [0, 1, 4, 5, 8] M M2 ∧ NM M2 N E A l h ∧ LG (M2 73 5) (M2 76) (M2 77) L ∧ FS (M2 73 8) (M2 78) (M2 79) F) (97, [(0, .ref 73), (1, .int (nI e))], [], (SH, M', ML)) := by
  have hE10 := hW.2.2.1
  refine up_ind fun e he ih => ?_
  intro M' hM h1 h2 h3
  refine w_ld rfl rfl ?_
  refine w_cst (v := .int 4) rfl rfl ?_
  refine w_cj rfl rfl (fun h_99 => ?_) (fun h_99 => ?_)
  · refine w_ld rfl rfl ?_
    refine w_ld rfl rfl ?_
    refine w_getr rfl rfl rfl rfl rfl ?_
    refine w_cst (v := .int 76) rfl rfl ?_
    refine w_aiv rfl rfl rfl (rfl) (by decide) rfl (Eq.trans (by rw [hM.1 101 (by decide) (by decide)]) (hI.1)) ?_
    refine w_put rfl rfl rfl rfl rfl (Or.inl rfl) ?_
    refine w_ld rfl rfl ?_
    refine w_ld rfl rfl ?_
    refine w_getr rfl rfl rfl rfl rfl ?_
    refine w_cst (v := .int 77) rfl rfl ?_
    refine w_aiv rfl rfl rfl (rfl) (by decide) rfl (Eq.trans (by rw [up2_row (by decide), hM.1 101 (by decide) (by decide)]) (hI.2.1)) ?_
    refine w_put rfl rfl rfl rfl rfl (Or.inl rfl) ?_
    refine w_ld rfl rfl ?_
    refine w_ld rfl rfl ?_
    refine w_getr rfl rfl rfl rfl rfl ?_
    refine w_cst (v := .int 78) rfl rfl ?_
    refine w_aiv rfl rfl rfl (rfl) (by decide) rfl (Eq.trans (by rw [up2_row (by decide), up2_row (by decide), hM.1 101 (by decide) (by decide)]) (hI.2.2.1)) ?_
    refine w_put rfl rfl rfl rfl rfl (Or.inl rfl) ?_
    refine w_ld rfl rfl ?_
    refine w_ld rfl rfl ?_
    refine w_getr rfl rfl rfl rfl rfl ?_
    refine w_cst (v := .int 79) rfl rfl ?_
    refine w_aiv rfl rfl rfl (rfl) (by decide) rfl (Eq.trans (by rw [up2_row (by decide), up2_row (by decide), up2_row (by decide), hM.1 101 (by decide) (by decide)]) (rfl)) ?_
    refine w_put rfl rfl rfl rfl rfl (Or.inl rfl) ?_
    refine w_ld rfl rfl ?_
    refine w_ld rfl rfl ?_
    refine w_getr rfl rfl rfl rfl rfl ?_
    refine w_cst (v := .int 80) rfl rfl ?_
    refine w_aiv rfl rfl rfl (rfl) (by decide) rfl (Eq.trans (by rw [up2_row (by decide), up2_row (by decide), up2_row (by decide), up2_row (by decide), hM.1 101 (by decide) (by decide)]) (rfl)) ?_
    refine w_put rfl rfl rfl rfl rfl (Or.inl rfl) ?_
    refine w_ld rfl rfl ?_
    refine w_getv rfl rfl rfl rfl rfl (Eq.trans (by rw [up2_k (by decide), up2_k (by decide), up2_k (by decide), up2_e]) (rfl)) ?_
    have hrow : ∀ x, x ≠ 73 → up2 (up2 (up2 (up2 (up2 M' 73 0 (nI N)) 73 1 (nI E)) 73 4 (nI A)) 73 5 (M 101 79)) 73 8 (M 101 80) x = M' x := fun x w => by rw [up2_row w, up2_row w, up2_row w, up2_row w, up2_row w]
    refine w_ret rfl rfl (trivial) ?_
    have h9 : e = 4 := by have := nle (a := 4) (by decide) (by omega) h_99; omega
    subst h9
    refine ⟨rfl, rfl, Fm_f (by decide) (Fm_f (by decide) (Fm_f (by decide) (Fm_f (by decide) (Fm_f (by decide) (Fm_mono hM (by decide) (by decide)))))), ⟨?_, ?_, ?_, fun e he => ?_⟩, ?_, ?_⟩
    · rw [up2_k (by decide), up2_k (by decide), up2_k (by decide), up2_k (by decide), up2_e]
    · rw [up2_k (by decide), up2_k (by decide), up2_k (by decide), up2_e]
    · rw [up2_k (by decide), up2_k (by decide), up2_e]
    · rw [hrow 74 (by decide), hrow 75 (by decide)]
      have := h1 e (by omega)
      have w := hI.2.2.2.1 e he
      refine ⟨this.1.trans ?_, this.2.trans w.2⟩
      show M 101 (0 + e) = _
      rw [Nat.zero_add]
      exact w.1
    · refine LG_cong hI.2.2.2.2.1 ?_ (fun k hk => ?_)
      · rw [up2_k (by decide), up2_e]
      · have hk24 := Nat.lt_of_lt_of_le hk hI.2.2.2.2.1.2.1
        rw [hrow 76 (by decide), hrow 77 (by decide)]
        exact h2 k hk24
    · refine FS_cong hI.2.2.2.2.2 ?_ (fun k hk => ?_)
      · rw [up2_e]
      · have hk4 := Nat.lt_of_lt_of_le hk hI.2.2.2.2.2.2.1
        rw [hrow 78 (by decide), hrow 79 (by decide)]
        exact h3 k hk4
  · have hlt : e < 4 := nnle (b := e) (a := 4) (by omega) (by omega) h_99
    refine w_ld rfl rfl ?_
    refine w_getr rfl rfl rfl rfl rfl ?_
    refine w_ld rfl rfl ?_
    refine w_ld rfl rfl ?_
    refine w_getr rfl rfl rfl rfl rfl ?_
    refine w_cst (v := .int 68) rfl rfl ?_
    refine w_ld rfl rfl ?_
    refine w_bin rfl rfl ?_
    refine w_ain rfl rfl rfl ((nI_add 68 e)) (by omega) rfl ?_
    refine w_sin rfl rfl rfl (rfl) (hlt) rfl ?_
    refine w_ld rfl rfl ?_
    refine w_getr rfl rfl rfl rfl rfl ?_
    refine w_ld rfl rfl ?_
    refine w_ld rfl rfl ?_
    refine w_getr rfl rfl rfl rfl rfl ?_
    refine w_cst (v := .int 72) rfl rfl ?_
    refine w_ld rfl rfl ?_
    refine w_bin rfl rfl ?_
    refine w_ain rfl rfl rfl ((nI_add 72 e)) (by omega) rfl ?_
    refine w_sin rfl rfl rfl (rfl) (hlt) rfl ?_
    refine w_inc (y := _ + 1) rfl rfl rfl ?_
    refine w_norm (L' := [(0, _), (1, _)]) rfl ?_
    refine w_go rfl ?_
    rw [nI_1]
    refine ih hlt _ (Fm_up (by decide) (by decide) (Fm_up (by decide) (by decide) hM)) ?_ ?_ ?_
    · exact cpR_k h1 (fun j hj => ⟨by rw [up2_row (by decide), up2_row (by decide)], by rw [up2_row (by decide), up2_row (by decide)]⟩)
    · exact cpR_k h2 (fun j hj => ⟨by rw [up2_row (by decide), up2_row (by decide)], by rw [up2_row (by decide), up2_row (by decide)]⟩)
    · refine cpR_s h3 ?_ ?_ (fun j hj => ⟨?_, ?_⟩)
      · rw [up2_row (by decide), up2_e, hM.1 101 (by decide) (by decide)]
      · rw [up2_e, up2_row (by decide), hM.1 101 (by decide) (by decide)]
      · rw [up2_row (by decide), up2_k (by omega)]
      · rw [up2_k (by omega), up2_row (by decide)]

set_option maxHeartbeats 1000000 in
set_option maxRecDepth 10000 in
theorem lp_X12_undo_53 {d : Nat} {M : Mm} {ML : Ml} {N E A : Nat} {l h : Nat → Nat} {L : List (Nat × Bool)} {F : List (Nat × Nat)} (hI : IMG M N E A l h L F) (hW : WN N E A l h) : ∀ e, e ≤ 24 → ∀ M', Fm [74, 75, 76, 77, 78, 79] [] M M' → cpR (fun j => M 101 (0 + j)) (fun j => M 101 (10 + j)) (M' 74) (M' 75) 10 → cpR (fun j => M 101 (20 + j)) (fun j => M 101 (44 + j)) (M' 76) (M' 77) e → WP d cd_X12_undo false (fun r M2 L2 => r = some (.int (nI E)) ∧ L2 = ML ∧ Fm [74, 75, 76, 77, 78, 79] [0, 1, 4, 5, 8] M M2 ∧ NM M2 N E A l h ∧ LG (M2 73 5) (M2 76) (M2 77) L ∧ FS (M2 73 8) (M2 78) (M2 79) F) (53, [(0, .ref 73), (1, .int (nI e))], [], (SH, M', ML)) := by
  have hE10 := hW.2.2.1
  refine up_ind fun e he ih => ?_
  intro M' hM h1 h2
  refine w_ld rfl rfl ?_
  refine w_cst (v := .int 24) rfl rfl ?_
  refine w_cj rfl rfl (fun h_56 => ?_) (fun h_56 => ?_)
  · refine w_cst (v := .int 0) rfl rfl ?_
    refine w_sto (L' := [(0, _), (1, _)]) rfl rfl ?_
    have h9 : e = 24 := by have := nle (a := 24) (by decide) (by omega) h_56; omega
    subst h9
    exact lp_X12_undo_97 hI hW 0 (by decide) M' hM h1 h2 cpR_0
  · have hlt : e < 24 := nnle (b := e) (a := 24) (by omega) (by omega) h_56
    refine w_ld rfl rfl ?_
    refine w_getr rfl rfl rfl rfl rfl ?_
    refine w_ld rfl rfl ?_
    refine w_ld rfl rfl ?_
    refine w_getr rfl rfl rfl rfl rfl ?_
    refine w_cst (v := .int 20) rfl rfl ?_
    refine w_ld rfl rfl ?_
    refine w_bin rfl rfl ?_
    refine w_ain rfl rfl rfl ((nI_add 20 e)) (by omega) rfl ?_
    refine w_sin rfl rfl rfl (rfl) (hlt) rfl ?_
    refine w_ld rfl rfl ?_
    refine w_getr rfl rfl rfl rfl rfl ?_
    refine w_ld rfl rfl ?_
    refine w_ld rfl rfl ?_
    refine w_getr rfl rfl rfl rfl rfl ?_
    refine w_cst (v := .int 44) rfl rfl ?_
    refine w_ld rfl rfl ?_
    refine w_bin rfl rfl ?_
    refine w_ain rfl rfl rfl ((nI_add 44 e)) (by omega) rfl ?_
    refine w_sin rfl rfl rfl (rfl) (hlt) rfl ?_
    refine w_inc (y := _ + 1) rfl rfl rfl ?_
    refine w_norm (L' := [(0, _), (1, _)]) rfl ?_
    refine w_go rfl ?_
    rw [nI_1]
    refine ih hlt _ (Fm_up (by decide) (by decide) (Fm_up (by decide) (by decide) hM)) ?_ ?_
    · exact cpR_k h1 (fun j hj => ⟨by rw [up2_row (by decide), up2_row (by decide)], by rw [up2_row (by decide), up2_row (by decide)]⟩)
    · refine cpR_s h2 ?_ ?_ (fun j hj => ⟨?_, ?_⟩)
      · rw [up2_row (by decide), up2_e, hM.1 101 (by decide) (by decide)]
      · rw [up2_e, up2_row (by decide), hM.1 101 (by decide) (by decide)]
      · rw [up2_row (by decide), up2_k (by omega)]
      · rw [up2_k (by omega), up2_row (by decide)]

set_option maxHeartbeats 1000000 in
set_option maxRecDepth 10000 in
theorem lp_X12_undo_12 {d : Nat} {M : Mm} {ML : Ml} {N E A : Nat} {l h : Nat → Nat} {L : List (Nat × Bool)} {F : List (Nat × Nat)} (hI : IMG M N E A l h L F) (hW : WN N E A l h) : ∀ e, e ≤ 10 → ∀ M', Fm [74, 75, 76, 77, 78, 79] [] M M' → cpR (fun j => M 101 (0 + j)) (fun j => M 101 (10 + j)) (M' 74) (M' 75) e → WP d cd_X12_undo false (fun r M2 L2 => r = some (.int (nI E)) ∧ L2 = ML ∧ Fm [74, 75, 76, 77, 78, 79] [0, 1, 4, 5, 8] M M2 ∧ NM M2 N E A l h ∧ LG (M2 73 5) (M2 76) (M2 77) L ∧ FS (M2 73 8) (M2 78) (M2 79) F) (12, [(0, .ref 73), (1, .int (nI e))], [], (SH, M', ML)) := by
  have hE10 := hW.2.2.1
  refine up_ind fun e he ih => ?_
  intro M' hM h1
  refine w_ld rfl rfl ?_
  refine w_cst (v := .int 10) rfl rfl ?_
  refine w_cj rfl rfl (fun h_15 => ?_) (fun h_15 => ?_)
  · refine w_cst (v := .int 0) rfl rfl ?_
    refine w_sto (L' := [(0, _), (1, _)]) rfl rfl ?_
    have h9 : e = 10 := by have := nle (a := 10) (by decide) (by omega) h_15; omega
    subst h9
    exact lp_X12_undo_53 hI hW 0 (by decide) M' hM h1 cpR_0
  · have hlt : e < 10 := nnle (b := e) (a := 10) (by omega) (by omega) h_15
    refine w_ld rfl rfl ?_
    refine w_getr rfl rfl rfl rfl rfl ?_
    refine w_ld rfl rfl ?_
    refine w_ld rfl rfl ?_
    refine w_getr rfl rfl rfl rfl rfl ?_
    refine w_ld rfl rfl ?_
    refine w_ain rfl rfl rfl ((congrArg nI (Nat.zero_add e).symm)) (by omega) rfl ?_
    refine w_sin rfl rfl rfl (rfl) (hlt) rfl ?_
    refine w_ld rfl rfl ?_
    refine w_getr rfl rfl rfl rfl rfl ?_
    refine w_ld rfl rfl ?_
    refine w_ld rfl rfl ?_
    refine w_getr rfl rfl rfl rfl rfl ?_
    refine w_cst (v := .int 10) rfl rfl ?_
    refine w_ld rfl rfl ?_
    refine w_bin rfl rfl ?_
    refine w_ain rfl rfl rfl ((nI_add 10 e)) (by omega) rfl ?_
    refine w_sin rfl rfl rfl (rfl) (hlt) rfl ?_
    refine w_inc (y := _ + 1) rfl rfl rfl ?_
    refine w_norm (L' := [(0, _), (1, _)]) rfl ?_
    refine w_go rfl ?_
    rw [nI_1]
    refine ih hlt _ (Fm_up (by decide) (by decide) (Fm_up (by decide) (by decide) hM)) ?_
    · refine cpR_s h1 ?_ ?_ (fun j hj => ⟨?_, ?_⟩)
      · rw [up2_row (by decide), up2_e, hM.1 101 (by decide) (by decide)]
      · rw [up2_e, up2_row (by decide), hM.1 101 (by decide) (by decide)]
      · rw [up2_row (by decide), up2_k (by omega)]
      · rw [up2_k (by omega), up2_row (by decide)]

set_option maxHeartbeats 1000000 in
set_option maxRecDepth 10000 in
theorem ok_X12_undo_y {d : Nat} {M : Mm} {ML : Ml} {N E A : Nat} {l h : Nat → Nat} {L : List (Nat × Bool)} {F : List (Nat × Nat)} (hI : IMG M N E A l h L F) (hW : WN N E A l h) (hk : M 73 39 = 1) : EX (d + 1) k_X12_undo [.ref 73] M ML (fun r M2 L2 => r = some (.int (nI E)) ∧ L2 = ML ∧ Fm [74, 75, 76, 77, 78, 79] [0, 1, 4, 5, 8] M M2 ∧ NM M2 N E A l h ∧ LG (M2 73 5) (M2 76) (M2 77) L ∧ FS (M2 73 8) (M2 78) (M2 79) F) := by
  refine EX_in mi_X12_undo rfl rfl ?_
  show WP _ cd_X12_undo false _ (0, [(0, .ref 73)], [], (SH, M, ML))
  refine w_ld rfl rfl ?_
  refine w_getv rfl rfl rfl rfl rfl (hk) ?_
  refine w_cjT rfl rfl (by decide) ?_
  refine w_cst (v := .int 0) rfl rfl ?_
  refine w_sto (L' := [(0, _), (1, _)]) rfl rfl ?_
  exact lp_X12_undo_12 hI hW 0 (by decide) _ Fm_rf cpR_0

