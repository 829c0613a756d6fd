/-! ===== words of the reference: how many, the least; off ===== -/
set_option maxHeartbeats 1000000 in
set_option maxRecDepth 10000 in
theorem lp_X12_leastWord_19 {d : Nat} {M : Mm} {ML : Ml} {N E A : Nat} {l h : Nat → Nat} (hS : NM M N E A l h) (hW : WN N E A l h) {x : Int32} {k g w : Nat} (hg : g < 2 ^ N) (hn : fa_first (cmB E l h x g) N = N → WP (d + 3) cd_X12_leastWord false (fun r M2 L2 => r = some (.int (lwA (cmB E l h x) N)) ∧ L2 = ML ∧ M2 = M) (54, [(0, .ref 73), (1, .int x)], [], (SH, M, ML))) (hy : ∀ v, v < N → fa_first (cmB E l h x g) N = v → WP (d + 3) cd_X12_leastWord false (fun r M2 L2 => r = some (.int (lwA (cmB E l h x) N)) ∧ L2 = ML ∧ M2 = M) (57, [(0, .ref 73), (1, .int x), (2, .int (nI g)), (3, .int (nI w)), (4, .int (nI k)), (5, .int (nI v))], [], (SH, M, ML))) : ∀ v, v ≤ N → (∀ u, u < v → cmB E l h x g u = false) → WP (d + 3) cd_X12_leastWord false (fun r M2 L2 => r = some (.int (lwA (cmB E l h x) N)) ∧ L2 = ML ∧ M2 = M) (19, [(0, .ref 73), (1, .int x), (2, .int (nI g)), (3, .int (nI w)), (4, .int (nI k)), (5, .int (nI v))], [], (SH, M, ML)) := by
  have hN7 := hW.2.1
  have hN1 := hW.1
  have h128 := p7 hN7
  have hp2 : 0 < 2 ^ N := Nat.two_pow_pos N
  refine up_ind fun v hv ih => ?_
  intro hu
  refine w_ld rfl rfl ?_
  refine w_ld rfl rfl ?_
  refine w_getv rfl rfl rfl rfl rfl (hS.1) ?_
  refine w_cj rfl rfl (fun h_25 => ?_) (fun h_25 => ?_)
  · refine w_ld rfl rfl ?_
    refine w_ld rfl rfl ?_
    refine w_getv rfl rfl rfl rfl rfl (hS.1) ?_
    refine w_cj rfl rfl (fun h_51 => ?_) (fun h_51 => ?_)
    · have hlt : v < N := by
        rcases Nat.lt_or_ge v N with r | r
        · exact r
        · exact absurd (congrArg nI (show v = N by omega)) h_51
      first
        | exact absurd (nle (by omega) (by omega) h_25) (by omega)
        | exact hy v hlt (ff_eq hlt h_33 hu)
    · have h9 : v = N := neq (by omega) (by omega) (Classical.not_not.mp h_51)
      refine w_keep [0, 1] (L' := [(0, _), (1, _)]) rfl ?_
      refine hn ?_
      refine Nat.le_antisymm (fa_first_le _ N) (Nat.not_lt.mp fun q => ?_)
      have := fa_first_yes _ _ q
      rw [hu _ (by omega)] at this
      exact Bool.noConfusion this
  · have hlt : v < N := nnle (by omega) (by omega) h_25
    refine w_ld rfl rfl ?_
    refine w_ld rfl rfl ?_
    refine w_ld rfl rfl ?_
    refine w_ld rfl rfl ?_
    refine w_cifn (as := [_, _, _, _]) (rest := []) rfl rfl rfl rfl rfl rfl rfl rfl (EX_ex (ok_X12_canCome hS hW (by omega) (by omega))) rfl (fun h_33 => ?_) (fun h_33 => ?_)
    · refine w_ld rfl rfl ?_
      refine w_ld rfl rfl ?_
      refine w_getv rfl rfl rfl rfl rfl (hS.1) ?_
      refine w_cj rfl rfl (fun h_51 => ?_) (fun h_51 => ?_)
      · have hlt : v < N := by
          rcases Nat.lt_or_ge v N with r | r
          · exact r
          · exact absurd (congrArg nI (show v = N by omega)) h_51
        first
          | exact absurd (nle (by omega) (by omega) h_25) (by omega)
          | exact hy v hlt (ff_eq hlt h_33 hu)
      · have h9 : v = N := neq (by omega) (by omega) (Classical.not_not.mp h_51)
        refine w_keep [0, 1] (L' := [(0, _), (1, _)]) rfl ?_
        refine hn ?_
        refine Nat.le_antisymm (fa_first_le _ N) (Nat.not_lt.mp fun q => ?_)
        have := fa_first_yes _ _ q
        rw [hu _ (by omega)] at this
        exact Bool.noConfusion this
    · refine w_inc (y := _ + 1) rfl rfl rfl ?_
      refine w_norm (L' := [(0, _), (1, _), (2, _), (3, _), (4, _), (5, _)]) rfl ?_
      refine w_go rfl ?_
      rw [nI_1]
      refine ih hlt (fun u hq => ?_)
      rcases Nat.lt_or_ge u v with r | r
      · exact hu u r
      · have : u = v := by omega
        subst this
        exact h_33

set_option maxHeartbeats 1000000 in
set_option maxRecDepth 10000 in
theorem lp_X12_leastWord_7 {d : Nat} {M : Mm} {ML : Ml} {N E A : Nat} {l h : Nat → Nat} (hS : NM M N E A l h) (hW : WN N E A l h) {x : Int32} : ∀ k, k ≤ N → ∀ g w, lwS (cmB E l h x) N k = some (g, w) → WP (d + 3) cd_X12_leastWord false (fun r M2 L2 => r = some (.int (lwA (cmB E l h x) N)) ∧ L2 = ML ∧ M2 = M) (7, [(0, .ref 73), (1, .int x), (2, .int (nI g)), (3, .int (nI w)), (4, .int (nI k))], [], (SH, M, ML)) := by
  have hN7 := hW.2.1
  have hN1 := hW.1
  have h128 := p7 hN7
  have hp2 : 0 < 2 ^ N := Nat.two_pow_pos N
  refine up_ind fun k hk ih => ?_
  intro g w hl
  have hb := lwS_b hN7 k g w hl
  refine w_ld rfl rfl ?_
  refine w_ld rfl rfl ?_
  refine w_getv rfl rfl rfl rfl rfl (hS.1) ?_
  refine w_cj rfl rfl (fun h_13 => ?_) (fun h_13 => ?_)
  · have h9 : k = N := by have := nle (by omega) (by omega) h_13; omega
    subst h9
    refine w_ld rfl rfl ?_
    refine w_ret rfl rfl (trivial) ?_
    exact ⟨by unfold lwA; rw [hl], rfl, rfl⟩
  · have hlt : k < N := nnle (by omega) (by omega) h_13
    refine w_cst (v := .int 0) rfl rfl ?_
    refine w_sto (L' := [(0, _), (1, _), (2, _), (3, _), (4, _), (5, _)]) rfl rfl ?_
    refine lp_X12_leastWord_19 hS hW hb.1 (fun q => ?_) (fun v hv q => ?_) 0 (Nat.zero_le _) (fun u hu => absurd hu (Nat.not_lt_zero u))
    · refine w_cst (v := .int (-2)) rfl rfl ?_
      refine w_ret rfl rfl trivial ?_
      have h9 := lwS_n hl q (N - (k + 1))
      rw [show k + 1 + (N - (k + 1)) = N by omega] at h9
      exact ⟨by unfold lwA; rw [h9], rfl, rfl⟩
    · have hp9 := lwS_y hl q hv
      refine w_ld rfl rfl ?_
      refine w_cst (v := .int 1) rfl rfl ?_
      refine w_ld rfl rfl ?_
      refine w_bin rfl rfl ?_
      refine w_bin rfl rfl ?_
      rw [or_sh (by omega)]
      refine w_sto (L' := [(0, _), (1, _), (2, _), (3, _), (4, _), (5, _)]) rfl rfl ?_
      refine w_cst (v := .int 10) rfl rfl ?_
      refine w_ld rfl rfl ?_
      refine w_bin rfl rfl ?_
      refine w_ld rfl rfl ?_
      refine w_bin rfl rfl ?_
      refine w_cst (v := .int 1) rfl rfl ?_
      refine w_bin rfl rfl ?_
      rw [show (10 : Int32) = nI 10 from rfl, pk_mul, nI_add, nI_1, Nat.mul_comm 10 w]
      refine w_sto (L' := [(0, _), (1, _), (2, _), (3, _), (4, _), (5, _)]) rfl rfl ?_
      refine w_inc (y := _ + 1) rfl rfl rfl ?_
      refine w_norm (L' := [(0, _), (1, _), (2, _), (3, _), (4, _), (5, _)]) rfl ?_
      refine w_go rfl ?_
      refine w_keep [0, 1, 2, 3, 4] (L' := [(0, _), (1, _), (2, _), (3, _), (4, _)]) rfl ?_
      rw [nI_1]
      exact ih hlt _ _ hp9

set_option maxHeartbeats 1000000 in
set_option maxRecDepth 10000 in
theorem ok_X12_leastWord {d : Nat} {M : Mm} {ML : Ml} {N E A : Nat} {l h : Nat → Nat} (hS : NM M N E A l h) (hW : WN N E A l h) {x : Int32} : EX (d + 4) k_X12_leastWord [.ref 73, .int x] M ML (fun r M2 L2 => r = some (.int (lwA (cmB E l h x) N)) ∧ L2 = ML ∧ M2 = M) := by
  refine EX_in mi_X12_leastWord rfl rfl ?_
  show WP _ cd_X12_leastWord false _ (0, [(0, .ref 73), (1, .int x)], [], (SH, M, ML))
  refine w_cst (v := .int 0) rfl rfl ?_
  refine w_sto (L' := [(0, _), (1, _), (2, _)]) rfl rfl ?_
  refine w_cst (v := .int 0) rfl rfl ?_
  refine w_sto (L' := [(0, _), (1, _), (2, _), (3, _)]) rfl rfl ?_
  refine w_cst (v := .int 0) rfl rfl ?_
  refine w_sto (L' := [(0, _), (1, _), (2, _), (3, _), (4, _)]) rfl rfl ?_
  exact lp_X12_leastWord_7 hS hW 0 (Nat.zero_le _) 0 0 rfl

set_option maxHeartbeats 1000000 in
set_option maxRecDepth 10000 in
theorem lp_X12_words_82 {d : Nat} {M : Mm} {ML : Ml} {N E A : Nat} {l h : Nat → Nat} (hS : NM M N E A l h) (hW : WN N E A l h) {x : Int32} {y : Int32} {s : Nat} (hs : s < 2 ^ N) (hk : ∀ M9, Fm [96] [] M M9 → (∀ t, t < 2 ^ N → M9 96 t = owS (cmB E l h x) N (s + 1) t) → WP (d + 4) cd_X12_words false (fun r M2 L2 => r = some (.int (owS (cmB E l h x) N (2 ^ N) (2 ^ N - 1))) ∧ L2 = ML ∧ Fm [96] [] M M2) (73, [(0, .ref 73), (1, .int x), (2, .int y), (3, .int (nI (2 ^ N - 1))), (4, .int (nI (s + 1)))], [], (SH, M9, ML))) : ∀ v, v ≤ N → ∀ M', Fm [96] [] M M' → (∀ t, t < 2 ^ N → M' 96 t = owI (cmB E l h x) s (owS (cmB E l h x) N s) v t) → WP (d + 4) cd_X12_words false (fun r M2 L2 => r = some (.int (owS (cmB E l h x) N (2 ^ N) (2 ^ N - 1))) ∧ L2 = ML ∧ Fm [96] [] M M2) (82, [(0, .ref 73), (1, .int x), (2, .int y), (3, .int (nI (2 ^ N - 1))), (4, .int (nI s)), (5, .int (nI v))], [], (SH, M', ML)) := by
  have hN7 := hW.2.1
  have hN1 := hW.1
  have h128 := p7 hN7
  have hp2 : 0 < 2 ^ N := Nat.two_pow_pos N
  refine up_ind fun v hv ih => ?_
  intro M' hF hr
  have hS' := NM_Fm hS hF (by decide) (by decide)
  refine w_ld rfl rfl ?_
  refine w_ld rfl rfl ?_
  refine w_getv rfl rfl rfl rfl rfl (hS'.1) ?_
  refine w_cj rfl rfl (fun h_88 => ?_) (fun h_88 => ?_)
  · have h9 : v = N := by have := nle (by omega) (by omega) h_88; omega
    subst h9
    refine w_inc (y := _ + 1) rfl rfl rfl ?_
    refine w_norm (L' := [(0, _), (1, _), (2, _), (3, _), (4, _), (5, _)]) rfl ?_
    refine w_go rfl ?_
    refine w_keep [0, 1, 2, 3, 4] (L' := [(0, _), (1, _), (2, _), (3, _), (4, _)]) rfl ?_
    rw [nI_1]
    exact hk _ hF hr
  · have hlt : v < N := nnle (by omega) (by omega) h_88
    have hor := or_lt hs hlt
    refine w_ld rfl rfl ?_
    refine w_ld rfl rfl ?_
    refine w_ld rfl rfl ?_
    refine w_ld rfl rfl ?_
    refine w_cife (as := [_, _, _, _]) (rest := []) rfl rfl rfl rfl rfl rfl rfl rfl (EX_ex (ok_X12_canCome hS' hW (by omega) (by omega))) rfl (fun h_97 => ?_) (fun h_97 => ?_)
    · refine w_inc (y := _ + 1) rfl rfl rfl ?_
      refine w_norm (L' := [(0, _), (1, _), (2, _), (3, _), (4, _), (5, _)]) rfl ?_
      refine w_go rfl ?_
      rw [nI_1]
      first
        | exact ih hlt _ hF (fun t ht => by rw [owI_n h_97]; exact hr t ht)
        | (refine ih hlt _ (Fm_up (by decide) (by decide) hF) (fun t ht => ?_)
           rw [owI_y h_97]
           by_cases q : t = s ||| 2 ^ v
           · rw [q, up2_e, if_pos rfl]
           · rw [up2_k q, if_neg q]
             exact hr t ht)
    · refine w_ld rfl rfl ?_
      refine w_getr rfl rfl rfl rfl rfl ?_
      refine w_ld rfl rfl ?_
      refine w_cst (v := .int 1) rfl rfl ?_
      refine w_ld rfl rfl ?_
      refine w_bin rfl rfl ?_
      refine w_bin rfl rfl ?_
      rw [or_sh (by omega)]
      refine w_stk rfl rfl ?_
      refine w_aiv rfl rfl rfl (rfl) (by omega) rfl (hr _ hor) ?_
      refine w_ld rfl rfl ?_
      refine w_getr rfl rfl rfl rfl rfl ?_
      refine w_ld rfl rfl ?_
      refine w_aiv rfl rfl rfl (rfl) (by omega) rfl (hr _ hs) ?_
      refine w_bin rfl rfl ?_
      refine w_sin rfl rfl rfl (rfl) (by omega) rfl ?_
      refine w_inc (y := _ + 1) rfl rfl rfl ?_
      refine w_norm (L' := [(0, _), (1, _), (2, _), (3, _), (4, _), (5, _)]) rfl ?_
      refine w_go rfl ?_
      rw [nI_1]
      first
        | exact ih hlt _ hF (fun t ht => by rw [owI_n h_97]; exact hr t ht)
        | (refine ih hlt _ (Fm_up (by decide) (by decide) hF) (fun t ht => ?_)
           rw [owI_y h_97]
           by_cases q : t = s ||| 2 ^ v
           · rw [q, up2_e, if_pos rfl]
           · rw [up2_k q, if_neg q]
             exact hr t ht)

set_option maxHeartbeats 1000000 in
set_option maxRecDepth 10000 in
theorem lp_X12_words_73 {d : Nat} {M : Mm} {ML : Ml} {N E A : Nat} {l h : Nat → Nat} (hS : NM M N E A l h) (hW : WN N E A l h) {x : Int32} {y : Int32} : ∀ s, s ≤ 2 ^ N - 1 → ∀ M', Fm [96] [] M M' → (∀ t, t < 2 ^ N → M' 96 t = owS (cmB E l h x) N s t) → WP (d + 4) cd_X12_words false (fun r M2 L2 => r = some (.int (owS (cmB E l h x) N (2 ^ N) (2 ^ N - 1))) ∧ L2 = ML ∧ Fm [96] [] M M2) (73, [(0, .ref 73), (1, .int x), (2, .int y), (3, .int (nI (2 ^ N - 1))), (4, .int (nI s))], [], (SH, M', ML)) := by
  have hN7 := hW.2.1
  have hN1 := hW.1
  have h128 := p7 hN7
  have hp2 : 0 < 2 ^ N := Nat.two_pow_pos N
  refine up_ind fun s hs ih => ?_
  intro M' hF hr
  refine w_ld rfl rfl ?_
  refine w_ld rfl rfl ?_
  refine w_cj rfl rfl (fun h_76 => ?_) (fun h_76 => ?_)
  · have h9 : s = 2 ^ N - 1 := by have := nle (by omega) (by omega) h_76; omega
    subst h9
    refine w_ld rfl rfl ?_
    refine w_getr rfl rfl rfl rfl rfl ?_
    refine w_ld rfl rfl ?_
    refine w_aiv rfl rfl rfl (rfl) (by omega) rfl (hr _ (by omega)) ?_
    refine w_ret rfl rfl (trivial) ?_
    exact ⟨by rw [ow_top], rfl, hF⟩
  · have hlt : s < 2 ^ N - 1 := nnle (by omega) (by omega) h_76
    refine w_cst (v := .int 0) rfl rfl ?_
    refine w_sto (L' := [(0, _), (1, _), (2, _), (3, _), (4, _), (5, _)]) rfl rfl ?_
    exact lp_X12_words_82 hS hW (by omega) (fun M9 hF9 hr9 => ih hlt M9 hF9 hr9) 0 (Nat.zero_le _) M' hF hr

set_option maxHeartbeats 1000000 in
set_option maxRecDepth 10000 in
theorem lp_X12_words_41 {d : Nat} {M : Mm} {ML : Ml} {N E A : Nat} {l h : Nat → Nat} (hS : NM M N E A l h) (hW : WN N E A l h) {x : Int32} {y : Int32} : ∀ s, s ≤ 2 ^ N → ∀ M', Fm [96] [] M M' → (∀ t, t < s → M' 96 t = owS (cmB E l h x) N 0 t) → WP (d + 4) cd_X12_words false (fun r M2 L2 => r = some (.int (owS (cmB E l h x) N (2 ^ N) (2 ^ N - 1))) ∧ L2 = ML ∧ Fm [96] [] M M2) (41, [(0, .ref 73), (1, .int x), (2, .int y), (3, .int (nI (2 ^ N - 1))), (4, .int (nI s))], [], (SH, M', ML)) := by
  have hN7 := hW.2.1
  have hN1 := hW.1
  have h128 := p7 hN7
  have hp2 : 0 < 2 ^ N := Nat.two_pow_pos N
  refine up_ind fun s hs ih => ?_
  intro M' hF hr
  refine w_ld rfl rfl ?_
  refine w_ld rfl rfl ?_
  refine w_cj rfl rfl (fun h_44 => ?_) (fun h_44 => ?_)
  · have h9 : s = 2 ^ N := by have := nlt (by omega) (by omega) h_44; omega
    subst h9
    refine w_cst (v := .int 0) rfl rfl ?_
    refine w_sto (L' := [(0, _), (1, _), (2, _), (3, _), (4, _)]) rfl rfl ?_
    exact lp_X12_words_73 hS hW 0 (Nat.zero_le _) M' hF hr
  · have hlt : s < 2 ^ N := by have := nnlt (by omega) (by omega) h_44; omega
    refine w_ld rfl rfl ?_
    refine w_getr rfl rfl rfl rfl rfl ?_
    refine w_ld rfl rfl ?_
    refine w_ld rfl rfl ?_
    refine w_cj rfl rfl (fun h_55 => ?_) (fun h_55 => ?_)
    · refine w_cst (v := .int 0) rfl rfl ?_
      refine w_sin rfl rfl rfl (rfl) (by omega) rfl ?_
      refine w_inc (y := _ + 1) rfl rfl rfl ?_
      refine w_norm (L' := [(0, _), (1, _), (2, _), (3, _), (4, _)]) rfl ?_
      refine w_go rfl ?_
      rw [nI_1]
      refine ih hlt _ (Fm_up (by decide) (by decide) hF) (fun t ht => ?_)
      by_cases q : t = s
      · subst q
        rw [up2_e]
        first
          | exact (if_pos ((nI_e0 (by omega)).mp (Classical.not_not.mp h_55))).symm
          | exact (if_neg (fun w => h_55 (by rw [w]; rfl))).symm
      · rw [up2_k q]
        exact hr t (by omega)
    · refine w_cst (v := .int 1) rfl rfl ?_
      refine w_go rfl ?_
      refine w_sin rfl rfl rfl (rfl) (by omega) rfl ?_
      refine w_inc (y := _ + 1) rfl rfl rfl ?_
      refine w_norm (L' := [(0, _), (1, _), (2, _), (3, _), (4, _)]) rfl ?_
      refine w_go rfl ?_
      rw [nI_1]
      refine ih hlt _ (Fm_up (by decide) (by decide) hF) (fun t ht => ?_)
      by_cases q : t = s
      · subst q
        rw [up2_e]
        first
          | exact (if_pos ((nI_e0 (by omega)).mp (Classical.not_not.mp h_55))).symm
          | exact (if_neg (fun w => h_55 (by rw [w]; rfl))).symm
      · rw [up2_k q]
        exact hr t (by omega)

theorem wh_dec {y : Int32} {n : Nat} : wh y n = decide (0 ≤ y ∧ y ≤ nI n) := rfl

set_option maxHeartbeats 1000000 in
set_option maxRecDepth 10000 in
theorem ok_X12_words {d : Nat} {M : Mm} {ML : Ml} {N E A : Nat} {l h : Nat → Nat} (hS : NM M N E A l h) (hW : WN N E A l h) {x y : Int32} : EX (d + 5) k_X12_words [.ref 73, .int x, .int y] M ML (fun r M2 L2 => r = some (.int (bif inR x (2 ^ E) && wh y 1 then (if y = 0 then lwA (cmB E l h x) N else owS (cmB E l h x) N (2 ^ N) (2 ^ N - 1)) else -1)) ∧ L2 = ML ∧ Fm [96] [] M M2) := by
  refine EX_in mi_X12_words rfl rfl ?_
  show WP _ cd_X12_words false _ (0, [(0, .ref 73), (1, .int x), (2, .int y)], [], (SH, M, ML))
  refine w_ld rfl rfl ?_
  refine w_ld rfl rfl ?_
  refine w_cife (as := [_, _]) (rest := []) rfl rfl rfl rfl rfl rfl rfl rfl (ok_X12_isArrowing _ _ _ _ hS.2.1 hW.2.2.1) rfl (fun h_2 => ?_) (fun h_2 => ?_)
  · refine w_cst (v := .int (-1)) rfl rfl ?_
    refine w_ret rfl rfl (trivial) ?_
    refine ⟨?_, rfl, Fm_rf⟩
    first
      | (rw [h_2]; rfl)
      | (rw [h_2, show wh y 1 = false from h_11]; rfl)
  · refine w_ld rfl rfl ?_
    refine w_cst (v := .int 0) rfl rfl ?_
    refine w_cst (v := .int 1) rfl rfl ?_
    refine w_cifn (as := [_, _, _]) (rest := []) rfl rfl rfl rfl rfl rfl rfl rfl (ok_X12_in ..) rfl (fun h_11 => ?_) (fun h_11 => ?_)
    · refine w_ld rfl rfl ?_
      refine w_cj rfl rfl (fun h_20 => ?_) (fun h_20 => ?_)
      · have hy1 : ¬ y = 0 := h_20
        refine w_cst (v := .int 1) rfl rfl ?_
        refine w_ld rfl rfl ?_
        refine w_getv rfl rfl rfl rfl rfl (hS.1) ?_
        skip
        refine w_bin rfl rfl ?_
        refine w_cst (v := .int 1) rfl rfl ?_
        rw [shl1 (by have := hW.2.1; omega)]
        refine w_bin rfl rfl ?_
        rw [show (1 : Int32) = nI 1 from rfl, pk_sub (Nat.two_pow_pos N)]
        refine w_sto (L' := [(0, _), (1, _), (2, _), (3, _)]) rfl rfl ?_
        refine w_cst (v := .int 0) rfl rfl ?_
        refine w_sto (L' := [(0, _), (1, _), (2, _), (3, _), (4, _)]) rfl rfl ?_
        rw [h_2, show wh y 1 = true from h_11]
        show WP _ _ _ (fun r M2 L2 => r = some (Value.int (if y = 0 then _ else _)) ∧ _) _
        rw [if_neg hy1]
        exact lp_X12_words_41 hS hW 0 (Nat.zero_le _) M Fm_rf (fun t ht => absurd ht (Nat.not_lt_zero t))
      · refine w_ld rfl rfl ?_
        refine w_ld rfl rfl ?_
        refine w_call (as := [_, _]) (rest := []) rfl rfl rfl rfl rfl rfl rfl rfl (EX_ex (ok_X12_leastWord hS hW)) ?_
        refine w_ret rfl rfl (trivial) ?_
        refine ⟨?_, rfl, Fm_rf⟩
        rw [h_2, show wh y 1 = true from h_11, Classical.not_not.mp h_20]
        exact rfl
    · refine w_cst (v := .int (-1)) rfl rfl ?_
      refine w_ret rfl rfl (trivial) ?_
      refine ⟨?_, rfl, Fm_rf⟩
      first
        | (rw [h_2]; rfl)
        | (rw [h_2, show wh y 1 = false from h_11]; rfl)

