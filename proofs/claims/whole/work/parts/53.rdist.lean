/-! ===== the search of the reference, its calls ===== -/
set_option maxHeartbeats 1000000 in
set_option maxRecDepth 10000 in
theorem lp_X12_spreads_60 {d : Nat} {M : Mm} {ML : Ml} {N E A : Nat} {l h : Nat → Nat} (hS : NM M N E A l h) (hW : WN N E A l h) {s : Bool} {a : Nat} (ha : a < 2 ^ E) {i : Nat} {p : Nat × Nat} (hp : (bfs (gF E l h s) (tF E l h) N a i)[i]? = some p) (hk : ∀ M9, Fm [92, 93] [] M M9 → BQ M9 92 93 (2 ^ E) (bvis (gF E l h s) (tF E l h) p (bfs (gF E l h s) (tF E l h) N a i) N) → WP (d + 3) cd_X12_spreads false (fun r M2 L2 => r = none ∧ L2 = ML ∧ Fm [92, 93] [] M M2 ∧ BQ M2 92 93 (2 ^ E) (srch N E l h s a)) (42, [(0, .ref 73), (1, .int (nI a)), (2, .int (b2i s)), (3, .int (nI (bvis (gF E l h s) (tF E l h) p (bfs (gF E l h s) (tF E l h) N a i) N).length)), (4, .int (nI (i + 1)))], [], (SH, M9, ML))) : ∀ v, v ≤ N → ∀ M', Fm [92, 93] [] M M' → BQ M' 92 93 (2 ^ E) (bvis (gF E l h s) (tF E l h) p (bfs (gF E l h s) (tF E l h) N a i) v) →  WP (d + 3) cd_X12_spreads false (fun r M2 L2 => r = none ∧ L2 = ML ∧ Fm [92, 93] [] M M2 ∧ BQ M2 92 93 (2 ^ E) (srch N E l h s a)) (60, [(0, .ref 73), (1, .int (nI a)), (2, .int (b2i s)), (3, .int (nI (bvis (gF E l h s) (tF E l h) p (bfs (gF E l h s) (tF E l h) N a i) v).length)), (4, .int (nI i)), (5, .int (nI p.1)), (6, .int (nI v))], [], (SH, M', ML)) := by
  have hN7 := hW.2.1
  have hE10 := hW.2.2.1
  have h1024 := pow_b hE10
  have ht : ∀ x u, x < 2 ^ E → u < N → tF E l h x u < 2 ^ E := fun _ _ hx _ => tF_lt hx
  refine up_ind fun v hv ih => ?_
  intro M' hF hB
  have hS' := NM_Fm hS hF (by decide) (by decide)
  obtain ⟨hI, hpv, -⟩ := Iv_vis ht (bfs_Iv ht ha i) hp v hv
  have hlen := Iv_len hI
  have hbp := hI.2.1 i p hpv
  have hil := (List.getElem?_eq_some_iff.mp hpv).1
  refine w_ld rfl rfl ?_
  refine w_ld rfl rfl ?_
  refine w_getv rfl rfl rfl rfl rfl (hS'.1) ?_
  refine w_cj rfl rfl (fun h_66 => ?_) (fun h_66 => ?_)
  · have h9 : v = N := by have := nle (by omega) (by omega) h_66; omega
    subst h9
    refine w_inc (y := _ + 1) rfl rfl rfl ?_
    refine w_norm (L' := [(0, _), (1, _), (2, _), (3, _), (4, _), (5, _), (6, _)]) rfl ?_
    refine w_go rfl ?_
    refine w_keep [0, 1, 2, 3, 4] (L' := [(0, _), (1, _), (2, _), (3, _), (4, _)]) rfl ?_
    rw [nI_1]
    exact hk _ hF hB
  · have hlt : v < N := nnle (by omega) (by omega) h_66
    have htl : p.1 ^^^ tmk E l h v < 2 ^ E := tF_lt (l := l) (h := h) (v := v) hbp.1
    refine w_ld rfl rfl ?_
    refine w_ld rfl rfl ?_
    refine w_ld rfl rfl ?_
    refine w_call (as := [_, _]) (rest := [_]) rfl rfl rfl rfl rfl rfl rfl rfl (ok_X12_edgesOf _ _ _ (by omega) hS' hW) ?_
    refine w_bin rfl rfl ?_
    rw [xorN]
    refine w_sto (L' := [(0, _), (1, _), (2, _), (3, _), (4, _), (5, _), (6, _), (7, _)]) rfl rfl ?_
    refine w_ld rfl rfl ?_
    refine w_ld rfl rfl ?_
    refine w_ld rfl rfl ?_
    refine w_ld rfl rfl ?_
    refine w_cife (as := [_, _, _, _]) (rest := []) rfl rfl rfl rfl rfl rfl rfl rfl (ok_X12_isEnd _ _ _ (by omega) hS' hW) rfl (fun h_86 => ?_) (fun h_86 => ?_)
    · refine w_inc (y := _ + 1) rfl rfl rfl ?_
      refine w_norm (L' := [(0, _), (1, _), (2, _), (3, _), (4, _), (5, _), (6, _), (7, _)]) rfl ?_
      refine w_go rfl ?_
      refine w_keep [0, 1, 2, 3, 4, 5, 6] (L' := [(0, _), (1, _), (2, _), (3, _), (4, _), (5, _), (6, _)]) rfl ?_
      first
        | (have hng : ¬ gF E l h s p.1 v = true := fun w => by rw [show gF E l h s p.1 v = false from h_86] at w; exact Bool.noConfusion w
           have hp9 := ih hlt _ hF
           rw [bvis_n (fun w => hng w.1)] at hp9
           rw [nI_1]
           exact hp9 hB)
        | (have hsm : ¬ dl (bvis (gF E l h s) (tF E l h) p (bfs (gF E l h s) (tF E l h) N a i) v) (tF E l h p.1 v) = none := fun w => absurd ((dI_neg (fun d hd => by have := (Iv_d hI hd).2; omega)).mpr w) (nlt0.mpr h_99)
           have hp9 := ih hlt _ hF
           rw [bvis_n (fun w => hsm w.2)] at hp9
           rw [nI_1]
           exact hp9 hB)
        | (have hp9 := ih hlt (up2 (up2 M' 92 (p.1 ^^^ tmk E l h v) (nI (p.2 + 1))) 93 (bvis (gF E l h s) (tF E l h) p (bfs (gF E l h s) (tF E l h) N a i) v).length (nI (p.1 ^^^ tmk E l h v))) (Fm_up (by decide) (by decide) (Fm_up (by decide) (by decide) hF))
           rw [bvis_y hgv hn, List.length_append] at hp9
           rw [nI_1, nI_1]
           refine hp9 (BQ_new (by decide) hB hn (fun k hk => ?_) ?_ (fun b hb => ?_) ?_)
           · rw [up2_k hk, up2_row (by decide)]
           · rw [up2_e]
             rfl
           · have hb' : b ≠ p.1 ^^^ tmk E l h v := hb
             rw [up2_row (by decide), up2_k hb']
           · rw [up2_row (by decide)]
             exact up2_e)
    · have hgv : gF E l h s p.1 v = true := h_86
      have hstep := Iv_step ht hI hpv hlt (L2 := bvis (gF E l h s) (tF E l h) p (bfs (gF E l h s) (tF E l h) N a i) (v + 1)) rfl
      have hlen2 := Iv_len hstep.1
      refine w_ld rfl rfl ?_
      refine w_getr rfl rfl rfl rfl rfl ?_
      refine w_ld rfl rfl ?_
      refine w_aiv rfl rfl rfl (rfl) (by omega) rfl (hB.2 _ htl) ?_
      refine w_cj rfl rfl (fun h_99 => ?_) (fun h_99 => ?_)
      · refine w_inc (y := _ + 1) rfl rfl rfl ?_
        refine w_norm (L' := [(0, _), (1, _), (2, _), (3, _), (4, _), (5, _), (6, _), (7, _)]) rfl ?_
        refine w_go rfl ?_
        refine w_keep [0, 1, 2, 3, 4, 5, 6] (L' := [(0, _), (1, _), (2, _), (3, _), (4, _), (5, _), (6, _)]) rfl ?_
        first
          | (have hng : ¬ gF E l h s p.1 v = true := fun w => by rw [show gF E l h s p.1 v = false from h_86] at w; exact Bool.noConfusion w
             have hp9 := ih hlt _ hF
             rw [bvis_n (fun w => hng w.1)] at hp9
             rw [nI_1]
             exact hp9 hB)
          | (have hsm : ¬ dl (bvis (gF E l h s) (tF E l h) p (bfs (gF E l h s) (tF E l h) N a i) v) (tF E l h p.1 v) = none := fun w => absurd ((dI_neg (fun d hd => by have := (Iv_d hI hd).2; omega)).mpr w) (nlt0.mpr h_99)
             have hp9 := ih hlt _ hF
             rw [bvis_n (fun w => hsm w.2)] at hp9
             rw [nI_1]
             exact hp9 hB)
          | (have hp9 := ih hlt (up2 (up2 M' 92 (p.1 ^^^ tmk E l h v) (nI (p.2 + 1))) 93 (bvis (gF E l h s) (tF E l h) p (bfs (gF E l h s) (tF E l h) N a i) v).length (nI (p.1 ^^^ tmk E l h v))) (Fm_up (by decide) (by decide) (Fm_up (by decide) (by decide) hF))
             rw [bvis_y hgv hn, List.length_append] at hp9
             rw [nI_1, nI_1]
             refine hp9 (BQ_new (by decide) hB hn (fun k hk => ?_) ?_ (fun b hb => ?_) ?_)
             · rw [up2_k hk, up2_row (by decide)]
             · rw [up2_e]
               rfl
             · have hb' : b ≠ p.1 ^^^ tmk E l h v := hb
               rw [up2_row (by decide), up2_k hb']
             · rw [up2_row (by decide)]
               exact up2_e)
      · have hn : dl (bvis (gF E l h s) (tF E l h) p (bfs (gF E l h s) (tF E l h) N a i) v) (p.1 ^^^ tmk E l h v) = none := (dI_neg (fun d hd => by have := (Iv_d hI hd).2; omega)).mp (nle_lt.mp h_99)
        rw [bvis_y hgv hn, List.length_append] at hlen2
        have hlen3 : (bvis (gF E l h s) (tF E l h) p (bfs (gF E l h s) (tF E l h) N a i) v).length < 2 ^ E := by
          have : ([(tF E l h p.1 v, p.2 + 1)] : BL).length = 1 := rfl
          omega
        refine w_ld rfl rfl ?_
        refine w_getr rfl rfl rfl rfl rfl ?_
        refine w_ld rfl rfl ?_
        refine w_ld rfl rfl ?_
        refine w_getr rfl rfl rfl rfl rfl ?_
        refine w_ld rfl rfl ?_
        refine w_aiv rfl rfl rfl (rfl) (by omega) rfl (Eq.trans (hB.2 _ hbp.1) (show dI (dl _ p.1) = nI p.2 from by rw [hbp.2.2.2]; rfl)) ?_
        refine w_cst (v := .int 1) rfl rfl ?_
        refine w_bin rfl rfl ?_
        rw [nI_1]
        refine w_sin rfl rfl rfl (rfl) (by omega) rfl ?_
        refine w_ld rfl rfl ?_
        refine w_getr rfl rfl rfl rfl rfl ?_
        refine w_ld rfl rfl ?_
        refine w_ld rfl rfl ?_
        refine w_sin rfl rfl rfl (rfl) (by omega) rfl ?_
        refine w_inc (y := _ + 1) rfl rfl rfl ?_
        refine w_norm (L' := [(0, _), (1, _), (2, _), (3, _), (4, _), (5, _), (6, _), (7, _)]) rfl ?_
        refine w_inc (y := _ + 1) rfl rfl rfl ?_
        refine w_norm (L' := [(0, _), (1, _), (2, _), (3, _), (4, _), (5, _), (6, _), (7, _)]) rfl ?_
        refine w_go rfl ?_
        refine w_keep [0, 1, 2, 3, 4, 5, 6] (L' := [(0, _), (1, _), (2, _), (3, _), (4, _), (5, _), (6, _)]) rfl ?_
        first
          | (have hng : ¬ gF E l h s p.1 v = true := fun w => by rw [show gF E l h s p.1 v = false from h_86] at w; exact Bool.noConfusion w
             have hp9 := ih hlt _ hF
             rw [bvis_n (fun w => hng w.1)] at hp9
             rw [nI_1]
             exact hp9 hB)
          | (have hsm : ¬ dl (bvis (gF E l h s) (tF E l h) p (bfs (gF E l h s) (tF E l h) N a i) v) (tF E l h p.1 v) = none := fun w => absurd ((dI_neg (fun d hd => by have := (Iv_d hI hd).2; omega)).mpr w) (nlt0.mpr h_99)
             have hp9 := ih hlt _ hF
             rw [bvis_n (fun w => hsm w.2)] at hp9
             rw [nI_1]
             exact hp9 hB)
          | (have hp9 := ih hlt (up2 (up2 M' 92 (p.1 ^^^ tmk E l h v) (nI (p.2 + 1))) 93 (bvis (gF E l h s) (tF E l h) p (bfs (gF E l h s) (tF E l h) N a i) v).length (nI (p.1 ^^^ tmk E l h v))) (Fm_up (by decide) (by decide) (Fm_up (by decide) (by decide) hF))
             rw [bvis_y hgv hn, List.length_append] at hp9
             rw [nI_1, nI_1]
             refine hp9 (BQ_new (by decide) hB hn (fun k hk => ?_) ?_ (fun b hb => ?_) ?_)
             · rw [up2_k hk, up2_row (by decide)]
             · rw [up2_e]
               rfl
             · have hb' : b ≠ p.1 ^^^ tmk E l h v := hb
               rw [up2_row (by decide), up2_k hb']
             · rw [up2_row (by decide)]
               exact up2_e)

set_option maxHeartbeats 1000000 in
set_option maxRecDepth 10000 in
theorem lp_X12_spreads_42 {d : Nat} {M : Mm} {ML : Ml} {N E A : Nat} {l h : Nat → Nat} (hS : NM M N E A l h) (hW : WN N E A l h) {s : Bool} {a : Nat} (ha : a < 2 ^ E) : ∀ i, i ≤ 2 ^ E → i ≤ (bfs (gF E l h s) (tF E l h) N a i).length → ∀ M', Fm [92, 93] [] M M' → BQ M' 92 93 (2 ^ E) (bfs (gF E l h s) (tF E l h) N a i) → WP (d + 3) cd_X12_spreads false (fun r M2 L2 => r = none ∧ L2 = ML ∧ Fm [92, 93] [] M M2 ∧ BQ M2 92 93 (2 ^ E) (srch N E l h s a)) (42, [(0, .ref 73), (1, .int (nI a)), (2, .int (b2i s)), (3, .int (nI (bfs (gF E l h s) (tF E l h) N a i).length)), (4, .int (nI i))], [], (SH, M', ML)) := by
  have hN7 := hW.2.1
  have hE10 := hW.2.2.1
  have h1024 := pow_b hE10
  have ht : ∀ x u, x < 2 ^ E → u < N → tF E l h x u < 2 ^ E := fun _ _ hx _ => tF_lt hx
  refine up_ind fun i hi ih => ?_
  intro hil M' hF hB
  have hI := bfs_Iv (g := (gF E l h s)) ht ha i
  have hlen := Iv_len hI
  refine w_ld rfl rfl ?_
  refine w_ld rfl rfl ?_
  refine w_cj rfl rfl (fun h_45 => ?_) (fun h_45 => ?_)
  · have h9 : (bfs (gF E l h s) (tF E l h) N a i).length ≤ i := nle (by omega) (by omega) h_45
    have hE := bfsE_of (g := (gF E l h s)) (n := 2 ^ E) hi (List.getElem?_eq_none h9)
    refine w_ret rfl rfl (trivial) ?_
    rw [hE] at hB
    exact ⟨rfl, rfl, hF, hB⟩
  · have hlt : i < (bfs (gF E l h s) (tF E l h) N a i).length := nnle (by omega) (by omega) h_45
    have ⟨p, hp⟩ : ∃ p, (bfs (gF E l h s) (tF E l h) N a i)[i]? = some p := ⟨_, List.getElem?_eq_getElem hlt⟩
    have hbp := hI.2.1 i p hp
    refine w_ld rfl rfl ?_
    refine w_getr rfl rfl rfl rfl rfl ?_
    refine w_ld rfl rfl ?_
    refine w_aiv rfl rfl rfl (rfl) (by omega) rfl (hB.1 i p hp) ?_
    refine w_sto (L' := [(0, _), (1, _), (2, _), (3, _), (4, _), (5, _)]) rfl rfl ?_
    refine w_cst (v := .int 0) rfl rfl ?_
    refine w_sto (L' := [(0, _), (1, _), (2, _), (3, _), (4, _), (5, _), (6, _)]) rfl rfl ?_
    refine lp_X12_spreads_60 hS hW ha hp (fun M9 hF9 hB9 => ?_) 0 (Nat.zero_le _) M' hF hB
    have e := bfs_s hp
    have hp9 := ih (by omega) ?_ M9 hF9 (by rw [e]; exact hB9)
    · rw [e] at hp9
      exact hp9
    · rw [e]
      have := (Iv_vis ht hI hp N (Nat.le_refl _)).2.2
      omega

set_option maxHeartbeats 1000000 in
set_option maxRecDepth 10000 in
theorem lp_X12_spreads_2 {d : Nat} {M : Mm} {ML : Ml} {N E A : Nat} {l h : Nat → Nat} (hS : NM M N E A l h) (hW : WN N E A l h) {s : Bool} {a : Nat} (ha : a < 2 ^ E) : ∀ e, e ≤ 2 ^ E → ∀ M', Fm [92, 93] [] M M' → (∀ b, b < e → M' 92 b = -1) → WP (d + 3) cd_X12_spreads false (fun r M2 L2 => r = none ∧ L2 = ML ∧ Fm [92, 93] [] M M2 ∧ BQ M2 92 93 (2 ^ E) (srch N E l h s a)) (2, [(0, .ref 73), (1, .int (nI a)), (2, .int (b2i s)), (3, .int (nI e))], [], (SH, M', ML)) := by
  have hN7 := hW.2.1
  have hE10 := hW.2.2.1
  have h1024 := pow_b hE10
  have ht : ∀ x u, x < 2 ^ E → u < N → tF E l h x u < 2 ^ E := fun _ _ hx _ => tF_lt hx
  refine up_ind fun e he ih => ?_
  intro M' hF hB
  have hS' := NM_Fm hS hF (by decide) (by decide)
  refine w_ld rfl rfl ?_
  refine w_ld rfl rfl ?_
  refine w_call (as := [_]) (rest := [_]) rfl rfl rfl rfl rfl rfl rfl rfl (ok_X12_all _ _ _ hS'.2.1 hE10) ?_
  refine w_cj rfl rfl (fun h_7 => ?_) (fun h_7 => ?_)
  · have h9 : e = 2 ^ E := by have := nle (by omega) (by omega) h_7; omega
    subst h9
    refine w_ld rfl rfl ?_
    refine w_getr rfl rfl rfl rfl rfl ?_
    refine w_ld rfl rfl ?_
    refine w_cst (v := .int 0) rfl rfl ?_
    refine w_sin rfl rfl rfl (rfl) (by omega) rfl ?_
    refine w_ld rfl rfl ?_
    refine w_getr rfl rfl rfl rfl rfl ?_
    refine w_cst (v := .int 0) rfl rfl ?_
    refine w_ld rfl rfl ?_
    refine w_sin rfl rfl rfl (rfl) (by decide) rfl ?_
    refine w_cst (v := .int 1) rfl rfl ?_
    refine w_sto (L' := [(0, _), (1, _), (2, _), (3, _)]) rfl rfl ?_
    refine w_cst (v := .int 0) rfl rfl ?_
    refine w_sto (L' := [(0, _), (1, _), (2, _), (3, _), (4, _)]) rfl rfl ?_
    refine lp_X12_spreads_42 hS hW ha 0 (Nat.zero_le _) (Nat.zero_le _) _ (Fm_up (by decide) (by decide) (Fm_up (by decide) (by decide) hF)) ⟨fun k p hk => ?_, fun b hb => ?_⟩
    · match k with
      | 0 => rw [← Option.some.inj hk]; exact up2_e
      | k + 1 => cases hk
    · rw [up2_row (by decide)]
      show _ = dI (if a = b then some 0 else none)
      by_cases q : a = b
      · rw [if_pos q, ← q]
        exact up2_e
      · rw [if_neg q, up2_k (fun w => q w.symm)]
        exact hB b hb
  · have hlt : e < 2 ^ E := nnle (by omega) (by omega) h_7
    refine w_ld rfl rfl ?_
    refine w_getr rfl rfl rfl rfl rfl ?_
    refine w_ld rfl rfl ?_
    refine w_cst (v := .int (-1)) rfl rfl ?_
    refine w_sin rfl rfl rfl (rfl) (by omega) rfl ?_
    refine w_inc (y := _ + 1) rfl rfl rfl ?_
    refine w_norm (L' := [(0, _), (1, _), (2, _), (3, _)]) rfl ?_
    refine w_go rfl ?_
    rw [nI_1]
    refine ih hlt _ (Fm_up (by decide) (by decide) hF) (fun b hb => ?_)
    by_cases q : b = e
    · rw [q, up2_e]
    · rw [up2_k q]
      exact hB b (by omega)

set_option maxHeartbeats 1000000 in
set_option maxRecDepth 10000 in
theorem ok_X12_spreads {d : Nat} {M : Mm} {ML : Ml} {N E A : Nat} {l h : Nat → Nat} (hS : NM M N E A l h) (hW : WN N E A l h) {s : Bool} {a : Nat} (ha : a < 2 ^ E) : EX (d + 4) k_X12_spreads [.ref 73, .int (nI a), .int (b2i s)] M ML (fun r M2 L2 => r = none ∧ L2 = ML ∧ Fm [92, 93] [] M M2 ∧ BQ M2 92 93 (2 ^ E) (srch N E l h s a)) := by
  refine EX_in mi_X12_spreads rfl rfl ?_
  show WP _ cd_X12_spreads false _ (0, [(0, .ref 73), (1, .int (nI a)), (2, .int (b2i s))], [], (SH, M, ML))
  refine w_cst (v := .int 0) rfl rfl ?_
  refine w_sto (L' := [(0, _), (1, _), (2, _), (3, _)]) rfl rfl ?_
  exact lp_X12_spreads_2 hS hW ha 0 (Nat.zero_le _) M Fm_rf (fun b hb => absurd hb (Nat.not_lt_zero b))

set_option maxHeartbeats 1000000 in
set_option maxRecDepth 10000 in
theorem ok_X12_distance {d : Nat} {M : Mm} {ML : Ml} {N E A : Nat} {l h : Nat → Nat} (hS : NM M N E A l h) (hW : WN N E A l h) {x y : Int32} : EX (d + 5) k_X12_distance [.ref 73, .int x, .int y] M ML (fun r M2 L2 => r = some (.int (distA N E l h x y)) ∧ L2 = ML ∧ Fm [92, 93] [] M M2) := by
  refine EX_in mi_X12_distance rfl rfl ?_
  show WP _ cd_X12_distance false _ (0, [(0, .ref 73), (1, .int x), (2, .int y)], [], (SH, M, ML))
  have hE10 := hW.2.2.1
  have hN7 := hW.2.1
  have h1024 := pow_b hE10
  refine w_ld rfl rfl ?_
  refine w_ld rfl rfl ?_
  refine w_cife (as := [_, _]) (rest := []) rfl rfl rfl rfl rfl rfl rfl rfl (ok_X12_isArrowing _ _ _ _ hS.2.1 hW.2.2.1) rfl (fun h_2 => ?_) (fun h_2 => ?_)
  · refine w_cst (v := .int (-1)) rfl rfl ?_
    refine w_ret rfl rfl (trivial) ?_
    refine ⟨?_, rfl, Fm_rf⟩
    unfold distA
    first
      | (rw [h_2]; rfl)
      | (rw [h_2, h_10]; rfl)
  · refine w_ld rfl rfl ?_
    refine w_ld rfl rfl ?_
    refine w_cifn (as := [_, _]) (rest := []) rfl rfl rfl rfl rfl rfl rfl rfl (ok_X12_isArrowing _ _ _ _ hS.2.1 hW.2.2.1) rfl (fun h_10 => ?_) (fun h_10 => ?_)
    · obtain ⟨a, ha, rfl⟩ := inR_ex (by omega) h_2
      obtain ⟨b, hb, rfl⟩ := inR_ex (by omega) h_10
      have hd := fun c d q => (srch_d (N := N) (l := l) (h := h) (s := true) ha hE10 (b := c) (d := d) q).2
      refine w_ld rfl rfl ?_
      refine w_ld rfl rfl ?_
      refine w_cst (v := .int 1) rfl rfl ?_
      obtain ⟨_, M3, L3, ⟨rfl, rfl, hF, hB⟩, hE21⟩ := ok_X12_spreads (d := d) (ML := ML) (M := M) (s := true) hS hW ha
      refine w_callv (as := [_, _, _]) (rest := []) rfl rfl rfl rfl rfl rfl rfl rfl hE21 ?_
      refine w_ld rfl rfl ?_
      refine w_getr rfl rfl rfl rfl rfl ?_
      refine w_ld rfl rfl ?_
      refine w_aiv rfl rfl rfl (rfl) (by omega) rfl (hB.2 _ hb) ?_
      refine w_cj rfl rfl (fun h_30 => ?_) (fun h_30 => ?_)
      · refine w_ld rfl rfl ?_
        refine w_getr rfl rfl rfl rfl rfl ?_
        refine w_ld rfl rfl ?_
        refine w_aiv rfl rfl rfl (rfl) (by omega) rfl (hB.2 _ hb) ?_
        refine w_ret rfl rfl (trivial) ?_
        refine ⟨?_, rfl, hF⟩
        unfold distA
        rw [h_2, h_10, nI_clamp (by omega), nI_clamp (by omega), ← srch_dist hW ha hb]
        cases hq : dl (srch N E l h true a) b with
        | none => first | rfl | (rw [hq] at h_30; exact absurd h_30 (by decide))
        | some d => first | rfl | (rw [hq] at h_30; have := hd _ _ hq; exact absurd (nI_pos' (by omega)) h_30)
      · refine w_cst (v := .int (-2)) rfl rfl ?_
        refine w_go rfl ?_
        refine w_ret rfl rfl (trivial) ?_
        refine ⟨?_, rfl, hF⟩
        unfold distA
        rw [h_2, h_10, nI_clamp (by omega), nI_clamp (by omega), ← srch_dist hW ha hb]
        cases hq : dl (srch N E l h true a) b with
        | none => first | rfl | (rw [hq] at h_30; exact absurd h_30 (by decide))
        | some d => first | rfl | (rw [hq] at h_30; have := hd _ _ hq; exact absurd (nI_pos' (by omega)) h_30)
    · refine w_cst (v := .int (-1)) rfl rfl ?_
      refine w_ret rfl rfl (trivial) ?_
      refine ⟨?_, rfl, Fm_rf⟩
      unfold distA
      first
        | (rw [h_2]; rfl)
        | (rw [h_2, h_10]; rfl)

set_option maxHeartbeats 1000000 in
set_option maxRecDepth 10000 in
theorem lp_X12_step_26 {d : Nat} {M : Mm} {ML : Ml} {N E A : Nat} {l h : Nat → Nat} (hS : NM M N E A l h) (hW : WN N E A l h) {L : BL} (hB : BQ M 92 93 (2 ^ E) L) (hd : ∀ c d, dl L c = some d → d < 1024) {a : Nat} (ha : a < 2 ^ E) {y : Int32} : ∀ e, e ≤ N → (∀ d1, dl L a = some (d1 + 1) → ∀ j, j < e → stpP E l h L a d1 j = false) → WP (d + 4) cd_X12_step false (fun r M2 L2 => r = some (.int (stpA N E l h L a)) ∧ L2 = ML ∧ M2 = M) (26, [(0, .ref 73), (1, .int (nI a)), (2, .int y), (3, .int (nI e))], [], (SH, M, ML)) := by
  have hE10 := hW.2.2.1
  have hN7 := hW.2.1
  have h1024 := pow_b hE10
  refine up_ind fun e he ih => ?_
  intro hj
  refine w_ld rfl rfl ?_
  refine w_ld rfl rfl ?_
  refine w_getv rfl rfl rfl rfl rfl (hS.1) ?_
  refine w_cj rfl rfl (fun h_31 => ?_) (fun h_31 => ?_)
  · refine w_cst (v := .int (-2)) rfl rfl ?_
    refine w_ret rfl rfl (trivial) ?_
    refine ⟨?_, rfl, rfl⟩
    unfold stpA
    cases hq : dl L a with
    | none => rfl
    | some d =>
      cases d with
      | zero => rfl
      | succ d =>
        first
          | (have h9 : e = N := by have := nle (by omega) (by omega) h_31; omega
             show _ = some (Value.int (if _ then _ else _))
             rw [if_neg (fun w => ?_)]
             have h1 := fa_first_yes _ _ w
             rw [hj d hq _ (by omega)] at h1
             exact Bool.noConfusion h1)
          | (rw [hq] at h_40
             have := hd _ _ hq
             exact absurd (nI_lt (a := 0) (b := d + 1) (by omega) (by omega)) (Int32.not_lt.mpr h_40))
  · have hlt : e < N := nnle (by omega) (by omega) h_31
    have htl : a ^^^ tmk E l h e < 2 ^ E := tF_lt (l := l) (h := h) (v := e) ha
    refine w_ld rfl rfl ?_
    refine w_getr rfl rfl rfl rfl rfl ?_
    refine w_ld rfl rfl ?_
    refine w_aiv rfl rfl rfl (rfl) (by omega) rfl (hB.2 _ ha) ?_
    refine w_cj rfl rfl (fun h_40 => ?_) (fun h_40 => ?_)
    · refine w_cst (v := .int (-2)) rfl rfl ?_
      refine w_ret rfl rfl (trivial) ?_
      refine ⟨?_, rfl, rfl⟩
      unfold stpA
      cases hq : dl L a with
      | none => rfl
      | some d =>
        cases d with
        | zero => rfl
        | succ d =>
          first
            | (have h9 : e = N := by have := nle (by omega) (by omega) h_31; omega
               show _ = some (Value.int (if _ then _ else _))
               rw [if_neg (fun w => ?_)]
               have h1 := fa_first_yes _ _ w
               rw [hj d hq _ (by omega)] at h1
               exact Bool.noConfusion h1)
            | (rw [hq] at h_40
               have := hd _ _ hq
               exact absurd (nI_lt (a := 0) (b := d + 1) (by omega) (by omega)) (Int32.not_lt.mpr h_40))
    · obtain ⟨d1, hq, hd1⟩ : ∃ d1, dl L a = some (d1 + 1) ∧ d1 < 1024 := by
        cases hq : dl L a with
        | none => rw [hq] at h_40; exact absurd (show dI none ≤ 0 by decide) h_40
        | some d =>
          rw [hq] at h_40
          cases d with
          | zero => exact absurd (show dI (some 0) ≤ 0 by decide) h_40
          | succ d => exact ⟨d, rfl, by have := hd _ _ hq; omega⟩
      refine w_ld rfl rfl ?_
      refine w_ld rfl rfl ?_
      refine w_ld rfl rfl ?_
      refine w_cst (v := .int 1) rfl rfl ?_
      refine w_cife (as := [_, _, _, _]) (rest := []) rfl rfl rfl rfl rfl rfl rfl rfl (ok_X12_isEnd (s := true) _ _ _ (by omega) hS hW) rfl (fun h_47 => ?_) (fun h_47 => ?_)
      · have hno : stpP E l h L a d1 e = false := by
          unfold stpP
          first
            | (rw [show gF E l h true a e = false from h_47]
               rfl)
            | (show (_ && decide (dl L (a ^^^ tmk E l h e) = some d1)) = false
               rw [decide_eq_false (fun q => h_73 ((dI_eq (fun d w => by have := hd _ _ w; omega) (by omega)).mpr q)), Bool.and_false])
        refine w_inc (y := _ + 1) rfl rfl rfl ?_
        refine w_norm (L' := [(0, _), (1, _), (2, _), (3, _)]) rfl ?_
        refine w_go rfl ?_
        rw [nI_1]
        refine ih hlt (fun d2 hq2 j hw => ?_)
        rw [hq] at hq2
        have e2 : d1 = d2 := by have := Option.some.inj hq2; omega
        subst e2
        rcases Nat.lt_or_ge j e with w | w
        · exact hj d1 hq j w
        · have : j = e := by omega
          subst this
          exact hno
      · refine w_ld rfl rfl ?_
        refine w_getr rfl rfl rfl rfl rfl ?_
        refine w_ld rfl rfl ?_
        refine w_ld rfl rfl ?_
        refine w_ld rfl rfl ?_
        refine w_call (as := [_, _]) (rest := [_, _]) rfl rfl rfl rfl rfl rfl rfl rfl (ok_X12_edgesOf _ _ _ (by omega) hS hW) ?_
        refine w_bin rfl rfl ?_
        rw [xorN]
        refine w_aiv rfl rfl rfl (rfl) (by omega) rfl (hB.2 _ htl) ?_
        refine w_ld rfl rfl ?_
        refine w_getr rfl rfl rfl rfl rfl ?_
        refine w_ld rfl rfl ?_
        refine w_aiv rfl rfl rfl (rfl) (by omega) rfl (hB.2 _ ha) ?_
        refine w_cst (v := .int 1) rfl rfl ?_
        refine w_bin rfl rfl ?_
        rw [show dI (dl L a) - 1 = nI d1 from by rw [hq]; exact nI_s1 d1]
        refine w_cj rfl rfl (fun h_73 => ?_) (fun h_73 => ?_)
        · have hno : stpP E l h L a d1 e = false := by
            unfold stpP
            first
              | (rw [show gF E l h true a e = false from h_47]
                 rfl)
              | (show (_ && decide (dl L (a ^^^ tmk E l h e) = some d1)) = false
                 rw [decide_eq_false (fun q => h_73 ((dI_eq (fun d w => by have := hd _ _ w; omega) (by omega)).mpr q)), Bool.and_false])
          refine w_inc (y := _ + 1) rfl rfl rfl ?_
          refine w_norm (L' := [(0, _), (1, _), (2, _), (3, _)]) rfl ?_
          refine w_go rfl ?_
          rw [nI_1]
          refine ih hlt (fun d2 hq2 j hw => ?_)
          rw [hq] at hq2
          have e2 : d1 = d2 := by have := Option.some.inj hq2; omega
          subst e2
          rcases Nat.lt_or_ge j e with w | w
          · exact hj d1 hq j w
          · have : j = e := by omega
            subst this
            exact hno
        · refine w_ld rfl rfl ?_
          refine w_ret rfl rfl (trivial) ?_
          refine ⟨?_, rfl, rfl⟩
          have hyes : stpP E l h L a d1 e = true := by
            unfold stpP
            rw [show gF E l h true a e = true from h_47, Bool.true_and]
            exact decide_eq_true ((dI_eq (fun d w => by have := hd _ _ w; omega) (by omega)).mp (Classical.not_not.mp h_73))
          unfold stpA
          rw [hq]
          show _ = some (Value.int (if _ then _ else _))
          rw [ff_eq hlt hyes (hj d1 hq), if_pos hlt]

set_option maxHeartbeats 1000000 in
set_option maxRecDepth 10000 in
theorem ok_X12_step {d : Nat} {M : Mm} {ML : Ml} {N E A : Nat} {l h : Nat → Nat} (hS : NM M N E A l h) (hW : WN N E A l h) {x y : Int32} : EX (d + 5) k_X12_step [.ref 73, .int x, .int y] M ML (fun r M2 L2 => r = some (.int (stepA N E l h x y)) ∧ L2 = ML ∧ Fm [92, 93] [] M M2) := by
  refine EX_in mi_X12_step rfl rfl ?_
  show WP _ cd_X12_step false _ (0, [(0, .ref 73), (1, .int x), (2, .int y)], [], (SH, M, ML))
  have hE10 := hW.2.2.1
  have hN7 := hW.2.1
  have h1024 := pow_b hE10
  refine w_ld rfl rfl ?_
  refine w_ld rfl rfl ?_
  refine w_cife (as := [_, _]) (rest := []) rfl rfl rfl rfl rfl rfl rfl rfl (ok_X12_isArrowing _ _ _ _ hS.2.1 hW.2.2.1) rfl (fun h_2 => ?_) (fun h_2 => ?_)
  · refine w_cst (v := .int (-1)) rfl rfl ?_
    refine w_ret rfl rfl (trivial) ?_
    refine ⟨?_, rfl, Fm_rf⟩
    unfold stepA
    first
      | (rw [h_2]; rfl)
      | (rw [h_2, h_10]; rfl)
  · refine w_ld rfl rfl ?_
    refine w_ld rfl rfl ?_
    refine w_cifn (as := [_, _]) (rest := []) rfl rfl rfl rfl rfl rfl rfl rfl (ok_X12_isArrowing _ _ _ _ hS.2.1 hW.2.2.1) rfl (fun h_10 => ?_) (fun h_10 => ?_)
    · obtain ⟨a, ha, rfl⟩ := inR_ex (by omega) h_2
      obtain ⟨b, hb, rfl⟩ := inR_ex (by omega) h_10
      have hd := fun c d q => (srch_d (N := N) (l := l) (h := h) (s := false) hb hE10 (b := c) (d := d) q).2
      refine w_ld rfl rfl ?_
      refine w_ld rfl rfl ?_
      refine w_cst (v := .int 0) rfl rfl ?_
      obtain ⟨_, M3, L3, ⟨rfl, rfl, hF, hB⟩, hE21⟩ := ok_X12_spreads (d := d) (ML := ML) (M := M) (s := false) hS hW hb
      refine w_callv (as := [_, _, _]) (rest := []) rfl rfl rfl rfl rfl rfl rfl rfl hE21 ?_
      refine w_cst (v := .int 0) rfl rfl ?_
      refine w_sto (L' := [(0, _), (1, _), (2, _), (3, _)]) rfl rfl ?_
      unfold stepA
      rw [h_2, h_10, nI_clamp (by omega), nI_clamp (by omega)]
      exact WP_mono (lp_X12_step_26 (NM_Fm hS hF (by decide) (by decide)) hW hB hd ha 0 (Nat.zero_le _) (fun _ _ j hj => absurd hj (Nat.not_lt_zero j))) (fun r M2 L2 q => ⟨q.1, q.2.1, by rw [q.2.2]; exact hF⟩)
    · refine w_cst (v := .int (-1)) rfl rfl ?_
      refine w_ret rfl rfl (trivial) ?_
      refine ⟨?_, rfl, Fm_rf⟩
      unfold stepA
      first
        | (rw [h_2]; rfl)
        | (rw [h_2, h_10]; rfl)

/-- the best of a and those below e -/
def fbP (L : BL) (a e b : Nat) : Prop := ∃ m, dl L b = some m ∧ (∀ c d, (c = a ∨ c < e) → dl L c = some d → d ≤ m) ∧ ∀ c, (c = a ∨ c < e) → dl L c = some m → b ≤ c
theorem fbP_0 {L : BL} {a : Nat} {d : Nat} (h : dl L a = some d) : fbP L a 0 a := ⟨d, h, fun c e hc he => by
  have : c = a := by omega
  subst this
  rw [h] at he
  rw [Option.some.inj he]
  exact Nat.le_refl _, fun c hc _ => by omega⟩
theorem fbP_y {L : BL} {a e b m : Nat} (h : fbP L a e b) (hm : dl L b = some m) {d : Nat} (hd : dl L e = some d) (hb : m < d ∨ (d = m ∧ e < b)) : fbP L a (e + 1) e := by
  obtain ⟨m2, h1, h2, h3⟩ := h
  rw [hm] at h1
  have : m = m2 := Option.some.inj h1
  subst this
  refine ⟨d, hd, fun c x hc hx => ?_, fun c hc hx => ?_⟩
  · by_cases q : c = e
    · subst q
      rw [hd] at hx
      rw [Option.some.inj hx]
      exact Nat.le_refl _
    · have := h2 c x (by omega) hx
      omega
  · by_cases q : c = e
    · omega
    · have r := h2 c d (by omega) hx
      rcases hb with w | ⟨w1, w2⟩
      · omega
      · rw [w1] at hx
        have := h3 c (by omega) hx
        omega
theorem fbP_n {L : BL} {a e b m : Nat} (h : fbP L a e b) (hm : dl L b = some m) (hb : ∀ d, dl L e = some d → ¬ (m < d ∨ (d = m ∧ e < b))) : fbP L a (e + 1) b := by
  obtain ⟨m2, h1, h2, h3⟩ := h
  rw [hm] at h1
  have : m = m2 := Option.some.inj h1
  subst this
  refine ⟨m, hm, fun c x hc hx => ?_, fun c hc hx => ?_⟩
  · by_cases q : c = e
    · subst q
      have := hb x hx
      omega
    · exact h2 c x (by omega) hx
  · by_cases q : c = e
    · subst q
      have := hb m hx
      omega
    · exact h3 c (by omega) hx
theorem fbP_end {L : BL} {a n b : Nat} (h : fbP L a n b) (hl : ∀ c d, dl L c = some d → c < n) : ∃ m, farP L m b := by
  obtain ⟨m, h1, h2, h3⟩ := h
  exact ⟨m, h1, fun c d hc => h2 c d (Or.inr (hl c d hc)) hc, fun c hc => h3 c (Or.inr (hl c m hc)) hc⟩
theorem dI_lt {x y : Option Nat} (hx : ∀ d, x = some d → d < 2 ^ 31) {m : Nat} (hy : y = some m) (hm : m < 2 ^ 31) : dI y < dI x ↔ ∃ d, x = some d ∧ m < d := by
  rw [hy]
  cases x with
  | none => exact ⟨fun q => absurd q (fun w => by
      have := Int32.lt_trans w (show (-1 : Int32) < 0 by decide)
      exact ne_m1 hm this), fun ⟨d, q, _⟩ => by cases q⟩
  | some d => exact ⟨fun q => ⟨d, rfl, nlt hm (hx d rfl) q⟩, fun ⟨d2, q1, q2⟩ => by rw [q1]; exact nI_lt q2 (hx d2 q1)⟩

theorem fbP_y1 {L : BL} {a e b m : Nat} (h : fbP L a e b) (hm : dl L b = some m) (hm9 : m < 2 ^ 31) (hd1 : ∀ d, dl L e = some d → d < 2 ^ 31) (hlt : dI (dl L b) < dI (dl L e)) : fbP L a (e + 1) e := by
  obtain ⟨d9, q1, q2⟩ := (dI_lt hd1 hm hm9).mp hlt
  exact fbP_y h hm q1 (Or.inl q2)

set_option maxHeartbeats 1000000 in
set_option maxRecDepth 10000 in
theorem lp_X12_far_30 {d : Nat} {M : Mm} {ML : Ml} {N E A : Nat} {l h : Nat → Nat} (hS : NM M N E A l h) (hW : WN N E A l h) {L : BL} (hB : BQ M 92 93 (2 ^ E) L) (hd : ∀ c d, dl L c = some d → c < 2 ^ E ∧ d < 1024) {a : Nat} {y : Int32} : ∀ e, e ≤ 2 ^ E → ∀ b, b < 2 ^ E → fbP L a e b → WP (d + 4) cd_X12_far false (fun r M2 L2 => ∃ m b9, farP L m b9 ∧ r = some (.int (if y = 0 then nI m else nI b9)) ∧ L2 = ML ∧ M2 = M) (30, [(0, .ref 73), (1, .int (nI a)), (2, .int y), (3, .int (nI b)), (4, .int (nI e))], [], (SH, M, ML)) := by
  have hE10 := hW.2.2.1
  have hN7 := hW.2.1
  have h1024 := pow_b hE10
  refine up_ind fun e he ih => ?_
  intro b hb hf
  have ⟨m, hm⟩ : ∃ m, dl L b = some m := ⟨_, hf.choose_spec.1⟩
  have hm9 := (hd _ _ hm).2
  have hd1 : ∀ d, dl L e = some d → d < 2 ^ 31 := fun d w => by have := (hd _ _ w).2; omega
  refine w_ld rfl rfl ?_
  refine w_ld rfl rfl ?_
  refine w_call (as := [_]) (rest := [_]) rfl rfl rfl rfl rfl rfl rfl rfl (ok_X12_all _ _ _ hS.2.1 hE10) ?_
  refine w_cj rfl rfl (fun h_36 => ?_) (fun h_36 => ?_)
  · have h9 : e = 2 ^ E := by have := nle (by omega) (by omega) h_36; omega
    rw [h9] at hf
    have ⟨m9, hfar⟩ := fbP_end hf (fun c d w => (hd c d w).1)
    have hmm : m9 = m := Option.some.inj (hfar.1.symm.trans hm)
    refine w_ld rfl rfl ?_
    refine w_cj rfl rfl (fun h_91 => ?_) (fun h_91 => ?_)
    · refine w_ld rfl rfl ?_
      refine w_ret rfl rfl (trivial) ?_
      first
        | exact ⟨m9, b, hfar, by rw [if_pos (Classical.not_not.mp h_91), hmm], rfl, rfl⟩
        | exact ⟨m9, b, hfar, by rw [if_neg h_91], rfl, rfl⟩
    · refine w_ld rfl rfl ?_
      refine w_getr rfl rfl rfl rfl rfl ?_
      refine w_ld rfl rfl ?_
      refine w_aiv rfl rfl rfl (rfl) (by omega) rfl (Eq.trans (hB.2 _ hb) (show dI (dl L b) = nI m from by rw [hm]; rfl)) ?_
      refine w_go rfl ?_
      refine w_ret rfl rfl (trivial) ?_
      first
        | exact ⟨m9, b, hfar, by rw [if_pos (Classical.not_not.mp h_91), hmm], rfl, rfl⟩
        | exact ⟨m9, b, hfar, by rw [if_neg h_91], rfl, rfl⟩
  · have hlt : e < 2 ^ E := nnle (by omega) (by omega) h_36
    refine w_ld rfl rfl ?_
    refine w_getr rfl rfl rfl rfl rfl ?_
    refine w_ld rfl rfl ?_
    refine w_aiv rfl rfl rfl (rfl) (by omega) rfl (hB.2 _ hlt) ?_
    refine w_ld rfl rfl ?_
    refine w_getr rfl rfl rfl rfl rfl ?_
    refine w_ld rfl rfl ?_
    refine w_aiv rfl rfl rfl (rfl) (by omega) rfl (hB.2 _ hb) ?_
    refine w_cj rfl rfl (fun h_52 => ?_) (fun h_52 => ?_)
    · refine w_ld rfl rfl ?_
      refine w_go rfl ?_
      refine w_sto (L' := [(0, _), (1, _), (2, _), (3, _), (4, _)]) rfl rfl ?_
      refine w_inc (y := _ + 1) rfl rfl rfl ?_
      refine w_norm (L' := [(0, _), (1, _), (2, _), (3, _), (4, _)]) rfl ?_
      refine w_go rfl ?_
      rw [nI_1]
      first
        | exact ih hlt e hlt (fbP_y1 hf hm (by omega) hd1 h_52)
        | (refine ih hlt b hb (fbP_n hf hm (fun d9 w q => ?_))
           rcases q with q | ⟨q1, q2⟩
           · exact h_52 ((dI_lt hd1 hm (by omega)).mpr ⟨d9, w, q⟩)
           · first
               | exact absurd (nle (by omega) (by omega) h_74) (by omega)
               | exact h_68 (by rw [w, hm, q1]))
        | (have e2 : dl L e = some m := (dI_eq hd1 (by omega)).mp ((Classical.not_not.mp h_68).trans (congrArg dI hm))
           exact ih hlt e hlt (fbP_y hf hm e2 (Or.inr ⟨rfl, nnle (by omega) (by omega) h_74⟩)))
    · refine w_ld rfl rfl ?_
      refine w_getr rfl rfl rfl rfl rfl ?_
      refine w_ld rfl rfl ?_
      refine w_aiv rfl rfl rfl (rfl) (by omega) rfl (hB.2 _ hlt) ?_
      refine w_ld rfl rfl ?_
      refine w_getr rfl rfl rfl rfl rfl ?_
      refine w_ld rfl rfl ?_
      refine w_aiv rfl rfl rfl (rfl) (by omega) rfl (hB.2 _ hb) ?_
      refine w_cj rfl rfl (fun h_68 => ?_) (fun h_68 => ?_)
      · refine w_ld rfl rfl ?_
        refine w_sto (L' := [(0, _), (1, _), (2, _), (3, _), (4, _)]) rfl rfl ?_
        refine w_inc (y := _ + 1) rfl rfl rfl ?_
        refine w_norm (L' := [(0, _), (1, _), (2, _), (3, _), (4, _)]) rfl ?_
        refine w_go rfl ?_
        rw [nI_1]
        first
          | exact ih hlt e hlt (fbP_y1 hf hm (by omega) hd1 h_52)
          | (refine ih hlt b hb (fbP_n hf hm (fun d9 w q => ?_))
             rcases q with q | ⟨q1, q2⟩
             · exact h_52 ((dI_lt hd1 hm (by omega)).mpr ⟨d9, w, q⟩)
             · first
                 | exact absurd (nle (by omega) (by omega) h_74) (by omega)
                 | exact h_68 (by rw [w, hm, q1]))
          | (have e2 : dl L e = some m := (dI_eq hd1 (by omega)).mp ((Classical.not_not.mp h_68).trans (congrArg dI hm))
             exact ih hlt e hlt (fbP_y hf hm e2 (Or.inr ⟨rfl, nnle (by omega) (by omega) h_74⟩)))
      · refine w_ld rfl rfl ?_
        refine w_ld rfl rfl ?_
        refine w_cj rfl rfl (fun h_74 => ?_) (fun h_74 => ?_)
        · refine w_ld rfl rfl ?_
          refine w_sto (L' := [(0, _), (1, _), (2, _), (3, _), (4, _)]) rfl rfl ?_
          refine w_inc (y := _ + 1) rfl rfl rfl ?_
          refine w_norm (L' := [(0, _), (1, _), (2, _), (3, _), (4, _)]) rfl ?_
          refine w_go rfl ?_
          rw [nI_1]
          first
            | exact ih hlt e hlt (fbP_y1 hf hm (by omega) hd1 h_52)
            | (refine ih hlt b hb (fbP_n hf hm (fun d9 w q => ?_))
               rcases q with q | ⟨q1, q2⟩
               · exact h_52 ((dI_lt hd1 hm (by omega)).mpr ⟨d9, w, q⟩)
               · first
                   | exact absurd (nle (by omega) (by omega) h_74) (by omega)
                   | exact h_68 (by rw [w, hm, q1]))
            | (have e2 : dl L e = some m := (dI_eq hd1 (by omega)).mp ((Classical.not_not.mp h_68).trans (congrArg dI hm))
               exact ih hlt e hlt (fbP_y hf hm e2 (Or.inr ⟨rfl, nnle (by omega) (by omega) h_74⟩)))
        · refine w_ld rfl rfl ?_
          refine w_go rfl ?_
          refine w_sto (L' := [(0, _), (1, _), (2, _), (3, _), (4, _)]) rfl rfl ?_
          refine w_inc (y := _ + 1) rfl rfl rfl ?_
          refine w_norm (L' := [(0, _), (1, _), (2, _), (3, _), (4, _)]) rfl ?_
          refine w_go rfl ?_
          rw [nI_1]
          first
            | exact ih hlt e hlt (fbP_y1 hf hm (by omega) hd1 h_52)
            | (refine ih hlt b hb (fbP_n hf hm (fun d9 w q => ?_))
               rcases q with q | ⟨q1, q2⟩
               · exact h_52 ((dI_lt hd1 hm (by omega)).mpr ⟨d9, w, q⟩)
               · first
                   | exact absurd (nle (by omega) (by omega) h_74) (by omega)
                   | exact h_68 (by rw [w, hm, q1]))
            | (have e2 : dl L e = some m := (dI_eq hd1 (by omega)).mp ((Classical.not_not.mp h_68).trans (congrArg dI hm))
               exact ih hlt e hlt (fbP_y hf hm e2 (Or.inr ⟨rfl, nnle (by omega) (by omega) h_74⟩)))

set_option maxHeartbeats 1000000 in
set_option maxRecDepth 10000 in
theorem ok_X12_far {d : Nat} {M : Mm} {ML : Ml} {N E A : Nat} {l h : Nat → Nat} (hS : NM M N E A l h) (hW : WN N E A l h) {x y : Int32} : EX (d + 5) k_X12_far [.ref 73, .int x, .int y] M ML (fun r M2 L2 => r = some (.int (farA N E l h x y)) ∧ L2 = ML ∧ Fm [92, 93] [] M M2) := by
  refine EX_in mi_X12_far rfl rfl ?_
  show WP _ cd_X12_far false _ (0, [(0, .ref 73), (1, .int x), (2, .int y)], [], (SH, M, ML))
  have hE10 := hW.2.2.1
  have hN7 := hW.2.1
  have h1024 := pow_b hE10
  refine w_ld rfl rfl ?_
  refine w_ld rfl rfl ?_
  refine w_cife (as := [_, _]) (rest := []) rfl rfl rfl rfl rfl rfl rfl rfl (ok_X12_isArrowing _ _ _ _ hS.2.1 hW.2.2.1) rfl (fun h_2 => ?_) (fun h_2 => ?_)
  · refine w_cst (v := .int (-1)) rfl rfl ?_
    refine w_ret rfl rfl (trivial) ?_
    refine ⟨?_, rfl, Fm_rf⟩
    unfold farA
    first
      | (rw [h_2]; rfl)
      | (rw [h_2, show wh y 1 = false from h_11]; rfl)
  · refine w_ld rfl rfl ?_
    refine w_cst (v := .int 0) rfl rfl ?_
    refine w_cst (v := .int 1) rfl rfl ?_
    refine w_cifn (as := [_, _, _]) (rest := []) rfl rfl rfl rfl rfl rfl rfl rfl (ok_X12_in ..) rfl (fun h_11 => ?_) (fun h_11 => ?_)
    · obtain ⟨a, ha, rfl⟩ := inR_ex (by omega) h_2
      have hd := fun c d q => (srch_d (N := N) (l := l) (h := h) (s := true) ha hE10 (b := c) (d := d) q)
      have hI := srch_Iv (N := N) (l := l) (h := h) (s := true) ha
      refine w_ld rfl rfl ?_
      refine w_ld rfl rfl ?_
      refine w_cst (v := .int 1) rfl rfl ?_
      obtain ⟨_, M3, L3, ⟨rfl, rfl, hF, hB⟩, hE22⟩ := ok_X12_spreads (d := d) (ML := ML) (M := M) (s := true) hS hW ha
      refine w_callv (as := [_, _, _]) (rest := []) rfl rfl rfl rfl rfl rfl rfl rfl hE22 ?_
      refine w_ld rfl rfl ?_
      refine w_sto (L' := [(0, _), (1, _), (2, _), (3, _)]) rfl rfl ?_
      refine w_cst (v := .int 0) rfl rfl ?_
      refine w_sto (L' := [(0, _), (1, _), (2, _), (3, _), (4, _)]) rfl rfl ?_
      unfold farA
      rw [h_2, show wh y 1 = true from h_11, nI_clamp (by omega)]
      refine WP_mono (lp_X12_far_30 (y := y) (NM_Fm hS hF (by decide) (by decide)) hW hB hd 0 (Nat.zero_le _) a ha (fbP_0 hI.1)) (fun r M2 L2 q => ?_)
      obtain ⟨m, b, q1, q2, q3, q4⟩ := q
      refine ⟨?_, q3, by rw [q4]; exact hF⟩
      rw [q2, farV_of q1]
      rfl
    · refine w_cst (v := .int (-1)) rfl rfl ?_
      refine w_ret rfl rfl (trivial) ?_
      refine ⟨?_, rfl, Fm_rf⟩
      unfold farA
      first
        | (rw [h_2]; rfl)
        | (rw [h_2, show wh y 1 = false from h_11]; rfl)

def tI (o : Option Nat) : Int32 := match o with
  | some m => nI (m + 1)
  | none => -2

set_option maxHeartbeats 1000000 in
set_option maxRecDepth 10000 in
theorem lp_X12_trip_21 {d : Nat} {M : Mm} {ML : Ml} {N E A : Nat} {l h : Nat → Nat} (hS : NM M N E A l h) (hW : WN N E A l h) {L : BL} (hB : BQ M 92 93 (2 ^ E) L) (hd : ∀ c d, dl L c = some d → d < 1024) {a : Nat} (ha : a < 2 ^ E) : ∀ e, e ≤ N → WP (d + 4) cd_X12_trip false (fun r M2 L2 => r = some (.int (tI (trO E l h L a N))) ∧ L2 = ML ∧ M2 = M) (21, [(0, .ref 73), (1, .int (nI a)), (2, .int (tI (trO E l h L a e))), (3, .int (nI e))], [], (SH, M, ML)) := by
  have hE10 := hW.2.2.1
  have hN7 := hW.2.1
  have h1024 := pow_b hE10
  refine up_ind fun e he ih => ?_
  have hm := trO_lt (E := E) (l := l) (h := h) (x := a) hd e
  refine w_ld rfl rfl ?_
  refine w_ld rfl rfl ?_
  refine w_getv rfl rfl rfl rfl rfl (hS.1) ?_
  refine w_cj rfl rfl (fun h_26 => ?_) (fun h_26 => ?_)
  · have h9 : e = N := by have := nle (by omega) (by omega) h_26; omega
    subst h9
    refine w_ld rfl rfl ?_
    refine w_ret rfl rfl (trivial) ?_
    exact ⟨rfl, rfl, rfl⟩
  · have hlt : e < N := nnle (by omega) (by omega) h_26
    have htl : a ^^^ tmk E l h e < 2 ^ E := tF_lt (l := l) (h := h) (v := e) ha
    refine w_ld rfl rfl ?_
    refine w_getr rfl rfl rfl rfl rfl ?_
    refine w_ld rfl rfl ?_
    refine w_ld rfl rfl ?_
    refine w_ld rfl rfl ?_
    refine w_call (as := [_, _]) (rest := [_, _]) rfl rfl rfl rfl rfl rfl rfl rfl (ok_X12_edgesOf _ _ _ (by omega) hS hW) ?_
    refine w_bin rfl rfl ?_
    rw [xorN]
    refine w_aiv rfl rfl rfl (rfl) (by omega) rfl (hB.2 _ htl) ?_
    refine w_sto (L' := [(0, _), (1, _), (2, _), (3, _), (4, _)]) rfl rfl ?_
    refine w_ld rfl rfl ?_
    refine w_ld rfl rfl ?_
    refine w_ld rfl rfl ?_
    refine w_cst (v := .int 1) rfl rfl ?_
    refine w_cife (as := [_, _, _, _]) (rest := []) rfl rfl rfl rfl rfl rfl rfl rfl (ok_X12_isEnd (s := true) _ _ _ (by omega) hS hW) rfl (fun h_47 => ?_) (fun h_47 => ?_)
    · refine w_inc (y := _ + 1) rfl rfl rfl ?_
      refine w_norm (L' := [(0, _), (1, _), (2, _), (3, _), (4, _)]) rfl ?_
      refine w_go rfl ?_
      refine w_keep [0, 1, 2, 3] (L' := [(0, _), (1, _), (2, _), (3, _)]) rfl ?_
      have hp := ih hlt
      rw [nI_1 e]
      first
        | (have hg : ¬ gF E l h true a e = true := fun w => by rw [show gF E l h true a e = false from h_47] at w; exact Bool.noConfusion w
           rw [trO, if_neg hg] at hp
           exact hp)
        | (have hg : gF E l h true a e = true := h_47
           rw [trO, if_pos hg] at hp
           have hv : dl L (tF E l h a e) = dl L (a ^^^ tmk E l h e) := rfl
           rw [hv] at hp
           cases h1 : dl L (a ^^^ tmk E l h e) with
           | none =>
             rw [h1] at hp
             try rw [h1] at h_55
             first
               | exact hp
               | exact absurd (show dI none < 0 by decide) h_55
           | some d9 =>
             have hd1 := hd _ _ h1
             cases h2 : trO E l h L a e with
             | none =>
               rw [h1, h2] at hp
               try rw [h1] at h_55
               try rw [h2] at h_59
               first
                 | exact absurd h_55 (ne_m1 (by omega))
                 | exact absurd (show tI none < 0 by decide) h_59
                 | exact hp
                 | (rw [show dI (some d9) + 1 = nI (d9 + 1) from nI_1 d9]
                    exact hp)
             | some m =>
               have hm1 := hm _ h2
               rw [h1, h2] at hp
               try rw [h1] at h_55
               try rw [h2] at h_59
               try rw [h1, h2, show dI (some d9) + 1 = nI (d9 + 1) from nI_1 d9] at h_67
               first
                 | exact absurd h_55 (ne_m1 (by omega))
                 | exact absurd h_59 (ne_m1 (by omega))
                 | (rw [show mrg (some d9) (some m) = some m from if_neg (by have := nle (by omega) (by omega) h_67; omega)] at hp
                    exact hp)
                 | (rw [show mrg (some d9) (some m) = some d9 from if_pos (by have := nnle (by omega) (by omega) h_67; omega)] at hp
                    rw [show dI (some d9) + 1 = nI (d9 + 1) from nI_1 d9]
                    exact hp))
    · refine w_ld rfl rfl ?_
      refine w_cj rfl rfl (fun h_55 => ?_) (fun h_55 => ?_)
      · refine w_inc (y := _ + 1) rfl rfl rfl ?_
        refine w_norm (L' := [(0, _), (1, _), (2, _), (3, _), (4, _)]) rfl ?_
        refine w_go rfl ?_
        refine w_keep [0, 1, 2, 3] (L' := [(0, _), (1, _), (2, _), (3, _)]) rfl ?_
        have hp := ih hlt
        rw [nI_1 e]
        first
          | (have hg : ¬ gF E l h true a e = true := fun w => by rw [show gF E l h true a e = false from h_47] at w; exact Bool.noConfusion w
             rw [trO, if_neg hg] at hp
             exact hp)
          | (have hg : gF E l h true a e = true := h_47
             rw [trO, if_pos hg] at hp
             have hv : dl L (tF E l h a e) = dl L (a ^^^ tmk E l h e) := rfl
             rw [hv] at hp
             cases h1 : dl L (a ^^^ tmk E l h e) with
             | none =>
               rw [h1] at hp
               try rw [h1] at h_55
               first
                 | exact hp
                 | exact absurd (show dI none < 0 by decide) h_55
             | some d9 =>
               have hd1 := hd _ _ h1
               cases h2 : trO E l h L a e with
               | none =>
                 rw [h1, h2] at hp
                 try rw [h1] at h_55
                 try rw [h2] at h_59
                 first
                   | exact absurd h_55 (ne_m1 (by omega))
                   | exact absurd (show tI none < 0 by decide) h_59
                   | exact hp
                   | (rw [show dI (some d9) + 1 = nI (d9 + 1) from nI_1 d9]
                      exact hp)
               | some m =>
                 have hm1 := hm _ h2
                 rw [h1, h2] at hp
                 try rw [h1] at h_55
                 try rw [h2] at h_59
                 try rw [h1, h2, show dI (some d9) + 1 = nI (d9 + 1) from nI_1 d9] at h_67
                 first
                   | exact absurd h_55 (ne_m1 (by omega))
                   | exact absurd h_59 (ne_m1 (by omega))
                   | (rw [show mrg (some d9) (some m) = some m from if_neg (by have := nle (by omega) (by omega) h_67; omega)] at hp
                      exact hp)
                   | (rw [show mrg (some d9) (some m) = some d9 from if_pos (by have := nnle (by omega) (by omega) h_67; omega)] at hp
                      rw [show dI (some d9) + 1 = nI (d9 + 1) from nI_1 d9]
                      exact hp))
      · refine w_ld rfl rfl ?_
        refine w_cj rfl rfl (fun h_59 => ?_) (fun h_59 => ?_)
        · refine w_ld rfl rfl ?_
          refine w_cst (v := .int 1) rfl rfl ?_
          refine w_bin rfl rfl ?_
          refine w_sto (L' := [(0, _), (1, _), (2, _), (3, _), (4, _)]) rfl rfl ?_
          refine w_inc (y := _ + 1) rfl rfl rfl ?_
          refine w_norm (L' := [(0, _), (1, _), (2, _), (3, _), (4, _)]) rfl ?_
          refine w_go rfl ?_
          refine w_keep [0, 1, 2, 3] (L' := [(0, _), (1, _), (2, _), (3, _)]) rfl ?_
          have hp := ih hlt
          rw [nI_1 e]
          first
            | (have hg : ¬ gF E l h true a e = true := fun w => by rw [show gF E l h true a e = false from h_47] at w; exact Bool.noConfusion w
               rw [trO, if_neg hg] at hp
               exact hp)
            | (have hg : gF E l h true a e = true := h_47
               rw [trO, if_pos hg] at hp
               have hv : dl L (tF E l h a e) = dl L (a ^^^ tmk E l h e) := rfl
               rw [hv] at hp
               cases h1 : dl L (a ^^^ tmk E l h e) with
               | none =>
                 rw [h1] at hp
                 try rw [h1] at h_55
                 first
                   | exact hp
                   | exact absurd (show dI none < 0 by decide) h_55
               | some d9 =>
                 have hd1 := hd _ _ h1
                 cases h2 : trO E l h L a e with
                 | none =>
                   rw [h1, h2] at hp
                   try rw [h1] at h_55
                   try rw [h2] at h_59
                   first
                     | exact absurd h_55 (ne_m1 (by omega))
                     | exact absurd (show tI none < 0 by decide) h_59
                     | exact hp
                     | (rw [show dI (some d9) + 1 = nI (d9 + 1) from nI_1 d9]
                        exact hp)
                 | some m =>
                   have hm1 := hm _ h2
                   rw [h1, h2] at hp
                   try rw [h1] at h_55
                   try rw [h2] at h_59
                   try rw [h1, h2, show dI (some d9) + 1 = nI (d9 + 1) from nI_1 d9] at h_67
                   first
                     | exact absurd h_55 (ne_m1 (by omega))
                     | exact absurd h_59 (ne_m1 (by omega))
                     | (rw [show mrg (some d9) (some m) = some m from if_neg (by have := nle (by omega) (by omega) h_67; omega)] at hp
                        exact hp)
                     | (rw [show mrg (some d9) (some m) = some d9 from if_pos (by have := nnle (by omega) (by omega) h_67; omega)] at hp
                        rw [show dI (some d9) + 1 = nI (d9 + 1) from nI_1 d9]
                        exact hp))
        · refine w_ld rfl rfl ?_
          refine w_cst (v := .int 1) rfl rfl ?_
          refine w_bin rfl rfl ?_
          refine w_ld rfl rfl ?_
          refine w_cj rfl rfl (fun h_67 => ?_) (fun h_67 => ?_)
          · refine w_inc (y := _ + 1) rfl rfl rfl ?_
            refine w_norm (L' := [(0, _), (1, _), (2, _), (3, _), (4, _)]) rfl ?_
            refine w_go rfl ?_
            refine w_keep [0, 1, 2, 3] (L' := [(0, _), (1, _), (2, _), (3, _)]) rfl ?_
            have hp := ih hlt
            rw [nI_1 e]
            first
              | (have hg : ¬ gF E l h true a e = true := fun w => by rw [show gF E l h true a e = false from h_47] at w; exact Bool.noConfusion w
                 rw [trO, if_neg hg] at hp
                 exact hp)
              | (have hg : gF E l h true a e = true := h_47
                 rw [trO, if_pos hg] at hp
                 have hv : dl L (tF E l h a e) = dl L (a ^^^ tmk E l h e) := rfl
                 rw [hv] at hp
                 cases h1 : dl L (a ^^^ tmk E l h e) with
                 | none =>
                   rw [h1] at hp
                   try rw [h1] at h_55
                   first
                     | exact hp
                     | exact absurd (show dI none < 0 by decide) h_55
                 | some d9 =>
                   have hd1 := hd _ _ h1
                   cases h2 : trO E l h L a e with
                   | none =>
                     rw [h1, h2] at hp
                     try rw [h1] at h_55
                     try rw [h2] at h_59
                     first
                       | exact absurd h_55 (ne_m1 (by omega))
                       | exact absurd (show tI none < 0 by decide) h_59
                       | exact hp
                       | (rw [show dI (some d9) + 1 = nI (d9 + 1) from nI_1 d9]
                          exact hp)
                   | some m =>
                     have hm1 := hm _ h2
                     rw [h1, h2] at hp
                     try rw [h1] at h_55
                     try rw [h2] at h_59
                     try rw [h1, h2, show dI (some d9) + 1 = nI (d9 + 1) from nI_1 d9] at h_67
                     first
                       | exact absurd h_55 (ne_m1 (by omega))
                       | exact absurd h_59 (ne_m1 (by omega))
                       | (rw [show mrg (some d9) (some m) = some m from if_neg (by have := nle (by omega) (by omega) h_67; omega)] at hp
                          exact hp)
                       | (rw [show mrg (some d9) (some m) = some d9 from if_pos (by have := nnle (by omega) (by omega) h_67; omega)] at hp
                          rw [show dI (some d9) + 1 = nI (d9 + 1) from nI_1 d9]
                          exact hp))
          · refine w_ld rfl rfl ?_
            refine w_cst (v := .int 1) rfl rfl ?_
            refine w_bin rfl rfl ?_
            refine w_sto (L' := [(0, _), (1, _), (2, _), (3, _), (4, _)]) rfl rfl ?_
            refine w_inc (y := _ + 1) rfl rfl rfl ?_
            refine w_norm (L' := [(0, _), (1, _), (2, _), (3, _), (4, _)]) rfl ?_
            refine w_go rfl ?_
            refine w_keep [0, 1, 2, 3] (L' := [(0, _), (1, _), (2, _), (3, _)]) rfl ?_
            have hp := ih hlt
            rw [nI_1 e]
            first
              | (have hg : ¬ gF E l h true a e = true := fun w => by rw [show gF E l h true a e = false from h_47] at w; exact Bool.noConfusion w
                 rw [trO, if_neg hg] at hp
                 exact hp)
              | (have hg : gF E l h true a e = true := h_47
                 rw [trO, if_pos hg] at hp
                 have hv : dl L (tF E l h a e) = dl L (a ^^^ tmk E l h e) := rfl
                 rw [hv] at hp
                 cases h1 : dl L (a ^^^ tmk E l h e) with
                 | none =>
                   rw [h1] at hp
                   try rw [h1] at h_55
                   first
                     | exact hp
                     | exact absurd (show dI none < 0 by decide) h_55
                 | some d9 =>
                   have hd1 := hd _ _ h1
                   cases h2 : trO E l h L a e with
                   | none =>
                     rw [h1, h2] at hp
                     try rw [h1] at h_55
                     try rw [h2] at h_59
                     first
                       | exact absurd h_55 (ne_m1 (by omega))
                       | exact absurd (show tI none < 0 by decide) h_59
                       | exact hp
                       | (rw [show dI (some d9) + 1 = nI (d9 + 1) from nI_1 d9]
                          exact hp)
                   | some m =>
                     have hm1 := hm _ h2
                     rw [h1, h2] at hp
                     try rw [h1] at h_55
                     try rw [h2] at h_59
                     try rw [h1, h2, show dI (some d9) + 1 = nI (d9 + 1) from nI_1 d9] at h_67
                     first
                       | exact absurd h_55 (ne_m1 (by omega))
                       | exact absurd h_59 (ne_m1 (by omega))
                       | (rw [show mrg (some d9) (some m) = some m from if_neg (by have := nle (by omega) (by omega) h_67; omega)] at hp
                          exact hp)
                       | (rw [show mrg (some d9) (some m) = some d9 from if_pos (by have := nnle (by omega) (by omega) h_67; omega)] at hp
                          rw [show dI (some d9) + 1 = nI (d9 + 1) from nI_1 d9]
                          exact hp))

set_option maxHeartbeats 1000000 in
set_option maxRecDepth 10000 in
theorem ok_X12_trip {d : Nat} {M : Mm} {ML : Ml} {N E A : Nat} {l h : Nat → Nat} (hS : NM M N E A l h) (hW : WN N E A l h) {x : Int32} : EX (d + 5) k_X12_trip [.ref 73, .int x] M ML (fun r M2 L2 => r = some (.int (tripA N E l h x)) ∧ L2 = ML ∧ Fm [92, 93] [] M M2) := by
  refine EX_in mi_X12_trip rfl rfl ?_
  show WP _ cd_X12_trip false _ (0, [(0, .ref 73), (1, .int x)], [], (SH, M, ML))
  have hE10 := hW.2.2.1
  have hN7 := hW.2.1
  have h1024 := pow_b hE10
  refine w_ld rfl rfl ?_
  refine w_ld rfl rfl ?_
  refine w_cifn (as := [_, _]) (rest := []) rfl rfl rfl rfl rfl rfl rfl rfl (ok_X12_isArrowing _ _ _ _ hS.2.1 hW.2.2.1) rfl (fun h_2 => ?_) (fun h_2 => ?_)
  · obtain ⟨a, ha, rfl⟩ := inR_ex (by omega) h_2
    have hd := fun c d q => (srch_d (N := N) (l := l) (h := h) (s := false) ha hE10 (b := c) (d := d) q).2
    refine w_ld rfl rfl ?_
    refine w_ld rfl rfl ?_
    refine w_cst (v := .int 0) rfl rfl ?_
    obtain ⟨_, M3, L3, ⟨rfl, rfl, hF, hB⟩, hE13⟩ := ok_X12_spreads (d := d) (ML := ML) (M := M) (s := false) hS hW ha
    refine w_callv (as := [_, _, _]) (rest := []) rfl rfl rfl rfl rfl rfl rfl rfl hE13 ?_
    refine w_cst (v := .int (-2)) rfl rfl ?_
    refine w_sto (L' := [(0, _), (1, _), (2, _)]) rfl rfl ?_
    refine w_cst (v := .int 0) rfl rfl ?_
    refine w_sto (L' := [(0, _), (1, _), (2, _), (3, _)]) rfl rfl ?_
    unfold tripA
    rw [h_2, nI_clamp (by omega)]
    exact WP_mono (lp_X12_trip_21 (NM_Fm hS hF (by decide) (by decide)) hW hB hd ha 0 (Nat.zero_le _)) (fun r M2 L2 q => ⟨q.1, q.2.1, by rw [q.2.2]; exact hF⟩)
  · refine w_cst (v := .int (-1)) rfl rfl ?_
    refine w_ret rfl rfl (trivial) ?_
    refine ⟨?_, rfl, Fm_rf⟩
    unfold tripA
    rw [h_2]
    exact rfl

