/-! ===== the search of the class ===== -/
def dI : Option Nat → Int32
  | none => -1
  | some d => nI d
theorem dI_neg {x : Option Nat} (h : ∀ d, x = some d → d < 2 ^ 31) : dI x < 0 ↔ x = none := by
  cases x with
  | none => exact ⟨fun _ => rfl, fun _ => by decide⟩
  | some d => exact ⟨fun q => absurd q (ne_m1 (h d rfl)), fun q => by cases q⟩
/-- a search in its rows: how far, in which order -/
def BQ (M : Mm) (fr qr n : Nat) (L : BL) : Prop := (∀ (k : Nat) (p : Nat × Nat), L[k]? = some p → M qr k = nI p.1) ∧ ∀ b, b < n → M fr b = dI (dl L b)
theorem BQ_new {M M2 : Mm} {fr qr n c d : Nat} {L : BL} (hne : fr ≠ qr) (h : BQ M fr qr n L) (hn : dl L c = none) (h1 : ∀ k, k ≠ L.length → M2 qr k = M qr k) (h2 : M2 qr L.length = nI c) (h3 : ∀ b, b ≠ c → M2 fr b = M fr b) (h4 : M2 fr c = nI d) : BQ M2 fr qr n (L ++ [(c, d)]) := by
  refine ⟨fun k p hp => ?_, fun b hb => ?_⟩
  · rcases get_app.mp hp with q | ⟨q1, q2⟩
    · have := (List.getElem?_eq_some_iff.mp q).1
      rw [h1 k (by omega)]
      exact h.1 k p q
    · rw [q1, q2, h2]
  · by_cases q : b = c
    · rw [q, h4, dl_new hn]
      rfl
    · rw [h3 b q, dl_oth q]
      exact h.2 b hb
theorem Iv_d {g : Nat → Nat → Bool} {t : Nat → Nat → Nat} {N a n i v : Nat} {L : BL} (h : Iv g t N a n i v L) {b d : Nat} (q : dl L b = some d) : b < n ∧ d < L.length := by
  obtain ⟨k, hk⟩ := dl_mem q
  have h1 := h.2.1 k _ hk
  have h2 := (List.getElem?_eq_some_iff.mp hk).1
  exact ⟨h1.1, Nat.lt_of_le_of_lt h1.2.1 h2⟩
theorem ends_bit {E : Nat} {l h : Nat → Nat} {x v : Nat} {s : Bool} (hv : v < 7) : (endsM E l h (nI x) s).testBit v = gF E l h s x v := by
  unfold endsM gF
  rw [msk_bit, decide_eq_true hv, Bool.true_and]
/-- the rows of a search between the calls -/
def WS (M : Mm) : Prop := ∃ L : BL, BQ M 35 36 1024 L ∧ M 34 2 = nI L.length ∧ L.length ≤ 1024 ∧ ∀ (k : Nat) (p : Nat × Nat), L[k]? = some p → p.1 < 1024

set_option maxHeartbeats 1000000 in
set_option maxRecDepth 10000 in
theorem ok_X9_see {d : Nat} {M : Mm} {ML : Ml} {L : BL} (hB : BQ M 35 36 1024 L) (hs : M 34 2 = nI L.length) {c d9 : Nat} (hc : c < 1024) (hl : dl L c = none → L.length < 1024) (hl2 : L.length ≤ 1024) (hd : ∀ d, dl L c = some d → d < 2 ^ 31) : EX (d + 2) k_X9_see [.ref 34, .int (nI c), .int (nI d9)] M ML (fun r M2 L2 => r = none ∧ L2 = ML ∧ Fr [34, 35, 36] M M2 ∧ ∃ K : BL, K = (if dl L c = none then L ++ [(c, d9)] else L) ∧ BQ M2 35 36 1024 K ∧ M2 34 2 = nI K.length) := by
  refine EX_in mi_X9_see rfl rfl ?_
  show WP _ cd_X9_see false _ (0, [(0, .ref 34), (1, .int (nI c)), (2, .int (nI d9))], [], (SH, M, ML))
  refine w_ld rfl rfl ?_
  refine w_getr rfl rfl rfl rfl rfl ?_
  refine w_ld rfl rfl ?_
  refine w_call (as := [_, _]) (rest := []) rfl rfl rfl rfl rfl rfl rfl rfl (ok_at_v _ _ _ rfl rfl rfl (rfl) (by omega) (hB.2 c hc)) ?_
  refine w_cj rfl rfl (fun h_8 => ?_) (fun h_8 => ?_)
  · refine w_ret rfl rfl (trivial) ?_
    first
      | (have hn : ¬ dl L c = none := fun q => absurd ((dI_neg hd).mpr q) (nlt0.mpr h_8)
         exact ⟨rfl, rfl, Fr_rf, L, (if_neg hn).symm, hB, hs⟩)
      | (refine ⟨rfl, rfl, Fr_up (by decide) (Fr_up (by decide) (Fr_up (by decide) Fr_rf)), _, (if_pos hn).symm, BQ_new (by decide) hB hn (fun k hk => ?_) ?_ (fun b hb => ?_) ?_, ?_⟩
         · rw [up2_row (by decide), up2_k hk, up2_row (by decide)]
         · rw [up2_row (by decide), up2_e]
         · rw [up2_row (by decide), up2_row (by decide), up2_k hb]
         · rw [up2_row (by decide), up2_row (by decide), up2_e]
         · rw [up2_e, List.length_append]
           exact nI_1 _)
  · have hn : dl L c = none := (dI_neg hd).mp (nle_lt.mp h_8)
    have hlt := hl hn
    refine w_ld rfl rfl ?_
    refine w_getv rfl rfl rfl rfl rfl (hs) ?_
    refine w_ld rfl rfl ?_
    refine w_getr rfl rfl rfl rfl rfl ?_
    refine w_len rfl rfl rfl rfl ?_
    refine w_cjF rfl rfl (fun q => absurd (nle (a := 1024) (by decide) (by omega) q) (by omega)) ?_
    refine w_ld rfl rfl ?_
    refine w_getr rfl rfl rfl rfl rfl ?_
    refine w_ld rfl rfl ?_
    refine w_ld rfl rfl ?_
    refine w_callv (as := [_, _, _]) (rest := []) rfl rfl rfl rfl rfl rfl rfl rfl (ok_lay_n _ _ _ _ _ rfl rfl rfl (rfl) (by omega)) ?_
    refine w_ld rfl rfl ?_
    refine w_getr rfl rfl rfl rfl rfl ?_
    refine w_ld rfl rfl ?_
    refine w_getv rfl rfl rfl rfl rfl (Eq.trans (by rw [up2_row (by decide)]) (hs)) ?_
    refine w_ld rfl rfl ?_
    refine w_sin rfl rfl rfl (rfl) (by omega) rfl ?_
    refine w_ld rfl rfl ?_
    refine w_stk rfl rfl ?_
    refine w_getv rfl rfl rfl rfl rfl (Eq.trans (by rw [up2_row (by decide), up2_row (by decide)]) (hs)) ?_
    refine w_cst (v := .int 1) rfl rfl ?_
    refine w_bin rfl rfl ?_
    refine w_put rfl rfl rfl rfl rfl (Or.inl rfl) ?_
    refine w_ret rfl rfl (trivial) ?_
    first
      | (have hn : ¬ dl L c = none := fun q => absurd ((dI_neg hd).mpr q) (nlt0.mpr h_8)
         exact ⟨rfl, rfl, Fr_rf, L, (if_neg hn).symm, hB, hs⟩)
      | (refine ⟨rfl, rfl, Fr_up (by decide) (Fr_up (by decide) (Fr_up (by decide) Fr_rf)), _, (if_pos hn).symm, BQ_new (by decide) hB hn (fun k hk => ?_) ?_ (fun b hb => ?_) ?_, ?_⟩
         · rw [up2_row (by decide), up2_k hk, up2_row (by decide)]
         · rw [up2_row (by decide), up2_e]
         · rw [up2_row (by decide), up2_row (by decide), up2_k hb]
         · rw [up2_row (by decide), up2_row (by decide), up2_e]
         · rw [up2_e, List.length_append]
           exact nI_1 _)

set_option maxHeartbeats 1000000 in
set_option maxRecDepth 10000 in
theorem lp_X9_search_103_On {d : Nat} {M : Mm} {ML : Ml} {N E A : Nat} {l h : Nat → Nat} (hS : NS M 2 3 4 5 6 N E A l h) (hW : WN N E A l h) {a : Nat} (ha : a < 2 ^ E) {i : Nat} {p : Nat × Nat} (hp : (bfs (gF E l h true) (tF E l h) N a i)[i]? = some p) (hk : ∀ M9, Fr [34, 35, 36] M M9 → BQ M9 35 36 1024 (bvis (gF E l h true) (tF E l h) p (bfs (gF E l h true) (tF E l h) N a i) N) → M9 34 2 = nI (bvis (gF E l h true) (tF E l h) p (bfs (gF E l h true) (tF E l h) N a i) N).length → WP (d + 2) cd_X9_search false (fun r M2 L2 => r = none ∧ L2 = ML ∧ Fr [34, 35, 36] M M2 ∧ BQ M2 35 36 1024 (srch N E l h true a) ∧ M2 34 2 = nI (srch N E l h true a).length) (49, [(0, .ref 34), (1, .ref 2), (2, .int (nI a)), (3, .int 0), (4, .int (nI (i + 1)))], [], (SH, M9, ML))) : ∀ v, v ≤ N → ∀ M', Fr [34, 35, 36] M M' → BQ M' 35 36 1024 (bvis (gF E l h true) (tF E l h) p (bfs (gF E l h true) (tF E l h) N a i) v) → M' 34 2 = nI (bvis (gF E l h true) (tF E l h) p (bfs (gF E l h true) (tF E l h) N a i) v).length →  WP (d + 2) cd_X9_search false (fun r M2 L2 => r = none ∧ L2 = ML ∧ Fr [34, 35, 36] M M2 ∧ BQ M2 35 36 1024 (srch N E l h true a) ∧ M2 34 2 = nI (srch N E l h true a).length) (103, [(0, .ref 34), (1, .ref 2), (2, .int (nI a)), (3, .int 0), (4, .int (nI i)), (5, .int (nI p.1)), (6, .int (nI (endsM E l h (nI p.1) true))), (7, .int (nI v))], [], (SH, M', ML)) := by
  have hN7 := hW.2.1
  have hE10 := hW.2.2.1
  have h1024 := pow_b hE10
  have ht : ∀ x u, x < 2 ^ E → u < N → tF E l h x u < 2 ^ E := fun _ _ hx _ => tF_lt hx
  refine up_ind fun v hv ih => ?_
  intro M' hF hB hs
  have hS' := NS_Fr hS hF (by decide)
  obtain ⟨hI, hpv, -⟩ := Iv_vis ht (bfs_Iv ht ha i) hp v hv
  have hlen := Iv_len hI
  have hbp := hI.2.1 i p hpv
  have hil := (List.getElem?_eq_some_iff.mp hpv).1
  refine w_ld rfl rfl ?_
  refine w_ld rfl rfl ?_
  refine w_getv rfl rfl rfl rfl rfl (hS'.1) ?_
  refine w_cj rfl rfl (fun h_109 => ?_) (fun h_109 => ?_)
  · have h9 : v = N := by have := nle (by omega) (by omega) h_109; omega
    subst h9
    refine w_inc (y := _ + 1) rfl rfl rfl ?_
    refine w_norm (L' := [(0, _), (1, _), (2, _), (3, _), (4, _), (5, _), (6, _), (7, _)]) rfl ?_
    refine w_go rfl ?_
    refine w_keep [0, 1, 2, 3, 4] (L' := [(0, _), (1, _), (2, _), (3, _), (4, _)]) rfl ?_
    rw [nI_1]
    exact hk _ hF hB hs
  · have hlt : v < N := nnle (by omega) (by omega) h_109
    have hrow := (hS'.2.2.2.2 v (by omega)).1
    have hev : endsM E l h (nI p.1) true < 2 ^ 31 := endsM_b
    refine w_ld rfl rfl ?_
    refine w_ld rfl rfl ?_
    refine w_cife (as := [_, _]) (rest := []) rfl rfl rfl rfl rfl rfl rfl rfl (ok_X11_isIn _ _ _ _ _) rfl (fun h_116 => ?_) (fun h_116 => ?_)
    · refine w_inc (y := _ + 1) rfl rfl rfl ?_
      refine w_norm (L' := [(0, _), (1, _), (2, _), (3, _), (4, _), (5, _), (6, _), (7, _)]) rfl ?_
      refine w_go rfl ?_
      rw [nI_1]
      first
        | (have hK2 : K = bvis (gF E l h true) (tF E l h) p (bfs (gF E l h true) (tF E l h) N a i) (v + 1) := by
             rw [hK]
             by_cases q : dl (bvis (gF E l h true) (tF E l h) p (bfs (gF E l h true) (tF E l h) N a i) v) (p.1 ^^^ tmk E l h v) = none
             · rw [if_pos q]
               exact (bvis_y hgv q).symm
             · rw [if_neg q]
               exact (bvis_n (fun w => q w.2)).symm
           rw [hK2] at hB2 hs2
           exact ih hlt _ (Fr_tr hF hF2) hB2 hs2)
        | (have hng : ¬ gF E l h true p.1 v = true := fun w => by rw [← ends_bit (by omega), ← tb_nI hev (by omega), h_116] at w; exact Bool.noConfusion w
           have e := bvis_n (g := (gF E l h true)) (t := (tF E l h)) (p := p) (L := bfs (gF E l h true) (tF E l h) N a i) (v := v) (fun w => hng w.1)
           exact ih hlt _ hF (by rw [e]; exact hB) (by rw [e]; exact hs))
    · refine w_ld rfl rfl ?_
      refine w_ld rfl rfl ?_
      refine w_ld rfl rfl ?_
      refine w_ld rfl rfl ?_
      refine w_call (as := [_, _, _]) (rest := [_]) rfl rfl rfl rfl rfl rfl rfl rfl (ok_X4_turned _ _ _ _ (by omega)) ?_
      rw [hrow, xorN]
      refine w_ld rfl rfl ?_
      refine w_getr rfl rfl rfl rfl rfl ?_
      refine w_ld rfl rfl ?_
      refine w_call (as := [_, _]) (rest := [_, _]) rfl rfl rfl rfl rfl rfl rfl rfl (ok_at_v _ _ _ rfl rfl rfl (rfl) (by omega) (Eq.trans (hB.2 _ (by omega)) (show dI (dl _ p.1) = nI p.2 from by rw [hbp.2.2.2]; rfl))) ?_
      refine w_cst (v := .int 1) rfl rfl ?_
      refine w_bin rfl rfl ?_
      rw [nI_1]
      have hgv : gF E l h true p.1 v = true := by rw [← ends_bit (by omega), ← tb_nI hev (by omega)]; exact h_116
      have hstep := Iv_step ht hI hpv hlt (L2 := bvis (gF E l h true) (tF E l h) p (bfs (gF E l h true) (tF E l h) N a i) (v + 1)) rfl
      have hlen2 := Iv_len hstep.1
      obtain ⟨_, M3, L3, ⟨rfl, rfl, hF2, K, hK, hB2, hs2⟩, hE142⟩ := ok_X9_see (d := d) (ML := ML) (c := p.1 ^^^ tmk E l h v) (d9 := p.2 + 1) hB hs (Nat.lt_of_lt_of_le (tF_lt (l := l) (h := h) (v := v) hbp.1) h1024) (fun q => by rw [bvis_y hgv q, List.length_append] at hlen2; have : ([(tF E l h p.1 v, p.2 + 1)] : BL).length = 1 := rfl; omega) (by omega) (fun d hd => by have := (Iv_d hI hd).2; omega)
      refine w_callv (as := [_, _, _]) (rest := []) rfl rfl rfl rfl rfl rfl rfl rfl hE142 ?_
      refine w_inc (y := _ + 1) rfl rfl rfl ?_
      refine w_norm (L' := [(0, _), (1, _), (2, _), (3, _), (4, _), (5, _), (6, _), (7, _)]) rfl ?_
      refine w_go rfl ?_
      rw [nI_1]
      first
        | (have hK2 : K = bvis (gF E l h true) (tF E l h) p (bfs (gF E l h true) (tF E l h) N a i) (v + 1) := by
             rw [hK]
             by_cases q : dl (bvis (gF E l h true) (tF E l h) p (bfs (gF E l h true) (tF E l h) N a i) v) (p.1 ^^^ tmk E l h v) = none
             · rw [if_pos q]
               exact (bvis_y hgv q).symm
             · rw [if_neg q]
               exact (bvis_n (fun w => q w.2)).symm
           rw [hK2] at hB2 hs2
           exact ih hlt _ (Fr_tr hF hF2) hB2 hs2)
        | (have hng : ¬ gF E l h true p.1 v = true := fun w => by rw [← ends_bit (by omega), ← tb_nI hev (by omega), h_116] at w; exact Bool.noConfusion w
           have e := bvis_n (g := (gF E l h true)) (t := (tF E l h)) (p := p) (L := bfs (gF E l h true) (tF E l h) N a i) (v := v) (fun w => hng w.1)
           exact ih hlt _ hF (by rw [e]; exact hB) (by rw [e]; exact hs))

set_option maxHeartbeats 1000000 in
set_option maxRecDepth 10000 in
theorem lp_X9_search_49_On {d : Nat} {M : Mm} {ML : Ml} {N E A : Nat} {l h : Nat → Nat} (hS : NS M 2 3 4 5 6 N E A l h) (hW : WN N E A l h) {a : Nat} (ha : a < 2 ^ E) : ∀ i, i ≤ 2 ^ E → i ≤ (bfs (gF E l h true) (tF E l h) N a i).length → ∀ M', Fr [34, 35, 36] M M' → BQ M' 35 36 1024 (bfs (gF E l h true) (tF E l h) N a i) → M' 34 2 = nI (bfs (gF E l h true) (tF E l h) N a i).length → WP (d + 2) cd_X9_search false (fun r M2 L2 => r = none ∧ L2 = ML ∧ Fr [34, 35, 36] M M2 ∧ BQ M2 35 36 1024 (srch N E l h true a) ∧ M2 34 2 = nI (srch N E l h true a).length) (49, [(0, .ref 34), (1, .ref 2), (2, .int (nI a)), (3, .int 0), (4, .int (nI i))], [], (SH, M', ML)) := by
  have hN7 := hW.2.1
  have hE10 := hW.2.2.1
  have h1024 := pow_b hE10
  have ht : ∀ x u, x < 2 ^ E → u < N → tF E l h x u < 2 ^ E := fun _ _ hx _ => tF_lt hx
  refine up_ind fun i hi ih => ?_
  intro hil M' hF hB hs
  have hS' := NS_Fr hS hF (by decide)
  have hI := bfs_Iv (g := (gF E l h true)) ht ha i
  have hlen := Iv_len hI
  refine w_ld rfl rfl ?_
  refine w_ld rfl rfl ?_
  refine w_getv rfl rfl rfl rfl rfl (hs) ?_
  refine w_cj rfl rfl (fun h_55 => ?_) (fun h_55 => ?_)
  · have h9 : (bfs (gF E l h true) (tF E l h) N a i).length ≤ i := nle (by omega) (by omega) h_55
    have hE := bfsE_of (g := (gF E l h true)) (n := 2 ^ E) hi (List.getElem?_eq_none h9)
    refine w_ret rfl rfl (trivial) ?_
    rw [hE] at hB hs
    exact ⟨rfl, rfl, hF, hB, hs⟩
  · have hlt : i < (bfs (gF E l h true) (tF E l h) N a i).length := nnle (by omega) (by omega) h_55
    have ⟨p, hp⟩ : ∃ p, (bfs (gF E l h true) (tF E l h) N a i)[i]? = some p := ⟨_, List.getElem?_eq_getElem hlt⟩
    have hbp := hI.2.1 i p hp
    refine w_ld rfl rfl ?_
    refine w_ld rfl rfl ?_
    refine w_getr rfl rfl rfl rfl rfl ?_
    refine w_len rfl rfl rfl rfl ?_
    refine w_cjF rfl rfl (fun q => absurd (nle (a := 1024) (by decide) (by omega) q) (by omega)) ?_
    refine w_ld rfl rfl ?_
    refine w_getr rfl rfl rfl rfl rfl ?_
    refine w_ld rfl rfl ?_
    refine w_call (as := [_, _]) (rest := []) rfl rfl rfl rfl rfl rfl rfl rfl (ok_at_v _ _ _ rfl rfl rfl (rfl) (by omega) (hB.1 i p hp)) ?_
    refine w_sto (L' := [(0, _), (1, _), (2, _), (3, _), (4, _), (5, _)]) rfl rfl ?_
    refine w_ld rfl rfl ?_
    refine w_cjT rfl rfl (by decide) ?_
    refine w_ld rfl rfl ?_
    refine w_ld rfl rfl ?_
    refine w_call (as := [_, _]) (rest := []) rfl rfl rfl rfl rfl rfl rfl rfl (ok_sources _ _ _ _ hS' hW) ?_
    refine w_sto (L' := [(0, _), (1, _), (2, _), (3, _), (4, _), (5, _), (6, _)]) rfl rfl ?_
    refine w_cst (v := .int 0) rfl rfl ?_
    refine w_sto (L' := [(0, _), (1, _), (2, _), (3, _), (4, _), (5, _), (6, _), (7, _)]) rfl rfl ?_
    refine lp_X9_search_103_On hS hW ha hp (fun M9 hF9 hB9 hs9 => ?_) 0 (Nat.zero_le _) M' hF hB hs
    have e := bfs_s hp
    refine ih (by omega) ?_ M9 hF9 (by rw [e]; exact hB9) (by rw [e]; exact hs9)
    rw [e]
    have := (Iv_vis ht hI hp N (Nat.le_refl _)).2.2
    omega

set_option maxHeartbeats 1000000 in
set_option maxRecDepth 10000 in
theorem lp_X9_search_3_On {d : Nat} {M : Mm} {ML : Ml} {N E A : Nat} {l h : Nat → Nat} (hS : NS M 2 3 4 5 6 N E A l h) (hW : WN N E A l h) {a : Nat} (ha : a < 2 ^ E) {L : BL} (hQ : ∀ (k : Nat) (p : Nat × Nat), L[k]? = some p → M 36 k = nI p.1 ∧ p.1 < 1024) (hs : M 34 2 = nI L.length) (hl : L.length ≤ 1024) : ∀ e, e ≤ L.length → ∀ M', Fr [35] M M' → (∀ b, b < 1024 → M' 35 b = -1 ∨ (M' 35 b = dI (dl L b) ∧ ∀ (k : Nat) (p : Nat × Nat), k < e → L[k]? = some p → p.1 ≠ b)) → WP (d + 2) cd_X9_search false (fun r M2 L2 => r = none ∧ L2 = ML ∧ Fr [34, 35, 36] M M2 ∧ BQ M2 35 36 1024 (srch N E l h true a) ∧ M2 34 2 = nI (srch N E l h true a).length) (3, [(0, .ref 34), (1, .ref 2), (2, .int (nI a)), (3, .int 0), (4, .int (nI e))], [], (SH, M', ML)) := by
  have hN7 := hW.2.1
  have hE10 := hW.2.2.1
  have h1024 := pow_b hE10
  have ht : ∀ x u, x < 2 ^ E → u < N → tF E l h x u < 2 ^ E := fun _ _ hx _ => tF_lt hx
  refine up_ind fun e he ih => ?_
  intro M' hF hB
  refine w_ld rfl rfl ?_
  refine w_ld rfl rfl ?_
  refine w_getv rfl rfl rfl rfl rfl (Eq.trans (by rw [hF 34 (by decide)]) (hs)) ?_
  refine w_cj rfl rfl (fun h_9 => ?_) (fun h_9 => ?_)
  · have h9 : e = L.length := by have := nle (by omega) (by omega) h_9; omega
    have hall : ∀ b, b < 1024 → M' 35 b = -1 := fun b hb => by
      rcases hB b hb with q | ⟨q1, q2⟩
      · exact q
      · rw [q1]
        cases hd : dl L b with
        | none => rfl
        | some d =>
          obtain ⟨k, hk⟩ := dl_mem hd
          have := (List.getElem?_eq_some_iff.mp hk).1
          exact absurd rfl (q2 k _ (by omega) hk)
    refine w_ld rfl rfl ?_
    refine w_cst (v := .int 0) rfl rfl ?_
    refine w_put rfl rfl rfl rfl rfl (Or.inl rfl) ?_
    refine w_ld rfl rfl ?_
    refine w_ld rfl rfl ?_
    refine w_cst (v := .int 0) rfl rfl ?_
    obtain ⟨_, M3, L3, ⟨rfl, rfl, hF2, K, hK, hB2, hs2⟩, hE43⟩ := ok_X9_see (d := d) (ML := ML) (M := up2 M' 34 2 0) (L := []) (c := a) (d9 := 0) ⟨fun k p hk => by simp at hk, fun b hb => by rw [up2_row (by decide)]; exact hall b hb⟩ up2_e (by omega) (fun _ => by decide) (by decide) (fun d hd => by cases hd)
    refine w_callv (as := [_, _, _]) (rest := []) rfl rfl rfl rfl rfl rfl rfl rfl hE43 ?_
    refine w_cst (v := .int 0) rfl rfl ?_
    refine w_sto (L' := [(0, _), (1, _), (2, _), (3, _), (4, _)]) rfl rfl ?_
    rw [if_pos (show dl [] a = none from rfl)] at hK
    subst hK
    have hF3 : Fr [34, 35, 36] M M3 := Fr_tr (Fr_up (by decide) (Fr_mono hF (by decide))) hF2
    refine WP_mono (lp_X9_search_49_On (M := M) hS hW ha 0 (Nat.zero_le _) (Nat.zero_le _) M3 hF3 hB2 hs2) (fun r M2 L2 q => q)
  · have hlt : e < L.length := nnle (by omega) (by omega) h_9
    have ⟨p, hp⟩ : ∃ p, L[e]? = some p := ⟨_, List.getElem?_eq_getElem hlt⟩
    have hpe := hQ e p hp
    refine w_ld rfl rfl ?_
    refine w_getr rfl rfl rfl rfl rfl ?_
    refine w_ld rfl rfl ?_
    refine w_getr rfl rfl rfl rfl rfl ?_
    refine w_ld rfl rfl ?_
    refine w_call (as := [_, _]) (rest := [_]) rfl rfl rfl rfl rfl rfl rfl rfl (ok_at_v _ _ _ rfl rfl rfl (rfl) (by omega) (Eq.trans (by rw [hF 36 (by decide)]) (hpe.1))) ?_
    refine w_cst (v := .int (-1)) rfl rfl ?_
    refine w_callv (as := [_, _, _]) (rest := []) rfl rfl rfl rfl rfl rfl rfl rfl (ok_lay_n _ _ _ _ _ rfl rfl rfl (rfl) (by omega)) ?_
    refine w_inc (y := _ + 1) rfl rfl rfl ?_
    refine w_norm (L' := [(0, _), (1, _), (2, _), (3, _), (4, _)]) rfl ?_
    refine w_go rfl ?_
    rw [nI_1]
    refine ih hlt _ (Fr_up (by decide) hF) (fun b hb => ?_)
    by_cases q : b = p.1
    · left
      rw [q, up2_e]
    · rcases hB b hb with q1 | ⟨q1, q2⟩
      · left
        rw [up2_k q]
        exact q1
      · right
        refine ⟨by rw [up2_k q]; exact q1, fun k r hk hr => ?_⟩
        rcases Nat.lt_or_ge k e with w | w
        · exact q2 k r w hr
        · have : k = e := by omega
          subst this
          rw [hp] at hr
          rw [← Option.some.inj hr]
          exact fun w2 => q w2.symm

set_option maxHeartbeats 1000000 in
set_option maxRecDepth 10000 in
theorem ok_X9_search_On {d : Nat} {M : Mm} {ML : Ml} {N E A : Nat} {l h : Nat → Nat} (hS : NS M 2 3 4 5 6 N E A l h) (hW : WN N E A l h) {a : Nat} (ha : a < 2 ^ E) (hw : WS M) : EX (d + 3) k_X9_search [.ref 34, .ref 2, .int (nI a), .int 0] M ML (fun r M2 L2 => r = none ∧ L2 = ML ∧ Fr [34, 35, 36] M M2 ∧ BQ M2 35 36 1024 (srch N E l h true a) ∧ M2 34 2 = nI (srch N E l h true a).length) := by
  refine EX_in mi_X9_search rfl rfl ?_
  show WP _ cd_X9_search false _ (0, [(0, .ref 34), (1, .ref 2), (2, .int (nI a)), (3, .int 0)], [], (SH, M, ML))
  refine w_cst (v := .int 0) rfl rfl ?_
  refine w_sto (L' := [(0, _), (1, _), (2, _), (3, _), (4, _)]) rfl rfl ?_
  obtain ⟨L, hB, hs, hl, hb⟩ := hw
  exact lp_X9_search_3_On hS hW ha (fun k p hk => ⟨hB.1 k p hk, hb k p hk⟩) hs hl 0 (Nat.zero_le _) M Fr_rf (fun b hb => Or.inr ⟨hB.2 b hb, fun k p hk => absurd hk (Nat.not_lt_zero k)⟩)

set_option maxHeartbeats 1000000 in
set_option maxRecDepth 10000 in
theorem ok_X9_searchOn {d : Nat} {M : Mm} {ML : Ml} {N E A : Nat} {l h : Nat → Nat} (hS : NS M 2 3 4 5 6 N E A l h) (hW : WN N E A l h) {a : Nat} (ha : a < 2 ^ E) (hw : WS M) : EX (d + 4) k_X9_searchOn [.ref 34, .ref 2, .int (nI a)] M ML (fun r M2 L2 => r = none ∧ L2 = ML ∧ Fr [34, 35, 36] M M2 ∧ BQ M2 35 36 1024 (srch N E l h true a) ∧ M2 34 2 = nI (srch N E l h true a).length) := by
  refine EX_in mi_X9_searchOn rfl rfl ?_
  show WP _ cd_X9_searchOn false _ (0, [(0, .ref 34), (1, .ref 2), (2, .int (nI a))], [], (SH, M, ML))
  refine w_ld rfl rfl ?_
  refine w_ld rfl rfl ?_
  refine w_ld rfl rfl ?_
  refine w_cst (v := .int 0) rfl rfl ?_
  obtain ⟨_, M3, L3, ⟨rfl, hq⟩, hE4⟩ := ok_X9_search_On (d := d) (ML := ML) (M := M) hS hW ha hw
  refine w_callv (as := [_, _, _, _]) (rest := []) rfl rfl rfl rfl rfl rfl rfl rfl hE4 ?_
  refine w_ret rfl rfl (trivial) ?_
  exact ⟨rfl, hq⟩

set_option maxHeartbeats 1000000 in
set_option maxRecDepth 10000 in
theorem lp_X9_search_103_Back {d : Nat} {M : Mm} {ML : Ml} {N E A : Nat} {l h : Nat → Nat} (hS : NS M 2 3 4 5 6 N E A l h) (hW : WN N E A l h) {a : Nat} (ha : a < 2 ^ E) {i : Nat} {p : Nat × Nat} (hp : (bfs (gF E l h false) (tF E l h) N a i)[i]? = some p) (hk : ∀ M9, Fr [34, 35, 36] M M9 → BQ M9 35 36 1024 (bvis (gF E l h false) (tF E l h) p (bfs (gF E l h false) (tF E l h) N a i) N) → M9 34 2 = nI (bvis (gF E l h false) (tF E l h) p (bfs (gF E l h false) (tF E l h) N a i) N).length → WP (d + 2) cd_X9_search false (fun r M2 L2 => r = none ∧ L2 = ML ∧ Fr [34, 35, 36] M M2 ∧ BQ M2 35 36 1024 (srch N E l h false a) ∧ M2 34 2 = nI (srch N E l h false a).length) (49, [(0, .ref 34), (1, .ref 2), (2, .int (nI a)), (3, .int 1), (4, .int (nI (i + 1)))], [], (SH, M9, ML))) : ∀ v, v ≤ N → ∀ M', Fr [34, 35, 36] M M' → BQ M' 35 36 1024 (bvis (gF E l h false) (tF E l h) p (bfs (gF E l h false) (tF E l h) N a i) v) → M' 34 2 = nI (bvis (gF E l h false) (tF E l h) p (bfs (gF E l h false) (tF E l h) N a i) v).length →  WP (d + 2) cd_X9_search false (fun r M2 L2 => r = none ∧ L2 = ML ∧ Fr [34, 35, 36] M M2 ∧ BQ M2 35 36 1024 (srch N E l h false a) ∧ M2 34 2 = nI (srch N E l h false a).length) (103, [(0, .ref 34), (1, .ref 2), (2, .int (nI a)), (3, .int 1), (4, .int (nI i)), (5, .int (nI p.1)), (6, .int (nI (endsM E l h (nI p.1) false))), (7, .int (nI v))], [], (SH, M', ML)) := by
  have hN7 := hW.2.1
  have hE10 := hW.2.2.1
  have h1024 := pow_b hE10
  have ht : ∀ x u, x < 2 ^ E → u < N → tF E l h x u < 2 ^ E := fun _ _ hx _ => tF_lt hx
  refine up_ind fun v hv ih => ?_
  intro M' hF hB hs
  have hS' := NS_Fr hS hF (by decide)
  obtain ⟨hI, hpv, -⟩ := Iv_vis ht (bfs_Iv ht ha i) hp v hv
  have hlen := Iv_len hI
  have hbp := hI.2.1 i p hpv
  have hil := (List.getElem?_eq_some_iff.mp hpv).1
  refine w_ld rfl rfl ?_
  refine w_ld rfl rfl ?_
  refine w_getv rfl rfl rfl rfl rfl (hS'.1) ?_
  refine w_cj rfl rfl (fun h_109 => ?_) (fun h_109 => ?_)
  · have h9 : v = N := by have := nle (by omega) (by omega) h_109; omega
    subst h9
    refine w_inc (y := _ + 1) rfl rfl rfl ?_
    refine w_norm (L' := [(0, _), (1, _), (2, _), (3, _), (4, _), (5, _), (6, _), (7, _)]) rfl ?_
    refine w_go rfl ?_
    refine w_keep [0, 1, 2, 3, 4] (L' := [(0, _), (1, _), (2, _), (3, _), (4, _)]) rfl ?_
    rw [nI_1]
    exact hk _ hF hB hs
  · have hlt : v < N := nnle (by omega) (by omega) h_109
    have hrow := (hS'.2.2.2.2 v (by omega)).1
    have hev : endsM E l h (nI p.1) false < 2 ^ 31 := endsM_b
    refine w_ld rfl rfl ?_
    refine w_ld rfl rfl ?_
    refine w_cife (as := [_, _]) (rest := []) rfl rfl rfl rfl rfl rfl rfl rfl (ok_X11_isIn _ _ _ _ _) rfl (fun h_116 => ?_) (fun h_116 => ?_)
    · refine w_inc (y := _ + 1) rfl rfl rfl ?_
      refine w_norm (L' := [(0, _), (1, _), (2, _), (3, _), (4, _), (5, _), (6, _), (7, _)]) rfl ?_
      refine w_go rfl ?_
      rw [nI_1]
      first
        | (have hK2 : K = bvis (gF E l h false) (tF E l h) p (bfs (gF E l h false) (tF E l h) N a i) (v + 1) := by
             rw [hK]
             by_cases q : dl (bvis (gF E l h false) (tF E l h) p (bfs (gF E l h false) (tF E l h) N a i) v) (p.1 ^^^ tmk E l h v) = none
             · rw [if_pos q]
               exact (bvis_y hgv q).symm
             · rw [if_neg q]
               exact (bvis_n (fun w => q w.2)).symm
           rw [hK2] at hB2 hs2
           exact ih hlt _ (Fr_tr hF hF2) hB2 hs2)
        | (have hng : ¬ gF E l h false p.1 v = true := fun w => by rw [← ends_bit (by omega), ← tb_nI hev (by omega), h_116] at w; exact Bool.noConfusion w
           have e := bvis_n (g := (gF E l h false)) (t := (tF E l h)) (p := p) (L := bfs (gF E l h false) (tF E l h) N a i) (v := v) (fun w => hng w.1)
           exact ih hlt _ hF (by rw [e]; exact hB) (by rw [e]; exact hs))
    · refine w_ld rfl rfl ?_
      refine w_ld rfl rfl ?_
      refine w_ld rfl rfl ?_
      refine w_ld rfl rfl ?_
      refine w_call (as := [_, _, _]) (rest := [_]) rfl rfl rfl rfl rfl rfl rfl rfl (ok_X4_turned _ _ _ _ (by omega)) ?_
      rw [hrow, xorN]
      refine w_ld rfl rfl ?_
      refine w_getr rfl rfl rfl rfl rfl ?_
      refine w_ld rfl rfl ?_
      refine w_call (as := [_, _]) (rest := [_, _]) rfl rfl rfl rfl rfl rfl rfl rfl (ok_at_v _ _ _ rfl rfl rfl (rfl) (by omega) (Eq.trans (hB.2 _ (by omega)) (show dI (dl _ p.1) = nI p.2 from by rw [hbp.2.2.2]; rfl))) ?_
      refine w_cst (v := .int 1) rfl rfl ?_
      refine w_bin rfl rfl ?_
      rw [nI_1]
      have hgv : gF E l h false p.1 v = true := by rw [← ends_bit (by omega), ← tb_nI hev (by omega)]; exact h_116
      have hstep := Iv_step ht hI hpv hlt (L2 := bvis (gF E l h false) (tF E l h) p (bfs (gF E l h false) (tF E l h) N a i) (v + 1)) rfl
      have hlen2 := Iv_len hstep.1
      obtain ⟨_, M3, L3, ⟨rfl, rfl, hF2, K, hK, hB2, hs2⟩, hE142⟩ := ok_X9_see (d := d) (ML := ML) (c := p.1 ^^^ tmk E l h v) (d9 := p.2 + 1) hB hs (Nat.lt_of_lt_of_le (tF_lt (l := l) (h := h) (v := v) hbp.1) h1024) (fun q => by rw [bvis_y hgv q, List.length_append] at hlen2; have : ([(tF E l h p.1 v, p.2 + 1)] : BL).length = 1 := rfl; omega) (by omega) (fun d hd => by have := (Iv_d hI hd).2; omega)
      refine w_callv (as := [_, _, _]) (rest := []) rfl rfl rfl rfl rfl rfl rfl rfl hE142 ?_
      refine w_inc (y := _ + 1) rfl rfl rfl ?_
      refine w_norm (L' := [(0, _), (1, _), (2, _), (3, _), (4, _), (5, _), (6, _), (7, _)]) rfl ?_
      refine w_go rfl ?_
      rw [nI_1]
      first
        | (have hK2 : K = bvis (gF E l h false) (tF E l h) p (bfs (gF E l h false) (tF E l h) N a i) (v + 1) := by
             rw [hK]
             by_cases q : dl (bvis (gF E l h false) (tF E l h) p (bfs (gF E l h false) (tF E l h) N a i) v) (p.1 ^^^ tmk E l h v) = none
             · rw [if_pos q]
               exact (bvis_y hgv q).symm
             · rw [if_neg q]
               exact (bvis_n (fun w => q w.2)).symm
           rw [hK2] at hB2 hs2
           exact ih hlt _ (Fr_tr hF hF2) hB2 hs2)
        | (have hng : ¬ gF E l h false p.1 v = true := fun w => by rw [← ends_bit (by omega), ← tb_nI hev (by omega), h_116] at w; exact Bool.noConfusion w
           have e := bvis_n (g := (gF E l h false)) (t := (tF E l h)) (p := p) (L := bfs (gF E l h false) (tF E l h) N a i) (v := v) (fun w => hng w.1)
           exact ih hlt _ hF (by rw [e]; exact hB) (by rw [e]; exact hs))

set_option maxHeartbeats 1000000 in
set_option maxRecDepth 10000 in
theorem lp_X9_search_49_Back {d : Nat} {M : Mm} {ML : Ml} {N E A : Nat} {l h : Nat → Nat} (hS : NS M 2 3 4 5 6 N E A l h) (hW : WN N E A l h) {a : Nat} (ha : a < 2 ^ E) : ∀ i, i ≤ 2 ^ E → i ≤ (bfs (gF E l h false) (tF E l h) N a i).length → ∀ M', Fr [34, 35, 36] M M' → BQ M' 35 36 1024 (bfs (gF E l h false) (tF E l h) N a i) → M' 34 2 = nI (bfs (gF E l h false) (tF E l h) N a i).length → WP (d + 2) cd_X9_search false (fun r M2 L2 => r = none ∧ L2 = ML ∧ Fr [34, 35, 36] M M2 ∧ BQ M2 35 36 1024 (srch N E l h false a) ∧ M2 34 2 = nI (srch N E l h false a).length) (49, [(0, .ref 34), (1, .ref 2), (2, .int (nI a)), (3, .int 1), (4, .int (nI i))], [], (SH, M', ML)) := by
  have hN7 := hW.2.1
  have hE10 := hW.2.2.1
  have h1024 := pow_b hE10
  have ht : ∀ x u, x < 2 ^ E → u < N → tF E l h x u < 2 ^ E := fun _ _ hx _ => tF_lt hx
  refine up_ind fun i hi ih => ?_
  intro hil M' hF hB hs
  have hS' := NS_Fr hS hF (by decide)
  have hI := bfs_Iv (g := (gF E l h false)) ht ha i
  have hlen := Iv_len hI
  refine w_ld rfl rfl ?_
  refine w_ld rfl rfl ?_
  refine w_getv rfl rfl rfl rfl rfl (hs) ?_
  refine w_cj rfl rfl (fun h_55 => ?_) (fun h_55 => ?_)
  · have h9 : (bfs (gF E l h false) (tF E l h) N a i).length ≤ i := nle (by omega) (by omega) h_55
    have hE := bfsE_of (g := (gF E l h false)) (n := 2 ^ E) hi (List.getElem?_eq_none h9)
    refine w_ret rfl rfl (trivial) ?_
    rw [hE] at hB hs
    exact ⟨rfl, rfl, hF, hB, hs⟩
  · have hlt : i < (bfs (gF E l h false) (tF E l h) N a i).length := nnle (by omega) (by omega) h_55
    have ⟨p, hp⟩ : ∃ p, (bfs (gF E l h false) (tF E l h) N a i)[i]? = some p := ⟨_, List.getElem?_eq_getElem hlt⟩
    have hbp := hI.2.1 i p hp
    refine w_ld rfl rfl ?_
    refine w_ld rfl rfl ?_
    refine w_getr rfl rfl rfl rfl rfl ?_
    refine w_len rfl rfl rfl rfl ?_
    refine w_cjF rfl rfl (fun q => absurd (nle (a := 1024) (by decide) (by omega) q) (by omega)) ?_
    refine w_ld rfl rfl ?_
    refine w_getr rfl rfl rfl rfl rfl ?_
    refine w_ld rfl rfl ?_
    refine w_call (as := [_, _]) (rest := []) rfl rfl rfl rfl rfl rfl rfl rfl (ok_at_v _ _ _ rfl rfl rfl (rfl) (by omega) (hB.1 i p hp)) ?_
    refine w_sto (L' := [(0, _), (1, _), (2, _), (3, _), (4, _), (5, _)]) rfl rfl ?_
    refine w_ld rfl rfl ?_
    refine w_cjF rfl rfl (by decide) ?_
    refine w_ld rfl rfl ?_
    refine w_ld rfl rfl ?_
    refine w_call (as := [_, _]) (rest := []) rfl rfl rfl rfl rfl rfl rfl rfl (ok_X4_sinks _ _ _ _ hS' hW) ?_
    refine w_go rfl ?_
    refine w_sto (L' := [(0, _), (1, _), (2, _), (3, _), (4, _), (5, _), (6, _)]) rfl rfl ?_
    refine w_cst (v := .int 0) rfl rfl ?_
    refine w_sto (L' := [(0, _), (1, _), (2, _), (3, _), (4, _), (5, _), (6, _), (7, _)]) rfl rfl ?_
    refine lp_X9_search_103_Back hS hW ha hp (fun M9 hF9 hB9 hs9 => ?_) 0 (Nat.zero_le _) M' hF hB hs
    have e := bfs_s hp
    refine ih (by omega) ?_ M9 hF9 (by rw [e]; exact hB9) (by rw [e]; exact hs9)
    rw [e]
    have := (Iv_vis ht hI hp N (Nat.le_refl _)).2.2
    omega

set_option maxHeartbeats 1000000 in
set_option maxRecDepth 10000 in
theorem lp_X9_search_3_Back {d : Nat} {M : Mm} {ML : Ml} {N E A : Nat} {l h : Nat → Nat} (hS : NS M 2 3 4 5 6 N E A l h) (hW : WN N E A l h) {a : Nat} (ha : a < 2 ^ E) {L : BL} (hQ : ∀ (k : Nat) (p : Nat × Nat), L[k]? = some p → M 36 k = nI p.1 ∧ p.1 < 1024) (hs : M 34 2 = nI L.length) (hl : L.length ≤ 1024) : ∀ e, e ≤ L.length → ∀ M', Fr [35] M M' → (∀ b, b < 1024 → M' 35 b = -1 ∨ (M' 35 b = dI (dl L b) ∧ ∀ (k : Nat) (p : Nat × Nat), k < e → L[k]? = some p → p.1 ≠ b)) → WP (d + 2) cd_X9_search false (fun r M2 L2 => r = none ∧ L2 = ML ∧ Fr [34, 35, 36] M M2 ∧ BQ M2 35 36 1024 (srch N E l h false a) ∧ M2 34 2 = nI (srch N E l h false a).length) (3, [(0, .ref 34), (1, .ref 2), (2, .int (nI a)), (3, .int 1), (4, .int (nI e))], [], (SH, M', ML)) := by
  have hN7 := hW.2.1
  have hE10 := hW.2.2.1
  have h1024 := pow_b hE10
  have ht : ∀ x u, x < 2 ^ E → u < N → tF E l h x u < 2 ^ E := fun _ _ hx _ => tF_lt hx
  refine up_ind fun e he ih => ?_
  intro M' hF hB
  refine w_ld rfl rfl ?_
  refine w_ld rfl rfl ?_
  refine w_getv rfl rfl rfl rfl rfl (Eq.trans (by rw [hF 34 (by decide)]) (hs)) ?_
  refine w_cj rfl rfl (fun h_9 => ?_) (fun h_9 => ?_)
  · have h9 : e = L.length := by have := nle (by omega) (by omega) h_9; omega
    have hall : ∀ b, b < 1024 → M' 35 b = -1 := fun b hb => by
      rcases hB b hb with q | ⟨q1, q2⟩
      · exact q
      · rw [q1]
        cases hd : dl L b with
        | none => rfl
        | some d =>
          obtain ⟨k, hk⟩ := dl_mem hd
          have := (List.getElem?_eq_some_iff.mp hk).1
          exact absurd rfl (q2 k _ (by omega) hk)
    refine w_ld rfl rfl ?_
    refine w_cst (v := .int 0) rfl rfl ?_
    refine w_put rfl rfl rfl rfl rfl (Or.inl rfl) ?_
    refine w_ld rfl rfl ?_
    refine w_ld rfl rfl ?_
    refine w_cst (v := .int 0) rfl rfl ?_
    obtain ⟨_, M3, L3, ⟨rfl, rfl, hF2, K, hK, hB2, hs2⟩, hE43⟩ := ok_X9_see (d := d) (ML := ML) (M := up2 M' 34 2 0) (L := []) (c := a) (d9 := 0) ⟨fun k p hk => by simp at hk, fun b hb => by rw [up2_row (by decide)]; exact hall b hb⟩ up2_e (by omega) (fun _ => by decide) (by decide) (fun d hd => by cases hd)
    refine w_callv (as := [_, _, _]) (rest := []) rfl rfl rfl rfl rfl rfl rfl rfl hE43 ?_
    refine w_cst (v := .int 0) rfl rfl ?_
    refine w_sto (L' := [(0, _), (1, _), (2, _), (3, _), (4, _)]) rfl rfl ?_
    rw [if_pos (show dl [] a = none from rfl)] at hK
    subst hK
    have hF3 : Fr [34, 35, 36] M M3 := Fr_tr (Fr_up (by decide) (Fr_mono hF (by decide))) hF2
    refine WP_mono (lp_X9_search_49_Back (M := M) hS hW ha 0 (Nat.zero_le _) (Nat.zero_le _) M3 hF3 hB2 hs2) (fun r M2 L2 q => q)
  · have hlt : e < L.length := nnle (by omega) (by omega) h_9
    have ⟨p, hp⟩ : ∃ p, L[e]? = some p := ⟨_, List.getElem?_eq_getElem hlt⟩
    have hpe := hQ e p hp
    refine w_ld rfl rfl ?_
    refine w_getr rfl rfl rfl rfl rfl ?_
    refine w_ld rfl rfl ?_
    refine w_getr rfl rfl rfl rfl rfl ?_
    refine w_ld rfl rfl ?_
    refine w_call (as := [_, _]) (rest := [_]) rfl rfl rfl rfl rfl rfl rfl rfl (ok_at_v _ _ _ rfl rfl rfl (rfl) (by omega) (Eq.trans (by rw [hF 36 (by decide)]) (hpe.1))) ?_
    refine w_cst (v := .int (-1)) rfl rfl ?_
    refine w_callv (as := [_, _, _]) (rest := []) rfl rfl rfl rfl rfl rfl rfl rfl (ok_lay_n _ _ _ _ _ rfl rfl rfl (rfl) (by omega)) ?_
    refine w_inc (y := _ + 1) rfl rfl rfl ?_
    refine w_norm (L' := [(0, _), (1, _), (2, _), (3, _), (4, _)]) rfl ?_
    refine w_go rfl ?_
    rw [nI_1]
    refine ih hlt _ (Fr_up (by decide) hF) (fun b hb => ?_)
    by_cases q : b = p.1
    · left
      rw [q, up2_e]
    · rcases hB b hb with q1 | ⟨q1, q2⟩
      · left
        rw [up2_k q]
        exact q1
      · right
        refine ⟨by rw [up2_k q]; exact q1, fun k r hk hr => ?_⟩
        rcases Nat.lt_or_ge k e with w | w
        · exact q2 k r w hr
        · have : k = e := by omega
          subst this
          rw [hp] at hr
          rw [← Option.some.inj hr]
          exact fun w2 => q w2.symm

set_option maxHeartbeats 1000000 in
set_option maxRecDepth 10000 in
theorem ok_X9_search_Back {d : Nat} {M : Mm} {ML : Ml} {N E A : Nat} {l h : Nat → Nat} (hS : NS M 2 3 4 5 6 N E A l h) (hW : WN N E A l h) {a : Nat} (ha : a < 2 ^ E) (hw : WS M) : EX (d + 3) k_X9_search [.ref 34, .ref 2, .int (nI a), .int 1] M ML (fun r M2 L2 => r = none ∧ L2 = ML ∧ Fr [34, 35, 36] M M2 ∧ BQ M2 35 36 1024 (srch N E l h false a) ∧ M2 34 2 = nI (srch N E l h false a).length) := by
  refine EX_in mi_X9_search rfl rfl ?_
  show WP _ cd_X9_search false _ (0, [(0, .ref 34), (1, .ref 2), (2, .int (nI a)), (3, .int 1)], [], (SH, M, ML))
  refine w_cst (v := .int 0) rfl rfl ?_
  refine w_sto (L' := [(0, _), (1, _), (2, _), (3, _), (4, _)]) rfl rfl ?_
  obtain ⟨L, hB, hs, hl, hb⟩ := hw
  exact lp_X9_search_3_Back hS hW ha (fun k p hk => ⟨hB.1 k p hk, hb k p hk⟩) hs hl 0 (Nat.zero_le _) M Fr_rf (fun b hb => Or.inr ⟨hB.2 b hb, fun k p hk => absurd hk (Nat.not_lt_zero k)⟩)

set_option maxHeartbeats 1000000 in
set_option maxRecDepth 10000 in
theorem ok_X9_searchBack {d : Nat} {M : Mm} {ML : Ml} {N E A : Nat} {l h : Nat → Nat} (hS : NS M 2 3 4 5 6 N E A l h) (hW : WN N E A l h) {a : Nat} (ha : a < 2 ^ E) (hw : WS M) : EX (d + 4) k_X9_searchBack [.ref 34, .ref 2, .int (nI a)] M ML (fun r M2 L2 => r = none ∧ L2 = ML ∧ Fr [34, 35, 36] M M2 ∧ BQ M2 35 36 1024 (srch N E l h false a) ∧ M2 34 2 = nI (srch N E l h false a).length) := by
  refine EX_in mi_X9_searchBack rfl rfl ?_
  show WP _ cd_X9_searchBack false _ (0, [(0, .ref 34), (1, .ref 2), (2, .int (nI a))], [], (SH, M, ML))
  refine w_ld rfl rfl ?_
  refine w_ld rfl rfl ?_
  refine w_ld rfl rfl ?_
  refine w_cst (v := .int 1) rfl rfl ?_
  obtain ⟨_, M3, L3, ⟨rfl, hq⟩, hE4⟩ := ok_X9_search_Back (d := d) (ML := ML) (M := M) hS hW ha hw
  refine w_callv (as := [_, _, _, _]) (rest := []) rfl rfl rfl rfl rfl rfl rfl rfl hE4 ?_
  refine w_ret rfl rfl (trivial) ?_
  exact ⟨rfl, hq⟩

