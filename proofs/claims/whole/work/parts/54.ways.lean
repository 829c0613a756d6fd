/-! ===== in how many ways ===== -/
/-- rows of k nodes that can be fired from b -/
def wN (g : Nat → Nat → Bool) (t : Nat → Nat → Nat) (N : Nat) : Nat → Nat → Nat
  | 0, _ => 1
  | k + 1, b => fb_sm (fun v => if g b v = true then wN g t N k (t b v) else 0) N
theorem wN_s (g : Nat → Nat → Bool) (t : Nat → Nat → Nat) (N k b : Nat) : wN g t N (k + 1) b = fb_sm (fun v => if g b v = true then wN g t N k (t b v) else 0) N := rfl
theorem wN_le {g : Nat → Nat → Bool} {t : Nat → Nat → Nat} {N : Nat} (hN : N ≤ 7) : ∀ k b, wN g t N k b ≤ 7 ^ k
  | 0, b => Nat.le_refl _
  | k + 1, b => by
    rw [wN_s]
    have h1 := fb_sm_bound (f := fun v => if g b v = true then wN g t N k (t b v) else 0) (c := 7 ^ k) (n := N) (fun v _ => by
      show (if _ then _ else _) ≤ _
      split
      · exact wN_le hN k _
      · exact Nat.zero_le _)
    refine Nat.le_trans h1 ?_
    rw [Nat.pow_succ, Nat.mul_comm]
    exact Nat.mul_le_mul_left _ hN
theorem ok_longAt_v (d : Nat) (M : Mm) (ML : Ml) {i : Int32} {v : Int64} {a n k : Nat} (ha : Nat.blt 0 a = true) (h : SH[a - 1]? = some (1, n, [])) (hn : Nat.blt n 2147483648 = true) (hi : i = nI k) (hk : k < n) (hv : ML a k = v) : Ex (d + 1) k_X9_longAt [.ref a, .int i] (SH, M, ML) (some (.long v), (SH, M, ML)) := by
  subst hv; subst hi
  have := ok_X9_longAt d M ML (nI k) ha h hn
  rw [rdL_nI hk (blt_lt hn)] at this
  exact this
theorem ok_layLong_n (d : Nat) (M : Mm) (ML : Ml) (i : Int32) (v : Int64) {a n k : Nat} (ha : Nat.blt 0 a = true) (h : SH[a - 1]? = some (1, n, [])) (hn : Nat.blt n 2147483648 = true) (hi : i = nI k) (hk : k < n) : Ex (d + 1) k_X9_layLong [.ref a, .int i, .long v] (SH, M, ML) (none, (SH, M, up2L ML a k v)) := by
  subst hi
  have := ok_X9_layLong d M ML (nI k) v ha h hn
  rw [wrL_nI hk (blt_lt hn)] at this
  exact this

set_option maxHeartbeats 1000000 in
set_option maxRecDepth 10000 in
theorem lp_X9_rowsBehindOne_12 {d : Nat} {M : Mm} {ML : Ml} {N E A : Nat} {l h : Nat → Nat} (hS : NS M 2 3 4 5 6 N E A l h) (hW : WN N E A l h) {b k : Nat} (hb : b < 2 ^ E) (hr : ∀ v, v < N → gF E l h true b v = true → ML 37 (tF E l h b v) = lN (wN (gF E l h true) (tF E l h) N k (tF E l h b v))) : ∀ e, e ≤ N → WP (d + 2) cd_X9_rowsBehindOne false (fun r M2 L2 => r = some (.long (lN (wN (gF E l h true) (tF E l h) N (k + 1) b))) ∧ L2 = ML ∧ M2 = M) (12, [(0, .ref 34), (1, .ref 2), (2, .int (nI b)), (3, .int (nI (endsM E l h (nI b) true))), (4, .long (lN (fb_sm (fun v => if gF E l h true b v = true then wN (gF E l h true) (tF E l h) N k (tF E l h b v) else 0) e))), (6, .int (nI e))], [], (SH, M, ML)) := by
  have hN7 := hW.2.1
  have hE10 := hW.2.2.1
  have h1024 := pow_b hE10
  have hev : endsM E l h (nI b) true < 2 ^ 31 := endsM_b
  refine up_ind fun e he ih => ?_
  refine w_ld rfl rfl ?_
  refine w_ld rfl rfl ?_
  refine w_getv rfl rfl rfl rfl rfl (hS.1) ?_
  refine w_cj rfl rfl (fun h_18 => ?_) (fun h_18 => ?_)
  · have h9 : e = N := by have := nle (by omega) (by omega) h_18; omega
    subst h9
    refine w_ld rfl rfl ?_
    refine w_ret rfl rfl (trivial) ?_
    exact ⟨rfl, rfl, rfl⟩
  · have hlt : e < N := nnle (by omega) (by omega) h_18
    refine w_ld rfl rfl ?_
    refine w_ld rfl rfl ?_
    refine w_cife (as := [_, _]) (rest := []) rfl rfl rfl rfl rfl rfl rfl rfl (ok_X11_isIn _ _ _ _ _) rfl (fun h_24 => ?_) (fun h_24 => ?_)
    · refine w_inc (y := _ + 1) rfl rfl rfl ?_
      refine w_norm (L' := [(0, _), (1, _), (2, _), (3, _), (4, _), (6, _)]) rfl ?_
      refine w_go rfl ?_
      rw [nI_1]
      have hp := ih hlt
      rw [fb_sm_succ] at hp
      first
        | (rw [if_pos hg] at hp
           rw [lN_add]
           exact hp)
        | (rw [if_neg (fun w => by rw [← ends_bit (by omega), ← tb_nI hev (by omega), h_24] at w; exact Bool.noConfusion w)] at hp
           exact hp)
    · have hg : gF E l h true b e = true := by rw [← ends_bit (by omega), ← tb_nI hev (by omega)]; exact h_24
      refine w_ld rfl rfl ?_
      refine w_ld rfl rfl ?_
      refine w_getr rfl rfl rfl rfl rfl ?_
      refine w_ld rfl rfl ?_
      refine w_ld rfl rfl ?_
      refine w_ld rfl rfl ?_
      refine w_call (as := [_, _, _]) (rest := [_, _]) rfl rfl rfl rfl rfl rfl rfl rfl (ok_X4_turned _ _ _ _ (by omega)) ?_
      rw [(hS.2.2.2.2 e (by omega)).1, xorN]
      refine w_call (as := [_, _]) (rest := [_]) rfl rfl rfl rfl rfl rfl rfl rfl (ok_longAt_v _ _ _ rfl rfl rfl (rfl) (Nat.lt_of_lt_of_le (tF_lt (l := l) (h := h) (v := e) hb) h1024) (hr e hlt hg)) ?_
      refine w_bin rfl rfl ?_
      refine w_sto (L' := [(0, _), (1, _), (2, _), (3, _), (4, _), (6, _)]) rfl rfl ?_
      refine w_inc (y := _ + 1) rfl rfl rfl ?_
      refine w_norm (L' := [(0, _), (1, _), (2, _), (3, _), (4, _), (6, _)]) rfl ?_
      refine w_go rfl ?_
      rw [nI_1]
      have hp := ih hlt
      rw [fb_sm_succ] at hp
      first
        | (rw [if_pos hg] at hp
           rw [lN_add]
           exact hp)
        | (rw [if_neg (fun w => by rw [← ends_bit (by omega), ← tb_nI hev (by omega), h_24] at w; exact Bool.noConfusion w)] at hp
           exact hp)

set_option maxHeartbeats 1000000 in
set_option maxRecDepth 10000 in
theorem ok_X9_rowsBehindOne {d : Nat} {M : Mm} {ML : Ml} {N E A : Nat} {l h : Nat → Nat} (hS : NS M 2 3 4 5 6 N E A l h) (hW : WN N E A l h) {b k : Nat} (hb : b < 2 ^ E) (hr : ∀ v, v < N → gF E l h true b v = true → ML 37 (tF E l h b v) = lN (wN (gF E l h true) (tF E l h) N k (tF E l h b v))) : EX (d + 3) k_X9_rowsBehindOne [.ref 34, .ref 2, .int (nI b)] M ML (fun r M2 L2 => r = some (.long (lN (wN (gF E l h true) (tF E l h) N (k + 1) b))) ∧ L2 = ML ∧ M2 = M) := by
  refine EX_in mi_X9_rowsBehindOne rfl rfl ?_
  show WP _ cd_X9_rowsBehindOne false _ (0, [(0, .ref 34), (1, .ref 2), (2, .int (nI b))], [], (SH, M, ML))
  refine w_ld rfl rfl ?_
  refine w_ld rfl rfl ?_
  refine w_call (as := [_, _]) (rest := []) rfl rfl rfl rfl rfl rfl rfl rfl (ok_sources _ _ _ _ hS hW) ?_
  refine w_sto (L' := [(0, _), (1, _), (2, _), (3, _)]) rfl rfl ?_
  refine w_cst (v := .long 0) rfl rfl ?_
  refine w_sto (L' := [(0, _), (1, _), (2, _), (3, _), (4, _)]) rfl rfl ?_
  refine w_cst (v := .int 0) rfl rfl ?_
  refine w_sto (L' := [(0, _), (1, _), (2, _), (3, _), (4, _), (6, _)]) rfl rfl ?_
  exact lp_X9_rowsBehindOne_12 hS hW hb hr 0 (Nat.zero_le _)

set_option maxHeartbeats 1000000 in
set_option maxRecDepth 10000 in
theorem lp_X9_rowsOf_92 {d : Nat} {M : Mm} {ML : Ml} {N E A : Nat} {l h : Nat → Nat} (hS : NS M 2 3 4 5 6 N E A l h) (hW : WN N E A l h) {a n : Nat} (ha : a < 2 ^ E) (hn : n ≤ 12) (hB : BQ M 35 36 1024 (srch N E l h true a)) (hs : M 34 2 = nI (srch N E l h true a).length) {k : Nat} (hk : ∀ ML', (∀ (j : Nat) (p : Nat × Nat), (srch N E l h true a)[j]? = some p → ML' 37 p.1 = lN (wN (gF E l h true) (tF E l h) N (k + 1) p.1)) → WP (d + 3) cd_X9_rowsOf false (fun r M2 L2 => r = some (.long (lN (wN (gF E l h true) (tF E l h) N n a))) ∧ M2 = M) (38, [(0, .ref 34), (1, .ref 2), (2, .int (nI a)), (3, .int (nI n)), (4, .int (nI (k + 1)))], [], (SH, M, ML'))) : ∀ e, e ≤ (srch N E l h true a).length → ∀ ML', (∀ (j : Nat) (p : Nat × Nat), (srch N E l h true a)[j]? = some p → ML' 38 p.1 = lN (wN (gF E l h true) (tF E l h) N (k + 1) p.1)) → (∀ (j : Nat) (p : Nat × Nat), j < e → (srch N E l h true a)[j]? = some p → ML' 37 p.1 = lN (wN (gF E l h true) (tF E l h) N (k + 1) p.1)) → WP (d + 3) cd_X9_rowsOf false (fun r M2 L2 => r = some (.long (lN (wN (gF E l h true) (tF E l h) N n a))) ∧ M2 = M) (92, [(0, .ref 34), (1, .ref 2), (2, .int (nI a)), (3, .int (nI n)), (4, .int (nI k)), (5, .int (nI e))], [], (SH, M, ML')) := by
  have hN7 := hW.2.1
  have hE10 := hW.2.2.1
  have h1024 := pow_b hE10
  have hI := srch_Iv (N := N) (l := l) (h := h) (s := true) ha
  have hlen := Iv_len hI
  have hlt9 : ∀ (k : Nat) (p : Nat × Nat), (srch N E l h true a)[k]? = some p → p.1 < 2 ^ E := fun k p hp => (hI.2.1 k p hp).1
  refine up_ind fun e he ih => ?_
  intro ML' hA hD
  refine w_ld rfl rfl ?_
  refine w_ld rfl rfl ?_
  refine w_getv rfl rfl rfl rfl rfl (hs) ?_
  refine w_cj rfl rfl (fun h_98 => ?_) (fun h_98 => ?_)
  · refine w_inc (y := _ + 1) rfl rfl rfl ?_
    refine w_norm (L' := [(0, _), (1, _), (2, _), (3, _), (4, _), (5, _)]) rfl ?_
    refine w_go rfl ?_
    refine w_keep [0, 1, 2, 3, 4] (L' := [(0, _), (1, _), (2, _), (3, _), (4, _)]) rfl ?_
    rw [nI_1]
    have h9 := nle (by omega) (by omega) h_98
    exact hk ML' (fun j p hp => hD j p (by have := (List.getElem?_eq_some_iff.mp hp).1; omega) hp)
  · have hlt : e < (srch N E l h true a).length := nnle (by omega) (by omega) h_98
    have ⟨p, hp⟩ : ∃ p, (srch N E l h true a)[e]? = some p := ⟨_, List.getElem?_eq_getElem hlt⟩
    have hp1 := hlt9 e p hp
    refine w_ld rfl rfl ?_
    refine w_getr rfl rfl rfl rfl rfl ?_
    refine w_ld rfl rfl ?_
    refine w_getr rfl rfl rfl rfl rfl ?_
    refine w_ld rfl rfl ?_
    refine w_call (as := [_, _]) (rest := [_]) rfl rfl rfl rfl rfl rfl rfl rfl (ok_at_v _ _ _ rfl rfl rfl (rfl) (by omega) (hB.1 e p hp)) ?_
    refine w_ld rfl rfl ?_
    refine w_getr rfl rfl rfl rfl rfl ?_
    refine w_ld rfl rfl ?_
    refine w_getr rfl rfl rfl rfl rfl ?_
    refine w_ld rfl rfl ?_
    refine w_call (as := [_, _]) (rest := [_, _, _]) rfl rfl rfl rfl rfl rfl rfl rfl (ok_at_v _ _ _ rfl rfl rfl (rfl) (by omega) (hB.1 e p hp)) ?_
    refine w_call (as := [_, _]) (rest := [_, _]) rfl rfl rfl rfl rfl rfl rfl rfl (ok_longAt_v _ _ _ rfl rfl rfl (rfl) (by omega) (hA e p hp)) ?_
    refine w_callv (as := [_, _, _]) (rest := []) rfl rfl rfl rfl rfl rfl rfl rfl (ok_layLong_n _ _ _ _ _ rfl rfl rfl (rfl) (by omega)) ?_
    refine w_inc (y := _ + 1) rfl rfl rfl ?_
    refine w_norm (L' := [(0, _), (1, _), (2, _), (3, _), (4, _), (5, _)]) rfl ?_
    refine w_go rfl ?_
    rw [nI_1]
    refine ih hlt _ (fun j q hq => ?_) (fun j q hj hq => ?_)
    · rw [up2L_row (by decide)]
      exact hA j q hq
    · by_cases c : q.1 = p.1
      · rw [c, up2L_e]
      · rw [up2L_k c]
        refine hD j q ?_ hq
        rcases Nat.lt_or_ge j e with w | w
        · exact w
        · have : j = e := by omega
          subst this
          rw [hp] at hq
          exact absurd (congrArg Prod.fst (Option.some.inj hq).symm) c

set_option maxHeartbeats 1000000 in
set_option maxRecDepth 10000 in
theorem lp_X9_rowsOf_47 {d : Nat} {M : Mm} {ML : Ml} {N E A : Nat} {l h : Nat → Nat} (hS : NS M 2 3 4 5 6 N E A l h) (hW : WN N E A l h) {a n : Nat} (ha : a < 2 ^ E) (hn : n ≤ 12) (hB : BQ M 35 36 1024 (srch N E l h true a)) (hs : M 34 2 = nI (srch N E l h true a).length) {k : Nat} (hk : ∀ ML', (∀ (j : Nat) (p : Nat × Nat), (srch N E l h true a)[j]? = some p → ML' 37 p.1 = lN (wN (gF E l h true) (tF E l h) N (k + 1) p.1)) → WP (d + 3) cd_X9_rowsOf false (fun r M2 L2 => r = some (.long (lN (wN (gF E l h true) (tF E l h) N n a))) ∧ M2 = M) (38, [(0, .ref 34), (1, .ref 2), (2, .int (nI a)), (3, .int (nI n)), (4, .int (nI (k + 1)))], [], (SH, M, ML'))) : ∀ e, e ≤ (srch N E l h true a).length → ∀ ML', (∀ (j : Nat) (p : Nat × Nat), (srch N E l h true a)[j]? = some p → ML' 37 p.1 = lN (wN (gF E l h true) (tF E l h) N k p.1)) → (∀ (j : Nat) (p : Nat × Nat), j < e → (srch N E l h true a)[j]? = some p → ML' 38 p.1 = lN (wN (gF E l h true) (tF E l h) N (k + 1) p.1)) → WP (d + 3) cd_X9_rowsOf false (fun r M2 L2 => r = some (.long (lN (wN (gF E l h true) (tF E l h) N n a))) ∧ M2 = M) (47, [(0, .ref 34), (1, .ref 2), (2, .int (nI a)), (3, .int (nI n)), (4, .int (nI k)), (5, .int (nI e))], [], (SH, M, ML')) := by
  have hN7 := hW.2.1
  have hE10 := hW.2.2.1
  have h1024 := pow_b hE10
  have hI := srch_Iv (N := N) (l := l) (h := h) (s := true) ha
  have hlen := Iv_len hI
  have hlt9 : ∀ (k : Nat) (p : Nat × Nat), (srch N E l h true a)[k]? = some p → p.1 < 2 ^ E := fun k p hp => (hI.2.1 k p hp).1
  have hcl : ∀ (j : Nat) (p : Nat × Nat), (srch N E l h true a)[j]? = some p → ∀ v, v < N → gF E l h true p.1 v = true → ∃ (j2 : Nat) (q : Nat × Nat), (srch N E l h true a)[j2]? = some q ∧ q.1 = tF E l h p.1 v := fun j p hp v hv hg => by
    have hj := (List.getElem?_eq_some_iff.mp hp).1
    obtain ⟨d9, hd, -⟩ := hI.2.2.2.2.1 j (by omega) p hp v hv hg
    obtain ⟨k9, hk9⟩ := dl_mem hd
    exact ⟨k9, _, hk9, rfl⟩
  refine up_ind fun e he ih => ?_
  intro ML' hA hD
  refine w_ld rfl rfl ?_
  refine w_ld rfl rfl ?_
  refine w_getv rfl rfl rfl rfl rfl (hs) ?_
  refine w_cj rfl rfl (fun h_53 => ?_) (fun h_53 => ?_)
  · refine w_cst (v := .int 0) rfl rfl ?_
    refine w_sto (L' := [(0, _), (1, _), (2, _), (3, _), (4, _), (5, _)]) rfl rfl ?_
    have h9 := nle (by omega) (by omega) h_53
    exact lp_X9_rowsOf_92 (ML := ML) hS hW ha hn hB hs hk 0 (Nat.zero_le _) ML' (fun j p hp => hD j p (by have := (List.getElem?_eq_some_iff.mp hp).1; omega) hp) (fun j p hj => absurd hj (Nat.not_lt_zero j))
  · have hlt : e < (srch N E l h true a).length := nnle (by omega) (by omega) h_53
    have ⟨p, hp⟩ : ∃ p, (srch N E l h true a)[e]? = some p := ⟨_, List.getElem?_eq_getElem hlt⟩
    have hp1 := hlt9 e p hp
    refine w_ld rfl rfl ?_
    refine w_getr rfl rfl rfl rfl rfl ?_
    refine w_ld rfl rfl ?_
    refine w_call (as := [_, _]) (rest := []) rfl rfl rfl rfl rfl rfl rfl rfl (ok_at_v _ _ _ rfl rfl rfl (rfl) (by omega) (hB.1 e p hp)) ?_
    refine w_sto (L' := [(0, _), (1, _), (2, _), (3, _), (4, _), (5, _), (6, _)]) rfl rfl ?_
    refine w_ld rfl rfl ?_
    refine w_getr rfl rfl rfl rfl rfl ?_
    refine w_ld rfl rfl ?_
    refine w_ld rfl rfl ?_
    refine w_ld rfl rfl ?_
    refine w_ld rfl rfl ?_
    refine w_call (as := [_, _, _]) (rest := [_, _]) rfl rfl rfl rfl rfl rfl rfl rfl (EX_ex (ok_X9_rowsBehindOne (k := k) hS hW hp1 (fun v hv hg => by
  obtain ⟨j2, q, hq, e2⟩ := hcl e p hp v hv hg
  rw [← e2]
  exact hA j2 q hq))) ?_
    refine w_callv (as := [_, _, _]) (rest := []) rfl rfl rfl rfl rfl rfl rfl rfl (ok_layLong_n _ _ _ _ _ rfl rfl rfl (rfl) (by omega)) ?_
    refine w_inc (y := _ + 1) rfl rfl rfl ?_
    refine w_norm (L' := [(0, _), (1, _), (2, _), (3, _), (4, _), (5, _), (6, _)]) rfl ?_
    refine w_go rfl ?_
    refine w_keep [0, 1, 2, 3, 4, 5] (L' := [(0, _), (1, _), (2, _), (3, _), (4, _), (5, _)]) rfl ?_
    rw [nI_1]
    refine ih hlt _ (fun j q hq => ?_) (fun j q hj hq => ?_)
    · rw [up2L_row (by decide)]
      exact hA j q hq
    · by_cases c : q.1 = p.1
      · rw [c, up2L_e]
      · rw [up2L_k c]
        refine hD j q ?_ hq
        rcases Nat.lt_or_ge j e with w | w
        · exact w
        · have : j = e := by omega
          subst this
          rw [hp] at hq
          exact absurd (congrArg Prod.fst (Option.some.inj hq).symm) c

set_option maxHeartbeats 1000000 in
set_option maxRecDepth 10000 in
theorem lp_X9_rowsOf_38 {d : Nat} {M : Mm} {ML : Ml} {N E A : Nat} {l h : Nat → Nat} (hS : NS M 2 3 4 5 6 N E A l h) (hW : WN N E A l h) {a n : Nat} (ha : a < 2 ^ E) (hn : n ≤ 12) (hB : BQ M 35 36 1024 (srch N E l h true a)) (hs : M 34 2 = nI (srch N E l h true a).length) : ∀ k, k ≤ n → ∀ ML', (∀ (j : Nat) (p : Nat × Nat), (srch N E l h true a)[j]? = some p → ML' 37 p.1 = lN (wN (gF E l h true) (tF E l h) N k p.1)) → WP (d + 3) cd_X9_rowsOf false (fun r M2 L2 => r = some (.long (lN (wN (gF E l h true) (tF E l h) N n a))) ∧ M2 = M) (38, [(0, .ref 34), (1, .ref 2), (2, .int (nI a)), (3, .int (nI n)), (4, .int (nI k))], [], (SH, M, ML')) := by
  have hN7 := hW.2.1
  have hE10 := hW.2.2.1
  have h1024 := pow_b hE10
  have hI := srch_Iv (N := N) (l := l) (h := h) (s := true) ha
  have hlen := Iv_len hI
  have hlt9 : ∀ (k : Nat) (p : Nat × Nat), (srch N E l h true a)[k]? = some p → p.1 < 2 ^ E := fun k p hp => (hI.2.1 k p hp).1
  refine up_ind fun k hk ih => ?_
  intro ML' hA
  refine w_ld rfl rfl ?_
  refine w_ld rfl rfl ?_
  refine w_cj rfl rfl (fun h_41 => ?_) (fun h_41 => ?_)
  · have h9 : k = n := by have := nle (by omega) (by omega) h_41; omega
    subst h9
    obtain ⟨j0, hj0⟩ := dl_mem hI.1
    refine w_ld rfl rfl ?_
    refine w_getr rfl rfl rfl rfl rfl ?_
    refine w_ld rfl rfl ?_
    refine w_call (as := [_, _]) (rest := []) rfl rfl rfl rfl rfl rfl rfl rfl (ok_longAt_v _ _ _ rfl rfl rfl (rfl) (by omega) (hA j0 _ hj0)) ?_
    refine w_ret rfl rfl (trivial) ?_
    exact ⟨rfl, rfl⟩
  · have hlt : k < n := nnle (by omega) (by omega) h_41
    refine w_cst (v := .int 0) rfl rfl ?_
    refine w_sto (L' := [(0, _), (1, _), (2, _), (3, _), (4, _), (5, _)]) rfl rfl ?_
    exact lp_X9_rowsOf_47 (ML := ML) hS hW ha hn hB hs (fun ML9 h9 => ih hlt ML9 h9) 0 (Nat.zero_le _) ML' hA (fun j p hj => absurd hj (Nat.not_lt_zero j))

set_option maxHeartbeats 1000000 in
set_option maxRecDepth 10000 in
theorem lp_X9_rowsOf_3 {d : Nat} {M : Mm} {ML : Ml} {N E A : Nat} {l h : Nat → Nat} (hS : NS M 2 3 4 5 6 N E A l h) (hW : WN N E A l h) {a n : Nat} (ha : a < 2 ^ E) (hn : n ≤ 12) (hB : BQ M 35 36 1024 (srch N E l h true a)) (hs : M 34 2 = nI (srch N E l h true a).length) : ∀ e, e ≤ (srch N E l h true a).length → ∀ ML', (∀ (j : Nat) (p : Nat × Nat), j < e → (srch N E l h true a)[j]? = some p → ML' 37 p.1 = lN (wN (gF E l h true) (tF E l h) N 0 p.1)) → WP (d + 3) cd_X9_rowsOf false (fun r M2 L2 => r = some (.long (lN (wN (gF E l h true) (tF E l h) N n a))) ∧ M2 = M) (3, [(0, .ref 34), (1, .ref 2), (2, .int (nI a)), (3, .int (nI n)), (4, .int (nI e))], [], (SH, M, ML')) := by
  have hN7 := hW.2.1
  have hE10 := hW.2.2.1
  have h1024 := pow_b hE10
  have hI := srch_Iv (N := N) (l := l) (h := h) (s := true) ha
  have hlen := Iv_len hI
  have hlt9 : ∀ (k : Nat) (p : Nat × Nat), (srch N E l h true a)[k]? = some p → p.1 < 2 ^ E := fun k p hp => (hI.2.1 k p hp).1
  refine up_ind fun e he ih => ?_
  intro ML' hD
  refine w_ld rfl rfl ?_
  refine w_ld rfl rfl ?_
  refine w_getv rfl rfl rfl rfl rfl (hs) ?_
  refine w_cj rfl rfl (fun h_9 => ?_) (fun h_9 => ?_)
  · refine w_cst (v := .int 0) rfl rfl ?_
    refine w_sto (L' := [(0, _), (1, _), (2, _), (3, _), (4, _)]) rfl rfl ?_
    have h9 := nle (by omega) (by omega) h_9
    exact lp_X9_rowsOf_38 (ML := ML) hS hW ha hn hB hs 0 (Nat.zero_le _) ML' (fun j p hp => hD j p (by have := (List.getElem?_eq_some_iff.mp hp).1; omega) hp)
  · have hlt : e < (srch N E l h true a).length := nnle (by omega) (by omega) h_9
    have ⟨p, hp⟩ : ∃ p, (srch N E l h true a)[e]? = some p := ⟨_, List.getElem?_eq_getElem hlt⟩
    have hp1 := hlt9 e p hp
    refine w_ld rfl rfl ?_
    refine w_getr rfl rfl rfl rfl rfl ?_
    refine w_ld rfl rfl ?_
    refine w_getr rfl rfl rfl rfl rfl ?_
    refine w_ld rfl rfl ?_
    refine w_call (as := [_, _]) (rest := [_]) rfl rfl rfl rfl rfl rfl rfl rfl (ok_at_v _ _ _ rfl rfl rfl (rfl) (by omega) (hB.1 e p hp)) ?_
    refine w_cst (v := .long 1) rfl rfl ?_
    refine w_callv (as := [_, _, _]) (rest := []) rfl rfl rfl rfl rfl rfl rfl rfl (ok_layLong_n _ _ _ _ _ rfl rfl rfl (rfl) (by omega)) ?_
    refine w_inc (y := _ + 1) rfl rfl rfl ?_
    refine w_norm (L' := [(0, _), (1, _), (2, _), (3, _), (4, _)]) rfl ?_
    refine w_go rfl ?_
    rw [nI_1]
    refine ih hlt _ (fun j q hj hq => ?_)
    by_cases c : q.1 = p.1
    · rw [c, up2L_e]
      rfl
    · rw [up2L_k c]
      refine hD j q ?_ hq
      rcases Nat.lt_or_ge j e with w | w
      · exact w
      · have : j = e := by omega
        subst this
        rw [hp] at hq
        exact absurd (congrArg Prod.fst (Option.some.inj hq).symm) c

set_option maxHeartbeats 1000000 in
set_option maxRecDepth 10000 in
theorem ok_X9_rowsOf {d : Nat} {M : Mm} {ML : Ml} {N E A : Nat} {l h : Nat → Nat} (hS : NS M 2 3 4 5 6 N E A l h) (hW : WN N E A l h) {a n : Nat} (ha : a < 2 ^ E) (hn : n ≤ 12) (hB : BQ M 35 36 1024 (srch N E l h true a)) (hs : M 34 2 = nI (srch N E l h true a).length) : EX (d + 4) k_X9_rowsOf [.ref 34, .ref 2, .int (nI a), .int (nI n)] M ML (fun r M2 L2 => r = some (.long (lN (wN (gF E l h true) (tF E l h) N n a))) ∧ M2 = M) := by
  refine EX_in mi_X9_rowsOf rfl rfl ?_
  show WP _ cd_X9_rowsOf false _ (0, [(0, .ref 34), (1, .ref 2), (2, .int (nI a)), (3, .int (nI n))], [], (SH, M, ML))
  refine w_cst (v := .int 0) rfl rfl ?_
  refine w_sto (L' := [(0, _), (1, _), (2, _), (3, _), (4, _)]) rfl rfl ?_
  exact lp_X9_rowsOf_3 (ML := ML) hS hW ha hn hB hs 0 (Nat.zero_le _) ML (fun j p hj => absurd hj (Nat.not_lt_zero j))

def NOv : Int64 := Int64.ofInt (-9223372036854775808)
def waysA (N E : Nat) (l h : Nat → Nat) (x y : Int32) : Int64 := bif inR x (2 ^ E) && wh y 12 then lN (wN (gF E l h true) (tF E l h) N y.toNatClampNeg x.toNatClampNeg) else NOv

set_option maxHeartbeats 1000000 in
set_option maxRecDepth 10000 in
theorem ok_X11_ways {d : Nat} {M : Mm} {ML : Ml} {N E A : Nat} {l h : Nat → Nat} (hS : NS M 2 3 4 5 6 N E A l h) (hW : WN N E A l h) (hw : WS M) {x y : Int32} : EX (d + 5) k_X11_ways [.ref 1, .int x, .int y] M ML (fun r M2 L2 => r = some (.long (waysA N E l h x y)) ∧ Fr [34, 35, 36] M M2 ∧ WS M2) := by
  refine EX_in mi_X11_ways rfl rfl ?_
  show WP _ cd_X11_ways false _ (0, [(0, .ref 1), (1, .int x), (2, .int y)], [], (SH, M, ML))
  have hE10 := hW.2.2.1
  have h1024 := pow_b hE10
  refine w_ld rfl rfl ?_
  refine w_getr rfl rfl rfl rfl rfl ?_
  refine w_ld rfl rfl ?_
  refine w_cife (as := [_, _]) (rest := []) rfl rfl rfl rfl rfl rfl rfl rfl (ok_X4_hasArrowing _ _ _ _ hS.2.1 hW.2.2.1) rfl (fun h_5 => ?_) (fun h_5 => ?_)
  · refine w_ldl rfl ?_
    refine w_ret rfl rfl (trivial) ?_
    refine ⟨?_, Fr_rf, hw⟩
    unfold waysA
    first
      | (rw [h_5]; rfl)
      | (rw [h_5, wh_no1 h_12]; rfl)
      | (rw [h_5, wh_no2 (n := 12) (nle_lt.mp h_18)]; rfl)
  · refine w_ld rfl rfl ?_
    refine w_cj rfl rfl (fun h_12 => ?_) (fun h_12 => ?_)
    · refine w_ldl rfl ?_
      refine w_ret rfl rfl (trivial) ?_
      refine ⟨?_, Fr_rf, hw⟩
      unfold waysA
      first
        | (rw [h_5]; rfl)
        | (rw [h_5, wh_no1 h_12]; rfl)
        | (rw [h_5, wh_no2 (n := 12) (nle_lt.mp h_18)]; rfl)
    · refine w_ld rfl rfl ?_
      refine w_cst (v := .int 12) rfl rfl ?_
      refine w_cj rfl rfl (fun h_18 => ?_) (fun h_18 => ?_)
      · obtain ⟨a, ha, rfl⟩ := inR_ex (by omega) h_5
        obtain ⟨n, hn, rfl⟩ := wh_ex (by decide) (wh_yes (n := 12) h_12 h_18)
        refine w_ld rfl rfl ?_
        refine w_getr rfl rfl rfl rfl rfl ?_
        refine w_ld rfl rfl ?_
        refine w_getr rfl rfl rfl rfl rfl ?_
        refine w_ld rfl rfl ?_
        obtain ⟨_, M3, L3, ⟨rfl, rfl, hF, hB, hs⟩, hE34⟩ := ok_X9_searchOn (d := d) (ML := ML) (M := M) hS hW ha hw
        refine w_callv (as := [_, _, _]) (rest := []) rfl rfl rfl rfl rfl rfl rfl rfl hE34 ?_
        refine w_ld rfl rfl ?_
        refine w_getr rfl rfl rfl rfl rfl ?_
        refine w_ld rfl rfl ?_
        refine w_getr rfl rfl rfl rfl rfl ?_
        refine w_ld rfl rfl ?_
        refine w_ld rfl rfl ?_
        obtain ⟨_, M4, L4, ⟨rfl, rfl⟩, hE47⟩ := ok_X9_rowsOf (d := d) (ML := L3) (NS_Fr hS hF (by decide)) hW ha hn hB hs
        refine w_call (as := [_, _, _, _]) (rest := []) rfl rfl rfl rfl rfl rfl rfl rfl hE47 ?_
        refine w_ret rfl rfl (trivial) ?_
        refine ⟨?_, hF, WS_of ha hE10 hB hs⟩
        unfold waysA
        rw [h_5, wh_yes (n := 12) h_12 h_18, nI_clamp (by omega), nI_clamp (by omega)]
        exact rfl
      · refine w_ldl rfl ?_
        refine w_ret rfl rfl (trivial) ?_
        refine ⟨?_, Fr_rf, hw⟩
        unfold waysA
        first
          | (rw [h_5]; rfl)
          | (rw [h_5, wh_no1 h_12]; rfl)
          | (rw [h_5, wh_no2 (n := 12) (nle_lt.mp h_18)]; rfl)

