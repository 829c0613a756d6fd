/-! ===== classes of the class ===== -/
noncomputable def frB (E : Nat) (l h : Nat → Nat) (a : Nat) : Bool := freeB E l h (nI a)
def eqB (l h : Nat → Nat) (E a b : Nat) : Bool := eqF l h E (nI a) (nI b)
theorem eqB_ER (l h : Nat → Nat) (E : Nat) : ER (eqB l h E) := by
  refine ⟨fun a => decide_eq_true fun c _ _ => rfl, fun a b q => decide_eq_true fun c hc hch => ?_, fun a b c q1 q2 => decide_eq_true fun e he hch => ?_⟩
  · exact (of_decide_eq_true q c hc hch).symm
  · exact (of_decide_eq_true q1 e he hch).trans (of_decide_eq_true q2 e he hch)
noncomputable abbrev clC (l h : Nat → Nat) (E : Nat) : Nat := hdc (frB E l h) (eqB l h E) (2 ^ E)
noncomputable abbrev clS (l h : Nat → Nat) (E k : Nat) : Nat := szN (frB E l h) (eqB l h E) (2 ^ E) k
noncomputable abbrev clI (l h : Nat → Nat) (E a : Nat) : Nat := idx (frB E l h) (eqB l h E) a
noncomputable def clH (l h : Nat → Nat) (E k : Nat) : Nat := fa_first (fun a => isHd (frB E l h) (eqB l h E) a && decide (hdc (frB E l h) (eqB l h E) a = k)) (2 ^ E)
theorem clH_of {l h : Nat → Nat} {E c : Nat} (hc : c < 2 ^ E) (hh : isHd (frB E l h) (eqB l h E) c = true) : clH l h E (hdc (frB E l h) (eqB l h E) c) = c :=
  ff_eq hc (by rw [hh, decide_eq_true rfl]; rfl) (fun i hi => Bool.eq_false_iff.mpr fun w => by
    rw [Bool.and_eq_true] at w
    have := hdc_one w.1 hh (of_decide_eq_true w.2)
    omega)
noncomputable def hoV (l h : Nat → Nat) (E a : Nat) : Int32 := if frB E l h a = true then nI (clI l h E a) else -1
theorem kcM_same {M M' : Mm} {a : Nat} (h1 : M' 20 = M 20) (h2 : M' 21 = M 21) : ∀ k, kcM M' a k = kcM M a k
  | 0 => rfl
  | k + 1 => by
    rw [kcM, kcM, kcM_same h1 h2 k]
    unfold agN
    rw [h1, h2]

set_option maxHeartbeats 1000000 in
set_option maxRecDepth 10000 in
theorem lp_X0_join_40y {d : Nat} {M : Mm} {ML : Ml} {E : Nat} {l h : Nat → Nat} {K : Nat → Nat} {a : Nat} (hE : E ≤ 10) (ha : a < 2 ^ E) (hK : ∀ c, c ≤ a → (K c = K a ↔ eqB l h E c a = true)) (hKb : ∀ c, c ≤ a → K c < 2 ^ 62) (hC : CK (frB E l h) (eqB l h E) K (M 24 2) (M 27) (M 26) (ML 30) a) (hp : frB E l h a = true) (hh : isHd (frB E l h) (eqB l h E) a = true) : WP (d + 1) cd_X0_join false (fun r M2 L2 => r = some (.int (nI (idx (frB E l h) (eqB l h E) a))) ∧ Fr [24, 26, 27] M M2 ∧ CK (frB E l h) (eqB l h E) K (M2 24 2) (M2 27) (M2 26) (L2 30) (a + 1) ∧ M2 24 1 = M 24 1 ∧ M2 24 0 = M 24 0) (40, [(0, .ref 24), (1, .int (nI a)), (2, .long (lN (K a))), (4, .int (nI (idx (frB E l h) (eqB l h E) a)))], [], (SH, M, ML)) := by
  have h1024 := pow_b hE
  have hER := eqB_ER l h E
  have hca := hdc_le (p := frB E l h) (r := eqB l h E) a
  have hia := idx_lt hER hp (Nat.lt_succ_self a)
  have hid := idx_hd hER hh
  have hcn := hC.1
  refine w_ld rfl rfl ?_
  refine w_ld rfl rfl ?_
  refine w_getv rfl rfl rfl rfl rfl (hcn) ?_
  refine w_cjF rfl rfl (fun q => q (by rw [hid])) ?_
  refine w_ld rfl rfl ?_
  refine w_ld rfl rfl ?_
  refine w_getr rfl rfl rfl rfl rfl ?_
  refine w_len rfl rfl rfl rfl ?_
  refine w_cjF rfl rfl (fun q => absurd (nle (a := 1024) (by decide) (by omega) q) (by omega)) ?_
  refine w_ld rfl rfl ?_
  refine w_getr rfl rfl rfl rfl rfl ?_
  refine w_ld rfl rfl ?_
  refine w_ld rfl rfl ?_
  refine w_sln rfl rfl rfl (rfl) (by omega) rfl ?_
  refine w_ld rfl rfl ?_
  refine w_getr rfl rfl rfl rfl rfl ?_
  refine w_ld rfl rfl ?_
  refine w_cst (v := .int 0) rfl rfl ?_
  refine w_callv (as := [_, _, _]) (rest := []) rfl rfl rfl rfl rfl rfl rfl rfl (ok_lay_n _ _ _ _ _ rfl rfl rfl (rfl) (by omega)) ?_
  refine w_ld rfl rfl ?_
  refine w_getr rfl rfl rfl rfl rfl ?_
  refine w_ld rfl rfl ?_
  refine w_ld rfl rfl ?_
  refine w_callv (as := [_, _, _]) (rest := []) rfl rfl rfl rfl rfl rfl rfl rfl (ok_lay_n _ _ _ _ _ rfl rfl rfl (rfl) (by omega)) ?_
  refine w_ld rfl rfl ?_
  refine w_stk rfl rfl ?_
  refine w_getv rfl rfl rfl rfl rfl (Eq.trans (by rw [up2_row (by decide), up2_row (by decide)]) (hcn)) ?_
  refine w_cst (v := .int 1) rfl rfl ?_
  refine w_bin rfl rfl ?_
  rw [nI_1]
  refine w_put rfl rfl rfl rfl rfl (Or.inl rfl) ?_
  refine w_ld rfl rfl ?_
  refine w_getr rfl rfl rfl rfl rfl ?_
  refine w_ld rfl rfl ?_
  refine w_ld rfl rfl ?_
  refine w_getr rfl rfl rfl rfl rfl ?_
  refine w_ld rfl rfl ?_
  refine w_call (as := [_, _]) (rest := [_, _]) rfl rfl rfl rfl rfl rfl rfl rfl (ok_at_v _ _ _ rfl rfl rfl (rfl) (by omega) (Eq.trans (by rw [up2_row (by decide), up2_row (by decide)]) up2_e)) ?_
  refine w_cst (v := .int 1) rfl rfl ?_
  refine w_bin rfl rfl ?_
  refine w_callv (as := [_, _, _]) (rest := []) rfl rfl rfl rfl rfl rfl rfl rfl (ok_lay_n _ _ _ _ _ rfl rfl rfl (rfl) (by omega)) ?_
  refine w_ld rfl rfl ?_
  refine w_ret rfl rfl (trivial) ?_
  refine ⟨rfl, Fr_up (by decide) (Fr_up (by decide) (Fr_up (by decide) (Fr_up (by decide) Fr_rf))), CK_new hER hC hh ?_ (fun k hk => ⟨?_, ?_, ?_⟩) ?_ ?_ ?_, ?_, ?_⟩
  · rw [up2_row (by decide), up2_e]
  · rw [up2_row (by decide), up2_row (by decide), up2_k (by omega), up2_row (by decide)]
  · rw [up2L_k (by omega)]
  · rw [up2_k (by omega), up2_row (by decide), up2_row (by decide), up2_k (by omega)]
  · rw [up2_row (by decide), up2_row (by decide), ← hid, up2_e]
  · rw [← hid, up2_e]
    rfl
  · rw [← hid, up2L_e]
  · rw [up2_row (by decide), up2_k (by decide), up2_row (by decide), up2_row (by decide)]
  · rw [up2_row (by decide), up2_k (by decide), up2_row (by decide), up2_row (by decide)]

set_option maxHeartbeats 1000000 in
set_option maxRecDepth 10000 in
theorem lp_X0_join_40n {d : Nat} {M : Mm} {ML : Ml} {E : Nat} {l h : Nat → Nat} {K : Nat → Nat} {a : Nat} (hE : E ≤ 10) (ha : a < 2 ^ E) (hK : ∀ c, c ≤ a → (K c = K a ↔ eqB l h E c a = true)) (hKb : ∀ c, c ≤ a → K c < 2 ^ 62) (hC : CK (frB E l h) (eqB l h E) K (M 24 2) (M 27) (M 26) (ML 30) a) (hp : frB E l h a = true) (hh : isHd (frB E l h) (eqB l h E) a = false) : WP (d + 1) cd_X0_join false (fun r M2 L2 => r = some (.int (nI (idx (frB E l h) (eqB l h E) a))) ∧ Fr [24, 26, 27] M M2 ∧ CK (frB E l h) (eqB l h E) K (M2 24 2) (M2 27) (M2 26) (L2 30) (a + 1) ∧ M2 24 1 = M 24 1 ∧ M2 24 0 = M 24 0) (40, [(0, .ref 24), (1, .int (nI a)), (2, .long (lN (K a))), (4, .int (nI (idx (frB E l h) (eqB l h E) a)))], [], (SH, M, ML)) := by
  have h1024 := pow_b hE
  have hER := eqB_ER l h E
  have hca := hdc_le (p := frB E l h) (r := eqB l h E) a
  have hia := idx_lt hER hp (Nat.lt_succ_self a)
  have hcn := hC.1
  obtain ⟨b1, b2, b3, b4⟩ := hdo_1 hER hp
  have hlt := hdo_lt hER hp hh
  have hil : idx (frB E l h) (eqB l h E) a < hdc (frB E l h) (eqB l h E) a := hdc_lt b4 hlt
  have hsz : M 26 (idx (frB E l h) (eqB l h E) a) = nI (szN (frB E l h) (eqB l h E) a (idx (frB E l h) (eqB l h E) a)) := (hC.2 _ hlt b4).2.1
  refine w_ld rfl rfl ?_
  refine w_ld rfl rfl ?_
  refine w_getv rfl rfl rfl rfl rfl (hcn) ?_
  refine w_cjT rfl rfl (fun q => absurd (neq (by omega) (by omega) q) (by omega)) ?_
  refine w_ld rfl rfl ?_
  refine w_getr rfl rfl rfl rfl rfl ?_
  refine w_ld rfl rfl ?_
  refine w_ld rfl rfl ?_
  refine w_getr rfl rfl rfl rfl rfl ?_
  refine w_ld rfl rfl ?_
  refine w_call (as := [_, _]) (rest := [_, _]) rfl rfl rfl rfl rfl rfl rfl rfl (ok_at_v _ _ _ rfl rfl rfl (rfl) (by omega) (hsz)) ?_
  refine w_cst (v := .int 1) rfl rfl ?_
  refine w_bin rfl rfl ?_
  rw [nI_1]
  refine w_callv (as := [_, _, _]) (rest := []) rfl rfl rfl rfl rfl rfl rfl rfl (ok_lay_n _ _ _ _ _ rfl rfl rfl (rfl) (by omega)) ?_
  refine w_ld rfl rfl ?_
  refine w_ret rfl rfl (trivial) ?_
  refine ⟨rfl, Fr_up (by decide) Fr_rf, CK_old hER hC hp hh ?_ (fun k hk => ⟨?_, rfl⟩) (fun k hk => ?_) ?_, ?_, ?_⟩
  · rw [up2_row (by decide)]
  · rw [up2_row (by decide)]
  · rw [up2_k hk]
  · rw [up2_e]
  · rw [up2_row (by decide)]
  · rw [up2_row (by decide)]

set_option maxHeartbeats 1000000 in
set_option maxRecDepth 10000 in
theorem lp_X0_join_3 {d : Nat} {M : Mm} {ML : Ml} {E : Nat} {l h : Nat → Nat} {K : Nat → Nat} {a : Nat} (hE : E ≤ 10) (ha : a < 2 ^ E) (hK : ∀ c, c ≤ a → (K c = K a ↔ eqB l h E c a = true)) (hKb : ∀ c, c ≤ a → K c < 2 ^ 62) (hC : CK (frB E l h) (eqB l h E) K (M 24 2) (M 27) (M 26) (ML 30) a) (hp : frB E l h a = true) : ∀ k, k ≤ idx (frB E l h) (eqB l h E) a → WP (d + 1) cd_X0_join false (fun r M2 L2 => r = some (.int (nI (idx (frB E l h) (eqB l h E) a))) ∧ Fr [24, 26, 27] M M2 ∧ CK (frB E l h) (eqB l h E) K (M2 24 2) (M2 27) (M2 26) (L2 30) (a + 1) ∧ M2 24 1 = M 24 1 ∧ M2 24 0 = M 24 0) (3, [(0, .ref 24), (1, .int (nI a)), (2, .long (lN (K a))), (4, .int (nI k))], [], (SH, M, ML)) := by
  have h1024 := pow_b hE
  have hER := eqB_ER l h E
  have hca := hdc_le (p := frB E l h) (r := eqB l h E) a
  have hia := idx_lt hER hp (Nat.lt_succ_self a)
  have hcn := hC.1
  have hiu : idx (frB E l h) (eqB l h E) a ≤ hdc (frB E l h) (eqB l h E) a := by
    cases hh : isHd (frB E l h) (eqB l h E) a with
    | true => rw [idx_hd hER hh]; exact Nat.le_refl _
    | false =>
      obtain ⟨b1, b2, b3, b4⟩ := hdo_1 hER hp
      exact Nat.le_of_lt (hdc_lt b4 (hdo_lt hER hp hh))
  have hfin : WP (d + 1) cd_X0_join false (fun r M2 L2 => r = some (.int (nI (idx (frB E l h) (eqB l h E) a))) ∧ Fr [24, 26, 27] M M2 ∧ CK (frB E l h) (eqB l h E) K (M2 24 2) (M2 27) (M2 26) (L2 30) (a + 1) ∧ M2 24 1 = M 24 1 ∧ M2 24 0 = M 24 0) (40, [(0, .ref 24), (1, .int (nI a)), (2, .long (lN (K a))), (4, .int (nI (idx (frB E l h) (eqB l h E) a)))], [], (SH, M, ML)) := by
    cases hh : isHd (frB E l h) (eqB l h E) a with
    | true => exact lp_X0_join_40y hE ha hK hKb hC hp hh
    | false => exact lp_X0_join_40n hE ha hK hKb hC hp hh
  refine up_ind fun k hk ih => ?_
  refine w_ld rfl rfl ?_
  refine w_ld rfl rfl ?_
  refine w_getv rfl rfl rfl rfl rfl (hcn) ?_
  refine w_cj rfl rfl (fun h_9 => ?_) (fun h_9 => ?_)
  · have hki : k = idx (frB E l h) (eqB l h E) a := by
      first
        | exact Nat.le_antisymm hk (Nat.le_trans hiu (nle (by omega) (by omega) h_9))
        | exact Nat.le_antisymm hk (Nat.not_lt.mp fun w => hfd.1 w ((lg_cmp_eq _ _).mp h_31))
    rw [hki]
    exact hfin
  · have hkc : k < hdc (frB E l h) (eqB l h E) a := nnle (by omega) (by omega) h_9
    have hfd := CK_find hER hK hKb hC hp hkc
    refine w_ld rfl rfl ?_
    refine w_ld rfl rfl ?_
    refine w_getr rfl rfl rfl rfl rfl ?_
    refine w_len rfl rfl rfl rfl ?_
    refine w_cjF rfl rfl (fun q => absurd (nle (a := 1024) (by decide) (by omega) q) (by omega)) ?_
    refine w_ld rfl rfl ?_
    refine w_getr rfl rfl rfl rfl rfl ?_
    refine w_ld rfl rfl ?_
    refine w_aln rfl rfl rfl (rfl) (by omega) rfl ?_
    refine w_ld rfl rfl ?_
    refine w_bin rfl rfl ?_
    refine w_cj rfl rfl (fun h_31 => ?_) (fun h_31 => ?_)
    · have hki : k = idx (frB E l h) (eqB l h E) a := by
        first
          | exact Nat.le_antisymm hk (Nat.le_trans hiu (nle (by omega) (by omega) h_9))
          | exact Nat.le_antisymm hk (Nat.not_lt.mp fun w => hfd.1 w ((lg_cmp_eq _ _).mp h_31))
      rw [hki]
      exact hfin
    · refine w_inc (y := _ + 1) rfl rfl rfl ?_
      refine w_norm (L' := [(0, _), (1, _), (2, _), (4, _)]) rfl ?_
      refine w_go rfl ?_
      rw [nI_1]
      refine ih (Nat.lt_of_le_of_ne hk fun w => ?_)
      exact h_31 ((lg_cmp_eq _ _).mpr (hfd.2 w))

set_option maxHeartbeats 1000000 in
set_option maxRecDepth 10000 in
theorem ok_X0_join {d : Nat} {M : Mm} {ML : Ml} {E : Nat} {l h : Nat → Nat} {K : Nat → Nat} {a : Nat} (hE : E ≤ 10) (ha : a < 2 ^ E) (hK : ∀ c, c ≤ a → (K c = K a ↔ eqB l h E c a = true)) (hKb : ∀ c, c ≤ a → K c < 2 ^ 62) (hC : CK (frB E l h) (eqB l h E) K (M 24 2) (M 27) (M 26) (ML 30) a) (hp : frB E l h a = true) : EX (d + 2) k_X0_join [.ref 24, .int (nI a), .long (lN (K a))] M ML (fun r M2 L2 => r = some (.int (nI (idx (frB E l h) (eqB l h E) a))) ∧ Fr [24, 26, 27] M M2 ∧ CK (frB E l h) (eqB l h E) K (M2 24 2) (M2 27) (M2 26) (L2 30) (a + 1) ∧ M2 24 1 = M 24 1 ∧ M2 24 0 = M 24 0) := by
  refine EX_in mi_X0_join rfl rfl ?_
  show WP _ cd_X0_join false _ (0, [(0, .ref 24), (1, .int (nI a)), (2, .long (lN (K a)))], [], (SH, M, ML))
  refine w_cst (v := .int 0) rfl rfl ?_
  refine w_sto (L' := [(0, _), (1, _), (2, _), (4, _)]) rfl rfl ?_
  exact lp_X0_join_3 hE ha hK hKb hC hp 0 (Nat.zero_le _)

set_option maxHeartbeats 1000000 in
set_option maxRecDepth 10000 in
theorem lp_X0_putInOrder_14 {d : Nat} {M : Mm} {ML : Ml} {E : Nat} {l h : Nat → Nat} (hE : E ≤ 10) (h2 : M 24 2 = nI (clC l h E)) (hs : ∀ k, k < clC l h E → M 26 k = nI (clS l h E k)) {k : Nat} (hk : k < clC l h E) (hr : ∀ M', Fr [28, 29] M M' → (∀ j, j < k + 1 → M' 28 j = nI (rkC (clS l h E) (clC l h E) j) ∧ M' 29 (rkC (clS l h E) (clC l h E) j) = nI j) → WP (d + 1) cd_X0_putInOrder false (fun r M2 L2 => r = none ∧ L2 = ML ∧ Fr [28, 29] M M2 ∧ ∀ k, k < clC l h E → M2 28 k = nI (rkC (clS l h E) (clC l h E) k) ∧ M2 29 (rkC (clS l h E) (clC l h E) k) = nI k) (2, [(0, .ref 24), (1, .int (nI (k + 1)))], [], (SH, M', ML))) : ∀ i, i ≤ clC l h E → ∀ M', Fr [28, 29] M M' → (∀ j, j < k → M' 28 j = nI (rkC (clS l h E) (clC l h E) j) ∧ M' 29 (rkC (clS l h E) (clC l h E) j) = nI j) → WP (d + 1) cd_X0_putInOrder false (fun r M2 L2 => r = none ∧ L2 = ML ∧ Fr [28, 29] M M2 ∧ ∀ k, k < clC l h E → M2 28 k = nI (rkC (clS l h E) (clC l h E) k) ∧ M2 29 (rkC (clS l h E) (clC l h E) k) = nI k) (14, [(0, .ref 24), (1, .int (nI k)), (2, .int (nI (fb_ct (fun i => decide (clS l h E k < clS l h E i ∨ (clS l h E i = clS l h E k ∧ i < k))) i))), (3, .int (nI i))], [], (SH, M', ML)) := by
  have h1024 := pow_b hE
  have hCl : clC l h E ≤ 2 ^ E := hdc_le _
  have hSl : ∀ k, clS l h E k ≤ 2 ^ E := fun k => szN_le _ k
  have hrk := rkC_lt (S := clS l h E) hk
  refine up_ind fun i hi ih => ?_
  intro M' hF hj
  have h2' : M' 24 2 = nI (clC l h E) := by rw [hF 24 (by decide)]; exact h2
  have hs' : ∀ k, k < clC l h E → M' 26 k = nI (clS l h E k) := fun k hk => by rw [hF 26 (by decide)]; exact hs k hk
  have hsk := hSl k
  have hah := fb_ct_le (fun i => decide (clS l h E k < clS l h E i ∨ (clS l h E i = clS l h E k ∧ i < k))) i
  refine w_ld rfl rfl ?_
  refine w_ld rfl rfl ?_
  refine w_getv rfl rfl rfl rfl rfl (h2') ?_
  refine w_cj rfl rfl (fun h_19 => ?_) (fun h_19 => ?_)
  · have h9 : i = clC l h E := by have := nle (by omega) (by omega) h_19; omega
    subst h9
    change WP _ _ _ _ (_, [_, _, (_, .int (nI (rkC (clS l h E) (clC l h E) k))), _], _)
    refine w_ld rfl rfl ?_
    refine w_getr rfl rfl rfl rfl rfl ?_
    refine w_ld rfl rfl ?_
    refine w_ld rfl rfl ?_
    refine w_callv (as := [_, _, _]) (rest := []) rfl rfl rfl rfl rfl rfl rfl rfl (ok_lay_n _ _ _ _ _ rfl rfl rfl (rfl) (by omega)) ?_
    refine w_ld rfl rfl ?_
    refine w_getr rfl rfl rfl rfl rfl ?_
    refine w_ld rfl rfl ?_
    refine w_ld rfl rfl ?_
    refine w_callv (as := [_, _, _]) (rest := []) rfl rfl rfl rfl rfl rfl rfl rfl (ok_lay_n _ _ _ _ _ rfl rfl rfl (rfl) (by omega)) ?_
    refine w_inc (y := _ + 1) rfl rfl rfl ?_
    refine w_norm (L' := [(0, _), (1, _), (2, _), (3, _)]) rfl ?_
    refine w_go rfl ?_
    refine w_keep [0, 1] (L' := [(0, _), (1, _)]) rfl ?_
    rw [nI_1]
    refine hr _ (Fr_up (by decide) (Fr_up (by decide) hF)) (fun j hjk => ?_)
    rw [up2_row (a := 29) (x := 28) (by decide)]
    by_cases q : j = k
    · rw [q, up2_e]
      exact ⟨rfl, up2_e⟩
    · rw [up2_k q]
      have hjk2 : j < k := by omega
      rw [up2_k (fun w => q (rkC_inj (S := clS l h E) (by omega) hk w)), up2_row (by decide)]
      exact hj j hjk2
  · have hlt : i < clC l h E := nnle (by omega) (by omega) h_19
    have hsi := hSl i
    refine w_ld rfl rfl ?_
    refine w_getr rfl rfl rfl rfl rfl ?_
    refine w_ld rfl rfl ?_
    refine w_call (as := [_, _]) (rest := []) rfl rfl rfl rfl rfl rfl rfl rfl (ok_at_v _ _ _ rfl rfl rfl (rfl) (by omega) (hs' i hlt)) ?_
    refine w_ld rfl rfl ?_
    refine w_getr rfl rfl rfl rfl rfl ?_
    refine w_ld rfl rfl ?_
    refine w_call (as := [_, _]) (rest := [_]) rfl rfl rfl rfl rfl rfl rfl rfl (ok_at_v _ _ _ rfl rfl rfl (rfl) (by omega) (hs' k hk)) ?_
    refine w_cj rfl rfl (fun h_38 => ?_) (fun h_38 => ?_)
    · refine w_inc (y := _ + 1) rfl rfl rfl ?_
      refine w_norm (L' := [(0, _), (1, _), (2, _), (3, _)]) rfl ?_
      refine w_inc (y := _ + 1) rfl rfl rfl ?_
      refine w_norm (L' := [(0, _), (1, _), (2, _), (3, _)]) rfl ?_
      refine w_go rfl ?_
      have hp := ih hlt M' hF hj
      rw [fb_ct_succ] at hp
      first
        | exact (fun (hw : clS l h E k < clS l h E i) => by
            rw [if_pos (decide_eq_true (Or.inl hw))] at hp
            rw [nI_1, nI_1]
            exact hp) (nlt (by omega) (by omega) h_38)
        | exact (fun (hw : clS l h E i = clS l h E k ∧ i < k) => by
            rw [if_pos (decide_eq_true (Or.inr hw))] at hp
            rw [nI_1, nI_1]
            exact hp) ⟨neq (by omega) (by omega) (Classical.not_not.mp h_57), nnle (by omega) (by omega) h_62⟩
        | exact (fun (hw : ¬ (clS l h E k < clS l h E i ∨ (clS l h E i = clS l h E k ∧ i < k))) => by
            rw [if_neg (fun w => hw (of_decide_eq_true w))] at hp
            rw [nI_1]
            exact hp) (fun w => w.elim (fun y => h_38 (nI_lt y (by omega))) (fun y => h_57 (congrArg nI y.1)))
        | exact (fun (hw : ¬ (clS l h E k < clS l h E i ∨ (clS l h E i = clS l h E k ∧ i < k))) => by
            rw [if_neg (fun w => hw (of_decide_eq_true w))] at hp
            rw [nI_1]
            exact hp) (fun w => w.elim (fun y => h_38 (nI_lt y (by omega))) (fun y => absurd (nle (by omega) (by omega) h_62) (Nat.not_le.mpr y.2)))
    · refine w_ld rfl rfl ?_
      refine w_getr rfl rfl rfl rfl rfl ?_
      refine w_ld rfl rfl ?_
      refine w_call (as := [_, _]) (rest := []) rfl rfl rfl rfl rfl rfl rfl rfl (ok_at_v _ _ _ rfl rfl rfl (rfl) (by omega) (hs' i hlt)) ?_
      refine w_ld rfl rfl ?_
      refine w_getr rfl rfl rfl rfl rfl ?_
      refine w_ld rfl rfl ?_
      refine w_call (as := [_, _]) (rest := [_]) rfl rfl rfl rfl rfl rfl rfl rfl (ok_at_v _ _ _ rfl rfl rfl (rfl) (by omega) (hs' k hk)) ?_
      refine w_cj rfl rfl (fun h_57 => ?_) (fun h_57 => ?_)
      · refine w_inc (y := _ + 1) rfl rfl rfl ?_
        refine w_norm (L' := [(0, _), (1, _), (2, _), (3, _)]) rfl ?_
        refine w_go rfl ?_
        have hp := ih hlt M' hF hj
        rw [fb_ct_succ] at hp
        first
          | exact (fun (hw : clS l h E k < clS l h E i) => by
              rw [if_pos (decide_eq_true (Or.inl hw))] at hp
              rw [nI_1, nI_1]
              exact hp) (nlt (by omega) (by omega) h_38)
          | exact (fun (hw : clS l h E i = clS l h E k ∧ i < k) => by
              rw [if_pos (decide_eq_true (Or.inr hw))] at hp
              rw [nI_1, nI_1]
              exact hp) ⟨neq (by omega) (by omega) (Classical.not_not.mp h_57), nnle (by omega) (by omega) h_62⟩
          | exact (fun (hw : ¬ (clS l h E k < clS l h E i ∨ (clS l h E i = clS l h E k ∧ i < k))) => by
              rw [if_neg (fun w => hw (of_decide_eq_true w))] at hp
              rw [nI_1]
              exact hp) (fun w => w.elim (fun y => h_38 (nI_lt y (by omega))) (fun y => h_57 (congrArg nI y.1)))
          | exact (fun (hw : ¬ (clS l h E k < clS l h E i ∨ (clS l h E i = clS l h E k ∧ i < k))) => by
              rw [if_neg (fun w => hw (of_decide_eq_true w))] at hp
              rw [nI_1]
              exact hp) (fun w => w.elim (fun y => h_38 (nI_lt y (by omega))) (fun y => absurd (nle (by omega) (by omega) h_62) (Nat.not_le.mpr y.2)))
      · refine w_ld rfl rfl ?_
        refine w_ld rfl rfl ?_
        refine w_cj rfl rfl (fun h_62 => ?_) (fun h_62 => ?_)
        · refine w_inc (y := _ + 1) rfl rfl rfl ?_
          refine w_norm (L' := [(0, _), (1, _), (2, _), (3, _)]) rfl ?_
          refine w_go rfl ?_
          have hp := ih hlt M' hF hj
          rw [fb_ct_succ] at hp
          first
            | exact (fun (hw : clS l h E k < clS l h E i) => by
                rw [if_pos (decide_eq_true (Or.inl hw))] at hp
                rw [nI_1, nI_1]
                exact hp) (nlt (by omega) (by omega) h_38)
            | exact (fun (hw : clS l h E i = clS l h E k ∧ i < k) => by
                rw [if_pos (decide_eq_true (Or.inr hw))] at hp
                rw [nI_1, nI_1]
                exact hp) ⟨neq (by omega) (by omega) (Classical.not_not.mp h_57), nnle (by omega) (by omega) h_62⟩
            | exact (fun (hw : ¬ (clS l h E k < clS l h E i ∨ (clS l h E i = clS l h E k ∧ i < k))) => by
                rw [if_neg (fun w => hw (of_decide_eq_true w))] at hp
                rw [nI_1]
                exact hp) (fun w => w.elim (fun y => h_38 (nI_lt y (by omega))) (fun y => h_57 (congrArg nI y.1)))
            | exact (fun (hw : ¬ (clS l h E k < clS l h E i ∨ (clS l h E i = clS l h E k ∧ i < k))) => by
                rw [if_neg (fun w => hw (of_decide_eq_true w))] at hp
                rw [nI_1]
                exact hp) (fun w => w.elim (fun y => h_38 (nI_lt y (by omega))) (fun y => absurd (nle (by omega) (by omega) h_62) (Nat.not_le.mpr y.2)))
        · refine w_inc (y := _ + 1) rfl rfl rfl ?_
          refine w_norm (L' := [(0, _), (1, _), (2, _), (3, _)]) rfl ?_
          refine w_inc (y := _ + 1) rfl rfl rfl ?_
          refine w_norm (L' := [(0, _), (1, _), (2, _), (3, _)]) rfl ?_
          refine w_go rfl ?_
          have hp := ih hlt M' hF hj
          rw [fb_ct_succ] at hp
          first
            | exact (fun (hw : clS l h E k < clS l h E i) => by
                rw [if_pos (decide_eq_true (Or.inl hw))] at hp
                rw [nI_1, nI_1]
                exact hp) (nlt (by omega) (by omega) h_38)
            | exact (fun (hw : clS l h E i = clS l h E k ∧ i < k) => by
                rw [if_pos (decide_eq_true (Or.inr hw))] at hp
                rw [nI_1, nI_1]
                exact hp) ⟨neq (by omega) (by omega) (Classical.not_not.mp h_57), nnle (by omega) (by omega) h_62⟩
            | exact (fun (hw : ¬ (clS l h E k < clS l h E i ∨ (clS l h E i = clS l h E k ∧ i < k))) => by
                rw [if_neg (fun w => hw (of_decide_eq_true w))] at hp
                rw [nI_1]
                exact hp) (fun w => w.elim (fun y => h_38 (nI_lt y (by omega))) (fun y => h_57 (congrArg nI y.1)))
            | exact (fun (hw : ¬ (clS l h E k < clS l h E i ∨ (clS l h E i = clS l h E k ∧ i < k))) => by
                rw [if_neg (fun w => hw (of_decide_eq_true w))] at hp
                rw [nI_1]
                exact hp) (fun w => w.elim (fun y => h_38 (nI_lt y (by omega))) (fun y => absurd (nle (by omega) (by omega) h_62) (Nat.not_le.mpr y.2)))

set_option maxHeartbeats 1000000 in
set_option maxRecDepth 10000 in
theorem lp_X0_putInOrder_2 {d : Nat} {M : Mm} {ML : Ml} {E : Nat} {l h : Nat → Nat} (hE : E ≤ 10) (h2 : M 24 2 = nI (clC l h E)) (hs : ∀ k, k < clC l h E → M 26 k = nI (clS l h E k)) : ∀ k, k ≤ clC l h E → ∀ M', Fr [28, 29] M M' → (∀ j, j < k → M' 28 j = nI (rkC (clS l h E) (clC l h E) j) ∧ M' 29 (rkC (clS l h E) (clC l h E) j) = nI j) → WP (d + 1) cd_X0_putInOrder false (fun r M2 L2 => r = none ∧ L2 = ML ∧ Fr [28, 29] M M2 ∧ ∀ k, k < clC l h E → M2 28 k = nI (rkC (clS l h E) (clC l h E) k) ∧ M2 29 (rkC (clS l h E) (clC l h E) k) = nI k) (2, [(0, .ref 24), (1, .int (nI k))], [], (SH, M', ML)) := by
  have h1024 := pow_b hE
  have hCl : clC l h E ≤ 2 ^ E := hdc_le _
  have hSl : ∀ k, clS l h E k ≤ 2 ^ E := fun k => szN_le _ k
  refine up_ind fun k hk ih => ?_
  intro M' hF hj
  have h2' : M' 24 2 = nI (clC l h E) := by rw [hF 24 (by decide)]; exact h2
  refine w_ld rfl rfl ?_
  refine w_ld rfl rfl ?_
  refine w_getv rfl rfl rfl rfl rfl (h2') ?_
  refine w_cj rfl rfl (fun h_7 => ?_) (fun h_7 => ?_)
  · refine w_ret rfl rfl (trivial) ?_
    have h9 := nle (by omega) (by omega) h_7
    exact ⟨rfl, rfl, hF, fun j hj9 => hj j (by omega)⟩
  · have hlt : k < clC l h E := nnle (by omega) (by omega) h_7
    refine w_cst (v := .int 0) rfl rfl ?_
    refine w_sto (L' := [(0, _), (1, _), (2, _)]) rfl rfl ?_
    refine w_cst (v := .int 0) rfl rfl ?_
    refine w_sto (L' := [(0, _), (1, _), (2, _), (3, _)]) rfl rfl ?_
    exact lp_X0_putInOrder_14 hE h2 hs hlt (fun M9 hF9 h9 => ih hlt M9 hF9 h9) 0 (Nat.zero_le _) M' hF hj

set_option maxHeartbeats 1000000 in
set_option maxRecDepth 10000 in
theorem ok_X0_putInOrder {d : Nat} {M : Mm} {ML : Ml} {E : Nat} {l h : Nat → Nat} (hE : E ≤ 10) (h2 : M 24 2 = nI (clC l h E)) (hs : ∀ k, k < clC l h E → M 26 k = nI (clS l h E k)) : EX (d + 2) k_X0_putInOrder [.ref 24] M ML (fun r M2 L2 => r = none ∧ L2 = ML ∧ Fr [28, 29] M M2 ∧ ∀ k, k < clC l h E → M2 28 k = nI (rkC (clS l h E) (clC l h E) k) ∧ M2 29 (rkC (clS l h E) (clC l h E) k) = nI k) := by
  refine EX_in mi_X0_putInOrder rfl rfl ?_
  show WP _ cd_X0_putInOrder false _ (0, [(0, .ref 24)], [], (SH, M, ML))
  refine w_cst (v := .int 0) rfl rfl ?_
  refine w_sto (L' := [(0, _), (1, _)]) rfl rfl ?_
  exact lp_X0_putInOrder_2 hE h2 hs 0 (Nat.zero_le _) M Fr_rf (fun j hj => absurd hj (Nat.not_lt_zero j))

