/-! ===== classes of the reference ===== -/
/-- the classes in the reference's rows -/
def CLM (M : Mm) (E : Nat) (l h : Nat → Nat) : Prop := M 73 22 = nI (fb_ct (frB E l h) (2 ^ E)) ∧ M 73 21 = nI (clC l h E) ∧ (∀ k, k < clC l h E → M 89 k = nI (clS l h E k) ∧ M 88 k = nI (clH l h E k)) ∧ ∀ a, a < 2 ^ E → M 90 a = hoV l h E a
theorem eqB_kr {N E A : Nat} {l h : Nat → Nat} (hW : WN N E A l h) {a b : Nat} (ha : a < 2 ^ E) (hb : b < 2 ^ E) : eqB l h E a b = true ↔ krN l h E a E = krN l h E b E := by
  unfold eqB
  rw [eqF_kr hW ha hb]
  exact ⟨of_decide_eq_true, decide_eq_true⟩
theorem clH_lt {l h : Nat → Nat} {E i : Nat} (hi : i < clC l h E) : clH l h E i < 2 ^ E := by
  obtain ⟨c, hc, hh, rfl⟩ := hdc_kth hi
  rw [clH_of hc hh]
  exact hc
theorem clH_iff {l h : Nat → Nat} {E i j : Nat} (hi : i < clC l h E) (hj : j < clC l h E) : clH l h E i < clH l h E j ↔ i < j := by
  obtain ⟨c, hc, hh, rfl⟩ := hdc_kth hi
  obtain ⟨d, hd, hh2, rfl⟩ := hdc_kth hj
  rw [clH_of hc hh, clH_of hd hh2]
  exact (hdc_iff hh hh2).symm

set_option maxHeartbeats 1000000 in
set_option maxRecDepth 10000 in
theorem lp_X12_classBy_2 {d : Nat} {M : Mm} {ML : Ml} {N E A : Nat} {l h : Nat → Nat} (hW : WN N E A l h) {a : Nat} (ha : a < 2 ^ E) (hC : CK (frB E l h) (eqB l h E) (fun a => krN l h E a E) (M 73 21) (M 88) (M 89) (ML 91) a) (hp : frB E l h a = true) : ∀ k, k ≤ clI l h E a → WP d cd_X12_classBy false (fun r M2 L2 => r = some (.int (nI (clI l h E a))) ∧ L2 = ML ∧ M2 = M) (2, [(0, .ref 73), (1, .long (lN (krN l h E a E))), (3, .int (nI k))], [], (SH, M, ML)) := by
  have hE10 := hW.2.2.1
  have h1024 := pow_b hE10
  have hER := eqB_ER l h E
  have hca := hdc_le (p := frB E l h) (r := eqB l h E) a
  have hcn := hC.1
  have hfd0 := fun k (hk : k < hdc (frB E l h) (eqB l h E) a) => CK_find hER (fun c hc => (eqB_kr hW (by omega) ha).symm) (fun c hc => Nat.lt_trans (kr_62 hW (by omega) (Nat.le_refl _)) (by decide)) hC hp hk
  have hiu : clI l h E a ≤ hdc (frB E l h) (eqB l h E) a := by
    cases hh : isHd (frB E l h) (eqB l h E) a with
    | true =>
      have e := idx_hd hER hh
      exact Nat.le_of_eq e
    | false =>
      obtain ⟨b1, b2, b3, b4⟩ := hdo_1 hER hp
      exact Nat.le_of_lt (hdc_lt b4 (hdo_lt hER hp hh))
  refine up_ind fun k hk ih => ?_
  refine w_ld rfl rfl ?_
  refine w_ld rfl rfl ?_
  refine w_getv rfl rfl rfl rfl rfl (hcn) ?_
  refine w_cj rfl rfl (fun h_7 => ?_) (fun h_7 => ?_)
  · refine w_ld rfl rfl ?_
    refine w_getv rfl rfl rfl rfl rfl (hcn) ?_
    refine w_ret rfl rfl (trivial) ?_
    have hki : k = clI l h E a := Nat.le_antisymm hk (Nat.le_trans hiu (nle (by omega) (by omega) h_7))
    have hka := nle (by omega) (by omega) h_7
    exact ⟨congrArg (fun q => some (Value.int (nI q))) (by omega), rfl, rfl⟩
  · have hkc : k < hdc (frB E l h) (eqB l h E) a := nnle (by omega) (by omega) h_7
    have hfd := hfd0 k hkc
    refine w_ld rfl rfl ?_
    refine w_getr rfl rfl rfl rfl rfl ?_
    refine w_ld rfl rfl ?_
    refine w_aln rfl rfl rfl (rfl) (by omega) rfl ?_
    refine w_ld rfl rfl ?_
    refine w_bin rfl rfl ?_
    refine w_cj rfl rfl (fun h_18 => ?_) (fun h_18 => ?_)
    · refine w_inc (y := _ + 1) rfl rfl rfl ?_
      refine w_norm (L' := [(0, _), (1, _), (3, _)]) rfl ?_
      refine w_go rfl ?_
      rw [nI_1]
      refine ih (Nat.lt_of_le_of_ne hk fun w => ?_)
      exact h_18 ((lg_cmp_eq _ _).mpr (hfd.2 w))
    · refine w_ld rfl rfl ?_
      refine w_ret rfl rfl (trivial) ?_
      have hki : k = clI l h E a := Nat.le_antisymm hk (Nat.not_lt.mp fun w => hfd.1 w ((lg_cmp_eq _ _).mp (Classical.not_not.mp h_18)))
      exact ⟨by rw [hki], rfl, rfl⟩

set_option maxHeartbeats 1000000 in
set_option maxRecDepth 10000 in
theorem ok_X12_classBy {d : Nat} {M : Mm} {ML : Ml} {N E A : Nat} {l h : Nat → Nat} (hW : WN N E A l h) {a : Nat} (ha : a < 2 ^ E) (hC : CK (frB E l h) (eqB l h E) (fun a => krN l h E a E) (M 73 21) (M 88) (M 89) (ML 91) a) (hp : frB E l h a = true) : EX (d + 1) k_X12_classBy [.ref 73, .long (lN (krN l h E a E))] M ML (fun r M2 L2 => r = some (.int (nI (clI l h E a))) ∧ L2 = ML ∧ M2 = M) := by
  refine EX_in mi_X12_classBy rfl rfl ?_
  show WP _ cd_X12_classBy false _ (0, [(0, .ref 73), (1, .long (lN (krN l h E a E)))], [], (SH, M, ML))
  refine w_cst (v := .int 0) rfl rfl ?_
  refine w_sto (L' := [(0, _), (1, _), (3, _)]) rfl rfl ?_
  exact lp_X12_classBy_2 hW ha hC hp 0 (Nat.zero_le _)

set_option maxHeartbeats 1000000 in
set_option maxRecDepth 10000 in
theorem lp_X12_layClasses_16 {d : Nat} {M : Mm} {ML : Ml} {N E A : Nat} {l h : Nat → Nat} (hS : NM M N E A l h) (hW : WN N E A l h) : ∀ a, a ≤ 2 ^ E → ∀ M' L', Fm [85, 86, 87, 88, 89, 90] [19, 21, 22] M M' → TR M' E l h → M' 73 22 = nI (fb_ct (frB E l h) a) → CK (frB E l h) (eqB l h E) (fun a => krN l h E a E) (M' 73 21) (M' 88) (M' 89) (L' 91) a → (∀ b, b < a → M' 90 b = hoV l h E b) → WP (d + 4) cd_X12_layClasses false (fun r M2 L2 => r = none ∧ Fm [85, 86, 87, 88, 89, 90] [19, 21, 22] M M2 ∧ CLM M2 E l h) (16, [(0, .ref 73), (1, .int (nI a))], [], (SH, M', L')) := by
  have hE10 := hW.2.2.1
  have h1024 := pow_b hE10
  have hER := eqB_ER l h E
  refine up_ind fun a ha ih => ?_
  intro M' L' hF hT h1 hC hh
  have hS' := NM_Fm hS hF (by decide) (by decide)
  have hct := fb_ct_le (frB E l h) a
  have hca := hdc_le (p := frB E l h) (r := eqB l h E) a
  refine w_ld rfl rfl ?_
  refine w_ld rfl rfl ?_
  refine w_call (as := [_]) (rest := [_]) rfl rfl rfl rfl rfl rfl rfl rfl (ok_X12_all _ _ _ hS'.2.1 hE10) ?_
  refine w_cj rfl rfl (fun h_21 => ?_) (fun h_21 => ?_)
  · refine w_ret rfl rfl (trivial) ?_
    have h9 : a = 2 ^ E := by have := nle (by omega) (by omega) h_21; omega
    subst h9
    refine ⟨rfl, hF, h1, hC.1, fun k hk => ?_, hh⟩
    obtain ⟨c, hc, hhd, rfl⟩ := hdc_kth hk
    rw [clH_of hc hhd]
    exact ⟨(hC.2 c hc hhd).2.1, (hC.2 c hc hhd).1⟩
  · have hlt : a < 2 ^ E := nnle (by omega) (by omega) h_21
    refine w_ld rfl rfl ?_
    refine w_getr rfl rfl rfl rfl rfl ?_
    refine w_ld rfl rfl ?_
    refine w_cst (v := .int (-1)) rfl rfl ?_
    refine w_sin rfl rfl rfl (rfl) (by omega) rfl ?_
    refine w_ld rfl rfl ?_
    refine w_ld rfl rfl ?_
    have hS2 := NM_Fm hS' (Fm_up (S := [90]) (F := []) (M := M') (a := 90) (k := a) (v := -1) (by decide) (by decide) Fm_rf) (by decide) (by decide)
    refine w_cifn (as := [_, _]) (rest := []) rfl rfl rfl rfl rfl rfl rfl rfl (ok_X12_isFree _ _ _ hS2 hW) rfl (fun h_33 => ?_) (fun h_33 => ?_)
    · refine w_ld rfl rfl ?_
      refine w_stk rfl rfl ?_
      refine w_getv rfl rfl rfl rfl rfl (Eq.trans (by rw [up2_row (by decide)]) (h1)) ?_
      refine w_cst (v := .int 1) rfl rfl ?_
      refine w_bin rfl rfl ?_
      rw [nI_1]
      refine w_put rfl rfl rfl rfl rfl (Or.inl rfl) ?_
      refine w_ld rfl rfl ?_
      refine w_ld rfl rfl ?_
      have hfr : frB E l h a = true := h_33
      have hF1 : Fm [85, 86, 87, 88, 89, 90] [19, 21, 22] M' (up2 (up2 M' 90 a (-1)) 73 22 (nI (fb_ct (frB E l h) a + 1))) := Fm_f (by decide) (Fm_up (by decide) (by decide) Fm_rf)
      have hS3 := NM_Fm hS' hF1 (by decide) (by decide)
      have hT3 := TR_Fm hT (Fm_f (S := [90]) (F := [22]) (k := 22) (v := nI (fb_ct (frB E l h) a + 1)) (by decide) (Fm_up (M' := M') (a := 90) (k := a) (v := -1) (by decide) (by decide) Fm_rf)) (by decide) (by decide)
      obtain ⟨_, M3, L3, ⟨rfl, rfl, hF2⟩, hE54⟩ := ok_X12_keyOf (d := d) (ML := L') hS3 hW hT3.1 hlt
      refine w_call (as := [_, _]) (rest := []) rfl rfl rfl rfl rfl rfl rfl rfl hE54 ?_
      refine w_sto (L' := [(0, _), (1, _), (2, _)]) rfl rfl ?_
      refine w_ld rfl rfl ?_
      refine w_ld rfl rfl ?_
      have hM3 : ∀ x, x ≠ 87 → x ≠ 73 → x ≠ 90 → M3 x = M' x := fun x x1 x2 x3 => by rw [hF2.1 x (by simpa using x1) x2, up2_row x2, up2_row x3]
      have hM73 : ∀ k, k ≠ 22 → M3 73 k = M' 73 k := fun k x1 => by rw [hF2.2 k (by simp), up2_k x1, up2_row (by decide)]
      have hC3 : CK (frB E l h) (eqB l h E) (fun a => krN l h E a E) (M3 73 21) (M3 88) (M3 89) (L3 91) a := by rw [hM73 21 (by decide), hM3 88 (by decide) (by decide) (by decide), hM3 89 (by decide) (by decide) (by decide)]; exact hC
      have hca := EX_ex (ok_X12_classBy (d := d + 3) hW hlt hC3 hfr)
      have hfin := hF2.1 90 (by decide) (by decide)
      have h1m : M3 73 22 = nI (fb_ct (frB E l h) a + 1) := by rw [hF2.2 22 (by simp), up2_e]
      have hc4 := hC3.1
      have hT4 := TR_Fm hT3 hF2 (by decide) (by decide)
      have hF4 : Fm [85, 86, 87, 88, 89, 90] [19, 21, 22] M M3 := Fm_tr (Fm_tr hF hF1) (Fm_mono hF2 (by decide) (by decide))
      have hii : clI l h E a < hdc (frB E l h) (eqB l h E) (a + 1) := idx_lt hER hfr (Nat.lt_succ_self a)
      have hdl := hdc_le (p := frB E l h) (r := eqB l h E) (a + 1)
      have h90 : ∀ b, b < a → M3 90 b = hoV l h E b := fun b hb => by rw [hfin, up2_row (by decide), up2_k (by omega)]; exact hh b hb
      have hfs : fb_ct (frB E l h) (a + 1) = fb_ct (frB E l h) a + 1 := by rw [fb_ct_succ, if_pos hfr]
      refine w_call (as := [_, _]) (rest := []) rfl rfl rfl rfl rfl rfl rfl rfl hca ?_
      refine w_sto (L' := [(0, _), (1, _), (2, _), (4, _)]) rfl rfl ?_
      refine w_ld rfl rfl ?_
      refine w_ld rfl rfl ?_
      refine w_getv rfl rfl rfl rfl rfl (hc4) ?_
      refine w_cj rfl rfl (fun h_71 => ?_) (fun h_71 => ?_)
      · refine w_keep [0, 1, 4] (L' := [(0, _), (1, _), (4, _)]) rfl ?_
        first
          | exact (fun (hne : ¬ clI l h E a = hdc (frB E l h) (eqB l h E) a) => by
              have hhd : isHd (frB E l h) (eqB l h E) a = false := Bool.eq_false_iff.mpr fun w => hne (idx_hd hER w)
              obtain ⟨b1, b2, b3, b4⟩ := hdo_1 hER hfr
              have hlt2 := hdo_lt hER hfr hhd
              have hil : clI l h E a < hdc (frB E l h) (eqB l h E) a := hdc_lt b4 hlt2
              have hsz : M3 89 (clI l h E a) = nI (szN (frB E l h) (eqB l h E) a (clI l h E a)) := (hC3.2 _ hlt2 b4).2.1
              refine w_ld rfl rfl ?_
              refine w_getr rfl rfl rfl rfl rfl ?_
              refine w_ld rfl rfl ?_
              refine w_stk rfl rfl ?_
              refine w_aiv rfl rfl rfl (rfl) (by omega) rfl (hsz) ?_
              refine w_cst (v := .int 1) rfl rfl ?_
              refine w_bin rfl rfl ?_
              rw [nI_1]
              refine w_sin rfl rfl rfl (rfl) (by omega) rfl ?_
              refine w_ld rfl rfl ?_
              refine w_getr rfl rfl rfl rfl rfl ?_
              refine w_ld rfl rfl ?_
              refine w_ld rfl rfl ?_
              refine w_sin rfl rfl rfl (rfl) (by omega) rfl ?_
              refine w_keep [0, 1] (L' := [(0, _), (1, _)]) rfl ?_
              refine w_inc (y := _ + 1) rfl rfl rfl ?_
              refine w_norm (L' := [(0, _), (1, _)]) rfl ?_
              refine w_go rfl ?_
              rw [nI_1]
              refine ih hlt _ _ (Fm_up (by decide) (by decide) (Fm_up (by decide) (by decide) hF4)) (TR_Fm hT4 (Fm_up (S := [89, 90]) (F := []) (M := M3) (by decide) (by decide) (Fm_up (by decide) (by decide) Fm_rf)) (by decide) (by decide)) ?_ (CK_old hER hC3 hfr hhd ?_ (fun k hk => ⟨?_, rfl⟩) (fun k hk => ?_) ?_) (fun b hb => ?_)
              · rw [up2_row (by decide), up2_row (by decide), h1m, hfs]
              · rw [up2_row (by decide), up2_row (by decide)]
              · rw [up2_row (by decide), up2_row (by decide)]
              · rw [up2_row (by decide), up2_k hk]
              · rw [up2_row (by decide), up2_e]
              · by_cases q : b = a
                · rw [q, up2_e]
                  unfold hoV
                  rw [if_pos hfr]
                · rw [up2_k q]
                  rw [up2_row (by decide)]
                  exact h90 b (by omega)) (fun w => h_71 (congrArg nI w))
          | (skip
             refine w_ld rfl rfl ?_
             refine w_getr rfl rfl rfl rfl rfl ?_
             refine w_ld rfl rfl ?_
             refine w_stk rfl rfl ?_
             refine w_aiv rfl rfl rfl (rfl) (by omega) rfl (Eq.trans (by rw [up2_row (by decide)]) up2_e) ?_
             refine w_cst (v := .int 1) rfl rfl ?_
             refine w_bin rfl rfl ?_
             skip
             refine w_sin rfl rfl rfl (rfl) (by omega) rfl ?_
             refine w_ld rfl rfl ?_
             refine w_getr rfl rfl rfl rfl rfl ?_
             refine w_ld rfl rfl ?_
             refine w_ld rfl rfl ?_
             refine w_sin rfl rfl rfl (rfl) (by omega) rfl ?_
             refine w_keep [0, 1] (L' := [(0, _), (1, _)]) rfl ?_
             refine w_inc (y := _ + 1) rfl rfl rfl ?_
             refine w_norm (L' := [(0, _), (1, _)]) rfl ?_
             refine w_go rfl ?_
             rw [nI_1]
             refine ih hlt _ _ (Fm_up (by decide) (by decide) (Fm_up (by decide) (by decide) (Fm_f (by decide) (Fm_up (by decide) (by decide) (Fm_up (by decide) (by decide) hF4))))) (TR_Fm hT4 (Fm_up (S := [88, 89, 90]) (F := [21]) (M := M3) (by decide) (by decide) (Fm_up (by decide) (by decide) (Fm_f (by decide) (Fm_up (by decide) (by decide) (Fm_up (by decide) (by decide) Fm_rf))))) (by decide) (by decide)) ?_ (CK_new hER hC3 hhd ?_ (fun k hk => ⟨?_, ?_, ?_⟩) ?_ ?_ ?_) (fun b hb => ?_)
             · rw [up2_row (by decide), up2_row (by decide), up2_k (by decide), up2_row (by decide), up2_row (by decide), h1m, hfs]
             · rw [up2_row (by decide), up2_row (by decide), up2_e]
             · rw [up2_row (by decide), up2_row (by decide), up2_row (by decide), up2_row (by decide), up2_k (by omega)]
             · rw [up2L_k (by omega)]
             · rw [up2_row (by decide), up2_k (by omega), up2_row (by decide), up2_k (by omega), up2_row (by decide)]
             · rw [up2_row (by decide), up2_row (by decide), up2_row (by decide), up2_row (by decide), ← hid, up2_e]
             · rw [up2_row (by decide), ← hid, up2_e]
               rfl
             · rw [← hid, up2L_e]
             · by_cases q : b = a
               · rw [q, up2_e]
                 unfold hoV
                 rw [if_pos hfr]
               · rw [up2_k q]
                 rw [up2_row (by decide), up2_row (by decide), up2_row (by decide), up2_row (by decide)]
                 exact h90 b (by omega))
      · have hhd : isHd (frB E l h) (eqB l h E) a = true := by
          cases hh2 : isHd (frB E l h) (eqB l h E) a with
          | true => rfl
          | false =>
            obtain ⟨b1, b2, b3, b4⟩ := hdo_1 hER hfr
            have w : clI l h E a < hdc (frB E l h) (eqB l h E) a := hdc_lt b4 (hdo_lt hER hfr hh2)
            have e := neq (by omega) (by omega) (Classical.not_not.mp h_71)
            exact absurd e (Nat.ne_of_lt w)
        have hid : clI l h E a = hdc (frB E l h) (eqB l h E) a := idx_hd hER hhd
        refine w_ld rfl rfl ?_
        refine w_getr rfl rfl rfl rfl rfl ?_
        refine w_ld rfl rfl ?_
        refine w_ld rfl rfl ?_
        refine w_sln rfl rfl rfl (rfl) (by omega) rfl ?_
        refine w_ld rfl rfl ?_
        refine w_getr rfl rfl rfl rfl rfl ?_
        refine w_ld rfl rfl ?_
        refine w_ld rfl rfl ?_
        refine w_sin rfl rfl rfl (rfl) (by omega) rfl ?_
        refine w_ld rfl rfl ?_
        refine w_getr rfl rfl rfl rfl rfl ?_
        refine w_ld rfl rfl ?_
        refine w_cst (v := .int 0) rfl rfl ?_
        refine w_sin rfl rfl rfl (rfl) (by omega) rfl ?_
        refine w_ld rfl rfl ?_
        refine w_stk rfl rfl ?_
        refine w_getv rfl rfl rfl rfl rfl (Eq.trans (by rw [up2_row (by decide), up2_row (by decide)]) (hc4)) ?_
        refine w_cst (v := .int 1) rfl rfl ?_
        refine w_bin rfl rfl ?_
        rw [nI_1]
        refine w_put rfl rfl rfl rfl rfl (Or.inl rfl) ?_
        refine w_keep [0, 1, 4] (L' := [(0, _), (1, _), (4, _)]) rfl ?_
        first
          | exact (fun (hne : ¬ clI l h E a = hdc (frB E l h) (eqB l h E) a) => by
              have hhd : isHd (frB E l h) (eqB l h E) a = false := Bool.eq_false_iff.mpr fun w => hne (idx_hd hER w)
              obtain ⟨b1, b2, b3, b4⟩ := hdo_1 hER hfr
              have hlt2 := hdo_lt hER hfr hhd
              have hil : clI l h E a < hdc (frB E l h) (eqB l h E) a := hdc_lt b4 hlt2
              have hsz : M3 89 (clI l h E a) = nI (szN (frB E l h) (eqB l h E) a (clI l h E a)) := (hC3.2 _ hlt2 b4).2.1
              refine w_ld rfl rfl ?_
              refine w_getr rfl rfl rfl rfl rfl ?_
              refine w_ld rfl rfl ?_
              refine w_stk rfl rfl ?_
              refine w_aiv rfl rfl rfl (rfl) (by omega) rfl (hsz) ?_
              refine w_cst (v := .int 1) rfl rfl ?_
              refine w_bin rfl rfl ?_
              rw [nI_1]
              refine w_sin rfl rfl rfl (rfl) (by omega) rfl ?_
              refine w_ld rfl rfl ?_
              refine w_getr rfl rfl rfl rfl rfl ?_
              refine w_ld rfl rfl ?_
              refine w_ld rfl rfl ?_
              refine w_sin rfl rfl rfl (rfl) (by omega) rfl ?_
              refine w_keep [0, 1] (L' := [(0, _), (1, _)]) rfl ?_
              refine w_inc (y := _ + 1) rfl rfl rfl ?_
              refine w_norm (L' := [(0, _), (1, _)]) rfl ?_
              refine w_go rfl ?_
              rw [nI_1]
              refine ih hlt _ _ (Fm_up (by decide) (by decide) (Fm_up (by decide) (by decide) hF4)) (TR_Fm hT4 (Fm_up (S := [89, 90]) (F := []) (M := M3) (by decide) (by decide) (Fm_up (by decide) (by decide) Fm_rf)) (by decide) (by decide)) ?_ (CK_old hER hC3 hfr hhd ?_ (fun k hk => ⟨?_, rfl⟩) (fun k hk => ?_) ?_) (fun b hb => ?_)
              · rw [up2_row (by decide), up2_row (by decide), h1m, hfs]
              · rw [up2_row (by decide), up2_row (by decide)]
              · rw [up2_row (by decide), up2_row (by decide)]
              · rw [up2_row (by decide), up2_k hk]
              · rw [up2_row (by decide), up2_e]
              · by_cases q : b = a
                · rw [q, up2_e]
                  unfold hoV
                  rw [if_pos hfr]
                · rw [up2_k q]
                  rw [up2_row (by decide)]
                  exact h90 b (by omega)) (fun w => h_71 (congrArg nI w))
          | (skip
             refine w_ld rfl rfl ?_
             refine w_getr rfl rfl rfl rfl rfl ?_
             refine w_ld rfl rfl ?_
             refine w_stk rfl rfl ?_
             refine w_aiv rfl rfl rfl (rfl) (by omega) rfl (Eq.trans (by rw [up2_row (by decide)]) up2_e) ?_
             refine w_cst (v := .int 1) rfl rfl ?_
             refine w_bin rfl rfl ?_
             skip
             refine w_sin rfl rfl rfl (rfl) (by omega) rfl ?_
             refine w_ld rfl rfl ?_
             refine w_getr rfl rfl rfl rfl rfl ?_
             refine w_ld rfl rfl ?_
             refine w_ld rfl rfl ?_
             refine w_sin rfl rfl rfl (rfl) (by omega) rfl ?_
             refine w_keep [0, 1] (L' := [(0, _), (1, _)]) rfl ?_
             refine w_inc (y := _ + 1) rfl rfl rfl ?_
             refine w_norm (L' := [(0, _), (1, _)]) rfl ?_
             refine w_go rfl ?_
             rw [nI_1]
             refine ih hlt _ _ (Fm_up (by decide) (by decide) (Fm_up (by decide) (by decide) (Fm_f (by decide) (Fm_up (by decide) (by decide) (Fm_up (by decide) (by decide) hF4))))) (TR_Fm hT4 (Fm_up (S := [88, 89, 90]) (F := [21]) (M := M3) (by decide) (by decide) (Fm_up (by decide) (by decide) (Fm_f (by decide) (Fm_up (by decide) (by decide) (Fm_up (by decide) (by decide) Fm_rf))))) (by decide) (by decide)) ?_ (CK_new hER hC3 hhd ?_ (fun k hk => ⟨?_, ?_, ?_⟩) ?_ ?_ ?_) (fun b hb => ?_)
             · rw [up2_row (by decide), up2_row (by decide), up2_k (by decide), up2_row (by decide), up2_row (by decide), h1m, hfs]
             · rw [up2_row (by decide), up2_row (by decide), up2_e]
             · rw [up2_row (by decide), up2_row (by decide), up2_row (by decide), up2_row (by decide), up2_k (by omega)]
             · rw [up2L_k (by omega)]
             · rw [up2_row (by decide), up2_k (by omega), up2_row (by decide), up2_k (by omega), up2_row (by decide)]
             · rw [up2_row (by decide), up2_row (by decide), up2_row (by decide), up2_row (by decide), ← hid, up2_e]
             · rw [up2_row (by decide), ← hid, up2_e]
               rfl
             · rw [← hid, up2L_e]
             · by_cases q : b = a
               · rw [q, up2_e]
                 unfold hoV
                 rw [if_pos hfr]
               · rw [up2_k q]
                 rw [up2_row (by decide), up2_row (by decide), up2_row (by decide), up2_row (by decide)]
                 exact h90 b (by omega))
    · refine w_go rfl ?_
      refine w_inc (y := _ + 1) rfl rfl rfl ?_
      refine w_norm (L' := [(0, _), (1, _)]) rfl ?_
      refine w_go rfl ?_
      rw [nI_1]
      refine ih hlt _ _ (Fm_up (by decide) (by decide) hF) (TR_Fm hT (Fm_up (S := [90]) (F := []) (M := M') (by decide) (by decide) Fm_rf) (by decide) (by decide)) ?_ ?_ (fun b hb => ?_)
      · rw [up2_row (by decide), h1, fb_ct_succ, if_neg (by rw [show frB E l h a = false from h_33]; exact Bool.noConfusion)]
        rfl
      · rw [up2_row (a := 90) (x := 73) (by decide), up2_row (a := 90) (x := 88) (by decide), up2_row (a := 90) (x := 89) (by decide)]
        exact CK_skip hC h_33
      · by_cases q : b = a
        · rw [q, up2_e]
          unfold hoV
          rw [if_neg (by rw [show frB E l h a = false from h_33]; exact Bool.noConfusion)]
        · rw [up2_k q]
          exact hh b (by omega)

set_option maxHeartbeats 1000000 in
set_option maxRecDepth 10000 in
theorem ok_X12_layClasses {d : Nat} {M : Mm} {ML : Ml} {N E A : Nat} {l h : Nat → Nat} (hS : NM M N E A l h) (hW : WN N E A l h) : EX (d + 5) k_X12_layClasses [.ref 73] M ML (fun r M2 L2 => r = none ∧ Fm [85, 86, 87, 88, 89, 90] [19, 21, 22] M M2 ∧ CLM M2 E l h) := by
  refine EX_in mi_X12_layClasses rfl rfl ?_
  show WP _ cd_X12_layClasses false _ (0, [(0, .ref 73)], [], (SH, M, ML))
  refine w_ld rfl rfl ?_
  obtain ⟨_, M3, L3, ⟨rfl, rfl, hF, hT⟩, hE1⟩ := ok_X12_layTree (d := d + 3) (ML := ML) hS hW
  refine w_callv (as := [_]) (rest := []) rfl rfl rfl rfl rfl rfl rfl rfl hE1 ?_
  refine w_ld rfl rfl ?_
  refine w_cst (v := .int 0) rfl rfl ?_
  refine w_put rfl rfl rfl rfl rfl (Or.inl rfl) ?_
  refine w_ld rfl rfl ?_
  refine w_cst (v := .int 0) rfl rfl ?_
  refine w_put rfl rfl rfl rfl rfl (Or.inl rfl) ?_
  refine w_cst (v := .int 0) rfl rfl ?_
  refine w_sto (L' := [(0, _), (1, _)]) rfl rfl ?_
  refine lp_X12_layClasses_16 (ML := L3) hS hW 0 (Nat.zero_le _) _ L3 (Fm_f (by decide) (Fm_f (by decide) (Fm_mono hF (by decide) (by decide)))) (TR_Fm hT (Fm_f (S := []) (F := [21, 22]) (by decide) (Fm_f (by decide) Fm_rf)) (by decide) (by decide)) ?_ ?_ (fun b hb => absurd hb (Nat.not_lt_zero b))
  · rw [up2_e]
    rfl
  · exact ⟨by rw [up2_k (by decide), up2_e]; rfl, fun c hc => absurd hc (Nat.not_lt_zero c)⟩

