/-! ===== classes: find, the calls ===== -/
/-- the classes in the class's rows -/
def CLS (M : Mm) (E : Nat) (l h : Nat → Nat) : Prop := M 24 1 = nI (fb_ct (frB E l h) (2 ^ E)) ∧ M 24 2 = nI (clC l h E) ∧ (∀ k, k < clC l h E → M 26 k = nI (clS l h E k) ∧ M 27 k = nI (clH l h E k) ∧ M 28 k = nI (rkC (clS l h E) (clC l h E) k) ∧ M 29 (rkC (clS l h E) (clC l h E) k) = nI k) ∧ ∀ a, a < 2 ^ E → M 25 a = hoV l h E a
noncomputable def manyA (l h : Nat → Nat) (E : Nat) (y : Int32) : Int32 := bif wh y 1 then (if y = 0 then nI (fb_ct (frB E l h) (2 ^ E)) else nI (clC l h E)) else -1
noncomputable def ofcV (l h : Nat → Nat) (E k : Nat) (y : Int32) : Int32 := if ocI (clS l h E) (clC l h E) k < clC l h E then (if y = 0 then nI (clS l h E (ocI (clS l h E) (clC l h E) k)) else nI (clH l h E (ocI (clS l h E) (clC l h E) k))) else -2
noncomputable def ofcA (l h : Nat → Nat) (E : Nat) (x y : Int32) : Int32 := bif wh y 1 && decide (0 ≤ x) then ofcV l h E x.toNatClampNeg y else -1
noncomputable def placeA (l h : Nat → Nat) (E : Nat) (x : Int32) : Int32 := bif inR x (2 ^ E) then (if frB E l h x.toNatClampNeg = true then nI (rkC (clS l h E) (clC l h E) (clI l h E x.toNatClampNeg)) else -2) else -1
noncomputable def rtN (l h : Nat → Nat) (E v : Nat) (n : Nat) : Nat := fb_ct (fun a => frB E l h a && decide (endsM E l h (nI a) true = 2 ^ v)) n
noncomputable def rootA (l h : Nat → Nat) (N E : Nat) (x : Int32) : Int32 := bif inR x N then nI (rtN l h E x.toNatClampNeg (2 ^ E)) else -1
theorem clI_lt {l h : Nat → Nat} {E a : Nat} (ha : a < 2 ^ E) (hp : frB E l h a = true) : clI l h E a < clC l h E := idx_lt (eqB_ER l h E) hp ha

theorem eqB_kc {M : Mm} {E : Nat} {l h : Nat → Nat} (hR : RG M E l h) {a b : Nat} (ha : a < 2 ^ E) (hb : b < 2 ^ E) : eqB l h E a b = true ↔ kcM M a (cc l h E) = kcM M b (cc l h E) := by
  unfold eqB
  rw [eqF_kc hR ha hb]
  exact ⟨of_decide_eq_true, decide_eq_true⟩

set_option maxHeartbeats 1000000 in
set_option maxRecDepth 10000 in
theorem lp_X0_find_20 {d : Nat} {M : Mm} {ML : Ml} {N E A : Nat} {l h : Nat → Nat} (hS : NS M 2 3 4 5 6 N E A l h) (hW : WN N E A l h) (hR : RG M E l h) : ∀ a, a ≤ 2 ^ E → ∀ M' L', Fr [24, 25, 26, 27, 28, 29] M M' → M' 24 1 = nI (fb_ct (frB E l h) a) → CK (frB E l h) (eqB l h E) (fun a => kcM M a (cc l h E)) (M' 24 2) (M' 27) (M' 26) (L' 30) a → (∀ b, b < a → M' 25 b = hoV l h E b) → WP (d + 3) cd_X0_find false (fun r M2 L2 => r = none ∧ Fr [24, 25, 26, 27, 28, 29] M M2 ∧ M2 24 0 = 1 ∧ CLS M2 E l h) (20, [(0, .ref 24), (1, .ref 2), (2, .ref 18), (3, .int (nI a))], [], (SH, M', L')) := by
  have hE10 := hW.2.2.1
  have h1024 := pow_b hE10
  have hER := eqB_ER l h E
  refine up_ind fun a ha ih => ?_
  intro M' L' hF h1 hC hh
  have hS' := NS_Fr hS hF (by decide)
  have hR' := RG_Fr hR hF (by decide)
  have hct := fb_ct_le (frB E l h) a
  refine w_ld rfl rfl ?_
  refine w_cst (v := .int 1) rfl rfl ?_
  refine w_ld rfl rfl ?_
  refine w_getv rfl rfl rfl rfl rfl (hS'.2.1) ?_
  refine w_bin rfl rfl ?_
  rw [shl1 (by omega)]
  refine w_cj rfl rfl (fun h_27 => ?_) (fun h_27 => ?_)
  · have h9 : a = 2 ^ E := by have := nle (by omega) (by omega) h_27; omega
    subst h9
    refine w_ld rfl rfl ?_
    obtain ⟨_, M3, L3, ⟨rfl, rfl, hF2, hp2⟩, hE85⟩ := ok_X0_putInOrder (d := d + 1) (ML := L') (M := M') hE10 hC.1 (fun k hk => by obtain ⟨c, hc, hhd, rfl⟩ := hdc_kth hk; exact (hC.2 c hc hhd).2.1)
    refine w_callv (as := [_]) (rest := []) rfl rfl rfl rfl rfl rfl rfl rfl hE85 ?_
    refine w_ld rfl rfl ?_
    refine w_cst (v := .int 1) rfl rfl ?_
    refine w_put rfl rfl rfl rfl rfl (Or.inr (Or.inr rfl)) ?_
    refine w_ret rfl rfl (trivial) ?_
    refine ⟨rfl, Fr_up (by decide) (Fr_tr hF (Fr_mono hF2 (by decide))), up2_e, ?_, ?_, fun k hk => ?_, fun a ha => ?_⟩
    · rw [up2_k (by decide), hF2 24 (by decide)]
      exact h1
    · rw [up2_k (by decide), hF2 24 (by decide)]
      exact hC.1
    · rw [up2_row (a := 24) (x := 26) (by decide), up2_row (a := 24) (x := 27) (by decide), up2_row (a := 24) (x := 28) (by decide), up2_row (a := 24) (x := 29) (by decide), hF2 26 (by decide), hF2 27 (by decide)]
      refine ⟨?_, ?_, hp2 k hk⟩
      · obtain ⟨c, hc, hhd, rfl⟩ := hdc_kth hk
        exact (hC.2 c hc hhd).2.1
      · obtain ⟨c, hc, hhd, rfl⟩ := hdc_kth hk
        rw [clH_of hc hhd]
        exact (hC.2 c hc hhd).1
    · rw [up2_row (by decide), hF2 25 (by decide)]
      exact hh a ha
  · have hlt : a < 2 ^ E := nnle (by omega) (by omega) h_27
    refine w_ld rfl rfl ?_
    refine w_ld rfl rfl ?_
    refine w_cife (as := [_, _]) (rest := []) rfl rfl rfl rfl rfl rfl rfl rfl (ok_X4_isFree _ _ _ hS' hW) rfl (fun h_32 => ?_) (fun h_32 => ?_)
    · refine w_ld rfl rfl ?_
      refine w_getr rfl rfl rfl rfl rfl ?_
      refine w_ld rfl rfl ?_
      refine w_cst (v := .int (-1)) rfl rfl ?_
      refine w_callv (as := [_, _, _]) (rest := []) rfl rfl rfl rfl rfl rfl rfl rfl (ok_lay_n _ _ _ _ _ rfl rfl rfl (rfl) (by omega)) ?_
      refine w_inc (y := _ + 1) rfl rfl rfl ?_
      refine w_norm (L' := [(0, _), (1, _), (2, _), (3, _)]) rfl ?_
      refine w_go rfl ?_
      rw [nI_1]
      first
        | (refine ih hlt _ L3 (Fr_up (by decide) (Fr_tr (Fr_up (by decide) hF) (Fr_mono hF2 (by decide)))) ?_ ?_ (fun b hb => ?_)
           · rw [up2_row (by decide), h12, up2_e, fb_ct_succ, if_pos hfr]
           · rw [up2_row (a := 25) (x := 24) (by decide), up2_row (a := 25) (x := 27) (by decide), up2_row (a := 25) (x := 26) (by decide)]
             exact hC2
           · by_cases q : b = a
             · rw [q, up2_e]
               unfold hoV
               rw [if_pos hfr]
             · rw [up2_k q, hF2 25 (by decide), up2_row (by decide)]
               exact hh b (by omega))
        | (refine ih hlt _ L' (Fr_up (by decide) hF) ?_ ?_ (fun b hb => ?_)
           · rw [up2_row (by decide), h1, fb_ct_succ, if_neg (by rw [show frB E l h a = false from h_32]; exact Bool.noConfusion)]
             rfl
           · rw [up2_row (a := 25) (x := 24) (by decide), up2_row (a := 25) (x := 27) (by decide), up2_row (a := 25) (x := 26) (by decide)]
             exact CK_skip hC h_32
           · by_cases q : b = a
             · rw [q, up2_e]
               unfold hoV
               rw [if_neg (by rw [show frB E l h a = false from h_32]; exact Bool.noConfusion)]
             · rw [up2_k q]
               exact hh b (by omega))
    · refine w_ld rfl rfl ?_
      refine w_stk rfl rfl ?_
      refine w_getv rfl rfl rfl rfl rfl (h1) ?_
      refine w_cst (v := .int 1) rfl rfl ?_
      refine w_bin rfl rfl ?_
      rw [nI_1]
      refine w_put rfl rfl rfl rfl rfl (Or.inl rfl) ?_
      refine w_ld rfl rfl ?_
      refine w_getr rfl rfl rfl rfl rfl ?_
      refine w_ld rfl rfl ?_
      refine w_ld rfl rfl ?_
      refine w_ld rfl rfl ?_
      refine w_ld rfl rfl ?_
      refine w_ld rfl rfl ?_
      skip
      refine w_call (as := [_, _]) (rest := [_, _, _, _]) rfl rfl rfl rfl rfl rfl rfl rfl (EX_ex (ok_X6_key hE10 (RG_Fr hR' (Fr_up (S := [24]) (by decide) Fr_rf) (by decide)) hlt)) ?_
      have hfr : frB E l h a = true := h_32
      rw [kcM_same (M := M) (M' := up2 M' 24 1 (nI (fb_ct (frB E l h) a + 1))) (by rw [up2_row (by decide)]; exact hF 20 (by decide)) (by rw [up2_row (by decide)]; exact hF 21 (by decide))]
      obtain ⟨_, M3, L3, ⟨rfl, hF2, hC2, h12, h02⟩, hE60⟩ := ok_X0_join (d := d + 1) (ML := L') (M := up2 M' 24 1 (nI (fb_ct (frB E l h) a + 1))) (K := (fun a => kcM M a (cc l h E))) hE10 hlt (fun c hc => ((eqB_kc hR (by omega) hlt).symm)) (fun c hc => kc_62 hE10) (by rw [up2_k (k := 1) (y := 2) (by decide), up2_row (a := 24) (x := 27) (by decide), up2_row (a := 24) (x := 26) (by decide)]; exact hC) hfr
      refine w_call (as := [_, _, _]) (rest := [_, _]) rfl rfl rfl rfl rfl rfl rfl rfl hE60 ?_
      have hia := clI_lt hlt hfr
      have hCl : clC l h E ≤ 2 ^ E := hdc_le _
      refine w_callv (as := [_, _, _]) (rest := []) rfl rfl rfl rfl rfl rfl rfl rfl (ok_lay_n _ _ _ _ _ rfl rfl rfl (rfl) (by omega)) ?_
      refine w_go rfl ?_
      refine w_inc (y := _ + 1) rfl rfl rfl ?_
      refine w_norm (L' := [(0, _), (1, _), (2, _), (3, _)]) rfl ?_
      refine w_go rfl ?_
      rw [nI_1]
      first
        | (refine ih hlt _ L3 (Fr_up (by decide) (Fr_tr (Fr_up (by decide) hF) (Fr_mono hF2 (by decide)))) ?_ ?_ (fun b hb => ?_)
           · rw [up2_row (by decide), h12, up2_e, fb_ct_succ, if_pos hfr]
           · rw [up2_row (a := 25) (x := 24) (by decide), up2_row (a := 25) (x := 27) (by decide), up2_row (a := 25) (x := 26) (by decide)]
             exact hC2
           · by_cases q : b = a
             · rw [q, up2_e]
               unfold hoV
               rw [if_pos hfr]
             · rw [up2_k q, hF2 25 (by decide), up2_row (by decide)]
               exact hh b (by omega))
        | (refine ih hlt _ L' (Fr_up (by decide) hF) ?_ ?_ (fun b hb => ?_)
           · rw [up2_row (by decide), h1, fb_ct_succ, if_neg (by rw [show frB E l h a = false from h_32]; exact Bool.noConfusion)]
             rfl
           · rw [up2_row (a := 25) (x := 24) (by decide), up2_row (a := 25) (x := 27) (by decide), up2_row (a := 25) (x := 26) (by decide)]
             exact CK_skip hC h_32
           · by_cases q : b = a
             · rw [q, up2_e]
               unfold hoV
               rw [if_neg (by rw [show frB E l h a = false from h_32]; exact Bool.noConfusion)]
             · rw [up2_k q]
               exact hh b (by omega))

set_option maxHeartbeats 1000000 in
set_option maxRecDepth 10000 in
theorem ok_X0_find {d : Nat} {M : Mm} {ML : Ml} {N E A : Nat} {l h : Nat → Nat} (hS : NS M 2 3 4 5 6 N E A l h) (hW : WN N E A l h) (hR : RG M E l h) (hf : M 24 0 = 0 ∨ (M 24 0 = 1 ∧ CLS M E l h)) : EX (d + 4) k_X0_find [.ref 24, .ref 2, .ref 18] M ML (fun r M2 L2 => r = none ∧ Fr [24, 25, 26, 27, 28, 29] M M2 ∧ M2 24 0 = 1 ∧ CLS M2 E l h) := by
  refine EX_in mi_X0_find rfl rfl ?_
  show WP _ cd_X0_find false _ (0, [(0, .ref 24), (1, .ref 2), (2, .ref 18)], [], (SH, M, ML))
  refine w_ld rfl rfl ?_
  refine w_geti rfl rfl rfl rfl rfl ?_
  refine w_cj rfl rfl (fun h_4 => ?_) (fun h_4 => ?_)
  · refine w_ld rfl rfl ?_
    refine w_cst (v := .int 0) rfl rfl ?_
    refine w_put rfl rfl rfl rfl rfl (Or.inl rfl) ?_
    refine w_ld rfl rfl ?_
    refine w_cst (v := .int 0) rfl rfl ?_
    refine w_put rfl rfl rfl rfl rfl (Or.inl rfl) ?_
    refine w_cst (v := .int 0) rfl rfl ?_
    refine w_sto (L' := [(0, _), (1, _), (2, _), (3, _)]) rfl rfl ?_
    refine lp_X0_find_20 (ML := ML) hS hW hR 0 (Nat.zero_le _) _ ML (Fr_up (by decide) (Fr_up (by decide) Fr_rf)) ?_ ?_ (fun b hb => absurd hb (Nat.not_lt_zero b))
    · rw [up2_k (by decide), up2_e]
      rfl
    · exact ⟨by rw [up2_e]; rfl, fun c hc => absurd hc (Nat.not_lt_zero c)⟩
  · refine w_ret rfl rfl (trivial) ?_
    rcases hf with q | ⟨q1, q2⟩
    · exact absurd q h_4
    · exact ⟨rfl, Fr_rf, q1, q2⟩

theorem hoV_neg {l h : Nat → Nat} {E a : Nat} (hE : E ≤ 10) (ha : a < 2 ^ E) : hoV l h E a < 0 ↔ frB E l h a = false := by
  unfold hoV
  cases hp : frB E l h a with
  | true =>
    rw [if_pos rfl]
    have := clI_lt ha hp
    have h1 : clC l h E ≤ 2 ^ E := hdc_le _
    have h2 := pow_b hE
    exact ⟨fun q => absurd q (ne_m1 (by omega)), fun q => Bool.noConfusion q⟩
  | false =>
    rw [if_neg Bool.noConfusion]
    exact ⟨fun _ => rfl, fun _ => by decide⟩
theorem rt_1 {l h : Nat → Nat} {E v a : Nat} (h1 : frB E l h a = true) (h2 : endsM E l h (nI a) true = 2 ^ v) : rtN l h E v (a + 1) = rtN l h E v a + 1 := by
  unfold rtN
  rw [fb_ct_succ, h1, decide_eq_true h2]
  rfl
theorem rt_0 {l h : Nat → Nat} {E v a : Nat} (h1 : frB E l h a = false ∨ ¬ endsM E l h (nI a) true = 2 ^ v) : rtN l h E v (a + 1) = rtN l h E v a := by
  unfold rtN
  rw [fb_ct_succ, if_neg (fun w => by
    rw [Bool.and_eq_true] at w
    rcases h1 with q | q
    · rw [q] at w
      exact Bool.noConfusion w.1
    · exact q (of_decide_eq_true w.2))]
  rfl

set_option maxHeartbeats 1000000 in
set_option maxRecDepth 10000 in
theorem lp_X0_rootedAt_5 {d : Nat} {M : Mm} {ML : Ml} {N E A : Nat} {l h : Nat → Nat} (hS : NS M 2 3 4 5 6 N E A l h) (hW : WN N E A l h) (hC : CLS M E l h) {v : Nat} (hv : v < 7) : ∀ a, a ≤ 2 ^ E → WP (d + 1) cd_X0_rootedAt false (fun r M2 L2 => r = some (.int (nI (rtN l h E v (2 ^ E)))) ∧ L2 = ML ∧ M2 = M) (5, [(0, .ref 24), (1, .ref 2), (2, .int (nI v)), (3, .int (nI (rtN l h E v a))), (4, .int (nI a))], [], (SH, M, ML)) := by
  have hE10 := hW.2.2.1
  have h1024 := pow_b hE10
  have hER := eqB_ER l h E
  refine up_ind fun a ha ih => ?_
  have h2v : 2 ^ v ≤ 64 := p2 (k := 6) (by omega)
  have hev : endsM E l h (nI a) true < 2 ^ 31 := endsM_b
  refine w_ld rfl rfl ?_
  refine w_cst (v := .int 1) rfl rfl ?_
  refine w_ld rfl rfl ?_
  refine w_getv rfl rfl rfl rfl rfl (hS.2.1) ?_
  refine w_bin rfl rfl ?_
  rw [shl1 (by omega)]
  refine w_cj rfl rfl (fun h_13 => ?_) (fun h_13 => ?_)
  · have h9 : a = 2 ^ E := by have := nle (by omega) (by omega) h_13; omega
    subst h9
    refine w_ld rfl rfl ?_
    refine w_ret rfl rfl (trivial) ?_
    exact ⟨rfl, rfl, rfl⟩
  · have hlt : a < 2 ^ E := nnle (by omega) (by omega) h_13
    refine w_ld rfl rfl ?_
    refine w_getr rfl rfl rfl rfl rfl ?_
    refine w_ld rfl rfl ?_
    refine w_call (as := [_, _]) (rest := []) rfl rfl rfl rfl rfl rfl rfl rfl (ok_at_v _ _ _ rfl rfl rfl (rfl) (by omega) (hC.2.2.2 a hlt)) ?_
    refine w_cj rfl rfl (fun h_25 => ?_) (fun h_25 => ?_)
    · refine w_inc (y := _ + 1) rfl rfl rfl ?_
      refine w_norm (L' := [(0, _), (1, _), (2, _), (3, _), (4, _)]) rfl ?_
      refine w_go rfl ?_
      have hp := ih hlt
      first
        | exact (fun (h1 : frB E l h a = true) (h2 : endsM E l h (nI a) true = 2 ^ v) => by
            rw [rt_1 h1 h2] at hp
            rw [nI_1, nI_1]
            exact hp) (Bool.not_eq_false _ |>.mp (fun w => h_25 ((hoV_neg hE10 hlt).mpr w))) (neq hev (by omega) (Classical.not_not.mp h_37))
        | exact (fun (h1 : frB E l h a = false ∨ ¬ endsM E l h (nI a) true = 2 ^ v) => by
            rw [rt_0 h1] at hp
            rw [nI_1]
            exact hp) (Or.inr (fun w => h_37 (congrArg nI w)))
        | exact (fun (h1 : frB E l h a = false ∨ ¬ endsM E l h (nI a) true = 2 ^ v) => by
            rw [rt_0 h1] at hp
            rw [nI_1]
            exact hp) (Or.inl ((hoV_neg hE10 hlt).mp h_25))
    · refine w_ld rfl rfl ?_
      refine w_ld rfl rfl ?_
      refine w_call (as := [_, _]) (rest := []) rfl rfl rfl rfl rfl rfl rfl rfl (ok_sources _ _ _ _ hS hW) ?_
      refine w_cst (v := .int 1) rfl rfl ?_
      refine w_ld rfl rfl ?_
      refine w_bin rfl rfl ?_
      rw [shl1 (by omega)]
      refine w_cj rfl rfl (fun h_37 => ?_) (fun h_37 => ?_)
      · refine w_inc (y := _ + 1) rfl rfl rfl ?_
        refine w_norm (L' := [(0, _), (1, _), (2, _), (3, _), (4, _)]) rfl ?_
        refine w_go rfl ?_
        have hp := ih hlt
        first
          | exact (fun (h1 : frB E l h a = true) (h2 : endsM E l h (nI a) true = 2 ^ v) => by
              rw [rt_1 h1 h2] at hp
              rw [nI_1, nI_1]
              exact hp) (Bool.not_eq_false _ |>.mp (fun w => h_25 ((hoV_neg hE10 hlt).mpr w))) (neq hev (by omega) (Classical.not_not.mp h_37))
          | exact (fun (h1 : frB E l h a = false ∨ ¬ endsM E l h (nI a) true = 2 ^ v) => by
              rw [rt_0 h1] at hp
              rw [nI_1]
              exact hp) (Or.inr (fun w => h_37 (congrArg nI w)))
          | exact (fun (h1 : frB E l h a = false ∨ ¬ endsM E l h (nI a) true = 2 ^ v) => by
              rw [rt_0 h1] at hp
              rw [nI_1]
              exact hp) (Or.inl ((hoV_neg hE10 hlt).mp h_25))
      · refine w_inc (y := _ + 1) rfl rfl rfl ?_
        refine w_norm (L' := [(0, _), (1, _), (2, _), (3, _), (4, _)]) rfl ?_
        refine w_inc (y := _ + 1) rfl rfl rfl ?_
        refine w_norm (L' := [(0, _), (1, _), (2, _), (3, _), (4, _)]) rfl ?_
        refine w_go rfl ?_
        have hp := ih hlt
        first
          | exact (fun (h1 : frB E l h a = true) (h2 : endsM E l h (nI a) true = 2 ^ v) => by
              rw [rt_1 h1 h2] at hp
              rw [nI_1, nI_1]
              exact hp) (Bool.not_eq_false _ |>.mp (fun w => h_25 ((hoV_neg hE10 hlt).mpr w))) (neq hev (by omega) (Classical.not_not.mp h_37))
          | exact (fun (h1 : frB E l h a = false ∨ ¬ endsM E l h (nI a) true = 2 ^ v) => by
              rw [rt_0 h1] at hp
              rw [nI_1]
              exact hp) (Or.inr (fun w => h_37 (congrArg nI w)))
          | exact (fun (h1 : frB E l h a = false ∨ ¬ endsM E l h (nI a) true = 2 ^ v) => by
              rw [rt_0 h1] at hp
              rw [nI_1]
              exact hp) (Or.inl ((hoV_neg hE10 hlt).mp h_25))

set_option maxHeartbeats 1000000 in
set_option maxRecDepth 10000 in
theorem ok_X0_rootedAt {d : Nat} {M : Mm} {ML : Ml} {N E A : Nat} {l h : Nat → Nat} (hS : NS M 2 3 4 5 6 N E A l h) (hW : WN N E A l h) (hC : CLS M E l h) {v : Nat} (hv : v < 7) : EX (d + 2) k_X0_rootedAt [.ref 24, .ref 2, .int (nI v)] M ML (fun r M2 L2 => r = some (.int (nI (rtN l h E v (2 ^ E)))) ∧ L2 = ML ∧ M2 = M) := by
  refine EX_in mi_X0_rootedAt rfl rfl ?_
  show WP _ cd_X0_rootedAt false _ (0, [(0, .ref 24), (1, .ref 2), (2, .int (nI v))], [], (SH, M, ML))
  refine w_cst (v := .int 0) rfl rfl ?_
  refine w_sto (L' := [(0, _), (1, _), (2, _), (3, _)]) rfl rfl ?_
  refine w_cst (v := .int 0) rfl rfl ?_
  refine w_sto (L' := [(0, _), (1, _), (2, _), (3, _), (4, _)]) rfl rfl ?_
  exact lp_X0_rootedAt_5 hS hW hC hv 0 (Nat.zero_le _)

set_option maxHeartbeats 1000000 in
set_option maxRecDepth 10000 in
theorem ok_X11_many {d : Nat} {M : Mm} {ML : Ml} {N E A : Nat} {l h : Nat → Nat} (hS : NS M 2 3 4 5 6 N E A l h) (hW : WN N E A l h) (hR : RG M E l h) (hf : M 24 0 = 0 ∨ (M 24 0 = 1 ∧ CLS M E l h)) {y : Int32} : EX (d + 5) k_X11_many [.ref 1, .int y] M ML (fun r M2 L2 => r = some (.int (manyA l h E y)) ∧ Fr [24, 25, 26, 27, 28, 29] M M2 ∧ (M2 24 0 = 0 ∨ (M2 24 0 = 1 ∧ CLS M2 E l h))) := by
  refine EX_in mi_X11_many rfl rfl ?_
  show WP _ cd_X11_many false _ (0, [(0, .ref 1), (1, .int y)], [], (SH, M, ML))
  refine w_ld rfl rfl ?_
  refine w_cj rfl rfl (fun h_1 => ?_) (fun h_1 => ?_)
  · refine w_cst (v := .int (-1)) rfl rfl ?_
    refine w_ret rfl rfl (trivial) ?_
    refine ⟨?_, Fr_rf, hf⟩
    unfold manyA
    first
      | (rw [wh_no1 h_1]; rfl)
      | (rw [wh_no2 (n := 1) (nle_lt.mp h_6)]; rfl)
  · refine w_ld rfl rfl ?_
    refine w_cst (v := .int 1) rfl rfl ?_
    refine w_cj rfl rfl (fun h_6 => ?_) (fun h_6 => ?_)
    · refine w_ld rfl rfl ?_
      refine w_getr rfl rfl rfl rfl rfl ?_
      refine w_ld rfl rfl ?_
      refine w_getr rfl rfl rfl rfl rfl ?_
      refine w_ld rfl rfl ?_
      refine w_getr rfl rfl rfl rfl rfl ?_
      obtain ⟨_, M3, L3, ⟨rfl, hF, hf1, hC⟩, hE23⟩ := ok_X0_find (d := d) (ML := ML) hS hW hR hf
      refine w_callv (as := [_, _, _]) (rest := []) rfl rfl rfl rfl rfl rfl rfl rfl hE23 ?_
      refine w_ld rfl rfl ?_
      refine w_cj rfl rfl (fun h_27 => ?_) (fun h_27 => ?_)
      · refine w_ld rfl rfl ?_
        refine w_getr rfl rfl rfl rfl rfl ?_
        refine w_getv rfl rfl rfl rfl rfl (hC.2.1) ?_
        refine w_ret rfl rfl (trivial) ?_
        refine ⟨?_, hF, Or.inr ⟨hf1, hC⟩⟩
        unfold manyA
        rw [wh_yes (n := 1) h_1 h_6]
        show _ = some (Value.int (if y = 0 then _ else _))
        first
          | rw [if_pos (Classical.not_not.mp h_27)]
          | rw [if_neg h_27]
      · refine w_ld rfl rfl ?_
        refine w_getr rfl rfl rfl rfl rfl ?_
        refine w_getv rfl rfl rfl rfl rfl (hC.1) ?_
        refine w_go rfl ?_
        refine w_ret rfl rfl (trivial) ?_
        refine ⟨?_, hF, Or.inr ⟨hf1, hC⟩⟩
        unfold manyA
        rw [wh_yes (n := 1) h_1 h_6]
        show _ = some (Value.int (if y = 0 then _ else _))
        first
          | rw [if_pos (Classical.not_not.mp h_27)]
          | rw [if_neg h_27]
    · refine w_cst (v := .int (-1)) rfl rfl ?_
      refine w_ret rfl rfl (trivial) ?_
      refine ⟨?_, Fr_rf, hf⟩
      unfold manyA
      first
        | (rw [wh_no1 h_1]; rfl)
        | (rw [wh_no2 (n := 1) (nle_lt.mp h_6)]; rfl)

set_option maxHeartbeats 1000000 in
set_option maxRecDepth 10000 in
theorem ok_X11_ofClass {d : Nat} {M : Mm} {ML : Ml} {N E A : Nat} {l h : Nat → Nat} (hS : NS M 2 3 4 5 6 N E A l h) (hW : WN N E A l h) (hR : RG M E l h) (hf : M 24 0 = 0 ∨ (M 24 0 = 1 ∧ CLS M E l h)) {x y : Int32} : EX (d + 5) k_X11_ofClass [.ref 1, .int x, .int y] M ML (fun r M2 L2 => r = some (.int (ofcA l h E x y)) ∧ Fr [24, 25, 26, 27, 28, 29] M M2 ∧ (M2 24 0 = 0 ∨ (M2 24 0 = 1 ∧ CLS M2 E l h))) := by
  refine EX_in mi_X11_ofClass rfl rfl ?_
  show WP _ cd_X11_ofClass false _ (0, [(0, .ref 1), (1, .int x), (2, .int y)], [], (SH, M, ML))
  have hE10 := hW.2.2.1
  have h1024 := pow_b hE10
  have hER := eqB_ER l h E
  have hCl : clC l h E ≤ 2 ^ E := hdc_le _
  refine w_ld rfl rfl ?_
  refine w_cj rfl rfl (fun h_1 => ?_) (fun h_1 => ?_)
  · refine w_cst (v := .int (-1)) rfl rfl ?_
    refine w_ret rfl rfl (trivial) ?_
    refine ⟨?_, Fr_rf, hf⟩
    unfold ofcA
    first
      | (rw [wh_no1 h_1]; rfl)
      | (rw [wh_no2 (n := 1) h_6]; rfl)
      | (rw [decide_eq_false h_10, Bool.and_false]; rfl)
  · refine w_ld rfl rfl ?_
    refine w_cst (v := .int 1) rfl rfl ?_
    refine w_cj rfl rfl (fun h_6 => ?_) (fun h_6 => ?_)
    · refine w_cst (v := .int (-1)) rfl rfl ?_
      refine w_ret rfl rfl (trivial) ?_
      refine ⟨?_, Fr_rf, hf⟩
      unfold ofcA
      first
        | (rw [wh_no1 h_1]; rfl)
        | (rw [wh_no2 (n := 1) h_6]; rfl)
        | (rw [decide_eq_false h_10, Bool.and_false]; rfl)
    · refine w_ld rfl rfl ?_
      refine w_cj rfl rfl (fun h_10 => ?_) (fun h_10 => ?_)
      · obtain ⟨k, hk, rfl⟩ := nI_of (nlt0.mpr h_10)
        refine w_ld rfl rfl ?_
        refine w_getr rfl rfl rfl rfl rfl ?_
        refine w_ld rfl rfl ?_
        refine w_getr rfl rfl rfl rfl rfl ?_
        refine w_ld rfl rfl ?_
        refine w_getr rfl rfl rfl rfl rfl ?_
        obtain ⟨_, M3, L3, ⟨rfl, hF, hf1, hC⟩, hE27⟩ := ok_X0_find (d := d) (ML := ML) hS hW hR hf
        refine w_callv (as := [_, _, _]) (rest := []) rfl rfl rfl rfl rfl rfl rfl rfl hE27 ?_
        refine w_ld rfl rfl ?_
        refine w_ld rfl rfl ?_
        refine w_getr rfl rfl rfl rfl rfl ?_
        refine w_getv rfl rfl rfl rfl rfl (hC.2.1) ?_
        refine w_cj rfl rfl (fun h_38 => ?_) (fun h_38 => ?_)
        · have hkc : k < clC l h E := nlt (by omega) (by omega) h_38
          obtain ⟨c, hc, rfl⟩ := rkC_onto (S := clS l h E) hkc
          have hrow := hC.2.2.1 c hc
          have hoc := ocI_of (S := clS l h E) hc
          refine w_ld rfl rfl ?_
          refine w_getr rfl rfl rfl rfl rfl ?_
          refine w_getr rfl rfl rfl rfl rfl ?_
          refine w_ld rfl rfl ?_
          refine w_call (as := [_, _]) (rest := []) rfl rfl rfl rfl rfl rfl rfl rfl (ok_at_v _ _ _ rfl rfl rfl (rfl) (by omega) (hrow.2.2.2)) ?_
          refine w_sto (L' := [(0, _), (1, _), (2, _), (3, _)]) rfl rfl ?_
          refine w_ld rfl rfl ?_
          refine w_cj rfl rfl (fun h_57 => ?_) (fun h_57 => ?_)
          · refine w_ld rfl rfl ?_
            refine w_getr rfl rfl rfl rfl rfl ?_
            refine w_getr rfl rfl rfl rfl rfl ?_
            refine w_ld rfl rfl ?_
            refine w_call (as := [_, _]) (rest := []) rfl rfl rfl rfl rfl rfl rfl rfl (ok_at_v _ _ _ rfl rfl rfl (rfl) (by omega) (hrow.2.1)) ?_
            refine w_ret rfl rfl (trivial) ?_
            refine ⟨?_, hF, Or.inr ⟨hf1, hC⟩⟩
            unfold ofcA ofcV
            rw [wh_yes (n := 1) h_1 (Int32.not_lt.mp h_6), decide_eq_true h_10, nI_clamp hk, hoc, if_pos hc]
            show _ = some (Value.int (if y = 0 then _ else _))
            first
              | rw [if_pos (Classical.not_not.mp h_57)]
              | rw [if_neg h_57]
          · refine w_ld rfl rfl ?_
            refine w_getr rfl rfl rfl rfl rfl ?_
            refine w_getr rfl rfl rfl rfl rfl ?_
            refine w_ld rfl rfl ?_
            refine w_call (as := [_, _]) (rest := []) rfl rfl rfl rfl rfl rfl rfl rfl (ok_at_v _ _ _ rfl rfl rfl (rfl) (by omega) (hrow.1)) ?_
            refine w_go rfl ?_
            refine w_ret rfl rfl (trivial) ?_
            refine ⟨?_, hF, Or.inr ⟨hf1, hC⟩⟩
            unfold ofcA ofcV
            rw [wh_yes (n := 1) h_1 (Int32.not_lt.mp h_6), decide_eq_true h_10, nI_clamp hk, hoc, if_pos hc]
            show _ = some (Value.int (if y = 0 then _ else _))
            first
              | rw [if_pos (Classical.not_not.mp h_57)]
              | rw [if_neg h_57]
        · refine w_cst (v := .int (-2)) rfl rfl ?_
          refine w_ret rfl rfl (trivial) ?_
          refine ⟨?_, hF, Or.inr ⟨hf1, hC⟩⟩
          unfold ofcA ofcV
          rw [wh_yes (n := 1) h_1 (Int32.not_lt.mp h_6), decide_eq_true h_10, nI_clamp hk, ocI_none (Nat.not_lt.mp (fun w => h_38 (nI_lt w (by omega)))), if_neg (Nat.lt_irrefl _)]
          exact rfl
      · refine w_cst (v := .int (-1)) rfl rfl ?_
        refine w_ret rfl rfl (trivial) ?_
        refine ⟨?_, Fr_rf, hf⟩
        unfold ofcA
        first
          | (rw [wh_no1 h_1]; rfl)
          | (rw [wh_no2 (n := 1) h_6]; rfl)
          | (rw [decide_eq_false h_10, Bool.and_false]; rfl)

set_option maxHeartbeats 1000000 in
set_option maxRecDepth 10000 in
theorem ok_X11_place {d : Nat} {M : Mm} {ML : Ml} {N E A : Nat} {l h : Nat → Nat} (hS : NS M 2 3 4 5 6 N E A l h) (hW : WN N E A l h) (hR : RG M E l h) (hf : M 24 0 = 0 ∨ (M 24 0 = 1 ∧ CLS M E l h)) {x : Int32} : EX (d + 5) k_X11_place [.ref 1, .int x] M ML (fun r M2 L2 => r = some (.int (placeA l h E x)) ∧ Fr [24, 25, 26, 27, 28, 29] M M2 ∧ (M2 24 0 = 0 ∨ (M2 24 0 = 1 ∧ CLS M2 E l h))) := by
  refine EX_in mi_X11_place rfl rfl ?_
  show WP _ cd_X11_place false _ (0, [(0, .ref 1), (1, .int x)], [], (SH, M, ML))
  have hE10 := hW.2.2.1
  have h1024 := pow_b hE10
  have hER := eqB_ER l h E
  have hCl : clC l h E ≤ 2 ^ E := hdc_le _
  refine w_ld rfl rfl ?_
  refine w_getr rfl rfl rfl rfl rfl ?_
  refine w_ld rfl rfl ?_
  refine w_cifn (as := [_, _]) (rest := []) rfl rfl rfl rfl rfl rfl rfl rfl (ok_X4_hasArrowing _ _ _ _ hS.2.1 hW.2.2.1) rfl (fun h_5 => ?_) (fun h_5 => ?_)
  · obtain ⟨a, ha, rfl⟩ := inR_ex (by omega) h_5
    refine w_ld rfl rfl ?_
    refine w_getr rfl rfl rfl rfl rfl ?_
    refine w_ld rfl rfl ?_
    refine w_getr rfl rfl rfl rfl rfl ?_
    refine w_ld rfl rfl ?_
    refine w_getr rfl rfl rfl rfl rfl ?_
    obtain ⟨_, M3, L3, ⟨rfl, hF, hf1, hC⟩, hE25⟩ := ok_X0_find (d := d) (ML := ML) hS hW hR hf
    refine w_callv (as := [_, _, _]) (rest := []) rfl rfl rfl rfl rfl rfl rfl rfl hE25 ?_
    refine w_ld rfl rfl ?_
    refine w_getr rfl rfl rfl rfl rfl ?_
    refine w_getr rfl rfl rfl rfl rfl ?_
    refine w_ld rfl rfl ?_
    refine w_call (as := [_, _]) (rest := []) rfl rfl rfl rfl rfl rfl rfl rfl (ok_at_v _ _ _ rfl rfl rfl (rfl) (by omega) (hC.2.2.2 a ha)) ?_
    refine w_sto (L' := [(0, _), (1, _), (2, _)]) rfl rfl ?_
    refine w_ld rfl rfl ?_
    refine w_cj rfl rfl (fun h_41 => ?_) (fun h_41 => ?_)
    · have hfr : frB E l h a = true := Bool.not_eq_false _ |>.mp (fun w => nlt0.mpr h_41 ((hoV_neg hE10 ha).mpr w))
      have hia := clI_lt ha hfr
      have hho : hoV l h E a = nI (clI l h E a) := if_pos hfr
      refine w_ld rfl rfl ?_
      refine w_getr rfl rfl rfl rfl rfl ?_
      refine w_getr rfl rfl rfl rfl rfl ?_
      refine w_ld rfl rfl ?_
      refine w_call (as := [_, _]) (rest := []) rfl rfl rfl rfl rfl rfl rfl rfl (ok_at_v _ _ _ rfl rfl rfl (hho) (by omega) ((hC.2.2.1 _ hia).2.2.1)) ?_
      refine w_ret rfl rfl (trivial) ?_
      refine ⟨?_, hF, Or.inr ⟨hf1, hC⟩⟩
      unfold placeA
      rw [h_5, nI_clamp (by omega)]
      first
        | exact (fun (w : frB E l h a = true) => by rw [w]; rfl) hfr
        | exact (fun (w : frB E l h a = false) => by rw [w]; rfl) ((hoV_neg hE10 ha).mp (nle_lt.mp h_41))
    · refine w_cst (v := .int (-2)) rfl rfl ?_
      refine w_go rfl ?_
      refine w_ret rfl rfl (trivial) ?_
      refine ⟨?_, hF, Or.inr ⟨hf1, hC⟩⟩
      unfold placeA
      rw [h_5, nI_clamp (by omega)]
      first
        | exact (fun (w : frB E l h a = true) => by rw [w]; rfl) hfr
        | exact (fun (w : frB E l h a = false) => by rw [w]; rfl) ((hoV_neg hE10 ha).mp (nle_lt.mp h_41))
  · refine w_cst (v := .int (-1)) rfl rfl ?_
    refine w_ret rfl rfl (trivial) ?_
    refine ⟨?_, Fr_rf, hf⟩
    unfold placeA
    rw [h_5]
    exact rfl

set_option maxHeartbeats 1000000 in
set_option maxRecDepth 10000 in
theorem ok_X11_rooted {d : Nat} {M : Mm} {ML : Ml} {N E A : Nat} {l h : Nat → Nat} (hS : NS M 2 3 4 5 6 N E A l h) (hW : WN N E A l h) (hR : RG M E l h) (hf : M 24 0 = 0 ∨ (M 24 0 = 1 ∧ CLS M E l h)) {x : Int32} : EX (d + 5) k_X11_rooted [.ref 1, .int x] M ML (fun r M2 L2 => r = some (.int (rootA l h N E x)) ∧ Fr [24, 25, 26, 27, 28, 29] M M2 ∧ (M2 24 0 = 0 ∨ (M2 24 0 = 1 ∧ CLS M2 E l h))) := by
  refine EX_in mi_X11_rooted rfl rfl ?_
  show WP _ cd_X11_rooted false _ (0, [(0, .ref 1), (1, .int x)], [], (SH, M, ML))
  have hE10 := hW.2.2.1
  have h1024 := pow_b hE10
  have hER := eqB_ER l h E
  have hCl : clC l h E ≤ 2 ^ E := hdc_le _
  have hN7 := hW.2.1
  refine w_ld rfl rfl ?_
  refine w_getr rfl rfl rfl rfl rfl ?_
  refine w_ld rfl rfl ?_
  refine w_cifn (as := [_, _]) (rest := []) rfl rfl rfl rfl rfl rfl rfl rfl (ok_X4_hasNode_2 _ _ _ _ hS.1) rfl (fun h_5 => ?_) (fun h_5 => ?_)
  · obtain ⟨v, hv, rfl⟩ := inR_ex (by omega) h_5
    refine w_ld rfl rfl ?_
    refine w_getr rfl rfl rfl rfl rfl ?_
    refine w_ld rfl rfl ?_
    refine w_getr rfl rfl rfl rfl rfl ?_
    refine w_ld rfl rfl ?_
    refine w_getr rfl rfl rfl rfl rfl ?_
    obtain ⟨_, M3, L3, ⟨rfl, hF, hf1, hC⟩, hE25⟩ := ok_X0_find (d := d) (ML := ML) hS hW hR hf
    refine w_callv (as := [_, _, _]) (rest := []) rfl rfl rfl rfl rfl rfl rfl rfl hE25 ?_
    refine w_ld rfl rfl ?_
    refine w_getr rfl rfl rfl rfl rfl ?_
    refine w_ld rfl rfl ?_
    refine w_getr rfl rfl rfl rfl rfl ?_
    refine w_ld rfl rfl ?_
    refine w_call (as := [_, _, _]) (rest := []) rfl rfl rfl rfl rfl rfl rfl rfl (EX_ex (ok_X0_rootedAt (NS_Fr hS hF (by decide)) hW hC (by omega))) ?_
    refine w_ret rfl rfl (trivial) ?_
    refine ⟨?_, hF, Or.inr ⟨hf1, hC⟩⟩
    unfold rootA
    rw [h_5, nI_clamp (by omega)]
    exact rfl
  · refine w_cst (v := .int (-1)) rfl rfl ?_
    refine w_ret rfl rfl (trivial) ?_
    refine ⟨?_, Fr_rf, hf⟩
    unfold rootA
    rw [h_5]
    exact rfl

