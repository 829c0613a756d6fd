/-! ===== flows of the reference ===== -/
theorem ofI_add (a b : Int) : Int32.ofInt a + Int32.ofInt b = Int32.ofInt (a + b) := (Int32.ofInt_add a b).symm
theorem ofI_1 : (1 : Int32) = Int32.ofInt 1 := rfl
theorem ofI_m1 : (-1 : Int32) = Int32.ofInt (-1) := by decide
theorem to_up {l h : Nat → Nat} {x : Int32} {E e v u : Nat} (he : e < E) (hch : isCh l h e = false) (hne : l e ≠ h e) (q : (l e = v ∧ h e = u) ∨ (h e = v ∧ l e = u)) : (to l h x e = v → ph l h x E v = ph l h x E u + 1) ∧ (¬ to l h x e = v → ph l h x E v = ph l h x E u - 1) := by
  have ht := ph_T (l := l) (h := h) (x := x) E e he hch
  unfold sg at ht
  unfold to
  rcases q with ⟨a, b⟩ | ⟨a, b⟩
  · rw [a, b] at ht hne
    rw [a, b]
    cases c : bt x e with
    | true =>
      rw [c] at ht
      have ht' : ph l h x E u - ph l h x E v = -1 := ht
      exact ⟨fun _ => by omega, fun w => absurd rfl w⟩
    | false =>
      rw [c] at ht
      have ht' : ph l h x E u - ph l h x E v = 1 := ht
      exact ⟨fun w => absurd (show u = v from w).symm hne, fun _ => by omega⟩
  · rw [a, b] at ht hne
    rw [a, b]
    cases c : bt x e with
    | true =>
      rw [c] at ht
      have ht' : ph l h x E v - ph l h x E u = -1 := ht
      exact ⟨fun w => absurd (show u = v from w) hne, fun _ => by omega⟩
    | false =>
      rw [c] at ht
      have ht' : ph l h x E v - ph l h x E u = 1 := ht
      exact ⟨fun _ => by omega, fun w => absurd rfl w⟩

set_option maxHeartbeats 1000000 in
set_option maxRecDepth 10000 in
theorem lp_X12_flowOf_32 {d : Nat} {M : Mm} {ML : Ml} {N E A : Nat} {l h : Nat → Nat} (hS : NM M N E A l h) (hW : WN N E A l h) {c : Nat} (hc : c < E) {dp : Nat → Nat} {c0 : Nat} (hk : Wk M E l h N (h c) dp c0) {x : Int32} : ∀ k v, dp v ≤ k → v < N → rea M (h c) v → WP (d + 2) cd_X12_flowOf false (fun r M2 L2 => r = some (.int (flI l h E x c)) ∧ L2 = ML ∧ M2 = M) (32, [(0, .ref 73), (1, .int x), (2, .int (nI c)), (3, .int (Int32.ofInt (sg x c + ph l h x E (l c) - ph l h x E v))), (4, .int (nI v))], [], (SH, M, ML)) := by
  have hN7 := hW.2.1
  have hE10 := hW.2.2.1
  have hb : ∀ e, e < E → l e < N ∧ h e < N := fun e he => by have := hW.2.2.2.2 e he; omega
  have hcc := hb c hc
  have hec := hS.2.2.2 c hc
  intro k
  induction k with
  | zero =>
    intro v hd hv hr
    have hvf : v = h c := by
      rcases hr with q | q
      · exact q
      · rcases (hk.2 v hv).2 with w | ⟨e, u, a1, a2, a3, a4, a5, a6, a7⟩
        · exact absurd w q
        · omega
    refine w_ld rfl rfl ?_
    refine w_ld rfl rfl ?_
    refine w_getr rfl rfl rfl rfl rfl ?_
    refine w_ld rfl rfl ?_
    refine w_aiv rfl rfl rfl (rfl) (by omega) rfl (hec.2) ?_
    refine w_cjT rfl rfl (congrArg nI hvf) ?_
    refine w_ld rfl rfl ?_
    refine w_ret rfl rfl (trivial) ?_
    rw [hvf]
    exact ⟨rfl, rfl, rfl⟩
  | succ k ih =>
    intro v hd hv hr
    by_cases hvf : v = h c
    · refine w_ld rfl rfl ?_
      refine w_ld rfl rfl ?_
      refine w_getr rfl rfl rfl rfl rfl ?_
      refine w_ld rfl rfl ?_
      refine w_aiv rfl rfl rfl (rfl) (by omega) rfl (hec.2) ?_
      refine w_cjT rfl rfl (congrArg nI hvf) ?_
      refine w_ld rfl rfl ?_
      refine w_ret rfl rfl (trivial) ?_
      rw [hvf]
      exact ⟨rfl, rfl, rfl⟩
    · obtain ⟨e, u, a1, a2, a3, a4, a5, a6, a7⟩ : ∃ e u, e < E ∧ isCh l h e = false ∧ M 87 v = nI e ∧ ((l e = v ∧ h e = u) ∨ (h e = v ∧ l e = u)) ∧ u < N ∧ (u = h c ∨ ¬ M 87 u = -1) ∧ dp u < dp v := by
        rcases hr with q | q
        · exact absurd q hvf
        · rcases (hk.2 v hv).2 with w | w
          · exact absurd w q
          · exact w
      have hed := hS.2.2.2 e a1
      have hbe := hb e a1
      have hlh := hW.2.2.2.2 e a1
      have hup := to_up (x := x) (E := E) a1 a2 (by omega) a4
      have htl : to l h x e < 7 := (fr_lt hW a1).2
      have hrest := ih u (by omega) a5 a6
      refine w_ld rfl rfl ?_
      refine w_ld rfl rfl ?_
      refine w_getr rfl rfl rfl rfl rfl ?_
      refine w_ld rfl rfl ?_
      refine w_aiv rfl rfl rfl (rfl) (by omega) rfl (hec.2) ?_
      refine w_cjF rfl rfl (fun q => hvf (neq (by omega) (by omega) q)) ?_
      refine w_ld rfl rfl ?_
      refine w_getr rfl rfl rfl rfl rfl ?_
      refine w_ld rfl rfl ?_
      refine w_aiv rfl rfl rfl (rfl) (by omega) rfl (a3) ?_
      refine w_sto (L' := [(0, _), (1, _), (2, _), (3, _), (4, _), (5, _)]) rfl rfl ?_
      refine w_ld rfl rfl ?_
      refine w_getr rfl rfl rfl rfl rfl ?_
      refine w_ld rfl rfl ?_
      refine w_aiv rfl rfl rfl (rfl) (by omega) rfl (hed.1) ?_
      refine w_ld rfl rfl ?_
      refine w_cj rfl rfl (fun h_61 => ?_) (fun h_61 => ?_)
      · refine w_ld rfl rfl ?_
        refine w_getr rfl rfl rfl rfl rfl ?_
        refine w_ld rfl rfl ?_
        refine w_aiv rfl rfl rfl (rfl) (by omega) rfl (hed.1) ?_
        first
          | rw [show h e = u from by
              rcases a4 with ⟨b1, b2⟩ | ⟨b1, b2⟩
              · exact b2
              · have h61 : ¬ ¬ nI (l e) = nI v := h_61
                have := neq (by omega) (by omega) (Classical.not_not.mp h61)
                omega]
          | rw [show l e = u from by
              rcases a4 with ⟨b1, b2⟩ | ⟨b1, b2⟩
              · exact absurd (congrArg nI b1) h_61
              · exact b2]
        refine w_sto (L' := [(0, _), (1, _), (2, _), (3, _), (4, _), (5, _), (6, _)]) rfl rfl ?_
        refine w_ld rfl rfl ?_
        refine w_ld rfl rfl ?_
        refine w_ld rfl rfl ?_
        refine w_ld rfl rfl ?_
        refine w_call (as := [_, _, _]) (rest := [_]) rfl rfl rfl rfl rfl rfl rfl rfl (ok_X12_toOf _ _ _ _ hS hE10 a1) ?_
        refine w_ld rfl rfl ?_
        refine w_cj rfl rfl (fun h_93 => ?_) (fun h_93 => ?_)
        · refine w_cst (v := .int (-1)) rfl rfl ?_
          refine w_bin rfl rfl ?_
          refine w_sto (L' := [(0, _), (1, _), (2, _), (3, _), (4, _), (5, _), (6, _)]) rfl rfl ?_
          refine w_ld rfl rfl ?_
          refine w_sto (L' := [(0, _), (1, _), (2, _), (3, _), (4, _), (5, _), (6, _)]) rfl rfl ?_
          refine w_go rfl ?_
          refine w_keep [0, 1, 2, 3, 4] (L' := [(0, _), (1, _), (2, _), (3, _), (4, _)]) rfl ?_
          first
            | exact (fun (hz : to l h x e = v) => by
                rw [ofI_1, ofI_add, show sg x c + ph l h x E (l c) - ph l h x E v + 1 = sg x c + ph l h x E (l c) - ph l h x E u from by have := hup.1 hz; omega]
                exact hrest) (neq (by omega) (by omega) (Classical.not_not.mp h_93))
            | exact (fun (hz : ¬ to l h x e = v) => by
                rw [ofI_m1, ofI_add, show sg x c + ph l h x E (l c) - ph l h x E v + -1 = sg x c + ph l h x E (l c) - ph l h x E u from by have := hup.2 hz; omega]
                exact hrest) (fun w => h_93 (congrArg nI w))
        · refine w_cst (v := .int 1) rfl rfl ?_
          refine w_go rfl ?_
          refine w_bin rfl rfl ?_
          refine w_sto (L' := [(0, _), (1, _), (2, _), (3, _), (4, _), (5, _), (6, _)]) rfl rfl ?_
          refine w_ld rfl rfl ?_
          refine w_sto (L' := [(0, _), (1, _), (2, _), (3, _), (4, _), (5, _), (6, _)]) rfl rfl ?_
          refine w_go rfl ?_
          refine w_keep [0, 1, 2, 3, 4] (L' := [(0, _), (1, _), (2, _), (3, _), (4, _)]) rfl ?_
          first
            | exact (fun (hz : to l h x e = v) => by
                rw [ofI_1, ofI_add, show sg x c + ph l h x E (l c) - ph l h x E v + 1 = sg x c + ph l h x E (l c) - ph l h x E u from by have := hup.1 hz; omega]
                exact hrest) (neq (by omega) (by omega) (Classical.not_not.mp h_93))
            | exact (fun (hz : ¬ to l h x e = v) => by
                rw [ofI_m1, ofI_add, show sg x c + ph l h x E (l c) - ph l h x E v + -1 = sg x c + ph l h x E (l c) - ph l h x E u from by have := hup.2 hz; omega]
                exact hrest) (fun w => h_93 (congrArg nI w))
      · refine w_ld rfl rfl ?_
        refine w_getr rfl rfl rfl rfl rfl ?_
        refine w_ld rfl rfl ?_
        refine w_aiv rfl rfl rfl (rfl) (by omega) rfl (hed.2) ?_
        refine w_go rfl ?_
        first
          | rw [show h e = u from by
              rcases a4 with ⟨b1, b2⟩ | ⟨b1, b2⟩
              · exact b2
              · have h61 : ¬ ¬ nI (l e) = nI v := h_61
                have := neq (by omega) (by omega) (Classical.not_not.mp h61)
                omega]
          | rw [show l e = u from by
              rcases a4 with ⟨b1, b2⟩ | ⟨b1, b2⟩
              · exact absurd (congrArg nI b1) h_61
              · exact b2]
        refine w_sto (L' := [(0, _), (1, _), (2, _), (3, _), (4, _), (5, _), (6, _)]) rfl rfl ?_
        refine w_ld rfl rfl ?_
        refine w_ld rfl rfl ?_
        refine w_ld rfl rfl ?_
        refine w_ld rfl rfl ?_
        refine w_call (as := [_, _, _]) (rest := [_]) rfl rfl rfl rfl rfl rfl rfl rfl (ok_X12_toOf _ _ _ _ hS hE10 a1) ?_
        refine w_ld rfl rfl ?_
        refine w_cj rfl rfl (fun h_93 => ?_) (fun h_93 => ?_)
        · refine w_cst (v := .int (-1)) rfl rfl ?_
          refine w_bin rfl rfl ?_
          refine w_sto (L' := [(0, _), (1, _), (2, _), (3, _), (4, _), (5, _), (6, _)]) rfl rfl ?_
          refine w_ld rfl rfl ?_
          refine w_sto (L' := [(0, _), (1, _), (2, _), (3, _), (4, _), (5, _), (6, _)]) rfl rfl ?_
          refine w_go rfl ?_
          refine w_keep [0, 1, 2, 3, 4] (L' := [(0, _), (1, _), (2, _), (3, _), (4, _)]) rfl ?_
          first
            | exact (fun (hz : to l h x e = v) => by
                rw [ofI_1, ofI_add, show sg x c + ph l h x E (l c) - ph l h x E v + 1 = sg x c + ph l h x E (l c) - ph l h x E u from by have := hup.1 hz; omega]
                exact hrest) (neq (by omega) (by omega) (Classical.not_not.mp h_93))
            | exact (fun (hz : ¬ to l h x e = v) => by
                rw [ofI_m1, ofI_add, show sg x c + ph l h x E (l c) - ph l h x E v + -1 = sg x c + ph l h x E (l c) - ph l h x E u from by have := hup.2 hz; omega]
                exact hrest) (fun w => h_93 (congrArg nI w))
        · refine w_cst (v := .int 1) rfl rfl ?_
          refine w_go rfl ?_
          refine w_bin rfl rfl ?_
          refine w_sto (L' := [(0, _), (1, _), (2, _), (3, _), (4, _), (5, _), (6, _)]) rfl rfl ?_
          refine w_ld rfl rfl ?_
          refine w_sto (L' := [(0, _), (1, _), (2, _), (3, _), (4, _), (5, _), (6, _)]) rfl rfl ?_
          refine w_go rfl ?_
          refine w_keep [0, 1, 2, 3, 4] (L' := [(0, _), (1, _), (2, _), (3, _), (4, _)]) rfl ?_
          first
            | exact (fun (hz : to l h x e = v) => by
                rw [ofI_1, ofI_add, show sg x c + ph l h x E (l c) - ph l h x E v + 1 = sg x c + ph l h x E (l c) - ph l h x E u from by have := hup.1 hz; omega]
                exact hrest) (neq (by omega) (by omega) (Classical.not_not.mp h_93))
            | exact (fun (hz : ¬ to l h x e = v) => by
                rw [ofI_m1, ofI_add, show sg x c + ph l h x E (l c) - ph l h x E v + -1 = sg x c + ph l h x E (l c) - ph l h x E u from by have := hup.2 hz; omega]
                exact hrest) (fun w => h_93 (congrArg nI w))

set_option maxHeartbeats 1000000 in
set_option maxRecDepth 10000 in
theorem ok_X12_flowOf {d : Nat} {M : Mm} {ML : Ml} {N E A : Nat} {l h : Nat → Nat} (hS : NM M N E A l h) (hW : WN N E A l h) (hT : ∀ e, e < E → M 85 e = b2i (isCh l h e)) {c : Nat} (hc : c < E) (hch : isCh l h c = true) {x : Int32} : EX (d + 3) k_X12_flowOf [.ref 73, .int x, .int (nI c)] M ML (fun r M2 L2 => r = some (.int (flI l h E x c)) ∧ L2 = ML ∧ Fm [87] [] M M2) := by
  refine EX_in mi_X12_flowOf rfl rfl ?_
  show WP _ cd_X12_flowOf false _ (0, [(0, .ref 73), (1, .int x), (2, .int (nI c))], [], (SH, M, ML))
  have hN7 := hW.2.1
  have hE10 := hW.2.2.1
  have hb : ∀ e, e < E → l e < N ∧ h e < N := fun e he => by have := hW.2.2.2.2 e he; omega
  have hcc := hb c hc
  have hec := hS.2.2.2 c hc
  refine w_ld rfl rfl ?_
  refine w_ld rfl rfl ?_
  refine w_getr rfl rfl rfl rfl rfl ?_
  refine w_ld rfl rfl ?_
  refine w_aiv rfl rfl rfl (rfl) (by omega) rfl (hec.2) ?_
  obtain ⟨_, M3, L3, ⟨rfl, rfl, hF, dp, c0, hk, hcl⟩, hE7⟩ := ok_X12_walks (d := d + 1) (ML := ML) hS hW hT hcc.2
  refine w_callv (as := [_, _]) (rest := []) rfl rfl rfl rfl rfl rfl rfl rfl hE7 ?_
  have hS3 := NM_Fm hS hF (by decide) (by decide)
  have hec3 := hS3.2.2.2 c hc
  have hreach : rea M3 (h c) (l c) := (tree_cl (R := rea M3 (h c)) hcl E (Nat.le_refl _) (l c) (h c) (LA_in hc)).mpr (Or.inl rfl)
  refine w_ld rfl rfl ?_
  refine w_ld rfl rfl ?_
  refine w_cife (as := [_, _]) (rest := []) rfl rfl rfl rfl rfl rfl rfl rfl (ok_X12_has ..) rfl (fun h_12 => ?_) (fun h_12 => ?_)
  · refine w_cst (v := .int 1) rfl rfl ?_
    refine w_sto (L' := [(0, _), (1, _), (2, _), (3, _)]) rfl rfl ?_
    refine w_ld rfl rfl ?_
    refine w_getr rfl rfl rfl rfl rfl ?_
    refine w_ld rfl rfl ?_
    refine w_aiv rfl rfl rfl (rfl) (by omega) rfl (hec3.1) ?_
    refine w_sto (L' := [(0, _), (1, _), (2, _), (3, _), (4, _)]) rfl rfl ?_
    have hp := lp_X12_flowOf_32 (d := d) (ML := L3) (x := x) hS3 hW hc hk (dp (l c)) (l c) (Nat.le_refl _) hcc.1 hreach
    have hsg : sg x c = if tb x (nI c) = true then -1 else 1 := by rw [tb_bt (by omega)]; rfl
    refine WP_mono (P := fun r M2 L2 => r = some (Value.int (flI l h E x c)) ∧ L2 = L3 ∧ M2 = M3) ?_ (fun r M2 L2 q => ⟨q.1, q.2.1, by rw [q.2.2]; exact hF⟩)
    rw [show sg x c + ph l h x E (l c) - ph l h x E (l c) = sg x c by omega, hsg, h_12] at hp
    exact hp
  · refine w_cst (v := .int (-1)) rfl rfl ?_
    refine w_go rfl ?_
    refine w_sto (L' := [(0, _), (1, _), (2, _), (3, _)]) rfl rfl ?_
    refine w_ld rfl rfl ?_
    refine w_getr rfl rfl rfl rfl rfl ?_
    refine w_ld rfl rfl ?_
    refine w_aiv rfl rfl rfl (rfl) (by omega) rfl (hec3.1) ?_
    refine w_sto (L' := [(0, _), (1, _), (2, _), (3, _), (4, _)]) rfl rfl ?_
    have hp := lp_X12_flowOf_32 (d := d) (ML := L3) (x := x) hS3 hW hc hk (dp (l c)) (l c) (Nat.le_refl _) hcc.1 hreach
    have hsg : sg x c = if tb x (nI c) = true then -1 else 1 := by rw [tb_bt (by omega)]; rfl
    refine WP_mono (P := fun r M2 L2 => r = some (Value.int (flI l h E x c)) ∧ L2 = L3 ∧ M2 = M3) ?_ (fun r M2 L2 q => ⟨q.1, q.2.1, by rw [q.2.2]; exact hF⟩)
    rw [show sg x c + ph l h x E (l c) - ph l h x E (l c) = sg x c by omega, hsg, h_12] at hp
    exact hp

