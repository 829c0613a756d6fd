/-! ===== the ways along the tree of the reference ===== -/
/-- who came from where: row 87, with how late each came -/
def Wk (M : Mm) (E : Nat) (l h : Nat → Nat) (N fr : Nat) (dp : Nat → Nat) (c : Nat) : Prop := M 87 fr = -1 ∧ ∀ v, v < N → dp v ≤ c ∧ (M 87 v = -1 ∨ ∃ e u, e < E ∧ isCh l h e = false ∧ M 87 v = nI e ∧ ((l e = v ∧ h e = u) ∨ (h e = v ∧ l e = u)) ∧ u < N ∧ (u = fr ∨ ¬ M 87 u = -1) ∧ dp u < dp v)
def rea (M : Mm) (fr v : Nat) : Prop := v = fr ∨ ¬ M 87 v = -1
def nOp (M : Mm) (N : Nat) : Nat := fb_ct (fun v => decide (M 87 v = -1)) N
theorem Wk_neg {M : Mm} {E N fr c : Nat} {l h : Nat → Nat} {dp : Nat → Nat} (hE : E ≤ 10) (q : Wk M E l h N fr dp c) {v : Nat} (hv : v < N) : M 87 v < 0 ↔ M 87 v = -1 := by
  rcases (q.2 v hv).2 with w | ⟨e, u, he, -, w, -⟩
  · rw [w]
    exact ⟨fun _ => rfl, fun _ => by decide⟩
  · rw [w]
    exact ⟨fun y => absurd y (ne_m1 (by omega)), fun y => absurd (show nI e < 0 by rw [y]; decide) (ne_m1 (by omega))⟩
theorem nI_ne_m1 {n : Nat} (h : n < 2 ^ 31) : ¬ nI n = -1 := fun q => absurd (show nI n < 0 by rw [q]; decide) (ne_m1 h)
theorem Wk_add {M : Mm} {E N fr c e w u : Nat} {l h : Nat → Nat} {dp : Nat → Nat} (hE : E ≤ 10) (q : Wk M E l h N fr dp c) (he : e < E) (hch : isCh l h e = false) (hw : w < N) (hu : u < N) (hlu : (l e = w ∧ h e = u) ∨ (h e = w ∧ l e = u)) (hne : w ≠ fr) (h1 : M 87 w = -1) (h2 : rea M fr u) :
    Wk (up2 M 87 w (nI e)) E l h N fr (fun v => if v = w then c + 1 else dp v) (c + 1) ∧ nOp (up2 M 87 w (nI e)) N + 1 = nOp M N := by
  have huw : u ≠ w := fun y => by
    rcases h2 with z | z
    · exact hne (y.symm.trans z)
    · rw [y] at z
      exact z h1
  refine ⟨⟨by rw [up2_k hne.symm]; exact q.1, fun v hv => ⟨?_, ?_⟩⟩, ?_⟩
  · show (if v = w then c + 1 else dp v) ≤ c + 1
    split
    · omega
    · have := (q.2 v hv).1
      omega
  · by_cases y : v = w
    · right
      rw [y]
      refine ⟨e, u, he, hch, by rw [up2_e], hlu, hu, ?_, ?_⟩
      · rw [up2_k huw]
        exact h2
      · show (if u = w then c + 1 else dp u) < (if w = w then c + 1 else dp w)
        rw [if_neg huw, if_pos rfl]
        have := (q.2 u hu).1
        omega
    · rw [up2_k y]
      rcases (q.2 v hv).2 with z | ⟨e2, u2, a1, a2, a3, a4, a5, a6, a7⟩
      · exact Or.inl z
      · right
        have hu2 : u2 ≠ w := fun y2 => by
          rcases a6 with z | z
          · exact hne (y2.symm.trans z)
          · rw [y2] at z
            exact z h1
        refine ⟨e2, u2, a1, a2, a3, a4, a5, by rw [up2_k hu2]; exact a6, ?_⟩
        show (if u2 = w then c + 1 else dp u2) < (if v = w then c + 1 else dp v)
        rw [if_neg hu2, if_neg y]
        exact a7
  · have h3 := fb_ct_upd (fun v => decide (M 87 v = -1)) false hw
    have h4 : nOp (up2 M 87 w (nI e)) N = fb_ct (fun k => if k = w then false else decide (M 87 k = -1)) N := fb_ct_cong fun k _ => by
      show decide (up2 M 87 w (nI e) 87 k = -1) = if k = w then false else decide (M 87 k = -1)
      by_cases y : k = w
      · rw [if_pos y, y, up2_e]
        exact decide_eq_false (nI_ne_m1 (by omega))
      · rw [if_neg y, up2_k y]
    rw [if_pos (show decide (M 87 w = -1) = true from decide_eq_true h1)] at h3
    have h5 : (if (false : Bool) = true then 1 else 0) = 0 := rfl
    rw [h4]
    unfold nOp
    omega
/-- all edges of the tree below e stay within what was come to -/
def clo (M : Mm) (l h : Nat → Nat) (fr e : Nat) : Prop := ∀ i, i < e → isCh l h i = false → (rea M fr (l i) ↔ rea M fr (h i))

theorem hct {b : Bool} (q : ¬ b2i b = 0) : b = true := by
  cases b with
  | true => rfl
  | false => exact absurd rfl q
theorem hcf {b : Bool} (q : ¬ ¬ b2i b = 0) : b = false := by
  cases b with
  | false => rfl
  | true => exact absurd (show ¬ b2i true = 0 by decide) q

set_option maxHeartbeats 1000000 in
set_option maxRecDepth 10000 in
theorem lp_X12_walks_33 {d : Nat} {M : Mm} {ML : Ml} {N E A : Nat} {l h : Nat → Nat} (hS : NM M N E A l h) (hW : WN N E A l h) (hT : ∀ e, e < E → M 85 e = b2i (isCh l h e)) {fr : Nat} (hfr : fr < N) {n0 : Nat} (hk : ∀ M' dp c, Fm [87] [] M M' → Wk M' E l h N fr dp c → nOp M' N < n0 → WP d cd_X12_walks false (fun r M2 L2 => r = none ∧ L2 = ML ∧ Fm [87] [] M M2 ∧ ∃ dp c, Wk M2 E l h N fr dp c ∧ clo M2 l h fr E) (25, [(0, .ref 73), (1, .int (nI fr)), (2, .int 1)], [], (SH, M', ML))) (hk2 : ∀ M' dp c, Fm [87] [] M M' → Wk M' E l h N fr dp c → clo M' l h fr E → WP d cd_X12_walks false (fun r M2 L2 => r = none ∧ L2 = ML ∧ Fm [87] [] M M2 ∧ ∃ dp c, Wk M2 E l h N fr dp c ∧ clo M2 l h fr E) (25, [(0, .ref 73), (1, .int (nI fr)), (2, .int 0)], [], (SH, M', ML))) : ∀ e, e ≤ E → ∀ M' dp c m, Fm [87] [] M M' → Wk M' E l h N fr dp c → (m = 0 ∧ nOp M' N = n0 ∧ clo M' l h fr e) ∨ (m = 1 ∧ nOp M' N < n0) → WP d cd_X12_walks false (fun r M2 L2 => r = none ∧ L2 = ML ∧ Fm [87] [] M M2 ∧ ∃ dp c, Wk M2 E l h N fr dp c ∧ clo M2 l h fr E) (33, [(0, .ref 73), (1, .int (nI fr)), (2, .int m), (3, .int (nI e))], [], (SH, M', ML)) := by
  have hN7 := hW.2.1
  have hE10 := hW.2.2.1
  have hb : ∀ e, e < E → l e < N ∧ h e < N := fun e he => by have := hW.2.2.2.2 e he; omega
  refine up_ind fun e he ih => ?_
  intro M' dp c m hF hw hm
  have hS' := NM_Fm hS hF (by decide) (by decide)
  have h85 : ∀ e, e < E → M' 85 e = b2i (isCh l h e) := fun e he => by rw [hF.1 85 (by decide) (by decide)]; exact hT e he
  refine w_ld rfl rfl ?_
  refine w_ld rfl rfl ?_
  refine w_getv rfl rfl rfl rfl rfl (hS'.2.1) ?_
  refine w_cj rfl rfl (fun h_38 => ?_) (fun h_38 => ?_)
  · refine w_go rfl ?_
    refine w_keep [0, 1, 2] (L' := [(0, _), (1, _), (2, _)]) rfl ?_
    have h9 : e = E := by have := nle (by omega) (by omega) h_38; omega
    rw [h9] at hm
    rcases hm with ⟨rfl, -, hcl⟩ | ⟨rfl, hn⟩
    · exact hk2 M' dp c hF hw hcl
    · exact hk M' dp c hF hw hn
  · have hlt : e < E := nnle (by omega) (by omega) h_38
    have hbe := hb e hlt
    have hed := hS'.2.2.2 e hlt
    have n1 := Wk_neg hE10 hw hbe.1
    have n2 := Wk_neg hE10 hw hbe.2
    refine w_ld rfl rfl ?_
    refine w_getr rfl rfl rfl rfl rfl ?_
    refine w_ld rfl rfl ?_
    refine w_aiv rfl rfl rfl (rfl) (by omega) rfl (hed.1) ?_
    refine w_ld rfl rfl ?_
    refine w_cj rfl rfl (fun h_48 => ?_) (fun h_48 => ?_)
    · refine w_cst (v := .int 1) rfl rfl ?_
      refine w_go rfl ?_
      refine w_sto (L' := [(0, _), (1, _), (2, _), (3, _), (4, _)]) rfl rfl ?_
      refine w_ld rfl rfl ?_
      refine w_getr rfl rfl rfl rfl rfl ?_
      refine w_ld rfl rfl ?_
      refine w_aiv rfl rfl rfl (rfl) (by omega) rfl (hed.2) ?_
      refine w_ld rfl rfl ?_
      refine w_cj rfl rfl (fun h_79 => ?_) (fun h_79 => ?_)
      · refine w_cst (v := .int 1) rfl rfl ?_
        refine w_go rfl ?_
        refine w_sto (L' := [(0, _), (1, _), (2, _), (3, _), (4, _), (5, _)]) rfl rfl ?_
        refine w_ld rfl rfl ?_
        refine w_getr rfl rfl rfl rfl rfl ?_
        refine w_ld rfl rfl ?_
        refine w_abv rfl rfl rfl (rfl) (by omega) rfl (h85 e hlt) ?_
        refine w_cj rfl rfl (fun h_109 => ?_) (fun h_109 => ?_)
        · refine w_keep [0, 1, 2, 3] (L' := [(0, _), (1, _), (2, _), (3, _)]) rfl ?_
          refine w_inc (y := _ + 1) rfl rfl rfl ?_
          refine w_norm (L' := [(0, _), (1, _), (2, _), (3, _)]) rfl ?_
          refine w_go rfl ?_
          rw [nI_1 e]
          first
            | exact (fun (ht : isCh l h e = true) => ih hlt M' dp c m hF hw (hm.imp (fun q => ⟨q.1, q.2.1, fun i hi hc => by
                rcases Nat.lt_or_ge i e with w | w
                · exact q.2.2 i w hc
                · have : i = e := by omega
                  subst this
                  rw [hc] at ht
                  exact Bool.noConfusion ht⟩) id)) (hct h_109)
            | exact (fun ad => ih hlt _ _ _ 1 (Fm_up (by decide) (by decide) hF) ad.1 (Or.inr ⟨rfl, by have := ad.2; rcases hm with q | q <;> omega⟩)) (Wk_add (w := h e) (u := l e) hE10 hw hlt (hcf h_109) hbe.2 hbe.1 (Or.inr ⟨rfl, rfl⟩) (fun y => h_79 (congrArg nI y)) (n2.mp h_93) (Or.inl (neq (by omega) (by omega) h_48)))
            | exact (fun ad => ih hlt _ _ _ 1 (Fm_up (by decide) (by decide) hF) ad.1 (Or.inr ⟨rfl, by have := ad.2; rcases hm with q | q <;> omega⟩)) (Wk_add (w := h e) (u := l e) hE10 hw hlt (hcf h_109) hbe.2 hbe.1 (Or.inr ⟨rfl, rfl⟩) (fun y => h_79 (congrArg nI y)) (n2.mp h_93) (Or.inr (fun w => absurd (n1.mpr w) h_62)))
            | exact (fun ad => ih hlt _ _ _ 1 (Fm_up (by decide) (by decide) hF) ad.1 (Or.inr ⟨rfl, by have := ad.2; rcases hm with q | q <;> omega⟩)) (Wk_add (w := l e) (u := h e) hE10 hw hlt (hcf h_109) hbe.1 hbe.2 (Or.inl ⟨rfl, rfl⟩) (fun y => h_48 (congrArg nI y)) (n1.mp h_62) (Or.inl (neq (by omega) (by omega) h_79)))
            | exact (fun ad => ih hlt _ _ _ 1 (Fm_up (by decide) (by decide) hF) ad.1 (Or.inr ⟨rfl, by have := ad.2; rcases hm with q | q <;> omega⟩)) (Wk_add (w := l e) (u := h e) hE10 hw hlt (hcf h_109) hbe.1 hbe.2 (Or.inl ⟨rfl, rfl⟩) (fun y => h_48 (congrArg nI y)) (n1.mp h_62) (Or.inr (fun w => absurd (n2.mpr w) h_93)))
            | exact ih hlt M' dp c m hF hw (hm.imp (fun q => ⟨q.1, q.2.1, fun i hi hc => by
                rcases Nat.lt_or_ge i e with w | w
                · exact q.2.2 i w hc
                · have : i = e := by omega
                  subst this
                  (first
          | exact ⟨fun _ => Or.inl (neq (by omega) (by omega) h_79), fun _ => Or.inl (neq (by omega) (by omega) h_48)⟩
          | exact ⟨fun _ => Or.inr (fun w => absurd (n2.mpr w) h_93), fun _ => Or.inl (neq (by omega) (by omega) h_48)⟩
          | exact ⟨fun _ => Or.inl (neq (by omega) (by omega) h_79), fun _ => Or.inr (fun w => absurd (n1.mpr w) h_62)⟩
          | exact ⟨fun _ => Or.inr (fun w => absurd (n2.mpr w) h_93), fun _ => Or.inr (fun w => absurd (n1.mpr w) h_62)⟩
          | exact ⟨fun w => absurd w (fun w => w.elim (fun y => h_48 (congrArg nI y)) (fun y => y (n1.mp h_62))), fun w => absurd w (fun w => w.elim (fun y => h_79 (congrArg nI y)) (fun y => y (n2.mp h_93)))⟩)⟩) id)
        · refine w_ld rfl rfl ?_
          refine w_ld rfl rfl ?_
          refine w_cjT rfl rfl (by decide) ?_
          refine w_keep [0, 1, 2, 3] (L' := [(0, _), (1, _), (2, _), (3, _)]) rfl ?_
          refine w_inc (y := _ + 1) rfl rfl rfl ?_
          refine w_norm (L' := [(0, _), (1, _), (2, _), (3, _)]) rfl ?_
          refine w_go rfl ?_
          rw [nI_1 e]
          first
            | exact (fun (ht : isCh l h e = true) => ih hlt M' dp c m hF hw (hm.imp (fun q => ⟨q.1, q.2.1, fun i hi hc => by
                rcases Nat.lt_or_ge i e with w | w
                · exact q.2.2 i w hc
                · have : i = e := by omega
                  subst this
                  rw [hc] at ht
                  exact Bool.noConfusion ht⟩) id)) (hct h_109)
            | exact (fun ad => ih hlt _ _ _ 1 (Fm_up (by decide) (by decide) hF) ad.1 (Or.inr ⟨rfl, by have := ad.2; rcases hm with q | q <;> omega⟩)) (Wk_add (w := h e) (u := l e) hE10 hw hlt (hcf h_109) hbe.2 hbe.1 (Or.inr ⟨rfl, rfl⟩) (fun y => h_79 (congrArg nI y)) (n2.mp h_93) (Or.inl (neq (by omega) (by omega) h_48)))
            | exact (fun ad => ih hlt _ _ _ 1 (Fm_up (by decide) (by decide) hF) ad.1 (Or.inr ⟨rfl, by have := ad.2; rcases hm with q | q <;> omega⟩)) (Wk_add (w := h e) (u := l e) hE10 hw hlt (hcf h_109) hbe.2 hbe.1 (Or.inr ⟨rfl, rfl⟩) (fun y => h_79 (congrArg nI y)) (n2.mp h_93) (Or.inr (fun w => absurd (n1.mpr w) h_62)))
            | exact (fun ad => ih hlt _ _ _ 1 (Fm_up (by decide) (by decide) hF) ad.1 (Or.inr ⟨rfl, by have := ad.2; rcases hm with q | q <;> omega⟩)) (Wk_add (w := l e) (u := h e) hE10 hw hlt (hcf h_109) hbe.1 hbe.2 (Or.inl ⟨rfl, rfl⟩) (fun y => h_48 (congrArg nI y)) (n1.mp h_62) (Or.inl (neq (by omega) (by omega) h_79)))
            | exact (fun ad => ih hlt _ _ _ 1 (Fm_up (by decide) (by decide) hF) ad.1 (Or.inr ⟨rfl, by have := ad.2; rcases hm with q | q <;> omega⟩)) (Wk_add (w := l e) (u := h e) hE10 hw hlt (hcf h_109) hbe.1 hbe.2 (Or.inl ⟨rfl, rfl⟩) (fun y => h_48 (congrArg nI y)) (n1.mp h_62) (Or.inr (fun w => absurd (n2.mpr w) h_93)))
            | exact ih hlt M' dp c m hF hw (hm.imp (fun q => ⟨q.1, q.2.1, fun i hi hc => by
                rcases Nat.lt_or_ge i e with w | w
                · exact q.2.2 i w hc
                · have : i = e := by omega
                  subst this
                  (first
          | exact ⟨fun _ => Or.inl (neq (by omega) (by omega) h_79), fun _ => Or.inl (neq (by omega) (by omega) h_48)⟩
          | exact ⟨fun _ => Or.inr (fun w => absurd (n2.mpr w) h_93), fun _ => Or.inl (neq (by omega) (by omega) h_48)⟩
          | exact ⟨fun _ => Or.inl (neq (by omega) (by omega) h_79), fun _ => Or.inr (fun w => absurd (n1.mpr w) h_62)⟩
          | exact ⟨fun _ => Or.inr (fun w => absurd (n2.mpr w) h_93), fun _ => Or.inr (fun w => absurd (n1.mpr w) h_62)⟩
          | exact ⟨fun w => absurd w (fun w => w.elim (fun y => h_48 (congrArg nI y)) (fun y => y (n1.mp h_62))), fun w => absurd w (fun w => w.elim (fun y => h_79 (congrArg nI y)) (fun y => y (n2.mp h_93)))⟩)⟩) id)
      · refine w_ld rfl rfl ?_
        refine w_getr rfl rfl rfl rfl rfl ?_
        refine w_ld rfl rfl ?_
        refine w_getr rfl rfl rfl rfl rfl ?_
        refine w_ld rfl rfl ?_
        refine w_aiv rfl rfl rfl (rfl) (by omega) rfl (hed.2) ?_
        refine w_ain rfl rfl rfl (rfl) (by omega) rfl ?_
        refine w_cj rfl rfl (fun h_93 => ?_) (fun h_93 => ?_)
        · refine w_cst (v := .int 0) rfl rfl ?_
          refine w_sto (L' := [(0, _), (1, _), (2, _), (3, _), (4, _), (5, _)]) rfl rfl ?_
          refine w_ld rfl rfl ?_
          refine w_getr rfl rfl rfl rfl rfl ?_
          refine w_ld rfl rfl ?_
          refine w_abv rfl rfl rfl (rfl) (by omega) rfl (h85 e hlt) ?_
          refine w_cj rfl rfl (fun h_109 => ?_) (fun h_109 => ?_)
          · refine w_keep [0, 1, 2, 3] (L' := [(0, _), (1, _), (2, _), (3, _)]) rfl ?_
            refine w_inc (y := _ + 1) rfl rfl rfl ?_
            refine w_norm (L' := [(0, _), (1, _), (2, _), (3, _)]) rfl ?_
            refine w_go rfl ?_
            rw [nI_1 e]
            first
              | exact (fun (ht : isCh l h e = true) => ih hlt M' dp c m hF hw (hm.imp (fun q => ⟨q.1, q.2.1, fun i hi hc => by
                  rcases Nat.lt_or_ge i e with w | w
                  · exact q.2.2 i w hc
                  · have : i = e := by omega
                    subst this
                    rw [hc] at ht
                    exact Bool.noConfusion ht⟩) id)) (hct h_109)
              | exact (fun ad => ih hlt _ _ _ 1 (Fm_up (by decide) (by decide) hF) ad.1 (Or.inr ⟨rfl, by have := ad.2; rcases hm with q | q <;> omega⟩)) (Wk_add (w := h e) (u := l e) hE10 hw hlt (hcf h_109) hbe.2 hbe.1 (Or.inr ⟨rfl, rfl⟩) (fun y => h_79 (congrArg nI y)) (n2.mp h_93) (Or.inl (neq (by omega) (by omega) h_48)))
              | exact (fun ad => ih hlt _ _ _ 1 (Fm_up (by decide) (by decide) hF) ad.1 (Or.inr ⟨rfl, by have := ad.2; rcases hm with q | q <;> omega⟩)) (Wk_add (w := h e) (u := l e) hE10 hw hlt (hcf h_109) hbe.2 hbe.1 (Or.inr ⟨rfl, rfl⟩) (fun y => h_79 (congrArg nI y)) (n2.mp h_93) (Or.inr (fun w => absurd (n1.mpr w) h_62)))
              | exact (fun ad => ih hlt _ _ _ 1 (Fm_up (by decide) (by decide) hF) ad.1 (Or.inr ⟨rfl, by have := ad.2; rcases hm with q | q <;> omega⟩)) (Wk_add (w := l e) (u := h e) hE10 hw hlt (hcf h_109) hbe.1 hbe.2 (Or.inl ⟨rfl, rfl⟩) (fun y => h_48 (congrArg nI y)) (n1.mp h_62) (Or.inl (neq (by omega) (by omega) h_79)))
              | exact (fun ad => ih hlt _ _ _ 1 (Fm_up (by decide) (by decide) hF) ad.1 (Or.inr ⟨rfl, by have := ad.2; rcases hm with q | q <;> omega⟩)) (Wk_add (w := l e) (u := h e) hE10 hw hlt (hcf h_109) hbe.1 hbe.2 (Or.inl ⟨rfl, rfl⟩) (fun y => h_48 (congrArg nI y)) (n1.mp h_62) (Or.inr (fun w => absurd (n2.mpr w) h_93)))
              | exact ih hlt M' dp c m hF hw (hm.imp (fun q => ⟨q.1, q.2.1, fun i hi hc => by
                  rcases Nat.lt_or_ge i e with w | w
                  · exact q.2.2 i w hc
                  · have : i = e := by omega
                    subst this
                    (first
          | exact ⟨fun _ => Or.inl (neq (by omega) (by omega) h_79), fun _ => Or.inl (neq (by omega) (by omega) h_48)⟩
          | exact ⟨fun _ => Or.inr (fun w => absurd (n2.mpr w) h_93), fun _ => Or.inl (neq (by omega) (by omega) h_48)⟩
          | exact ⟨fun _ => Or.inl (neq (by omega) (by omega) h_79), fun _ => Or.inr (fun w => absurd (n1.mpr w) h_62)⟩
          | exact ⟨fun _ => Or.inr (fun w => absurd (n2.mpr w) h_93), fun _ => Or.inr (fun w => absurd (n1.mpr w) h_62)⟩
          | exact ⟨fun w => absurd w (fun w => w.elim (fun y => h_48 (congrArg nI y)) (fun y => y (n1.mp h_62))), fun w => absurd w (fun w => w.elim (fun y => h_79 (congrArg nI y)) (fun y => y (n2.mp h_93)))⟩)⟩) id)
          · refine w_ld rfl rfl ?_
            refine w_ld rfl rfl ?_
            refine w_cjF rfl rfl (by decide) ?_
            refine w_ld rfl rfl ?_
            refine w_getr rfl rfl rfl rfl rfl ?_
            refine w_ld rfl rfl ?_
            refine w_cjF rfl rfl (by decide) ?_
            refine w_ld rfl rfl ?_
            refine w_getr rfl rfl rfl rfl rfl ?_
            refine w_ld rfl rfl ?_
            refine w_aiv rfl rfl rfl (rfl) (by omega) rfl (hed.2) ?_
            refine w_go rfl ?_
            refine w_ld rfl rfl ?_
            refine w_sin rfl rfl rfl (rfl) (by omega) rfl ?_
            refine w_cst (v := .int 1) rfl rfl ?_
            refine w_sto (L' := [(0, _), (1, _), (2, _), (3, _), (4, _), (5, _)]) rfl rfl ?_
            refine w_keep [0, 1, 2, 3] (L' := [(0, _), (1, _), (2, _), (3, _)]) rfl ?_
            refine w_inc (y := _ + 1) rfl rfl rfl ?_
            refine w_norm (L' := [(0, _), (1, _), (2, _), (3, _)]) rfl ?_
            refine w_go rfl ?_
            rw [nI_1 e]
            first
              | exact (fun (ht : isCh l h e = true) => ih hlt M' dp c m hF hw (hm.imp (fun q => ⟨q.1, q.2.1, fun i hi hc => by
                  rcases Nat.lt_or_ge i e with w | w
                  · exact q.2.2 i w hc
                  · have : i = e := by omega
                    subst this
                    rw [hc] at ht
                    exact Bool.noConfusion ht⟩) id)) (hct h_109)
              | exact (fun ad => ih hlt _ _ _ 1 (Fm_up (by decide) (by decide) hF) ad.1 (Or.inr ⟨rfl, by have := ad.2; rcases hm with q | q <;> omega⟩)) (Wk_add (w := h e) (u := l e) hE10 hw hlt (hcf h_109) hbe.2 hbe.1 (Or.inr ⟨rfl, rfl⟩) (fun y => h_79 (congrArg nI y)) (n2.mp h_93) (Or.inl (neq (by omega) (by omega) h_48)))
              | exact (fun ad => ih hlt _ _ _ 1 (Fm_up (by decide) (by decide) hF) ad.1 (Or.inr ⟨rfl, by have := ad.2; rcases hm with q | q <;> omega⟩)) (Wk_add (w := h e) (u := l e) hE10 hw hlt (hcf h_109) hbe.2 hbe.1 (Or.inr ⟨rfl, rfl⟩) (fun y => h_79 (congrArg nI y)) (n2.mp h_93) (Or.inr (fun w => absurd (n1.mpr w) h_62)))
              | exact (fun ad => ih hlt _ _ _ 1 (Fm_up (by decide) (by decide) hF) ad.1 (Or.inr ⟨rfl, by have := ad.2; rcases hm with q | q <;> omega⟩)) (Wk_add (w := l e) (u := h e) hE10 hw hlt (hcf h_109) hbe.1 hbe.2 (Or.inl ⟨rfl, rfl⟩) (fun y => h_48 (congrArg nI y)) (n1.mp h_62) (Or.inl (neq (by omega) (by omega) h_79)))
              | exact (fun ad => ih hlt _ _ _ 1 (Fm_up (by decide) (by decide) hF) ad.1 (Or.inr ⟨rfl, by have := ad.2; rcases hm with q | q <;> omega⟩)) (Wk_add (w := l e) (u := h e) hE10 hw hlt (hcf h_109) hbe.1 hbe.2 (Or.inl ⟨rfl, rfl⟩) (fun y => h_48 (congrArg nI y)) (n1.mp h_62) (Or.inr (fun w => absurd (n2.mpr w) h_93)))
              | exact ih hlt M' dp c m hF hw (hm.imp (fun q => ⟨q.1, q.2.1, fun i hi hc => by
                  rcases Nat.lt_or_ge i e with w | w
                  · exact q.2.2 i w hc
                  · have : i = e := by omega
                    subst this
                    (first
          | exact ⟨fun _ => Or.inl (neq (by omega) (by omega) h_79), fun _ => Or.inl (neq (by omega) (by omega) h_48)⟩
          | exact ⟨fun _ => Or.inr (fun w => absurd (n2.mpr w) h_93), fun _ => Or.inl (neq (by omega) (by omega) h_48)⟩
          | exact ⟨fun _ => Or.inl (neq (by omega) (by omega) h_79), fun _ => Or.inr (fun w => absurd (n1.mpr w) h_62)⟩
          | exact ⟨fun _ => Or.inr (fun w => absurd (n2.mpr w) h_93), fun _ => Or.inr (fun w => absurd (n1.mpr w) h_62)⟩
          | exact ⟨fun w => absurd w (fun w => w.elim (fun y => h_48 (congrArg nI y)) (fun y => y (n1.mp h_62))), fun w => absurd w (fun w => w.elim (fun y => h_79 (congrArg nI y)) (fun y => y (n2.mp h_93)))⟩)⟩) id)
        · refine w_cst (v := .int 1) rfl rfl ?_
          refine w_go rfl ?_
          refine w_sto (L' := [(0, _), (1, _), (2, _), (3, _), (4, _), (5, _)]) rfl rfl ?_
          refine w_ld rfl rfl ?_
          refine w_getr rfl rfl rfl rfl rfl ?_
          refine w_ld rfl rfl ?_
          refine w_abv rfl rfl rfl (rfl) (by omega) rfl (h85 e hlt) ?_
          refine w_cj rfl rfl (fun h_109 => ?_) (fun h_109 => ?_)
          · refine w_keep [0, 1, 2, 3] (L' := [(0, _), (1, _), (2, _), (3, _)]) rfl ?_
            refine w_inc (y := _ + 1) rfl rfl rfl ?_
            refine w_norm (L' := [(0, _), (1, _), (2, _), (3, _)]) rfl ?_
            refine w_go rfl ?_
            rw [nI_1 e]
            first
              | exact (fun (ht : isCh l h e = true) => ih hlt M' dp c m hF hw (hm.imp (fun q => ⟨q.1, q.2.1, fun i hi hc => by
                  rcases Nat.lt_or_ge i e with w | w
                  · exact q.2.2 i w hc
                  · have : i = e := by omega
                    subst this
                    rw [hc] at ht
                    exact Bool.noConfusion ht⟩) id)) (hct h_109)
              | exact (fun ad => ih hlt _ _ _ 1 (Fm_up (by decide) (by decide) hF) ad.1 (Or.inr ⟨rfl, by have := ad.2; rcases hm with q | q <;> omega⟩)) (Wk_add (w := h e) (u := l e) hE10 hw hlt (hcf h_109) hbe.2 hbe.1 (Or.inr ⟨rfl, rfl⟩) (fun y => h_79 (congrArg nI y)) (n2.mp h_93) (Or.inl (neq (by omega) (by omega) h_48)))
              | exact (fun ad => ih hlt _ _ _ 1 (Fm_up (by decide) (by decide) hF) ad.1 (Or.inr ⟨rfl, by have := ad.2; rcases hm with q | q <;> omega⟩)) (Wk_add (w := h e) (u := l e) hE10 hw hlt (hcf h_109) hbe.2 hbe.1 (Or.inr ⟨rfl, rfl⟩) (fun y => h_79 (congrArg nI y)) (n2.mp h_93) (Or.inr (fun w => absurd (n1.mpr w) h_62)))
              | exact (fun ad => ih hlt _ _ _ 1 (Fm_up (by decide) (by decide) hF) ad.1 (Or.inr ⟨rfl, by have := ad.2; rcases hm with q | q <;> omega⟩)) (Wk_add (w := l e) (u := h e) hE10 hw hlt (hcf h_109) hbe.1 hbe.2 (Or.inl ⟨rfl, rfl⟩) (fun y => h_48 (congrArg nI y)) (n1.mp h_62) (Or.inl (neq (by omega) (by omega) h_79)))
              | exact (fun ad => ih hlt _ _ _ 1 (Fm_up (by decide) (by decide) hF) ad.1 (Or.inr ⟨rfl, by have := ad.2; rcases hm with q | q <;> omega⟩)) (Wk_add (w := l e) (u := h e) hE10 hw hlt (hcf h_109) hbe.1 hbe.2 (Or.inl ⟨rfl, rfl⟩) (fun y => h_48 (congrArg nI y)) (n1.mp h_62) (Or.inr (fun w => absurd (n2.mpr w) h_93)))
              | exact ih hlt M' dp c m hF hw (hm.imp (fun q => ⟨q.1, q.2.1, fun i hi hc => by
                  rcases Nat.lt_or_ge i e with w | w
                  · exact q.2.2 i w hc
                  · have : i = e := by omega
                    subst this
                    (first
          | exact ⟨fun _ => Or.inl (neq (by omega) (by omega) h_79), fun _ => Or.inl (neq (by omega) (by omega) h_48)⟩
          | exact ⟨fun _ => Or.inr (fun w => absurd (n2.mpr w) h_93), fun _ => Or.inl (neq (by omega) (by omega) h_48)⟩
          | exact ⟨fun _ => Or.inl (neq (by omega) (by omega) h_79), fun _ => Or.inr (fun w => absurd (n1.mpr w) h_62)⟩
          | exact ⟨fun _ => Or.inr (fun w => absurd (n2.mpr w) h_93), fun _ => Or.inr (fun w => absurd (n1.mpr w) h_62)⟩
          | exact ⟨fun w => absurd w (fun w => w.elim (fun y => h_48 (congrArg nI y)) (fun y => y (n1.mp h_62))), fun w => absurd w (fun w => w.elim (fun y => h_79 (congrArg nI y)) (fun y => y (n2.mp h_93)))⟩)⟩) id)
          · refine w_ld rfl rfl ?_
            refine w_ld rfl rfl ?_
            refine w_cjT rfl rfl (by decide) ?_
            refine w_keep [0, 1, 2, 3] (L' := [(0, _), (1, _), (2, _), (3, _)]) rfl ?_
            refine w_inc (y := _ + 1) rfl rfl rfl ?_
            refine w_norm (L' := [(0, _), (1, _), (2, _), (3, _)]) rfl ?_
            refine w_go rfl ?_
            rw [nI_1 e]
            first
              | exact (fun (ht : isCh l h e = true) => ih hlt M' dp c m hF hw (hm.imp (fun q => ⟨q.1, q.2.1, fun i hi hc => by
                  rcases Nat.lt_or_ge i e with w | w
                  · exact q.2.2 i w hc
                  · have : i = e := by omega
                    subst this
                    rw [hc] at ht
                    exact Bool.noConfusion ht⟩) id)) (hct h_109)
              | exact (fun ad => ih hlt _ _ _ 1 (Fm_up (by decide) (by decide) hF) ad.1 (Or.inr ⟨rfl, by have := ad.2; rcases hm with q | q <;> omega⟩)) (Wk_add (w := h e) (u := l e) hE10 hw hlt (hcf h_109) hbe.2 hbe.1 (Or.inr ⟨rfl, rfl⟩) (fun y => h_79 (congrArg nI y)) (n2.mp h_93) (Or.inl (neq (by omega) (by omega) h_48)))
              | exact (fun ad => ih hlt _ _ _ 1 (Fm_up (by decide) (by decide) hF) ad.1 (Or.inr ⟨rfl, by have := ad.2; rcases hm with q | q <;> omega⟩)) (Wk_add (w := h e) (u := l e) hE10 hw hlt (hcf h_109) hbe.2 hbe.1 (Or.inr ⟨rfl, rfl⟩) (fun y => h_79 (congrArg nI y)) (n2.mp h_93) (Or.inr (fun w => absurd (n1.mpr w) h_62)))
              | exact (fun ad => ih hlt _ _ _ 1 (Fm_up (by decide) (by decide) hF) ad.1 (Or.inr ⟨rfl, by have := ad.2; rcases hm with q | q <;> omega⟩)) (Wk_add (w := l e) (u := h e) hE10 hw hlt (hcf h_109) hbe.1 hbe.2 (Or.inl ⟨rfl, rfl⟩) (fun y => h_48 (congrArg nI y)) (n1.mp h_62) (Or.inl (neq (by omega) (by omega) h_79)))
              | exact (fun ad => ih hlt _ _ _ 1 (Fm_up (by decide) (by decide) hF) ad.1 (Or.inr ⟨rfl, by have := ad.2; rcases hm with q | q <;> omega⟩)) (Wk_add (w := l e) (u := h e) hE10 hw hlt (hcf h_109) hbe.1 hbe.2 (Or.inl ⟨rfl, rfl⟩) (fun y => h_48 (congrArg nI y)) (n1.mp h_62) (Or.inr (fun w => absurd (n2.mpr w) h_93)))
              | exact ih hlt M' dp c m hF hw (hm.imp (fun q => ⟨q.1, q.2.1, fun i hi hc => by
                  rcases Nat.lt_or_ge i e with w | w
                  · exact q.2.2 i w hc
                  · have : i = e := by omega
                    subst this
                    (first
          | exact ⟨fun _ => Or.inl (neq (by omega) (by omega) h_79), fun _ => Or.inl (neq (by omega) (by omega) h_48)⟩
          | exact ⟨fun _ => Or.inr (fun w => absurd (n2.mpr w) h_93), fun _ => Or.inl (neq (by omega) (by omega) h_48)⟩
          | exact ⟨fun _ => Or.inl (neq (by omega) (by omega) h_79), fun _ => Or.inr (fun w => absurd (n1.mpr w) h_62)⟩
          | exact ⟨fun _ => Or.inr (fun w => absurd (n2.mpr w) h_93), fun _ => Or.inr (fun w => absurd (n1.mpr w) h_62)⟩
          | exact ⟨fun w => absurd w (fun w => w.elim (fun y => h_48 (congrArg nI y)) (fun y => y (n1.mp h_62))), fun w => absurd w (fun w => w.elim (fun y => h_79 (congrArg nI y)) (fun y => y (n2.mp h_93)))⟩)⟩) id)
    · refine w_ld rfl rfl ?_
      refine w_getr rfl rfl rfl rfl rfl ?_
      refine w_ld rfl rfl ?_
      refine w_getr rfl rfl rfl rfl rfl ?_
      refine w_ld rfl rfl ?_
      refine w_aiv rfl rfl rfl (rfl) (by omega) rfl (hed.1) ?_
      refine w_ain rfl rfl rfl (rfl) (by omega) rfl ?_
      refine w_cj rfl rfl (fun h_62 => ?_) (fun h_62 => ?_)
      · refine w_cst (v := .int 0) rfl rfl ?_
        refine w_sto (L' := [(0, _), (1, _), (2, _), (3, _), (4, _)]) rfl rfl ?_
        refine w_ld rfl rfl ?_
        refine w_getr rfl rfl rfl rfl rfl ?_
        refine w_ld rfl rfl ?_
        refine w_aiv rfl rfl rfl (rfl) (by omega) rfl (hed.2) ?_
        refine w_ld rfl rfl ?_
        refine w_cj rfl rfl (fun h_79 => ?_) (fun h_79 => ?_)
        · refine w_cst (v := .int 1) rfl rfl ?_
          refine w_go rfl ?_
          refine w_sto (L' := [(0, _), (1, _), (2, _), (3, _), (4, _), (5, _)]) rfl rfl ?_
          refine w_ld rfl rfl ?_
          refine w_getr rfl rfl rfl rfl rfl ?_
          refine w_ld rfl rfl ?_
          refine w_abv rfl rfl rfl (rfl) (by omega) rfl (h85 e hlt) ?_
          refine w_cj rfl rfl (fun h_109 => ?_) (fun h_109 => ?_)
          · refine w_keep [0, 1, 2, 3] (L' := [(0, _), (1, _), (2, _), (3, _)]) rfl ?_
            refine w_inc (y := _ + 1) rfl rfl rfl ?_
            refine w_norm (L' := [(0, _), (1, _), (2, _), (3, _)]) rfl ?_
            refine w_go rfl ?_
            rw [nI_1 e]
            first
              | exact (fun (ht : isCh l h e = true) => ih hlt M' dp c m hF hw (hm.imp (fun q => ⟨q.1, q.2.1, fun i hi hc => by
                  rcases Nat.lt_or_ge i e with w | w
                  · exact q.2.2 i w hc
                  · have : i = e := by omega
                    subst this
                    rw [hc] at ht
                    exact Bool.noConfusion ht⟩) id)) (hct h_109)
              | exact (fun ad => ih hlt _ _ _ 1 (Fm_up (by decide) (by decide) hF) ad.1 (Or.inr ⟨rfl, by have := ad.2; rcases hm with q | q <;> omega⟩)) (Wk_add (w := h e) (u := l e) hE10 hw hlt (hcf h_109) hbe.2 hbe.1 (Or.inr ⟨rfl, rfl⟩) (fun y => h_79 (congrArg nI y)) (n2.mp h_93) (Or.inl (neq (by omega) (by omega) h_48)))
              | exact (fun ad => ih hlt _ _ _ 1 (Fm_up (by decide) (by decide) hF) ad.1 (Or.inr ⟨rfl, by have := ad.2; rcases hm with q | q <;> omega⟩)) (Wk_add (w := h e) (u := l e) hE10 hw hlt (hcf h_109) hbe.2 hbe.1 (Or.inr ⟨rfl, rfl⟩) (fun y => h_79 (congrArg nI y)) (n2.mp h_93) (Or.inr (fun w => absurd (n1.mpr w) h_62)))
              | exact (fun ad => ih hlt _ _ _ 1 (Fm_up (by decide) (by decide) hF) ad.1 (Or.inr ⟨rfl, by have := ad.2; rcases hm with q | q <;> omega⟩)) (Wk_add (w := l e) (u := h e) hE10 hw hlt (hcf h_109) hbe.1 hbe.2 (Or.inl ⟨rfl, rfl⟩) (fun y => h_48 (congrArg nI y)) (n1.mp h_62) (Or.inl (neq (by omega) (by omega) h_79)))
              | exact (fun ad => ih hlt _ _ _ 1 (Fm_up (by decide) (by decide) hF) ad.1 (Or.inr ⟨rfl, by have := ad.2; rcases hm with q | q <;> omega⟩)) (Wk_add (w := l e) (u := h e) hE10 hw hlt (hcf h_109) hbe.1 hbe.2 (Or.inl ⟨rfl, rfl⟩) (fun y => h_48 (congrArg nI y)) (n1.mp h_62) (Or.inr (fun w => absurd (n2.mpr w) h_93)))
              | exact ih hlt M' dp c m hF hw (hm.imp (fun q => ⟨q.1, q.2.1, fun i hi hc => by
                  rcases Nat.lt_or_ge i e with w | w
                  · exact q.2.2 i w hc
                  · have : i = e := by omega
                    subst this
                    (first
          | exact ⟨fun _ => Or.inl (neq (by omega) (by omega) h_79), fun _ => Or.inl (neq (by omega) (by omega) h_48)⟩
          | exact ⟨fun _ => Or.inr (fun w => absurd (n2.mpr w) h_93), fun _ => Or.inl (neq (by omega) (by omega) h_48)⟩
          | exact ⟨fun _ => Or.inl (neq (by omega) (by omega) h_79), fun _ => Or.inr (fun w => absurd (n1.mpr w) h_62)⟩
          | exact ⟨fun _ => Or.inr (fun w => absurd (n2.mpr w) h_93), fun _ => Or.inr (fun w => absurd (n1.mpr w) h_62)⟩
          | exact ⟨fun w => absurd w (fun w => w.elim (fun y => h_48 (congrArg nI y)) (fun y => y (n1.mp h_62))), fun w => absurd w (fun w => w.elim (fun y => h_79 (congrArg nI y)) (fun y => y (n2.mp h_93)))⟩)⟩) id)
          · refine w_ld rfl rfl ?_
            refine w_ld rfl rfl ?_
            refine w_cjF rfl rfl (by decide) ?_
            refine w_ld rfl rfl ?_
            refine w_getr rfl rfl rfl rfl rfl ?_
            refine w_ld rfl rfl ?_
            refine w_cjT rfl rfl (by decide) ?_
            refine w_ld rfl rfl ?_
            refine w_getr rfl rfl rfl rfl rfl ?_
            refine w_ld rfl rfl ?_
            refine w_aiv rfl rfl rfl (rfl) (by omega) rfl (hed.1) ?_
            refine w_ld rfl rfl ?_
            refine w_sin rfl rfl rfl (rfl) (by omega) rfl ?_
            refine w_cst (v := .int 1) rfl rfl ?_
            refine w_sto (L' := [(0, _), (1, _), (2, _), (3, _), (4, _), (5, _)]) rfl rfl ?_
            refine w_keep [0, 1, 2, 3] (L' := [(0, _), (1, _), (2, _), (3, _)]) rfl ?_
            refine w_inc (y := _ + 1) rfl rfl rfl ?_
            refine w_norm (L' := [(0, _), (1, _), (2, _), (3, _)]) rfl ?_
            refine w_go rfl ?_
            rw [nI_1 e]
            first
              | exact (fun (ht : isCh l h e = true) => ih hlt M' dp c m hF hw (hm.imp (fun q => ⟨q.1, q.2.1, fun i hi hc => by
                  rcases Nat.lt_or_ge i e with w | w
                  · exact q.2.2 i w hc
                  · have : i = e := by omega
                    subst this
                    rw [hc] at ht
                    exact Bool.noConfusion ht⟩) id)) (hct h_109)
              | exact (fun ad => ih hlt _ _ _ 1 (Fm_up (by decide) (by decide) hF) ad.1 (Or.inr ⟨rfl, by have := ad.2; rcases hm with q | q <;> omega⟩)) (Wk_add (w := h e) (u := l e) hE10 hw hlt (hcf h_109) hbe.2 hbe.1 (Or.inr ⟨rfl, rfl⟩) (fun y => h_79 (congrArg nI y)) (n2.mp h_93) (Or.inl (neq (by omega) (by omega) h_48)))
              | exact (fun ad => ih hlt _ _ _ 1 (Fm_up (by decide) (by decide) hF) ad.1 (Or.inr ⟨rfl, by have := ad.2; rcases hm with q | q <;> omega⟩)) (Wk_add (w := h e) (u := l e) hE10 hw hlt (hcf h_109) hbe.2 hbe.1 (Or.inr ⟨rfl, rfl⟩) (fun y => h_79 (congrArg nI y)) (n2.mp h_93) (Or.inr (fun w => absurd (n1.mpr w) h_62)))
              | exact (fun ad => ih hlt _ _ _ 1 (Fm_up (by decide) (by decide) hF) ad.1 (Or.inr ⟨rfl, by have := ad.2; rcases hm with q | q <;> omega⟩)) (Wk_add (w := l e) (u := h e) hE10 hw hlt (hcf h_109) hbe.1 hbe.2 (Or.inl ⟨rfl, rfl⟩) (fun y => h_48 (congrArg nI y)) (n1.mp h_62) (Or.inl (neq (by omega) (by omega) h_79)))
              | exact (fun ad => ih hlt _ _ _ 1 (Fm_up (by decide) (by decide) hF) ad.1 (Or.inr ⟨rfl, by have := ad.2; rcases hm with q | q <;> omega⟩)) (Wk_add (w := l e) (u := h e) hE10 hw hlt (hcf h_109) hbe.1 hbe.2 (Or.inl ⟨rfl, rfl⟩) (fun y => h_48 (congrArg nI y)) (n1.mp h_62) (Or.inr (fun w => absurd (n2.mpr w) h_93)))
              | exact ih hlt M' dp c m hF hw (hm.imp (fun q => ⟨q.1, q.2.1, fun i hi hc => by
                  rcases Nat.lt_or_ge i e with w | w
                  · exact q.2.2 i w hc
                  · have : i = e := by omega
                    subst this
                    (first
          | exact ⟨fun _ => Or.inl (neq (by omega) (by omega) h_79), fun _ => Or.inl (neq (by omega) (by omega) h_48)⟩
          | exact ⟨fun _ => Or.inr (fun w => absurd (n2.mpr w) h_93), fun _ => Or.inl (neq (by omega) (by omega) h_48)⟩
          | exact ⟨fun _ => Or.inl (neq (by omega) (by omega) h_79), fun _ => Or.inr (fun w => absurd (n1.mpr w) h_62)⟩
          | exact ⟨fun _ => Or.inr (fun w => absurd (n2.mpr w) h_93), fun _ => Or.inr (fun w => absurd (n1.mpr w) h_62)⟩
          | exact ⟨fun w => absurd w (fun w => w.elim (fun y => h_48 (congrArg nI y)) (fun y => y (n1.mp h_62))), fun w => absurd w (fun w => w.elim (fun y => h_79 (congrArg nI y)) (fun y => y (n2.mp h_93)))⟩)⟩) id)
        · refine w_ld rfl rfl ?_
          refine w_getr rfl rfl rfl rfl rfl ?_
          refine w_ld rfl rfl ?_
          refine w_getr rfl rfl rfl rfl rfl ?_
          refine w_ld rfl rfl ?_
          refine w_aiv rfl rfl rfl (rfl) (by omega) rfl (hed.2) ?_
          refine w_ain rfl rfl rfl (rfl) (by omega) rfl ?_
          refine w_cj rfl rfl (fun h_93 => ?_) (fun h_93 => ?_)
          · refine w_cst (v := .int 0) rfl rfl ?_
            refine w_sto (L' := [(0, _), (1, _), (2, _), (3, _), (4, _), (5, _)]) rfl rfl ?_
            refine w_ld rfl rfl ?_
            refine w_getr rfl rfl rfl rfl rfl ?_
            refine w_ld rfl rfl ?_
            refine w_abv rfl rfl rfl (rfl) (by omega) rfl (h85 e hlt) ?_
            refine w_cj rfl rfl (fun h_109 => ?_) (fun h_109 => ?_)
            · refine w_keep [0, 1, 2, 3] (L' := [(0, _), (1, _), (2, _), (3, _)]) rfl ?_
              refine w_inc (y := _ + 1) rfl rfl rfl ?_
              refine w_norm (L' := [(0, _), (1, _), (2, _), (3, _)]) rfl ?_
              refine w_go rfl ?_
              rw [nI_1 e]
              first
                | exact (fun (ht : isCh l h e = true) => ih hlt M' dp c m hF hw (hm.imp (fun q => ⟨q.1, q.2.1, fun i hi hc => by
                    rcases Nat.lt_or_ge i e with w | w
                    · exact q.2.2 i w hc
                    · have : i = e := by omega
                      subst this
                      rw [hc] at ht
                      exact Bool.noConfusion ht⟩) id)) (hct h_109)
                | exact (fun ad => ih hlt _ _ _ 1 (Fm_up (by decide) (by decide) hF) ad.1 (Or.inr ⟨rfl, by have := ad.2; rcases hm with q | q <;> omega⟩)) (Wk_add (w := h e) (u := l e) hE10 hw hlt (hcf h_109) hbe.2 hbe.1 (Or.inr ⟨rfl, rfl⟩) (fun y => h_79 (congrArg nI y)) (n2.mp h_93) (Or.inl (neq (by omega) (by omega) h_48)))
                | exact (fun ad => ih hlt _ _ _ 1 (Fm_up (by decide) (by decide) hF) ad.1 (Or.inr ⟨rfl, by have := ad.2; rcases hm with q | q <;> omega⟩)) (Wk_add (w := h e) (u := l e) hE10 hw hlt (hcf h_109) hbe.2 hbe.1 (Or.inr ⟨rfl, rfl⟩) (fun y => h_79 (congrArg nI y)) (n2.mp h_93) (Or.inr (fun w => absurd (n1.mpr w) h_62)))
                | exact (fun ad => ih hlt _ _ _ 1 (Fm_up (by decide) (by decide) hF) ad.1 (Or.inr ⟨rfl, by have := ad.2; rcases hm with q | q <;> omega⟩)) (Wk_add (w := l e) (u := h e) hE10 hw hlt (hcf h_109) hbe.1 hbe.2 (Or.inl ⟨rfl, rfl⟩) (fun y => h_48 (congrArg nI y)) (n1.mp h_62) (Or.inl (neq (by omega) (by omega) h_79)))
                | exact (fun ad => ih hlt _ _ _ 1 (Fm_up (by decide) (by decide) hF) ad.1 (Or.inr ⟨rfl, by have := ad.2; rcases hm with q | q <;> omega⟩)) (Wk_add (w := l e) (u := h e) hE10 hw hlt (hcf h_109) hbe.1 hbe.2 (Or.inl ⟨rfl, rfl⟩) (fun y => h_48 (congrArg nI y)) (n1.mp h_62) (Or.inr (fun w => absurd (n2.mpr w) h_93)))
                | exact ih hlt M' dp c m hF hw (hm.imp (fun q => ⟨q.1, q.2.1, fun i hi hc => by
                    rcases Nat.lt_or_ge i e with w | w
                    · exact q.2.2 i w hc
                    · have : i = e := by omega
                      subst this
                      (first
          | exact ⟨fun _ => Or.inl (neq (by omega) (by omega) h_79), fun _ => Or.inl (neq (by omega) (by omega) h_48)⟩
          | exact ⟨fun _ => Or.inr (fun w => absurd (n2.mpr w) h_93), fun _ => Or.inl (neq (by omega) (by omega) h_48)⟩
          | exact ⟨fun _ => Or.inl (neq (by omega) (by omega) h_79), fun _ => Or.inr (fun w => absurd (n1.mpr w) h_62)⟩
          | exact ⟨fun _ => Or.inr (fun w => absurd (n2.mpr w) h_93), fun _ => Or.inr (fun w => absurd (n1.mpr w) h_62)⟩
          | exact ⟨fun w => absurd w (fun w => w.elim (fun y => h_48 (congrArg nI y)) (fun y => y (n1.mp h_62))), fun w => absurd w (fun w => w.elim (fun y => h_79 (congrArg nI y)) (fun y => y (n2.mp h_93)))⟩)⟩) id)
            · refine w_ld rfl rfl ?_
              refine w_ld rfl rfl ?_
              refine w_cjT rfl rfl (by decide) ?_
              refine w_keep [0, 1, 2, 3] (L' := [(0, _), (1, _), (2, _), (3, _)]) rfl ?_
              refine w_inc (y := _ + 1) rfl rfl rfl ?_
              refine w_norm (L' := [(0, _), (1, _), (2, _), (3, _)]) rfl ?_
              refine w_go rfl ?_
              rw [nI_1 e]
              first
                | exact (fun (ht : isCh l h e = true) => ih hlt M' dp c m hF hw (hm.imp (fun q => ⟨q.1, q.2.1, fun i hi hc => by
                    rcases Nat.lt_or_ge i e with w | w
                    · exact q.2.2 i w hc
                    · have : i = e := by omega
                      subst this
                      rw [hc] at ht
                      exact Bool.noConfusion ht⟩) id)) (hct h_109)
                | exact (fun ad => ih hlt _ _ _ 1 (Fm_up (by decide) (by decide) hF) ad.1 (Or.inr ⟨rfl, by have := ad.2; rcases hm with q | q <;> omega⟩)) (Wk_add (w := h e) (u := l e) hE10 hw hlt (hcf h_109) hbe.2 hbe.1 (Or.inr ⟨rfl, rfl⟩) (fun y => h_79 (congrArg nI y)) (n2.mp h_93) (Or.inl (neq (by omega) (by omega) h_48)))
                | exact (fun ad => ih hlt _ _ _ 1 (Fm_up (by decide) (by decide) hF) ad.1 (Or.inr ⟨rfl, by have := ad.2; rcases hm with q | q <;> omega⟩)) (Wk_add (w := h e) (u := l e) hE10 hw hlt (hcf h_109) hbe.2 hbe.1 (Or.inr ⟨rfl, rfl⟩) (fun y => h_79 (congrArg nI y)) (n2.mp h_93) (Or.inr (fun w => absurd (n1.mpr w) h_62)))
                | exact (fun ad => ih hlt _ _ _ 1 (Fm_up (by decide) (by decide) hF) ad.1 (Or.inr ⟨rfl, by have := ad.2; rcases hm with q | q <;> omega⟩)) (Wk_add (w := l e) (u := h e) hE10 hw hlt (hcf h_109) hbe.1 hbe.2 (Or.inl ⟨rfl, rfl⟩) (fun y => h_48 (congrArg nI y)) (n1.mp h_62) (Or.inl (neq (by omega) (by omega) h_79)))
                | exact (fun ad => ih hlt _ _ _ 1 (Fm_up (by decide) (by decide) hF) ad.1 (Or.inr ⟨rfl, by have := ad.2; rcases hm with q | q <;> omega⟩)) (Wk_add (w := l e) (u := h e) hE10 hw hlt (hcf h_109) hbe.1 hbe.2 (Or.inl ⟨rfl, rfl⟩) (fun y => h_48 (congrArg nI y)) (n1.mp h_62) (Or.inr (fun w => absurd (n2.mpr w) h_93)))
                | exact ih hlt M' dp c m hF hw (hm.imp (fun q => ⟨q.1, q.2.1, fun i hi hc => by
                    rcases Nat.lt_or_ge i e with w | w
                    · exact q.2.2 i w hc
                    · have : i = e := by omega
                      subst this
                      (first
          | exact ⟨fun _ => Or.inl (neq (by omega) (by omega) h_79), fun _ => Or.inl (neq (by omega) (by omega) h_48)⟩
          | exact ⟨fun _ => Or.inr (fun w => absurd (n2.mpr w) h_93), fun _ => Or.inl (neq (by omega) (by omega) h_48)⟩
          | exact ⟨fun _ => Or.inl (neq (by omega) (by omega) h_79), fun _ => Or.inr (fun w => absurd (n1.mpr w) h_62)⟩
          | exact ⟨fun _ => Or.inr (fun w => absurd (n2.mpr w) h_93), fun _ => Or.inr (fun w => absurd (n1.mpr w) h_62)⟩
          | exact ⟨fun w => absurd w (fun w => w.elim (fun y => h_48 (congrArg nI y)) (fun y => y (n1.mp h_62))), fun w => absurd w (fun w => w.elim (fun y => h_79 (congrArg nI y)) (fun y => y (n2.mp h_93)))⟩)⟩) id)
          · refine w_cst (v := .int 1) rfl rfl ?_
            refine w_go rfl ?_
            refine w_sto (L' := [(0, _), (1, _), (2, _), (3, _), (4, _), (5, _)]) rfl rfl ?_
            refine w_ld rfl rfl ?_
            refine w_getr rfl rfl rfl rfl rfl ?_
            refine w_ld rfl rfl ?_
            refine w_abv rfl rfl rfl (rfl) (by omega) rfl (h85 e hlt) ?_
            refine w_cj rfl rfl (fun h_109 => ?_) (fun h_109 => ?_)
            · refine w_keep [0, 1, 2, 3] (L' := [(0, _), (1, _), (2, _), (3, _)]) rfl ?_
              refine w_inc (y := _ + 1) rfl rfl rfl ?_
              refine w_norm (L' := [(0, _), (1, _), (2, _), (3, _)]) rfl ?_
              refine w_go rfl ?_
              rw [nI_1 e]
              first
                | exact (fun (ht : isCh l h e = true) => ih hlt M' dp c m hF hw (hm.imp (fun q => ⟨q.1, q.2.1, fun i hi hc => by
                    rcases Nat.lt_or_ge i e with w | w
                    · exact q.2.2 i w hc
                    · have : i = e := by omega
                      subst this
                      rw [hc] at ht
                      exact Bool.noConfusion ht⟩) id)) (hct h_109)
                | exact (fun ad => ih hlt _ _ _ 1 (Fm_up (by decide) (by decide) hF) ad.1 (Or.inr ⟨rfl, by have := ad.2; rcases hm with q | q <;> omega⟩)) (Wk_add (w := h e) (u := l e) hE10 hw hlt (hcf h_109) hbe.2 hbe.1 (Or.inr ⟨rfl, rfl⟩) (fun y => h_79 (congrArg nI y)) (n2.mp h_93) (Or.inl (neq (by omega) (by omega) h_48)))
                | exact (fun ad => ih hlt _ _ _ 1 (Fm_up (by decide) (by decide) hF) ad.1 (Or.inr ⟨rfl, by have := ad.2; rcases hm with q | q <;> omega⟩)) (Wk_add (w := h e) (u := l e) hE10 hw hlt (hcf h_109) hbe.2 hbe.1 (Or.inr ⟨rfl, rfl⟩) (fun y => h_79 (congrArg nI y)) (n2.mp h_93) (Or.inr (fun w => absurd (n1.mpr w) h_62)))
                | exact (fun ad => ih hlt _ _ _ 1 (Fm_up (by decide) (by decide) hF) ad.1 (Or.inr ⟨rfl, by have := ad.2; rcases hm with q | q <;> omega⟩)) (Wk_add (w := l e) (u := h e) hE10 hw hlt (hcf h_109) hbe.1 hbe.2 (Or.inl ⟨rfl, rfl⟩) (fun y => h_48 (congrArg nI y)) (n1.mp h_62) (Or.inl (neq (by omega) (by omega) h_79)))
                | exact (fun ad => ih hlt _ _ _ 1 (Fm_up (by decide) (by decide) hF) ad.1 (Or.inr ⟨rfl, by have := ad.2; rcases hm with q | q <;> omega⟩)) (Wk_add (w := l e) (u := h e) hE10 hw hlt (hcf h_109) hbe.1 hbe.2 (Or.inl ⟨rfl, rfl⟩) (fun y => h_48 (congrArg nI y)) (n1.mp h_62) (Or.inr (fun w => absurd (n2.mpr w) h_93)))
                | exact ih hlt M' dp c m hF hw (hm.imp (fun q => ⟨q.1, q.2.1, fun i hi hc => by
                    rcases Nat.lt_or_ge i e with w | w
                    · exact q.2.2 i w hc
                    · have : i = e := by omega
                      subst this
                      (first
          | exact ⟨fun _ => Or.inl (neq (by omega) (by omega) h_79), fun _ => Or.inl (neq (by omega) (by omega) h_48)⟩
          | exact ⟨fun _ => Or.inr (fun w => absurd (n2.mpr w) h_93), fun _ => Or.inl (neq (by omega) (by omega) h_48)⟩
          | exact ⟨fun _ => Or.inl (neq (by omega) (by omega) h_79), fun _ => Or.inr (fun w => absurd (n1.mpr w) h_62)⟩
          | exact ⟨fun _ => Or.inr (fun w => absurd (n2.mpr w) h_93), fun _ => Or.inr (fun w => absurd (n1.mpr w) h_62)⟩
          | exact ⟨fun w => absurd w (fun w => w.elim (fun y => h_48 (congrArg nI y)) (fun y => y (n1.mp h_62))), fun w => absurd w (fun w => w.elim (fun y => h_79 (congrArg nI y)) (fun y => y (n2.mp h_93)))⟩)⟩) id)
            · refine w_ld rfl rfl ?_
              refine w_ld rfl rfl ?_
              refine w_cjF rfl rfl (by decide) ?_
              refine w_ld rfl rfl ?_
              refine w_getr rfl rfl rfl rfl rfl ?_
              refine w_ld rfl rfl ?_
              refine w_cjT rfl rfl (by decide) ?_
              refine w_ld rfl rfl ?_
              refine w_getr rfl rfl rfl rfl rfl ?_
              refine w_ld rfl rfl ?_
              refine w_aiv rfl rfl rfl (rfl) (by omega) rfl (hed.1) ?_
              refine w_ld rfl rfl ?_
              refine w_sin rfl rfl rfl (rfl) (by omega) rfl ?_
              refine w_cst (v := .int 1) rfl rfl ?_
              refine w_sto (L' := [(0, _), (1, _), (2, _), (3, _), (4, _), (5, _)]) rfl rfl ?_
              refine w_keep [0, 1, 2, 3] (L' := [(0, _), (1, _), (2, _), (3, _)]) rfl ?_
              refine w_inc (y := _ + 1) rfl rfl rfl ?_
              refine w_norm (L' := [(0, _), (1, _), (2, _), (3, _)]) rfl ?_
              refine w_go rfl ?_
              rw [nI_1 e]
              first
                | exact (fun (ht : isCh l h e = true) => ih hlt M' dp c m hF hw (hm.imp (fun q => ⟨q.1, q.2.1, fun i hi hc => by
                    rcases Nat.lt_or_ge i e with w | w
                    · exact q.2.2 i w hc
                    · have : i = e := by omega
                      subst this
                      rw [hc] at ht
                      exact Bool.noConfusion ht⟩) id)) (hct h_109)
                | exact (fun ad => ih hlt _ _ _ 1 (Fm_up (by decide) (by decide) hF) ad.1 (Or.inr ⟨rfl, by have := ad.2; rcases hm with q | q <;> omega⟩)) (Wk_add (w := h e) (u := l e) hE10 hw hlt (hcf h_109) hbe.2 hbe.1 (Or.inr ⟨rfl, rfl⟩) (fun y => h_79 (congrArg nI y)) (n2.mp h_93) (Or.inl (neq (by omega) (by omega) h_48)))
                | exact (fun ad => ih hlt _ _ _ 1 (Fm_up (by decide) (by decide) hF) ad.1 (Or.inr ⟨rfl, by have := ad.2; rcases hm with q | q <;> omega⟩)) (Wk_add (w := h e) (u := l e) hE10 hw hlt (hcf h_109) hbe.2 hbe.1 (Or.inr ⟨rfl, rfl⟩) (fun y => h_79 (congrArg nI y)) (n2.mp h_93) (Or.inr (fun w => absurd (n1.mpr w) h_62)))
                | exact (fun ad => ih hlt _ _ _ 1 (Fm_up (by decide) (by decide) hF) ad.1 (Or.inr ⟨rfl, by have := ad.2; rcases hm with q | q <;> omega⟩)) (Wk_add (w := l e) (u := h e) hE10 hw hlt (hcf h_109) hbe.1 hbe.2 (Or.inl ⟨rfl, rfl⟩) (fun y => h_48 (congrArg nI y)) (n1.mp h_62) (Or.inl (neq (by omega) (by omega) h_79)))
                | exact (fun ad => ih hlt _ _ _ 1 (Fm_up (by decide) (by decide) hF) ad.1 (Or.inr ⟨rfl, by have := ad.2; rcases hm with q | q <;> omega⟩)) (Wk_add (w := l e) (u := h e) hE10 hw hlt (hcf h_109) hbe.1 hbe.2 (Or.inl ⟨rfl, rfl⟩) (fun y => h_48 (congrArg nI y)) (n1.mp h_62) (Or.inr (fun w => absurd (n2.mpr w) h_93)))
                | exact ih hlt M' dp c m hF hw (hm.imp (fun q => ⟨q.1, q.2.1, fun i hi hc => by
                    rcases Nat.lt_or_ge i e with w | w
                    · exact q.2.2 i w hc
                    · have : i = e := by omega
                      subst this
                      (first
          | exact ⟨fun _ => Or.inl (neq (by omega) (by omega) h_79), fun _ => Or.inl (neq (by omega) (by omega) h_48)⟩
          | exact ⟨fun _ => Or.inr (fun w => absurd (n2.mpr w) h_93), fun _ => Or.inl (neq (by omega) (by omega) h_48)⟩
          | exact ⟨fun _ => Or.inl (neq (by omega) (by omega) h_79), fun _ => Or.inr (fun w => absurd (n1.mpr w) h_62)⟩
          | exact ⟨fun _ => Or.inr (fun w => absurd (n2.mpr w) h_93), fun _ => Or.inr (fun w => absurd (n1.mpr w) h_62)⟩
          | exact ⟨fun w => absurd w (fun w => w.elim (fun y => h_48 (congrArg nI y)) (fun y => y (n1.mp h_62))), fun w => absurd w (fun w => w.elim (fun y => h_79 (congrArg nI y)) (fun y => y (n2.mp h_93)))⟩)⟩) id)
      · refine w_cst (v := .int 1) rfl rfl ?_
        refine w_go rfl ?_
        refine w_sto (L' := [(0, _), (1, _), (2, _), (3, _), (4, _)]) rfl rfl ?_
        refine w_ld rfl rfl ?_
        refine w_getr rfl rfl rfl rfl rfl ?_
        refine w_ld rfl rfl ?_
        refine w_aiv rfl rfl rfl (rfl) (by omega) rfl (hed.2) ?_
        refine w_ld rfl rfl ?_
        refine w_cj rfl rfl (fun h_79 => ?_) (fun h_79 => ?_)
        · refine w_cst (v := .int 1) rfl rfl ?_
          refine w_go rfl ?_
          refine w_sto (L' := [(0, _), (1, _), (2, _), (3, _), (4, _), (5, _)]) rfl rfl ?_
          refine w_ld rfl rfl ?_
          refine w_getr rfl rfl rfl rfl rfl ?_
          refine w_ld rfl rfl ?_
          refine w_abv rfl rfl rfl (rfl) (by omega) rfl (h85 e hlt) ?_
          refine w_cj rfl rfl (fun h_109 => ?_) (fun h_109 => ?_)
          · refine w_keep [0, 1, 2, 3] (L' := [(0, _), (1, _), (2, _), (3, _)]) rfl ?_
            refine w_inc (y := _ + 1) rfl rfl rfl ?_
            refine w_norm (L' := [(0, _), (1, _), (2, _), (3, _)]) rfl ?_
            refine w_go rfl ?_
            rw [nI_1 e]
            first
              | exact (fun (ht : isCh l h e = true) => ih hlt M' dp c m hF hw (hm.imp (fun q => ⟨q.1, q.2.1, fun i hi hc => by
                  rcases Nat.lt_or_ge i e with w | w
                  · exact q.2.2 i w hc
                  · have : i = e := by omega
                    subst this
                    rw [hc] at ht
                    exact Bool.noConfusion ht⟩) id)) (hct h_109)
              | exact (fun ad => ih hlt _ _ _ 1 (Fm_up (by decide) (by decide) hF) ad.1 (Or.inr ⟨rfl, by have := ad.2; rcases hm with q | q <;> omega⟩)) (Wk_add (w := h e) (u := l e) hE10 hw hlt (hcf h_109) hbe.2 hbe.1 (Or.inr ⟨rfl, rfl⟩) (fun y => h_79 (congrArg nI y)) (n2.mp h_93) (Or.inl (neq (by omega) (by omega) h_48)))
              | exact (fun ad => ih hlt _ _ _ 1 (Fm_up (by decide) (by decide) hF) ad.1 (Or.inr ⟨rfl, by have := ad.2; rcases hm with q | q <;> omega⟩)) (Wk_add (w := h e) (u := l e) hE10 hw hlt (hcf h_109) hbe.2 hbe.1 (Or.inr ⟨rfl, rfl⟩) (fun y => h_79 (congrArg nI y)) (n2.mp h_93) (Or.inr (fun w => absurd (n1.mpr w) h_62)))
              | exact (fun ad => ih hlt _ _ _ 1 (Fm_up (by decide) (by decide) hF) ad.1 (Or.inr ⟨rfl, by have := ad.2; rcases hm with q | q <;> omega⟩)) (Wk_add (w := l e) (u := h e) hE10 hw hlt (hcf h_109) hbe.1 hbe.2 (Or.inl ⟨rfl, rfl⟩) (fun y => h_48 (congrArg nI y)) (n1.mp h_62) (Or.inl (neq (by omega) (by omega) h_79)))
              | exact (fun ad => ih hlt _ _ _ 1 (Fm_up (by decide) (by decide) hF) ad.1 (Or.inr ⟨rfl, by have := ad.2; rcases hm with q | q <;> omega⟩)) (Wk_add (w := l e) (u := h e) hE10 hw hlt (hcf h_109) hbe.1 hbe.2 (Or.inl ⟨rfl, rfl⟩) (fun y => h_48 (congrArg nI y)) (n1.mp h_62) (Or.inr (fun w => absurd (n2.mpr w) h_93)))
              | exact ih hlt M' dp c m hF hw (hm.imp (fun q => ⟨q.1, q.2.1, fun i hi hc => by
                  rcases Nat.lt_or_ge i e with w | w
                  · exact q.2.2 i w hc
                  · have : i = e := by omega
                    subst this
                    (first
          | exact ⟨fun _ => Or.inl (neq (by omega) (by omega) h_79), fun _ => Or.inl (neq (by omega) (by omega) h_48)⟩
          | exact ⟨fun _ => Or.inr (fun w => absurd (n2.mpr w) h_93), fun _ => Or.inl (neq (by omega) (by omega) h_48)⟩
          | exact ⟨fun _ => Or.inl (neq (by omega) (by omega) h_79), fun _ => Or.inr (fun w => absurd (n1.mpr w) h_62)⟩
          | exact ⟨fun _ => Or.inr (fun w => absurd (n2.mpr w) h_93), fun _ => Or.inr (fun w => absurd (n1.mpr w) h_62)⟩
          | exact ⟨fun w => absurd w (fun w => w.elim (fun y => h_48 (congrArg nI y)) (fun y => y (n1.mp h_62))), fun w => absurd w (fun w => w.elim (fun y => h_79 (congrArg nI y)) (fun y => y (n2.mp h_93)))⟩)⟩) id)
          · refine w_ld rfl rfl ?_
            refine w_ld rfl rfl ?_
            refine w_cjT rfl rfl (by decide) ?_
            refine w_keep [0, 1, 2, 3] (L' := [(0, _), (1, _), (2, _), (3, _)]) rfl ?_
            refine w_inc (y := _ + 1) rfl rfl rfl ?_
            refine w_norm (L' := [(0, _), (1, _), (2, _), (3, _)]) rfl ?_
            refine w_go rfl ?_
            rw [nI_1 e]
            first
              | exact (fun (ht : isCh l h e = true) => ih hlt M' dp c m hF hw (hm.imp (fun q => ⟨q.1, q.2.1, fun i hi hc => by
                  rcases Nat.lt_or_ge i e with w | w
                  · exact q.2.2 i w hc
                  · have : i = e := by omega
                    subst this
                    rw [hc] at ht
                    exact Bool.noConfusion ht⟩) id)) (hct h_109)
              | exact (fun ad => ih hlt _ _ _ 1 (Fm_up (by decide) (by decide) hF) ad.1 (Or.inr ⟨rfl, by have := ad.2; rcases hm with q | q <;> omega⟩)) (Wk_add (w := h e) (u := l e) hE10 hw hlt (hcf h_109) hbe.2 hbe.1 (Or.inr ⟨rfl, rfl⟩) (fun y => h_79 (congrArg nI y)) (n2.mp h_93) (Or.inl (neq (by omega) (by omega) h_48)))
              | exact (fun ad => ih hlt _ _ _ 1 (Fm_up (by decide) (by decide) hF) ad.1 (Or.inr ⟨rfl, by have := ad.2; rcases hm with q | q <;> omega⟩)) (Wk_add (w := h e) (u := l e) hE10 hw hlt (hcf h_109) hbe.2 hbe.1 (Or.inr ⟨rfl, rfl⟩) (fun y => h_79 (congrArg nI y)) (n2.mp h_93) (Or.inr (fun w => absurd (n1.mpr w) h_62)))
              | exact (fun ad => ih hlt _ _ _ 1 (Fm_up (by decide) (by decide) hF) ad.1 (Or.inr ⟨rfl, by have := ad.2; rcases hm with q | q <;> omega⟩)) (Wk_add (w := l e) (u := h e) hE10 hw hlt (hcf h_109) hbe.1 hbe.2 (Or.inl ⟨rfl, rfl⟩) (fun y => h_48 (congrArg nI y)) (n1.mp h_62) (Or.inl (neq (by omega) (by omega) h_79)))
              | exact (fun ad => ih hlt _ _ _ 1 (Fm_up (by decide) (by decide) hF) ad.1 (Or.inr ⟨rfl, by have := ad.2; rcases hm with q | q <;> omega⟩)) (Wk_add (w := l e) (u := h e) hE10 hw hlt (hcf h_109) hbe.1 hbe.2 (Or.inl ⟨rfl, rfl⟩) (fun y => h_48 (congrArg nI y)) (n1.mp h_62) (Or.inr (fun w => absurd (n2.mpr w) h_93)))
              | exact ih hlt M' dp c m hF hw (hm.imp (fun q => ⟨q.1, q.2.1, fun i hi hc => by
                  rcases Nat.lt_or_ge i e with w | w
                  · exact q.2.2 i w hc
                  · have : i = e := by omega
                    subst this
                    (first
          | exact ⟨fun _ => Or.inl (neq (by omega) (by omega) h_79), fun _ => Or.inl (neq (by omega) (by omega) h_48)⟩
          | exact ⟨fun _ => Or.inr (fun w => absurd (n2.mpr w) h_93), fun _ => Or.inl (neq (by omega) (by omega) h_48)⟩
          | exact ⟨fun _ => Or.inl (neq (by omega) (by omega) h_79), fun _ => Or.inr (fun w => absurd (n1.mpr w) h_62)⟩
          | exact ⟨fun _ => Or.inr (fun w => absurd (n2.mpr w) h_93), fun _ => Or.inr (fun w => absurd (n1.mpr w) h_62)⟩
          | exact ⟨fun w => absurd w (fun w => w.elim (fun y => h_48 (congrArg nI y)) (fun y => y (n1.mp h_62))), fun w => absurd w (fun w => w.elim (fun y => h_79 (congrArg nI y)) (fun y => y (n2.mp h_93)))⟩)⟩) id)
        · refine w_ld rfl rfl ?_
          refine w_getr rfl rfl rfl rfl rfl ?_
          refine w_ld rfl rfl ?_
          refine w_getr rfl rfl rfl rfl rfl ?_
          refine w_ld rfl rfl ?_
          refine w_aiv rfl rfl rfl (rfl) (by omega) rfl (hed.2) ?_
          refine w_ain rfl rfl rfl (rfl) (by omega) rfl ?_
          refine w_cj rfl rfl (fun h_93 => ?_) (fun h_93 => ?_)
          · refine w_cst (v := .int 0) rfl rfl ?_
            refine w_sto (L' := [(0, _), (1, _), (2, _), (3, _), (4, _), (5, _)]) rfl rfl ?_
            refine w_ld rfl rfl ?_
            refine w_getr rfl rfl rfl rfl rfl ?_
            refine w_ld rfl rfl ?_
            refine w_abv rfl rfl rfl (rfl) (by omega) rfl (h85 e hlt) ?_
            refine w_cj rfl rfl (fun h_109 => ?_) (fun h_109 => ?_)
            · refine w_keep [0, 1, 2, 3] (L' := [(0, _), (1, _), (2, _), (3, _)]) rfl ?_
              refine w_inc (y := _ + 1) rfl rfl rfl ?_
              refine w_norm (L' := [(0, _), (1, _), (2, _), (3, _)]) rfl ?_
              refine w_go rfl ?_
              rw [nI_1 e]
              first
                | exact (fun (ht : isCh l h e = true) => ih hlt M' dp c m hF hw (hm.imp (fun q => ⟨q.1, q.2.1, fun i hi hc => by
                    rcases Nat.lt_or_ge i e with w | w
                    · exact q.2.2 i w hc
                    · have : i = e := by omega
                      subst this
                      rw [hc] at ht
                      exact Bool.noConfusion ht⟩) id)) (hct h_109)
                | exact (fun ad => ih hlt _ _ _ 1 (Fm_up (by decide) (by decide) hF) ad.1 (Or.inr ⟨rfl, by have := ad.2; rcases hm with q | q <;> omega⟩)) (Wk_add (w := h e) (u := l e) hE10 hw hlt (hcf h_109) hbe.2 hbe.1 (Or.inr ⟨rfl, rfl⟩) (fun y => h_79 (congrArg nI y)) (n2.mp h_93) (Or.inl (neq (by omega) (by omega) h_48)))
                | exact (fun ad => ih hlt _ _ _ 1 (Fm_up (by decide) (by decide) hF) ad.1 (Or.inr ⟨rfl, by have := ad.2; rcases hm with q | q <;> omega⟩)) (Wk_add (w := h e) (u := l e) hE10 hw hlt (hcf h_109) hbe.2 hbe.1 (Or.inr ⟨rfl, rfl⟩) (fun y => h_79 (congrArg nI y)) (n2.mp h_93) (Or.inr (fun w => absurd (n1.mpr w) h_62)))
                | exact (fun ad => ih hlt _ _ _ 1 (Fm_up (by decide) (by decide) hF) ad.1 (Or.inr ⟨rfl, by have := ad.2; rcases hm with q | q <;> omega⟩)) (Wk_add (w := l e) (u := h e) hE10 hw hlt (hcf h_109) hbe.1 hbe.2 (Or.inl ⟨rfl, rfl⟩) (fun y => h_48 (congrArg nI y)) (n1.mp h_62) (Or.inl (neq (by omega) (by omega) h_79)))
                | exact (fun ad => ih hlt _ _ _ 1 (Fm_up (by decide) (by decide) hF) ad.1 (Or.inr ⟨rfl, by have := ad.2; rcases hm with q | q <;> omega⟩)) (Wk_add (w := l e) (u := h e) hE10 hw hlt (hcf h_109) hbe.1 hbe.2 (Or.inl ⟨rfl, rfl⟩) (fun y => h_48 (congrArg nI y)) (n1.mp h_62) (Or.inr (fun w => absurd (n2.mpr w) h_93)))
                | exact ih hlt M' dp c m hF hw (hm.imp (fun q => ⟨q.1, q.2.1, fun i hi hc => by
                    rcases Nat.lt_or_ge i e with w | w
                    · exact q.2.2 i w hc
                    · have : i = e := by omega
                      subst this
                      (first
          | exact ⟨fun _ => Or.inl (neq (by omega) (by omega) h_79), fun _ => Or.inl (neq (by omega) (by omega) h_48)⟩
          | exact ⟨fun _ => Or.inr (fun w => absurd (n2.mpr w) h_93), fun _ => Or.inl (neq (by omega) (by omega) h_48)⟩
          | exact ⟨fun _ => Or.inl (neq (by omega) (by omega) h_79), fun _ => Or.inr (fun w => absurd (n1.mpr w) h_62)⟩
          | exact ⟨fun _ => Or.inr (fun w => absurd (n2.mpr w) h_93), fun _ => Or.inr (fun w => absurd (n1.mpr w) h_62)⟩
          | exact ⟨fun w => absurd w (fun w => w.elim (fun y => h_48 (congrArg nI y)) (fun y => y (n1.mp h_62))), fun w => absurd w (fun w => w.elim (fun y => h_79 (congrArg nI y)) (fun y => y (n2.mp h_93)))⟩)⟩) id)
            · refine w_ld rfl rfl ?_
              refine w_ld rfl rfl ?_
              refine w_cjF rfl rfl (by decide) ?_
              refine w_ld rfl rfl ?_
              refine w_getr rfl rfl rfl rfl rfl ?_
              refine w_ld rfl rfl ?_
              refine w_cjF rfl rfl (by decide) ?_
              refine w_ld rfl rfl ?_
              refine w_getr rfl rfl rfl rfl rfl ?_
              refine w_ld rfl rfl ?_
              refine w_aiv rfl rfl rfl (rfl) (by omega) rfl (hed.2) ?_
              refine w_go rfl ?_
              refine w_ld rfl rfl ?_
              refine w_sin rfl rfl rfl (rfl) (by omega) rfl ?_
              refine w_cst (v := .int 1) rfl rfl ?_
              refine w_sto (L' := [(0, _), (1, _), (2, _), (3, _), (4, _), (5, _)]) rfl rfl ?_
              refine w_keep [0, 1, 2, 3] (L' := [(0, _), (1, _), (2, _), (3, _)]) rfl ?_
              refine w_inc (y := _ + 1) rfl rfl rfl ?_
              refine w_norm (L' := [(0, _), (1, _), (2, _), (3, _)]) rfl ?_
              refine w_go rfl ?_
              rw [nI_1 e]
              first
                | exact (fun (ht : isCh l h e = true) => ih hlt M' dp c m hF hw (hm.imp (fun q => ⟨q.1, q.2.1, fun i hi hc => by
                    rcases Nat.lt_or_ge i e with w | w
                    · exact q.2.2 i w hc
                    · have : i = e := by omega
                      subst this
                      rw [hc] at ht
                      exact Bool.noConfusion ht⟩) id)) (hct h_109)
                | exact (fun ad => ih hlt _ _ _ 1 (Fm_up (by decide) (by decide) hF) ad.1 (Or.inr ⟨rfl, by have := ad.2; rcases hm with q | q <;> omega⟩)) (Wk_add (w := h e) (u := l e) hE10 hw hlt (hcf h_109) hbe.2 hbe.1 (Or.inr ⟨rfl, rfl⟩) (fun y => h_79 (congrArg nI y)) (n2.mp h_93) (Or.inl (neq (by omega) (by omega) h_48)))
                | exact (fun ad => ih hlt _ _ _ 1 (Fm_up (by decide) (by decide) hF) ad.1 (Or.inr ⟨rfl, by have := ad.2; rcases hm with q | q <;> omega⟩)) (Wk_add (w := h e) (u := l e) hE10 hw hlt (hcf h_109) hbe.2 hbe.1 (Or.inr ⟨rfl, rfl⟩) (fun y => h_79 (congrArg nI y)) (n2.mp h_93) (Or.inr (fun w => absurd (n1.mpr w) h_62)))
                | exact (fun ad => ih hlt _ _ _ 1 (Fm_up (by decide) (by decide) hF) ad.1 (Or.inr ⟨rfl, by have := ad.2; rcases hm with q | q <;> omega⟩)) (Wk_add (w := l e) (u := h e) hE10 hw hlt (hcf h_109) hbe.1 hbe.2 (Or.inl ⟨rfl, rfl⟩) (fun y => h_48 (congrArg nI y)) (n1.mp h_62) (Or.inl (neq (by omega) (by omega) h_79)))
                | exact (fun ad => ih hlt _ _ _ 1 (Fm_up (by decide) (by decide) hF) ad.1 (Or.inr ⟨rfl, by have := ad.2; rcases hm with q | q <;> omega⟩)) (Wk_add (w := l e) (u := h e) hE10 hw hlt (hcf h_109) hbe.1 hbe.2 (Or.inl ⟨rfl, rfl⟩) (fun y => h_48 (congrArg nI y)) (n1.mp h_62) (Or.inr (fun w => absurd (n2.mpr w) h_93)))
                | exact ih hlt M' dp c m hF hw (hm.imp (fun q => ⟨q.1, q.2.1, fun i hi hc => by
                    rcases Nat.lt_or_ge i e with w | w
                    · exact q.2.2 i w hc
                    · have : i = e := by omega
                      subst this
                      (first
          | exact ⟨fun _ => Or.inl (neq (by omega) (by omega) h_79), fun _ => Or.inl (neq (by omega) (by omega) h_48)⟩
          | exact ⟨fun _ => Or.inr (fun w => absurd (n2.mpr w) h_93), fun _ => Or.inl (neq (by omega) (by omega) h_48)⟩
          | exact ⟨fun _ => Or.inl (neq (by omega) (by omega) h_79), fun _ => Or.inr (fun w => absurd (n1.mpr w) h_62)⟩
          | exact ⟨fun _ => Or.inr (fun w => absurd (n2.mpr w) h_93), fun _ => Or.inr (fun w => absurd (n1.mpr w) h_62)⟩
          | exact ⟨fun w => absurd w (fun w => w.elim (fun y => h_48 (congrArg nI y)) (fun y => y (n1.mp h_62))), fun w => absurd w (fun w => w.elim (fun y => h_79 (congrArg nI y)) (fun y => y (n2.mp h_93)))⟩)⟩) id)
          · refine w_cst (v := .int 1) rfl rfl ?_
            refine w_go rfl ?_
            refine w_sto (L' := [(0, _), (1, _), (2, _), (3, _), (4, _), (5, _)]) rfl rfl ?_
            refine w_ld rfl rfl ?_
            refine w_getr rfl rfl rfl rfl rfl ?_
            refine w_ld rfl rfl ?_
            refine w_abv rfl rfl rfl (rfl) (by omega) rfl (h85 e hlt) ?_
            refine w_cj rfl rfl (fun h_109 => ?_) (fun h_109 => ?_)
            · refine w_keep [0, 1, 2, 3] (L' := [(0, _), (1, _), (2, _), (3, _)]) rfl ?_
              refine w_inc (y := _ + 1) rfl rfl rfl ?_
              refine w_norm (L' := [(0, _), (1, _), (2, _), (3, _)]) rfl ?_
              refine w_go rfl ?_
              rw [nI_1 e]
              first
                | exact (fun (ht : isCh l h e = true) => ih hlt M' dp c m hF hw (hm.imp (fun q => ⟨q.1, q.2.1, fun i hi hc => by
                    rcases Nat.lt_or_ge i e with w | w
                    · exact q.2.2 i w hc
                    · have : i = e := by omega
                      subst this
                      rw [hc] at ht
                      exact Bool.noConfusion ht⟩) id)) (hct h_109)
                | exact (fun ad => ih hlt _ _ _ 1 (Fm_up (by decide) (by decide) hF) ad.1 (Or.inr ⟨rfl, by have := ad.2; rcases hm with q | q <;> omega⟩)) (Wk_add (w := h e) (u := l e) hE10 hw hlt (hcf h_109) hbe.2 hbe.1 (Or.inr ⟨rfl, rfl⟩) (fun y => h_79 (congrArg nI y)) (n2.mp h_93) (Or.inl (neq (by omega) (by omega) h_48)))
                | exact (fun ad => ih hlt _ _ _ 1 (Fm_up (by decide) (by decide) hF) ad.1 (Or.inr ⟨rfl, by have := ad.2; rcases hm with q | q <;> omega⟩)) (Wk_add (w := h e) (u := l e) hE10 hw hlt (hcf h_109) hbe.2 hbe.1 (Or.inr ⟨rfl, rfl⟩) (fun y => h_79 (congrArg nI y)) (n2.mp h_93) (Or.inr (fun w => absurd (n1.mpr w) h_62)))
                | exact (fun ad => ih hlt _ _ _ 1 (Fm_up (by decide) (by decide) hF) ad.1 (Or.inr ⟨rfl, by have := ad.2; rcases hm with q | q <;> omega⟩)) (Wk_add (w := l e) (u := h e) hE10 hw hlt (hcf h_109) hbe.1 hbe.2 (Or.inl ⟨rfl, rfl⟩) (fun y => h_48 (congrArg nI y)) (n1.mp h_62) (Or.inl (neq (by omega) (by omega) h_79)))
                | exact (fun ad => ih hlt _ _ _ 1 (Fm_up (by decide) (by decide) hF) ad.1 (Or.inr ⟨rfl, by have := ad.2; rcases hm with q | q <;> omega⟩)) (Wk_add (w := l e) (u := h e) hE10 hw hlt (hcf h_109) hbe.1 hbe.2 (Or.inl ⟨rfl, rfl⟩) (fun y => h_48 (congrArg nI y)) (n1.mp h_62) (Or.inr (fun w => absurd (n2.mpr w) h_93)))
                | exact ih hlt M' dp c m hF hw (hm.imp (fun q => ⟨q.1, q.2.1, fun i hi hc => by
                    rcases Nat.lt_or_ge i e with w | w
                    · exact q.2.2 i w hc
                    · have : i = e := by omega
                      subst this
                      (first
          | exact ⟨fun _ => Or.inl (neq (by omega) (by omega) h_79), fun _ => Or.inl (neq (by omega) (by omega) h_48)⟩
          | exact ⟨fun _ => Or.inr (fun w => absurd (n2.mpr w) h_93), fun _ => Or.inl (neq (by omega) (by omega) h_48)⟩
          | exact ⟨fun _ => Or.inl (neq (by omega) (by omega) h_79), fun _ => Or.inr (fun w => absurd (n1.mpr w) h_62)⟩
          | exact ⟨fun _ => Or.inr (fun w => absurd (n2.mpr w) h_93), fun _ => Or.inr (fun w => absurd (n1.mpr w) h_62)⟩
          | exact ⟨fun w => absurd w (fun w => w.elim (fun y => h_48 (congrArg nI y)) (fun y => y (n1.mp h_62))), fun w => absurd w (fun w => w.elim (fun y => h_79 (congrArg nI y)) (fun y => y (n2.mp h_93)))⟩)⟩) id)
            · refine w_ld rfl rfl ?_
              refine w_ld rfl rfl ?_
              refine w_cjT rfl rfl (by decide) ?_
              refine w_keep [0, 1, 2, 3] (L' := [(0, _), (1, _), (2, _), (3, _)]) rfl ?_
              refine w_inc (y := _ + 1) rfl rfl rfl ?_
              refine w_norm (L' := [(0, _), (1, _), (2, _), (3, _)]) rfl ?_
              refine w_go rfl ?_
              rw [nI_1 e]
              first
                | exact (fun (ht : isCh l h e = true) => ih hlt M' dp c m hF hw (hm.imp (fun q => ⟨q.1, q.2.1, fun i hi hc => by
                    rcases Nat.lt_or_ge i e with w | w
                    · exact q.2.2 i w hc
                    · have : i = e := by omega
                      subst this
                      rw [hc] at ht
                      exact Bool.noConfusion ht⟩) id)) (hct h_109)
                | exact (fun ad => ih hlt _ _ _ 1 (Fm_up (by decide) (by decide) hF) ad.1 (Or.inr ⟨rfl, by have := ad.2; rcases hm with q | q <;> omega⟩)) (Wk_add (w := h e) (u := l e) hE10 hw hlt (hcf h_109) hbe.2 hbe.1 (Or.inr ⟨rfl, rfl⟩) (fun y => h_79 (congrArg nI y)) (n2.mp h_93) (Or.inl (neq (by omega) (by omega) h_48)))
                | exact (fun ad => ih hlt _ _ _ 1 (Fm_up (by decide) (by decide) hF) ad.1 (Or.inr ⟨rfl, by have := ad.2; rcases hm with q | q <;> omega⟩)) (Wk_add (w := h e) (u := l e) hE10 hw hlt (hcf h_109) hbe.2 hbe.1 (Or.inr ⟨rfl, rfl⟩) (fun y => h_79 (congrArg nI y)) (n2.mp h_93) (Or.inr (fun w => absurd (n1.mpr w) h_62)))
                | exact (fun ad => ih hlt _ _ _ 1 (Fm_up (by decide) (by decide) hF) ad.1 (Or.inr ⟨rfl, by have := ad.2; rcases hm with q | q <;> omega⟩)) (Wk_add (w := l e) (u := h e) hE10 hw hlt (hcf h_109) hbe.1 hbe.2 (Or.inl ⟨rfl, rfl⟩) (fun y => h_48 (congrArg nI y)) (n1.mp h_62) (Or.inl (neq (by omega) (by omega) h_79)))
                | exact (fun ad => ih hlt _ _ _ 1 (Fm_up (by decide) (by decide) hF) ad.1 (Or.inr ⟨rfl, by have := ad.2; rcases hm with q | q <;> omega⟩)) (Wk_add (w := l e) (u := h e) hE10 hw hlt (hcf h_109) hbe.1 hbe.2 (Or.inl ⟨rfl, rfl⟩) (fun y => h_48 (congrArg nI y)) (n1.mp h_62) (Or.inr (fun w => absurd (n2.mpr w) h_93)))
                | exact ih hlt M' dp c m hF hw (hm.imp (fun q => ⟨q.1, q.2.1, fun i hi hc => by
                    rcases Nat.lt_or_ge i e with w | w
                    · exact q.2.2 i w hc
                    · have : i = e := by omega
                      subst this
                      (first
          | exact ⟨fun _ => Or.inl (neq (by omega) (by omega) h_79), fun _ => Or.inl (neq (by omega) (by omega) h_48)⟩
          | exact ⟨fun _ => Or.inr (fun w => absurd (n2.mpr w) h_93), fun _ => Or.inl (neq (by omega) (by omega) h_48)⟩
          | exact ⟨fun _ => Or.inl (neq (by omega) (by omega) h_79), fun _ => Or.inr (fun w => absurd (n1.mpr w) h_62)⟩
          | exact ⟨fun _ => Or.inr (fun w => absurd (n2.mpr w) h_93), fun _ => Or.inr (fun w => absurd (n1.mpr w) h_62)⟩
          | exact ⟨fun w => absurd w (fun w => w.elim (fun y => h_48 (congrArg nI y)) (fun y => y (n1.mp h_62))), fun w => absurd w (fun w => w.elim (fun y => h_79 (congrArg nI y)) (fun y => y (n2.mp h_93)))⟩)⟩) id)

set_option maxHeartbeats 1000000 in
set_option maxRecDepth 10000 in
theorem lp_X12_walks_25 {d : Nat} {M : Mm} {ML : Ml} {N E A : Nat} {l h : Nat → Nat} (hS : NM M N E A l h) (hW : WN N E A l h) (hT : ∀ e, e < E → M 85 e = b2i (isCh l h e)) {fr : Nat} (hfr : fr < N) : ∀ f M' dp c m, Fm [87] [] M M' → Wk M' E l h N fr dp c → (m = 0 ∧ clo M' l h fr E) ∨ (m = 1 ∧ nOp M' N < f) → WP d cd_X12_walks false (fun r M2 L2 => r = none ∧ L2 = ML ∧ Fm [87] [] M M2 ∧ ∃ dp c, Wk M2 E l h N fr dp c ∧ clo M2 l h fr E) (25, [(0, .ref 73), (1, .int (nI fr)), (2, .int m)], [], (SH, M', ML)) := by
  have hN7 := hW.2.1
  have hE10 := hW.2.2.1
  have hb : ∀ e, e < E → l e < N ∧ h e < N := fun e he => by have := hW.2.2.2.2 e he; omega
  intro f
  induction f with
  | zero =>
    intro M' dp c m hF hw hm
    rcases hm with ⟨rfl, hcl⟩ | ⟨-, q⟩
    · refine w_ld rfl rfl ?_
      refine w_cjT rfl rfl (by decide) ?_
      refine w_ret rfl rfl (trivial) ?_
      exact ⟨rfl, rfl, hF, dp, c, hw, hcl⟩
    · exact absurd q (Nat.not_lt_zero _)
  | succ f ihf =>
    intro M' dp c m hF hw hm
    rcases hm with ⟨rfl, hcl⟩ | ⟨rfl, q⟩
    · refine w_ld rfl rfl ?_
      refine w_cjT rfl rfl (by decide) ?_
      refine w_ret rfl rfl (trivial) ?_
      exact ⟨rfl, rfl, hF, dp, c, hw, hcl⟩
    · refine w_ld rfl rfl ?_
      refine w_cjF rfl rfl (by decide) ?_
      refine w_cst (v := .int 0) rfl rfl ?_
      refine w_sto (L' := [(0, _), (1, _), (2, _)]) rfl rfl ?_
      refine w_cst (v := .int 0) rfl rfl ?_
      refine w_sto (L' := [(0, _), (1, _), (2, _), (3, _)]) rfl rfl ?_
      exact lp_X12_walks_33 hS hW hT hfr (n0 := nOp M' N) (fun M9 d9 c9 a1 a2 a3 => ihf M9 d9 c9 1 a1 a2 (Or.inr ⟨rfl, by omega⟩)) (fun M9 d9 c9 a1 a2 a3 => ihf M9 d9 c9 0 a1 a2 (Or.inl ⟨rfl, a3⟩)) 0 (Nat.zero_le _) M' dp c 0 hF hw (Or.inl ⟨rfl, rfl, fun i hi => absurd hi (Nat.not_lt_zero i)⟩)

set_option maxHeartbeats 1000000 in
set_option maxRecDepth 10000 in
theorem lp_X12_walks_2 {d : Nat} {M : Mm} {ML : Ml} {N E A : Nat} {l h : Nat → Nat} (hS : NM M N E A l h) (hW : WN N E A l h) (hT : ∀ e, e < E → M 85 e = b2i (isCh l h e)) {fr : Nat} (hfr : fr < N) : ∀ e, e ≤ N → ∀ M', Fm [87] [] M M' → (∀ v, v < e → M' 87 v = -1) → WP d cd_X12_walks false (fun r M2 L2 => r = none ∧ L2 = ML ∧ Fm [87] [] M M2 ∧ ∃ dp c, Wk M2 E l h N fr dp c ∧ clo M2 l h fr E) (2, [(0, .ref 73), (1, .int (nI fr)), (2, .int (nI e))], [], (SH, M', ML)) := by
  have hN7 := hW.2.1
  have hE10 := hW.2.2.1
  have hb : ∀ e, e < E → l e < N ∧ h e < N := fun e he => by have := hW.2.2.2.2 e he; omega
  refine up_ind fun e he ih => ?_
  intro M' hF hj
  have hS' := NM_Fm hS hF (by decide) (by decide)
  refine w_ld rfl rfl ?_
  refine w_ld rfl rfl ?_
  refine w_getv rfl rfl rfl rfl rfl (hS'.1) ?_
  refine w_cj rfl rfl (fun h_7 => ?_) (fun h_7 => ?_)
  · have h9 : e = N := by have := nle (by omega) (by omega) h_7; omega
    subst h9
    refine w_cst (v := .int 1) rfl rfl ?_
    refine w_sto (L' := [(0, _), (1, _), (2, _)]) rfl rfl ?_
    exact lp_X12_walks_25 hS hW hT hfr (nOp M' e + 1) M' (fun _ => 0) 0 1 hF ⟨hj fr hfr, fun v hv => ⟨Nat.le_refl _, Or.inl (hj v hv)⟩⟩ (Or.inr ⟨rfl, by omega⟩)
  · have hlt : e < N := nnle (by omega) (by omega) h_7
    refine w_ld rfl rfl ?_
    refine w_getr rfl rfl rfl rfl rfl ?_
    refine w_ld rfl rfl ?_
    refine w_cst (v := .int (-1)) rfl rfl ?_
    refine w_sin rfl rfl rfl (rfl) (by omega) rfl ?_
    refine w_inc (y := _ + 1) rfl rfl rfl ?_
    refine w_norm (L' := [(0, _), (1, _), (2, _)]) rfl ?_
    refine w_go rfl ?_
    rw [nI_1]
    refine ih hlt _ (Fm_up (by decide) (by decide) hF) (fun v hv => ?_)
    by_cases q : v = e
    · rw [q, up2_e]
    · rw [up2_k q]
      exact hj v (by omega)

set_option maxHeartbeats 1000000 in
set_option maxRecDepth 10000 in
theorem ok_X12_walks {d : Nat} {M : Mm} {ML : Ml} {N E A : Nat} {l h : Nat → Nat} (hS : NM M N E A l h) (hW : WN N E A l h) (hT : ∀ e, e < E → M 85 e = b2i (isCh l h e)) {fr : Nat} (hfr : fr < N) : EX (d + 1) k_X12_walks [.ref 73, .int (nI fr)] M ML (fun r M2 L2 => r = none ∧ L2 = ML ∧ Fm [87] [] M M2 ∧ ∃ dp c, Wk M2 E l h N fr dp c ∧ clo M2 l h fr E) := by
  refine EX_in mi_X12_walks rfl rfl ?_
  show WP _ cd_X12_walks false _ (0, [(0, .ref 73), (1, .int (nI fr))], [], (SH, M, ML))
  refine w_cst (v := .int 0) rfl rfl ?_
  refine w_sto (L' := [(0, _), (1, _), (2, _)]) rfl rfl ?_
  exact lp_X12_walks_2 hS hW hT hfr 0 (Nat.zero_le _) M Fm_rf (fun v hv => absurd hv (Nat.not_lt_zero v))

