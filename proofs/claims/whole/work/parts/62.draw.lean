/-! ===== rings of the class: draw, round, key ===== -/
set_option maxHeartbeats 1000000 in
set_option maxRecDepth 10000 in
theorem lp_X6_growTree_34 {d : Nat} {M : Mm} {ML : Ml} {N E A : Nat} {l h : Nat → Nat} (hW : WN N E A l h) {e : Nat} (he : e < E) (hch : isCh l h e = false) (hp : ∀ v, v < 7 → M 22 v = nI (LA l h e v) ∧ M 23 v = nI (pm l h e v)) : ∀ v, v ≤ 7 → ∀ M', Fr [22, 23] M M' → (∀ u, u < 7 → M' 22 u = nI (if u < v then LA l h (e + 1) u else LA l h e u) ∧ M' 23 u = nI (if u < v then pm l h (e + 1) u else pm l h e u)) → WP (d + 1) cd_X6_growTree false (fun r M2 L2 => r = none ∧ L2 = ML ∧ Fr [22, 23] M M2 ∧ ∀ v, v < 7 → M2 22 v = nI (LA l h (e + 1) v) ∧ M2 23 v = nI (pm l h (e + 1) v)) (34, [(0, .ref 18), (1, .int (nI (l e))), (2, .int (nI (h e))), (3, .int (nI (2 ^ e))), (4, .int (nI (LA l h e (h e)))), (5, .int (nI ((pm l h e (l e) ^^^ pm l h e (h e)) ^^^ 2 ^ e))), (6, .int (nI v))], [], (SH, M', ML)) := by
  have hE10 := hW.2.2.1
  have hlh := WN_b hW e he
  have hne := isCh_ne hch
  have hlab : ∀ v, v < 7 → LA l h e v < 7 := fun v hv => lb_lt (fun i hi => WN_b hW i hi) e (Nat.le_of_lt he) v hv
  have hla : LA l h (e + 1) (l e) = LA l h e (l e) := by rw [LA_s, if_neg hne]
  refine up_ind fun v hv ih => ?_
  intro M' hF hj
  refine w_ld rfl rfl ?_
  refine w_cst (v := .int 7) rfl rfl ?_
  refine w_cj rfl rfl (fun h_38 => ?_) (fun h_38 => ?_)
  · have h9 : v = 7 := by have := nle (a := 7) (by decide) (by omega) h_38; omega
    subst h9
    refine w_ret rfl rfl (trivial) ?_
    exact ⟨rfl, rfl, hF, fun u hu => by
      have := hj u hu
      rw [if_pos hu, if_pos hu] at this
      exact this⟩
  · have hlt : v < 7 := nnle (a := 7) (by decide) (by omega) h_38
    have hjv := hj v hlt
    rw [if_neg (Nat.lt_irrefl v), if_neg (Nat.lt_irrefl v)] at hjv
    have hjl : M' 22 (l e) = nI (LA l h e (l e)) := by
      rw [(hj _ hlh.1).1, hla]
      split <;> rfl
    have l1 := hlab v hlt
    have l2 := hlab (h e) hlh.2
    refine w_ld rfl rfl ?_
    refine w_getr rfl rfl rfl rfl rfl ?_
    refine w_ld rfl rfl ?_
    refine w_call (as := [_, _]) (rest := []) rfl rfl rfl rfl rfl rfl rfl rfl (ok_at_v _ _ _ rfl rfl rfl (rfl) (hlt) (hjv.1)) ?_
    refine w_ld rfl rfl ?_
    refine w_cj rfl rfl (fun h_52 => ?_) (fun h_52 => ?_)
    · refine w_inc (y := _ + 1) rfl rfl rfl ?_
      refine w_norm (L' := [(0, _), (1, _), (2, _), (3, _), (4, _), (5, _), (6, _)]) rfl ?_
      refine w_go rfl ?_
      rw [nI_1]
      first
        | (have hcl : LA l h e v = LA l h e (h e) := neq (by omega) (by omega) (Classical.not_not.mp h_52)
           refine ih hlt _ (Fr_up (by decide) (Fr_up (by decide) hF)) (fun u hu => ?_)
           by_cases q : u = v
           · rw [q, if_pos (Nat.lt_succ_self v), if_pos (Nat.lt_succ_self v), LA_s, if_pos hcl, pm, if_pos ⟨hch, hcl⟩]
             exact ⟨by rw [up2_row (by decide), up2_e], by rw [up2_e]⟩
           · rw [up2_row (a := 23) (x := 22) (by decide), up2_k q, up2_k q, up2_row (a := 22) (x := 23) (by decide)]
             have := hj u hu
             by_cases w : u < v
             · rw [if_pos w, if_pos w] at this
               rw [if_pos (by omega), if_pos (by omega)]
               exact this
             · rw [if_neg w, if_neg w] at this
               rw [if_neg (by omega), if_neg (by omega)]
               exact this)
        | (refine ih hlt _ hF (fun u hu => ?_)
           have hcl : ¬ LA l h e v = LA l h e (h e) := fun w => h_52 (congrArg nI w)
           by_cases q : u = v
           · rw [q, if_pos (Nat.lt_succ_self v), if_pos (Nat.lt_succ_self v), LA_s, if_neg hcl, pm, if_neg (fun w => hcl w.2)]
             exact hjv
           · have := hj u hu
             by_cases w : u < v
             · rw [if_pos w, if_pos w] at this
               rw [if_pos (by omega), if_pos (by omega)]
               exact this
             · rw [if_neg w, if_neg w] at this
               rw [if_neg (by omega), if_neg (by omega)]
               exact this)
    · refine w_ld rfl rfl ?_
      refine w_getr rfl rfl rfl rfl rfl ?_
      refine w_ld rfl rfl ?_
      refine w_ld rfl rfl ?_
      refine w_getr rfl rfl rfl rfl rfl ?_
      refine w_ld rfl rfl ?_
      refine w_call (as := [_, _]) (rest := [_, _]) rfl rfl rfl rfl rfl rfl rfl rfl (ok_at_v _ _ _ rfl rfl rfl (rfl) (hlh.1) (hjl)) ?_
      refine w_callv (as := [_, _, _]) (rest := []) rfl rfl rfl rfl rfl rfl rfl rfl (ok_lay_n _ _ _ _ _ rfl rfl rfl (rfl) (hlt)) ?_
      refine w_ld rfl rfl ?_
      refine w_getr rfl rfl rfl rfl rfl ?_
      refine w_ld rfl rfl ?_
      refine w_ld rfl rfl ?_
      refine w_getr rfl rfl rfl rfl rfl ?_
      refine w_ld rfl rfl ?_
      refine w_call (as := [_, _]) (rest := [_, _]) rfl rfl rfl rfl rfl rfl rfl rfl (ok_at_v _ _ _ rfl rfl rfl (rfl) (hlt) (Eq.trans (by rw [up2_row (by decide)]) (hjv.2))) ?_
      refine w_ld rfl rfl ?_
      refine w_bin rfl rfl ?_
      rw [xorN]
      refine w_callv (as := [_, _, _]) (rest := []) rfl rfl rfl rfl rfl rfl rfl rfl (ok_lay_n _ _ _ _ _ rfl rfl rfl (rfl) (hlt)) ?_
      refine w_inc (y := _ + 1) rfl rfl rfl ?_
      refine w_norm (L' := [(0, _), (1, _), (2, _), (3, _), (4, _), (5, _), (6, _)]) rfl ?_
      refine w_go rfl ?_
      rw [nI_1]
      first
        | (have hcl : LA l h e v = LA l h e (h e) := neq (by omega) (by omega) (Classical.not_not.mp h_52)
           refine ih hlt _ (Fr_up (by decide) (Fr_up (by decide) hF)) (fun u hu => ?_)
           by_cases q : u = v
           · rw [q, if_pos (Nat.lt_succ_self v), if_pos (Nat.lt_succ_self v), LA_s, if_pos hcl, pm, if_pos ⟨hch, hcl⟩]
             exact ⟨by rw [up2_row (by decide), up2_e], by rw [up2_e]⟩
           · rw [up2_row (a := 23) (x := 22) (by decide), up2_k q, up2_k q, up2_row (a := 22) (x := 23) (by decide)]
             have := hj u hu
             by_cases w : u < v
             · rw [if_pos w, if_pos w] at this
               rw [if_pos (by omega), if_pos (by omega)]
               exact this
             · rw [if_neg w, if_neg w] at this
               rw [if_neg (by omega), if_neg (by omega)]
               exact this)
        | (refine ih hlt _ hF (fun u hu => ?_)
           have hcl : ¬ LA l h e v = LA l h e (h e) := fun w => h_52 (congrArg nI w)
           by_cases q : u = v
           · rw [q, if_pos (Nat.lt_succ_self v), if_pos (Nat.lt_succ_self v), LA_s, if_neg hcl, pm, if_neg (fun w => hcl w.2)]
             exact hjv
           · have := hj u hu
             by_cases w : u < v
             · rw [if_pos w, if_pos w] at this
               rw [if_pos (by omega), if_pos (by omega)]
               exact this
             · rw [if_neg w, if_neg w] at this
               rw [if_neg (by omega), if_neg (by omega)]
               exact this)

set_option maxHeartbeats 1000000 in
set_option maxRecDepth 10000 in
theorem ok_X6_growTree {d : Nat} {M : Mm} {ML : Ml} {N E A : Nat} {l h : Nat → Nat} (hW : WN N E A l h) {e : Nat} (he : e < E) (hch : isCh l h e = false) (hp : ∀ v, v < 7 → M 22 v = nI (LA l h e v) ∧ M 23 v = nI (pm l h e v)) : EX (d + 2) k_X6_growTree [.ref 18, .int (nI (l e)), .int (nI (h e)), .int (nI (2 ^ e))] M ML (fun r M2 L2 => r = none ∧ L2 = ML ∧ Fr [22, 23] M M2 ∧ ∀ v, v < 7 → M2 22 v = nI (LA l h (e + 1) v) ∧ M2 23 v = nI (pm l h (e + 1) v)) := by
  refine EX_in mi_X6_growTree rfl rfl ?_
  show WP _ cd_X6_growTree false _ (0, [(0, .ref 18), (1, .int (nI (l e))), (2, .int (nI (h e))), (3, .int (nI (2 ^ e)))], [], (SH, M, ML))
  have hE10 := hW.2.2.1
  have hlh := WN_b hW e he
  have hne := isCh_ne hch
  have hlab : ∀ v, v < 7 → LA l h e v < 7 := fun v hv => lb_lt (fun i hi => WN_b hW i hi) e (Nat.le_of_lt he) v hv
  refine w_ld rfl rfl ?_
  refine w_getr rfl rfl rfl rfl rfl ?_
  refine w_ld rfl rfl ?_
  refine w_call (as := [_, _]) (rest := []) rfl rfl rfl rfl rfl rfl rfl rfl (ok_at_v _ _ _ rfl rfl rfl (rfl) (hlh.2) ((hp _ hlh.2).1)) ?_
  refine w_sto (L' := [(0, _), (1, _), (2, _), (3, _), (4, _)]) rfl rfl ?_
  refine w_ld rfl rfl ?_
  refine w_getr rfl rfl rfl rfl rfl ?_
  refine w_ld rfl rfl ?_
  refine w_call (as := [_, _]) (rest := []) rfl rfl rfl rfl rfl rfl rfl rfl (ok_at_v _ _ _ rfl rfl rfl (rfl) (hlh.1) ((hp _ hlh.1).2)) ?_
  refine w_ld rfl rfl ?_
  refine w_getr rfl rfl rfl rfl rfl ?_
  refine w_ld rfl rfl ?_
  refine w_call (as := [_, _]) (rest := [_]) rfl rfl rfl rfl rfl rfl rfl rfl (ok_at_v _ _ _ rfl rfl rfl (rfl) (hlh.2) ((hp _ hlh.2).2)) ?_
  refine w_bin rfl rfl ?_
  rw [xorN]
  refine w_ld rfl rfl ?_
  refine w_bin rfl rfl ?_
  rw [xorN]
  refine w_sto (L' := [(0, _), (1, _), (2, _), (3, _), (4, _), (5, _)]) rfl rfl ?_
  refine w_cst (v := .int 0) rfl rfl ?_
  refine w_sto (L' := [(0, _), (1, _), (2, _), (3, _), (4, _), (5, _), (6, _)]) rfl rfl ?_
  exact lp_X6_growTree_34 hW he hch hp 0 (Nat.zero_le _) M Fr_rf (fun u hu => by rw [if_neg (Nat.not_lt_zero u), if_neg (Nat.not_lt_zero u)]; exact hp u hu)

set_option maxHeartbeats 1000000 in
set_option maxRecDepth 10000 in
theorem lp_X6_draw_39 {d : Nat} {M : Mm} {ML : Ml} {N E A : Nat} {l h : Nat → Nat} (hS : NS M 2 3 4 5 6 N E A l h) (hW : WN N E A l h) : ∀ e, e ≤ E → ∀ M', Fr [18, 19, 20, 21, 22, 23] M M' → (∀ v, v < 7 → M' 22 v = nI (LA l h e v) ∧ M' 23 v = nI (pm l h e v)) → RGe M' E l h e → WP (d + 3) cd_X6_draw false (fun r M2 L2 => r = none ∧ L2 = ML ∧ Fr [18, 19, 20, 21, 22, 23] M M2 ∧ RG M2 E l h) (39, [(0, .ref 18), (1, .ref 2), (2, .int (nI e))], [], (SH, M', ML)) := by
  have hE10 := hW.2.2.1
  refine up_ind fun e he ih => ?_
  intro M' hF hp hR
  have hS' := NS_Fr hS hF (by decide)
  have hlab : ∀ v, v < 7 → LA l h e v < 7 := fun v hv => lb_lt (fun i hi => WN_b hW i hi) e he v hv
  refine w_ld rfl rfl ?_
  refine w_ld rfl rfl ?_
  refine w_getv rfl rfl rfl rfl rfl (hS'.2.1) ?_
  refine w_cj rfl rfl (fun h_44 => ?_) (fun h_44 => ?_)
  · have h9 : e = E := by have := nle (by omega) (by omega) h_44; omega
    subst h9
    refine w_ret rfl rfl (trivial) ?_
    exact ⟨rfl, rfl, hF, hR⟩
  · have hlt : e < E := nnle (by omega) (by omega) h_44
    have hed := hS'.2.2.2.1 e hlt
    have hlh := WN_b hW e hlt
    have l1 := hlab _ hlh.1
    have l2 := hlab _ hlh.2
    refine w_ld rfl rfl ?_
    refine w_getr rfl rfl rfl rfl rfl ?_
    refine w_ld rfl rfl ?_
    refine w_call (as := [_, _]) (rest := []) rfl rfl rfl rfl rfl rfl rfl rfl (ok_at_v _ _ _ rfl rfl rfl (rfl) (by omega) (hed.1)) ?_
    refine w_sto (L' := [(0, _), (1, _), (2, _), (3, _)]) rfl rfl ?_
    refine w_ld rfl rfl ?_
    refine w_getr rfl rfl rfl rfl rfl ?_
    refine w_ld rfl rfl ?_
    refine w_call (as := [_, _]) (rest := []) rfl rfl rfl rfl rfl rfl rfl rfl (ok_at_v _ _ _ rfl rfl rfl (rfl) (by omega) (hed.2)) ?_
    refine w_sto (L' := [(0, _), (1, _), (2, _), (3, _), (4, _)]) rfl rfl ?_
    refine w_ld rfl rfl ?_
    refine w_getr rfl rfl rfl rfl rfl ?_
    refine w_ld rfl rfl ?_
    refine w_call (as := [_, _]) (rest := []) rfl rfl rfl rfl rfl rfl rfl rfl (ok_at_v _ _ _ rfl rfl rfl (rfl) (by omega) ((hp _ hlh.1).1)) ?_
    refine w_ld rfl rfl ?_
    refine w_getr rfl rfl rfl rfl rfl ?_
    refine w_ld rfl rfl ?_
    refine w_call (as := [_, _]) (rest := [_]) rfl rfl rfl rfl rfl rfl rfl rfl (ok_at_v _ _ _ rfl rfl rfl (rfl) (by omega) ((hp _ hlh.2).1)) ?_
    refine w_cj rfl rfl (fun h_83 => ?_) (fun h_83 => ?_)
    · have hch : isCh l h e = false := decide_eq_false (fun w => h_83 (congrArg nI w))
      refine w_ld rfl rfl ?_
      refine w_ld rfl rfl ?_
      refine w_ld rfl rfl ?_
      refine w_cst (v := .int 1) rfl rfl ?_
      refine w_ld rfl rfl ?_
      refine w_bin rfl rfl ?_
      rw [shl1 (by omega)]
      obtain ⟨_, M3, L3, ⟨rfl, rfl, hF2, hp2⟩, hE120⟩ := ok_X6_growTree (d := d + 1) (ML := ML) (M := M') hW hlt hch hp
      refine w_callv (as := [_, _, _, _]) (rest := []) rfl rfl rfl rfl rfl rfl rfl rfl hE120 ?_
      refine w_keep [0, 1, 2] (L' := [(0, _), (1, _), (2, _)]) rfl ?_
      refine w_inc (y := _ + 1) rfl rfl rfl ?_
      refine w_norm (L' := [(0, _), (1, _), (2, _)]) rfl ?_
      refine w_go rfl ?_
      rw [nI_1]
      first
        | (refine ih hlt M3 (Fr_tr hF (Fr_mono hF2 (by decide))) (fun v hv => ?_) hR2
           rw [hF2 22 (by decide), hF2 23 (by decide), show LA l h (e + 1) = LA l h e from lb_same hceq, pm, if_neg (fun w => by rw [hch] at w; exact Bool.noConfusion w.1)]
           exact hp v hv)
        | (refine ih hlt M3 (Fr_tr hF (Fr_mono hF2 (by decide))) hp2 ?_
           refine ⟨?_, fun c hc hch2 => ?_⟩
           · rw [hF2 18 (by decide), hR.1]
             unfold cc
             rw [fb_ct_succ, if_neg (by rw [hch]; exact Bool.noConfusion)]
             rfl
           · rw [hF2 19 (by decide), hF2 20 (by decide), hF2 21 (by decide)]
             have hce : c ≠ e := fun w => by rw [w, hch] at hch2; exact Bool.noConfusion hch2
             exact hR.2 c (by omega) hch2)
    · have hceq : LA l h e (l e) = LA l h e (h e) := neq (by omega) (by omega) (Classical.not_not.mp h_83)
      have hch : isCh l h e = true := decide_eq_true hceq
      obtain ⟨L, hL1, hL2⟩ := P_ex e (h e) (l e) hceq.symm
      have hmk := mkP_pm hL1
      rw [Nat.xor_comm] at hmk
      refine w_ld rfl rfl ?_
      refine w_ld rfl rfl ?_
      refine w_ld rfl rfl ?_
      refine w_ld rfl rfl ?_
      refine w_getr rfl rfl rfl rfl rfl ?_
      refine w_ld rfl rfl ?_
      refine w_call (as := [_, _]) (rest := [_, _, _]) rfl rfl rfl rfl rfl rfl rfl rfl (ok_at_v _ _ _ rfl rfl rfl (rfl) (by omega) ((hp _ hlh.1).2)) ?_
      refine w_ld rfl rfl ?_
      refine w_getr rfl rfl rfl rfl rfl ?_
      refine w_ld rfl rfl ?_
      refine w_call (as := [_, _]) (rest := [_, _, _, _]) rfl rfl rfl rfl rfl rfl rfl rfl (ok_at_v _ _ _ rfl rfl rfl (rfl) (by omega) ((hp _ hlh.2).2)) ?_
      refine w_bin rfl rfl ?_
      rw [xorN, ← hmk]
      obtain ⟨_, M3, L3, ⟨rfl, rfl, hF2, hR2⟩, hE107⟩ := ok_X6_addChord (d := d) (ML := ML) hS' hW hlt hL1 hL2 hch hR
      refine w_callv (as := [_, _, _, _]) (rest := []) rfl rfl rfl rfl rfl rfl rfl rfl hE107 ?_
      refine w_go rfl ?_
      refine w_keep [0, 1, 2] (L' := [(0, _), (1, _), (2, _)]) rfl ?_
      refine w_inc (y := _ + 1) rfl rfl rfl ?_
      refine w_norm (L' := [(0, _), (1, _), (2, _)]) rfl ?_
      refine w_go rfl ?_
      rw [nI_1]
      first
        | (refine ih hlt M3 (Fr_tr hF (Fr_mono hF2 (by decide))) (fun v hv => ?_) hR2
           rw [hF2 22 (by decide), hF2 23 (by decide), show LA l h (e + 1) = LA l h e from lb_same hceq, pm, if_neg (fun w => by rw [hch] at w; exact Bool.noConfusion w.1)]
           exact hp v hv)
        | (refine ih hlt M3 (Fr_tr hF (Fr_mono hF2 (by decide))) hp2 ?_
           refine ⟨?_, fun c hc hch2 => ?_⟩
           · rw [hF2 18 (by decide), hR.1]
             unfold cc
             rw [fb_ct_succ, if_neg (by rw [hch]; exact Bool.noConfusion)]
             rfl
           · rw [hF2 19 (by decide), hF2 20 (by decide), hF2 21 (by decide)]
             have hce : c ≠ e := fun w => by rw [w, hch] at hch2; exact Bool.noConfusion hch2
             exact hR.2 c (by omega) hch2)

set_option maxHeartbeats 1000000 in
set_option maxRecDepth 10000 in
theorem lp_X6_draw_7 {d : Nat} {M : Mm} {ML : Ml} {N E A : Nat} {l h : Nat → Nat} (hS : NS M 2 3 4 5 6 N E A l h) (hW : WN N E A l h) : ∀ e, e ≤ 7 → ∀ M', Fr [18, 19, 20, 21, 22, 23] M M' → (∀ v, v < e → M' 22 v = nI v ∧ M' 23 v = 0) → M' 18 0 = 0 → WP (d + 3) cd_X6_draw false (fun r M2 L2 => r = none ∧ L2 = ML ∧ Fr [18, 19, 20, 21, 22, 23] M M2 ∧ RG M2 E l h) (7, [(0, .ref 18), (1, .ref 2), (2, .int (nI e))], [], (SH, M', ML)) := by
  refine up_ind fun e he ih => ?_
  intro M' hF hp h0
  refine w_ld rfl rfl ?_
  refine w_cst (v := .int 7) rfl rfl ?_
  refine w_cj rfl rfl (fun h_10 => ?_) (fun h_10 => ?_)
  · have h9 : e = 7 := by have := nle (a := 7) (by decide) (by omega) h_10; omega
    subst h9
    refine w_cst (v := .int 0) rfl rfl ?_
    refine w_sto (L' := [(0, _), (1, _), (2, _)]) rfl rfl ?_
    exact lp_X6_draw_39 hS hW 0 (Nat.zero_le _) M' hF (fun v hv => hp v hv) ⟨h0.trans rfl, fun c hc => absurd hc (Nat.not_lt_zero c)⟩
  · have hlt : e < 7 := nnle (a := 7) (by decide) (by omega) h_10
    refine w_ld rfl rfl ?_
    refine w_getr rfl rfl rfl rfl rfl ?_
    refine w_ld rfl rfl ?_
    refine w_ld rfl rfl ?_
    refine w_callv (as := [_, _, _]) (rest := []) rfl rfl rfl rfl rfl rfl rfl rfl (ok_lay_n _ _ _ _ _ rfl rfl rfl (rfl) (hlt)) ?_
    refine w_ld rfl rfl ?_
    refine w_getr rfl rfl rfl rfl rfl ?_
    refine w_ld rfl rfl ?_
    refine w_cst (v := .int 0) rfl rfl ?_
    refine w_callv (as := [_, _, _]) (rest := []) rfl rfl rfl rfl rfl rfl rfl rfl (ok_lay_n _ _ _ _ _ rfl rfl rfl (rfl) (hlt)) ?_
    refine w_inc (y := _ + 1) rfl rfl rfl ?_
    refine w_norm (L' := [(0, _), (1, _), (2, _)]) rfl ?_
    refine w_go rfl ?_
    rw [nI_1]
    refine ih hlt _ (Fr_up (by decide) (Fr_up (by decide) hF)) (fun v hv => ?_) (by rw [up2_row (by decide), up2_row (by decide)]; exact h0)
    by_cases q : v = e
    · rw [q, up2_row (a := 23) (x := 22) (by decide), up2_e, up2_e]
      exact ⟨rfl, rfl⟩
    · rw [up2_row (a := 23) (x := 22) (by decide), up2_k q, up2_k q, up2_row (a := 22) (x := 23) (by decide)]
      exact hp v (by omega)

set_option maxHeartbeats 1000000 in
set_option maxRecDepth 10000 in
theorem ok_X6_draw {d : Nat} {M : Mm} {ML : Ml} {N E A : Nat} {l h : Nat → Nat} (hS : NS M 2 3 4 5 6 N E A l h) (hW : WN N E A l h) : EX (d + 4) k_X6_draw [.ref 18, .ref 2] M ML (fun r M2 L2 => r = none ∧ L2 = ML ∧ Fr [18, 19, 20, 21, 22, 23] M M2 ∧ RG M2 E l h) := by
  refine EX_in mi_X6_draw rfl rfl ?_
  show WP _ cd_X6_draw false _ (0, [(0, .ref 18), (1, .ref 2)], [], (SH, M, ML))
  refine w_ld rfl rfl ?_
  refine w_cst (v := .int 0) rfl rfl ?_
  refine w_put rfl rfl rfl rfl rfl (Or.inl rfl) ?_
  refine w_cst (v := .int 0) rfl rfl ?_
  refine w_sto (L' := [(0, _), (1, _), (2, _)]) rfl rfl ?_
  exact lp_X6_draw_7 hS hW 0 (Nat.zero_le _) _ (Fr_up (by decide) Fr_rf) (fun v hv => absurd hv (Nat.not_lt_zero v)) up2_e

