/-! ===== the Tutte value of the reference ===== -/
theorem lb_7 {N E A : Nat} {l h : Nat → Nat} (hW : WN N E A l h) {S : Nat → Bool} {e v : Nat} (he : e ≤ E) (hv : v < N) : lb l h S e v < N := lb_lt (fun e he => by have := hW.2.2.2.2 e he; omega) e he v hv

set_option maxHeartbeats 1000000 in
set_option maxRecDepth 10000 in
theorem lp_X12_rankOf_85 {d : Nat} {M : Mm} {ML : Ml} {N E A : Nat} {l h : Nat → Nat} (hS : NM M N E A l h) (hW : WN N E A l h) {s : Nat} (hs : s < 2 ^ E) {e : Nat} (he : e < E) (hse : sB s e = true) (hk : ∀ M', Fm [86] [] M M' → (∀ v, v < N → M' 86 v = nI (lb l h (sB s) (e + 1) v)) → WP (d + 1) cd_X12_rankOf false (fun r M2 L2 => r = some (.int (nI (rkS l h E s))) ∧ L2 = ML ∧ Fm [86] [] M M2) (27, [(0, .ref 73), (1, .int (nI s)), (2, .int (nI (rk l h (sB s) (e + 1)))), (3, .int (nI (e + 1)))], [], (SH, M', ML))) : ∀ v, v ≤ N → ∀ M', Fm [86] [] M M' → (∀ u, u < N → M' 86 u = nI (if u < v then lb l h (sB s) (e + 1) u else lb l h (sB s) e u)) → WP (d + 1) cd_X12_rankOf false (fun r M2 L2 => r = some (.int (nI (rkS l h E s))) ∧ L2 = ML ∧ Fm [86] [] M M2) (85, [(0, .ref 73), (1, .int (nI s)), (2, .int (nI (rk l h (sB s) (e + 1)))), (3, .int (nI e)), (4, .int (nI (lb l h (sB s) e (l e)))), (5, .int (nI (lb l h (sB s) e (h e)))), (6, .int (nI v))], [], (SH, M', ML)) := by
  have hN7 := hW.2.1
  have hE10 := hW.2.2.1
  have h1024 := pow_b hE10
  have hb : ∀ e, e < E → l e < N ∧ h e < N := fun e he => by have := hW.2.2.2.2 e he; omega
  have hs31 : s < 2 ^ 31 := by omega
  have ho := lb_7 hW (S := sB s) (Nat.le_of_lt he) (hb e he).2
  refine up_ind fun v hv ih => ?_
  intro M' hF hj
  have hS' := NM_Fm hS hF (by decide) (by decide)
  refine w_ld rfl rfl ?_
  refine w_ld rfl rfl ?_
  refine w_getv rfl rfl rfl rfl rfl (hS'.1) ?_
  refine w_cj rfl rfl (fun h_91 => ?_) (fun h_91 => ?_)
  · refine w_keep [0, 1, 2, 3] (L' := [(0, _), (1, _), (2, _), (3, _)]) rfl ?_
    have h9 : v = N := by have := nle (by omega) (by omega) h_91; omega
    subst h9
    refine w_inc (y := _ + 1) rfl rfl rfl ?_
    refine w_norm (L' := [(0, _), (1, _), (2, _), (3, _)]) rfl ?_
    refine w_go rfl ?_
    rw [nI_1]
    exact hk M' hF (fun u hu => by rw [hj u hu, if_pos hu])
  · have hlt : v < N := nnle (by omega) (by omega) h_91
    have hjv : M' 86 v = nI (lb l h (sB s) e v) := (hj v hlt).trans (by rw [if_neg (Nat.lt_irrefl v)])
    have hlv := lb_7 hW (S := sB s) (Nat.le_of_lt he) hlt
    refine w_ld rfl rfl ?_
    refine w_getr rfl rfl rfl rfl rfl ?_
    refine w_ld rfl rfl ?_
    refine w_ld rfl rfl ?_
    refine w_getr rfl rfl rfl rfl rfl ?_
    refine w_ld rfl rfl ?_
    refine w_aiv rfl rfl rfl (rfl) (by omega) rfl (hjv) ?_
    refine w_ld rfl rfl ?_
    refine w_cj rfl rfl (fun h_109 => ?_) (fun h_109 => ?_)
    · refine w_ld rfl rfl ?_
      refine w_getr rfl rfl rfl rfl rfl ?_
      refine w_ld rfl rfl ?_
      refine w_aiv rfl rfl rfl (rfl) (by omega) rfl (hjv) ?_
      refine w_sin rfl rfl rfl (rfl) (by omega) rfl ?_
      refine w_inc (y := _ + 1) rfl rfl rfl ?_
      refine w_norm (L' := [(0, _), (1, _), (2, _), (3, _), (4, _), (5, _), (6, _)]) rfl ?_
      refine w_go rfl ?_
      rw [nI_1 v]
      refine ih hlt _ (Fm_up (by decide) (by decide) hF) (fun u hu => ?_)
      by_cases q : u = v
      · rw [q, up2_e, if_pos (Nat.lt_succ_self v), lb_y hse]
        first
          | rw [if_neg (fun w => h_109 (congrArg nI w))]
          | rw [if_pos (neq (by omega) (by omega) (Classical.not_not.mp h_109))]
      · rw [up2_k q, hj u hu]
        by_cases w : u < v
        · rw [if_pos w, if_pos (by omega)]
        · rw [if_neg w, if_neg (by omega)]
    · refine w_ld rfl rfl ?_
      refine w_go rfl ?_
      refine w_sin rfl rfl rfl (rfl) (by omega) rfl ?_
      refine w_inc (y := _ + 1) rfl rfl rfl ?_
      refine w_norm (L' := [(0, _), (1, _), (2, _), (3, _), (4, _), (5, _), (6, _)]) rfl ?_
      refine w_go rfl ?_
      rw [nI_1 v]
      refine ih hlt _ (Fm_up (by decide) (by decide) hF) (fun u hu => ?_)
      by_cases q : u = v
      · rw [q, up2_e, if_pos (Nat.lt_succ_self v), lb_y hse]
        first
          | rw [if_neg (fun w => h_109 (congrArg nI w))]
          | rw [if_pos (neq (by omega) (by omega) (Classical.not_not.mp h_109))]
      · rw [up2_k q, hj u hu]
        by_cases w : u < v
        · rw [if_pos w, if_pos (by omega)]
        · rw [if_neg w, if_neg (by omega)]

set_option maxHeartbeats 1000000 in
set_option maxRecDepth 10000 in
theorem lp_X12_rankOf_27 {d : Nat} {M : Mm} {ML : Ml} {N E A : Nat} {l h : Nat → Nat} (hS : NM M N E A l h) (hW : WN N E A l h) {s : Nat} (hs : s < 2 ^ E) : ∀ e, e ≤ E → ∀ M', Fm [86] [] M M' → (∀ v, v < N → M' 86 v = nI (lb l h (sB s) e v)) → WP (d + 1) cd_X12_rankOf false (fun r M2 L2 => r = some (.int (nI (rkS l h E s))) ∧ L2 = ML ∧ Fm [86] [] M M2) (27, [(0, .ref 73), (1, .int (nI s)), (2, .int (nI (rk l h (sB s) e))), (3, .int (nI e))], [], (SH, M', ML)) := by
  have hN7 := hW.2.1
  have hE10 := hW.2.2.1
  have h1024 := pow_b hE10
  have hb : ∀ e, e < E → l e < N ∧ h e < N := fun e he => by have := hW.2.2.2.2 e he; omega
  have hs31 : s < 2 ^ 31 := by omega
  refine up_ind fun e he ih => ?_
  intro M' hF hj
  have hS' := NM_Fm hS hF (by decide) (by decide)
  refine w_ld rfl rfl ?_
  refine w_ld rfl rfl ?_
  refine w_getv rfl rfl rfl rfl rfl (hS'.2.1) ?_
  refine w_cj rfl rfl (fun h_32 => ?_) (fun h_32 => ?_)
  · have h9 : e = E := by have := nle (by omega) (by omega) h_32; omega
    subst h9
    refine w_ld rfl rfl ?_
    refine w_ret rfl rfl (trivial) ?_
    exact ⟨rfl, rfl, hF⟩
  · have hlt : e < E := nnle (by omega) (by omega) h_32
    have hbe := hb e hlt
    have hed := hS'.2.2.2 e hlt
    have l1 := lb_7 hW (S := sB s) he hbe.1
    have l2 := lb_7 hW (S := sB s) he hbe.2
    refine w_ld rfl rfl ?_
    refine w_getr rfl rfl rfl rfl rfl ?_
    refine w_ld rfl rfl ?_
    refine w_getr rfl rfl rfl rfl rfl ?_
    refine w_ld rfl rfl ?_
    refine w_aiv rfl rfl rfl (rfl) (by omega) rfl (hed.1) ?_
    refine w_aiv rfl rfl rfl (rfl) (by omega) rfl (hj _ hbe.1) ?_
    refine w_sto (L' := [(0, _), (1, _), (2, _), (3, _), (4, _)]) rfl rfl ?_
    refine w_ld rfl rfl ?_
    refine w_getr rfl rfl rfl rfl rfl ?_
    refine w_ld rfl rfl ?_
    refine w_getr rfl rfl rfl rfl rfl ?_
    refine w_ld rfl rfl ?_
    refine w_aiv rfl rfl rfl (rfl) (by omega) rfl (hed.2) ?_
    refine w_aiv rfl rfl rfl (rfl) (by omega) rfl (hj _ hbe.2) ?_
    refine w_sto (L' := [(0, _), (1, _), (2, _), (3, _), (4, _), (5, _)]) rfl rfl ?_
    refine w_ld rfl rfl ?_
    refine w_ld rfl rfl ?_
    refine w_cife (as := [_, _]) (rest := []) rfl rfl rfl rfl rfl rfl rfl rfl (ok_X12_has ..) rfl (fun h_63 => ?_) (fun h_63 => ?_)
    · refine w_keep [0, 1, 2, 3] (L' := [(0, _), (1, _), (2, _), (3, _)]) rfl ?_
      refine w_inc (y := _ + 1) rfl rfl rfl ?_
      refine w_norm (L' := [(0, _), (1, _), (2, _), (3, _)]) rfl ?_
      refine w_go rfl ?_
      rw [nI_1]
      have hp := ih hlt M' hF
      first
        | (have hse : sB s e = false := by (unfold sB; rw [← tb_nI hs31 (by omega)]; exact h_63)
           rw [rk, if_neg (fun w => by rw [hse] at w; exact Bool.noConfusion w.1)] at hp
           exact hp (fun v hv => by rw [lb_n hse]; exact hj v hv))
        | (have heq : lb l h (sB s) e (l e) = lb l h (sB s) e (h e) := neq (by omega) (by omega) (Classical.not_not.mp h_73)
           rw [rk, if_neg (fun w => w.2 heq)] at hp
           exact hp (fun v hv => by rw [lb_same heq]; exact hj v hv))
    · refine w_ld rfl rfl ?_
      refine w_ld rfl rfl ?_
      refine w_cj rfl rfl (fun h_73 => ?_) (fun h_73 => ?_)
      · have hse : sB s e = true := by
          unfold sB
          rw [← tb_nI hs31 (by omega)]
          exact h_63
        have hne : ¬ lb l h (sB s) e (l e) = lb l h (sB s) e (h e) := fun w => h_73 (by rw [w])
        refine w_inc (y := _ + 1) rfl rfl rfl ?_
        refine w_norm (L' := [(0, _), (1, _), (2, _), (3, _), (4, _), (5, _)]) rfl ?_
        refine w_cst (v := .int 0) rfl rfl ?_
        refine w_sto (L' := [(0, _), (1, _), (2, _), (3, _), (4, _), (5, _), (6, _)]) rfl rfl ?_
        rw [nI_1]
        have e9 : rk l h (sB s) (e + 1) = rk l h (sB s) e + 1 := if_pos ⟨hse, hne⟩
        have hp := lp_X12_rankOf_85 (d := d) (ML := ML) hS hW hs hlt hse (fun M9 hF9 h9 => ih hlt M9 hF9 h9) 0 (Nat.zero_le _) M' hF (fun u hu => by rw [if_neg (Nat.not_lt_zero u)]; exact hj u hu)
        rw [e9] at hp
        exact hp
      · refine w_go rfl ?_
        refine w_keep [0, 1, 2, 3] (L' := [(0, _), (1, _), (2, _), (3, _)]) rfl ?_
        refine w_inc (y := _ + 1) rfl rfl rfl ?_
        refine w_norm (L' := [(0, _), (1, _), (2, _), (3, _)]) rfl ?_
        refine w_go rfl ?_
        rw [nI_1]
        have hp := ih hlt M' hF
        first
          | (have hse : sB s e = false := by (unfold sB; rw [← tb_nI hs31 (by omega)]; exact h_63)
             rw [rk, if_neg (fun w => by rw [hse] at w; exact Bool.noConfusion w.1)] at hp
             exact hp (fun v hv => by rw [lb_n hse]; exact hj v hv))
          | (have heq : lb l h (sB s) e (l e) = lb l h (sB s) e (h e) := neq (by omega) (by omega) (Classical.not_not.mp h_73)
             rw [rk, if_neg (fun w => w.2 heq)] at hp
             exact hp (fun v hv => by rw [lb_same heq]; exact hj v hv))

set_option maxHeartbeats 1000000 in
set_option maxRecDepth 10000 in
theorem lp_X12_rankOf_2 {d : Nat} {M : Mm} {ML : Ml} {N E A : Nat} {l h : Nat → Nat} (hS : NM M N E A l h) (hW : WN N E A l h) {s : Nat} (hs : s < 2 ^ E) : ∀ e, e ≤ N → ∀ M', Fm [86] [] M M' → (∀ v, v < e → M' 86 v = nI v) → WP (d + 1) cd_X12_rankOf false (fun r M2 L2 => r = some (.int (nI (rkS l h E s))) ∧ L2 = ML ∧ Fm [86] [] M M2) (2, [(0, .ref 73), (1, .int (nI s)), (2, .int (nI e))], [], (SH, M', ML)) := by
  have hN7 := hW.2.1
  have hE10 := hW.2.2.1
  have h1024 := pow_b hE10
  have hb : ∀ e, e < E → l e < N ∧ h e < N := fun e he => by have := hW.2.2.2.2 e he; omega
  have hs31 : s < 2 ^ 31 := by omega
  refine up_ind fun e he ih => ?_
  intro M' hF hj
  have hS' := NM_Fm hS hF (by decide) (by decide)
  refine w_ld rfl rfl ?_
  refine w_ld rfl rfl ?_
  refine w_getv rfl rfl rfl rfl rfl (hS'.1) ?_
  refine w_cj rfl rfl (fun h_7 => ?_) (fun h_7 => ?_)
  · have h9 : e = N := by have := nle (by omega) (by omega) h_7; omega
    subst h9
    refine w_cst (v := .int 0) rfl rfl ?_
    refine w_sto (L' := [(0, _), (1, _), (2, _)]) rfl rfl ?_
    refine w_cst (v := .int 0) rfl rfl ?_
    refine w_sto (L' := [(0, _), (1, _), (2, _), (3, _)]) rfl rfl ?_
    exact lp_X12_rankOf_27 hS hW hs 0 (Nat.zero_le _) M' hF hj
  · have hlt : e < N := nnle (by omega) (by omega) h_7
    refine w_ld rfl rfl ?_
    refine w_getr rfl rfl rfl rfl rfl ?_
    refine w_ld rfl rfl ?_
    refine w_ld rfl rfl ?_
    refine w_sin rfl rfl rfl (rfl) (by omega) rfl ?_
    refine w_inc (y := _ + 1) rfl rfl rfl ?_
    refine w_norm (L' := [(0, _), (1, _), (2, _)]) rfl ?_
    refine w_go rfl ?_
    rw [nI_1]
    refine ih hlt _ (Fm_up (by decide) (by decide) hF) (fun v hv => ?_)
    by_cases q : v = e
    · rw [q, up2_e]
    · rw [up2_k q]
      exact hj v (by omega)

set_option maxHeartbeats 1000000 in
set_option maxRecDepth 10000 in
theorem ok_X12_rankOf {d : Nat} {M : Mm} {ML : Ml} {N E A : Nat} {l h : Nat → Nat} (hS : NM M N E A l h) (hW : WN N E A l h) {s : Nat} (hs : s < 2 ^ E) : EX (d + 2) k_X12_rankOf [.ref 73, .int (nI s)] M ML (fun r M2 L2 => r = some (.int (nI (rkS l h E s))) ∧ L2 = ML ∧ Fm [86] [] M M2) := by
  refine EX_in mi_X12_rankOf rfl rfl ?_
  show WP _ cd_X12_rankOf false _ (0, [(0, .ref 73), (1, .int (nI s))], [], (SH, M, ML))
  refine w_cst (v := .int 0) rfl rfl ?_
  refine w_sto (L' := [(0, _), (1, _), (2, _)]) rfl rfl ?_
  exact lp_X12_rankOf_2 hS hW hs 0 (Nat.zero_le _) M Fm_rf (fun v hv => absurd hv (Nat.not_lt_zero v))

set_option maxHeartbeats 1000000 in
set_option maxRecDepth 10000 in
theorem lp_X12_power_5 {d : Nat} {M : Mm} {ML : Ml} {x : Int32} {n : Nat} (hn : n < 2 ^ 31) : ∀ e, e ≤ n → WP d cd_X12_power false (fun r M2 L2 => r = some (.long (pL x.toInt64 n)) ∧ L2 = ML ∧ M2 = M) (5, [(0, .int x), (1, .int (nI n)), (2, .long (pL x.toInt64 e)), (4, .int (nI e))], [], (SH, M, ML)) := by
  refine up_ind fun e he ih => ?_
  refine w_ld rfl rfl ?_
  refine w_ld rfl rfl ?_
  refine w_cj rfl rfl (fun h_8 => ?_) (fun h_8 => ?_)
  · have h9 : e = n := by have := nle (by omega) (by omega) h_8; omega
    subst h9
    refine w_ld rfl rfl ?_
    refine w_ret rfl rfl (trivial) ?_
    exact ⟨rfl, rfl, rfl⟩
  · have hlt : e < n := nnle (by omega) (by omega) h_8
    refine w_ld rfl rfl ?_
    refine w_ld rfl rfl ?_
    refine w_una rfl rfl ?_
    refine w_bin rfl rfl ?_
    refine w_sto (L' := [(0, _), (1, _), (2, _), (4, _)]) rfl rfl ?_
    refine w_inc (y := _ + 1) rfl rfl rfl ?_
    refine w_norm (L' := [(0, _), (1, _), (2, _), (4, _)]) rfl ?_
    refine w_go rfl ?_
    rw [nI_1]
    exact ih hlt

set_option maxHeartbeats 1000000 in
set_option maxRecDepth 10000 in
theorem ok_X12_power {d : Nat} {M : Mm} {ML : Ml} {x : Int32} {n : Nat} (hn : n < 2 ^ 31) : EX (d + 1) k_X12_power [.int x, .int (nI n)] M ML (fun r M2 L2 => r = some (.long (pL x.toInt64 n)) ∧ L2 = ML ∧ M2 = M) := by
  refine EX_in mi_X12_power rfl rfl ?_
  show WP _ cd_X12_power false _ (0, [(0, .int x), (1, .int (nI n))], [], (SH, M, ML))
  refine w_cst (v := .long 1) rfl rfl ?_
  refine w_sto (L' := [(0, _), (1, _), (2, _)]) rfl rfl ?_
  refine w_cst (v := .int 0) rfl rfl ?_
  refine w_sto (L' := [(0, _), (1, _), (2, _), (4, _)]) rfl rfl ?_
  exact lp_X12_power_5 hn 0 (Nat.zero_le _)

set_option maxHeartbeats 1000000 in
set_option maxRecDepth 10000 in
theorem lp_X12_tutte_39 {d : Nat} {M : Mm} {ML : Ml} {N E A : Nat} {l h : Nat → Nat} (hS : NM M N E A l h) (hW : WN N E A l h) {x y : Int32} : ∀ s, s ≤ 2 ^ E → ∀ M', Fm [86] [] M M' → WP (d + 2) cd_X12_tutte false (fun r M2 L2 => r = some (.int (tuT (tuV l h E (x - 1).toInt64 (y - 1).toInt64 (2 ^ E)))) ∧ L2 = ML ∧ Fm [86] [] M M2) (39, [(0, .ref 73), (1, .int x), (2, .int y), (3, .int (nI (rkS l h E (2 ^ E - 1)))), (4, .long (smL (fun s => pL (x - 1).toInt64 (rkS l h E (2 ^ E - 1) - rkS l h E s) * pL (y - 1).toInt64 (popc s - rkS l h E s)) s)), (6, .int (nI s))], [], (SH, M', ML)) := by
  have hN7 := hW.2.1
  have hE10 := hW.2.2.1
  have h1024 := pow_b hE10
  have hpE : 0 < 2 ^ E := Nat.two_pow_pos E
  refine up_ind fun s hs ih => ?_
  intro M' hF
  have hS' := NM_Fm hS hF (by decide) (by decide)
  refine w_ld rfl rfl ?_
  refine w_ld rfl rfl ?_
  refine w_call (as := [_]) (rest := [_]) rfl rfl rfl rfl rfl rfl rfl rfl (ok_X12_all _ _ _ hS'.2.1 hE10) ?_
  refine w_cj rfl rfl (fun h_45 => ?_) (fun h_45 => ?_)
  · have h9 : s = 2 ^ E := by have := nle (by omega) (by omega) h_45; omega
    subst h9
    refine w_ld rfl rfl ?_
    refine w_ldl rfl ?_
    refine w_bin rfl rfl ?_
    refine w_cj rfl rfl (fun h_98 => ?_) (fun h_98 => ?_)
    · refine w_ld rfl rfl ?_
      refine w_una rfl rfl ?_
      refine w_ret rfl rfl (trivial) ?_
      refine ⟨?_, rfl, hF⟩
      rw [← tuV_sum hW _ _ _ (Nat.le_refl _)]
      unfold tuT
      first
        | rw [if_pos h_98]
        | rw [if_neg h_98]
    · refine w_cst (v := .int (-6)) rfl rfl ?_
      refine w_go rfl ?_
      refine w_ret rfl rfl (trivial) ?_
      refine ⟨?_, rfl, hF⟩
      rw [← tuV_sum hW _ _ _ (Nat.le_refl _)]
      unfold tuT
      first
        | rw [if_pos h_98]
        | rw [if_neg h_98]
  · have hlt : s < 2 ^ E := nnle (by omega) (by omega) h_45
    obtain ⟨r1, r2, r3, r4⟩ := rk_facts hW hlt
    refine w_ld rfl rfl ?_
    refine w_ld rfl rfl ?_
    obtain ⟨_, M3, L3, ⟨rfl, rfl, hF2⟩, hE51⟩ := ok_X12_rankOf (d := d) (ML := ML) hS' hW hlt
    refine w_call (as := [_, _]) (rest := []) rfl rfl rfl rfl rfl rfl rfl rfl hE51 ?_
    refine w_sto (L' := [(0, _), (1, _), (2, _), (3, _), (4, _), (6, _), (7, _)]) rfl rfl ?_
    refine w_ld rfl rfl ?_
    refine w_ld rfl rfl ?_
    refine w_cst (v := .int 1) rfl rfl ?_
    refine w_bin rfl rfl ?_
    refine w_ld rfl rfl ?_
    refine w_ld rfl rfl ?_
    refine w_bin rfl rfl ?_
    rw [pk_sub r1]
    refine w_call (as := [_, _]) (rest := [_]) rfl rfl rfl rfl rfl rfl rfl rfl (EX_ex (ok_X12_power (by omega))) ?_
    refine w_ld rfl rfl ?_
    refine w_cst (v := .int 1) rfl rfl ?_
    refine w_bin rfl rfl ?_
    refine w_ld rfl rfl ?_
    refine w_call (as := [_]) (rest := [_, _, _]) rfl rfl rfl rfl rfl rfl rfl rfl (ok_bitCount _ _ _ (by omega)) ?_
    refine w_ld rfl rfl ?_
    refine w_bin rfl rfl ?_
    rw [pk_sub r3]
    refine w_call (as := [_, _]) (rest := [_, _]) rfl rfl rfl rfl rfl rfl rfl rfl (EX_ex (ok_X12_power (by omega))) ?_
    refine w_bin rfl rfl ?_
    refine w_bin rfl rfl ?_
    refine w_sto (L' := [(0, _), (1, _), (2, _), (3, _), (4, _), (6, _), (7, _)]) rfl rfl ?_
    refine w_inc (y := _ + 1) rfl rfl rfl ?_
    refine w_norm (L' := [(0, _), (1, _), (2, _), (3, _), (4, _), (6, _), (7, _)]) rfl ?_
    refine w_go rfl ?_
    refine w_keep [0, 1, 2, 3, 4, 6] (L' := [(0, _), (1, _), (2, _), (3, _), (4, _), (6, _)]) rfl ?_
    rw [nI_1 s]
    exact ih hlt _ (Fm_tr hF hF2)

set_option maxHeartbeats 1000000 in
set_option maxRecDepth 10000 in
theorem ok_X12_tutte {d : Nat} {M : Mm} {ML : Ml} {N E A : Nat} {l h : Nat → Nat} (hS : NM M N E A l h) (hW : WN N E A l h) {x y : Int32} : EX (d + 3) k_X12_tutte [.ref 73, .int x, .int y] M ML (fun r M2 L2 => r = some (.int (tutteA l h E x y)) ∧ L2 = ML ∧ Fm [86] [] M M2) := by
  refine EX_in mi_X12_tutte rfl rfl ?_
  show WP _ cd_X12_tutte false _ (0, [(0, .ref 73), (1, .int x), (2, .int y)], [], (SH, M, ML))
  have hN7 := hW.2.1
  have hE10 := hW.2.2.1
  have h1024 := pow_b hE10
  have hpE : 0 < 2 ^ E := Nat.two_pow_pos E
  refine w_ld rfl rfl ?_
  refine w_cst (v := .int 0) rfl rfl ?_
  refine w_cst (v := .int 9) rfl rfl ?_
  refine w_cife (as := [_, _, _]) (rest := []) rfl rfl rfl rfl rfl rfl rfl rfl (ok_X12_in ..) rfl (fun h_4 => ?_) (fun h_4 => ?_)
  · refine w_cst (v := .int (-1)) rfl rfl ?_
    refine w_ret rfl rfl (trivial) ?_
    refine ⟨?_, rfl, Fm_rf⟩
    unfold tutteA
    first
      | (rw [show wh x 9 = false from h_4]; rfl)
      | (rw [show wh y 9 = false from h_14, Bool.and_false]; rfl)
  · refine w_ld rfl rfl ?_
    refine w_cst (v := .int 0) rfl rfl ?_
    refine w_cst (v := .int 9) rfl rfl ?_
    refine w_cifn (as := [_, _, _]) (rest := []) rfl rfl rfl rfl rfl rfl rfl rfl (ok_X12_in ..) rfl (fun h_14 => ?_) (fun h_14 => ?_)
    · refine w_ld rfl rfl ?_
      refine w_ld rfl rfl ?_
      refine w_call (as := [_]) (rest := [_]) rfl rfl rfl rfl rfl rfl rfl rfl (ok_X12_all _ _ _ hS.2.1 hE10) ?_
      refine w_cst (v := .int 1) rfl rfl ?_
      refine w_bin rfl rfl ?_
      rw [show (1 : Int32) = nI 1 from rfl, pk_sub hpE]
      obtain ⟨_, M3, L3, ⟨rfl, rfl, hF2⟩, hE29⟩ := ok_X12_rankOf (d := d) (ML := ML) hS hW (s := 2 ^ E - 1) (by omega)
      refine w_call (as := [_, _]) (rest := []) rfl rfl rfl rfl rfl rfl rfl rfl hE29 ?_
      refine w_sto (L' := [(0, _), (1, _), (2, _), (3, _)]) rfl rfl ?_
      refine w_cst (v := .long 0) rfl rfl ?_
      refine w_sto (L' := [(0, _), (1, _), (2, _), (3, _), (4, _)]) rfl rfl ?_
      refine w_cst (v := .int 0) rfl rfl ?_
      refine w_sto (L' := [(0, _), (1, _), (2, _), (3, _), (4, _), (6, _)]) rfl rfl ?_
      have hp := lp_X12_tutte_39 (d := d) (ML := L3) (x := x) (y := y) hS hW 0 (Nat.zero_le _) M3 hF2
      refine WP_mono hp (fun r M2 L2 q => ⟨?_, q.2⟩)
      unfold tutteA
      rw [show wh x 9 = true from h_4, show wh y 9 = true from h_14]
      exact q.1
    · refine w_cst (v := .int (-1)) rfl rfl ?_
      refine w_ret rfl rfl (trivial) ?_
      refine ⟨?_, rfl, Fm_rf⟩
      unfold tutteA
      first
        | (rw [show wh x 9 = false from h_4]; rfl)
        | (rw [show wh y 9 = false from h_14, Bool.and_false]; rfl)

