/-! ===== judge ===== -/
/-- the chord of number k -/
def kth (l h : Nat → Nat) (E k : Nat) : Nat := fa_first (fun c => isCh l h c && decide (cc l h c = k)) E
theorem kth_of {l h : Nat → Nat} {E c : Nat} (hc : c < E) (hch : isCh l h c = true) : kth l h E (cc l h c) = c :=
  ff_eq hc (by rw [hch, decide_eq_true rfl]; rfl) (fun i hi => Bool.eq_false_iff.mpr fun w => by
    rw [Bool.and_eq_true] at w
    have := cc_one w.1 hch (of_decide_eq_true w.2)
    omega)
/-- is number k of a row of n otherwise than the flow -/
def jdP (l h : Nat → Nat) (E : Nat) (x : Int32) (n : Nat) (f : Nat → Int32) (k : Nat) : Bool := decide (n ≤ k) || !decide (f k = flI l h E x (kth l h E k))
/-- a row judged -/
def jdR (l h : Nat → Nat) (E : Nat) (x : Int32) (n : Nat) (f : Nat → Int32) : Int32 := if fa_first (jdP l h E x n f) (cc l h E) < cc l h E then nI (fa_first (jdP l h E x n f) (cc l h E)) else if cc l h E < n then nI (cc l h E) else -2
/-- what judge answers of a holder that holds H -/
def jdV (l h : Nat → Nat) (E : Nat) (x H : Int32) (n : Nat) (f : Nat → Int32) : Int32 := bif inR x (2 ^ E) then (if nrV H = 0 then jdR l h E x n f else nrV H) else -1
theorem jdR_at {l h : Nat → Nat} {E : Nat} {x : Int32} {n k : Nat} {f : Nat → Int32} (hk : k < cc l h E) (hp : jdP l h E x n f k = true) (hl : ∀ j, j < k → jdP l h E x n f j = false) : jdR l h E x n f = nI k := by
  unfold jdR
  rw [ff_eq hk hp hl, if_pos hk]
theorem jdR_end {l h : Nat → Nat} {E : Nat} {x : Int32} {n : Nat} {f : Nat → Int32} (hl : ∀ j, j < cc l h E → jdP l h E x n f j = false) : jdR l h E x n f = if cc l h E < n then nI (cc l h E) else -2 := by
  unfold jdR
  rw [if_neg (fun w => by
    have := fa_first_yes _ _ w
    rw [hl _ w] at this
    exact Bool.noConfusion this)]
theorem jdR_cong {l h : Nat → Nat} {E : Nat} {x : Int32} {n : Nat} {f g : Nat → Int32} (q : ∀ k, k < n → f k = g k) : jdR l h E x n f = jdR l h E x n g := by
  have e : jdP l h E x n f = jdP l h E x n g := funext fun k => by
    unfold jdP
    by_cases c : n ≤ k
    · rw [decide_eq_true c, Bool.true_or, Bool.true_or]
    · rw [q k (by omega)]
  unfold jdR
  rw [e]

set_option maxHeartbeats 1000000 in
set_option maxRecDepth 10000 in
theorem ok_X11_judge_n0 {d : Nat} {M : Mm} {ML : Ml} {N E A : Nat} {l h : Nat → Nat} (hS : NS M 2 3 4 5 6 N E A l h) (hW : WN N E A l h) (hR : RG M E l h) {x : Int32} (hq : inR x (2 ^ E) = false ∨ ¬ nrV (M 61 0) = 0) {n : Nat} {f : Nat → Int32} : EX (d + 4) k_X11_judge [.ref 1, .int (nI 0), .int x] M ML (fun r M2 L2 => r = some (.int (jdV l h E x (M 61 0) n f)) ∧ L2 = ML ∧ M2 = M) := by
  refine EX_in mi_X11_judge rfl rfl ?_
  show WP _ cd_X11_judge false _ (0, [(0, .ref 1), (1, .int (nI 0)), (2, .int x)], [], (SH, M, ML))
  have hE10 := hW.2.2.1
  have h1024 := pow_b hE10
  have hcE := cc_le l h E
  refine w_ld rfl rfl ?_
  refine w_ld rfl rfl ?_
  refine w_call (as := [_, _]) (rest := []) rfl rfl rfl rfl rfl rfl rfl rfl (ok_X11_holderAt_0 _ _ _) ?_
  refine w_sto (L' := [(0, _), (1, _), (2, _), (3, _)]) rfl rfl ?_
  refine w_ld rfl rfl ?_
  refine w_nlj rfl rfl ?_
  refine w_ld rfl rfl ?_
  refine w_getr rfl rfl rfl rfl rfl ?_
  refine w_ld rfl rfl ?_
  refine w_cifn (as := [_, _]) (rest := []) rfl rfl rfl rfl rfl rfl rfl rfl (ok_X4_hasArrowing _ _ _ _ hS.2.1 hW.2.2.1) rfl (fun h_15 => ?_) (fun h_15 => ?_)
  · refine w_ld rfl rfl ?_
    refine w_call (as := [_]) (rest := []) rfl rfl rfl rfl rfl rfl rfl rfl (ok_X11_noRow_0 _ _ _) ?_
    refine w_sto (L' := [(0, _), (1, _), (2, _), (3, _), (4, _)]) rfl rfl ?_
    refine w_ld rfl rfl ?_
    refine w_cj rfl rfl (fun h_31 => ?_) (fun h_31 => ?_)
    · exfalso
      rcases hq with q | q
      · rw [q] at h_15
        exact Bool.noConfusion h_15
      · exact q h_31
    · refine w_ld rfl rfl ?_
      refine w_ret rfl rfl (trivial) ?_
      refine ⟨?_, rfl, rfl⟩
      unfold jdV
      rw [h_15]
      show some (Value.int (nrV (M 61 0))) = some (Value.int (if nrV (M 61 0) = 0 then _ else _))
      rw [if_neg h_31]
  · refine w_cst (v := .int (-1)) rfl rfl ?_
    refine w_ret rfl rfl (trivial) ?_
    refine ⟨?_, rfl, rfl⟩
    unfold jdV
    rw [h_15]
    exact rfl

set_option maxHeartbeats 1000000 in
set_option maxRecDepth 10000 in
theorem lp_X11_judge_0 {d : Nat} {M : Mm} {ML : Ml} {N E A : Nat} {l h : Nat → Nat} (hS : NS M 2 3 4 5 6 N E A l h) (hW : WN N E A l h) (hR : RG M E l h) {a n : Nat} (ha : a < 2 ^ E) (h0 : nrV (M 61 0) = 0) (hn : M 61 2 = nI n) (hn20 : n ≤ 20) : ∀ k, k ≤ min n (cc l h E) → (∀ j, j < k → jdP l h E (nI a) n (M 62) j = false) → WP (d + 3) cd_X11_judge false (fun r M2 L2 => r = some (.int (jdR l h E (nI a) n (M 62))) ∧ L2 = ML ∧ M2 = M) (56, [(0, .ref 1), (1, .int (nI 0)), (2, .int (nI a)), (3, .ref 61), (4, .int 0), (5, .int (nI (min n (cc l h E)))), (6, .int (nI k))], [], (SH, M, ML)) := by
  have hE10 := hW.2.2.1
  have h1024 := pow_b hE10
  have hcE := cc_le l h E
  have hmin : min n (cc l h E) ≤ n ∧ min n (cc l h E) ≤ cc l h E := ⟨Nat.min_le_left .., Nat.min_le_right ..⟩
  refine up_ind fun k hk ih => ?_
  intro hj
  refine w_ld rfl rfl ?_
  refine w_ld rfl rfl ?_
  refine w_cj rfl rfl (fun h_60 => ?_) (fun h_60 => ?_)
  · refine w_ld rfl rfl ?_
    refine w_getv rfl rfl rfl rfl rfl (hn) ?_
    refine w_ld rfl rfl ?_
    refine w_getr rfl rfl rfl rfl rfl ?_
    refine w_getv rfl rfl rfl rfl rfl (hR.1) ?_
    refine w_cj rfl rfl (fun h_105 => ?_) (fun h_105 => ?_)
    · refine w_ld rfl rfl ?_
      refine w_ret rfl rfl (trivial) ?_
      have h9 : k = min n (cc l h E) := by have := nle (by omega) (by omega) h_60; omega
      refine ⟨?_, rfl, rfl⟩
      first
        | exact (fun (he : n = cc l h E) => by
            rw [jdR_end (fun j hjc => hj j (by omega)), if_neg (by omega)]) (neq (by omega) (by omega) (Classical.not_not.mp h_105))
        | exact (fun (he : ¬ n = cc l h E) => by
            rcases Nat.lt_or_ge n (cc l h E) with w | w
            · rw [jdR_at (k := n) w (by unfold jdP; rw [decide_eq_true (Nat.le_refl n), Bool.true_or]) (fun j hjc => hj j (by omega))]
              exact congrArg (fun q => some (Value.int (nI q))) (by omega)
            · rw [jdR_end (fun j hjc => hj j (by omega)), if_pos (by omega)]
              exact congrArg (fun q => some (Value.int (nI q))) (by omega)) (fun w => h_105 (congrArg nI w))
    · refine w_cst (v := .int (-2)) rfl rfl ?_
      refine w_go rfl ?_
      refine w_ret rfl rfl (trivial) ?_
      have h9 : k = min n (cc l h E) := by have := nle (by omega) (by omega) h_60; omega
      refine ⟨?_, rfl, rfl⟩
      first
        | exact (fun (he : n = cc l h E) => by
            rw [jdR_end (fun j hjc => hj j (by omega)), if_neg (by omega)]) (neq (by omega) (by omega) (Classical.not_not.mp h_105))
        | exact (fun (he : ¬ n = cc l h E) => by
            rcases Nat.lt_or_ge n (cc l h E) with w | w
            · rw [jdR_at (k := n) w (by unfold jdP; rw [decide_eq_true (Nat.le_refl n), Bool.true_or]) (fun j hjc => hj j (by omega))]
              exact congrArg (fun q => some (Value.int (nI q))) (by omega)
            · rw [jdR_end (fun j hjc => hj j (by omega)), if_pos (by omega)]
              exact congrArg (fun q => some (Value.int (nI q))) (by omega)) (fun w => h_105 (congrArg nI w))
  · have hlt : k < min n (cc l h E) := nnle (by omega) (by omega) h_60
    obtain ⟨c, hc, hch, hck⟩ := cc_kth (l := l) (h := h) (k := k) (E := E) (by omega)
    have hround := EX_ex (ok_X6_round (d := d) (ML := ML) hE10 hR hc hch ha)
    rw [hck] at hround
    have hkt : kth l h E k = c := by rw [← hck]; exact kth_of hc hch
    refine w_ld rfl rfl ?_
    refine w_getr rfl rfl rfl rfl rfl ?_
    refine w_ld rfl rfl ?_
    refine w_call (as := [_, _]) (rest := []) rfl rfl rfl rfl rfl rfl rfl rfl (ok_at_v _ _ _ rfl rfl rfl (rfl) (by omega) (rfl)) ?_
    refine w_ld rfl rfl ?_
    refine w_getr rfl rfl rfl rfl rfl ?_
    refine w_ld rfl rfl ?_
    refine w_ld rfl rfl ?_
    refine w_call (as := [_, _, _]) (rest := [_]) rfl rfl rfl rfl rfl rfl rfl rfl hround ?_
    refine w_cj rfl rfl (fun h_82 => ?_) (fun h_82 => ?_)
    · refine w_inc (y := _ + 1) rfl rfl rfl ?_
      refine w_norm (L' := [(0, _), (1, _), (2, _), (3, _), (4, _), (5, _), (6, _)]) rfl ?_
      refine w_go rfl ?_
      rw [nI_1]
      refine ih hlt (fun j hjk => ?_)
      rcases Nat.lt_or_ge j k with w | w
      · exact hj j w
      · have : j = k := by omega
        subst this
        unfold jdP
        rw [hkt, decide_eq_true h_82, decide_eq_false (by omega)]
        rfl
    · refine w_ld rfl rfl ?_
      refine w_ret rfl rfl (trivial) ?_
      refine ⟨?_, rfl, rfl⟩
      rw [jdR_at (by omega) ?_ hj]
      unfold jdP
      rw [hkt, decide_eq_false h_82]
      simp

set_option maxHeartbeats 1000000 in
set_option maxRecDepth 10000 in
theorem ok_X11_judge_y0 {d : Nat} {M : Mm} {ML : Ml} {N E A : Nat} {l h : Nat → Nat} (hS : NS M 2 3 4 5 6 N E A l h) (hW : WN N E A l h) (hR : RG M E l h) {a n : Nat} (ha : a < 2 ^ E) (h0 : nrV (M 61 0) = 0) (hn : M 61 2 = nI n) (hn20 : n ≤ 20) : EX (d + 4) k_X11_judge [.ref 1, .int (nI 0), .int (nI a)] M ML (fun r M2 L2 => r = some (.int (jdR l h E (nI a) n (M 62))) ∧ L2 = ML ∧ M2 = M) := by
  refine EX_in mi_X11_judge rfl rfl ?_
  show WP _ cd_X11_judge false _ (0, [(0, .ref 1), (1, .int (nI 0)), (2, .int (nI a))], [], (SH, M, ML))
  have hE10 := hW.2.2.1
  have h1024 := pow_b hE10
  have hcE := cc_le l h E
  refine w_ld rfl rfl ?_
  refine w_ld rfl rfl ?_
  refine w_call (as := [_, _]) (rest := []) rfl rfl rfl rfl rfl rfl rfl rfl (ok_X11_holderAt_0 _ _ _) ?_
  refine w_sto (L' := [(0, _), (1, _), (2, _), (3, _)]) rfl rfl ?_
  refine w_ld rfl rfl ?_
  refine w_nlj rfl rfl ?_
  refine w_ld rfl rfl ?_
  refine w_getr rfl rfl rfl rfl rfl ?_
  refine w_ld rfl rfl ?_
  refine w_cifn (as := [_, _]) (rest := []) rfl rfl rfl rfl rfl rfl rfl rfl (ok_X4_hasArrowing _ _ _ _ hS.2.1 hW.2.2.1) rfl (fun h_15 => ?_) (fun h_15 => ?_)
  · refine w_ld rfl rfl ?_
    refine w_call (as := [_]) (rest := []) rfl rfl rfl rfl rfl rfl rfl rfl (ok_X11_noRow_0 _ _ _) ?_
    rw [h0]
    refine w_sto (L' := [(0, _), (1, _), (2, _), (3, _), (4, _)]) rfl rfl ?_
    refine w_ld rfl rfl ?_
    refine w_cjT rfl rfl (rfl) ?_
    refine w_ld rfl rfl ?_
    refine w_getv rfl rfl rfl rfl rfl (hn) ?_
    refine w_ld rfl rfl ?_
    refine w_getr rfl rfl rfl rfl rfl ?_
    refine w_getv rfl rfl rfl rfl rfl (hR.1) ?_
    refine w_mm rfl rfl (Nat.le_of_ble_eq_true rfl) ?_
    rw [minI (by omega) (by omega)]
    refine w_sto (L' := [(0, _), (1, _), (2, _), (3, _), (4, _), (5, _)]) rfl rfl ?_
    refine w_cst (v := .int 0) rfl rfl ?_
    refine w_sto (L' := [(0, _), (1, _), (2, _), (3, _), (4, _), (5, _), (6, _)]) rfl rfl ?_
    exact lp_X11_judge_0 hS hW hR ha h0 hn hn20 0 (Nat.zero_le _) (fun j hj => absurd hj (Nat.not_lt_zero j))
  · rw [inR_nI (by omega) ha] at h_15
    exact Bool.noConfusion h_15

set_option maxHeartbeats 1000000 in
set_option maxRecDepth 10000 in
theorem ok_X11_judge_n1 {d : Nat} {M : Mm} {ML : Ml} {N E A : Nat} {l h : Nat → Nat} (hS : NS M 2 3 4 5 6 N E A l h) (hW : WN N E A l h) (hR : RG M E l h) {x : Int32} (hq : inR x (2 ^ E) = false ∨ ¬ nrV (M 63 0) = 0) {n : Nat} {f : Nat → Int32} : EX (d + 4) k_X11_judge [.ref 1, .int (nI 1), .int x] M ML (fun r M2 L2 => r = some (.int (jdV l h E x (M 63 0) n f)) ∧ L2 = ML ∧ M2 = M) := by
  refine EX_in mi_X11_judge rfl rfl ?_
  show WP _ cd_X11_judge false _ (0, [(0, .ref 1), (1, .int (nI 1)), (2, .int x)], [], (SH, M, ML))
  have hE10 := hW.2.2.1
  have h1024 := pow_b hE10
  have hcE := cc_le l h E
  refine w_ld rfl rfl ?_
  refine w_ld rfl rfl ?_
  refine w_call (as := [_, _]) (rest := []) rfl rfl rfl rfl rfl rfl rfl rfl (ok_X11_holderAt_1 _ _ _) ?_
  refine w_sto (L' := [(0, _), (1, _), (2, _), (3, _)]) rfl rfl ?_
  refine w_ld rfl rfl ?_
  refine w_nlj rfl rfl ?_
  refine w_ld rfl rfl ?_
  refine w_getr rfl rfl rfl rfl rfl ?_
  refine w_ld rfl rfl ?_
  refine w_cifn (as := [_, _]) (rest := []) rfl rfl rfl rfl rfl rfl rfl rfl (ok_X4_hasArrowing _ _ _ _ hS.2.1 hW.2.2.1) rfl (fun h_15 => ?_) (fun h_15 => ?_)
  · refine w_ld rfl rfl ?_
    refine w_call (as := [_]) (rest := []) rfl rfl rfl rfl rfl rfl rfl rfl (ok_X11_noRow_1 _ _ _) ?_
    refine w_sto (L' := [(0, _), (1, _), (2, _), (3, _), (4, _)]) rfl rfl ?_
    refine w_ld rfl rfl ?_
    refine w_cj rfl rfl (fun h_31 => ?_) (fun h_31 => ?_)
    · exfalso
      rcases hq with q | q
      · rw [q] at h_15
        exact Bool.noConfusion h_15
      · exact q h_31
    · refine w_ld rfl rfl ?_
      refine w_ret rfl rfl (trivial) ?_
      refine ⟨?_, rfl, rfl⟩
      unfold jdV
      rw [h_15]
      show some (Value.int (nrV (M 63 0))) = some (Value.int (if nrV (M 63 0) = 0 then _ else _))
      rw [if_neg h_31]
  · refine w_cst (v := .int (-1)) rfl rfl ?_
    refine w_ret rfl rfl (trivial) ?_
    refine ⟨?_, rfl, rfl⟩
    unfold jdV
    rw [h_15]
    exact rfl

set_option maxHeartbeats 1000000 in
set_option maxRecDepth 10000 in
theorem lp_X11_judge_1 {d : Nat} {M : Mm} {ML : Ml} {N E A : Nat} {l h : Nat → Nat} (hS : NS M 2 3 4 5 6 N E A l h) (hW : WN N E A l h) (hR : RG M E l h) {a n : Nat} (ha : a < 2 ^ E) (h0 : nrV (M 63 0) = 0) (hn : M 63 2 = nI n) (hn20 : n ≤ 20) : ∀ k, k ≤ min n (cc l h E) → (∀ j, j < k → jdP l h E (nI a) n (M 64) j = false) → WP (d + 3) cd_X11_judge false (fun r M2 L2 => r = some (.int (jdR l h E (nI a) n (M 64))) ∧ L2 = ML ∧ M2 = M) (56, [(0, .ref 1), (1, .int (nI 1)), (2, .int (nI a)), (3, .ref 63), (4, .int 0), (5, .int (nI (min n (cc l h E)))), (6, .int (nI k))], [], (SH, M, ML)) := by
  have hE10 := hW.2.2.1
  have h1024 := pow_b hE10
  have hcE := cc_le l h E
  have hmin : min n (cc l h E) ≤ n ∧ min n (cc l h E) ≤ cc l h E := ⟨Nat.min_le_left .., Nat.min_le_right ..⟩
  refine up_ind fun k hk ih => ?_
  intro hj
  refine w_ld rfl rfl ?_
  refine w_ld rfl rfl ?_
  refine w_cj rfl rfl (fun h_60 => ?_) (fun h_60 => ?_)
  · refine w_ld rfl rfl ?_
    refine w_getv rfl rfl rfl rfl rfl (hn) ?_
    refine w_ld rfl rfl ?_
    refine w_getr rfl rfl rfl rfl rfl ?_
    refine w_getv rfl rfl rfl rfl rfl (hR.1) ?_
    refine w_cj rfl rfl (fun h_105 => ?_) (fun h_105 => ?_)
    · refine w_ld rfl rfl ?_
      refine w_ret rfl rfl (trivial) ?_
      have h9 : k = min n (cc l h E) := by have := nle (by omega) (by omega) h_60; omega
      refine ⟨?_, rfl, rfl⟩
      first
        | exact (fun (he : n = cc l h E) => by
            rw [jdR_end (fun j hjc => hj j (by omega)), if_neg (by omega)]) (neq (by omega) (by omega) (Classical.not_not.mp h_105))
        | exact (fun (he : ¬ n = cc l h E) => by
            rcases Nat.lt_or_ge n (cc l h E) with w | w
            · rw [jdR_at (k := n) w (by unfold jdP; rw [decide_eq_true (Nat.le_refl n), Bool.true_or]) (fun j hjc => hj j (by omega))]
              exact congrArg (fun q => some (Value.int (nI q))) (by omega)
            · rw [jdR_end (fun j hjc => hj j (by omega)), if_pos (by omega)]
              exact congrArg (fun q => some (Value.int (nI q))) (by omega)) (fun w => h_105 (congrArg nI w))
    · refine w_cst (v := .int (-2)) rfl rfl ?_
      refine w_go rfl ?_
      refine w_ret rfl rfl (trivial) ?_
      have h9 : k = min n (cc l h E) := by have := nle (by omega) (by omega) h_60; omega
      refine ⟨?_, rfl, rfl⟩
      first
        | exact (fun (he : n = cc l h E) => by
            rw [jdR_end (fun j hjc => hj j (by omega)), if_neg (by omega)]) (neq (by omega) (by omega) (Classical.not_not.mp h_105))
        | exact (fun (he : ¬ n = cc l h E) => by
            rcases Nat.lt_or_ge n (cc l h E) with w | w
            · rw [jdR_at (k := n) w (by unfold jdP; rw [decide_eq_true (Nat.le_refl n), Bool.true_or]) (fun j hjc => hj j (by omega))]
              exact congrArg (fun q => some (Value.int (nI q))) (by omega)
            · rw [jdR_end (fun j hjc => hj j (by omega)), if_pos (by omega)]
              exact congrArg (fun q => some (Value.int (nI q))) (by omega)) (fun w => h_105 (congrArg nI w))
  · have hlt : k < min n (cc l h E) := nnle (by omega) (by omega) h_60
    obtain ⟨c, hc, hch, hck⟩ := cc_kth (l := l) (h := h) (k := k) (E := E) (by omega)
    have hround := EX_ex (ok_X6_round (d := d) (ML := ML) hE10 hR hc hch ha)
    rw [hck] at hround
    have hkt : kth l h E k = c := by rw [← hck]; exact kth_of hc hch
    refine w_ld rfl rfl ?_
    refine w_getr rfl rfl rfl rfl rfl ?_
    refine w_ld rfl rfl ?_
    refine w_call (as := [_, _]) (rest := []) rfl rfl rfl rfl rfl rfl rfl rfl (ok_at_v _ _ _ rfl rfl rfl (rfl) (by omega) (rfl)) ?_
    refine w_ld rfl rfl ?_
    refine w_getr rfl rfl rfl rfl rfl ?_
    refine w_ld rfl rfl ?_
    refine w_ld rfl rfl ?_
    refine w_call (as := [_, _, _]) (rest := [_]) rfl rfl rfl rfl rfl rfl rfl rfl hround ?_
    refine w_cj rfl rfl (fun h_82 => ?_) (fun h_82 => ?_)
    · refine w_inc (y := _ + 1) rfl rfl rfl ?_
      refine w_norm (L' := [(0, _), (1, _), (2, _), (3, _), (4, _), (5, _), (6, _)]) rfl ?_
      refine w_go rfl ?_
      rw [nI_1]
      refine ih hlt (fun j hjk => ?_)
      rcases Nat.lt_or_ge j k with w | w
      · exact hj j w
      · have : j = k := by omega
        subst this
        unfold jdP
        rw [hkt, decide_eq_true h_82, decide_eq_false (by omega)]
        rfl
    · refine w_ld rfl rfl ?_
      refine w_ret rfl rfl (trivial) ?_
      refine ⟨?_, rfl, rfl⟩
      rw [jdR_at (by omega) ?_ hj]
      unfold jdP
      rw [hkt, decide_eq_false h_82]
      simp

set_option maxHeartbeats 1000000 in
set_option maxRecDepth 10000 in
theorem ok_X11_judge_y1 {d : Nat} {M : Mm} {ML : Ml} {N E A : Nat} {l h : Nat → Nat} (hS : NS M 2 3 4 5 6 N E A l h) (hW : WN N E A l h) (hR : RG M E l h) {a n : Nat} (ha : a < 2 ^ E) (h0 : nrV (M 63 0) = 0) (hn : M 63 2 = nI n) (hn20 : n ≤ 20) : EX (d + 4) k_X11_judge [.ref 1, .int (nI 1), .int (nI a)] M ML (fun r M2 L2 => r = some (.int (jdR l h E (nI a) n (M 64))) ∧ L2 = ML ∧ M2 = M) := by
  refine EX_in mi_X11_judge rfl rfl ?_
  show WP _ cd_X11_judge false _ (0, [(0, .ref 1), (1, .int (nI 1)), (2, .int (nI a))], [], (SH, M, ML))
  have hE10 := hW.2.2.1
  have h1024 := pow_b hE10
  have hcE := cc_le l h E
  refine w_ld rfl rfl ?_
  refine w_ld rfl rfl ?_
  refine w_call (as := [_, _]) (rest := []) rfl rfl rfl rfl rfl rfl rfl rfl (ok_X11_holderAt_1 _ _ _) ?_
  refine w_sto (L' := [(0, _), (1, _), (2, _), (3, _)]) rfl rfl ?_
  refine w_ld rfl rfl ?_
  refine w_nlj rfl rfl ?_
  refine w_ld rfl rfl ?_
  refine w_getr rfl rfl rfl rfl rfl ?_
  refine w_ld rfl rfl ?_
  refine w_cifn (as := [_, _]) (rest := []) rfl rfl rfl rfl rfl rfl rfl rfl (ok_X4_hasArrowing _ _ _ _ hS.2.1 hW.2.2.1) rfl (fun h_15 => ?_) (fun h_15 => ?_)
  · refine w_ld rfl rfl ?_
    refine w_call (as := [_]) (rest := []) rfl rfl rfl rfl rfl rfl rfl rfl (ok_X11_noRow_1 _ _ _) ?_
    rw [h0]
    refine w_sto (L' := [(0, _), (1, _), (2, _), (3, _), (4, _)]) rfl rfl ?_
    refine w_ld rfl rfl ?_
    refine w_cjT rfl rfl (rfl) ?_
    refine w_ld rfl rfl ?_
    refine w_getv rfl rfl rfl rfl rfl (hn) ?_
    refine w_ld rfl rfl ?_
    refine w_getr rfl rfl rfl rfl rfl ?_
    refine w_getv rfl rfl rfl rfl rfl (hR.1) ?_
    refine w_mm rfl rfl (Nat.le_of_ble_eq_true rfl) ?_
    rw [minI (by omega) (by omega)]
    refine w_sto (L' := [(0, _), (1, _), (2, _), (3, _), (4, _), (5, _)]) rfl rfl ?_
    refine w_cst (v := .int 0) rfl rfl ?_
    refine w_sto (L' := [(0, _), (1, _), (2, _), (3, _), (4, _), (5, _), (6, _)]) rfl rfl ?_
    exact lp_X11_judge_1 hS hW hR ha h0 hn hn20 0 (Nat.zero_le _) (fun j hj => absurd hj (Nat.not_lt_zero j))
  · rw [inR_nI (by omega) ha] at h_15
    exact Bool.noConfusion h_15

set_option maxHeartbeats 1000000 in
set_option maxRecDepth 10000 in
theorem ok_X11_judge_n2 {d : Nat} {M : Mm} {ML : Ml} {N E A : Nat} {l h : Nat → Nat} (hS : NS M 2 3 4 5 6 N E A l h) (hW : WN N E A l h) (hR : RG M E l h) {x : Int32} (hq : inR x (2 ^ E) = false ∨ ¬ nrV (M 65 0) = 0) {n : Nat} {f : Nat → Int32} : EX (d + 4) k_X11_judge [.ref 1, .int (nI 2), .int x] M ML (fun r M2 L2 => r = some (.int (jdV l h E x (M 65 0) n f)) ∧ L2 = ML ∧ M2 = M) := by
  refine EX_in mi_X11_judge rfl rfl ?_
  show WP _ cd_X11_judge false _ (0, [(0, .ref 1), (1, .int (nI 2)), (2, .int x)], [], (SH, M, ML))
  have hE10 := hW.2.2.1
  have h1024 := pow_b hE10
  have hcE := cc_le l h E
  refine w_ld rfl rfl ?_
  refine w_ld rfl rfl ?_
  refine w_call (as := [_, _]) (rest := []) rfl rfl rfl rfl rfl rfl rfl rfl (ok_X11_holderAt_2 _ _ _) ?_
  refine w_sto (L' := [(0, _), (1, _), (2, _), (3, _)]) rfl rfl ?_
  refine w_ld rfl rfl ?_
  refine w_nlj rfl rfl ?_
  refine w_ld rfl rfl ?_
  refine w_getr rfl rfl rfl rfl rfl ?_
  refine w_ld rfl rfl ?_
  refine w_cifn (as := [_, _]) (rest := []) rfl rfl rfl rfl rfl rfl rfl rfl (ok_X4_hasArrowing _ _ _ _ hS.2.1 hW.2.2.1) rfl (fun h_15 => ?_) (fun h_15 => ?_)
  · refine w_ld rfl rfl ?_
    refine w_call (as := [_]) (rest := []) rfl rfl rfl rfl rfl rfl rfl rfl (ok_X11_noRow_2 _ _ _) ?_
    refine w_sto (L' := [(0, _), (1, _), (2, _), (3, _), (4, _)]) rfl rfl ?_
    refine w_ld rfl rfl ?_
    refine w_cj rfl rfl (fun h_31 => ?_) (fun h_31 => ?_)
    · exfalso
      rcases hq with q | q
      · rw [q] at h_15
        exact Bool.noConfusion h_15
      · exact q h_31
    · refine w_ld rfl rfl ?_
      refine w_ret rfl rfl (trivial) ?_
      refine ⟨?_, rfl, rfl⟩
      unfold jdV
      rw [h_15]
      show some (Value.int (nrV (M 65 0))) = some (Value.int (if nrV (M 65 0) = 0 then _ else _))
      rw [if_neg h_31]
  · refine w_cst (v := .int (-1)) rfl rfl ?_
    refine w_ret rfl rfl (trivial) ?_
    refine ⟨?_, rfl, rfl⟩
    unfold jdV
    rw [h_15]
    exact rfl

set_option maxHeartbeats 1000000 in
set_option maxRecDepth 10000 in
theorem lp_X11_judge_2 {d : Nat} {M : Mm} {ML : Ml} {N E A : Nat} {l h : Nat → Nat} (hS : NS M 2 3 4 5 6 N E A l h) (hW : WN N E A l h) (hR : RG M E l h) {a n : Nat} (ha : a < 2 ^ E) (h0 : nrV (M 65 0) = 0) (hn : M 65 2 = nI n) (hn20 : n ≤ 20) : ∀ k, k ≤ min n (cc l h E) → (∀ j, j < k → jdP l h E (nI a) n (M 66) j = false) → WP (d + 3) cd_X11_judge false (fun r M2 L2 => r = some (.int (jdR l h E (nI a) n (M 66))) ∧ L2 = ML ∧ M2 = M) (56, [(0, .ref 1), (1, .int (nI 2)), (2, .int (nI a)), (3, .ref 65), (4, .int 0), (5, .int (nI (min n (cc l h E)))), (6, .int (nI k))], [], (SH, M, ML)) := by
  have hE10 := hW.2.2.1
  have h1024 := pow_b hE10
  have hcE := cc_le l h E
  have hmin : min n (cc l h E) ≤ n ∧ min n (cc l h E) ≤ cc l h E := ⟨Nat.min_le_left .., Nat.min_le_right ..⟩
  refine up_ind fun k hk ih => ?_
  intro hj
  refine w_ld rfl rfl ?_
  refine w_ld rfl rfl ?_
  refine w_cj rfl rfl (fun h_60 => ?_) (fun h_60 => ?_)
  · refine w_ld rfl rfl ?_
    refine w_getv rfl rfl rfl rfl rfl (hn) ?_
    refine w_ld rfl rfl ?_
    refine w_getr rfl rfl rfl rfl rfl ?_
    refine w_getv rfl rfl rfl rfl rfl (hR.1) ?_
    refine w_cj rfl rfl (fun h_105 => ?_) (fun h_105 => ?_)
    · refine w_ld rfl rfl ?_
      refine w_ret rfl rfl (trivial) ?_
      have h9 : k = min n (cc l h E) := by have := nle (by omega) (by omega) h_60; omega
      refine ⟨?_, rfl, rfl⟩
      first
        | exact (fun (he : n = cc l h E) => by
            rw [jdR_end (fun j hjc => hj j (by omega)), if_neg (by omega)]) (neq (by omega) (by omega) (Classical.not_not.mp h_105))
        | exact (fun (he : ¬ n = cc l h E) => by
            rcases Nat.lt_or_ge n (cc l h E) with w | w
            · rw [jdR_at (k := n) w (by unfold jdP; rw [decide_eq_true (Nat.le_refl n), Bool.true_or]) (fun j hjc => hj j (by omega))]
              exact congrArg (fun q => some (Value.int (nI q))) (by omega)
            · rw [jdR_end (fun j hjc => hj j (by omega)), if_pos (by omega)]
              exact congrArg (fun q => some (Value.int (nI q))) (by omega)) (fun w => h_105 (congrArg nI w))
    · refine w_cst (v := .int (-2)) rfl rfl ?_
      refine w_go rfl ?_
      refine w_ret rfl rfl (trivial) ?_
      have h9 : k = min n (cc l h E) := by have := nle (by omega) (by omega) h_60; omega
      refine ⟨?_, rfl, rfl⟩
      first
        | exact (fun (he : n = cc l h E) => by
            rw [jdR_end (fun j hjc => hj j (by omega)), if_neg (by omega)]) (neq (by omega) (by omega) (Classical.not_not.mp h_105))
        | exact (fun (he : ¬ n = cc l h E) => by
            rcases Nat.lt_or_ge n (cc l h E) with w | w
            · rw [jdR_at (k := n) w (by unfold jdP; rw [decide_eq_true (Nat.le_refl n), Bool.true_or]) (fun j hjc => hj j (by omega))]
              exact congrArg (fun q => some (Value.int (nI q))) (by omega)
            · rw [jdR_end (fun j hjc => hj j (by omega)), if_pos (by omega)]
              exact congrArg (fun q => some (Value.int (nI q))) (by omega)) (fun w => h_105 (congrArg nI w))
  · have hlt : k < min n (cc l h E) := nnle (by omega) (by omega) h_60
    obtain ⟨c, hc, hch, hck⟩ := cc_kth (l := l) (h := h) (k := k) (E := E) (by omega)
    have hround := EX_ex (ok_X6_round (d := d) (ML := ML) hE10 hR hc hch ha)
    rw [hck] at hround
    have hkt : kth l h E k = c := by rw [← hck]; exact kth_of hc hch
    refine w_ld rfl rfl ?_
    refine w_getr rfl rfl rfl rfl rfl ?_
    refine w_ld rfl rfl ?_
    refine w_call (as := [_, _]) (rest := []) rfl rfl rfl rfl rfl rfl rfl rfl (ok_at_v _ _ _ rfl rfl rfl (rfl) (by omega) (rfl)) ?_
    refine w_ld rfl rfl ?_
    refine w_getr rfl rfl rfl rfl rfl ?_
    refine w_ld rfl rfl ?_
    refine w_ld rfl rfl ?_
    refine w_call (as := [_, _, _]) (rest := [_]) rfl rfl rfl rfl rfl rfl rfl rfl hround ?_
    refine w_cj rfl rfl (fun h_82 => ?_) (fun h_82 => ?_)
    · refine w_inc (y := _ + 1) rfl rfl rfl ?_
      refine w_norm (L' := [(0, _), (1, _), (2, _), (3, _), (4, _), (5, _), (6, _)]) rfl ?_
      refine w_go rfl ?_
      rw [nI_1]
      refine ih hlt (fun j hjk => ?_)
      rcases Nat.lt_or_ge j k with w | w
      · exact hj j w
      · have : j = k := by omega
        subst this
        unfold jdP
        rw [hkt, decide_eq_true h_82, decide_eq_false (by omega)]
        rfl
    · refine w_ld rfl rfl ?_
      refine w_ret rfl rfl (trivial) ?_
      refine ⟨?_, rfl, rfl⟩
      rw [jdR_at (by omega) ?_ hj]
      unfold jdP
      rw [hkt, decide_eq_false h_82]
      simp

set_option maxHeartbeats 1000000 in
set_option maxRecDepth 10000 in
theorem ok_X11_judge_y2 {d : Nat} {M : Mm} {ML : Ml} {N E A : Nat} {l h : Nat → Nat} (hS : NS M 2 3 4 5 6 N E A l h) (hW : WN N E A l h) (hR : RG M E l h) {a n : Nat} (ha : a < 2 ^ E) (h0 : nrV (M 65 0) = 0) (hn : M 65 2 = nI n) (hn20 : n ≤ 20) : EX (d + 4) k_X11_judge [.ref 1, .int (nI 2), .int (nI a)] M ML (fun r M2 L2 => r = some (.int (jdR l h E (nI a) n (M 66))) ∧ L2 = ML ∧ M2 = M) := by
  refine EX_in mi_X11_judge rfl rfl ?_
  show WP _ cd_X11_judge false _ (0, [(0, .ref 1), (1, .int (nI 2)), (2, .int (nI a))], [], (SH, M, ML))
  have hE10 := hW.2.2.1
  have h1024 := pow_b hE10
  have hcE := cc_le l h E
  refine w_ld rfl rfl ?_
  refine w_ld rfl rfl ?_
  refine w_call (as := [_, _]) (rest := []) rfl rfl rfl rfl rfl rfl rfl rfl (ok_X11_holderAt_2 _ _ _) ?_
  refine w_sto (L' := [(0, _), (1, _), (2, _), (3, _)]) rfl rfl ?_
  refine w_ld rfl rfl ?_
  refine w_nlj rfl rfl ?_
  refine w_ld rfl rfl ?_
  refine w_getr rfl rfl rfl rfl rfl ?_
  refine w_ld rfl rfl ?_
  refine w_cifn (as := [_, _]) (rest := []) rfl rfl rfl rfl rfl rfl rfl rfl (ok_X4_hasArrowing _ _ _ _ hS.2.1 hW.2.2.1) rfl (fun h_15 => ?_) (fun h_15 => ?_)
  · refine w_ld rfl rfl ?_
    refine w_call (as := [_]) (rest := []) rfl rfl rfl rfl rfl rfl rfl rfl (ok_X11_noRow_2 _ _ _) ?_
    rw [h0]
    refine w_sto (L' := [(0, _), (1, _), (2, _), (3, _), (4, _)]) rfl rfl ?_
    refine w_ld rfl rfl ?_
    refine w_cjT rfl rfl (rfl) ?_
    refine w_ld rfl rfl ?_
    refine w_getv rfl rfl rfl rfl rfl (hn) ?_
    refine w_ld rfl rfl ?_
    refine w_getr rfl rfl rfl rfl rfl ?_
    refine w_getv rfl rfl rfl rfl rfl (hR.1) ?_
    refine w_mm rfl rfl (Nat.le_of_ble_eq_true rfl) ?_
    rw [minI (by omega) (by omega)]
    refine w_sto (L' := [(0, _), (1, _), (2, _), (3, _), (4, _), (5, _)]) rfl rfl ?_
    refine w_cst (v := .int 0) rfl rfl ?_
    refine w_sto (L' := [(0, _), (1, _), (2, _), (3, _), (4, _), (5, _), (6, _)]) rfl rfl ?_
    exact lp_X11_judge_2 hS hW hR ha h0 hn hn20 0 (Nat.zero_le _) (fun j hj => absurd hj (Nat.not_lt_zero j))
  · rw [inR_nI (by omega) ha] at h_15
    exact Bool.noConfusion h_15

set_option maxHeartbeats 1000000 in
set_option maxRecDepth 10000 in
theorem ok_X11_judge_n3 {d : Nat} {M : Mm} {ML : Ml} {N E A : Nat} {l h : Nat → Nat} (hS : NS M 2 3 4 5 6 N E A l h) (hW : WN N E A l h) (hR : RG M E l h) {x : Int32} (hq : inR x (2 ^ E) = false ∨ ¬ nrV (M 67 0) = 0) {n : Nat} {f : Nat → Int32} : EX (d + 4) k_X11_judge [.ref 1, .int (nI 3), .int x] M ML (fun r M2 L2 => r = some (.int (jdV l h E x (M 67 0) n f)) ∧ L2 = ML ∧ M2 = M) := by
  refine EX_in mi_X11_judge rfl rfl ?_
  show WP _ cd_X11_judge false _ (0, [(0, .ref 1), (1, .int (nI 3)), (2, .int x)], [], (SH, M, ML))
  have hE10 := hW.2.2.1
  have h1024 := pow_b hE10
  have hcE := cc_le l h E
  refine w_ld rfl rfl ?_
  refine w_ld rfl rfl ?_
  refine w_call (as := [_, _]) (rest := []) rfl rfl rfl rfl rfl rfl rfl rfl (ok_X11_holderAt_3 _ _ _) ?_
  refine w_sto (L' := [(0, _), (1, _), (2, _), (3, _)]) rfl rfl ?_
  refine w_ld rfl rfl ?_
  refine w_nlj rfl rfl ?_
  refine w_ld rfl rfl ?_
  refine w_getr rfl rfl rfl rfl rfl ?_
  refine w_ld rfl rfl ?_
  refine w_cifn (as := [_, _]) (rest := []) rfl rfl rfl rfl rfl rfl rfl rfl (ok_X4_hasArrowing _ _ _ _ hS.2.1 hW.2.2.1) rfl (fun h_15 => ?_) (fun h_15 => ?_)
  · refine w_ld rfl rfl ?_
    refine w_call (as := [_]) (rest := []) rfl rfl rfl rfl rfl rfl rfl rfl (ok_X11_noRow_3 _ _ _) ?_
    refine w_sto (L' := [(0, _), (1, _), (2, _), (3, _), (4, _)]) rfl rfl ?_
    refine w_ld rfl rfl ?_
    refine w_cj rfl rfl (fun h_31 => ?_) (fun h_31 => ?_)
    · exfalso
      rcases hq with q | q
      · rw [q] at h_15
        exact Bool.noConfusion h_15
      · exact q h_31
    · refine w_ld rfl rfl ?_
      refine w_ret rfl rfl (trivial) ?_
      refine ⟨?_, rfl, rfl⟩
      unfold jdV
      rw [h_15]
      show some (Value.int (nrV (M 67 0))) = some (Value.int (if nrV (M 67 0) = 0 then _ else _))
      rw [if_neg h_31]
  · refine w_cst (v := .int (-1)) rfl rfl ?_
    refine w_ret rfl rfl (trivial) ?_
    refine ⟨?_, rfl, rfl⟩
    unfold jdV
    rw [h_15]
    exact rfl

set_option maxHeartbeats 1000000 in
set_option maxRecDepth 10000 in
theorem lp_X11_judge_3 {d : Nat} {M : Mm} {ML : Ml} {N E A : Nat} {l h : Nat → Nat} (hS : NS M 2 3 4 5 6 N E A l h) (hW : WN N E A l h) (hR : RG M E l h) {a n : Nat} (ha : a < 2 ^ E) (h0 : nrV (M 67 0) = 0) (hn : M 67 2 = nI n) (hn20 : n ≤ 20) : ∀ k, k ≤ min n (cc l h E) → (∀ j, j < k → jdP l h E (nI a) n (M 68) j = false) → WP (d + 3) cd_X11_judge false (fun r M2 L2 => r = some (.int (jdR l h E (nI a) n (M 68))) ∧ L2 = ML ∧ M2 = M) (56, [(0, .ref 1), (1, .int (nI 3)), (2, .int (nI a)), (3, .ref 67), (4, .int 0), (5, .int (nI (min n (cc l h E)))), (6, .int (nI k))], [], (SH, M, ML)) := by
  have hE10 := hW.2.2.1
  have h1024 := pow_b hE10
  have hcE := cc_le l h E
  have hmin : min n (cc l h E) ≤ n ∧ min n (cc l h E) ≤ cc l h E := ⟨Nat.min_le_left .., Nat.min_le_right ..⟩
  refine up_ind fun k hk ih => ?_
  intro hj
  refine w_ld rfl rfl ?_
  refine w_ld rfl rfl ?_
  refine w_cj rfl rfl (fun h_60 => ?_) (fun h_60 => ?_)
  · refine w_ld rfl rfl ?_
    refine w_getv rfl rfl rfl rfl rfl (hn) ?_
    refine w_ld rfl rfl ?_
    refine w_getr rfl rfl rfl rfl rfl ?_
    refine w_getv rfl rfl rfl rfl rfl (hR.1) ?_
    refine w_cj rfl rfl (fun h_105 => ?_) (fun h_105 => ?_)
    · refine w_ld rfl rfl ?_
      refine w_ret rfl rfl (trivial) ?_
      have h9 : k = min n (cc l h E) := by have := nle (by omega) (by omega) h_60; omega
      refine ⟨?_, rfl, rfl⟩
      first
        | exact (fun (he : n = cc l h E) => by
            rw [jdR_end (fun j hjc => hj j (by omega)), if_neg (by omega)]) (neq (by omega) (by omega) (Classical.not_not.mp h_105))
        | exact (fun (he : ¬ n = cc l h E) => by
            rcases Nat.lt_or_ge n (cc l h E) with w | w
            · rw [jdR_at (k := n) w (by unfold jdP; rw [decide_eq_true (Nat.le_refl n), Bool.true_or]) (fun j hjc => hj j (by omega))]
              exact congrArg (fun q => some (Value.int (nI q))) (by omega)
            · rw [jdR_end (fun j hjc => hj j (by omega)), if_pos (by omega)]
              exact congrArg (fun q => some (Value.int (nI q))) (by omega)) (fun w => h_105 (congrArg nI w))
    · refine w_cst (v := .int (-2)) rfl rfl ?_
      refine w_go rfl ?_
      refine w_ret rfl rfl (trivial) ?_
      have h9 : k = min n (cc l h E) := by have := nle (by omega) (by omega) h_60; omega
      refine ⟨?_, rfl, rfl⟩
      first
        | exact (fun (he : n = cc l h E) => by
            rw [jdR_end (fun j hjc => hj j (by omega)), if_neg (by omega)]) (neq (by omega) (by omega) (Classical.not_not.mp h_105))
        | exact (fun (he : ¬ n = cc l h E) => by
            rcases Nat.lt_or_ge n (cc l h E) with w | w
            · rw [jdR_at (k := n) w (by unfold jdP; rw [decide_eq_true (Nat.le_refl n), Bool.true_or]) (fun j hjc => hj j (by omega))]
              exact congrArg (fun q => some (Value.int (nI q))) (by omega)
            · rw [jdR_end (fun j hjc => hj j (by omega)), if_pos (by omega)]
              exact congrArg (fun q => some (Value.int (nI q))) (by omega)) (fun w => h_105 (congrArg nI w))
  · have hlt : k < min n (cc l h E) := nnle (by omega) (by omega) h_60
    obtain ⟨c, hc, hch, hck⟩ := cc_kth (l := l) (h := h) (k := k) (E := E) (by omega)
    have hround := EX_ex (ok_X6_round (d := d) (ML := ML) hE10 hR hc hch ha)
    rw [hck] at hround
    have hkt : kth l h E k = c := by rw [← hck]; exact kth_of hc hch
    refine w_ld rfl rfl ?_
    refine w_getr rfl rfl rfl rfl rfl ?_
    refine w_ld rfl rfl ?_
    refine w_call (as := [_, _]) (rest := []) rfl rfl rfl rfl rfl rfl rfl rfl (ok_at_v _ _ _ rfl rfl rfl (rfl) (by omega) (rfl)) ?_
    refine w_ld rfl rfl ?_
    refine w_getr rfl rfl rfl rfl rfl ?_
    refine w_ld rfl rfl ?_
    refine w_ld rfl rfl ?_
    refine w_call (as := [_, _, _]) (rest := [_]) rfl rfl rfl rfl rfl rfl rfl rfl hround ?_
    refine w_cj rfl rfl (fun h_82 => ?_) (fun h_82 => ?_)
    · refine w_inc (y := _ + 1) rfl rfl rfl ?_
      refine w_norm (L' := [(0, _), (1, _), (2, _), (3, _), (4, _), (5, _), (6, _)]) rfl ?_
      refine w_go rfl ?_
      rw [nI_1]
      refine ih hlt (fun j hjk => ?_)
      rcases Nat.lt_or_ge j k with w | w
      · exact hj j w
      · have : j = k := by omega
        subst this
        unfold jdP
        rw [hkt, decide_eq_true h_82, decide_eq_false (by omega)]
        rfl
    · refine w_ld rfl rfl ?_
      refine w_ret rfl rfl (trivial) ?_
      refine ⟨?_, rfl, rfl⟩
      rw [jdR_at (by omega) ?_ hj]
      unfold jdP
      rw [hkt, decide_eq_false h_82]
      simp

set_option maxHeartbeats 1000000 in
set_option maxRecDepth 10000 in
theorem ok_X11_judge_y3 {d : Nat} {M : Mm} {ML : Ml} {N E A : Nat} {l h : Nat → Nat} (hS : NS M 2 3 4 5 6 N E A l h) (hW : WN N E A l h) (hR : RG M E l h) {a n : Nat} (ha : a < 2 ^ E) (h0 : nrV (M 67 0) = 0) (hn : M 67 2 = nI n) (hn20 : n ≤ 20) : EX (d + 4) k_X11_judge [.ref 1, .int (nI 3), .int (nI a)] M ML (fun r M2 L2 => r = some (.int (jdR l h E (nI a) n (M 68))) ∧ L2 = ML ∧ M2 = M) := by
  refine EX_in mi_X11_judge rfl rfl ?_
  show WP _ cd_X11_judge false _ (0, [(0, .ref 1), (1, .int (nI 3)), (2, .int (nI a))], [], (SH, M, ML))
  have hE10 := hW.2.2.1
  have h1024 := pow_b hE10
  have hcE := cc_le l h E
  refine w_ld rfl rfl ?_
  refine w_ld rfl rfl ?_
  refine w_call (as := [_, _]) (rest := []) rfl rfl rfl rfl rfl rfl rfl rfl (ok_X11_holderAt_3 _ _ _) ?_
  refine w_sto (L' := [(0, _), (1, _), (2, _), (3, _)]) rfl rfl ?_
  refine w_ld rfl rfl ?_
  refine w_nlj rfl rfl ?_
  refine w_ld rfl rfl ?_
  refine w_getr rfl rfl rfl rfl rfl ?_
  refine w_ld rfl rfl ?_
  refine w_cifn (as := [_, _]) (rest := []) rfl rfl rfl rfl rfl rfl rfl rfl (ok_X4_hasArrowing _ _ _ _ hS.2.1 hW.2.2.1) rfl (fun h_15 => ?_) (fun h_15 => ?_)
  · refine w_ld rfl rfl ?_
    refine w_call (as := [_]) (rest := []) rfl rfl rfl rfl rfl rfl rfl rfl (ok_X11_noRow_3 _ _ _) ?_
    rw [h0]
    refine w_sto (L' := [(0, _), (1, _), (2, _), (3, _), (4, _)]) rfl rfl ?_
    refine w_ld rfl rfl ?_
    refine w_cjT rfl rfl (rfl) ?_
    refine w_ld rfl rfl ?_
    refine w_getv rfl rfl rfl rfl rfl (hn) ?_
    refine w_ld rfl rfl ?_
    refine w_getr rfl rfl rfl rfl rfl ?_
    refine w_getv rfl rfl rfl rfl rfl (hR.1) ?_
    refine w_mm rfl rfl (Nat.le_of_ble_eq_true rfl) ?_
    rw [minI (by omega) (by omega)]
    refine w_sto (L' := [(0, _), (1, _), (2, _), (3, _), (4, _), (5, _)]) rfl rfl ?_
    refine w_cst (v := .int 0) rfl rfl ?_
    refine w_sto (L' := [(0, _), (1, _), (2, _), (3, _), (4, _), (5, _), (6, _)]) rfl rfl ?_
    exact lp_X11_judge_3 hS hW hR ha h0 hn hn20 0 (Nat.zero_le _) (fun j hj => absurd hj (Nat.not_lt_zero j))
  · rw [inR_nI (by omega) ha] at h_15
    exact Bool.noConfusion h_15

set_option maxHeartbeats 1000000 in
set_option maxRecDepth 10000 in
theorem ok_X11_judge_n4 {d : Nat} {M : Mm} {ML : Ml} {N E A : Nat} {l h : Nat → Nat} (hS : NS M 2 3 4 5 6 N E A l h) (hW : WN N E A l h) (hR : RG M E l h) {x : Int32} (hq : inR x (2 ^ E) = false ∨ ¬ nrV (M 69 0) = 0) {n : Nat} {f : Nat → Int32} : EX (d + 4) k_X11_judge [.ref 1, .int (nI 4), .int x] M ML (fun r M2 L2 => r = some (.int (jdV l h E x (M 69 0) n f)) ∧ L2 = ML ∧ M2 = M) := by
  refine EX_in mi_X11_judge rfl rfl ?_
  show WP _ cd_X11_judge false _ (0, [(0, .ref 1), (1, .int (nI 4)), (2, .int x)], [], (SH, M, ML))
  have hE10 := hW.2.2.1
  have h1024 := pow_b hE10
  have hcE := cc_le l h E
  refine w_ld rfl rfl ?_
  refine w_ld rfl rfl ?_
  refine w_call (as := [_, _]) (rest := []) rfl rfl rfl rfl rfl rfl rfl rfl (ok_X11_holderAt_4 _ _ _) ?_
  refine w_sto (L' := [(0, _), (1, _), (2, _), (3, _)]) rfl rfl ?_
  refine w_ld rfl rfl ?_
  refine w_nlj rfl rfl ?_
  refine w_ld rfl rfl ?_
  refine w_getr rfl rfl rfl rfl rfl ?_
  refine w_ld rfl rfl ?_
  refine w_cifn (as := [_, _]) (rest := []) rfl rfl rfl rfl rfl rfl rfl rfl (ok_X4_hasArrowing _ _ _ _ hS.2.1 hW.2.2.1) rfl (fun h_15 => ?_) (fun h_15 => ?_)
  · refine w_ld rfl rfl ?_
    refine w_call (as := [_]) (rest := []) rfl rfl rfl rfl rfl rfl rfl rfl (ok_X11_noRow_4 _ _ _) ?_
    refine w_sto (L' := [(0, _), (1, _), (2, _), (3, _), (4, _)]) rfl rfl ?_
    refine w_ld rfl rfl ?_
    refine w_cj rfl rfl (fun h_31 => ?_) (fun h_31 => ?_)
    · exfalso
      rcases hq with q | q
      · rw [q] at h_15
        exact Bool.noConfusion h_15
      · exact q h_31
    · refine w_ld rfl rfl ?_
      refine w_ret rfl rfl (trivial) ?_
      refine ⟨?_, rfl, rfl⟩
      unfold jdV
      rw [h_15]
      show some (Value.int (nrV (M 69 0))) = some (Value.int (if nrV (M 69 0) = 0 then _ else _))
      rw [if_neg h_31]
  · refine w_cst (v := .int (-1)) rfl rfl ?_
    refine w_ret rfl rfl (trivial) ?_
    refine ⟨?_, rfl, rfl⟩
    unfold jdV
    rw [h_15]
    exact rfl

set_option maxHeartbeats 1000000 in
set_option maxRecDepth 10000 in
theorem lp_X11_judge_4 {d : Nat} {M : Mm} {ML : Ml} {N E A : Nat} {l h : Nat → Nat} (hS : NS M 2 3 4 5 6 N E A l h) (hW : WN N E A l h) (hR : RG M E l h) {a n : Nat} (ha : a < 2 ^ E) (h0 : nrV (M 69 0) = 0) (hn : M 69 2 = nI n) (hn20 : n ≤ 20) : ∀ k, k ≤ min n (cc l h E) → (∀ j, j < k → jdP l h E (nI a) n (M 70) j = false) → WP (d + 3) cd_X11_judge false (fun r M2 L2 => r = some (.int (jdR l h E (nI a) n (M 70))) ∧ L2 = ML ∧ M2 = M) (56, [(0, .ref 1), (1, .int (nI 4)), (2, .int (nI a)), (3, .ref 69), (4, .int 0), (5, .int (nI (min n (cc l h E)))), (6, .int (nI k))], [], (SH, M, ML)) := by
  have hE10 := hW.2.2.1
  have h1024 := pow_b hE10
  have hcE := cc_le l h E
  have hmin : min n (cc l h E) ≤ n ∧ min n (cc l h E) ≤ cc l h E := ⟨Nat.min_le_left .., Nat.min_le_right ..⟩
  refine up_ind fun k hk ih => ?_
  intro hj
  refine w_ld rfl rfl ?_
  refine w_ld rfl rfl ?_
  refine w_cj rfl rfl (fun h_60 => ?_) (fun h_60 => ?_)
  · refine w_ld rfl rfl ?_
    refine w_getv rfl rfl rfl rfl rfl (hn) ?_
    refine w_ld rfl rfl ?_
    refine w_getr rfl rfl rfl rfl rfl ?_
    refine w_getv rfl rfl rfl rfl rfl (hR.1) ?_
    refine w_cj rfl rfl (fun h_105 => ?_) (fun h_105 => ?_)
    · refine w_ld rfl rfl ?_
      refine w_ret rfl rfl (trivial) ?_
      have h9 : k = min n (cc l h E) := by have := nle (by omega) (by omega) h_60; omega
      refine ⟨?_, rfl, rfl⟩
      first
        | exact (fun (he : n = cc l h E) => by
            rw [jdR_end (fun j hjc => hj j (by omega)), if_neg (by omega)]) (neq (by omega) (by omega) (Classical.not_not.mp h_105))
        | exact (fun (he : ¬ n = cc l h E) => by
            rcases Nat.lt_or_ge n (cc l h E) with w | w
            · rw [jdR_at (k := n) w (by unfold jdP; rw [decide_eq_true (Nat.le_refl n), Bool.true_or]) (fun j hjc => hj j (by omega))]
              exact congrArg (fun q => some (Value.int (nI q))) (by omega)
            · rw [jdR_end (fun j hjc => hj j (by omega)), if_pos (by omega)]
              exact congrArg (fun q => some (Value.int (nI q))) (by omega)) (fun w => h_105 (congrArg nI w))
    · refine w_cst (v := .int (-2)) rfl rfl ?_
      refine w_go rfl ?_
      refine w_ret rfl rfl (trivial) ?_
      have h9 : k = min n (cc l h E) := by have := nle (by omega) (by omega) h_60; omega
      refine ⟨?_, rfl, rfl⟩
      first
        | exact (fun (he : n = cc l h E) => by
            rw [jdR_end (fun j hjc => hj j (by omega)), if_neg (by omega)]) (neq (by omega) (by omega) (Classical.not_not.mp h_105))
        | exact (fun (he : ¬ n = cc l h E) => by
            rcases Nat.lt_or_ge n (cc l h E) with w | w
            · rw [jdR_at (k := n) w (by unfold jdP; rw [decide_eq_true (Nat.le_refl n), Bool.true_or]) (fun j hjc => hj j (by omega))]
              exact congrArg (fun q => some (Value.int (nI q))) (by omega)
            · rw [jdR_end (fun j hjc => hj j (by omega)), if_pos (by omega)]
              exact congrArg (fun q => some (Value.int (nI q))) (by omega)) (fun w => h_105 (congrArg nI w))
  · have hlt : k < min n (cc l h E) := nnle (by omega) (by omega) h_60
    obtain ⟨c, hc, hch, hck⟩ := cc_kth (l := l) (h := h) (k := k) (E := E) (by omega)
    have hround := EX_ex (ok_X6_round (d := d) (ML := ML) hE10 hR hc hch ha)
    rw [hck] at hround
    have hkt : kth l h E k = c := by rw [← hck]; exact kth_of hc hch
    refine w_ld rfl rfl ?_
    refine w_getr rfl rfl rfl rfl rfl ?_
    refine w_ld rfl rfl ?_
    refine w_call (as := [_, _]) (rest := []) rfl rfl rfl rfl rfl rfl rfl rfl (ok_at_v _ _ _ rfl rfl rfl (rfl) (by omega) (rfl)) ?_
    refine w_ld rfl rfl ?_
    refine w_getr rfl rfl rfl rfl rfl ?_
    refine w_ld rfl rfl ?_
    refine w_ld rfl rfl ?_
    refine w_call (as := [_, _, _]) (rest := [_]) rfl rfl rfl rfl rfl rfl rfl rfl hround ?_
    refine w_cj rfl rfl (fun h_82 => ?_) (fun h_82 => ?_)
    · refine w_inc (y := _ + 1) rfl rfl rfl ?_
      refine w_norm (L' := [(0, _), (1, _), (2, _), (3, _), (4, _), (5, _), (6, _)]) rfl ?_
      refine w_go rfl ?_
      rw [nI_1]
      refine ih hlt (fun j hjk => ?_)
      rcases Nat.lt_or_ge j k with w | w
      · exact hj j w
      · have : j = k := by omega
        subst this
        unfold jdP
        rw [hkt, decide_eq_true h_82, decide_eq_false (by omega)]
        rfl
    · refine w_ld rfl rfl ?_
      refine w_ret rfl rfl (trivial) ?_
      refine ⟨?_, rfl, rfl⟩
      rw [jdR_at (by omega) ?_ hj]
      unfold jdP
      rw [hkt, decide_eq_false h_82]
      simp

set_option maxHeartbeats 1000000 in
set_option maxRecDepth 10000 in
theorem ok_X11_judge_y4 {d : Nat} {M : Mm} {ML : Ml} {N E A : Nat} {l h : Nat → Nat} (hS : NS M 2 3 4 5 6 N E A l h) (hW : WN N E A l h) (hR : RG M E l h) {a n : Nat} (ha : a < 2 ^ E) (h0 : nrV (M 69 0) = 0) (hn : M 69 2 = nI n) (hn20 : n ≤ 20) : EX (d + 4) k_X11_judge [.ref 1, .int (nI 4), .int (nI a)] M ML (fun r M2 L2 => r = some (.int (jdR l h E (nI a) n (M 70))) ∧ L2 = ML ∧ M2 = M) := by
  refine EX_in mi_X11_judge rfl rfl ?_
  show WP _ cd_X11_judge false _ (0, [(0, .ref 1), (1, .int (nI 4)), (2, .int (nI a))], [], (SH, M, ML))
  have hE10 := hW.2.2.1
  have h1024 := pow_b hE10
  have hcE := cc_le l h E
  refine w_ld rfl rfl ?_
  refine w_ld rfl rfl ?_
  refine w_call (as := [_, _]) (rest := []) rfl rfl rfl rfl rfl rfl rfl rfl (ok_X11_holderAt_4 _ _ _) ?_
  refine w_sto (L' := [(0, _), (1, _), (2, _), (3, _)]) rfl rfl ?_
  refine w_ld rfl rfl ?_
  refine w_nlj rfl rfl ?_
  refine w_ld rfl rfl ?_
  refine w_getr rfl rfl rfl rfl rfl ?_
  refine w_ld rfl rfl ?_
  refine w_cifn (as := [_, _]) (rest := []) rfl rfl rfl rfl rfl rfl rfl rfl (ok_X4_hasArrowing _ _ _ _ hS.2.1 hW.2.2.1) rfl (fun h_15 => ?_) (fun h_15 => ?_)
  · refine w_ld rfl rfl ?_
    refine w_call (as := [_]) (rest := []) rfl rfl rfl rfl rfl rfl rfl rfl (ok_X11_noRow_4 _ _ _) ?_
    rw [h0]
    refine w_sto (L' := [(0, _), (1, _), (2, _), (3, _), (4, _)]) rfl rfl ?_
    refine w_ld rfl rfl ?_
    refine w_cjT rfl rfl (rfl) ?_
    refine w_ld rfl rfl ?_
    refine w_getv rfl rfl rfl rfl rfl (hn) ?_
    refine w_ld rfl rfl ?_
    refine w_getr rfl rfl rfl rfl rfl ?_
    refine w_getv rfl rfl rfl rfl rfl (hR.1) ?_
    refine w_mm rfl rfl (Nat.le_of_ble_eq_true rfl) ?_
    rw [minI (by omega) (by omega)]
    refine w_sto (L' := [(0, _), (1, _), (2, _), (3, _), (4, _), (5, _)]) rfl rfl ?_
    refine w_cst (v := .int 0) rfl rfl ?_
    refine w_sto (L' := [(0, _), (1, _), (2, _), (3, _), (4, _), (5, _), (6, _)]) rfl rfl ?_
    exact lp_X11_judge_4 hS hW hR ha h0 hn hn20 0 (Nat.zero_le _) (fun j hj => absurd hj (Nat.not_lt_zero j))
  · rw [inR_nI (by omega) ha] at h_15
    exact Bool.noConfusion h_15

set_option maxHeartbeats 1000000 in
set_option maxRecDepth 10000 in
theorem ok_X11_judge_n5 {d : Nat} {M : Mm} {ML : Ml} {N E A : Nat} {l h : Nat → Nat} (hS : NS M 2 3 4 5 6 N E A l h) (hW : WN N E A l h) (hR : RG M E l h) {x : Int32} (hq : inR x (2 ^ E) = false ∨ ¬ nrV (M 71 0) = 0) {n : Nat} {f : Nat → Int32} : EX (d + 4) k_X11_judge [.ref 1, .int (nI 5), .int x] M ML (fun r M2 L2 => r = some (.int (jdV l h E x (M 71 0) n f)) ∧ L2 = ML ∧ M2 = M) := by
  refine EX_in mi_X11_judge rfl rfl ?_
  show WP _ cd_X11_judge false _ (0, [(0, .ref 1), (1, .int (nI 5)), (2, .int x)], [], (SH, M, ML))
  have hE10 := hW.2.2.1
  have h1024 := pow_b hE10
  have hcE := cc_le l h E
  refine w_ld rfl rfl ?_
  refine w_ld rfl rfl ?_
  refine w_call (as := [_, _]) (rest := []) rfl rfl rfl rfl rfl rfl rfl rfl (ok_X11_holderAt_5 _ _ _) ?_
  refine w_sto (L' := [(0, _), (1, _), (2, _), (3, _)]) rfl rfl ?_
  refine w_ld rfl rfl ?_
  refine w_nlj rfl rfl ?_
  refine w_ld rfl rfl ?_
  refine w_getr rfl rfl rfl rfl rfl ?_
  refine w_ld rfl rfl ?_
  refine w_cifn (as := [_, _]) (rest := []) rfl rfl rfl rfl rfl rfl rfl rfl (ok_X4_hasArrowing _ _ _ _ hS.2.1 hW.2.2.1) rfl (fun h_15 => ?_) (fun h_15 => ?_)
  · refine w_ld rfl rfl ?_
    refine w_call (as := [_]) (rest := []) rfl rfl rfl rfl rfl rfl rfl rfl (ok_X11_noRow_5 _ _ _) ?_
    refine w_sto (L' := [(0, _), (1, _), (2, _), (3, _), (4, _)]) rfl rfl ?_
    refine w_ld rfl rfl ?_
    refine w_cj rfl rfl (fun h_31 => ?_) (fun h_31 => ?_)
    · exfalso
      rcases hq with q | q
      · rw [q] at h_15
        exact Bool.noConfusion h_15
      · exact q h_31
    · refine w_ld rfl rfl ?_
      refine w_ret rfl rfl (trivial) ?_
      refine ⟨?_, rfl, rfl⟩
      unfold jdV
      rw [h_15]
      show some (Value.int (nrV (M 71 0))) = some (Value.int (if nrV (M 71 0) = 0 then _ else _))
      rw [if_neg h_31]
  · refine w_cst (v := .int (-1)) rfl rfl ?_
    refine w_ret rfl rfl (trivial) ?_
    refine ⟨?_, rfl, rfl⟩
    unfold jdV
    rw [h_15]
    exact rfl

set_option maxHeartbeats 1000000 in
set_option maxRecDepth 10000 in
theorem lp_X11_judge_5 {d : Nat} {M : Mm} {ML : Ml} {N E A : Nat} {l h : Nat → Nat} (hS : NS M 2 3 4 5 6 N E A l h) (hW : WN N E A l h) (hR : RG M E l h) {a n : Nat} (ha : a < 2 ^ E) (h0 : nrV (M 71 0) = 0) (hn : M 71 2 = nI n) (hn20 : n ≤ 20) : ∀ k, k ≤ min n (cc l h E) → (∀ j, j < k → jdP l h E (nI a) n (M 72) j = false) → WP (d + 3) cd_X11_judge false (fun r M2 L2 => r = some (.int (jdR l h E (nI a) n (M 72))) ∧ L2 = ML ∧ M2 = M) (56, [(0, .ref 1), (1, .int (nI 5)), (2, .int (nI a)), (3, .ref 71), (4, .int 0), (5, .int (nI (min n (cc l h E)))), (6, .int (nI k))], [], (SH, M, ML)) := by
  have hE10 := hW.2.2.1
  have h1024 := pow_b hE10
  have hcE := cc_le l h E
  have hmin : min n (cc l h E) ≤ n ∧ min n (cc l h E) ≤ cc l h E := ⟨Nat.min_le_left .., Nat.min_le_right ..⟩
  refine up_ind fun k hk ih => ?_
  intro hj
  refine w_ld rfl rfl ?_
  refine w_ld rfl rfl ?_
  refine w_cj rfl rfl (fun h_60 => ?_) (fun h_60 => ?_)
  · refine w_ld rfl rfl ?_
    refine w_getv rfl rfl rfl rfl rfl (hn) ?_
    refine w_ld rfl rfl ?_
    refine w_getr rfl rfl rfl rfl rfl ?_
    refine w_getv rfl rfl rfl rfl rfl (hR.1) ?_
    refine w_cj rfl rfl (fun h_105 => ?_) (fun h_105 => ?_)
    · refine w_ld rfl rfl ?_
      refine w_ret rfl rfl (trivial) ?_
      have h9 : k = min n (cc l h E) := by have := nle (by omega) (by omega) h_60; omega
      refine ⟨?_, rfl, rfl⟩
      first
        | exact (fun (he : n = cc l h E) => by
            rw [jdR_end (fun j hjc => hj j (by omega)), if_neg (by omega)]) (neq (by omega) (by omega) (Classical.not_not.mp h_105))
        | exact (fun (he : ¬ n = cc l h E) => by
            rcases Nat.lt_or_ge n (cc l h E) with w | w
            · rw [jdR_at (k := n) w (by unfold jdP; rw [decide_eq_true (Nat.le_refl n), Bool.true_or]) (fun j hjc => hj j (by omega))]
              exact congrArg (fun q => some (Value.int (nI q))) (by omega)
            · rw [jdR_end (fun j hjc => hj j (by omega)), if_pos (by omega)]
              exact congrArg (fun q => some (Value.int (nI q))) (by omega)) (fun w => h_105 (congrArg nI w))
    · refine w_cst (v := .int (-2)) rfl rfl ?_
      refine w_go rfl ?_
      refine w_ret rfl rfl (trivial) ?_
      have h9 : k = min n (cc l h E) := by have := nle (by omega) (by omega) h_60; omega
      refine ⟨?_, rfl, rfl⟩
      first
        | exact (fun (he : n = cc l h E) => by
            rw [jdR_end (fun j hjc => hj j (by omega)), if_neg (by omega)]) (neq (by omega) (by omega) (Classical.not_not.mp h_105))
        | exact (fun (he : ¬ n = cc l h E) => by
            rcases Nat.lt_or_ge n (cc l h E) with w | w
            · rw [jdR_at (k := n) w (by unfold jdP; rw [decide_eq_true (Nat.le_refl n), Bool.true_or]) (fun j hjc => hj j (by omega))]
              exact congrArg (fun q => some (Value.int (nI q))) (by omega)
            · rw [jdR_end (fun j hjc => hj j (by omega)), if_pos (by omega)]
              exact congrArg (fun q => some (Value.int (nI q))) (by omega)) (fun w => h_105 (congrArg nI w))
  · have hlt : k < min n (cc l h E) := nnle (by omega) (by omega) h_60
    obtain ⟨c, hc, hch, hck⟩ := cc_kth (l := l) (h := h) (k := k) (E := E) (by omega)
    have hround := EX_ex (ok_X6_round (d := d) (ML := ML) hE10 hR hc hch ha)
    rw [hck] at hround
    have hkt : kth l h E k = c := by rw [← hck]; exact kth_of hc hch
    refine w_ld rfl rfl ?_
    refine w_getr rfl rfl rfl rfl rfl ?_
    refine w_ld rfl rfl ?_
    refine w_call (as := [_, _]) (rest := []) rfl rfl rfl rfl rfl rfl rfl rfl (ok_at_v _ _ _ rfl rfl rfl (rfl) (by omega) (rfl)) ?_
    refine w_ld rfl rfl ?_
    refine w_getr rfl rfl rfl rfl rfl ?_
    refine w_ld rfl rfl ?_
    refine w_ld rfl rfl ?_
    refine w_call (as := [_, _, _]) (rest := [_]) rfl rfl rfl rfl rfl rfl rfl rfl hround ?_
    refine w_cj rfl rfl (fun h_82 => ?_) (fun h_82 => ?_)
    · refine w_inc (y := _ + 1) rfl rfl rfl ?_
      refine w_norm (L' := [(0, _), (1, _), (2, _), (3, _), (4, _), (5, _), (6, _)]) rfl ?_
      refine w_go rfl ?_
      rw [nI_1]
      refine ih hlt (fun j hjk => ?_)
      rcases Nat.lt_or_ge j k with w | w
      · exact hj j w
      · have : j = k := by omega
        subst this
        unfold jdP
        rw [hkt, decide_eq_true h_82, decide_eq_false (by omega)]
        rfl
    · refine w_ld rfl rfl ?_
      refine w_ret rfl rfl (trivial) ?_
      refine ⟨?_, rfl, rfl⟩
      rw [jdR_at (by omega) ?_ hj]
      unfold jdP
      rw [hkt, decide_eq_false h_82]
      simp

set_option maxHeartbeats 1000000 in
set_option maxRecDepth 10000 in
theorem ok_X11_judge_y5 {d : Nat} {M : Mm} {ML : Ml} {N E A : Nat} {l h : Nat → Nat} (hS : NS M 2 3 4 5 6 N E A l h) (hW : WN N E A l h) (hR : RG M E l h) {a n : Nat} (ha : a < 2 ^ E) (h0 : nrV (M 71 0) = 0) (hn : M 71 2 = nI n) (hn20 : n ≤ 20) : EX (d + 4) k_X11_judge [.ref 1, .int (nI 5), .int (nI a)] M ML (fun r M2 L2 => r = some (.int (jdR l h E (nI a) n (M 72))) ∧ L2 = ML ∧ M2 = M) := by
  refine EX_in mi_X11_judge rfl rfl ?_
  show WP _ cd_X11_judge false _ (0, [(0, .ref 1), (1, .int (nI 5)), (2, .int (nI a))], [], (SH, M, ML))
  have hE10 := hW.2.2.1
  have h1024 := pow_b hE10
  have hcE := cc_le l h E
  refine w_ld rfl rfl ?_
  refine w_ld rfl rfl ?_
  refine w_call (as := [_, _]) (rest := []) rfl rfl rfl rfl rfl rfl rfl rfl (ok_X11_holderAt_5 _ _ _) ?_
  refine w_sto (L' := [(0, _), (1, _), (2, _), (3, _)]) rfl rfl ?_
  refine w_ld rfl rfl ?_
  refine w_nlj rfl rfl ?_
  refine w_ld rfl rfl ?_
  refine w_getr rfl rfl rfl rfl rfl ?_
  refine w_ld rfl rfl ?_
  refine w_cifn (as := [_, _]) (rest := []) rfl rfl rfl rfl rfl rfl rfl rfl (ok_X4_hasArrowing _ _ _ _ hS.2.1 hW.2.2.1) rfl (fun h_15 => ?_) (fun h_15 => ?_)
  · refine w_ld rfl rfl ?_
    refine w_call (as := [_]) (rest := []) rfl rfl rfl rfl rfl rfl rfl rfl (ok_X11_noRow_5 _ _ _) ?_
    rw [h0]
    refine w_sto (L' := [(0, _), (1, _), (2, _), (3, _), (4, _)]) rfl rfl ?_
    refine w_ld rfl rfl ?_
    refine w_cjT rfl rfl (rfl) ?_
    refine w_ld rfl rfl ?_
    refine w_getv rfl rfl rfl rfl rfl (hn) ?_
    refine w_ld rfl rfl ?_
    refine w_getr rfl rfl rfl rfl rfl ?_
    refine w_getv rfl rfl rfl rfl rfl (hR.1) ?_
    refine w_mm rfl rfl (Nat.le_of_ble_eq_true rfl) ?_
    rw [minI (by omega) (by omega)]
    refine w_sto (L' := [(0, _), (1, _), (2, _), (3, _), (4, _), (5, _)]) rfl rfl ?_
    refine w_cst (v := .int 0) rfl rfl ?_
    refine w_sto (L' := [(0, _), (1, _), (2, _), (3, _), (4, _), (5, _), (6, _)]) rfl rfl ?_
    exact lp_X11_judge_5 hS hW hR ha h0 hn hn20 0 (Nat.zero_le _) (fun j hj => absurd hj (Nat.not_lt_zero j))
  · rw [inR_nI (by omega) ha] at h_15
    exact Bool.noConfusion h_15

set_option maxHeartbeats 1000000 in
set_option maxRecDepth 10000 in
theorem ok_X11_judge_n {d : Nat} {M : Mm} {ML : Ml} {x y : Int32} (hx : ¬ (0 ≤ x ∧ x < 6)) : EX (d + 4) k_X11_judge [.ref 1, .int x, .int y] M ML (fun r M2 L2 => r = some (.int (-1)) ∧ L2 = ML ∧ M2 = M) := by
  refine EX_in mi_X11_judge rfl rfl ?_
  show WP _ cd_X11_judge false _ (0, [(0, .ref 1), (1, .int x), (2, .int y)], [], (SH, M, ML))
  refine w_ld rfl rfl ?_
  refine w_ld rfl rfl ?_
  refine w_call (as := [_, _]) (rest := []) rfl rfl rfl rfl rfl rfl rfl rfl (ok_X11_holderAt_n _ _ _ hx) ?_
  refine w_sto (L' := [(0, _), (1, _), (2, _), (3, _)]) rfl rfl ?_
  refine w_ld rfl rfl ?_
  refine w_nlj rfl rfl ?_
  refine w_cst (v := .int (-1)) rfl rfl ?_
  refine w_ret rfl rfl (trivial) ?_
  exact ⟨rfl, rfl, rfl⟩

