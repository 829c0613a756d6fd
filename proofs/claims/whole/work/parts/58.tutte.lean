/-! ===== the Tutte value ===== -/
def pL (z : Int64) : Nat → Int64
  | 0 => 1
  | n + 1 => pL z n * z
def smL (f : Nat → Int64) : Nat → Int64
  | 0 => 0
  | n + 1 => smL f n + f n
theorem smL_cong {f g : Nat → Int64} : ∀ {n : Nat}, (∀ k, k < n → f k = g k) → smL f n = smL g n
  | 0, _ => rfl
  | n + 1, q => by rw [smL, smL, smL_cong (fun k hk => q k (by omega)), q n (by omega)]
theorem smL_upd (f : Nat → Int64) (x : Int64) {c : Nat} : ∀ {n : Nat}, c < n → smL (fun k => if k = c then f k + x else f k) n = smL f n + x
  | 0, q => absurd q (Nat.not_lt_zero c)
  | n + 1, q => by
    rw [smL, smL]
    rcases Nat.lt_or_ge c n with w | w
    · rw [smL_upd f x w, if_neg (by omega), Int64.add_assoc, Int64.add_assoc, Int64.add_comm x]
    · have : c = n := by omega
      subst this
      rw [if_pos rfl, smL_cong (g := f) (fun k hk => if_neg (by omega)), Int64.add_assoc]
/-- what one cell counts for -/
def ceG (X Y : Int64) (c : Nat) : Int64 := pL X (c / 11) * pL Y (c % 11)
/-- the value out of the counts -/
def tuV (l h : Nat → Nat) (E : Nat) (X Y : Int64) (n : Nat) : Int64 := smL (fun c => ceG X Y c * lN (tlc l h E n c)) 77
theorem tuV_sum {N E A : Nat} {l h : Nat → Nat} (hW : WN N E A l h) (X Y : Int64) : ∀ n, n ≤ 2 ^ E → smL (fun s => pL X (rkS l h E (2 ^ E - 1) - rkS l h E s) * pL Y (popc s - rkS l h E s)) n = tuV l h E X Y n
  | 0, _ => by
    have h1 : ∀ m, smL (fun c => ceG X Y c * lN (tlc l h E 0 c)) m = 0 := fun m => by
      induction m with
      | zero => rfl
      | succ m ih =>
        rw [smL, ih]
        show 0 + ceG X Y m * 0 = 0
        rw [Int64.mul_zero, Int64.zero_add]
    exact (h1 77).symm
  | n + 1, q => by
    rw [smL, tuV_sum hW X Y n (by omega)]
    have hcl := cel_lt hW (show n < 2 ^ E by omega)
    obtain ⟨r1, r2, r3, r4⟩ := rk_facts hW (show n < 2 ^ E by omega)
    have h1 := smL_upd (fun c => ceG X Y c * lN (tlc l h E n c)) (ceG X Y (cel l h E n)) hcl
    have h2 : ceG X Y (cel l h E n) = pL X (rkS l h E (2 ^ E - 1) - rkS l h E n) * pL Y (popc n - rkS l h E n) := by
      unfold ceG
      have a1 : cel l h E n / 11 = rkS l h E (2 ^ E - 1) - rkS l h E n := by unfold cel; omega
      have a2 : cel l h E n % 11 = popc n - rkS l h E n := by unfold cel; omega
      rw [a1, a2]
    rw [← h2]
    unfold tuV
    rw [← h1]
    refine smL_cong fun c _ => ?_
    show (if c = cel l h E n then ceG X Y c * lN (tlc l h E n c) + ceG X Y (cel l h E n) else ceG X Y c * lN (tlc l h E n c)) = ceG X Y c * lN (tlc l h E (n + 1) c)
    unfold tlc
    rw [fb_ct_succ]
    by_cases w : c = cel l h E n
    · rw [if_pos w, if_pos (decide_eq_true w.symm), ← w, ← lN_add, Int64.mul_add, show lN 1 = 1 from rfl, Int64.mul_one]
    · rw [if_neg w, if_neg (fun y => w (of_decide_eq_true y).symm)]
      rfl
/-- the answer told of a value -/
def tuT (V : Int64) : Int32 := if lg_cmp V (Int64.ofInt 2147483647) ≤ 0 then V.toInt32 else -6
def tutteA (l h : Nat → Nat) (E : Nat) (x y : Int32) : Int32 := bif wh x 9 && wh y 9 then tuT (tuV l h E (x - 1).toInt64 (y - 1).toInt64 (2 ^ E)) else -1
theorem tlc_lt (l h : Nat → Nat) {E : Nat} (hE : E ≤ 10) (c : Nat) : tlc l h E (2 ^ E) c < 2 ^ 31 := by
  have h1 := fb_ct_le (fun s => decide (cel l h E s = c)) (2 ^ E)
  have h2 := pow_b hE
  unfold tlc
  omega

set_option maxHeartbeats 1000000 in
set_option maxRecDepth 10000 in
theorem lp_X5_value_22 {d : Nat} {M : Mm} {ML : Ml} {E : Nat} {l h : Nat → Nat} (hE : E ≤ 10) (hR : RKS M E l h) {x y : Int32} {i : Nat} (hi : i < 7) (hk : WP (d + 1) cd_X5_value false (fun r M2 L2 => r = some (.long (tuV l h E (x - 1).toInt64 (y - 1).toInt64 (2 ^ E))) ∧ L2 = ML ∧ M2 = M) (8, [(0, .ref 31), (1, .int x), (2, .int y), (3, .long (smL (fun c => ceG (x - 1).toInt64 (y - 1).toInt64 c * lN (tlc l h E (2 ^ E) c)) (11 * (i + 1)))), (5, .long (pL (x - 1).toInt64 (i + 1))), (7, .int (nI (i + 1)))], [], (SH, M, ML))) : ∀ k, k ≤ 11 → WP (d + 1) cd_X5_value false (fun r M2 L2 => r = some (.long (tuV l h E (x - 1).toInt64 (y - 1).toInt64 (2 ^ E))) ∧ L2 = ML ∧ M2 = M) (22, [(0, .ref 31), (1, .int x), (2, .int y), (3, .long (smL (fun c => ceG (x - 1).toInt64 (y - 1).toInt64 c * lN (tlc l h E (2 ^ E) c)) (11 * i + k))), (5, .long (pL (x - 1).toInt64 i)), (7, .int (nI i)), (8, .long (pL (x - 1).toInt64 i * pL (y - 1).toInt64 k)), (10, .int (nI k))], [], (SH, M, ML)) := by
  refine up_ind fun k hk9 ih => ?_
  refine w_ld rfl rfl ?_
  refine w_cst (v := .int 11) rfl rfl ?_
  refine w_cj rfl rfl (fun h_26 => ?_) (fun h_26 => ?_)
  · have h9 : k = 11 := by have := nle (a := 11) (by decide) (by omega) h_26; omega
    subst h9
    refine w_ld rfl rfl ?_
    refine w_ld rfl rfl ?_
    refine w_cst (v := .int 1) rfl rfl ?_
    refine w_bin rfl rfl ?_
    refine w_una rfl rfl ?_
    refine w_bin rfl rfl ?_
    refine w_sto (L' := [(0, _), (1, _), (2, _), (3, _), (5, _), (7, _), (8, _), (10, _)]) rfl rfl ?_
    refine w_inc (y := _ + 1) rfl rfl rfl ?_
    refine w_norm (L' := [(0, _), (1, _), (2, _), (3, _), (5, _), (7, _), (8, _), (10, _)]) rfl ?_
    refine w_go rfl ?_
    refine w_keep [0, 1, 2, 3, 5, 7] (L' := [(0, _), (1, _), (2, _), (3, _), (5, _), (7, _)]) rfl ?_
    rw [nI_1]
    exact hk
  · have hlt : k < 11 := nnle (a := 11) (by decide) (by omega) h_26
    have htl := tlc_lt l h hE (11 * i + k)
    refine w_ld rfl rfl ?_
    refine w_ld rfl rfl ?_
    refine w_ld rfl rfl ?_
    refine w_getr rfl rfl rfl rfl rfl ?_
    refine w_ld rfl rfl ?_
    refine w_cst (v := .int 11) rfl rfl ?_
    refine w_bin rfl rfl ?_
    refine w_ld rfl rfl ?_
    skip
    refine w_bin rfl rfl ?_
    refine w_call (as := [_, _]) (rest := [_, _]) rfl rfl rfl rfl rfl rfl rfl rfl (ok_at_v _ _ _ rfl rfl rfl (by rw [show (11 : Int32) = nI 11 from rfl, pk_mul, nI_add, Nat.mul_comm i 11]) (by omega) (hR _ (by omega))) ?_
    refine w_una rfl rfl ?_
    rw [nI_l htl]
    refine w_bin rfl rfl ?_
    refine w_bin rfl rfl ?_
    have e : smL (fun c => ceG (x - 1).toInt64 (y - 1).toInt64 c * lN (tlc l h E (2 ^ E) c)) (11 * i + k) + pL (x - 1).toInt64 i * pL (y - 1).toInt64 k * lN (tlc l h E (2 ^ E) (11 * i + k)) = smL (fun c => ceG (x - 1).toInt64 (y - 1).toInt64 c * lN (tlc l h E (2 ^ E) c)) (11 * i + (k + 1)) := by
      show _ = smL (fun c => ceG (x - 1).toInt64 (y - 1).toInt64 c * lN (tlc l h E (2 ^ E) c)) (11 * i + k) + ceG (x - 1).toInt64 (y - 1).toInt64 (11 * i + k) * lN (tlc l h E (2 ^ E) (11 * i + k))
      unfold ceG
      rw [show (11 * i + k) / 11 = i by omega, show (11 * i + k) % 11 = k by omega]
    rw [e]
    refine w_sto (L' := [(0, _), (1, _), (2, _), (3, _), (5, _), (7, _), (8, _), (10, _)]) rfl rfl ?_
    refine w_ld rfl rfl ?_
    refine w_ld rfl rfl ?_
    refine w_cst (v := .int 1) rfl rfl ?_
    refine w_bin rfl rfl ?_
    refine w_una rfl rfl ?_
    refine w_bin rfl rfl ?_
    have e2 : pL (x - 1).toInt64 i * pL (y - 1).toInt64 k * (y - 1).toInt64 = pL (x - 1).toInt64 i * pL (y - 1).toInt64 (k + 1) := Int64.mul_assoc ..
    rw [e2]
    refine w_sto (L' := [(0, _), (1, _), (2, _), (3, _), (5, _), (7, _), (8, _), (10, _)]) rfl rfl ?_
    refine w_inc (y := _ + 1) rfl rfl rfl ?_
    refine w_norm (L' := [(0, _), (1, _), (2, _), (3, _), (5, _), (7, _), (8, _), (10, _)]) rfl ?_
    refine w_go rfl ?_
    rw [nI_1]
    exact ih hlt

set_option maxHeartbeats 1000000 in
set_option maxRecDepth 10000 in
theorem lp_X5_value_8 {d : Nat} {M : Mm} {ML : Ml} {E : Nat} {l h : Nat → Nat} (hE : E ≤ 10) (hR : RKS M E l h) {x y : Int32} : ∀ i, i ≤ 7 → WP (d + 1) cd_X5_value false (fun r M2 L2 => r = some (.long (tuV l h E (x - 1).toInt64 (y - 1).toInt64 (2 ^ E))) ∧ L2 = ML ∧ M2 = M) (8, [(0, .ref 31), (1, .int x), (2, .int y), (3, .long (smL (fun c => ceG (x - 1).toInt64 (y - 1).toInt64 c * lN (tlc l h E (2 ^ E) c)) (11 * i))), (5, .long (pL (x - 1).toInt64 i)), (7, .int (nI i))], [], (SH, M, ML)) := by
  refine up_ind fun i hi ih => ?_
  refine w_ld rfl rfl ?_
  refine w_cst (v := .int 7) rfl rfl ?_
  refine w_cj rfl rfl (fun h_12 => ?_) (fun h_12 => ?_)
  · have h9 : i = 7 := by have := nle (a := 7) (by decide) (by omega) h_12; omega
    subst h9
    refine w_ld rfl rfl ?_
    refine w_ret rfl rfl (trivial) ?_
    exact ⟨rfl, rfl, rfl⟩
  · have hlt : i < 7 := nnle (a := 7) (by decide) (by omega) h_12
    refine w_ld rfl rfl ?_
    refine w_sto (L' := [(0, _), (1, _), (2, _), (3, _), (5, _), (7, _), (8, _)]) rfl rfl ?_
    refine w_cst (v := .int 0) rfl rfl ?_
    refine w_sto (L' := [(0, _), (1, _), (2, _), (3, _), (5, _), (7, _), (8, _), (10, _)]) rfl rfl ?_
    have hp := lp_X5_value_22 (d := d) (ML := ML) hE hR (x := x) (y := y) hlt (ih hlt) 0 (Nat.zero_le _)
    rw [show pL (y - 1).toInt64 0 = 1 from rfl, Int64.mul_one] at hp
    exact hp

set_option maxHeartbeats 1000000 in
set_option maxRecDepth 10000 in
theorem ok_X5_value {d : Nat} {M : Mm} {ML : Ml} {E : Nat} {l h : Nat → Nat} (hE : E ≤ 10) (hR : RKS M E l h) {x y : Int32} : EX (d + 2) k_X5_value [.ref 31, .int x, .int y] M ML (fun r M2 L2 => r = some (.long (tuV l h E (x - 1).toInt64 (y - 1).toInt64 (2 ^ E))) ∧ L2 = ML ∧ M2 = M) := by
  refine EX_in mi_X5_value rfl rfl ?_
  show WP _ cd_X5_value false _ (0, [(0, .ref 31), (1, .int x), (2, .int y)], [], (SH, M, ML))
  refine w_cst (v := .long 0) rfl rfl ?_
  refine w_sto (L' := [(0, _), (1, _), (2, _), (3, _)]) rfl rfl ?_
  refine w_cst (v := .long 1) rfl rfl ?_
  refine w_sto (L' := [(0, _), (1, _), (2, _), (3, _), (5, _)]) rfl rfl ?_
  refine w_cst (v := .int 0) rfl rfl ?_
  refine w_sto (L' := [(0, _), (1, _), (2, _), (3, _), (5, _), (7, _)]) rfl rfl ?_
  exact lp_X5_value_8 hE hR 0 (Nat.zero_le _)

set_option maxHeartbeats 1000000 in
set_option maxRecDepth 10000 in
theorem ok_X11_tutte {d : Nat} {M : Mm} {ML : Ml} {N E A : Nat} {l h : Nat → Nat} (hS : NS M 2 3 4 5 6 N E A l h) (hW : WN N E A l h) (hf : M 31 0 = 0 ∨ (M 31 0 = 1 ∧ RKS M E l h)) {x y : Int32} : EX (d + 4) k_X11_tutte [.ref 1, .int x, .int y] M ML (fun r M2 L2 => r = some (.int (tutteA l h E x y)) ∧ L2 = ML ∧ Fr [31, 32, 33] M M2 ∧ (M2 31 0 = 0 ∨ (M2 31 0 = 1 ∧ RKS M2 E l h))) := by
  refine EX_in mi_X11_tutte rfl rfl ?_
  show WP _ cd_X11_tutte false _ (0, [(0, .ref 1), (1, .int x), (2, .int y)], [], (SH, M, ML))
  refine w_ld rfl rfl ?_
  refine w_cj rfl rfl (fun h_1 => ?_) (fun h_1 => ?_)
  · refine w_cst (v := .int (-1)) rfl rfl ?_
    refine w_ret rfl rfl (trivial) ?_
    refine ⟨?_, rfl, Fr_rf, hf⟩
    unfold tutteA
    first
      | (rw [wh_no1 h_1]; rfl)
      | (rw [wh_no2 (n := 9) h_7]; rfl)
      | (rw [wh_no1 (x := y) h_11, Bool.and_false]; rfl)
      | (rw [wh_no2 (x := y) (n := 9) (nle_lt.mp h_17), Bool.and_false]; rfl)
  · refine w_ld rfl rfl ?_
    refine w_cst (v := .int 9) rfl rfl ?_
    refine w_cj rfl rfl (fun h_7 => ?_) (fun h_7 => ?_)
    · refine w_cst (v := .int (-1)) rfl rfl ?_
      refine w_ret rfl rfl (trivial) ?_
      refine ⟨?_, rfl, Fr_rf, hf⟩
      unfold tutteA
      first
        | (rw [wh_no1 h_1]; rfl)
        | (rw [wh_no2 (n := 9) h_7]; rfl)
        | (rw [wh_no1 (x := y) h_11, Bool.and_false]; rfl)
        | (rw [wh_no2 (x := y) (n := 9) (nle_lt.mp h_17), Bool.and_false]; rfl)
    · refine w_ld rfl rfl ?_
      refine w_cj rfl rfl (fun h_11 => ?_) (fun h_11 => ?_)
      · refine w_cst (v := .int (-1)) rfl rfl ?_
        refine w_ret rfl rfl (trivial) ?_
        refine ⟨?_, rfl, Fr_rf, hf⟩
        unfold tutteA
        first
          | (rw [wh_no1 h_1]; rfl)
          | (rw [wh_no2 (n := 9) h_7]; rfl)
          | (rw [wh_no1 (x := y) h_11, Bool.and_false]; rfl)
          | (rw [wh_no2 (x := y) (n := 9) (nle_lt.mp h_17), Bool.and_false]; rfl)
      · refine w_ld rfl rfl ?_
        refine w_cst (v := .int 9) rfl rfl ?_
        refine w_cj rfl rfl (fun h_17 => ?_) (fun h_17 => ?_)
        · refine w_ld rfl rfl ?_
          refine w_getr rfl rfl rfl rfl rfl ?_
          refine w_ld rfl rfl ?_
          refine w_getr rfl rfl rfl rfl rfl ?_
          obtain ⟨_, M3, L3, ⟨rfl, rfl, hF, hf1, hR⟩, hE30⟩ := ok_X5_find (d := d) (ML := ML) (M := M) hS hW hf
          refine w_callv (as := [_, _]) (rest := []) rfl rfl rfl rfl rfl rfl rfl rfl hE30 ?_
          refine w_ld rfl rfl ?_
          refine w_getr rfl rfl rfl rfl rfl ?_
          refine w_ld rfl rfl ?_
          refine w_ld rfl rfl ?_
          refine w_call (as := [_, _, _]) (rest := []) rfl rfl rfl rfl rfl rfl rfl rfl (EX_ex (ok_X5_value hW.2.2.1 hR)) ?_
          refine w_sto (L' := [(0, _), (1, _), (2, _), (3, _)]) rfl rfl ?_
          refine w_ld rfl rfl ?_
          refine w_ldl rfl ?_
          refine w_bin rfl rfl ?_
          refine w_cj rfl rfl (fun h_48 => ?_) (fun h_48 => ?_)
          · refine w_ld rfl rfl ?_
            refine w_una rfl rfl ?_
            refine w_ret rfl rfl (trivial) ?_
            refine ⟨?_, rfl, hF, Or.inr ⟨hf1, hR⟩⟩
            unfold tutteA tuT
            rw [wh_yes (n := 9) h_1 (Int32.not_lt.mp h_7), wh_yes (x := y) (n := 9) h_11 h_17]
            show _ = some (Value.int (if _ then _ else _))
            first
              | rw [if_pos h_48]
              | rw [if_neg h_48]
          · refine w_cst (v := .int (-6)) rfl rfl ?_
            refine w_go rfl ?_
            refine w_ret rfl rfl (trivial) ?_
            refine ⟨?_, rfl, hF, Or.inr ⟨hf1, hR⟩⟩
            unfold tutteA tuT
            rw [wh_yes (n := 9) h_1 (Int32.not_lt.mp h_7), wh_yes (x := y) (n := 9) h_11 h_17]
            show _ = some (Value.int (if _ then _ else _))
            first
              | rw [if_pos h_48]
              | rw [if_neg h_48]
        · refine w_cst (v := .int (-1)) rfl rfl ?_
          refine w_ret rfl rfl (trivial) ?_
          refine ⟨?_, rfl, Fr_rf, hf⟩
          unfold tutteA
          first
            | (rw [wh_no1 h_1]; rfl)
            | (rw [wh_no2 (n := 9) h_7]; rfl)
            | (rw [wh_no1 (x := y) h_11, Bool.and_false]; rfl)
            | (rw [wh_no2 (x := y) (n := 9) (nle_lt.mp h_17), Bool.and_false]; rfl)

