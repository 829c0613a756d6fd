/-! ===== the picks of a firer ===== -/
set_option maxHeartbeats 1000000 in
set_option maxRecDepth 10000 in
theorem lp_X7_greatestOf_4 (d : Nat) (M : Nat → Nat → Int32) (ML : Nat → Nat → Int64) {n : Nat} (hn : n < 128) (h0 : 0 < n)  {res : Rt} (hk : res = (some (.int (nI (msb n))), (SH, M, ML))) :
    ∀ e, e ≤ 7 → ∀ (g : Int32) (j9 : Int32), g = nI (msb (n % 2 ^ e)) → j9 = nI e → RR (d + 1) cd_X7_greatestOf false res (4, [(0, .int ((nI n))), (1, .int g), (2, .int j9)], [], (SH, M, ML)) := by
  refine up_ind fun e he ih => ?_
  intro g j9 hv0 hv1
  subst hv0 hv1
  refine r_ld rfl rfl ?_
  refine r_cst (v := .int 7) rfl rfl ?_
  refine r_cj rfl rfl (fun h_7 => ?_) (fun h_7 => ?_)
  · have h9 : e = 7 := by have := nle (a := 7) (b := e) (by decide) (by omega) h_7; omega
    subst h9
    refine r_ld rfl rfl ?_
    refine r_ret rfl rfl (trivial) ?_
    rw [msb_7 n hn]
    exact hk
  · have hlt : e < 7 := nnle (a := 7) (b := e) (by decide) (by omega) h_7
    refine r_ld rfl rfl ?_
    refine r_ld rfl rfl ?_
    refine q_cife (as := [_, _]) (rest := []) rfl rfl rfl rfl rfl rfl rfl rfl (ok_X11_isIn ..) rfl (fun h_12 => ?_) (fun h_12 => ?_)
    · refine q_inc (y := _ + 1) rfl rfl rfl ?_
      refine q_norm (L' := [(0, _), (1, _), (2, _)]) rfl ?_
      refine r_go rfl ?_
      refine ih hlt _ _ ?_ (nI_1 e)
      have h8 : tb (nI n) (nI e) = n.testBit e := tb_nI (by omega) (by omega)
      rw [h8] at h_12
      first
        | (rw [(msb_step n hn e hlt).1 h_12]; done)
        | (rw [(msb_step n hn e hlt).2 h_12]; done)
    · refine r_ld rfl rfl ?_
      refine r_sto (L' := [(0, _), (1, _), (2, _)]) rfl rfl ?_
      refine q_inc (y := _ + 1) rfl rfl rfl ?_
      refine q_norm (L' := [(0, _), (1, _), (2, _)]) rfl ?_
      refine r_go rfl ?_
      refine ih hlt _ _ ?_ (nI_1 e)
      have h8 : tb (nI n) (nI e) = n.testBit e := tb_nI (by omega) (by omega)
      rw [h8] at h_12
      first
        | (rw [(msb_step n hn e hlt).1 h_12]; done)
        | (rw [(msb_step n hn e hlt).2 h_12]; done)

set_option maxHeartbeats 1000000 in
set_option maxRecDepth 10000 in
theorem ok_X7_greatestOf (d : Nat) (M : Nat → Nat → Int32) (ML : Nat → Nat → Int64) {n : Nat} (hn : n < 128) (h0 : 0 < n) : Ex (d + 2) k_X7_greatestOf [.int (nI n)] (SH, M, ML) (some (.int (nI (msb n))), (SH, M, ML)) := by
  refine Ex_in mi_X7_greatestOf rfl rfl ⟨Nat.le_refl _, Nat.le_refl _⟩ ?_
  show RR _ cd_X7_greatestOf false _ (0, [(0, .int (nI n))], [], (SH, M, ML))
  refine r_cst (v := .int 0) rfl rfl ?_
  refine r_sto (L' := [(0, _), (1, _)]) rfl rfl ?_
  refine r_cst (v := .int 0) rfl rfl ?_
  refine r_sto (L' := [(0, _), (1, _), (2, _)]) rfl rfl ?_
  exact lp_X7_greatestOf_4 d M ML hn h0 rfl 0 (by decide) _ _ (by rw [Nat.pow_zero, Nat.mod_one]; rfl) rfl

theorem lfr_ok : ∀ n, n < 128 → 0 < n → ∀ b, b < 7 → 0 < lfr n b ∧ lfr n b < 128 := by decide +kernel
theorem lsb_ok : ∀ n, n < 128 → 0 < n → lsb n < 7 := by decide +kernel
theorem lsb_at : ∀ n, n < 128 → ∀ e, e < 7 → (n.testBit e = true) → (n % 2 ^ e = 0) → lsb n = e := by decide +kernel
theorem low_st : ∀ n, n < 128 → ∀ e, e < 7 → (n.testBit e = false) → (n % 2 ^ e = 0) → n % 2 ^ (e + 1) = 0 := by decide +kernel
theorem low_6 : ∀ n, n < 128 → 0 < n → n % 2 ^ 6 = 0 → lsb n = 6 := by decide +kernel
theorem lfrI : ∀ n, n < 128 → ∀ b, b < 7 → (nI n >>> (nI b &&& 31)) <<< (nI b &&& 31) = nI (n / 2 ^ b * 2 ^ b) := by decide +kernel
theorem lfr_z : ∀ n, n < 128 → ∀ b, b < 7 → n / 2 ^ b * 2 ^ b < 128 := by decide +kernel

set_option maxHeartbeats 1000000 in
set_option maxRecDepth 10000 in
theorem lp_X7_leastFrom_19 (d : Nat) (M : Nat → Nat → Int32) (ML : Nat → Nat → Int64) {n : Nat} (hn : n < 128) (h0 : 0 < n)  {res : Rt} (hk : res = (some (.int (nI (lsb n))), (SH, M, ML))) :
    ∀ e, e ≤ 6 → n % 2 ^ e = 0 → ∀ (j9 : Int32), j9 = nI e → RR (d + 1) cd_X7_leastFrom false res (19, [(3, .int ((nI n))), (4, .int j9)], [], (SH, M, ML)) := by
  refine up_ind fun e he ih hz => ?_
  intro j9 hv0
  subst hv0
  refine r_ld rfl rfl ?_
  refine r_cst (v := .int 6) rfl rfl ?_
  refine r_cj rfl rfl (fun h_23 => ?_) (fun h_23 => ?_)
  · first
      | (rw [← lsb_at n hn e (by omega) (by rw [← h8]; exact h_29) hz]; refine r_ld rfl rfl ?_; refine r_ret rfl rfl (trivial) ?_; exact hk)
      | (have h9 : e = 6 := by have := nle (a := 6) (b := e) (by decide) (by omega) h_23; omega
         subst h9
         rw [← low_6 n hn h0 hz]
         refine r_ld rfl rfl ?_
         refine r_ret rfl rfl (trivial) ?_
         exact hk)
  · have hlt : e < 6 := nnle (a := 6) (b := e) (by decide) (by omega) h_23
    have h8 : tb (nI n) (nI e) = n.testBit e := tb_nI (by omega) (by omega)
    refine r_ld rfl rfl ?_
    refine r_ld rfl rfl ?_
    refine q_cifn (as := [_, _]) (rest := []) rfl rfl rfl rfl rfl rfl rfl rfl (ok_X11_isIn ..) rfl (fun h_29 => ?_) (fun h_29 => ?_)
    · first
        | (rw [← lsb_at n hn e (by omega) (by rw [← h8]; exact h_29) hz]; refine r_ld rfl rfl ?_; refine r_ret rfl rfl (trivial) ?_; exact hk)
        | (have h9 : e = 6 := by have := nle (a := 6) (b := e) (by decide) (by omega) h_23; omega
           subst h9
           rw [← low_6 n hn h0 hz]
           refine r_ld rfl rfl ?_
           refine r_ret rfl rfl (trivial) ?_
           exact hk)
    · refine q_inc (y := _ + 1) rfl rfl rfl ?_
      refine q_norm (L' := [(3, _), (4, _)]) rfl ?_
      refine r_go rfl ?_
      exact ih hlt (low_st n hn e (by omega) (by rw [← h8]; exact h_29) hz) _ (nI_1 e)

set_option maxHeartbeats 1000000 in
set_option maxRecDepth 10000 in
theorem ok_X7_leastFrom (d : Nat) (M : Nat → Nat → Int32) (ML : Nat → Nat → Int64) {n : Nat} (hn : n < 128) (h0 : 0 < n) {b : Nat} (hb : b < 7) : Ex (d + 2) k_X7_leastFrom [.int (nI n), .int (nI b)] (SH, M, ML) (some (.int (nI (lsb (lfr n b)))), (SH, M, ML)) := by
  refine Ex_in mi_X7_leastFrom rfl rfl ⟨Nat.le_refl _, Nat.le_refl _⟩ ?_
  show RR _ cd_X7_leastFrom false _ (0, [(0, .int (nI n)), (1, .int (nI b))], [], (SH, M, ML))
  refine r_ld rfl rfl ?_
  refine r_ld rfl rfl ?_
  refine r_bin rfl rfl ?_
  refine r_ld rfl rfl ?_
  refine r_bin rfl rfl ?_
  rw [lfrI n hn b hb]
  refine r_sto (L' := [(0, _), (1, _), (2, _)]) rfl rfl ?_
  refine r_ld rfl rfl ?_
  refine r_cj rfl rfl (fun h_7 => ?_) (fun h_7 => ?_)
  · refine r_ld rfl rfl ?_
    refine r_sto (L' := [(0, _), (1, _), (2, _), (3, _)]) rfl rfl ?_
    refine r_cst (v := .int 0) rfl rfl ?_
    refine r_sto (L' := [(0, _), (1, _), (2, _), (3, _), (4, _)]) rfl rfl ?_
    first
      | (have h9 : n / 2 ^ b * 2 ^ b = 0 := neq (by have := lfr_z n hn b hb; omega) (by decide) h_7
         rw [show lfr n b = n from if_pos h9]
         refine q_keep [3, 4] (L' := [(3, _), (4, _)]) rfl ?_
         exact lp_X7_leastFrom_19 d M ML hn h0 rfl 0 (by decide) (by rw [Nat.pow_zero, Nat.mod_one]) _ rfl)
      | (have h9 : ¬ n / 2 ^ b * 2 ^ b = 0 := fun q => h_7 (by rw [q]; rfl)
         rw [show lfr n b = n / 2 ^ b * 2 ^ b from if_neg h9]
         refine q_keep [3, 4] (L' := [(3, _), (4, _)]) rfl ?_
         exact lp_X7_leastFrom_19 d M ML (lfr_z n hn b hb) (by omega) rfl 0 (by decide) (by rw [Nat.pow_zero, Nat.mod_one]) _ rfl)
  · refine r_ld rfl rfl ?_
    refine r_go rfl ?_
    refine r_sto (L' := [(0, _), (1, _), (2, _), (3, _)]) rfl rfl ?_
    refine r_cst (v := .int 0) rfl rfl ?_
    refine r_sto (L' := [(0, _), (1, _), (2, _), (3, _), (4, _)]) rfl rfl ?_
    first
      | (have h9 : n / 2 ^ b * 2 ^ b = 0 := neq (by have := lfr_z n hn b hb; omega) (by decide) h_7
         rw [show lfr n b = n from if_pos h9]
         refine q_keep [3, 4] (L' := [(3, _), (4, _)]) rfl ?_
         exact lp_X7_leastFrom_19 d M ML hn h0 rfl 0 (by decide) (by rw [Nat.pow_zero, Nat.mod_one]) _ rfl)
      | (have h9 : ¬ n / 2 ^ b * 2 ^ b = 0 := fun q => h_7 (by rw [q]; rfl)
         rw [show lfr n b = n / 2 ^ b * 2 ^ b from if_neg h9]
         refine q_keep [3, 4] (L' := [(3, _), (4, _)]) rfl ?_
         exact lp_X7_leastFrom_19 d M ML (lfr_z n hn b hb) (by omega) rfl 0 (by decide) (by rw [Nat.pow_zero, Nat.mod_one]) _ rfl)

set_option maxHeartbeats 1000000 in
set_option maxRecDepth 10000 in
theorem ok_X12_fromBy (d : Nat) (M : Nat → Nat → Int32) (ML : Nat → Nat → Int64) {n : Nat} (hn : n < 128) (h0 : 0 < n) {k b : Nat} (hk : k < 4) (hm : M 79 k = nI b) (hb : b < 7) : Ex (d + 3) k_X12_fromBy [.ref 73, .int (nI k), .int (nI n)] (SH, M, ML) (some (.int (nI (lsb (lfr n b)))), (SH, M, ML)) := by
  refine Ex_in mi_X12_fromBy rfl rfl ⟨Nat.le_refl _, Nat.le_refl _⟩ ?_
  show RR _ cd_X12_fromBy false _ (0, [(0, .ref 73), (1, .int (nI k)), (2, .int (nI n))], [], (SH, M, ML))
  refine r_ld rfl rfl ?_
  refine r_ld rfl rfl ?_
  refine q_getr rfl rfl rfl rfl rfl ?_
  refine r_ld rfl rfl ?_
  refine q_ain rfl rfl rfl (rfl) (by omega) rfl ?_
  refine r_bin rfl rfl ?_
  refine r_ld rfl rfl ?_
  refine q_getr rfl rfl rfl rfl rfl ?_
  refine r_ld rfl rfl ?_
  refine q_ain rfl rfl rfl (rfl) (by omega) rfl ?_
  refine r_bin rfl rfl ?_
  rw [hm, lfrI n hn b hb]
  refine r_sto (L' := [(0, _), (1, _), (2, _), (3, _)]) rfl rfl ?_
  refine r_ld rfl rfl ?_
  refine r_cj rfl rfl (fun h_17 => ?_) (fun h_17 => ?_)
  · refine r_ld rfl rfl ?_
    first
      | (have h9 : n / 2 ^ b * 2 ^ b = 0 := neq (by have := lfr_z n hn b hb; omega) (by decide) h_17
         rw [show lfr n b = n from if_pos h9]
         refine q_call (as := [_]) (rest := []) rfl rfl rfl rfl rfl rfl rfl rfl (ok_X12_leastOf _ _ _ hn h0) ?_
         refine r_ret rfl rfl (trivial) ?_
         exact rfl)
      | (have h9 : ¬ n / 2 ^ b * 2 ^ b = 0 := fun q => h_17 (by rw [q]; rfl)
         rw [show lfr n b = n / 2 ^ b * 2 ^ b from if_neg h9]
         refine q_call (as := [_]) (rest := []) rfl rfl rfl rfl rfl rfl rfl rfl (ok_X12_leastOf _ _ _ (lfr_z n hn b hb) (by omega)) ?_
         refine r_ret rfl rfl (trivial) ?_
         exact rfl)
  · refine r_ld rfl rfl ?_
    refine r_go rfl ?_
    first
      | (have h9 : n / 2 ^ b * 2 ^ b = 0 := neq (by have := lfr_z n hn b hb; omega) (by decide) h_17
         rw [show lfr n b = n from if_pos h9]
         refine q_call (as := [_]) (rest := []) rfl rfl rfl rfl rfl rfl rfl rfl (ok_X12_leastOf _ _ _ hn h0) ?_
         refine r_ret rfl rfl (trivial) ?_
         exact rfl)
      | (have h9 : ¬ n / 2 ^ b * 2 ^ b = 0 := fun q => h_17 (by rw [q]; rfl)
         rw [show lfr n b = n / 2 ^ b * 2 ^ b from if_neg h9]
         refine q_call (as := [_]) (rest := []) rfl rfl rfl rfl rfl rfl rfl rfl (ok_X12_leastOf _ _ _ (lfr_z n hn b hb) (by omega)) ?_
         refine r_ret rfl rfl (trivial) ?_
         exact rfl)

