/-! ===== in how many ways: the reference ===== -/
/-- how a row of numbers weighs -/
def lin (g : Nat → Nat → Bool) (t : Nat → Nat → Nat) (N n : Nat) (f : Nat → Nat) (j : Nat) : Nat := fb_sm (fun c => f c * wN g t N j c) n
theorem lin_0 (g : Nat → Nat → Bool) (t : Nat → Nat → Nat) (N n : Nat) (f : Nat → Nat) : lin g t N n f 0 = fb_sm f n := fb_sm_cong fun c _ => Nat.mul_one _
theorem lin_one {g : Nat → Nat → Bool} {t : Nat → Nat → Nat} {N n a : Nat} (ha : a < n) (j : Nat) : lin g t N n (fun b => if b = a then 1 else 0) j = wN g t N j a := by
  have h1 := fb_sm_upd (fun _ => 0) (wN g t N j a) ha
  have h2 : fb_sm (fun _ : Nat => 0) n = 0 := by rw [fb_sm_const, Nat.mul_zero]
  have h3 : lin g t N n (fun b => if b = a then 1 else 0) j = fb_sm (fun k => if k = a then wN g t N j a else 0) n := fb_sm_cong fun c _ => by
    show (if c = a then 1 else 0) * _ = _
    by_cases q : c = a
    · rw [if_pos q, if_pos q, Nat.one_mul, q]
    · rw [if_neg q, if_neg q, Nat.zero_mul]
  rw [h3]
  omega
theorem lin_upd {g : Nat → Nat → Bool} {t : Nat → Nat → Nat} {N n c : Nat} (hc : c < n) (f : Nat → Nat) (x j : Nat) : lin g t N n (fun k => if k = c then f c + x else f k) j = lin g t N n f j + x * wN g t N j c := by
  have h1 := fb_sm_upd (fun k => f k * wN g t N j k) ((f c + x) * wN g t N j c) hc
  have h3 : lin g t N n (fun k => if k = c then f c + x else f k) j = fb_sm (fun k => if k = c then (f c + x) * wN g t N j c else f k * wN g t N j k) n := fb_sm_cong fun k _ => by
    show (if k = c then f c + x else f k) * _ = _
    by_cases q : k = c
    · rw [if_pos q, if_pos q, q]
    · rw [if_neg q, if_neg q]
  rw [h3]
  rw [Nat.add_mul] at h1
  have h1' : fb_sm (fun k => if k = c then (f c + x) * wN g t N j c else f k * wN g t N j k) n + f c * wN g t N j c = fb_sm (fun k => f k * wN g t N j k) n + (f c * wN g t N j c + x * wN g t N j c) := by
    rw [← h1, Nat.add_mul]
  show _ = fb_sm (fun k => f k * wN g t N j k) n + _
  omega
theorem lin_b {g : Nat → Nat → Bool} {t : Nat → Nat → Nat} {N n k a : Nat} {f : Nat → Nat} (hN : N ≤ 7) (hk : k ≤ 12) (h : ∀ j, lin g t N n f j = wN g t N (k + j) a) {b : Nat} (hb : b < n) : f b < 2 ^ 62 := by
  have h1 := fb_sm_part f hb
  have h2 := h 0
  rw [lin_0] at h2
  have h3 := wN_le (g := g) (t := t) hN (k + 0) a
  have h4 : 7 ^ (k + 0) ≤ 7 ^ 12 := Nat.pow_le_pow_right (by decide) (by omega)
  have h5 : 7 ^ 12 < 2 ^ 62 := by decide
  omega
theorem lN_le0 {n : Nat} (h : n < 2 ^ 62) : lN n ≤ 0 ↔ n = 0 := by
  rw [Int64.le_iff_toInt_le, show (lN n).toInt = (n : Int) from lg_ofNat_toInt (by omega), Int64.toInt_zero]
  omega

set_option maxHeartbeats 1000000 in
set_option maxRecDepth 10000 in
theorem lp_X12_ways_102 {d : Nat} {M : Mm} {ML : Ml} {N E A : Nat} {l h : Nat → Nat} (hS : NM M N E A l h) (hW : WN N E A l h) {a n : Nat} (ha : a < 2 ^ E) (hn : n ≤ 12) {k b : Nat} {f : Nat → Nat} (hb : b < 2 ^ E) (hfb : f b < 2 ^ 62) (hk : ∀ ML' f2, (∀ c, c < 2 ^ E → ML' 94 c = lN (f c)) → (∀ c, c < 2 ^ E → ML' 95 c = lN (f2 c)) → (∀ j, lin (gF E l h true) (tF E l h) N (2 ^ E) f2 j = fb_sm (fun b => f b * wN (gF E l h true) (tF E l h) N (j + 1) b) (b + 1)) → WP (d + 3) cd_X12_ways false (fun r M2 L2 => r = some (.long (lN (wN (gF E l h true) (tF E l h) N n a))) ∧ M2 = M) (90, [(0, .ref 73), (1, .int (nI a)), (2, .int (nI n)), (3, .int (nI k)), (4, .int (nI (b + 1)))], [], (SH, M, ML'))) : ∀ v, v ≤ N → ∀ ML' f2, (∀ c, c < 2 ^ E → ML' 94 c = lN (f c)) → (∀ c, c < 2 ^ E → ML' 95 c = lN (f2 c)) → (∀ j, lin (gF E l h true) (tF E l h) N (2 ^ E) f2 j = fb_sm (fun b => f b * wN (gF E l h true) (tF E l h) N (j + 1) b) b + f b * fb_sm (fun v => if gF E l h true b v = true then wN (gF E l h true) (tF E l h) N j (tF E l h b v) else 0) v) → WP (d + 3) cd_X12_ways false (fun r M2 L2 => r = some (.long (lN (wN (gF E l h true) (tF E l h) N n a))) ∧ M2 = M) (102, [(0, .ref 73), (1, .int (nI a)), (2, .int (nI n)), (3, .int (nI k)), (4, .int (nI b)), (5, .int (nI v))], [], (SH, M, ML')) := by
  have hN7 := hW.2.1
  have hE10 := hW.2.2.1
  have h1024 := pow_b hE10
  refine up_ind fun v hv ih => ?_
  intro ML' f2 hf hf2 hl
  refine w_ld rfl rfl ?_
  refine w_ld rfl rfl ?_
  refine w_getv rfl rfl rfl rfl rfl (hS.1) ?_
  refine w_cj rfl rfl (fun h_108 => ?_) (fun h_108 => ?_)
  · refine w_keep [0, 1, 2, 3, 4] (L' := [(0, _), (1, _), (2, _), (3, _), (4, _)]) rfl ?_
    have hfin : ∀ j, lin (gF E l h true) (tF E l h) N (2 ^ E) f2 j = fb_sm (fun b => f b * wN (gF E l h true) (tF E l h) N (j + 1) b) (b + 1) := fun j => by
      rw [hl j, fb_sm_succ]
      first
        | (have h9 : v = N := by have := nle (by omega) (by omega) h_108; omega
           rw [h9]
           rfl)
        | rw [(lN_le0 hfb).mp ((lg_cmp_le _ _).mp h_120), Nat.zero_mul, Nat.zero_mul]
    refine w_inc (y := _ + 1) rfl rfl rfl ?_
    refine w_norm (L' := [(0, _), (1, _), (2, _), (3, _), (4, _)]) rfl ?_
    refine w_go rfl ?_
    rw [nI_1]
    exact hk ML' f2 hf hf2 hfin
  · have hlt : v < N := nnle (by omega) (by omega) h_108
    have htl : b ^^^ tmk E l h v < 2 ^ E := tF_lt (l := l) (h := h) (v := v) hb
    refine w_ld rfl rfl ?_
    refine w_getr rfl rfl rfl rfl rfl ?_
    refine w_ld rfl rfl ?_
    refine w_alv rfl rfl rfl (rfl) (by omega) rfl (hf b hb) ?_
    refine w_cst (v := .long 0) rfl rfl ?_
    refine w_bin rfl rfl ?_
    refine w_cj rfl rfl (fun h_120 => ?_) (fun h_120 => ?_)
    · refine w_keep [0, 1, 2, 3, 4] (L' := [(0, _), (1, _), (2, _), (3, _), (4, _)]) rfl ?_
      have hfin : ∀ j, lin (gF E l h true) (tF E l h) N (2 ^ E) f2 j = fb_sm (fun b => f b * wN (gF E l h true) (tF E l h) N (j + 1) b) (b + 1) := fun j => by
        rw [hl j, fb_sm_succ]
        first
          | (have h9 : v = N := by have := nle (by omega) (by omega) h_108; omega
             rw [h9]
             rfl)
          | rw [(lN_le0 hfb).mp ((lg_cmp_le _ _).mp h_120), Nat.zero_mul, Nat.zero_mul]
      refine w_inc (y := _ + 1) rfl rfl rfl ?_
      refine w_norm (L' := [(0, _), (1, _), (2, _), (3, _), (4, _)]) rfl ?_
      refine w_go rfl ?_
      rw [nI_1]
      exact hk ML' f2 hf hf2 hfin
    · refine w_ld rfl rfl ?_
      refine w_ld rfl rfl ?_
      refine w_ld rfl rfl ?_
      refine w_cst (v := .int 1) rfl rfl ?_
      refine w_cife (as := [_, _, _, _]) (rest := []) rfl rfl rfl rfl rfl rfl rfl rfl (ok_X12_isEnd (s := true) _ _ _ (by omega) hS hW) rfl (fun h_129 => ?_) (fun h_129 => ?_)
      · refine w_inc (y := _ + 1) rfl rfl rfl ?_
        refine w_norm (L' := [(0, _), (1, _), (2, _), (3, _), (4, _), (5, _)]) rfl ?_
        refine w_go rfl ?_
        rw [nI_1]
        first
          | exact ih hlt ML' f2 hf hf2 (fun j => by
              rw [hl j, fb_sm_succ, if_neg (fun w => by rw [show gF E l h true b v = false from h_129] at w; exact Bool.noConfusion w)]
              rfl)
          | (refine ih hlt _ (fun k => if k = b ^^^ tmk E l h v then f2 (b ^^^ tmk E l h v) + f b else f2 k) (fun c hc => ?_) (fun c hc => ?_) (fun j => ?_)
             · rw [up2L_row (by decide)]
               exact hf c hc
             · show _ = lN (if _ then _ else _)
               by_cases q : c = b ^^^ tmk E l h v
               · rw [q, up2L_e, if_pos rfl]
               · rw [up2L_k q, if_neg q]
                 exact hf2 c hc
             · rw [lin_upd htl, hl j, fb_sm_succ, if_pos (show gF E l h true b v = true from h_129), Nat.mul_add, Nat.add_assoc]
               rfl)
      · refine w_ld rfl rfl ?_
        refine w_getr rfl rfl rfl rfl rfl ?_
        refine w_ld rfl rfl ?_
        refine w_ld rfl rfl ?_
        refine w_ld rfl rfl ?_
        refine w_call (as := [_, _]) (rest := [_, _]) rfl rfl rfl rfl rfl rfl rfl rfl (ok_X12_edgesOf _ _ _ (by omega) hS hW) ?_
        refine w_bin rfl rfl ?_
        rw [xorN]
        refine w_stk rfl rfl ?_
        refine w_alv rfl rfl rfl (rfl) (by omega) rfl (hf2 _ htl) ?_
        refine w_ld rfl rfl ?_
        refine w_getr rfl rfl rfl rfl rfl ?_
        refine w_ld rfl rfl ?_
        refine w_alv rfl rfl rfl (rfl) (by omega) rfl (hf b hb) ?_
        refine w_bin rfl rfl ?_
        rw [lN_add]
        refine w_sln rfl rfl rfl (rfl) (by omega) rfl ?_
        refine w_inc (y := _ + 1) rfl rfl rfl ?_
        refine w_norm (L' := [(0, _), (1, _), (2, _), (3, _), (4, _), (5, _)]) rfl ?_
        refine w_go rfl ?_
        rw [nI_1]
        first
          | exact ih hlt ML' f2 hf hf2 (fun j => by
              rw [hl j, fb_sm_succ, if_neg (fun w => by rw [show gF E l h true b v = false from h_129] at w; exact Bool.noConfusion w)]
              rfl)
          | (refine ih hlt _ (fun k => if k = b ^^^ tmk E l h v then f2 (b ^^^ tmk E l h v) + f b else f2 k) (fun c hc => ?_) (fun c hc => ?_) (fun j => ?_)
             · rw [up2L_row (by decide)]
               exact hf c hc
             · show _ = lN (if _ then _ else _)
               by_cases q : c = b ^^^ tmk E l h v
               · rw [q, up2L_e, if_pos rfl]
               · rw [up2L_k q, if_neg q]
                 exact hf2 c hc
             · rw [lin_upd htl, hl j, fb_sm_succ, if_pos (show gF E l h true b v = true from h_129), Nat.mul_add, Nat.add_assoc]
               rfl)

set_option maxHeartbeats 1000000 in
set_option maxRecDepth 10000 in
theorem lp_X12_ways_90 {d : Nat} {M : Mm} {ML : Ml} {N E A : Nat} {l h : Nat → Nat} (hS : NM M N E A l h) (hW : WN N E A l h) {a n : Nat} (ha : a < 2 ^ E) (hn : n ≤ 12) {k : Nat} {f : Nat → Nat} (hfb : ∀ b, b < 2 ^ E → f b < 2 ^ 62) (hk : ∀ ML' f2, (∀ c, c < 2 ^ E → ML' 95 c = lN (f2 c)) → (∀ j, lin (gF E l h true) (tF E l h) N (2 ^ E) f2 j = fb_sm (fun b => f b * wN (gF E l h true) (tF E l h) N (j + 1) b) (2 ^ E)) → WP (d + 3) cd_X12_ways false (fun r M2 L2 => r = some (.long (lN (wN (gF E l h true) (tF E l h) N n a))) ∧ M2 = M) (171, [(0, .ref 73), (1, .int (nI a)), (2, .int (nI n)), (3, .int (nI k))], [], (SH, M, ML'))) : ∀ b, b ≤ 2 ^ E → ∀ ML' f2, (∀ c, c < 2 ^ E → ML' 94 c = lN (f c)) → (∀ c, c < 2 ^ E → ML' 95 c = lN (f2 c)) → (∀ j, lin (gF E l h true) (tF E l h) N (2 ^ E) f2 j = fb_sm (fun b => f b * wN (gF E l h true) (tF E l h) N (j + 1) b) b) → WP (d + 3) cd_X12_ways false (fun r M2 L2 => r = some (.long (lN (wN (gF E l h true) (tF E l h) N n a))) ∧ M2 = M) (90, [(0, .ref 73), (1, .int (nI a)), (2, .int (nI n)), (3, .int (nI k)), (4, .int (nI b))], [], (SH, M, ML')) := by
  have hN7 := hW.2.1
  have hE10 := hW.2.2.1
  have h1024 := pow_b hE10
  refine up_ind fun b hb ih => ?_
  intro ML' f2 hf hf2 hl
  refine w_ld rfl rfl ?_
  refine w_ld rfl rfl ?_
  refine w_call (as := [_]) (rest := [_]) rfl rfl rfl rfl rfl rfl rfl rfl (ok_X12_all _ _ _ hS.2.1 hE10) ?_
  refine w_cj rfl rfl (fun h_96 => ?_) (fun h_96 => ?_)
  · refine w_keep [0, 1, 2, 3] (L' := [(0, _), (1, _), (2, _), (3, _)]) rfl ?_
    have h9 : b = 2 ^ E := by have := nle (by omega) (by omega) h_96; omega
    subst h9
    exact hk ML' f2 hf2 hl
  · have hlt : b < 2 ^ E := nnle (by omega) (by omega) h_96
    refine w_cst (v := .int 0) rfl rfl ?_
    refine w_sto (L' := [(0, _), (1, _), (2, _), (3, _), (4, _), (5, _)]) rfl rfl ?_
    exact lp_X12_ways_102 (ML := ML) hS hW ha hn hlt (hfb b hlt) (fun ML9 f9 a1 a2 a3 => ih hlt ML9 f9 a1 a2 a3) 0 (Nat.zero_le _) ML' f2 hf hf2 (fun j => by rw [hl j]; rfl)

set_option maxHeartbeats 1000000 in
set_option maxRecDepth 10000 in
theorem lp_X12_ways_174 {d : Nat} {M : Mm} {ML : Ml} {N E A : Nat} {l h : Nat → Nat} (hS : NM M N E A l h) (hW : WN N E A l h) {a n : Nat} (ha : a < 2 ^ E) (hn : n ≤ 12) {k : Nat} {f2 : Nat → Nat} (hk : ∀ ML', (∀ c, c < 2 ^ E → ML' 94 c = lN (f2 c)) → WP (d + 3) cd_X12_ways false (fun r M2 L2 => r = some (.long (lN (wN (gF E l h true) (tF E l h) N n a))) ∧ M2 = M) (56, [(0, .ref 73), (1, .int (nI a)), (2, .int (nI n)), (3, .int (nI (k + 1)))], [], (SH, M, ML'))) : ∀ b, b ≤ 2 ^ E → ∀ ML', (∀ c, c < 2 ^ E → ML' 95 c = lN (f2 c)) → (∀ c, c < b → ML' 94 c = lN (f2 c)) → WP (d + 3) cd_X12_ways false (fun r M2 L2 => r = some (.long (lN (wN (gF E l h true) (tF E l h) N n a))) ∧ M2 = M) (174, [(0, .ref 73), (1, .int (nI a)), (2, .int (nI n)), (3, .int (nI k)), (4, .int (nI b))], [], (SH, M, ML')) := by
  have hN7 := hW.2.1
  have hE10 := hW.2.2.1
  have h1024 := pow_b hE10
  refine up_ind fun b hb ih => ?_
  intro ML' hf2 hf
  refine w_ld rfl rfl ?_
  refine w_ld rfl rfl ?_
  refine w_call (as := [_]) (rest := [_]) rfl rfl rfl rfl rfl rfl rfl rfl (ok_X12_all _ _ _ hS.2.1 hE10) ?_
  refine w_cj rfl rfl (fun h_180 => ?_) (fun h_180 => ?_)
  · have h9 : b = 2 ^ E := by have := nle (by omega) (by omega) h_180; omega
    subst h9
    refine w_inc (y := _ + 1) rfl rfl rfl ?_
    refine w_norm (L' := [(0, _), (1, _), (2, _), (3, _), (4, _)]) rfl ?_
    refine w_go rfl ?_
    refine w_keep [0, 1, 2, 3] (L' := [(0, _), (1, _), (2, _), (3, _)]) rfl ?_
    rw [nI_1]
    exact hk ML' hf
  · have hlt : b < 2 ^ E := nnle (by omega) (by omega) h_180
    refine w_ld rfl rfl ?_
    refine w_getr rfl rfl rfl rfl rfl ?_
    refine w_ld rfl rfl ?_
    refine w_ld rfl rfl ?_
    refine w_getr rfl rfl rfl rfl rfl ?_
    refine w_ld rfl rfl ?_
    refine w_alv rfl rfl rfl (rfl) (by omega) rfl (hf2 b hlt) ?_
    refine w_sln rfl rfl rfl (rfl) (by omega) rfl ?_
    refine w_inc (y := _ + 1) rfl rfl rfl ?_
    refine w_norm (L' := [(0, _), (1, _), (2, _), (3, _), (4, _)]) rfl ?_
    refine w_go rfl ?_
    rw [nI_1]
    refine ih hlt _ (fun c hc => ?_) (fun c hc => ?_)
    · rw [up2L_row (by decide)]
      exact hf2 c hc
    · by_cases q : c = b
      · rw [q, up2L_e]
      · rw [up2L_k q]
        exact hf c (by omega)

set_option maxHeartbeats 1000000 in
set_option maxRecDepth 10000 in
theorem lp_X12_ways_64 {d : Nat} {M : Mm} {ML : Ml} {N E A : Nat} {l h : Nat → Nat} (hS : NM M N E A l h) (hW : WN N E A l h) {a n : Nat} (ha : a < 2 ^ E) (hn : n ≤ 12) {k : Nat} {f : Nat → Nat} (hk : ∀ ML', (∀ c, c < 2 ^ E → ML' 94 c = lN (f c)) → (∀ c, c < 2 ^ E → ML' 95 c = 0) → WP (d + 3) cd_X12_ways false (fun r M2 L2 => r = some (.long (lN (wN (gF E l h true) (tF E l h) N n a))) ∧ M2 = M) (90, [(0, .ref 73), (1, .int (nI a)), (2, .int (nI n)), (3, .int (nI k)), (4, .int (nI 0))], [], (SH, M, ML'))) : ∀ b, b ≤ 2 ^ E → ∀ ML', (∀ c, c < 2 ^ E → ML' 94 c = lN (f c)) → (∀ c, c < b → ML' 95 c = 0) → WP (d + 3) cd_X12_ways false (fun r M2 L2 => r = some (.long (lN (wN (gF E l h true) (tF E l h) N n a))) ∧ M2 = M) (64, [(0, .ref 73), (1, .int (nI a)), (2, .int (nI n)), (3, .int (nI k)), (4, .int (nI b))], [], (SH, M, ML')) := by
  have hN7 := hW.2.1
  have hE10 := hW.2.2.1
  have h1024 := pow_b hE10
  refine up_ind fun b hb ih => ?_
  intro ML' hf hz
  refine w_ld rfl rfl ?_
  refine w_ld rfl rfl ?_
  refine w_call (as := [_]) (rest := [_]) rfl rfl rfl rfl rfl rfl rfl rfl (ok_X12_all _ _ _ hS.2.1 hE10) ?_
  refine w_cj rfl rfl (fun h_70 => ?_) (fun h_70 => ?_)
  · have h9 : b = 2 ^ E := by have := nle (by omega) (by omega) h_70; omega
    subst h9
    refine w_cst (v := .int 0) rfl rfl ?_
    refine w_sto (L' := [(0, _), (1, _), (2, _), (3, _), (4, _)]) rfl rfl ?_
    exact hk ML' hf hz
  · have hlt : b < 2 ^ E := nnle (by omega) (by omega) h_70
    refine w_ld rfl rfl ?_
    refine w_getr rfl rfl rfl rfl rfl ?_
    refine w_ld rfl rfl ?_
    refine w_cst (v := .long 0) rfl rfl ?_
    refine w_sln rfl rfl rfl (rfl) (by omega) rfl ?_
    refine w_inc (y := _ + 1) rfl rfl rfl ?_
    refine w_norm (L' := [(0, _), (1, _), (2, _), (3, _), (4, _)]) rfl ?_
    refine w_go rfl ?_
    rw [nI_1]
    refine ih hlt _ (fun c hc => ?_) (fun c hc => ?_)
    · rw [up2L_row (by decide)]
      exact hf c hc
    · by_cases q : c = b
      · rw [q, up2L_e]
      · rw [up2L_k q]
        exact hz c (by omega)

set_option maxHeartbeats 1000000 in
set_option maxRecDepth 10000 in
theorem lp_X12_ways_214 {d : Nat} {M : Mm} {ML : Ml} {N E A : Nat} {l h : Nat → Nat} (hS : NM M N E A l h) (hW : WN N E A l h) {a n : Nat} (ha : a < 2 ^ E) (hn : n ≤ 12) {f : Nat → Nat} (hf : ∀ c, c < 2 ^ E → ML 94 c = lN (f c)) (hl : fb_sm f (2 ^ E) = wN (gF E l h true) (tF E l h) N n a) : ∀ e, e ≤ 2 ^ E → WP (d + 3) cd_X12_ways false (fun r M2 L2 => r = some (.long (lN (wN (gF E l h true) (tF E l h) N n a))) ∧ M2 = M) (214, [(0, .ref 73), (1, .int (nI a)), (2, .int (nI n)), (3, .long (lN (fb_sm f e))), (5, .int (nI e))], [], (SH, M, ML)) := by
  have hN7 := hW.2.1
  have hE10 := hW.2.2.1
  have h1024 := pow_b hE10
  refine up_ind fun e he ih => ?_
  refine w_ld rfl rfl ?_
  refine w_ld rfl rfl ?_
  refine w_call (as := [_]) (rest := [_]) rfl rfl rfl rfl rfl rfl rfl rfl (ok_X12_all _ _ _ hS.2.1 hE10) ?_
  refine w_cj rfl rfl (fun h_220 => ?_) (fun h_220 => ?_)
  · have h9 : e = 2 ^ E := by have := nle (by omega) (by omega) h_220; omega
    subst h9
    refine w_ld rfl rfl ?_
    refine w_ret rfl rfl (trivial) ?_
    exact ⟨by rw [hl], rfl⟩
  · have hlt : e < 2 ^ E := nnle (by omega) (by omega) h_220
    refine w_ld rfl rfl ?_
    refine w_ld rfl rfl ?_
    refine w_getr rfl rfl rfl rfl rfl ?_
    refine w_ld rfl rfl ?_
    refine w_alv rfl rfl rfl (rfl) (by omega) rfl (hf e hlt) ?_
    refine w_bin rfl rfl ?_
    rw [lN_add, ← fb_sm_succ]
    refine w_sto (L' := [(0, _), (1, _), (2, _), (3, _), (5, _)]) rfl rfl ?_
    refine w_inc (y := _ + 1) rfl rfl rfl ?_
    refine w_norm (L' := [(0, _), (1, _), (2, _), (3, _), (5, _)]) rfl ?_
    refine w_go rfl ?_
    rw [nI_1]
    exact ih hlt

set_option maxHeartbeats 1000000 in
set_option maxRecDepth 10000 in
theorem lp_X12_ways_56 {d : Nat} {M : Mm} {ML : Ml} {N E A : Nat} {l h : Nat → Nat} (hS : NM M N E A l h) (hW : WN N E A l h) {a n : Nat} (ha : a < 2 ^ E) (hn : n ≤ 12) : ∀ k, k ≤ n → ∀ ML' f, (∀ c, c < 2 ^ E → ML' 94 c = lN (f c)) → (∀ j, lin (gF E l h true) (tF E l h) N (2 ^ E) f j = wN (gF E l h true) (tF E l h) N (k + j) a) → WP (d + 3) cd_X12_ways false (fun r M2 L2 => r = some (.long (lN (wN (gF E l h true) (tF E l h) N n a))) ∧ M2 = M) (56, [(0, .ref 73), (1, .int (nI a)), (2, .int (nI n)), (3, .int (nI k))], [], (SH, M, ML')) := by
  have hN7 := hW.2.1
  have hE10 := hW.2.2.1
  have h1024 := pow_b hE10
  refine up_ind fun k hk ih => ?_
  intro ML' f hf hl
  have hfb := fun b (hb : b < 2 ^ E) => lin_b hN7 (by omega) hl hb
  refine w_ld rfl rfl ?_
  refine w_ld rfl rfl ?_
  refine w_cj rfl rfl (fun h_58 => ?_) (fun h_58 => ?_)
  · have h9 : k = n := by have := nle (by omega) (by omega) h_58; omega
    subst h9
    refine w_cst (v := .long 0) rfl rfl ?_
    refine w_sto (L' := [(0, _), (1, _), (2, _), (3, _)]) rfl rfl ?_
    refine w_cst (v := .int 0) rfl rfl ?_
    refine w_sto (L' := [(0, _), (1, _), (2, _), (3, _), (5, _)]) rfl rfl ?_
    have h2 := hl 0
    rw [lin_0] at h2
    exact lp_X12_ways_214 hS hW ha hn hf h2 0 (Nat.zero_le _)
  · have hlt : k < n := nnle (by omega) (by omega) h_58
    refine w_cst (v := .int 0) rfl rfl ?_
    refine w_sto (L' := [(0, _), (1, _), (2, _), (3, _), (4, _)]) rfl rfl ?_
    refine lp_X12_ways_64 (ML := ML) hS hW ha hn (fun ML8 hf8 hz8 => ?_) 0 (Nat.zero_le _) ML' hf (fun c hc => absurd hc (Nat.not_lt_zero c))
    refine lp_X12_ways_90 (ML := ML) hS hW ha hn hfb (fun ML9 f9 hf9 hl9 => ?_) 0 (Nat.zero_le _) ML8 (fun _ => 0) hf8 (fun c hc => (hz8 c hc).trans rfl) (fun j => ?_)
    · refine w_cst (v := .int 0) rfl rfl ?_
      refine w_sto (L' := [(0, _), (1, _), (2, _), (3, _), (4, _)]) rfl rfl ?_
      refine lp_X12_ways_174 (ML := ML) hS hW ha hn (fun ML7 hf7 => ?_) 0 (Nat.zero_le _) ML9 hf9 (fun c hc => absurd hc (Nat.not_lt_zero c))
      refine ih hlt ML7 f9 hf7 (fun j => ?_)
      rw [hl9 j]
      have := hl (j + 1)
      rw [show k + (j + 1) = k + 1 + j by omega] at this
      exact this
    · have e : lin (gF E l h true) (tF E l h) N (2 ^ E) (fun _ => 0) j = fb_sm (fun _ => 0) (2 ^ E) := fb_sm_cong fun c _ => Nat.zero_mul _
      rw [e, fb_sm_const, Nat.mul_zero]
      rfl

set_option maxHeartbeats 1000000 in
set_option maxRecDepth 10000 in
theorem lp_X12_ways_24 {d : Nat} {M : Mm} {ML : Ml} {N E A : Nat} {l h : Nat → Nat} (hS : NM M N E A l h) (hW : WN N E A l h) {a n : Nat} (ha : a < 2 ^ E) (hn : n ≤ 12) : ∀ e, e ≤ 2 ^ E → ∀ ML', (∀ c, c < e → ML' 94 c = lN (if c = a then 1 else 0)) → WP (d + 3) cd_X12_ways false (fun r M2 L2 => r = some (.long (lN (wN (gF E l h true) (tF E l h) N n a))) ∧ M2 = M) (24, [(0, .ref 73), (1, .int (nI a)), (2, .int (nI n)), (3, .int (nI e))], [], (SH, M, ML')) := by
  have hN7 := hW.2.1
  have hE10 := hW.2.2.1
  have h1024 := pow_b hE10
  refine up_ind fun e he ih => ?_
  intro ML' hf
  refine w_ld rfl rfl ?_
  refine w_ld rfl rfl ?_
  refine w_call (as := [_]) (rest := [_]) rfl rfl rfl rfl rfl rfl rfl rfl (ok_X12_all _ _ _ hS.2.1 hE10) ?_
  refine w_cj rfl rfl (fun h_29 => ?_) (fun h_29 => ?_)
  · have h9 : e = 2 ^ E := by have := nle (by omega) (by omega) h_29; omega
    subst h9
    refine w_cst (v := .int 0) rfl rfl ?_
    refine w_sto (L' := [(0, _), (1, _), (2, _), (3, _)]) rfl rfl ?_
    exact lp_X12_ways_56 (ML := ML) hS hW ha hn 0 (Nat.zero_le _) ML' (fun b => if b = a then 1 else 0) hf (fun j => by rw [lin_one ha, Nat.zero_add])
  · have hlt : e < 2 ^ E := nnle (by omega) (by omega) h_29
    refine w_ld rfl rfl ?_
    refine w_getr rfl rfl rfl rfl rfl ?_
    refine w_ld rfl rfl ?_
    refine w_ld rfl rfl ?_
    refine w_ld rfl rfl ?_
    refine w_cj rfl rfl (fun h_39 => ?_) (fun h_39 => ?_)
    · refine w_cst (v := .long 0) rfl rfl ?_
      refine w_sln rfl rfl rfl (rfl) (by omega) rfl ?_
      refine w_inc (y := _ + 1) rfl rfl rfl ?_
      refine w_norm (L' := [(0, _), (1, _), (2, _), (3, _)]) rfl ?_
      refine w_go rfl ?_
      rw [nI_1]
      refine ih hlt _ (fun c hc => ?_)
      by_cases q : c = e
      · rw [q, up2L_e]
        first
          | (rw [if_neg (fun w => h_39 (by rw [w]))]
             exact rfl)
          | (rw [if_pos (neq (by omega) (by omega) (Classical.not_not.mp h_39))]
             exact rfl)
      · rw [up2L_k q]
        exact hf c (by omega)
    · refine w_cst (v := .long 1) rfl rfl ?_
      refine w_go rfl ?_
      refine w_sln rfl rfl rfl (rfl) (by omega) rfl ?_
      refine w_inc (y := _ + 1) rfl rfl rfl ?_
      refine w_norm (L' := [(0, _), (1, _), (2, _), (3, _)]) rfl ?_
      refine w_go rfl ?_
      rw [nI_1]
      refine ih hlt _ (fun c hc => ?_)
      by_cases q : c = e
      · rw [q, up2L_e]
        first
          | (rw [if_neg (fun w => h_39 (by rw [w]))]
             exact rfl)
          | (rw [if_pos (neq (by omega) (by omega) (Classical.not_not.mp h_39))]
             exact rfl)
      · rw [up2L_k q]
        exact hf c (by omega)

set_option maxHeartbeats 1000000 in
set_option maxRecDepth 10000 in
theorem ok_X12_ways {d : Nat} {M : Mm} {ML : Ml} {N E A : Nat} {l h : Nat → Nat} (hS : NM M N E A l h) (hW : WN N E A l h) {x y : Int32} : EX (d + 4) k_X12_ways [.ref 73, .int x, .int y] M ML (fun r M2 L2 => r = some (.long (waysA N E l h x y)) ∧ M2 = M) := by
  refine EX_in mi_X12_ways rfl rfl ?_
  show WP _ cd_X12_ways false _ (0, [(0, .ref 73), (1, .int x), (2, .int y)], [], (SH, M, ML))
  have hE10 := hW.2.2.1
  have h1024 := pow_b hE10
  refine w_ld rfl rfl ?_
  refine w_ld rfl rfl ?_
  refine w_cife (as := [_, _]) (rest := []) rfl rfl rfl rfl rfl rfl rfl rfl (ok_X12_isArrowing _ _ _ _ hS.2.1 hW.2.2.1) rfl (fun h_2 => ?_) (fun h_2 => ?_)
  · refine w_ldl rfl ?_
    refine w_ret rfl rfl (trivial) ?_
    refine ⟨?_, rfl⟩
    unfold waysA
    first
      | (rw [h_2]; rfl)
      | (rw [h_2, show wh y 12 = false from h_12]; rfl)
  · refine w_ld rfl rfl ?_
    refine w_cst (v := .int 0) rfl rfl ?_
    refine w_cst (v := .int 12) rfl rfl ?_
    refine w_cifn (as := [_, _, _]) (rest := []) rfl rfl rfl rfl rfl rfl rfl rfl (ok_X12_in ..) rfl (fun h_12 => ?_) (fun h_12 => ?_)
    · obtain ⟨a, ha, rfl⟩ := inR_ex (by omega) h_2
      obtain ⟨n, hn, rfl⟩ := wh_ex (n := 12) (by decide) h_12
      refine w_cst (v := .int 0) rfl rfl ?_
      refine w_sto (L' := [(0, _), (1, _), (2, _), (3, _)]) rfl rfl ?_
      unfold waysA
      rw [h_2, show wh (nI n) 12 = true from h_12, nI_clamp (by omega), nI_clamp (by omega)]
      exact lp_X12_ways_24 (ML := ML) hS hW ha hn 0 (Nat.zero_le _) ML (fun c hc => absurd hc (Nat.not_lt_zero c))
    · refine w_ldl rfl ?_
      refine w_ret rfl rfl (trivial) ?_
      refine ⟨?_, rfl⟩
      unfold waysA
      first
        | (rw [h_2]; rfl)
        | (rw [h_2, show wh y 12 = false from h_12]; rfl)

