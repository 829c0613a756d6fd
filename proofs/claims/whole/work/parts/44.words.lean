/-! ===== words ===== -/
/-- a word's digits, from the right -/
def dg (w j : Nat) : Nat := w / 10 ^ j % 10
def wB (N w : Nat) : Bool := decide (w < 10 ^ N) && (List.range N).all fun v => (List.range N).any fun j => decide (dg w j = v + 1)
theorem wB_iff {N w : Nat} : wB N w = true ↔ w < 10 ^ N ∧ ∀ v, v < N → ∃ j, j < N ∧ dg w j = v + 1 := by
  unfold wB
  rw [Bool.and_eq_true, decide_eq_true_iff, List.all_eq_true]
  refine and_congr Iff.rfl ⟨fun q v hv => ?_, fun q v hv => ?_⟩
  · obtain ⟨j, h1, h2⟩ := List.any_eq_true.mp (q v (List.mem_range.mpr hv))
    exact ⟨j, List.mem_range.mp h1, of_decide_eq_true h2⟩
  · obtain ⟨j, h1, h2⟩ := q v (List.mem_range.mp hv)
    exact List.any_eq_true.mpr ⟨j, List.mem_range.mpr h1, decide_eq_true h2⟩
/-- where a node's digit stands, from the right; N: nowhere -/
def pj (N w v : Nat) : Nat := fa_first (fun j => decide (dg w j = v + 1)) N
/-- the place of a node in a word -/
def pl (N w v : Nat) : Nat := N - 1 - pj N w v
theorem ff_eq {p : Nat → Bool} {n j : Nat} (hj : j < n) (hp : p j = true) (hl : ∀ i, i < j → p i = false) : fa_first p n = j := by
  have h1 : fa_first p n ≤ j := by
    refine Nat.not_lt.mp fun q => ?_
    have := fa_first_no p n j q
    rw [hp] at this
    exact Bool.noConfusion this
  rcases Nat.lt_or_ge (fa_first p n) j with q | q
  · have h2 := fa_first_yes p n (by omega)
    rw [hl _ q] at h2
    exact Bool.noConfusion h2
  · omega
theorem ff_lt {p : Nat → Bool} {n j : Nat} (hj : j < n) (hp : p j = true) : fa_first p n ≤ j := by
  refine Nat.not_lt.mp fun q => ?_
  have := fa_first_no p n j q
  rw [hp] at this
  exact Bool.noConfusion this
theorem wB_1 {N w : Nat} (h : wB N w = true) {v : Nat} (hv : v < N) : pj N w v < N ∧ dg w (pj N w v) = v + 1 := by
  obtain ⟨j, h1, h2⟩ := (wB_iff.mp h).2 v hv
  have h3 : pj N w v ≤ j := ff_lt h1 (decide_eq_true h2)
  exact ⟨by omega, of_decide_eq_true (fa_first_yes (fun j => decide (dg w j = v + 1)) N (by unfold pj at h3; omega))⟩
theorem wB_2 {N w : Nat} (h : wB N w = true) {j : Nat} (hj : j < N) : ∃ v, v < N ∧ dg w j = v + 1 ∧ pj N w v = j := by
  obtain ⟨v, hv, e⟩ := fb_onto (f := pj N w) (fun i hi => (wB_1 h hi).1) (fun a b hab hb q => by
    have h1 := (wB_1 h (v := a) (by omega)).2
    have h2 := (wB_1 h hb).2
    rw [q, h2] at h1
    omega) hj
  refine ⟨v, hv, ?_, e⟩
  rw [← e]
  exact (wB_1 h hv).2
theorem wB_3 {N w : Nat} (h : wB N w = true) {u v : Nat} (hu : u < N) (hv : v < N) (e : pl N w u = pl N w v) : u = v := by
  have h1 := wB_1 h hu
  have h2 := wB_1 h hv
  unfold pl at e
  have e2 : pj N w u = pj N w v := by omega
  rw [e2, h2.2] at h1
  omega
theorem wB_of {N w : Nat} (h0 : w < 10 ^ N) (h1 : ∀ j, j < N → 1 ≤ dg w j ∧ dg w j ≤ N) (h2 : ∀ i j, i < j → j < N → dg w i ≠ dg w j) : wB N w = true := by
  refine wB_iff.mpr ⟨h0, fun v hv => ?_⟩
  obtain ⟨j, hj, e⟩ := fb_onto (f := fun j => dg w j - 1) (n := N) (fun i hi => by have := h1 i hi; show dg w i - 1 < N; omega) (fun a b hab hb q => by
    have q' : dg w a - 1 = dg w b - 1 := q
    have a1 := h1 a (by omega)
    have a2 := h1 b hb
    exact h2 a b hab hb (by omega)) hv
  have e' : dg w j - 1 = v := e
  have := h1 j hj
  exact ⟨j, hj, by omega⟩
theorem wB_lt {N w : Nat} (h : wB N w = true) (hN : N ≤ 7) : w < 10000000 := Nat.lt_of_lt_of_le (wB_iff.mp h).1 (show 10 ^ N ≤ 10 ^ 7 from Nat.pow_le_pow_right (by decide) hN)
theorem div_step (w t : Nat) : w / 10 ^ t / 10 = w / 10 ^ (t + 1) := by rw [Nat.div_div_eq_div_mul, Nat.pow_succ]
theorem rem10 {x : Nat} (h : x < 2 ^ 31) : nI x - nI x / 10 * 10 = nI (x % 10) := pk_rem (d := 10) h (by decide) (by decide)
theorem div10 {x : Nat} (h : x < 2 ^ 31) : nI x / 10 = nI (x / 10) := pk_div (d := 10) h (by decide) (by decide)
/-- a word told as an int -/
def wdB (N : Nat) (x : Int32) : Bool := decide (0 ≤ x) && wB N x.toNatClampNeg
theorem wdB_nI {N w : Nat} (h : w < 2 ^ 31) : wdB N (nI w) = wB N w := by
  unfold wdB
  rw [nI_clamp h, decide_eq_true (nI_pos' h), Bool.true_and]
theorem wdB_neg {N : Nat} {x : Int32} (h : x < 0) : wdB N x = false := by
  unfold wdB
  rw [decide_eq_false (Int32.not_le.mpr h), Bool.false_and]
theorem wdB_ex {N : Nat} {x : Int32} (h : wdB N x = true) : ∃ w, w < 2 ^ 31 ∧ x = nI w ∧ wB N w = true := by
  unfold wdB at h
  rw [Bool.and_eq_true] at h
  obtain ⟨w, hw, rfl⟩ := nI_of (nlt0.mpr (of_decide_eq_true h.1))
  rw [nI_clamp hw] at h
  exact ⟨w, hw, rfl, h.2⟩
theorem neg_rem {x : Int32} (h : x < 0) : x - x / 10 * 10 - 1 < 0 := by
  have hx := fb_rng x
  have ht : (10 : Int32).toInt = 10 := by decide
  have h1 : (1 : Int32).toInt = 1 := by decide
  rw [Int32.lt_iff_toInt_lt, Int32.toInt_zero] at h ⊢
  have hk : x.toInt.tdiv 10 = -((-x.toInt) / 10) := by
    have e : x.toInt = -(-x.toInt) := by omega
    rw [e, Int.neg_tdiv, Int.tdiv_eq_ediv_of_nonneg (by omega)]
    omega
  have hd : (x / 10).toInt = x.toInt.tdiv 10 := by
    rw [Int32.toInt_div, ht]
    refine fb_bmod ?_ ?_ <;> (rw [hk]; omega)
  have hm : (x / 10 * 10).toInt = x.toInt.tdiv 10 * 10 := by
    rw [fb_mulI (by rw [hd, ht, hk]; omega) (by rw [hd, ht, hk]; omega), hd, ht]
  have hs : (x - x / 10 * 10).toInt = x.toInt - x.toInt.tdiv 10 * 10 := by
    rw [fb_subI (by rw [hm, hk]; omega) (by rw [hm, hk]; omega), hm]
  rw [fb_subI (by rw [hs, h1, hk]; omega) (by rw [hs, h1, hk]; omega), hs, h1, hk]
  omega
/-- the digits that were seen -/
def sn (w t : Nat) : Nat := msk (fun v => decide (∃ j, j < t ∧ dg w j = v + 1)) 7
theorem sn_0 (w : Nat) : sn w 0 = 0 := msk_zero.mpr fun i _ => decide_eq_false (by rintro ⟨j, hj, -⟩; omega)
theorem sn_bit {w t v : Nat} (hv : v < 7) : (sn w t).testBit v = decide (∃ j, j < t ∧ dg w j = v + 1) := by
  unfold sn
  rw [msk_bit, decide_eq_true hv, Bool.true_and]
theorem sn_lt (w t : Nat) : sn w t < 128 := msk_lt _ 7
theorem sn_s {w t v : Nat} (hv : v < 7) (e : dg w t = v + 1) : sn w t ||| 2 ^ v = sn w (t + 1) := by
  refine Nat.eq_of_testBit_eq fun i => ?_
  rw [fb_bit_set]
  unfold sn
  rw [msk_bit, msk_bit]
  by_cases hi : i < 7
  · rw [decide_eq_true hi, Bool.true_and, Bool.true_and]
    by_cases q : i = v
    · subst q
      rw [decide_eq_true (rfl : i = i), Bool.or_true]
      exact (decide_eq_true ⟨t, by omega, e⟩).symm
    · rw [decide_eq_false q, Bool.or_false]
      exact decide_eq_decide.mpr ⟨fun ⟨j, h1, h2⟩ => ⟨j, by omega, h2⟩, fun ⟨j, h1, h2⟩ => ⟨j, by
        rcases Nat.lt_or_ge j t with r | r
        · exact r
        · have : j = t := by omega
          subst this
          omega, h2⟩⟩
  · rw [decide_eq_false hi, Bool.false_and, Bool.false_and, Bool.false_or]
    exact decide_eq_false (fun q => hi (by omega))
/-- what holds behind t digits that were taken -/
def tkI (M : Mm) (R N w t : Nat) : Prop := (∀ j, j < t → 1 ≤ dg w j ∧ dg w j ≤ N) ∧ (∀ i j, i < j → j < t → dg w i ≠ dg w j) ∧ ∀ j, j < t → M R (dg w j - 1) = nI (N - 1 - j)
theorem tk_no {N w t v : Nat} (hN7 : N ≤ 7) (h : wB N w = true) (ht : t < N) (hv : dg w t = v + 1) : v < N ∧ (sn w t).testBit v = false := by
  obtain ⟨u, hu, e, hp⟩ := wB_2 h ht
  have : u = v := by omega
  subst this
  refine ⟨hu, ?_⟩
  rw [sn_bit (by omega)]
  refine decide_eq_false fun ⟨j, hj, hd⟩ => ?_
  have : pj N w u ≤ j := ff_lt (by omega) (decide_eq_true hd)
  omega
theorem dgd {w t : Nat} (h : w < 2 ^ 31) : w / 10 ^ t < 2 ^ 31 := Nat.lt_of_le_of_lt (Nat.div_le_self _ _) h
theorem ne_m1 {n : Nat} (h : n < 2 ^ 31) : ¬ nI n < 0 := fun q => nlt0.mpr (nI_pos' h) q
theorem nI_s1 (n : Nat) : nI (n + 1) - 1 = nI n := by
  rw [show (1 : Int32) = nI 1 from rfl, pk_sub (by omega)]
  rfl

set_option maxHeartbeats 1000000 in
set_option maxRecDepth 10000 in
theorem lp_X10_take_40 {d : Nat} {M : Mm} {ML : Ml} {N w : Nat} (hN7 : N ≤ 7) (hN1 : 1 ≤ N) (hw : w < 2 ^ 31) {x : Int32} : ∀ e t, e + t = N → ∀ M', Fr [40] M M' → tkI M' 40 N w t → WP (d + 1) cd_X10_take true (fun r M2 L2 => r = some (.int (b2i (wB N w))) ∧ L2 = ML ∧ Fr [40] M M2 ∧ (wB N w = true → ∀ v, v < N → M2 40 v = nI (pl N w v))) (10, [(0, .int (nI N)), (1, .int x), (2, .ref 40), (3, .int (nI (w / 10 ^ t))), (4, .int (nI (sn w t))), (5, .int (nI e - 1))], [], (SH, M', ML)) := by
  intro e
  induction e with
  | zero =>
    intro t ht M' hF hI
    have ht' : t = N := by omega
    subst ht'
    refine w_ld rfl rfl ?_
    refine w_cjT rfl rfl (by decide) ?_
    refine w_ld rfl rfl ?_
    refine w_cj rfl rfl (fun h_75 => ?_) (fun h_75 => ?_)
    · refine w_cst (v := .int 0) rfl rfl ?_
      refine w_ret rfl rfl rb0 ?_
      have hbad : wB t w = false := Bool.eq_false_iff.mpr fun hB => h_75 (by rw [Nat.div_eq_of_lt (wB_iff.mp hB).1]; rfl)
      exact ⟨by rw [hbad]; rfl, rfl, hF, fun q => by rw [hbad] at q; exact Bool.noConfusion q⟩
    · refine w_cst (v := .int 1) rfl rfl ?_
      refine w_go rfl ?_
      refine w_ret rfl rfl rb1 ?_
      have hz : w / 10 ^ t = 0 := (nI_e0 (dgd hw)).mp (Classical.not_not.mp h_75)
      have hB : wB t w = true := wB_of (Nat.lt_of_not_le fun q => absurd (Nat.div_pos q (Nat.pow_pos (by decide))) (by omega)) hI.1 hI.2.1
      refine ⟨by rw [hB]; rfl, rfl, hF, fun _ v hv => ?_⟩
      obtain ⟨h1, h2⟩ := wB_1 hB hv
      have h3 := hI.2.2 _ h1
      rw [h2] at h3
      exact h3
  | succ e ih =>
    intro t ht M' hF hI
    have htN : t < N := by omega
    refine w_ld rfl rfl ?_
    refine w_cjF rfl rfl (by rw [nI_s1]; exact ne_m1 (by omega)) ?_
    refine w_ld rfl rfl ?_
    refine w_cst (v := .int 10) rfl rfl ?_
    refine w_div rfl rfl (by decide) ?_
    refine w_cst (v := .int 1) rfl rfl ?_
    refine w_bin rfl rfl ?_
    rw [rem10 (dgd hw)]
    show WP _ _ _ _ (_, _, [.int (nI (dg w t) - 1)], _)
    refine w_sto (L' := [(0, _), (1, _), (2, _), (3, _), (4, _), (5, _), (6, _)]) rfl rfl ?_
    rw [nI_s1]
    rcases Nat.eq_zero_or_pos (dg w t) with h0 | h0
    · rw [h0]
      refine w_ld rfl rfl ?_
      refine w_cjT rfl rfl (by decide) ?_
      have hbad : wB N w = false := by
        refine Bool.eq_false_iff.mpr fun hB => ?_
        obtain ⟨v, hv, e1, -⟩ := wB_2 hB htN
        omega
      refine w_cst (v := .int 0) rfl rfl ?_
      refine w_ret rfl rfl rb0 ?_
      exact ⟨by rw [hbad]; rfl, rfl, hF, fun q => by rw [hbad] at q; exact Bool.noConfusion q⟩
    · obtain ⟨v, hv⟩ : ∃ v, dg w t = v + 1 := ⟨dg w t - 1, by omega⟩
      have hv10 : dg w t < 10 := Nat.mod_lt _ (by decide)
      rw [hv, nI_s1]
      refine w_ld rfl rfl ?_
      refine w_cjF rfl rfl (ne_m1 (by omega)) ?_
      refine w_ld rfl rfl ?_
      refine w_ld rfl rfl ?_
      refine w_cj rfl rfl (fun h_31 => ?_) (fun h_31 => ?_)
      · have hbad : wB N w = false := by
          refine Bool.eq_false_iff.mpr fun hB => ?_
          obtain ⟨q1, q2⟩ := tk_no hN7 hB htN hv
          first
            | exact absurd (nle (by omega) (by omega) h_31) (by omega)
            | (rw [tb_nI (Nat.lt_trans (sn_lt _ _) (by decide)) (by omega), q2] at h_38; exact Bool.noConfusion h_38)
        refine w_cst (v := .int 0) rfl rfl ?_
        refine w_ret rfl rfl rb0 ?_
        exact ⟨by rw [hbad]; rfl, rfl, hF, fun q => by rw [hbad] at q; exact Bool.noConfusion q⟩
      · refine w_ld rfl rfl ?_
        refine w_ld rfl rfl ?_
        refine w_cife (as := [_, _]) (rest := []) rfl rfl rfl rfl rfl rfl rfl rfl (ok_X11_isIn _ _ _ _ _) rfl (fun h_38 => ?_) (fun h_38 => ?_)
        · have hvN : v < N := nnle (by omega) (by omega) h_31
          refine w_ld rfl rfl ?_
          refine w_cst (v := .int 1) rfl rfl ?_
          refine w_ld rfl rfl ?_
          refine w_bin rfl rfl ?_
          refine w_bin rfl rfl ?_
          rw [or_sh (by omega), sn_s (by omega) hv]
          refine w_sto (L' := [(0, _), (1, _), (2, _), (3, _), (4, _), (5, _), (6, _)]) rfl rfl ?_
          refine w_ld rfl rfl ?_
          refine w_ld rfl rfl ?_
          refine w_ld rfl rfl ?_
          refine w_callv (as := [_, _, _]) (rest := []) rfl rfl rfl rfl rfl rfl rfl rfl (ok_lay_n _ _ _ _ _ rfl rfl rfl (rfl) (by omega)) ?_
          skip
          refine w_ld rfl rfl ?_
          refine w_cst (v := .int 10) rfl rfl ?_
          refine w_div rfl rfl (by decide) ?_
          rw [div10 (dgd hw), div_step]
          refine w_sto (L' := [(0, _), (1, _), (2, _), (3, _), (4, _), (5, _), (6, _)]) rfl rfl ?_
          refine w_inc (y := nI e - 1) rfl rfl (nI_pm e) ?_
          refine w_norm (L' := [(0, _), (1, _), (2, _), (3, _), (4, _), (5, _), (6, _)]) rfl ?_
          refine w_go rfl ?_
          refine w_keep [0, 1, 2, 3, 4, 5] (L' := [(0, _), (1, _), (2, _), (3, _), (4, _), (5, _)]) rfl ?_
          refine ih (t + 1) (by omega) _ ?_ ⟨fun j hj => ?_, fun i j hij hj => ?_, fun j hj => ?_⟩
          · exact Fr_up (by decide) hF
          · rcases Nat.lt_or_ge j t with q | q
            · exact hI.1 j q
            · have : j = t := by omega
              subst this
              omega
          · rcases Nat.lt_or_ge j t with q | q
            · exact hI.2.1 i j hij q
            · have : j = t := by omega
              subst this
              intro q2
              rw [tb_nI (Nat.lt_trans (sn_lt _ _) (by decide)) (by omega), sn_bit (by omega)] at h_38
              exact of_decide_eq_false h_38 ⟨i, hij, by rw [q2, hv]⟩
          · rcases Nat.lt_or_ge j t with q | q
            · have h1 := hI.1 j q
              rw [up2_k (fun r => ?_)]
              · exact hI.2.2 j q
              · rw [tb_nI (Nat.lt_trans (sn_lt _ _) (by decide)) (by omega), sn_bit (by omega)] at h_38
                exact of_decide_eq_false h_38 ⟨j, q, by omega⟩
            · have : j = t := by omega
              subst this
              rw [show dg w j - 1 = v by omega, up2_e]
              exact congrArg nI (by omega)
        · have hbad : wB N w = false := by
            refine Bool.eq_false_iff.mpr fun hB => ?_
            obtain ⟨q1, q2⟩ := tk_no hN7 hB htN hv
            first
              | exact absurd (nle (by omega) (by omega) h_31) (by omega)
              | (rw [tb_nI (Nat.lt_trans (sn_lt _ _) (by decide)) (by omega), q2] at h_38; exact Bool.noConfusion h_38)
          refine w_cst (v := .int 0) rfl rfl ?_
          refine w_ret rfl rfl rb0 ?_
          exact ⟨by rw [hbad]; rfl, rfl, hF, fun q => by rw [hbad] at q; exact Bool.noConfusion q⟩
set_option maxHeartbeats 1000000 in
set_option maxRecDepth 10000 in
theorem ok_X10_take_40 {d : Nat} {M : Mm} {ML : Ml} {N w : Nat} (hN7 : N ≤ 7) (hN1 : 1 ≤ N) (hw : w < 2 ^ 31) : EX (d + 2) k_X10_take [.int (nI N), .int (nI w), .ref 40] M ML (fun r M2 L2 => r = some (.int (b2i (wB N w))) ∧ L2 = ML ∧ Fr [40] M M2 ∧ (wB N w = true → ∀ v, v < N → M2 40 v = nI (pl N w v))) := by
  refine EX_in mi_X10_take rfl rfl ?_
  show WP _ cd_X10_take true _ (0, [(0, .int (nI N)), (1, .int (nI w)), (2, .ref 40)], [], (SH, M, ML))
  refine w_ld rfl rfl ?_
  refine w_sto (L' := [(0, _), (1, _), (2, _), (3, _)]) rfl rfl ?_
  refine w_cst (v := .int 0) rfl rfl ?_
  refine w_sto (L' := [(0, _), (1, _), (2, _), (3, _), (4, _)]) rfl rfl ?_
  refine w_ld rfl rfl ?_
  refine w_cst (v := .int 1) rfl rfl ?_
  refine w_bin rfl rfl ?_
  refine w_sto (L' := [(0, _), (1, _), (2, _), (3, _), (4, _), (5, _)]) rfl rfl ?_
  have hp := lp_X10_take_40 (d := d) (M := M) (ML := ML) (x := nI w) hN7 hN1 hw N 0 (by omega) M Fr_rf ⟨fun j hj => absurd hj (Nat.not_lt_zero j), fun i j _ hj => absurd hj (Nat.not_lt_zero j), fun j hj => absurd hj (Nat.not_lt_zero j)⟩
  rw [Nat.pow_zero, Nat.div_one, sn_0] at hp
  exact hp

set_option maxHeartbeats 1000000 in
set_option maxRecDepth 10000 in
theorem ok_X10_take_n40 {d : Nat} {M : Mm} {ML : Ml} {N : Nat} {x : Int32} (hN1 : 1 ≤ N) (hN7 : N ≤ 7) (hx : x < 0) : EX (d + 2) k_X10_take [.int (nI N), .int x, .ref 40] M ML (fun r M2 L2 => r = some (.int 0) ∧ L2 = ML ∧ M2 = M) := by
  refine EX_in mi_X10_take rfl rfl ?_
  show WP _ cd_X10_take true _ (0, [(0, .int (nI N)), (1, .int x), (2, .ref 40)], [], (SH, M, ML))
  refine w_ld rfl rfl ?_
  refine w_sto (L' := [(0, _), (1, _), (2, _), (3, _)]) rfl rfl ?_
  refine w_cst (v := .int 0) rfl rfl ?_
  refine w_sto (L' := [(0, _), (1, _), (2, _), (3, _), (4, _)]) rfl rfl ?_
  refine w_ld rfl rfl ?_
  refine w_cst (v := .int 1) rfl rfl ?_
  refine w_bin rfl rfl ?_
  refine w_sto (L' := [(0, _), (1, _), (2, _), (3, _), (4, _), (5, _)]) rfl rfl ?_
  refine w_ld rfl rfl ?_
  refine w_cjF rfl rfl (by rw [show nI N = nI ((N - 1) + 1) from congrArg nI (by omega), nI_s1]; exact ne_m1 (by omega)) ?_
  refine w_ld rfl rfl ?_
  refine w_cst (v := .int 10) rfl rfl ?_
  refine w_div rfl rfl (by decide) ?_
  refine w_cst (v := .int 1) rfl rfl ?_
  refine w_bin rfl rfl ?_
  refine w_sto (L' := [(0, _), (1, _), (2, _), (3, _), (4, _), (5, _), (6, _)]) rfl rfl ?_
  refine w_ld rfl rfl ?_
  refine w_cjT rfl rfl (neg_rem hx) ?_
  refine w_cst (v := .int 0) rfl rfl ?_
  refine w_ret rfl rfl (rb0) ?_
  exact ⟨rfl, rfl, rfl⟩

theorem ok_X10_takeOne {d : Nat} {M : Mm} {ML : Ml} {N E A : Nat} {l h : Nat → Nat} (hW : WN N E A l h) {x : Int32} : EX (d + 3) k_X10_takeOne [.ref 39, .int (nI N), .int x] M ML (fun r M2 L2 => r = some (.int (b2i (wdB N x))) ∧ L2 = ML ∧ Fr [40] M M2 ∧ (wdB N x = true → ∀ v, v < N → M2 40 v = nI (pl N x.toNatClampNeg v))) := by
  refine EX_in mi_X10_takeOne rfl rfl ?_
  show WP _ cd_X10_takeOne true _ (0, [(0, .ref 39), (1, .int (nI N)), (2, .int x)], [], (SH, M, ML))
  by_cases hx : x < 0
  · refine w_ld rfl rfl ?_
    refine w_ld rfl rfl ?_
    refine w_ld rfl rfl ?_
    refine w_getr rfl rfl rfl rfl rfl ?_
    obtain ⟨_, M3, L3, ⟨rfl, rfl, rfl⟩, hE6⟩ := ok_X10_take_n40 (d := d) (ML := ML) (M := M) hW.1 hW.2.1 hx
    refine w_call (as := [_, _, _]) (rest := []) rfl rfl rfl rfl rfl rfl rfl rfl hE6 ?_
    refine w_ret rfl rfl (rb0) ?_
    exact ⟨by rw [wdB_neg hx]; rfl, rfl, Fr_rf, fun q => by rw [wdB_neg hx] at q; exact Bool.noConfusion q⟩
  · obtain ⟨w, hw, rfl⟩ := nI_of hx
    rw [wdB_nI hw, nI_clamp hw]
    refine w_ld rfl rfl ?_
    refine w_ld rfl rfl ?_
    refine w_ld rfl rfl ?_
    refine w_getr rfl rfl rfl rfl rfl ?_
    obtain ⟨_, M3, L3, ⟨rfl, rfl, hF, hp⟩, hE6⟩ := ok_X10_take_40 (d := d) (ML := ML) (M := M) hW.2.1 hW.1 hw
    refine w_call (as := [_, _, _]) (rest := []) rfl rfl rfl rfl rfl rfl rfl rfl hE6 ?_
    refine w_ret rfl rfl (by first | exact rb0 | exact rb1 | exact rbB _) ?_
    exact ⟨rfl, rfl, hF, hp⟩
set_option maxHeartbeats 1000000 in
set_option maxRecDepth 10000 in
theorem lp_X10_take_41 {d : Nat} {M : Mm} {ML : Ml} {N w : Nat} (hN7 : N ≤ 7) (hN1 : 1 ≤ N) (hw : w < 2 ^ 31) {x : Int32} : ∀ e t, e + t = N → ∀ M', Fr [41] M M' → tkI M' 41 N w t → WP (d + 1) cd_X10_take true (fun r M2 L2 => r = some (.int (b2i (wB N w))) ∧ L2 = ML ∧ Fr [41] M M2 ∧ (wB N w = true → ∀ v, v < N → M2 41 v = nI (pl N w v))) (10, [(0, .int (nI N)), (1, .int x), (2, .ref 41), (3, .int (nI (w / 10 ^ t))), (4, .int (nI (sn w t))), (5, .int (nI e - 1))], [], (SH, M', ML)) := by
  intro e
  induction e with
  | zero =>
    intro t ht M' hF hI
    have ht' : t = N := by omega
    subst ht'
    refine w_ld rfl rfl ?_
    refine w_cjT rfl rfl (by decide) ?_
    refine w_ld rfl rfl ?_
    refine w_cj rfl rfl (fun h_75 => ?_) (fun h_75 => ?_)
    · refine w_cst (v := .int 0) rfl rfl ?_
      refine w_ret rfl rfl rb0 ?_
      have hbad : wB t w = false := Bool.eq_false_iff.mpr fun hB => h_75 (by rw [Nat.div_eq_of_lt (wB_iff.mp hB).1]; rfl)
      exact ⟨by rw [hbad]; rfl, rfl, hF, fun q => by rw [hbad] at q; exact Bool.noConfusion q⟩
    · refine w_cst (v := .int 1) rfl rfl ?_
      refine w_go rfl ?_
      refine w_ret rfl rfl rb1 ?_
      have hz : w / 10 ^ t = 0 := (nI_e0 (dgd hw)).mp (Classical.not_not.mp h_75)
      have hB : wB t w = true := wB_of (Nat.lt_of_not_le fun q => absurd (Nat.div_pos q (Nat.pow_pos (by decide))) (by omega)) hI.1 hI.2.1
      refine ⟨by rw [hB]; rfl, rfl, hF, fun _ v hv => ?_⟩
      obtain ⟨h1, h2⟩ := wB_1 hB hv
      have h3 := hI.2.2 _ h1
      rw [h2] at h3
      exact h3
  | succ e ih =>
    intro t ht M' hF hI
    have htN : t < N := by omega
    refine w_ld rfl rfl ?_
    refine w_cjF rfl rfl (by rw [nI_s1]; exact ne_m1 (by omega)) ?_
    refine w_ld rfl rfl ?_
    refine w_cst (v := .int 10) rfl rfl ?_
    refine w_div rfl rfl (by decide) ?_
    refine w_cst (v := .int 1) rfl rfl ?_
    refine w_bin rfl rfl ?_
    rw [rem10 (dgd hw)]
    show WP _ _ _ _ (_, _, [.int (nI (dg w t) - 1)], _)
    refine w_sto (L' := [(0, _), (1, _), (2, _), (3, _), (4, _), (5, _), (6, _)]) rfl rfl ?_
    rw [nI_s1]
    rcases Nat.eq_zero_or_pos (dg w t) with h0 | h0
    · rw [h0]
      refine w_ld rfl rfl ?_
      refine w_cjT rfl rfl (by decide) ?_
      have hbad : wB N w = false := by
        refine Bool.eq_false_iff.mpr fun hB => ?_
        obtain ⟨v, hv, e1, -⟩ := wB_2 hB htN
        omega
      refine w_cst (v := .int 0) rfl rfl ?_
      refine w_ret rfl rfl rb0 ?_
      exact ⟨by rw [hbad]; rfl, rfl, hF, fun q => by rw [hbad] at q; exact Bool.noConfusion q⟩
    · obtain ⟨v, hv⟩ : ∃ v, dg w t = v + 1 := ⟨dg w t - 1, by omega⟩
      have hv10 : dg w t < 10 := Nat.mod_lt _ (by decide)
      rw [hv, nI_s1]
      refine w_ld rfl rfl ?_
      refine w_cjF rfl rfl (ne_m1 (by omega)) ?_
      refine w_ld rfl rfl ?_
      refine w_ld rfl rfl ?_
      refine w_cj rfl rfl (fun h_31 => ?_) (fun h_31 => ?_)
      · have hbad : wB N w = false := by
          refine Bool.eq_false_iff.mpr fun hB => ?_
          obtain ⟨q1, q2⟩ := tk_no hN7 hB htN hv
          first
            | exact absurd (nle (by omega) (by omega) h_31) (by omega)
            | (rw [tb_nI (Nat.lt_trans (sn_lt _ _) (by decide)) (by omega), q2] at h_38; exact Bool.noConfusion h_38)
        refine w_cst (v := .int 0) rfl rfl ?_
        refine w_ret rfl rfl rb0 ?_
        exact ⟨by rw [hbad]; rfl, rfl, hF, fun q => by rw [hbad] at q; exact Bool.noConfusion q⟩
      · refine w_ld rfl rfl ?_
        refine w_ld rfl rfl ?_
        refine w_cife (as := [_, _]) (rest := []) rfl rfl rfl rfl rfl rfl rfl rfl (ok_X11_isIn _ _ _ _ _) rfl (fun h_38 => ?_) (fun h_38 => ?_)
        · have hvN : v < N := nnle (by omega) (by omega) h_31
          refine w_ld rfl rfl ?_
          refine w_cst (v := .int 1) rfl rfl ?_
          refine w_ld rfl rfl ?_
          refine w_bin rfl rfl ?_
          refine w_bin rfl rfl ?_
          rw [or_sh (by omega), sn_s (by omega) hv]
          refine w_sto (L' := [(0, _), (1, _), (2, _), (3, _), (4, _), (5, _), (6, _)]) rfl rfl ?_
          refine w_ld rfl rfl ?_
          refine w_ld rfl rfl ?_
          refine w_ld rfl rfl ?_
          refine w_callv (as := [_, _, _]) (rest := []) rfl rfl rfl rfl rfl rfl rfl rfl (ok_lay_n _ _ _ _ _ rfl rfl rfl (rfl) (by omega)) ?_
          skip
          refine w_ld rfl rfl ?_
          refine w_cst (v := .int 10) rfl rfl ?_
          refine w_div rfl rfl (by decide) ?_
          rw [div10 (dgd hw), div_step]
          refine w_sto (L' := [(0, _), (1, _), (2, _), (3, _), (4, _), (5, _), (6, _)]) rfl rfl ?_
          refine w_inc (y := nI e - 1) rfl rfl (nI_pm e) ?_
          refine w_norm (L' := [(0, _), (1, _), (2, _), (3, _), (4, _), (5, _), (6, _)]) rfl ?_
          refine w_go rfl ?_
          refine w_keep [0, 1, 2, 3, 4, 5] (L' := [(0, _), (1, _), (2, _), (3, _), (4, _), (5, _)]) rfl ?_
          refine ih (t + 1) (by omega) _ ?_ ⟨fun j hj => ?_, fun i j hij hj => ?_, fun j hj => ?_⟩
          · exact Fr_up (by decide) hF
          · rcases Nat.lt_or_ge j t with q | q
            · exact hI.1 j q
            · have : j = t := by omega
              subst this
              omega
          · rcases Nat.lt_or_ge j t with q | q
            · exact hI.2.1 i j hij q
            · have : j = t := by omega
              subst this
              intro q2
              rw [tb_nI (Nat.lt_trans (sn_lt _ _) (by decide)) (by omega), sn_bit (by omega)] at h_38
              exact of_decide_eq_false h_38 ⟨i, hij, by rw [q2, hv]⟩
          · rcases Nat.lt_or_ge j t with q | q
            · have h1 := hI.1 j q
              rw [up2_k (fun r => ?_)]
              · exact hI.2.2 j q
              · rw [tb_nI (Nat.lt_trans (sn_lt _ _) (by decide)) (by omega), sn_bit (by omega)] at h_38
                exact of_decide_eq_false h_38 ⟨j, q, by omega⟩
            · have : j = t := by omega
              subst this
              rw [show dg w j - 1 = v by omega, up2_e]
              exact congrArg nI (by omega)
        · have hbad : wB N w = false := by
            refine Bool.eq_false_iff.mpr fun hB => ?_
            obtain ⟨q1, q2⟩ := tk_no hN7 hB htN hv
            first
              | exact absurd (nle (by omega) (by omega) h_31) (by omega)
              | (rw [tb_nI (Nat.lt_trans (sn_lt _ _) (by decide)) (by omega), q2] at h_38; exact Bool.noConfusion h_38)
          refine w_cst (v := .int 0) rfl rfl ?_
          refine w_ret rfl rfl rb0 ?_
          exact ⟨by rw [hbad]; rfl, rfl, hF, fun q => by rw [hbad] at q; exact Bool.noConfusion q⟩
set_option maxHeartbeats 1000000 in
set_option maxRecDepth 10000 in
theorem ok_X10_take_41 {d : Nat} {M : Mm} {ML : Ml} {N w : Nat} (hN7 : N ≤ 7) (hN1 : 1 ≤ N) (hw : w < 2 ^ 31) : EX (d + 2) k_X10_take [.int (nI N), .int (nI w), .ref 41] M ML (fun r M2 L2 => r = some (.int (b2i (wB N w))) ∧ L2 = ML ∧ Fr [41] M M2 ∧ (wB N w = true → ∀ v, v < N → M2 41 v = nI (pl N w v))) := by
  refine EX_in mi_X10_take rfl rfl ?_
  show WP _ cd_X10_take true _ (0, [(0, .int (nI N)), (1, .int (nI w)), (2, .ref 41)], [], (SH, M, ML))
  refine w_ld rfl rfl ?_
  refine w_sto (L' := [(0, _), (1, _), (2, _), (3, _)]) rfl rfl ?_
  refine w_cst (v := .int 0) rfl rfl ?_
  refine w_sto (L' := [(0, _), (1, _), (2, _), (3, _), (4, _)]) rfl rfl ?_
  refine w_ld rfl rfl ?_
  refine w_cst (v := .int 1) rfl rfl ?_
  refine w_bin rfl rfl ?_
  refine w_sto (L' := [(0, _), (1, _), (2, _), (3, _), (4, _), (5, _)]) rfl rfl ?_
  have hp := lp_X10_take_41 (d := d) (M := M) (ML := ML) (x := nI w) hN7 hN1 hw N 0 (by omega) M Fr_rf ⟨fun j hj => absurd hj (Nat.not_lt_zero j), fun i j _ hj => absurd hj (Nat.not_lt_zero j), fun j hj => absurd hj (Nat.not_lt_zero j)⟩
  rw [Nat.pow_zero, Nat.div_one, sn_0] at hp
  exact hp

set_option maxHeartbeats 1000000 in
set_option maxRecDepth 10000 in
theorem ok_X10_take_n41 {d : Nat} {M : Mm} {ML : Ml} {N : Nat} {x : Int32} (hN1 : 1 ≤ N) (hN7 : N ≤ 7) (hx : x < 0) : EX (d + 2) k_X10_take [.int (nI N), .int x, .ref 41] M ML (fun r M2 L2 => r = some (.int 0) ∧ L2 = ML ∧ M2 = M) := by
  refine EX_in mi_X10_take rfl rfl ?_
  show WP _ cd_X10_take true _ (0, [(0, .int (nI N)), (1, .int x), (2, .ref 41)], [], (SH, M, ML))
  refine w_ld rfl rfl ?_
  refine w_sto (L' := [(0, _), (1, _), (2, _), (3, _)]) rfl rfl ?_
  refine w_cst (v := .int 0) rfl rfl ?_
  refine w_sto (L' := [(0, _), (1, _), (2, _), (3, _), (4, _)]) rfl rfl ?_
  refine w_ld rfl rfl ?_
  refine w_cst (v := .int 1) rfl rfl ?_
  refine w_bin rfl rfl ?_
  refine w_sto (L' := [(0, _), (1, _), (2, _), (3, _), (4, _), (5, _)]) rfl rfl ?_
  refine w_ld rfl rfl ?_
  refine w_cjF rfl rfl (by rw [show nI N = nI ((N - 1) + 1) from congrArg nI (by omega), nI_s1]; exact ne_m1 (by omega)) ?_
  refine w_ld rfl rfl ?_
  refine w_cst (v := .int 10) rfl rfl ?_
  refine w_div rfl rfl (by decide) ?_
  refine w_cst (v := .int 1) rfl rfl ?_
  refine w_bin rfl rfl ?_
  refine w_sto (L' := [(0, _), (1, _), (2, _), (3, _), (4, _), (5, _), (6, _)]) rfl rfl ?_
  refine w_ld rfl rfl ?_
  refine w_cjT rfl rfl (neg_rem hx) ?_
  refine w_cst (v := .int 0) rfl rfl ?_
  refine w_ret rfl rfl (rb0) ?_
  exact ⟨rfl, rfl, rfl⟩

theorem ok_X10_takeOther {d : Nat} {M : Mm} {ML : Ml} {N E A : Nat} {l h : Nat → Nat} (hW : WN N E A l h) {x : Int32} : EX (d + 3) k_X10_takeOther [.ref 39, .int (nI N), .int x] M ML (fun r M2 L2 => r = some (.int (b2i (wdB N x))) ∧ L2 = ML ∧ Fr [41] M M2 ∧ (wdB N x = true → ∀ v, v < N → M2 41 v = nI (pl N x.toNatClampNeg v))) := by
  refine EX_in mi_X10_takeOther rfl rfl ?_
  show WP _ cd_X10_takeOther true _ (0, [(0, .ref 39), (1, .int (nI N)), (2, .int x)], [], (SH, M, ML))
  by_cases hx : x < 0
  · refine w_ld rfl rfl ?_
    refine w_ld rfl rfl ?_
    refine w_ld rfl rfl ?_
    refine w_getr rfl rfl rfl rfl rfl ?_
    obtain ⟨_, M3, L3, ⟨rfl, rfl, rfl⟩, hE6⟩ := ok_X10_take_n41 (d := d) (ML := ML) (M := M) hW.1 hW.2.1 hx
    refine w_call (as := [_, _, _]) (rest := []) rfl rfl rfl rfl rfl rfl rfl rfl hE6 ?_
    refine w_ret rfl rfl (rb0) ?_
    exact ⟨by rw [wdB_neg hx]; rfl, rfl, Fr_rf, fun q => by rw [wdB_neg hx] at q; exact Bool.noConfusion q⟩
  · obtain ⟨w, hw, rfl⟩ := nI_of hx
    rw [wdB_nI hw, nI_clamp hw]
    refine w_ld rfl rfl ?_
    refine w_ld rfl rfl ?_
    refine w_ld rfl rfl ?_
    refine w_getr rfl rfl rfl rfl rfl ?_
    obtain ⟨_, M3, L3, ⟨rfl, rfl, hF, hp⟩, hE6⟩ := ok_X10_take_41 (d := d) (ML := ML) (M := M) hW.2.1 hW.1 hw
    refine w_call (as := [_, _, _]) (rest := []) rfl rfl rfl rfl rfl rfl rfl rfl hE6 ?_
    refine w_ret rfl rfl (by first | exact rb0 | exact rb1 | exact rbB _) ?_
    exact ⟨rfl, rfl, hF, hp⟩
