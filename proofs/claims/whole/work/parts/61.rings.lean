/-! ===== rings of the class ===== -/
theorem low1 : ∀ i, i < 11 → (nI (2 ^ i) &&& -(nI (2 ^ i))) - 1 = nI (2 ^ i - 1) := by decide +kernel
theorem popc_low : ∀ i, i < 11 → popc (2 ^ i - 1) = i := by decide +kernel
theorem next_p {l h : Nat → Nat} {E e u v : Nat} (he : e ≤ E) {p : Nat × Nat} {L : BL} (hP : isP l h e u (p :: L) v) (hn : ndP u (p :: L)) : mkP (p :: L) &&& tmk E l h u = 2 ^ p.1 := by
  have ht := touch_p hP hn
  refine Nat.eq_of_testBit_eq fun j => ?_
  rw [Nat.testBit_and, tk_bit]
  have hb := mkP_bit hP hn j
  by_cases c : p.1 = j
  · rw [← c, Nat.testBit_two_pow_self, (mkP_bit hP hn p.1).mpr ⟨p, List.mem_cons_self, rfl⟩, decide_eq_true (show p.1 < E by have := hP.1; omega), Bool.true_and, Bool.true_and]
    rcases hP.2.2.1 with ⟨a, _⟩ | ⟨a, _⟩
    · rw [decide_eq_true a, Bool.or_true]
    · rw [decide_eq_true a, Bool.true_or]
  · rw [Nat.testBit_two_pow_of_ne c]
    by_cases d : (mkP (p :: L)).testBit j = true
    · obtain ⟨q, hq, e9⟩ := hb.mp d
      rcases List.mem_cons.mp hq with w | w
      · rw [w] at e9
        exact absurd e9 c
      · have := ht.1 q w
        rw [e9] at this
        rw [decide_eq_false this.2, decide_eq_false this.1]
        simp
    · have d' : (mkP (p :: L)).testBit j = false := by simpa using d
      rw [d', Bool.false_and]
theorem away_p {E u i : Nat} {h : Nat → Nat} (hi : i < E) : 2 ^ i &&& amk E h u = if h i = u then 2 ^ i else 0 := by
  refine Nat.eq_of_testBit_eq fun j => ?_
  rw [Nat.testBit_and, ak_bit]
  by_cases c : i = j
  · subst c
    rw [Nat.testBit_two_pow_self, decide_eq_true hi, Bool.true_and, Bool.true_and]
    by_cases d : h i = u
    · rw [if_pos d, decide_eq_true d, Nat.testBit_two_pow_self]
    · rw [if_neg d, decide_eq_false d, Nat.zero_testBit]
  · rw [Nat.testBit_two_pow_of_ne c, Bool.false_and]
    split
    · rw [Nat.testBit_two_pow_of_ne c]
    · rw [Nat.zero_testBit]
theorem left_p {l h : Nat → Nat} {e u v : Nat} (he : e ≤ 10) {p : Nat × Nat} {L : BL} (hP : isP l h e u (p :: L) v) (hn : ndP u (p :: L)) : nI (mkP (p :: L)) &&& (nI (2 ^ p.1) ^^^ (-1)) = nI (mkP L) := by
  have hd := (touch_p hP hn).2
  have hf : (mkP L).testBit p.1 = false := Bool.eq_false_iff.mpr fun w => by
    obtain ⟨q, hq, e9⟩ := (mkP_bit hP.2.2.2 hn.2 _).mp w
    exact hd q hq e9
  refine b_ext fun i hi => ?_
  rw [b_and, b_xor, b_m1 i hi, b_nI _ hi, b_nI _ hi, b_nI _ hi, Bool.xor_true, mkP, Nat.testBit_xor]
  by_cases c : p.1 = i
  · subst c
    rw [Nat.testBit_two_pow_self, hf]
    rfl
  · rw [Nat.testBit_two_pow_of_ne c, Bool.false_xor]
    simp
theorem mkP_lt {l h : Nat → Nat} {e : Nat} : ∀ {u : Nat} {L : BL} {v : Nat}, isP l h e u L v → mkP L < 2 ^ e
  | u, [], v, _ => Nat.two_pow_pos e
  | u, p :: L, v, hP => Nat.xor_lt_two_pow (Nat.pow_lt_pow_right (by decide) hP.1) (mkP_lt hP.2.2.2)
theorem wyP_lt {l h : Nat → Nat} {e : Nat} : ∀ {u : Nat} {L : BL} {v : Nat}, isP l h e u L v → wyP h u L < 2 ^ e
  | u, [], v, _ => Nat.two_pow_pos e
  | u, p :: L, v, hP => by
    refine Nat.or_lt_two_pow ?_ (wyP_lt hP.2.2.2)
    split
    · exact Nat.pow_lt_pow_right (by decide) hP.1
    · exact Nat.two_pow_pos e
theorem isP_len {l h : Nat → Nat} {e u v : Nat} {L : BL} (hP : isP l h e u L v) (hn : ndP u L) : L.length ≤ e := by
  have hd : ∀ {u : Nat} {L : BL} {v : Nat}, isP l h e u L v → ndP u L → ∀ i j, i < j → j < L.length → (L.getD i (0, 0)).1 ≠ (L.getD j (0, 0)).1 := fun {u L v} => by
    induction L generalizing u with
    | nil => intro _ _ i j _ hj; exact absurd hj (Nat.not_lt_zero j)
    | cons p L ih =>
      intro hP hn i j hij hj
      match i, j, hij with
      | 0, j + 1, _ =>
        have hj' : j < L.length := by
          have : (p :: L).length = L.length + 1 := rfl
          omega
        have hm : L.getD j (0, 0) ∈ L := by
          rw [List.getD_eq_getElem?_getD, List.getElem?_eq_getElem hj']
          exact List.getElem_mem hj'
        exact fun w => (touch_p hP hn).2 _ hm w.symm
      | i + 1, j + 1, hij =>
        have : (p :: L).length = L.length + 1 := rfl
        exact ih hP.2.2.2 hn.2 i j (by omega) (by omega)
  have hb : ∀ {u : Nat} {L : BL} {v : Nat}, isP l h e u L v → ∀ q ∈ L, q.1 < e := fun {u L v} => by
    induction L generalizing u with
    | nil => intro _ q hq; exact absurd hq List.not_mem_nil
    | cons p L ih =>
      intro hP q hq
      rcases List.mem_cons.mp hq with w | w
      · rw [w]; exact hP.1
      · exact ih hP.2.2.2 q w
  refine fb_holes e L.length (fun i => (L.getD i (0, 0)).1) (fun i hi => ?_) (fun i j hij hj => hd hP hn i j hij hj)
  have hm : L.getD i (0, 0) ∈ L := by
    rw [List.getD_eq_getElem?_getD, List.getElem?_eq_getElem hi]
    exact List.getElem_mem hi
  exact hb hP _ hm
/-- the chords below e -/
def cc (l h : Nat → Nat) (e : Nat) : Nat := fb_ct (isCh l h) e
def RGe (M : Mm) (E : Nat) (l h : Nat → Nat) (e : Nat) : Prop := M 18 0 = nI (cc l h e) ∧ ∀ c, c < e → isCh l h c = true → M 19 (cc l h c) = nI c ∧ ∃ rg wy, M 20 (cc l h c) = nI rg ∧ M 21 (cc l h c) = nI wy ∧ rg < 2 ^ 11 ∧ wy < 2 ^ 11 ∧ ∀ a, a < 2 ^ E → (popc rg : Int) - 2 * popc ((a ^^^ wy) &&& rg) = flw l h E (nI a) c
/-- the rings in their rows -/
def RG (M : Mm) (E : Nat) (l h : Nat → Nat) : Prop := RGe M E l h E
theorem ring_ok {N E A : Nat} {l h : Nat → Nat} (hW : WN N E A l h) {c : Nat} (hc : c < E) {L : BL} (hP : isP l h c (h c) L (l c)) (hn : ndP (h c) L) : ∀ a, a < 2 ^ E → (popc (mkP L ||| 2 ^ c) : Int) - 2 * popc ((a ^^^ wyP h (h c) L) &&& (mkP L ||| 2 ^ c)) = flw l h E (nI a) c := fun a ha => by
  have hE := hW.2.2.1
  have h1 := psP_ct (a := a) (by omega) hP hn (wyP_ok hP hn)
  have h2 := psP_ph (l := l) (h := h) (x := nI a) (E := E) (fun i hi => by have := hW.2.2.2.2 i hi; omega) (isP_up (by omega) hP)
  have hm : (mkP L).testBit c = false := Nat.testBit_lt_two_pow (mkP_lt hP)
  have hw : (wyP h (h c) L).testBit c = false := Nat.testBit_lt_two_pow (wyP_lt hP)
  have hb : ∀ k, k ≠ c → (mkP L ||| 2 ^ c).testBit k = (mkP L).testBit k := fun k hk => by rw [fb_bit_set, decide_eq_false hk, Bool.or_false]
  have hbc : (mkP L ||| 2 ^ c).testBit c = true := by rw [fb_bit_set, decide_eq_true rfl, Bool.or_true]
  have c1 := ct_ins (p := fun j => (mkP L).testBit j) (q := fun j => (mkP L ||| 2 ^ c).testBit j) (show c < 12 by omega) hm hb
  have c2 := ct_ins (p := fun j => ((a ^^^ wyP h (h c) L) &&& mkP L).testBit j) (q := fun j => ((a ^^^ wyP h (h c) L) &&& (mkP L ||| 2 ^ c)).testBit j) (show c < 12 by omega) (by rw [Nat.testBit_and, hm, Bool.and_false]) (fun k hk => by rw [Nat.testBit_and, Nat.testBit_and, hb k hk])
  have b2 : ((a ^^^ wyP h (h c) L) &&& (mkP L ||| 2 ^ c)).testBit c = a.testBit c := by rw [Nat.testBit_and, hbc, Bool.and_true, Nat.testBit_xor, hw, Bool.xor_false]
  rw [popc_ct, popc_ct, c1, c2, hbc, b2]
  unfold flw sg
  rw [b_nI a (by omega)]
  cases a.testBit c
  · rw [if_pos rfl, if_neg Bool.noConfusion, if_neg Bool.noConfusion]
    omega
  · rw [if_pos rfl, if_pos rfl]
    omega

set_option maxHeartbeats 1000000 in
set_option maxRecDepth 10000 in
theorem lp_X6_wayBack_11 {d : Nat} {M : Mm} {ML : Ml} {N E A : Nat} {l h : Nat → Nat} (hS : NS M 2 3 4 5 6 N E A l h) (hW : WN N E A l h) {e v : Nat} (he : e ≤ E) {x y : Int32} : ∀ (L : BL) (u b k : Nat), isP l h e u L v → ndP u L → k + L.length ≤ 10 → WP (d + 1) cd_X6_wayBack false (fun r M2 L2 => r = some (.int (nI (b ||| wyP h u L))) ∧ L2 = ML ∧ M2 = M) (11, [(0, .ref 2), (1, .int x), (2, .int y), (3, .int (nI u)), (4, .int (nI (mkP L))), (5, .int (nI b)), (6, .int (nI k))], [], (SH, M, ML)) := by
  have hE10 := hW.2.2.1
  intro L
  induction L with
  | nil =>
    intro u b k hP hn hk
    rw [show mkP [] = 0 from rfl, show wyP h u [] = 0 from rfl, Nat.or_zero]
    refine w_ld rfl rfl ?_
    refine w_cst (v := .int 10) rfl rfl ?_
    refine w_cj rfl rfl (fun h_15 => ?_) (fun h_15 => ?_)
    · refine w_ld rfl rfl ?_
      refine w_ret rfl rfl (trivial) ?_
      exact ⟨rfl, rfl, rfl⟩
    · refine w_ld rfl rfl ?_
      refine w_cjT rfl rfl (rfl) ?_
      refine w_ld rfl rfl ?_
      refine w_ret rfl rfl (trivial) ?_
      exact ⟨rfl, rfl, rfl⟩
  | cons p L ih =>
    intro u b k hP hn hk
    have hlen : (p :: L).length = L.length + 1 := rfl
    have hp := hP.1
    have hpE : p.1 < E := by omega
    have hlh := WN_b hW p.1 hpE
    have hu : u < 7 := by
      rcases hP.2.2.1 with ⟨a, _⟩ | ⟨a, _⟩ <;> omega
    have hed := hS.2.2.2.1 p.1 hpE
    have htw := hS.2.2.2.2 u hu
    have hne : ¬ mkP (p :: L) = 0 := fun w => by
      have := (mkP_bit hP hn p.1).mpr ⟨p, List.mem_cons_self, rfl⟩
      rw [w, Nat.zero_testBit] at this
      exact Bool.noConfusion this
    have hm31 : mkP (p :: L) < 2 ^ 31 := Nat.lt_of_lt_of_le (mkP_lt hP) (p2 (by omega))
    have hsum : l p.1 + h p.1 - u = p.2 ∧ u ≤ l p.1 + h p.1 := by
      rcases hP.2.2.1 with ⟨a, b⟩ | ⟨a, b⟩ <;> omega
    refine w_ld rfl rfl ?_
    refine w_cst (v := .int 10) rfl rfl ?_
    refine w_cjF rfl rfl (fun q => absurd (nle (a := 10) (by decide) (by omega) q) (by omega)) ?_
    refine w_ld rfl rfl ?_
    refine w_cjF rfl rfl (fun q => hne ((nI_e0 hm31).mp q)) ?_
    refine w_ld rfl rfl ?_
    refine w_ld rfl rfl ?_
    refine w_getr rfl rfl rfl rfl rfl ?_
    refine w_ld rfl rfl ?_
    refine w_call (as := [_, _]) (rest := [_]) rfl rfl rfl rfl rfl rfl rfl rfl (ok_at_v _ _ _ rfl rfl rfl (rfl) (by omega) (htw.1)) ?_
    refine w_bin rfl rfl ?_
    rw [andN, next_p he hP hn]
    refine w_sto (L' := [(0, _), (1, _), (2, _), (3, _), (4, _), (5, _), (6, _), (7, _)]) rfl rfl ?_
    refine w_ld rfl rfl ?_
    refine w_ld rfl rfl ?_
    refine w_una rfl rfl ?_
    refine w_bin rfl rfl ?_
    refine w_cst (v := .int 1) rfl rfl ?_
    refine w_bin rfl rfl ?_
    rw [low1 _ (by omega)]
    refine w_call (as := [_]) (rest := []) rfl rfl rfl rfl rfl rfl rfl rfl (ok_bitCount _ _ _ (Nat.lt_of_le_of_lt (Nat.sub_le _ _) (Nat.lt_of_lt_of_le (Nat.pow_lt_pow_right (by decide) (show p.1 < 11 by omega)) (by decide)))) ?_
    rw [popc_low _ (by omega)]
    refine w_sto (L' := [(0, _), (1, _), (2, _), (3, _), (4, _), (5, _), (6, _), (7, _), (8, _)]) rfl rfl ?_
    refine w_ld rfl rfl ?_
    refine w_ld rfl rfl ?_
    refine w_ld rfl rfl ?_
    refine w_getr rfl rfl rfl rfl rfl ?_
    refine w_ld rfl rfl ?_
    refine w_call (as := [_, _]) (rest := [_, _]) rfl rfl rfl rfl rfl rfl rfl rfl (ok_at_v _ _ _ rfl rfl rfl (rfl) (by omega) (htw.2)) ?_
    refine w_bin rfl rfl ?_
    rw [andN, away_p hpE]
    refine w_bin rfl rfl ?_
    rw [orN]
    refine w_sto (L' := [(0, _), (1, _), (2, _), (3, _), (4, _), (5, _), (6, _), (7, _), (8, _)]) rfl rfl ?_
    refine w_ld rfl rfl ?_
    refine w_ld rfl rfl ?_
    refine w_cst (v := .int (-1)) rfl rfl ?_
    refine w_bin rfl rfl ?_
    refine w_bin rfl rfl ?_
    rw [left_p (by omega) hP hn]
    refine w_sto (L' := [(0, _), (1, _), (2, _), (3, _), (4, _), (5, _), (6, _), (7, _), (8, _)]) rfl rfl ?_
    refine w_ld rfl rfl ?_
    refine w_getr rfl rfl rfl rfl rfl ?_
    refine w_ld rfl rfl ?_
    refine w_call (as := [_, _]) (rest := []) rfl rfl rfl rfl rfl rfl rfl rfl (ok_at_v _ _ _ rfl rfl rfl (rfl) (by omega) (hed.1)) ?_
    refine w_ld rfl rfl ?_
    refine w_getr rfl rfl rfl rfl rfl ?_
    refine w_ld rfl rfl ?_
    refine w_call (as := [_, _]) (rest := [_]) rfl rfl rfl rfl rfl rfl rfl rfl (ok_at_v _ _ _ rfl rfl rfl (rfl) (by omega) (hed.2)) ?_
    refine w_bin rfl rfl ?_
    rw [nI_add]
    refine w_ld rfl rfl ?_
    refine w_bin rfl rfl ?_
    rw [pk_sub hsum.2, hsum.1]
    refine w_sto (L' := [(0, _), (1, _), (2, _), (3, _), (4, _), (5, _), (6, _), (7, _), (8, _)]) rfl rfl ?_
    refine w_inc (y := _ + 1) rfl rfl rfl ?_
    refine w_norm (L' := [(0, _), (1, _), (2, _), (3, _), (4, _), (5, _), (6, _), (7, _), (8, _)]) rfl ?_
    refine w_go rfl ?_
    refine w_keep [0, 1, 2, 3, 4, 5, 6] (L' := [(0, _), (1, _), (2, _), (3, _), (4, _), (5, _), (6, _)]) rfl ?_
    rw [nI_1]
    have hp9 := ih p.2 (b ||| (if h p.1 = u then 2 ^ p.1 else 0)) (k + 1) hP.2.2.2 hn.2 (by omega)
    rw [Nat.or_assoc] at hp9
    exact hp9

set_option maxHeartbeats 1000000 in
set_option maxRecDepth 10000 in
theorem ok_X6_wayBack {d : Nat} {M : Mm} {ML : Ml} {N E A : Nat} {l h : Nat → Nat} (hS : NS M 2 3 4 5 6 N E A l h) (hW : WN N E A l h) {e u v : Nat} {L : BL} (he : e ≤ E) (hP : isP l h e u L v) (hn : ndP u L) : EX (d + 2) k_X6_wayBack [.ref 2, .int (nI u), .int (nI (mkP L))] M ML (fun r M2 L2 => r = some (.int (nI (wyP h u L))) ∧ L2 = ML ∧ M2 = M) := by
  refine EX_in mi_X6_wayBack rfl rfl ?_
  show WP _ cd_X6_wayBack false _ (0, [(0, .ref 2), (1, .int (nI u)), (2, .int (nI (mkP L)))], [], (SH, M, ML))
  refine w_ld rfl rfl ?_
  refine w_sto (L' := [(0, _), (1, _), (2, _), (3, _)]) rfl rfl ?_
  refine w_ld rfl rfl ?_
  refine w_sto (L' := [(0, _), (1, _), (2, _), (3, _), (4, _)]) rfl rfl ?_
  refine w_cst (v := .int 0) rfl rfl ?_
  refine w_sto (L' := [(0, _), (1, _), (2, _), (3, _), (4, _), (5, _)]) rfl rfl ?_
  refine w_cst (v := .int 0) rfl rfl ?_
  refine w_sto (L' := [(0, _), (1, _), (2, _), (3, _), (4, _), (5, _), (6, _)]) rfl rfl ?_
  have hp := lp_X6_wayBack_11 (d := d) (ML := ML) (x := nI u) (y := nI (mkP L)) hS hW he L u 0 0 hP hn (by have := isP_len hP hn; have := hW.2.2.1; omega)
  rw [Nat.zero_or] at hp
  exact hp

set_option maxHeartbeats 1000000 in
set_option maxRecDepth 10000 in
theorem ok_X6_addChord {d : Nat} {M : Mm} {ML : Ml} {N E A : Nat} {l h : Nat → Nat} (hS : NS M 2 3 4 5 6 N E A l h) (hW : WN N E A l h) {c : Nat} {L : BL} (hc : c < E) (hP : isP l h c (h c) L (l c)) (hn : ndP (h c) L) (hch : isCh l h c = true) (hR : RGe M E l h c) : EX (d + 3) k_X6_addChord [.ref 18, .ref 2, .int (nI c), .int (nI (mkP L))] M ML (fun r M2 L2 => r = none ∧ L2 = ML ∧ Fr [18, 19, 20, 21] M M2 ∧ RGe M2 E l h (c + 1)) := by
  refine EX_in mi_X6_addChord rfl rfl ?_
  show WP _ cd_X6_addChord false _ (0, [(0, .ref 18), (1, .ref 2), (2, .int (nI c)), (3, .int (nI (mkP L)))], [], (SH, M, ML))
  have hE10 := hW.2.2.1
  have hcc : cc l h c ≤ c := fb_ct_le _ _
  have hlh := WN_b hW c hc
  refine w_ld rfl rfl ?_
  refine w_getr rfl rfl rfl rfl rfl ?_
  refine w_ld rfl rfl ?_
  refine w_getv rfl rfl rfl rfl rfl (hR.1) ?_
  refine w_ld rfl rfl ?_
  refine w_callv (as := [_, _, _]) (rest := []) rfl rfl rfl rfl rfl rfl rfl rfl (ok_lay_n _ _ _ _ _ rfl rfl rfl (rfl) (by omega)) ?_
  refine w_ld rfl rfl ?_
  refine w_getr rfl rfl rfl rfl rfl ?_
  refine w_ld rfl rfl ?_
  refine w_getv rfl rfl rfl rfl rfl (Eq.trans (by rw [up2_row (by decide)]) (hR.1)) ?_
  refine w_ld rfl rfl ?_
  refine w_cst (v := .int 1) rfl rfl ?_
  refine w_ld rfl rfl ?_
  refine w_bin rfl rfl ?_
  refine w_bin rfl rfl ?_
  rw [shl1 (by omega), orN]
  refine w_callv (as := [_, _, _]) (rest := []) rfl rfl rfl rfl rfl rfl rfl rfl (ok_lay_n _ _ _ _ _ rfl rfl rfl (rfl) (by omega)) ?_
  refine w_ld rfl rfl ?_
  refine w_getr rfl rfl rfl rfl rfl ?_
  refine w_ld rfl rfl ?_
  refine w_getv rfl rfl rfl rfl rfl (Eq.trans (by rw [up2_row (by decide), up2_row (by decide)]) (hR.1)) ?_
  have hFr : Fr [18, 19, 20, 21] M (up2 (up2 M 19 (cc l h c) (nI c)) 20 (cc l h c) (nI (mkP L ||| 2 ^ c))) := Fr_up (by decide) (Fr_up (by decide) Fr_rf)
  refine w_ld rfl rfl ?_
  refine w_ld rfl rfl ?_
  refine w_getr rfl rfl rfl rfl rfl ?_
  refine w_ld rfl rfl ?_
  skip
  refine w_call (as := [_, _]) (rest := [_, _, _]) rfl rfl rfl rfl rfl rfl rfl rfl (ok_at_v _ _ _ rfl rfl rfl (rfl) (by omega) (Eq.trans (by rw [up2_row (by decide), up2_row (by decide)]) ((hS.2.2.2.1 c hc).2))) ?_
  refine w_ld rfl rfl ?_
  refine w_call (as := [_, _, _]) (rest := [_, _]) rfl rfl rfl rfl rfl rfl rfl rfl (EX_ex (ok_X6_wayBack (NS_Fr hS hFr (by decide)) hW (Nat.le_of_lt hc) hP hn)) ?_
  refine w_callv (as := [_, _, _]) (rest := []) rfl rfl rfl rfl rfl rfl rfl rfl (ok_lay_n _ _ _ _ _ rfl rfl rfl (rfl) (by omega)) ?_
  refine w_ld rfl rfl ?_
  refine w_stk rfl rfl ?_
  refine w_getv rfl rfl rfl rfl rfl (Eq.trans (by rw [up2_row (by decide), up2_row (by decide), up2_row (by decide)]) (hR.1)) ?_
  refine w_cst (v := .int 1) rfl rfl ?_
  refine w_bin rfl rfl ?_
  rw [nI_1]
  refine w_put rfl rfl rfl rfl rfl (Or.inl rfl) ?_
  refine w_ret rfl rfl (trivial) ?_
  have hcs : cc l h (c + 1) = cc l h c + 1 := by
    unfold cc
    rw [fb_ct_succ, if_pos hch]
  refine ⟨rfl, rfl, Fr_up (by decide) (Fr_up (by decide) (Fr_up (by decide) (Fr_up (by decide) Fr_rf))), ?_, fun c2 hc2 hch2 => ?_⟩
  · rw [up2_e, hcs]
  · rw [up2_row (a := 18) (x := 19) (by decide), up2_row (a := 18) (x := 20) (by decide), up2_row (a := 18) (x := 21) (by decide), up2_row (a := 21) (x := 19) (by decide), up2_row (a := 21) (x := 20) (by decide), up2_row (a := 20) (x := 19) (by decide)]
    rcases Nat.lt_or_ge c2 c with w | w
    · have hlt : cc l h c2 < cc l h c := by
        have h1 := fb_ct_mono (isCh l h) (show c2 + 1 ≤ c from w)
        rw [fb_ct_succ, if_pos hch2] at h1
        unfold cc
        omega
      rw [up2_k (by omega), up2_k (by omega), up2_row (a := 19) (x := 20) (by decide), up2_k (by omega), up2_row (a := 20) (x := 21) (by decide), up2_row (a := 19) (x := 21) (by decide)]
      exact hR.2 c2 w hch2
    · have : c2 = c := by omega
      subst this
      rw [up2_e, up2_e, up2_e]
      have k1 := mkP_lt hP
      have k2 := wyP_lt hP
      have k3 : 2 ^ c2 < 2 ^ 11 := Nat.pow_lt_pow_right (by decide) (by omega)
      exact ⟨rfl, _, _, rfl, rfl, Nat.or_lt_two_pow (Nat.lt_trans k1 k3) k3, Nat.lt_trans k2 k3, ring_ok hW hc hP hn⟩

