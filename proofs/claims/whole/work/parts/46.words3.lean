/-! ===== turned words; which node can come; how many words, the least ===== -/
/-- a word turned -/
def tuI (N : Nat) (x : Int32) : Int32 := (x - x / nI (10 ^ (N - 1)) * nI (10 ^ (N - 1))) * 10 + x / nI (10 ^ (N - 1))
theorem p10m {N e : Nat} (h : e + 1 ≤ N) (h7 : N ≤ 7) : 10 ^ e ≤ 1000000 := show 10 ^ e ≤ 10 ^ 6 from Nat.pow_le_pow_right (by decide) (by omega)

set_option maxHeartbeats 1000000 in
set_option maxRecDepth 10000 in
theorem lp_X11_turn_24 {d : Nat} {M : Mm} {ML : Ml} {N : Nat} {x : Int32} (hN : M 2 0 = nI N) (hN1 : 1 ≤ N) (hN7 : N ≤ 7) : ∀ e, e ≤ N - 1 → WP (d + 3) cd_X11_turn false (fun r M2 L2 => r = some (.int (tuI N x)) ∧ L2 = ML ∧ M2 = M) (24, [(0, .ref 1), (1, .int x), (2, .int (nI (10 ^ e))), (3, .int (nI (e + 1)))], [], (SH, M, ML)) := by
  refine up_ind fun e he ih => ?_
  refine w_ld rfl rfl ?_
  refine w_cst (v := .int 7) rfl rfl ?_
  refine w_cj rfl rfl (fun h_27 => ?_) (fun h_27 => ?_)
  · have h9 : e = N - 1 := by
      first
        | (have := nle (a := 7) (by decide) (by omega) h_27; omega)
        | (have := nle (by omega) (by omega) h_38; omega)
    have hp0 : 0 < 10 ^ e := Nat.pow_pos (by decide)
    have hp6 := p10m (e := e) (by omega) hN7
    refine w_ld rfl rfl ?_
    refine w_cjF rfl rfl (Int32.not_le.mpr (nI_lt (a := 0) hp0 (by omega))) ?_
    refine w_ld rfl rfl ?_
    refine w_ld rfl rfl ?_
    refine w_div rfl rfl (nI_ne0 hp0 (by omega)) ?_
    refine w_go rfl ?_
    refine w_sto (L' := [(0, _), (1, _), (2, _), (3, _)]) rfl rfl ?_
    refine w_ld rfl rfl ?_
    refine w_ld rfl rfl ?_
    refine w_ld rfl rfl ?_
    refine w_bin rfl rfl ?_
    refine w_bin rfl rfl ?_
    refine w_cst (v := .int 10) rfl rfl ?_
    refine w_bin rfl rfl ?_
    refine w_ld rfl rfl ?_
    refine w_bin rfl rfl ?_
    refine w_ret rfl rfl (trivial) ?_
    refine ⟨?_, rfl, rfl⟩
    rw [h9]
    exact rfl
  · refine w_ld rfl rfl ?_
    refine w_ld rfl rfl ?_
    refine w_getr rfl rfl rfl rfl rfl ?_
    refine w_getv rfl rfl rfl rfl rfl (hN) ?_
    refine w_cj rfl rfl (fun h_38 => ?_) (fun h_38 => ?_)
    · have h9 : e = N - 1 := by
        first
          | (have := nle (a := 7) (by decide) (by omega) h_27; omega)
          | (have := nle (by omega) (by omega) h_38; omega)
      have hp0 : 0 < 10 ^ e := Nat.pow_pos (by decide)
      have hp6 := p10m (e := e) (by omega) hN7
      refine w_ld rfl rfl ?_
      refine w_cjF rfl rfl (Int32.not_le.mpr (nI_lt (a := 0) hp0 (by omega))) ?_
      refine w_ld rfl rfl ?_
      refine w_ld rfl rfl ?_
      refine w_div rfl rfl (nI_ne0 hp0 (by omega)) ?_
      refine w_go rfl ?_
      refine w_sto (L' := [(0, _), (1, _), (2, _), (3, _)]) rfl rfl ?_
      refine w_ld rfl rfl ?_
      refine w_ld rfl rfl ?_
      refine w_ld rfl rfl ?_
      refine w_bin rfl rfl ?_
      refine w_bin rfl rfl ?_
      refine w_cst (v := .int 10) rfl rfl ?_
      refine w_bin rfl rfl ?_
      refine w_ld rfl rfl ?_
      refine w_bin rfl rfl ?_
      refine w_ret rfl rfl (trivial) ?_
      refine ⟨?_, rfl, rfl⟩
      rw [h9]
      exact rfl
    · have hlt : e + 1 < N := nnle (by omega) (by omega) h_38
      refine w_ld rfl rfl ?_
      refine w_cst (v := .int 10) rfl rfl ?_
      refine w_bin rfl rfl ?_
      rw [show (10 : Int32) = nI 10 from rfl, pk_mul, ← Nat.pow_succ]
      refine w_sto (L' := [(0, _), (1, _), (2, _), (3, _)]) rfl rfl ?_
      refine w_inc (y := _ + 1) rfl rfl rfl ?_
      refine w_norm (L' := [(0, _), (1, _), (2, _), (3, _)]) rfl ?_
      refine w_go rfl ?_
      rw [nI_1]
      exact ih (by omega)

set_option maxHeartbeats 1000000 in
set_option maxRecDepth 10000 in
theorem ok_X11_turn {d : Nat} {M : Mm} {ML : Ml} {N E A : Nat} {l h : Nat → Nat} (hS : NS M 2 3 4 5 6 N E A l h) (hW : WN N E A l h) {x : Int32} : EX (d + 4) k_X11_turn [.ref 1, .int x] M ML (fun r M2 L2 => r = some (.int (if wdB N x then tuI N x else -1)) ∧ L2 = ML ∧ Fr [40] M M2) := by
  refine EX_in mi_X11_turn rfl rfl ?_
  show WP _ cd_X11_turn false _ (0, [(0, .ref 1), (1, .int x)], [], (SH, M, ML))
  refine w_ld rfl rfl ?_
  refine w_getr rfl rfl rfl rfl rfl ?_
  refine w_ld rfl rfl ?_
  refine w_getr rfl rfl rfl rfl rfl ?_
  refine w_getv rfl rfl rfl rfl rfl (hS.1) ?_
  refine w_ld rfl rfl ?_
  obtain ⟨_, M3, L3, ⟨rfl, rfl, hF, hp⟩, hE12⟩ := ok_X10_takeOne (d := d) (ML := ML) (M := M) (x := x) hW
  refine w_cifn (as := [_, _, _]) (rest := []) rfl rfl rfl rfl rfl rfl rfl rfl hE12 rfl (fun h_12 => ?_) (fun h_12 => ?_)
  · refine w_cst (v := .int 1) rfl rfl ?_
    refine w_sto (L' := [(0, _), (1, _), (2, _)]) rfl rfl ?_
    refine w_cst (v := .int 1) rfl rfl ?_
    refine w_sto (L' := [(0, _), (1, _), (2, _), (3, _)]) rfl rfl ?_
    rw [h_12]
    exact WP_mono (lp_X11_turn_24 (NS_Fr hS hF (by decide)).1 hW.1 hW.2.1 0 (by omega)) (fun r M2 L2 q => ⟨q.1, q.2.1, by rw [q.2.2]; exact hF⟩)
  · refine w_cst (v := .int (-1)) rfl rfl ?_
    refine w_ret rfl rfl (trivial) ?_
    rw [h_12]
    exact ⟨rfl, rfl, hF⟩

set_option maxHeartbeats 1000000 in
set_option maxRecDepth 10000 in
theorem lp_X12_turn_14 {d : Nat} {M : Mm} {ML : Ml} {N : Nat} {x : Int32} (hN : M 73 0 = nI N) (hN1 : 1 ≤ N) (hN7 : N ≤ 7) : ∀ e, e ≤ N - 1 → WP (d + 2) cd_X12_turn false (fun r M2 L2 => r = some (.int (tuI N x)) ∧ L2 = ML ∧ M2 = M) (14, [(0, .ref 73), (1, .int x), (2, .int (nI (10 ^ e))), (3, .int (nI (e + 1)))], [], (SH, M, ML)) := by
  refine up_ind fun e he ih => ?_
  refine w_ld rfl rfl ?_
  refine w_ld rfl rfl ?_
  refine w_getv rfl rfl rfl rfl rfl (hN) ?_
  refine w_cj rfl rfl (fun h_19 => ?_) (fun h_19 => ?_)
  · have h9 : e = N - 1 := by
      first
        | (have := nle (a := 7) (by decide) (by omega) h_19; omega)
        | (have := nle (by omega) (by omega) h_19; omega)
    have hp0 : 0 < 10 ^ e := Nat.pow_pos (by decide)
    have hp6 := p10m (e := e) (by omega) hN7
    refine w_ld rfl rfl ?_
    refine w_ld rfl rfl ?_
    refine w_div rfl rfl (nI_ne0 hp0 (by omega)) ?_
    refine w_cst (v := .int 10) rfl rfl ?_
    refine w_bin rfl rfl ?_
    refine w_ld rfl rfl ?_
    refine w_ld rfl rfl ?_
    refine w_div rfl rfl (nI_ne0 hp0 (by omega)) ?_
    refine w_bin rfl rfl ?_
    refine w_ret rfl rfl (trivial) ?_
    refine ⟨?_, rfl, rfl⟩
    rw [h9]
    exact rfl
  · have hlt : e + 1 < N := nnle (by omega) (by omega) h_19
    refine w_ld rfl rfl ?_
    refine w_cst (v := .int 10) rfl rfl ?_
    refine w_bin rfl rfl ?_
    rw [show (10 : Int32) = nI 10 from rfl, pk_mul, ← Nat.pow_succ]
    refine w_sto (L' := [(0, _), (1, _), (2, _), (3, _)]) rfl rfl ?_
    refine w_inc (y := _ + 1) rfl rfl rfl ?_
    refine w_norm (L' := [(0, _), (1, _), (2, _), (3, _)]) rfl ?_
    refine w_go rfl ?_
    rw [nI_1]
    exact ih (by omega)

set_option maxHeartbeats 1000000 in
set_option maxRecDepth 10000 in
theorem ok_X12_turn {d : Nat} {M : Mm} {ML : Ml} {N E A : Nat} {l h : Nat → Nat} (hS : NM M N E A l h) (hW : WN N E A l h) {x : Int32} : EX (d + 3) k_X12_turn [.ref 73, .int x] M ML (fun r M2 L2 => r = some (.int (if wdB N x then tuI N x else -1)) ∧ L2 = ML ∧ M2 = M) := by
  refine EX_in mi_X12_turn rfl rfl ?_
  show WP _ cd_X12_turn false _ (0, [(0, .ref 73), (1, .int x)], [], (SH, M, ML))
  refine w_ld rfl rfl ?_
  refine w_ld rfl rfl ?_
  refine w_cifn (as := [_, _]) (rest := []) rfl rfl rfl rfl rfl rfl rfl rfl (EX_ex (ok_X12_isWord hS.1 hW.1 hW.2.1)) rfl (fun h_2 => ?_) (fun h_2 => ?_)
  · refine w_cst (v := .int 1) rfl rfl ?_
    refine w_sto (L' := [(0, _), (1, _), (2, _)]) rfl rfl ?_
    refine w_cst (v := .int 1) rfl rfl ?_
    refine w_sto (L' := [(0, _), (1, _), (2, _), (3, _)]) rfl rfl ?_
    rw [h_2]
    exact lp_X12_turn_14 hS.1 hW.1 hW.2.1 0 (by omega)
  · refine w_cst (v := .int (-1)) rfl rfl ?_
    refine w_ret rfl rfl (trivial) ?_
    rw [h_2]
    exact ⟨rfl, rfl, rfl⟩

/-- may node v come next, when the nodes of S came -/
def cmB (E : Nat) (l h : Nat → Nat) (x : Int32) (S v : Nat) : Bool := !S.testBit v && decide (∀ e, e < E → to l h x e = v → S.testBit (fr l h x e) = true)
/-- the nodes that lead to v by the first e edges -/
def ahM (l h : Nat → Nat) (x : Int32) (e v : Nat) : Nat := msk (fun u => decide (∃ y, y < e ∧ to l h x y = v ∧ fr l h x y = u)) 7
theorem ahM_0 (l h : Nat → Nat) (x : Int32) (v : Nat) : ahM l h x 0 v = 0 := msk_zero.mpr fun i _ => decide_eq_false (by rintro ⟨y, hy, -⟩; omega)
theorem ahM_lt (l h : Nat → Nat) (x : Int32) (e v : Nat) : ahM l h x e v < 128 := msk_lt _ 7
theorem ahM_bit {l h : Nat → Nat} {x : Int32} {e v i : Nat} (hi : i < 7) : (ahM l h x e v).testBit i = decide (∃ y, y < e ∧ to l h x y = v ∧ fr l h x y = i) := by
  unfold ahM
  rw [msk_bit, decide_eq_true hi, Bool.true_and]
theorem ahM_s {l h : Nat → Nat} {x : Int32} {e v : Nat} (hf : fr l h x e < 7) : ahM l h x (e + 1) v = if to l h x e = v then ahM l h x e v ||| 2 ^ fr l h x e else ahM l h x e v := by
  refine Nat.eq_of_testBit_eq fun i => ?_
  by_cases hi : i < 7
  · rw [ahM_bit hi]
    by_cases q : to l h x e = v
    · rw [if_pos q, fb_bit_set, ahM_bit hi]
      by_cases q2 : i = fr l h x e
      · rw [decide_eq_true q2, Bool.or_true]
        exact decide_eq_true ⟨e, by omega, q, q2.symm⟩
      · rw [decide_eq_false q2, Bool.or_false]
        exact decide_eq_decide.mpr ⟨fun ⟨y, h1, h2, h3⟩ => ⟨y, by
          rcases Nat.lt_or_ge y e with r | r
          · exact r
          · have : y = e := by omega
            subst this
            exact absurd h3.symm q2, h2, h3⟩, fun ⟨y, h1, h2, h3⟩ => ⟨y, by omega, h2, h3⟩⟩
    · rw [if_neg q, ahM_bit hi]
      exact decide_eq_decide.mpr ⟨fun ⟨y, h1, h2, h3⟩ => ⟨y, by
          rcases Nat.lt_or_ge y e with r | r
          · exact r
          · have : y = e := by omega
            subst this
            exact absurd h2 q, h2, h3⟩, fun ⟨y, h1, h2, h3⟩ => ⟨y, by omega, h2, h3⟩⟩
  · have hb : ∀ e, (ahM l h x e v).testBit i = false := fun e => by unfold ahM; rw [msk_bit, decide_eq_false hi, Bool.false_and]
    rw [hb]
    split
    · rw [fb_bit_set, hb, Bool.false_or]
      exact (decide_eq_false (by omega)).symm
    · exact (hb e).symm
theorem ah_I {a S : Nat} (ha : a < 128) : nI a &&& (nI S ^^^ (-1)) = 0 ↔ ∀ i, i < 7 → a.testBit i = true → S.testBit i = true := by
  rw [b_zero]
  constructor
  · intro q i hi hb
    have := q i (by omega)
    rw [b_and, b_xor, b_m1 i (by omega), b_nI a (by omega), b_nI S (by omega), hb, Bool.true_and, Bool.xor_true] at this
    simpa using this
  · intro q i hi
    rw [b_and, b_xor, b_m1 i hi, b_nI a hi, b_nI S hi, Bool.xor_true]
    by_cases h7 : i < 7
    · cases hb : a.testBit i with
      | false => rfl
      | true => rw [q i h7 hb]; rfl
    · rw [Nat.testBit_lt_two_pow (Nat.lt_of_lt_of_le ha (p2 (e := 7) (by omega)))]
      rfl
theorem ah_cm {N E A : Nat} {l h : Nat → Nat} (hW : WN N E A l h) {x : Int32} {v S : Nat} : (∀ i, i < 7 → (ahM l h x E v).testBit i = true → S.testBit i = true) ↔ ∀ e, e < E → to l h x e = v → S.testBit (fr l h x e) = true := by
  constructor
  · intro q e he ht
    have hf : fr l h x e < 7 := by
      have := WN_b hW e he
      unfold fr
      split <;> omega
    exact q _ hf (by rw [ahM_bit hf]; exact decide_eq_true ⟨e, he, ht, rfl⟩)
  · intro q i hi hb
    rw [ahM_bit hi] at hb
    obtain ⟨y, h1, h2, h3⟩ := of_decide_eq_true hb
    rw [← h3]
    exact q y h1 h2
theorem fr_lt {N E A : Nat} {l h : Nat → Nat} (hW : WN N E A l h) {x : Int32} {e : Nat} (he : e < E) : fr l h x e < 7 ∧ to l h x e < 7 := by
  have := WN_b hW e he
  unfold fr to
  constructor <;> split <;> omega

set_option maxHeartbeats 1000000 in
set_option maxRecDepth 10000 in
theorem lp_X10_order_26 {d : Nat} {M : Mm} {ML : Ml} {N E A : Nat} {l h : Nat → Nat} (hS : NS M 2 3 4 5 6 N E A l h) (hW : WN N E A l h) {x : Int32} : ∀ e, e ≤ E → ∀ M', Fr [42] M M' → (∀ v, v < 7 → M' 42 v = nI (ahM l h x e v)) → WP (d + 2) cd_X10_order false (fun r M2 L2 => r = none ∧ L2 = ML ∧ Fr [42] M M2 ∧ ∀ v, v < 7 → M2 42 v = nI (ahM l h x E v)) (26, [(0, .ref 39), (1, .ref 2), (2, .int x), (3, .int (nI e))], [], (SH, M', ML)) := by
  have hE10 := hW.2.2.1
  refine up_ind fun e he ih => ?_
  intro M' hF hv
  have hS' := NS_Fr hS hF (by decide)
  refine w_ld rfl rfl ?_
  refine w_ld rfl rfl ?_
  refine w_getv rfl rfl rfl rfl rfl (hS'.2.1) ?_
  refine w_cj rfl rfl (fun h_31 => ?_) (fun h_31 => ?_)
  · have h9 : e = E := by have := nle (by omega) (by omega) h_31; omega
    subst h9
    refine w_ret rfl rfl (trivial) ?_
    exact ⟨rfl, rfl, hF, hv⟩
  · have hlt : e < E := nnle (by omega) (by omega) h_31
    have hft := fr_lt hW (x := x) hlt
    refine w_ld rfl rfl ?_
    refine w_ld rfl rfl ?_
    refine w_ld rfl rfl ?_
    refine w_call (as := [_, _, _]) (rest := []) rfl rfl rfl rfl rfl rfl rfl rfl (ok_X4_head _ _ _ _ hS' hlt hE10) ?_
    refine w_sto (L' := [(0, _), (1, _), (2, _), (3, _), (4, _)]) rfl rfl ?_
    refine w_ld rfl rfl ?_
    refine w_getr rfl rfl rfl rfl rfl ?_
    refine w_ld rfl rfl ?_
    refine w_ld rfl rfl ?_
    refine w_getr rfl rfl rfl rfl rfl ?_
    refine w_ld rfl rfl ?_
    refine w_call (as := [_, _]) (rest := [_, _]) rfl rfl rfl rfl rfl rfl rfl rfl (ok_at_v _ _ _ rfl rfl rfl (rfl) (by omega) (hv _ hft.2)) ?_
    refine w_cst (v := .int 1) rfl rfl ?_
    refine w_ld rfl rfl ?_
    refine w_ld rfl rfl ?_
    refine w_ld rfl rfl ?_
    refine w_call (as := [_, _, _]) (rest := [_, _, _, _]) rfl rfl rfl rfl rfl rfl rfl rfl (ok_X4_tail _ _ _ _ hS' hlt hE10) ?_
    refine w_bin rfl rfl ?_
    refine w_bin rfl rfl ?_
    rw [or_sh (by omega)]
    refine w_callv (as := [_, _, _]) (rest := []) rfl rfl rfl rfl rfl rfl rfl rfl (ok_lay_n _ _ _ _ _ rfl rfl rfl (rfl) (by omega)) ?_
    refine w_inc (y := _ + 1) rfl rfl rfl ?_
    refine w_norm (L' := [(0, _), (1, _), (2, _), (3, _), (4, _)]) rfl ?_
    refine w_go rfl ?_
    refine w_keep [0, 1, 2, 3] (L' := [(0, _), (1, _), (2, _), (3, _)]) rfl ?_
    rw [nI_1]
    refine ih hlt _ (Fr_up (by decide) hF) (fun v hv7 => ?_)
    rw [ahM_s hft.1]
    by_cases q : v = to l h x e
    · rw [q, up2_e, if_pos rfl]
    · rw [up2_k q, if_neg (fun w => q w.symm)]
      exact hv v hv7

set_option maxHeartbeats 1000000 in
set_option maxRecDepth 10000 in
theorem lp_X10_order_2 {d : Nat} {M : Mm} {ML : Ml} {N E A : Nat} {l h : Nat → Nat} (hS : NS M 2 3 4 5 6 N E A l h) (hW : WN N E A l h) {x : Int32} : ∀ e, e ≤ 7 → ∀ M', Fr [42] M M' → (∀ v, v < e → M' 42 v = 0) → WP (d + 2) cd_X10_order false (fun r M2 L2 => r = none ∧ L2 = ML ∧ Fr [42] M M2 ∧ ∀ v, v < 7 → M2 42 v = nI (ahM l h x E v)) (2, [(0, .ref 39), (1, .ref 2), (2, .int x), (3, .int (nI e))], [], (SH, M', ML)) := by
  refine up_ind fun e he ih => ?_
  intro M' hF hv
  refine w_ld rfl rfl ?_
  refine w_ld rfl rfl ?_
  refine w_getr rfl rfl rfl rfl rfl ?_
  refine w_len rfl rfl rfl rfl ?_
  refine w_cj rfl rfl (fun h_8 => ?_) (fun h_8 => ?_)
  · have h9 : e = 7 := by have := nle (a := 7) (by decide) (by omega) h_8; omega
    subst h9
    refine w_cst (v := .int 0) rfl rfl ?_
    refine w_sto (L' := [(0, _), (1, _), (2, _), (3, _)]) rfl rfl ?_
    exact lp_X10_order_26 hS hW 0 (Nat.zero_le _) _ hF (fun v h7 => by rw [ahM_0]; exact hv v h7)
  · have hlt : e < 7 := nnle (by decide) (by omega) h_8
    refine w_ld rfl rfl ?_
    refine w_getr rfl rfl rfl rfl rfl ?_
    refine w_ld rfl rfl ?_
    refine w_cst (v := .int 0) rfl rfl ?_
    refine w_sin rfl rfl rfl (rfl) (by omega) rfl ?_
    refine w_inc (y := _ + 1) rfl rfl rfl ?_
    refine w_norm (L' := [(0, _), (1, _), (2, _), (3, _)]) rfl ?_
    refine w_go rfl ?_
    rw [nI_1]
    refine ih hlt _ (Fr_up (by decide) hF) (fun v hv7 => ?_)
    by_cases q : v = e
    · rw [q, up2_e]
    · rw [up2_k q]
      exact hv v (by omega)

set_option maxHeartbeats 1000000 in
set_option maxRecDepth 10000 in
theorem ok_X10_order {d : Nat} {M : Mm} {ML : Ml} {N E A : Nat} {l h : Nat → Nat} (hS : NS M 2 3 4 5 6 N E A l h) (hW : WN N E A l h) {x : Int32} : EX (d + 3) k_X10_order [.ref 39, .ref 2, .int x] M ML (fun r M2 L2 => r = none ∧ L2 = ML ∧ Fr [42] M M2 ∧ ∀ v, v < 7 → M2 42 v = nI (ahM l h x E v)) := by
  refine EX_in mi_X10_order rfl rfl ?_
  show WP _ cd_X10_order false _ (0, [(0, .ref 39), (1, .ref 2), (2, .int x)], [], (SH, M, ML))
  refine w_cst (v := .int 0) rfl rfl ?_
  refine w_sto (L' := [(0, _), (1, _), (2, _), (3, _)]) rfl rfl ?_
  exact lp_X10_order_2 hS hW 0 (Nat.zero_le _) _ Fr_rf (fun v hv => absurd hv (Nat.not_lt_zero v))

set_option maxHeartbeats 1000000 in
set_option maxRecDepth 10000 in
theorem ok_X10_mayCome {d : Nat} {M : Mm} {ML : Ml} {N E A : Nat} {l h : Nat → Nat} (hW : WN N E A l h) {x : Int32} (ha : ∀ v, v < 7 → M 42 v = nI (ahM l h x E v)) {v S : Nat} (hv : v < 7) (hSb : S < 2 ^ 31) : EX (d + 2) k_X10_mayCome [.ref 39, .int (nI v), .int (nI S)] M ML (fun r M2 L2 => r = some (.int (b2i (cmB E l h x S v))) ∧ L2 = ML ∧ M2 = M) := by
  refine EX_in mi_X10_mayCome rfl rfl ?_
  show WP _ cd_X10_mayCome true _ (0, [(0, .ref 39), (1, .int (nI v)), (2, .int (nI S))], [], (SH, M, ML))
  refine w_ld rfl rfl ?_
  refine w_ld rfl rfl ?_
  refine w_cifn (as := [_, _]) (rest := []) rfl rfl rfl rfl rfl rfl rfl rfl (ok_X11_isIn _ _ _ _ _) rfl (fun h_2 => ?_) (fun h_2 => ?_)
  · refine w_cst (v := .int 0) rfl rfl ?_
    refine w_ret rfl rfl (by first | exact rb1 | exact rb0) ?_
    refine ⟨?_, rfl, rfl⟩
    rw [tb_nI hSb (by omega)] at h_2
    unfold cmB
    first
      | (rw [h_2]; rfl)
      | (rw [h_2, decide_eq_true ((ah_cm hW).mp ((ah_I (ahM_lt ..)).mp (Classical.not_not.mp h_20)))]; rfl)
      | (rw [h_2, decide_eq_false (fun q => h_20 ((ah_I (ahM_lt ..)).mpr ((ah_cm hW).mpr q)))]; rfl)
  · refine w_ld rfl rfl ?_
    refine w_getr rfl rfl rfl rfl rfl ?_
    refine w_ld rfl rfl ?_
    refine w_call (as := [_, _]) (rest := []) rfl rfl rfl rfl rfl rfl rfl rfl (ok_at_v _ _ _ rfl rfl rfl (rfl) (by omega) (ha v hv)) ?_
    refine w_ld rfl rfl ?_
    refine w_cst (v := .int (-1)) rfl rfl ?_
    refine w_bin rfl rfl ?_
    refine w_bin rfl rfl ?_
    refine w_cj rfl rfl (fun h_20 => ?_) (fun h_20 => ?_)
    · refine w_cst (v := .int 0) rfl rfl ?_
      refine w_ret rfl rfl (by first | exact rb1 | exact rb0) ?_
      refine ⟨?_, rfl, rfl⟩
      rw [tb_nI hSb (by omega)] at h_2
      unfold cmB
      first
        | (rw [h_2]; rfl)
        | (rw [h_2, decide_eq_true ((ah_cm hW).mp ((ah_I (ahM_lt ..)).mp (Classical.not_not.mp h_20)))]; rfl)
        | (rw [h_2, decide_eq_false (fun q => h_20 ((ah_I (ahM_lt ..)).mpr ((ah_cm hW).mpr q)))]; rfl)
    · refine w_cst (v := .int 1) rfl rfl ?_
      refine w_go rfl ?_
      refine w_ret rfl rfl (by first | exact rb1 | exact rb0) ?_
      refine ⟨?_, rfl, rfl⟩
      rw [tb_nI hSb (by omega)] at h_2
      unfold cmB
      first
        | (rw [h_2]; rfl)
        | (rw [h_2, decide_eq_true ((ah_cm hW).mp ((ah_I (ahM_lt ..)).mp (Classical.not_not.mp h_20)))]; rfl)
        | (rw [h_2, decide_eq_false (fun q => h_20 ((ah_I (ahM_lt ..)).mpr ((ah_cm hW).mpr q)))]; rfl)

set_option maxHeartbeats 1000000 in
set_option maxRecDepth 10000 in
theorem lp_X12_canCome_3 {d : Nat} {M : Mm} {ML : Ml} {N E A : Nat} {l h : Nat → Nat} (hS : NM M N E A l h) (hW : WN N E A l h) {x : Int32} {v S : Nat} (hv : v < 7) (hSb : S < 2 ^ 31) : ∀ e, e ≤ E → (∀ y, y < e → to l h x y = v → S.testBit (fr l h x y) = true) → WP (d + 2) cd_X12_canCome true (fun r M2 L2 => r = some (.int (b2i (cmB E l h x S v))) ∧ L2 = ML ∧ M2 = M) (3, [(0, .ref 73), (1, .int x), (2, .int (nI S)), (3, .int (nI v)), (4, .int (nI e))], [], (SH, M, ML)) := by
  have hE10 := hW.2.2.1
  refine up_ind fun e he ih => ?_
  intro ha
  refine w_ld rfl rfl ?_
  refine w_ld rfl rfl ?_
  refine w_getv rfl rfl rfl rfl rfl (hS.2.1) ?_
  refine w_cj rfl rfl (fun h_9 => ?_) (fun h_9 => ?_)
  · have h9 : e = E := by have := nle (by omega) (by omega) h_9; omega
    subst h9
    refine w_ld rfl rfl ?_
    refine w_ld rfl rfl ?_
    refine w_cifn (as := [_, _]) (rest := []) rfl rfl rfl rfl rfl rfl rfl rfl (ok_X12_has ..) rfl (fun h_47 => ?_) (fun h_47 => ?_)
    · refine w_cst (v := .int 0) rfl rfl ?_
      refine w_ret rfl rfl (by first | exact rb1 | exact rb0) ?_
      refine ⟨?_, rfl, rfl⟩
      rw [tb_nI hSb (by omega)] at h_47
      unfold cmB
      rw [h_47]
      first
        | rfl
        | (rw [decide_eq_true (show ∀ y, y < e → to l h x y = v → S.testBit (fr l h x y) = true from ha)]; rfl)
    · refine w_cst (v := .int 1) rfl rfl ?_
      refine w_go rfl ?_
      refine w_ret rfl rfl (by first | exact rb1 | exact rb0) ?_
      refine ⟨?_, rfl, rfl⟩
      rw [tb_nI hSb (by omega)] at h_47
      unfold cmB
      rw [h_47]
      first
        | rfl
        | (rw [decide_eq_true (show ∀ y, y < e → to l h x y = v → S.testBit (fr l h x y) = true from ha)]; rfl)
  · have hlt : e < E := nnle (by omega) (by omega) h_9
    have hft := fr_lt hW (x := x) hlt
    refine w_ld rfl rfl ?_
    refine w_ld rfl rfl ?_
    refine w_ld rfl rfl ?_
    refine w_call (as := [_, _, _]) (rest := []) rfl rfl rfl rfl rfl rfl rfl rfl (ok_X12_toOf _ _ _ _ hS hE10 hlt) ?_
    refine w_ld rfl rfl ?_
    refine w_cj rfl rfl (fun h_20 => ?_) (fun h_20 => ?_)
    · refine w_inc (y := _ + 1) rfl rfl rfl ?_
      refine w_norm (L' := [(0, _), (1, _), (2, _), (3, _), (4, _)]) rfl ?_
      refine w_go rfl ?_
      rw [nI_1]
      refine ih hlt (fun y hy ht => ?_)
      rcases Nat.lt_or_ge y e with r | r
      · exact ha y r ht
      · have : y = e := by omega
        subst this
        first
          | exact absurd (congrArg nI ht) h_20
          | (rw [tb_nI hSb (by omega)] at h_31
             exact h_31)
    · refine w_ld rfl rfl ?_
      refine w_ld rfl rfl ?_
      refine w_ld rfl rfl ?_
      refine w_ld rfl rfl ?_
      refine w_call (as := [_, _, _]) (rest := [_]) rfl rfl rfl rfl rfl rfl rfl rfl (ok_X12_fromOf _ _ _ _ hS hE10 hlt) ?_
      refine w_cifn (as := [_, _]) (rest := []) rfl rfl rfl rfl rfl rfl rfl rfl (ok_X12_has ..) rfl (fun h_31 => ?_) (fun h_31 => ?_)
      · refine w_inc (y := _ + 1) rfl rfl rfl ?_
        refine w_norm (L' := [(0, _), (1, _), (2, _), (3, _), (4, _)]) rfl ?_
        refine w_go rfl ?_
        rw [nI_1]
        refine ih hlt (fun y hy ht => ?_)
        rcases Nat.lt_or_ge y e with r | r
        · exact ha y r ht
        · have : y = e := by omega
          subst this
          first
            | exact absurd (congrArg nI ht) h_20
            | (rw [tb_nI hSb (by omega)] at h_31
               exact h_31)
      · refine w_cst (v := .int 0) rfl rfl ?_
        refine w_ret rfl rfl (by first | exact rb1 | exact rb0) ?_
        refine ⟨?_, rfl, rfl⟩
        rw [tb_nI hSb (by omega)] at h_31
        have hbad : cmB E l h x S v = false := by
          unfold cmB
          rw [decide_eq_false (fun q => ?_), Bool.and_false]
          have := q e hlt (neq (by omega) (by omega) (Classical.not_not.mp h_20))
          rw [h_31] at this
          exact Bool.noConfusion this
        rw [hbad]
        exact rfl

set_option maxHeartbeats 1000000 in
set_option maxRecDepth 10000 in
theorem ok_X12_canCome {d : Nat} {M : Mm} {ML : Ml} {N E A : Nat} {l h : Nat → Nat} (hS : NM M N E A l h) (hW : WN N E A l h) {x : Int32} {v S : Nat} (hv : v < 7) (hSb : S < 2 ^ 31) : EX (d + 3) k_X12_canCome [.ref 73, .int x, .int (nI S), .int (nI v)] M ML (fun r M2 L2 => r = some (.int (b2i (cmB E l h x S v))) ∧ L2 = ML ∧ M2 = M) := by
  refine EX_in mi_X12_canCome rfl rfl ?_
  show WP _ cd_X12_canCome true _ (0, [(0, .ref 73), (1, .int x), (2, .int (nI S)), (3, .int (nI v))], [], (SH, M, ML))
  refine w_cst (v := .int 0) rfl rfl ?_
  refine w_sto (L' := [(0, _), (1, _), (2, _), (3, _), (4, _)]) rfl rfl ?_
  exact lp_X12_canCome_3 hS hW hv hSb 0 (Nat.zero_le _) (fun y hy => absurd hy (Nat.not_lt_zero y))

