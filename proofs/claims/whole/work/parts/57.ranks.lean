/-! ===== ranks of the class ===== -/
/-- labels of seven nodes in 3 bits each, the rank above them -/
def PK (X : Nat) (L : Nat → Nat) (r : Nat) : Prop := X < 2 ^ 24 ∧ (∀ v, v < 7 → X / 2 ^ (3 * v) % 8 = L v) ∧ X / 2 ^ 21 = r
theorem dg8_bit (X v i : Nat) : (X / 2 ^ (3 * v) % 8).testBit i = (decide (i < 3) && X.testBit (3 * v + i)) := by
  rw [show (8 : Nat) = 2 ^ 3 from rfl, Nat.testBit_mod_two_pow, Nat.testBit_div_two_pow, Nat.add_comm i]
theorem sh_bit {m : Nat} (hm : m < 8) (v j : Nat) : (m * 2 ^ (3 * v)).testBit j = (decide (3 * v ≤ j) && (decide (j < 3 * v + 3) && m.testBit (j - 3 * v))) := by
  rw [← Nat.shiftLeft_eq, Nat.testBit_shiftLeft]
  by_cases q : 3 * v ≤ j
  · by_cases r : j < 3 * v + 3
    · rw [decide_eq_true q, decide_eq_true r, Bool.true_and, Bool.true_and]
    · rw [decide_eq_false r, Bool.false_and, Bool.and_false, Nat.testBit_lt_two_pow (Nat.lt_of_lt_of_le hm (show 2 ^ 3 ≤ _ from p2 (by omega))), Bool.and_false]
  · rw [decide_eq_false q, Bool.false_and, Bool.false_and]
theorem dg8_xor {X m u v : Nat} (hm : m < 8) : (X ^^^ m * 2 ^ (3 * v)) / 2 ^ (3 * u) % 8 = if u = v then (X / 2 ^ (3 * v) % 8) ^^^ m else X / 2 ^ (3 * u) % 8 := by
  refine Nat.eq_of_testBit_eq fun i => ?_
  rw [dg8_bit, Nat.testBit_xor, sh_bit hm]
  by_cases q : u = v
  · subst q
    rw [if_pos rfl, Nat.testBit_xor, dg8_bit]
    by_cases r : i < 3
    · rw [decide_eq_true r, decide_eq_true (show 3 * u ≤ 3 * u + i by omega), decide_eq_true (show 3 * u + i < 3 * u + 3 by omega), show 3 * u + i - 3 * u = i by omega]
      rfl
    · rw [decide_eq_false r, Bool.false_and, Bool.false_and, Nat.testBit_lt_two_pow (Nat.lt_of_lt_of_le hm (show 2 ^ 3 ≤ _ from p2 (by omega)))]
      rfl
  · rw [if_neg q, dg8_bit]
    by_cases r : i < 3
    · have : (decide (3 * v ≤ 3 * u + i) && (decide (3 * u + i < 3 * v + 3) && m.testBit (3 * u + i - 3 * v))) = false := by
        rcases Nat.lt_or_ge u v with w | w
        · rw [decide_eq_false (show ¬ 3 * v ≤ 3 * u + i by omega), Bool.false_and]
        · rw [decide_eq_false (show ¬ 3 * u + i < 3 * v + 3 by omega), Bool.false_and, Bool.and_false]
      rw [this, Bool.xor_false]
    · rw [decide_eq_false r, Bool.false_and, Bool.false_and]
theorem top_xor {X m v : Nat} (hm : m < 8) (hv : v < 7) : (X ^^^ m * 2 ^ (3 * v)) / 2 ^ 21 = X / 2 ^ 21 := by
  refine Nat.eq_of_testBit_eq fun i => ?_
  rw [Nat.testBit_div_two_pow, Nat.testBit_div_two_pow, Nat.testBit_xor, sh_bit hm, decide_eq_false (show ¬ i + 21 < 3 * v + 3 by omega), Bool.false_and, Bool.and_false, Bool.xor_false]
theorem m_lt {m v : Nat} (hm : m < 8) (hv : v < 7) : m * 2 ^ (3 * v) < 2 ^ 21 := by
  have h1 : 2 ^ (3 * v) ≤ 2 ^ 18 := p2 (by omega)
  have h2 : m * 2 ^ (3 * v) ≤ 7 * 2 ^ 18 := Nat.mul_le_mul (by omega) h1
  omega
theorem dg8_add {X v : Nat} (hv : v < 7) : (X + 2 ^ 21) / 2 ^ (3 * v) % 8 = X / 2 ^ (3 * v) % 8 := by
  match v, hv with
  | 0, _ => show (X + 2097152) / 1 % 8 = X / 1 % 8; omega
  | 1, _ => show (X + 2097152) / 8 % 8 = X / 8 % 8; omega
  | 2, _ => show (X + 2097152) / 64 % 8 = X / 64 % 8; omega
  | 3, _ => show (X + 2097152) / 512 % 8 = X / 512 % 8; omega
  | 4, _ => show (X + 2097152) / 4096 % 8 = X / 4096 % 8; omega
  | 5, _ => show (X + 2097152) / 32768 % 8 = X / 32768 % 8; omega
  | 6, _ => show (X + 2097152) / 262144 % 8 = X / 262144 % 8; omega
  | n + 7, q => exact absurd q (by omega)
theorem PK_join {X : Nat} {L : Nat → Nat} {r a b e : Nat} (ha : a < 7) (hb : b < 7) (he : e < 7) (hr : X / 2 ^ 21 = r) (hX : X < 2 ^ 24) (hd : ∀ v, v < 7 → X / 2 ^ (3 * v) % 8 = if v < e ∧ L v = L b then L a else L v) (hL : ∀ v, v < 7 → L v < 8) (hc : L e = L b) :
    ∃ Y, Y = X ^^^ (L a ^^^ L b) * 2 ^ (3 * e) ∧ Y / 2 ^ 21 = r ∧ Y < 2 ^ 24 ∧ ∀ v, v < 7 → Y / 2 ^ (3 * v) % 8 = if v < e + 1 ∧ L v = L b then L a else L v := by
  have hm : L a ^^^ L b < 8 := Nat.xor_lt_two_pow (n := 3) (hL a ha) (hL b hb)
  refine ⟨_, rfl, by rw [top_xor hm he, hr], Nat.xor_lt_two_pow hX (Nat.lt_trans (m_lt hm he) (by decide)), fun v hv => ?_⟩
  rw [dg8_xor hm]
  by_cases q : v = e
  · subst q
    rw [if_pos rfl, hd v hv, if_neg (fun w => by omega), if_pos ⟨by omega, hc⟩, hc, Nat.xor_comm (L a), ← Nat.xor_assoc, Nat.xor_self, Nat.zero_xor]
  · rw [if_neg q, hd v hv]
    by_cases w : v < e ∧ L v = L b
    · rw [if_pos w, if_pos ⟨by omega, w.2⟩]
    · rw [if_neg w, if_neg (fun y => w ⟨by omega, y.2⟩)]

set_option maxHeartbeats 1000000 in
set_option maxRecDepth 10000 in
theorem ok_X5_partOf {d : Nat} {M : Mm} {ML : Ml} {X v : Nat} (hX : X < 2 ^ 31) (hv : v < 7) : EX (d + 1) k_X5_partOf [.int (nI X), .int (nI v)] M ML (fun r M2 L2 => r = some (.int (nI (X / 2 ^ (3 * v) % 8))) ∧ L2 = ML ∧ M2 = M) := by
  refine EX_in mi_X5_partOf rfl rfl ?_
  show WP _ cd_X5_partOf false _ (0, [(0, .int (nI X)), (1, .int (nI v))], [], (SH, M, ML))
  refine w_ld rfl rfl ?_
  refine w_cst (v := .int 3) rfl rfl ?_
  refine w_ld rfl rfl ?_
  refine w_bin rfl rfl ?_
  rw [show (3 : Int32) = nI 3 from rfl, pk_mul]
  refine w_bin rfl rfl ?_
  rw [shrN hX (by omega)]
  refine w_cst (v := .int 7) rfl rfl ?_
  refine w_bin rfl rfl ?_
  rw [show (7 : Int32) = nI (2 ^ 3 - 1) from rfl, fa_mask]
  refine w_ret rfl rfl (trivial) ?_
  exact ⟨rfl, rfl, rfl⟩

set_option maxHeartbeats 1000000 in
set_option maxRecDepth 10000 in
theorem lp_X5_joined_30 {d : Nat} {M : Mm} {ML : Ml} {X : Nat} {L : Nat → Nat} {r0 a b : Nat} (hP : PK X L r0) (hr : r0 ≤ 6) (ha : a < 7) (hb : b < 7) : ∀ e, e ≤ 7 → ∀ Y, Y / 2 ^ 21 = r0 + 1 → Y < 2 ^ 24 → (∀ v, v < 7 → Y / 2 ^ (3 * v) % 8 = if v < e ∧ L v = L b then L a else L v) → WP (d + 1) cd_X5_joined false (fun r M2 L2 => ∃ Y, r = some (.int (nI Y)) ∧ PK Y (fun v => if L v = L b then L a else L v) (r0 + 1) ∧ L2 = ML ∧ M2 = M) (30, [(0, .int (nI X)), (1, .int (nI a)), (2, .int (nI b)), (3, .int (nI (L a))), (4, .int (nI (L b))), (5, .int (nI Y)), (6, .int (nI e))], [], (SH, M, ML)) := by
  have hX31 : X < 2 ^ 31 := Nat.lt_trans hP.1 (by decide)
  have hL : ∀ v, v < 7 → L v < 8 := fun v hv => by rw [← hP.2.1 v hv]; exact Nat.mod_lt _ (by decide)
  have hLa := hL a ha
  have hLb := hL b hb
  refine up_ind fun e he ih => ?_
  intro Y hr1 hY hd
  refine w_ld rfl rfl ?_
  refine w_cst (v := .int 7) rfl rfl ?_
  refine w_cj rfl rfl (fun h_34 => ?_) (fun h_34 => ?_)
  · have h9 : e = 7 := by have := nle (a := 7) (by decide) (by omega) h_34; omega
    subst h9
    refine w_ld rfl rfl ?_
    refine w_ret rfl rfl (trivial) ?_
    refine ⟨Y, rfl, ⟨hY, fun v hv => ?_, hr1⟩, rfl, rfl⟩
    rw [hd v hv]
    show _ = if L v = L b then L a else L v
    by_cases q : L v = L b
    · rw [if_pos ⟨hv, q⟩, if_pos q]
    · rw [if_neg (fun w => q w.2), if_neg q]
  · have hlt : e < 7 := nnle (a := 7) (by decide) (by omega) h_34
    have hLe := hL e hlt
    refine w_ld rfl rfl ?_
    refine w_ld rfl rfl ?_
    refine w_call (as := [_, _]) (rest := []) rfl rfl rfl rfl rfl rfl rfl rfl (EX_ex (ok_X5_partOf hX31 hlt)) ?_
    rw [hP.2.1 e hlt]
    refine w_ld rfl rfl ?_
    refine w_cj rfl rfl (fun h_45 => ?_) (fun h_45 => ?_)
    · refine w_inc (y := _ + 1) rfl rfl rfl ?_
      refine w_norm (L' := [(0, _), (1, _), (2, _), (3, _), (4, _), (5, _), (6, _)]) rfl ?_
      refine w_go rfl ?_
      rw [nI_1]
      first
        | (refine ih hlt Y hr1 hY (fun v hv => ?_)
           rw [hd v hv]
           by_cases w : v < e ∧ L v = L b
           · rw [if_pos w, if_pos ⟨by omega, w.2⟩]
           · rw [if_neg w, if_neg (fun y => w ⟨by
               rcases Nat.lt_or_ge v e with u | u
               · exact u
               · have : v = e := by omega
                 subst this
                 exact absurd (congrArg nI y.2) h_45, y.2⟩)])
        | (obtain ⟨Z, rfl, z1, z2, z3⟩ := PK_join ha hb hlt hr1 hY hd hL (neq (by omega) (by omega) (Classical.not_not.mp h_45))
           exact ih hlt _ z1 z2 z3)
    · refine w_ld rfl rfl ?_
      refine w_ld rfl rfl ?_
      refine w_ld rfl rfl ?_
      refine w_bin rfl rfl ?_
      rw [xorN]
      refine w_cst (v := .int 3) rfl rfl ?_
      refine w_ld rfl rfl ?_
      refine w_bin rfl rfl ?_
      rw [show (3 : Int32) = nI 3 from rfl, pk_mul]
      refine w_bin rfl rfl ?_
      have hm : L a ^^^ L b < 8 := Nat.xor_lt_two_pow (n := 3) hLa hLb
      rw [shlN (by omega) (Nat.lt_trans (m_lt hm hlt) (by decide))]
      refine w_bin rfl rfl ?_
      rw [xorN]
      refine w_sto (L' := [(0, _), (1, _), (2, _), (3, _), (4, _), (5, _), (6, _)]) rfl rfl ?_
      refine w_inc (y := _ + 1) rfl rfl rfl ?_
      refine w_norm (L' := [(0, _), (1, _), (2, _), (3, _), (4, _), (5, _), (6, _)]) rfl ?_
      refine w_go rfl ?_
      rw [nI_1]
      first
        | (refine ih hlt Y hr1 hY (fun v hv => ?_)
           rw [hd v hv]
           by_cases w : v < e ∧ L v = L b
           · rw [if_pos w, if_pos ⟨by omega, w.2⟩]
           · rw [if_neg w, if_neg (fun y => w ⟨by
               rcases Nat.lt_or_ge v e with u | u
               · exact u
               · have : v = e := by omega
                 subst this
                 exact absurd (congrArg nI y.2) h_45, y.2⟩)])
        | (obtain ⟨Z, rfl, z1, z2, z3⟩ := PK_join ha hb hlt hr1 hY hd hL (neq (by omega) (by omega) (Classical.not_not.mp h_45))
           exact ih hlt _ z1 z2 z3)

set_option maxHeartbeats 1000000 in
set_option maxRecDepth 10000 in
theorem ok_X5_joined {d : Nat} {M : Mm} {ML : Ml} {X : Nat} {L : Nat → Nat} {r0 a b : Nat} (hP : PK X L r0) (hr : r0 ≤ 6) (ha : a < 7) (hb : b < 7) : EX (d + 2) k_X5_joined [.int (nI X), .int (nI a), .int (nI b)] M ML (fun r M2 L2 => ∃ Y, r = some (.int (nI Y)) ∧ PK Y (fun v => if L v = L b then L a else L v) (if L a = L b then r0 else r0 + 1) ∧ L2 = ML ∧ M2 = M) := by
  refine EX_in mi_X5_joined rfl rfl ?_
  show WP _ cd_X5_joined false _ (0, [(0, .int (nI X)), (1, .int (nI a)), (2, .int (nI b))], [], (SH, M, ML))
  have hX31 : X < 2 ^ 31 := Nat.lt_trans hP.1 (by decide)
  have hL : ∀ v, v < 7 → L v < 8 := fun v hv => by rw [← hP.2.1 v hv]; exact Nat.mod_lt _ (by decide)
  have hLa := hL a ha
  have hLb := hL b hb
  refine w_ld rfl rfl ?_
  refine w_ld rfl rfl ?_
  refine w_call (as := [_, _]) (rest := []) rfl rfl rfl rfl rfl rfl rfl rfl (EX_ex (ok_X5_partOf hX31 ha)) ?_
  rw [hP.2.1 a ha]
  refine w_sto (L' := [(0, _), (1, _), (2, _), (3, _)]) rfl rfl ?_
  refine w_ld rfl rfl ?_
  refine w_ld rfl rfl ?_
  refine w_call (as := [_, _]) (rest := []) rfl rfl rfl rfl rfl rfl rfl rfl (EX_ex (ok_X5_partOf hX31 hb)) ?_
  rw [hP.2.1 b hb]
  refine w_sto (L' := [(0, _), (1, _), (2, _), (3, _), (4, _)]) rfl rfl ?_
  refine w_ld rfl rfl ?_
  refine w_ld rfl rfl ?_
  refine w_cj rfl rfl (fun h_16 => ?_) (fun h_16 => ?_)
  · refine w_ld rfl rfl ?_
    refine w_ldc (Or.inl rfl) ?_
    refine w_bin rfl rfl ?_
    rw [show Int32.ofInt 2097152 = nI (2 ^ 21) from rfl, nI_add]
    refine w_sto (L' := [(0, _), (1, _), (2, _), (3, _), (4, _), (5, _)]) rfl rfl ?_
    refine w_cst (v := .int 0) rfl rfl ?_
    refine w_sto (L' := [(0, _), (1, _), (2, _), (3, _), (4, _), (5, _), (6, _)]) rfl rfl ?_
    rw [if_neg (fun w => h_16 (by rw [w]))]
    refine lp_X5_joined_30 hP hr ha hb 0 (Nat.zero_le _) (X + 2 ^ 21) (by rw [Nat.add_div_right _ (by decide), hP.2.2]) ?_ (fun v hv => ?_)
    · have h1 := hP.2.2
      have h2 := Nat.div_add_mod X (2 ^ 21)
      have h3 := Nat.mod_lt X (show 0 < 2 ^ 21 by decide)
      rw [h1] at h2
      have h4 : 2 ^ 21 * r0 ≤ 2 ^ 21 * 6 := Nat.mul_le_mul_left _ hr
      omega
    · rw [dg8_add hv, hP.2.1 v hv, if_neg (fun w => absurd w.1 (Nat.not_lt_zero v))]
  · refine w_ld rfl rfl ?_
    refine w_ret rfl rfl (trivial) ?_
    have e := neq (by omega) (by omega) (Classical.not_not.mp h_16)
    rw [if_pos e]
    refine ⟨X, rfl, ⟨hP.1, fun v hv => ?_, hP.2.2⟩, rfl, rfl⟩
    rw [hP.2.1 v hv]
    show _ = if L v = L b then L a else L v
    by_cases q : L v = L b
    · rw [if_pos q, q, e]
    · rw [if_neg q]

/-- the edges of a set -/
def sB (s i : Nat) : Bool := s.testBit i
def lbS (l h : Nat → Nat) (E s : Nat) : Nat → Nat := lb l h (sB s) E
def rkS (l h : Nat → Nat) (E s : Nat) : Nat := rk l h (sB s) E
theorem sB_out {s E i : Nat} (hs : s < 2 ^ E) (hi : E ≤ i) : sB s i = false := Nat.testBit_lt_two_pow (Nat.lt_of_lt_of_le hs (p2 hi))
theorem set_step {l h : Nat → Nat} {E e s : Nat} (he : e < E) (h1 : 2 ^ e ≤ s) (h2 : s < 2 ^ (e + 1)) :
    lbS l h E s = (fun v => if lbS l h E (s ^^^ 2 ^ e) v = lbS l h E (s ^^^ 2 ^ e) (h e) then lbS l h E (s ^^^ 2 ^ e) (l e) else lbS l h E (s ^^^ 2 ^ e) v) ∧
    rkS l h E s = (if lbS l h E (s ^^^ 2 ^ e) (l e) = lbS l h E (s ^^^ 2 ^ e) (h e) then rkS l h E (s ^^^ 2 ^ e) else rkS l h E (s ^^^ 2 ^ e) + 1) ∧ s ^^^ 2 ^ e < 2 ^ e := by
  have hse : sB s e = true := by
    unfold sB
    rw [Nat.testBit_eq_decide_div_mod_eq]
    have : s / 2 ^ e = 1 := by
      rw [Nat.pow_succ] at h2
      exact Nat.div_eq_of_lt_le (by omega) (by omega)
    rw [this]
    rfl
  have hlt : s ^^^ 2 ^ e < 2 ^ e := by
    refine Nat.lt_pow_two_of_testBit _ fun i hi => ?_
    rw [fb_bit_flip]
    by_cases q : i = e
    · subst q
      rw [show s.testBit i = true from hse, decide_eq_true rfl]
      rfl
    · rw [decide_eq_false q, Bool.xor_false]
      exact sB_out h2 (by omega)
  have hbits : ∀ i, i < e → sB s i = sB (s ^^^ 2 ^ e) i := fun i hi => by
    unfold sB
    rw [fb_bit_flip, decide_eq_false (by omega), Bool.xor_false]
  have e1 : lbS l h E s = lb l h (sB s) (e + 1) := by
    have := lb_out (l := l) (h := h) (S := sB s) (e := e + 1) (fun i hi => sB_out h2 hi) (E - (e + 1))
    rw [show e + 1 + (E - (e + 1)) = E by omega] at this
    exact this
  have e2 : lbS l h E (s ^^^ 2 ^ e) = lb l h (sB s) e := by
    have := lb_out (l := l) (h := h) (S := sB (s ^^^ 2 ^ e)) (e := e) (fun i hi => sB_out hlt hi) (E - e)
    rw [show e + (E - e) = E by omega] at this
    exact this.trans (lb_cong e (fun i hi => (hbits i hi).symm))
  have e3 : rkS l h E s = rk l h (sB s) (e + 1) := by
    have := rk_out (l := l) (h := h) (S := sB s) (e := e + 1) (fun i hi => sB_out h2 hi) (E - (e + 1))
    rw [show e + 1 + (E - (e + 1)) = E by omega] at this
    exact this
  have e4 : rkS l h E (s ^^^ 2 ^ e) = rk l h (sB s) e := by
    have := rk_out (l := l) (h := h) (S := sB (s ^^^ 2 ^ e)) (e := e) (fun i hi => sB_out hlt hi) (E - e)
    rw [show e + (E - e) = E by omega] at this
    exact this.trans (rk_cong e (fun i hi => (hbits i hi).symm))
  refine ⟨?_, ?_, hlt⟩
  · rw [e1, e2]
    exact funext fun v => lb_y hse v
  · rw [e3, e4, e2, rk]
    by_cases c : lb l h (sB s) e (l e) = lb l h (sB s) e (h e)
    · rw [if_neg (fun w => w.2 c), if_pos c]
    · rw [if_pos ⟨hse, c⟩, if_neg c]
/-- where a set is counted -/
def cel (l h : Nat → Nat) (E s : Nat) : Nat := (rkS l h E (2 ^ E - 1) - rkS l h E s) * 11 + popc s - rkS l h E s
def tlc (l h : Nat → Nat) (E n c : Nat) : Nat := fb_ct (fun s => decide (cel l h E s = c)) n
theorem rk_facts {N E A : Nat} {l h : Nat → Nat} (hW : WN N E A l h) {s : Nat} (hs : s < 2 ^ E) : rkS l h E s ≤ rkS l h E (2 ^ E - 1) ∧ rkS l h E (2 ^ E - 1) ≤ 6 ∧ rkS l h E s ≤ popc s ∧ popc s ≤ 10 := by
  have hb : ∀ e, e < E → l e < N ∧ h e < N := fun e he => by have := hW.2.2.2.2 e he; omega
  refine ⟨?_, ?_, rk_popc hW.2.2.1, popc_E hW.2.2.1 hs⟩
  · refine rk_mono hb (fun i hi => ?_)
    unfold sB
    rw [Nat.testBit_two_pow_sub_one]
    refine decide_eq_true (Nat.lt_of_not_le fun q => ?_)
    rw [sB_out hs q] at hi
    exact Bool.noConfusion hi
  · have := rk_N (l := l) (h := h) (S := sB (2 ^ E - 1)) hW.1 hb
    have := hW.2.1
    unfold rkS
    omega
theorem cel_lt {N E A : Nat} {l h : Nat → Nat} (hW : WN N E A l h) {s : Nat} (hs : s < 2 ^ E) : cel l h E s < 77 := by
  obtain ⟨h1, h2, h3, h4⟩ := rk_facts hW hs
  unfold cel
  omega
/-- the packed labels of all sets below n -/
def PS (M : Mm) (l h : Nat → Nat) (E n : Nat) : Prop := ∀ s, s < n → ∃ X, M 32 s = nI X ∧ PK X (lbS l h E s) (rkS l h E s)
/-- the counts stand -/
def RKS (M : Mm) (E : Nat) (l h : Nat → Nat) : Prop := ∀ c, c < 77 → M 33 c = nI (tlc l h E (2 ^ E) c)

set_option maxHeartbeats 1000000 in
set_option maxRecDepth 10000 in
theorem lp_X5_tallyAll_40 {d : Nat} {M : Mm} {ML : Ml} {N E A : Nat} {l h : Nat → Nat} (hW : WN N E A l h) (hP : PS M l h E (2 ^ E)) : ∀ s, s ≤ 2 ^ E → ∀ M', Fr [33] M M' → (∀ c, c < 77 → M' 33 c = nI (tlc l h E s c)) → WP (d + 1) cd_X5_tallyAll false (fun r M2 L2 => r = none ∧ L2 = ML ∧ Fr [33] M M2 ∧ RKS M2 E l h) (40, [(0, .ref 31), (1, .int (nI (2 ^ E))), (2, .int (nI (rkS l h E (2 ^ E - 1)))), (3, .int (nI s))], [], (SH, M', ML)) := by
  have hN7 := hW.2.1
  have hE10 := hW.2.2.1
  have h1024 := pow_b hE10
  have hpE : 0 < 2 ^ E := Nat.two_pow_pos E
  refine up_ind fun s hs ih => ?_
  intro M' hF hc
  refine w_ld rfl rfl ?_
  refine w_ld rfl rfl ?_
  refine w_cj rfl rfl (fun h_42 => ?_) (fun h_42 => ?_)
  · have h9 : s = 2 ^ E := by have := nle (by omega) (by omega) h_42; omega
    subst h9
    refine w_ret rfl rfl (trivial) ?_
    exact ⟨rfl, rfl, hF, hc⟩
  · have hlt : s < 2 ^ E := nnle (by omega) (by omega) h_42
    obtain ⟨X, hX, hPK⟩ := hP s hlt
    obtain ⟨r1, r2, r3, r4⟩ := rk_facts hW hlt
    have hcl := cel_lt hW hlt
    refine w_ld rfl rfl ?_
    refine w_getr rfl rfl rfl rfl rfl ?_
    refine w_ld rfl rfl ?_
    refine w_call (as := [_, _]) (rest := []) rfl rfl rfl rfl rfl rfl rfl rfl (ok_at_v _ _ _ rfl rfl rfl (rfl) (by omega) (Eq.trans (by rw [hF 32 (by decide)]) (hX))) ?_
    refine w_cst (v := .int 21) rfl rfl ?_
    skip
    refine w_bin rfl rfl ?_
    rw [show (21 : Int32) = nI 21 from rfl, shrN (Nat.lt_trans hPK.1 (by decide)) (by decide), hPK.2.2]
    refine w_sto (L' := [(0, _), (1, _), (2, _), (3, _), (4, _)]) rfl rfl ?_
    refine w_ld rfl rfl ?_
    refine w_ld rfl rfl ?_
    refine w_bin rfl rfl ?_
    rw [pk_sub r1]
    refine w_cst (v := .int 11) rfl rfl ?_
    refine w_bin rfl rfl ?_
    rw [show (11 : Int32) = nI 11 from rfl, pk_mul]
    refine w_ld rfl rfl ?_
    refine w_call (as := [_]) (rest := [_]) rfl rfl rfl rfl rfl rfl rfl rfl (ok_bitCount _ _ _ (by omega)) ?_
    refine w_bin rfl rfl ?_
    rw [nI_add]
    refine w_ld rfl rfl ?_
    refine w_bin rfl rfl ?_
    rw [pk_sub (by omega)]
    change WP _ _ _ _ (_, _, [.int (nI (cel l h E s))], _)
    refine w_sto (L' := [(0, _), (1, _), (2, _), (3, _), (4, _), (5, _)]) rfl rfl ?_
    refine w_ld rfl rfl ?_
    refine w_getr rfl rfl rfl rfl rfl ?_
    refine w_ld rfl rfl ?_
    refine w_ld rfl rfl ?_
    refine w_getr rfl rfl rfl rfl rfl ?_
    refine w_ld rfl rfl ?_
    refine w_call (as := [_, _]) (rest := [_, _]) rfl rfl rfl rfl rfl rfl rfl rfl (ok_at_v _ _ _ rfl rfl rfl (rfl) (hcl) (hc _ hcl)) ?_
    refine w_cst (v := .int 1) rfl rfl ?_
    refine w_bin rfl rfl ?_
    rw [nI_1]
    refine w_callv (as := [_, _, _]) (rest := []) rfl rfl rfl rfl rfl rfl rfl rfl (ok_lay_n _ _ _ _ _ rfl rfl rfl (rfl) (hcl)) ?_
    refine w_inc (y := _ + 1) rfl rfl rfl ?_
    refine w_norm (L' := [(0, _), (1, _), (2, _), (3, _), (4, _), (5, _)]) rfl ?_
    refine w_go rfl ?_
    refine w_keep [0, 1, 2, 3] (L' := [(0, _), (1, _), (2, _), (3, _)]) rfl ?_
    rw [nI_1 s]
    refine ih hlt _ (Fr_up (by decide) hF) (fun c hc9 => ?_)
    unfold tlc
    rw [fb_ct_succ]
    by_cases q : c = cel l h E s
    · rw [q, up2_e, if_pos (decide_eq_true rfl)]
    · rw [up2_k q, if_neg (fun w => q (of_decide_eq_true w).symm)]
      exact hc c hc9

set_option maxHeartbeats 1000000 in
set_option maxRecDepth 10000 in
theorem lp_X5_tallyAll_2 {d : Nat} {M : Mm} {ML : Ml} {N E A : Nat} {l h : Nat → Nat} (hW : WN N E A l h) (hP : PS M l h E (2 ^ E)) : ∀ e, e ≤ 77 → ∀ M', Fr [33] M M' → (∀ c, c < e → M' 33 c = 0) → WP (d + 1) cd_X5_tallyAll false (fun r M2 L2 => r = none ∧ L2 = ML ∧ Fr [33] M M2 ∧ RKS M2 E l h) (2, [(0, .ref 31), (1, .int (nI (2 ^ E))), (2, .int (nI e))], [], (SH, M', ML)) := by
  have hN7 := hW.2.1
  have hE10 := hW.2.2.1
  have h1024 := pow_b hE10
  have hpE : 0 < 2 ^ E := Nat.two_pow_pos E
  refine up_ind fun e he ih => ?_
  intro M' hF hc
  refine w_ld rfl rfl ?_
  refine w_ld rfl rfl ?_
  refine w_getr rfl rfl rfl rfl rfl ?_
  refine w_len rfl rfl rfl rfl ?_
  refine w_cj rfl rfl (fun h_8 => ?_) (fun h_8 => ?_)
  · have h9 : e = 77 := by have := nle (a := 77) (by decide) (by omega) h_8; omega
    obtain ⟨X, hX, hPK⟩ := hP (2 ^ E - 1) (by omega)
    refine w_ld rfl rfl ?_
    refine w_getr rfl rfl rfl rfl rfl ?_
    refine w_ld rfl rfl ?_
    refine w_cst (v := .int 1) rfl rfl ?_
    refine w_bin rfl rfl ?_
    refine w_call (as := [_, _]) (rest := []) rfl rfl rfl rfl rfl rfl rfl rfl (ok_at_v _ _ _ rfl rfl rfl (by rw [show (1 : Int32) = nI 1 from rfl, pk_sub hpE]) (by omega) (Eq.trans (by rw [hF 32 (by decide)]) (hX))) ?_
    refine w_cst (v := .int 21) rfl rfl ?_
    refine w_bin rfl rfl ?_
    rw [show (21 : Int32) = nI 21 from rfl, shrN (Nat.lt_trans hPK.1 (by decide)) (by decide), hPK.2.2]
    refine w_sto (L' := [(0, _), (1, _), (2, _)]) rfl rfl ?_
    refine w_cst (v := .int 0) rfl rfl ?_
    refine w_sto (L' := [(0, _), (1, _), (2, _), (3, _)]) rfl rfl ?_
    exact lp_X5_tallyAll_40 hW hP 0 (Nat.zero_le _) M' hF (fun c hc9 => (hc c (by omega)).trans rfl)
  · have hlt : e < 77 := nnle (a := 77) (by decide) (by omega) h_8
    refine w_ld rfl rfl ?_
    refine w_getr rfl rfl rfl rfl rfl ?_
    refine w_ld rfl rfl ?_
    refine w_cst (v := .int 0) rfl rfl ?_
    refine w_sin rfl rfl rfl (rfl) (by omega) rfl ?_
    refine w_inc (y := _ + 1) rfl rfl rfl ?_
    refine w_norm (L' := [(0, _), (1, _), (2, _)]) rfl ?_
    refine w_go rfl ?_
    rw [nI_1]
    refine ih hlt _ (Fr_up (by decide) hF) (fun c hc9 => ?_)
    by_cases q : c = e
    · rw [q, up2_e]
    · rw [up2_k q]
      exact hc c (by omega)

set_option maxHeartbeats 1000000 in
set_option maxRecDepth 10000 in
theorem ok_X5_tallyAll {d : Nat} {M : Mm} {ML : Ml} {N E A : Nat} {l h : Nat → Nat} (hW : WN N E A l h) (hP : PS M l h E (2 ^ E)) : EX (d + 2) k_X5_tallyAll [.ref 31, .int (nI (2 ^ E))] M ML (fun r M2 L2 => r = none ∧ L2 = ML ∧ Fr [33] M M2 ∧ RKS M2 E l h) := by
  refine EX_in mi_X5_tallyAll rfl rfl ?_
  show WP _ cd_X5_tallyAll false _ (0, [(0, .ref 31), (1, .int (nI (2 ^ E)))], [], (SH, M, ML))
  refine w_cst (v := .int 0) rfl rfl ?_
  refine w_sto (L' := [(0, _), (1, _), (2, _)]) rfl rfl ?_
  exact lp_X5_tallyAll_2 hW hP 0 (Nat.zero_le _) M Fr_rf (fun c hc => absurd hc (Nat.not_lt_zero c))

/-- the labels at first: each node its own -/
def pk0 : Nat → Nat
  | 0 => 0
  | e + 1 => pk0 e ||| e * 2 ^ (3 * e)
theorem pk0_ok : PK (pk0 7) (fun v => v) 0 := by
  refine ⟨by decide +kernel, fun v hv => ?_, by decide +kernel⟩
  have : ∀ v, v < 7 → pk0 7 / 2 ^ (3 * v) % 8 = v := by decide +kernel
  exact this v hv
theorem pk0_lt : ∀ e, e < 8 → pk0 e < 2 ^ 24 := by decide +kernel
theorem pk0_sh : ∀ e, e < 7 → e * 2 ^ (3 * e) < 2 ^ 32 := by decide +kernel
theorem lbS_0 (l h : Nat → Nat) (E : Nat) : lbS l h E 0 = fun v => v := by
  have := lb_out (l := l) (h := h) (S := sB 0) (e := 0) (fun i _ => Nat.zero_testBit i) E
  rw [Nat.zero_add] at this
  exact this
theorem rkS_0 (l h : Nat → Nat) (E : Nat) : rkS l h E 0 = 0 := by
  have := rk_out (l := l) (h := h) (S := sB 0) (e := 0) (fun i _ => Nat.zero_testBit i) E
  rw [Nat.zero_add] at this
  exact this

set_option maxHeartbeats 1000000 in
set_option maxRecDepth 10000 in
theorem lp_X5_find_66 {d : Nat} {M : Mm} {ML : Ml} {N E A : Nat} {l h : Nat → Nat} (hS : NS M 2 3 4 5 6 N E A l h) (hW : WN N E A l h) {e : Nat} (he : e < E) (hk : ∀ M9, Fr [31, 32, 33] M M9 → PS M9 l h E (2 ^ (e + 1)) → WP (d + 2) cd_X5_find false (fun r M2 L2 => r = none ∧ L2 = ML ∧ Fr [31, 32, 33] M M2 ∧ M2 31 0 = 1 ∧ RKS M2 E l h) (54, [(0, .ref 31), (1, .ref 2), (2, .int (nI (e + 1)))], [], (SH, M9, ML))) : ∀ s, s ≤ 2 ^ (e + 1) → 2 ^ e ≤ s → ∀ M', Fr [31, 32, 33] M M' → PS M' l h E s → WP (d + 2) cd_X5_find false (fun r M2 L2 => r = none ∧ L2 = ML ∧ Fr [31, 32, 33] M M2 ∧ M2 31 0 = 1 ∧ RKS M2 E l h) (66, [(0, .ref 31), (1, .ref 2), (2, .int (nI e)), (3, .int (nI s))], [], (SH, M', ML)) := by
  have hN7 := hW.2.1
  have hE10 := hW.2.2.1
  have h1024 := pow_b hE10
  have hpE : 0 < 2 ^ E := Nat.two_pow_pos E
  have hp10 : 2 ^ (e + 1) ≤ 2 ^ E := p2 he
  have hpe : 2 ^ (e + 1) = 2 * 2 ^ e := by rw [Nat.pow_succ, Nat.mul_comm]
  refine up_ind fun s hs ih => ?_
  intro h1 M' hF hP
  have hS' := NS_Fr hS hF (by decide)
  have hed := hS'.2.2.2.1 e he
  have hb := WN_b hW e he
  refine w_ld rfl rfl ?_
  refine w_cst (v := .int 2) rfl rfl ?_
  refine w_ld rfl rfl ?_
  refine w_bin rfl rfl ?_
  rw [show (2 : Int32) = nI 2 from rfl, shlN (by omega) (by rw [← hpe]; omega), ← hpe]
  refine w_cj rfl rfl (fun h_70 => ?_) (fun h_70 => ?_)
  · refine w_keep [0, 1, 2] (L' := [(0, _), (1, _), (2, _)]) rfl ?_
    have h9 : s = 2 ^ (e + 1) := by have := nle (by omega) (by omega) h_70; omega
    subst h9
    refine w_inc (y := _ + 1) rfl rfl rfl ?_
    refine w_norm (L' := [(0, _), (1, _), (2, _)]) rfl ?_
    refine w_go rfl ?_
    rw [nI_1]
    exact hk M' hF hP
  · have hlt : s < 2 ^ (e + 1) := nnle (by omega) (by omega) h_70
    obtain ⟨c1, c2, c3⟩ := set_step (l := l) (h := h) he h1 hlt
    obtain ⟨X, hX, hPK⟩ := hP (s ^^^ 2 ^ e) (by omega)
    have hsl : s ^^^ 2 ^ e < 2 ^ E := by omega
    have r6 : rkS l h E (s ^^^ 2 ^ e) ≤ 6 := by have := rk_facts hW hsl; omega
    refine w_ld rfl rfl ?_
    refine w_getr rfl rfl rfl rfl rfl ?_
    refine w_ld rfl rfl ?_
    refine w_cst (v := .int 1) rfl rfl ?_
    refine w_ld rfl rfl ?_
    refine w_bin rfl rfl ?_
    refine w_bin rfl rfl ?_
    rw [shl1 (by omega), xorN]
    refine w_call (as := [_, _]) (rest := []) rfl rfl rfl rfl rfl rfl rfl rfl (ok_at_v _ _ _ rfl rfl rfl (rfl) (by omega) (hX)) ?_
    refine w_sto (L' := [(0, _), (1, _), (2, _), (3, _), (4, _)]) rfl rfl ?_
    refine w_ld rfl rfl ?_
    refine w_getr rfl rfl rfl rfl rfl ?_
    refine w_ld rfl rfl ?_
    refine w_ld rfl rfl ?_
    refine w_ld rfl rfl ?_
    refine w_getr rfl rfl rfl rfl rfl ?_
    refine w_ld rfl rfl ?_
    refine w_call (as := [_, _]) (rest := [_, _, _]) rfl rfl rfl rfl rfl rfl rfl rfl (ok_at_v _ _ _ rfl rfl rfl (rfl) (by omega) (hed.1)) ?_
    refine w_ld rfl rfl ?_
    refine w_getr rfl rfl rfl rfl rfl ?_
    refine w_ld rfl rfl ?_
    refine w_call (as := [_, _]) (rest := [_, _, _, _]) rfl rfl rfl rfl rfl rfl rfl rfl (ok_at_v _ _ _ rfl rfl rfl (rfl) (by omega) (hed.2)) ?_
    obtain ⟨_, M3, L3, ⟨Y, rfl, hY, rfl, rfl⟩, hE110⟩ := ok_X5_joined (d := d) (ML := ML) (M := M') hPK r6 hb.1 hb.2
    refine w_call (as := [_, _, _]) (rest := [_, _]) rfl rfl rfl rfl rfl rfl rfl rfl hE110 ?_
    refine w_callv (as := [_, _, _]) (rest := []) rfl rfl rfl rfl rfl rfl rfl rfl (ok_lay_n _ _ _ _ _ rfl rfl rfl (rfl) (by omega)) ?_
    refine w_inc (y := _ + 1) rfl rfl rfl ?_
    refine w_norm (L' := [(0, _), (1, _), (2, _), (3, _), (4, _)]) rfl ?_
    refine w_go rfl ?_
    refine w_keep [0, 1, 2, 3] (L' := [(0, _), (1, _), (2, _), (3, _)]) rfl ?_
    rw [nI_1]
    refine ih hlt (by omega) _ (Fr_up (by decide) hF) (fun t ht => ?_)
    by_cases q : t = s
    · rw [q]
      refine ⟨Y, up2_e, ?_⟩
      rw [c1, c2]
      exact hY
    · rw [up2_k q]
      exact hP t (by omega)

set_option maxHeartbeats 1000000 in
set_option maxRecDepth 10000 in
theorem lp_X5_find_54 {d : Nat} {M : Mm} {ML : Ml} {N E A : Nat} {l h : Nat → Nat} (hS : NS M 2 3 4 5 6 N E A l h) (hW : WN N E A l h) : ∀ e, e ≤ E → ∀ M', Fr [31, 32, 33] M M' → PS M' l h E (2 ^ e) → WP (d + 2) cd_X5_find false (fun r M2 L2 => r = none ∧ L2 = ML ∧ Fr [31, 32, 33] M M2 ∧ M2 31 0 = 1 ∧ RKS M2 E l h) (54, [(0, .ref 31), (1, .ref 2), (2, .int (nI e))], [], (SH, M', ML)) := by
  have hN7 := hW.2.1
  have hE10 := hW.2.2.1
  have h1024 := pow_b hE10
  have hpE : 0 < 2 ^ E := Nat.two_pow_pos E
  refine up_ind fun e he ih => ?_
  intro M' hF hP
  have hS' := NS_Fr hS hF (by decide)
  refine w_ld rfl rfl ?_
  refine w_ld rfl rfl ?_
  refine w_getv rfl rfl rfl rfl rfl (hS'.2.1) ?_
  refine w_cj rfl rfl (fun h_59 => ?_) (fun h_59 => ?_)
  · have h9 : e = E := by have := nle (by omega) (by omega) h_59; omega
    subst h9
    refine w_ld rfl rfl ?_
    refine w_cst (v := .int 1) rfl rfl ?_
    refine w_ld rfl rfl ?_
    refine w_getv rfl rfl rfl rfl rfl (hS'.2.1) ?_
    refine w_bin rfl rfl ?_
    rw [shl1 (by omega)]
    obtain ⟨_, M3, L3, ⟨rfl, rfl, hF3, hR⟩, hE135⟩ := ok_X5_tallyAll (d := d) (ML := ML) (M := M') hW hP
    refine w_callv (as := [_, _]) (rest := []) rfl rfl rfl rfl rfl rfl rfl rfl hE135 ?_
    refine w_ld rfl rfl ?_
    refine w_cst (v := .int 1) rfl rfl ?_
    refine w_put rfl rfl rfl rfl rfl (Or.inr (Or.inr rfl)) ?_
    refine w_ret rfl rfl (trivial) ?_
    exact ⟨rfl, rfl, Fr_up (by decide) (Fr_tr hF (Fr_mono hF3 (by decide))), up2_e, fun c hc => by rw [up2_row (by decide)]; exact hR c hc⟩
  · have hlt : e < E := nnle (by omega) (by omega) h_59
    refine w_cst (v := .int 1) rfl rfl ?_
    refine w_ld rfl rfl ?_
    refine w_bin rfl rfl ?_
    rw [shl1 (by omega)]
    refine w_sto (L' := [(0, _), (1, _), (2, _), (3, _)]) rfl rfl ?_
    exact lp_X5_find_66 hS hW hlt (fun M9 hF9 hP9 => ih hlt M9 hF9 hP9) (2 ^ e) (p2 (by omega)) (Nat.le_refl _) M' hF hP

set_option maxHeartbeats 1000000 in
set_option maxRecDepth 10000 in
theorem lp_X5_find_10 {d : Nat} {M : Mm} {ML : Ml} {N E A : Nat} {l h : Nat → Nat} (hS : NS M 2 3 4 5 6 N E A l h) (hW : WN N E A l h) : ∀ e, e ≤ 7 → ∀ M', Fr [31, 32, 33] M M' → (1 ≤ e → M' 32 0 = nI (pk0 e)) → WP (d + 2) cd_X5_find false (fun r M2 L2 => r = none ∧ L2 = ML ∧ Fr [31, 32, 33] M M2 ∧ M2 31 0 = 1 ∧ RKS M2 E l h) (10, [(0, .ref 31), (1, .ref 2), (2, .int (nI e))], [], (SH, M', ML)) := by
  have hN7 := hW.2.1
  have hE10 := hW.2.2.1
  have h1024 := pow_b hE10
  have hpE : 0 < 2 ^ E := Nat.two_pow_pos E
  refine up_ind fun e he ih => ?_
  intro M' hF hc
  refine w_ld rfl rfl ?_
  refine w_cst (v := .int 7) rfl rfl ?_
  refine w_cj rfl rfl (fun h_13 => ?_) (fun h_13 => ?_)
  · have h9 : e = 7 := by have := nle (a := 7) (by decide) (by omega) h_13; omega
    subst h9
    refine w_cst (v := .int 0) rfl rfl ?_
    refine w_sto (L' := [(0, _), (1, _), (2, _)]) rfl rfl ?_
    refine lp_X5_find_54 hS hW 0 (Nat.zero_le _) M' hF (fun s hs => ?_)
    have : s = 0 := by omega
    subst this
    refine ⟨pk0 7, hc (by decide), ?_⟩
    rw [lbS_0, rkS_0]
    exact pk0_ok
  · have hlt : e < 7 := nnle (a := 7) (by decide) (by omega) h_13
    refine w_ld rfl rfl ?_
    refine w_getr rfl rfl rfl rfl rfl ?_
    refine w_cst (v := .int 0) rfl rfl ?_
    refine w_ld rfl rfl ?_
    refine w_cj rfl rfl (fun h_22 => ?_) (fun h_22 => ?_)
    · have he1 : 1 ≤ e := Nat.pos_of_ne_zero (fun w => h_22 (by rw [w]; rfl))
      refine w_ld rfl rfl ?_
      refine w_getr rfl rfl rfl rfl rfl ?_
      refine w_cst (v := .int 0) rfl rfl ?_
      refine w_call (as := [_, _]) (rest := [_, _]) rfl rfl rfl rfl rfl rfl rfl rfl (ok_at_v _ _ _ rfl rfl rfl (rfl) (by decide) (hc he1)) ?_
      refine w_ld rfl rfl ?_
      refine w_cst (v := .int 3) rfl rfl ?_
      refine w_ld rfl rfl ?_
      refine w_bin rfl rfl ?_
      rw [show (3 : Int32) = nI 3 from rfl, pk_mul]
      refine w_bin rfl rfl ?_
      rw [shlN (by omega) (pk0_sh e hlt)]
      refine w_bin rfl rfl ?_
      first | rw [orN] | skip
      refine w_callv (as := [_, _, _]) (rest := []) rfl rfl rfl rfl rfl rfl rfl rfl (ok_lay_n _ _ _ _ _ rfl rfl rfl (rfl) (by decide)) ?_
      refine w_inc (y := _ + 1) rfl rfl rfl ?_
      refine w_norm (L' := [(0, _), (1, _), (2, _)]) rfl ?_
      refine w_go rfl ?_
      rw [nI_1]
      refine ih hlt _ (Fr_up (by decide) hF) (fun _ => ?_)
      first
        | (rw [show e = 0 from (nI_e0 (by omega)).mp (Classical.not_not.mp h_22)]
           exact up2_e)
        | exact up2_e
    · refine w_cst (v := .int 0) rfl rfl ?_
      refine w_go rfl ?_
      first | rw [orN] | skip
      refine w_callv (as := [_, _, _]) (rest := []) rfl rfl rfl rfl rfl rfl rfl rfl (ok_lay_n _ _ _ _ _ rfl rfl rfl (rfl) (by decide)) ?_
      refine w_inc (y := _ + 1) rfl rfl rfl ?_
      refine w_norm (L' := [(0, _), (1, _), (2, _)]) rfl ?_
      refine w_go rfl ?_
      rw [nI_1]
      refine ih hlt _ (Fr_up (by decide) hF) (fun _ => ?_)
      first
        | (rw [show e = 0 from (nI_e0 (by omega)).mp (Classical.not_not.mp h_22)]
           exact up2_e)
        | exact up2_e

set_option maxHeartbeats 1000000 in
set_option maxRecDepth 10000 in
theorem ok_X5_find {d : Nat} {M : Mm} {ML : Ml} {N E A : Nat} {l h : Nat → Nat} (hS : NS M 2 3 4 5 6 N E A l h) (hW : WN N E A l h) (hf : M 31 0 = 0 ∨ (M 31 0 = 1 ∧ RKS M E l h)) : EX (d + 3) k_X5_find [.ref 31, .ref 2] M ML (fun r M2 L2 => r = none ∧ L2 = ML ∧ Fr [31, 32, 33] M M2 ∧ M2 31 0 = 1 ∧ RKS M2 E l h) := by
  refine EX_in mi_X5_find rfl rfl ?_
  show WP _ cd_X5_find false _ (0, [(0, .ref 31), (1, .ref 2)], [], (SH, M, ML))
  refine w_ld rfl rfl ?_
  refine w_geti rfl rfl rfl rfl rfl ?_
  refine w_cj rfl rfl (fun h_4 => ?_) (fun h_4 => ?_)
  · refine w_cst (v := .int 0) rfl rfl ?_
    refine w_sto (L' := [(0, _), (1, _), (2, _)]) rfl rfl ?_
    exact lp_X5_find_10 hS hW 0 (Nat.zero_le _) M Fr_rf (fun w => absurd w (by decide))
  · refine w_ret rfl rfl (trivial) ?_
    rcases hf with q | ⟨q1, q2⟩
    · exact absurd q h_4
    · exact ⟨rfl, rfl, Fr_rf, q1, q2⟩

