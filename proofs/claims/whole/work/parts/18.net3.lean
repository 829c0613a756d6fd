/-! ===== bits of ints; Net, 3 ===== -/
def bt (x : Int32) (i : Nat) : Bool := x.toBitVec.getLsbD i
theorem b_ext {x y : Int32} (h : ∀ i, i < 32 → bt x i = bt y i) : x = y := Int32.toBitVec_inj.mp (BitVec.eq_of_getLsbD_eq (fun i hi => h i hi))
theorem b_or (x y : Int32) (i : Nat) : bt (x ||| y) i = (bt x i || bt y i) := by unfold bt; rw [Int32.toBitVec_or, BitVec.getLsbD_or]
theorem b_and (x y : Int32) (i : Nat) : bt (x &&& y) i = (bt x i && bt y i) := by unfold bt; rw [Int32.toBitVec_and, BitVec.getLsbD_and]
theorem b_xor (x y : Int32) (i : Nat) : bt (x ^^^ y) i = (bt x i ^^ bt y i) := by unfold bt; rw [Int32.toBitVec_xor, BitVec.getLsbD_xor]
theorem b_m1 : ∀ i, i < 32 → bt (-1) i = true := by decide +kernel
theorem b_nI (x : Nat) {i : Nat} (hi : i < 32) : bt (nI x) i = x.testBit i := by
  unfold bt
  rw [show (nI x).toBitVec = BitVec.ofNat 32 x from rfl, BitVec.getLsbD_ofNat]
  simp [hi]
theorem b_0 {i : Nat} (hi : i < 32) : bt 0 i = false := by
  rw [show (0 : Int32) = nI 0 from rfl, b_nI 0 hi, Nat.zero_testBit]
theorem b_zero {x : Int32} : x = 0 ↔ ∀ i, i < 32 → bt x i = false := by
  constructor
  · intro h i hi
    rw [h, b_0 hi]
  · intro h
    exact b_ext fun i hi => by rw [h i hi, b_0 hi]
theorem tk_bit (E : Nat) (l h : Nat → Nat) (v i : Nat) : (tmk E l h v).testBit i = (decide (i < E) && (decide (h i = v) || decide (l i = v))) := msk_bit _ _ _
theorem ak_bit (E : Nat) (h : Nat → Nat) (v i : Nat) : (amk E h v).testBit i = (decide (i < E) && decide (h i = v)) := msk_bit _ _ _
/-- from which node, to which node an edge leads -/
def fr (l h : Nat → Nat) (x : Int32) (e : Nat) : Nat := if bt x e then h e else l e
def to (l h : Nat → Nat) (x : Int32) (e : Nat) : Nat := if bt x e then l e else h e
/-- is a node an end: a source (b) or a sink -/
def endB (E : Nat) (l h : Nat → Nat) (x : Int32) (v : Nat) (b : Bool) : Bool := decide ((∃ e, e < E ∧ (l e = v ∨ h e = v)) ∧ ∀ e, e < E → (l e = v ∨ h e = v) → decide (fr l h x e = v) = b)
theorem src_end {E : Nat} {l h : Nat → Nat} {x : Int32} {v : Nat} (hE : E ≤ 10) (hlh : ∀ e, e < E → l e < h e) : srcB (nI (tmk E l h v)) (nI (amk E h v)) x = endB E l h x v true := by
  unfold srcB endB
  apply decide_eq_decide.mpr
  have h1 : (¬ nI (tmk E l h v) = 0) ↔ ∃ e, e < E ∧ (l e = v ∨ h e = v) := by
    rw [b_zero]
    constructor
    · intro q
      apply Classical.byContradiction
      intro q2
      apply q
      intro i hi
      rw [b_nI _ hi, tk_bit]
      by_cases hiE : i < E
      · have : ¬ (l i = v ∨ h i = v) := fun q3 => q2 ⟨i, hiE, q3⟩
        simp [hiE]
        omega
      · simp [hiE]
    · rintro ⟨e, he, h3⟩ q
      have := q e (by omega)
      rw [b_nI _ (by omega), tk_bit] at this
      simp [he] at this
      omega
  have h2 : (x &&& nI (tmk E l h v) = nI (amk E h v)) ↔ ∀ e, e < E → (l e = v ∨ h e = v) → decide (fr l h x e = v) = true := by
    constructor
    · intro q e he h3
      have hb : bt (x &&& nI (tmk E l h v)) e = bt (nI (amk E h v)) e := by rw [q]
      rw [b_and, b_nI _ (by omega), b_nI _ (by omega), tk_bit, ak_bit] at hb
      have := hlh e he
      unfold fr
      cases hx : bt x e with
      | true => rcases h3 with h3 | h3 <;> simp [hx, he, h3] at hb ⊢ <;> omega
      | false => rcases h3 with h3 | h3 <;> simp [hx, he, h3] at hb ⊢
    · intro q
      apply b_ext
      intro i hi
      rw [b_and, b_nI _ hi, b_nI _ hi, tk_bit, ak_bit]
      by_cases hiE : i < E
      · have hq := q i hiE
        have := hlh i hiE
        unfold fr at hq
        cases hx : bt x i with
        | true =>
          by_cases h4 : h i = v
          · simp [hiE, h4]
          · by_cases h5 : l i = v
            · have h6 := hq (Or.inl h5)
              simp [hx, h4] at h6
            · simp [h4, h5]
        | false =>
          by_cases h4 : h i = v
          · have h6 := hq (Or.inr h4)
            simp [hx] at h6
            omega
          · simp [h4]
      · simp [hiE]
  rw [h1, h2]
theorem fr_neg {l h : Nat → Nat} {x : Int32} {e : Nat} (he : e < 32) : fr l h (x ^^^ (-1)) e = to l h x e := by
  unfold fr to
  rw [b_xor, b_m1 e he]
  cases bt x e <;> rfl
theorem end_neg {E : Nat} {l h : Nat → Nat} {x : Int32} {v : Nat} (hE : E ≤ 10) (hlh : ∀ e, e < E → l e < h e) : endB E l h (x ^^^ (-1)) v true = endB E l h x v false := by
  unfold endB
  apply decide_eq_decide.mpr
  refine and_congr_right fun _ => forall_congr' fun e => imp_congr_right fun he => imp_congr_right fun ht => ?_
  rw [fr_neg (by omega)]
  have := hlh e he
  unfold fr to
  cases bt x e <;> simp <;> omega
/-- all ends, as bits -/
def endsM (E : Nat) (l h : Nat → Nat) (x : Int32) (b : Bool) : Nat := msk (fun v => endB E l h x v b) 7
theorem andn (x m : Int32) : x &&& (m ^^^ (-1)) = x &&& (x ^^^ m) := by
  apply b_ext
  intro i hi
  rw [b_and, b_and, b_xor, b_xor, b_m1 i hi]
  cases bt x i <;> cases bt m i <;> rfl
/-- an arrowing without its bit k -/
def remB (A k : Nat) : Nat := msk (fun e => if e < k then A.testBit e else A.testBit (e + 1)) 31
theorem rem_I {A k : Nat} (hA : A < 2 ^ 31) (hk : k < 31) : (nI A &&& ((1 : Int32) <<< (nI k &&& 31) - 1)) ||| ((nI A >>> ((1 : Int32) &&& 31)) &&& (((1 : Int32) <<< (nI k &&& 31) - 1) ^^^ (-1))) = nI (remB A k) := by
  have e1 : (1 : Int32) <<< (nI k &&& 31) - 1 = nI (2 ^ k - 1) := by
    rw [shl1 (by omega), show (1 : Int32) = nI 1 from rfl, pk_sub (Nat.one_le_two_pow)]
  have e2 : nI A >>> ((1 : Int32) &&& 31) = nI (A / 2 ^ 1) := shrN (e := 1) hA (by decide)
  rw [e1, e2]
  apply b_ext
  intro i hi
  rw [b_or, b_and, b_and, b_xor, b_m1 i hi, b_nI _ hi, b_nI _ hi, b_nI _ hi, b_nI _ hi, Nat.testBit_two_pow_sub_one, Nat.testBit_div_two_pow]
  unfold remB
  rw [msk_bit]
  by_cases h : i < k
  · have : i < 31 := by omega
    simp [h, this]
  · by_cases h2 : i < 31
    · simp [h, h2, Nat.add_comm]
    · have h3 : A.testBit (i + 1) = false := Nat.testBit_lt_two_pow (Nat.lt_of_lt_of_le hA (p2 (by omega)))
      simp [h, h2, h3, Nat.add_comm]
theorem rem_bit (A k i : Nat) (hA : A < 2 ^ 31) : (remB A k).testBit i = if i < k then A.testBit i && decide (i < 31) else A.testBit (i + 1) := by
  unfold remB
  rw [msk_bit]
  by_cases h : i < k
  · simp [h, Bool.and_comm]
  · by_cases h2 : i < 31
    · simp [h, h2]
    · have h3 : A.testBit (i + 1) = false := Nat.testBit_lt_two_pow (Nat.lt_of_lt_of_le hA (p2 (by omega)))
      simp [h, h2, h3]
theorem rem_lt {A k E : Nat} (hA : A < 2 ^ (E + 1)) (hk : k ≤ E) (hE : E < 30) : remB A k < 2 ^ E := by
  apply Nat.lt_pow_two_of_testBit
  intro i hi
  rw [rem_bit _ _ _ (Nat.lt_of_lt_of_le hA (p2 (by omega))), if_neg (by omega)]
  exact Nat.testBit_lt_two_pow (Nat.lt_of_lt_of_le hA (p2 (by omega)))
def shf (M : Nat → Nat → Int32) (lo hi k e : Nat) : Nat → Nat → Int32 := fun x y => if (x = lo ∨ x = hi) ∧ k ≤ y ∧ y < e then M x (y + 1) else M x y
theorem shf_0 (M : Nat → Nat → Int32) (lo hi k : Nat) : shf M lo hi k k = M := by
  funext x y
  unfold shf
  rw [if_neg (by omega)]
theorem shf_ne {M : Nat → Nat → Int32} {lo hi k e x : Nat} (h1 : x ≠ lo) (h2 : x ≠ hi) : shf M lo hi k e x = M x := by
  funext y; simp [shf, h1, h2]
theorem shf_hi {M : Nat → Nat → Int32} {lo hi k e x y : Nat} (h : e ≤ y) : shf M lo hi k e x y = M x y := by
  unfold shf
  rw [if_neg (by omega)]
theorem shf_succ {M : Nat → Nat → Int32} {lo hi k e : Nat} (h : lo ≠ hi) (hk : k ≤ e) : up2 (up2 (shf M lo hi k e) lo e (M lo (e + 1))) hi e (M hi (e + 1)) = shf M lo hi k (e + 1) := by
  funext x y
  rw [up2_at, up2_at]
  unfold shf
  by_cases hy : y = e
  · subst hy
    by_cases hx : x = lo
    · subst hx; simp [h, hk]
    · by_cases hx2 : x = hi
      · subst hx2; simp [hk]
      · simp [hx, hx2]
  · have : (k ≤ y ∧ y < e + 1) ↔ (k ≤ y ∧ y < e) := by omega
    simp [hy, this]

set_option maxHeartbeats 1000000 in
set_option maxRecDepth 10000 in
theorem lp_X4_sources_4 (d : Nat) (M : Nat → Nat → Int32) (ML : Nat → Nat → Int64) {x : Int32} {res : Rt} (hk : res = (some (.int (nI (msk (fun v => srcB (M 5 v) (M 6 v) x) 7))), (SH, M, ML))) :
    ∀ v, v ≤ 7 → ∀ (s : Int32) (i : Int32), s = nI (msk (fun v => srcB (M 5 v) (M 6 v) x) v) → i = nI v → RR d cd_X4_sources false res (4, [(0, .ref 2), (1, .int x), (2, .int s), (3, .int i)], [], (SH, M, ML)) := by
  refine up_ind fun v hv ih => ?_
  intro s i hv0 hv1
  subst hv0 hv1
  refine r_ld rfl rfl ?_
  refine r_ld rfl rfl ?_
  refine q_getr rfl rfl rfl rfl rfl ?_
  refine q_len rfl rfl rfl rfl ?_
  refine r_cj rfl rfl (fun h_10 => ?_) (fun h_10 => ?_)
  · have h9 : v = 7 := by first | (have := nle (a := 7) (b := v) (by decide) (by omega) h_10; omega) | (have := nle (a := 7) (b := v) (by decide) (by omega) h_19; omega)
    subst h9
    refine r_ld rfl rfl ?_
    refine r_ret rfl rfl (trivial) ?_
    exact hk
  · refine r_ld rfl rfl ?_
    refine r_ld rfl rfl ?_
    refine q_getr rfl rfl rfl rfl rfl ?_
    refine q_len rfl rfl rfl rfl ?_
    refine r_cj rfl rfl (fun h_19 => ?_) (fun h_19 => ?_)
    · have h9 : v = 7 := by first | (have := nle (a := 7) (b := v) (by decide) (by omega) h_10; omega) | (have := nle (a := 7) (b := v) (by decide) (by omega) h_19; omega)
      subst h9
      refine r_ld rfl rfl ?_
      refine r_ret rfl rfl (trivial) ?_
      exact hk
    · have hlt : v < 7 := nnle (a := 7) (b := v) (by decide) (by omega) h_10
      refine r_ld rfl rfl ?_
      refine q_getr rfl rfl rfl rfl rfl ?_
      refine r_ld rfl rfl ?_
      refine q_ain rfl rfl rfl (rfl) (hlt) rfl ?_
      refine r_cj rfl rfl (fun h_28 => ?_) (fun h_28 => ?_)
      · refine q_inc (y := _ + 1) rfl rfl rfl ?_
        refine q_norm (L' := [(0, _), (1, _), (2, _), (3, _)]) rfl ?_
        refine r_go rfl ?_
        exact ih (by omega) _ _ (by
          first
            | exact sk_b0 (decide_eq_false (fun q => q.1 h_28))
            | exact sk_b0 (decide_eq_false (fun q => h_45 q.2))
            | exact or_b1 (by omega) (decide_eq_true ⟨h_28, Classical.not_not.mp h_45⟩)) (nI_1 v)
      · refine r_ld rfl rfl ?_
        refine r_ld rfl rfl ?_
        refine q_getr rfl rfl rfl rfl rfl ?_
        refine r_ld rfl rfl ?_
        refine q_ain rfl rfl rfl (rfl) (hlt) rfl ?_
        refine r_bin rfl rfl ?_
        refine r_ld rfl rfl ?_
        refine q_getr rfl rfl rfl rfl rfl ?_
        refine r_ld rfl rfl ?_
        refine q_ain rfl rfl rfl (rfl) (hlt) rfl ?_
        refine r_cj rfl rfl (fun h_45 => ?_) (fun h_45 => ?_)
        · refine q_inc (y := _ + 1) rfl rfl rfl ?_
          refine q_norm (L' := [(0, _), (1, _), (2, _), (3, _)]) rfl ?_
          refine r_go rfl ?_
          exact ih (by omega) _ _ (by
            first
              | exact sk_b0 (decide_eq_false (fun q => q.1 h_28))
              | exact sk_b0 (decide_eq_false (fun q => h_45 q.2))
              | exact or_b1 (by omega) (decide_eq_true ⟨h_28, Classical.not_not.mp h_45⟩)) (nI_1 v)
        · refine r_ld rfl rfl ?_
          refine r_cst (v := .int 1) rfl rfl ?_
          refine r_ld rfl rfl ?_
          refine r_bin rfl rfl ?_
          refine r_bin rfl rfl ?_
          refine r_sto (L' := [(0, _), (1, _), (2, _), (3, _)]) rfl rfl ?_
          refine q_inc (y := _ + 1) rfl rfl rfl ?_
          refine q_norm (L' := [(0, _), (1, _), (2, _), (3, _)]) rfl ?_
          refine r_go rfl ?_
          exact ih (by omega) _ _ (by
            first
              | exact sk_b0 (decide_eq_false (fun q => q.1 h_28))
              | exact sk_b0 (decide_eq_false (fun q => h_45 q.2))
              | exact or_b1 (by omega) (decide_eq_true ⟨h_28, Classical.not_not.mp h_45⟩)) (nI_1 v)

set_option maxHeartbeats 1000000 in
set_option maxRecDepth 10000 in
theorem ok_X4_sources (d : Nat) (M : Nat → Nat → Int32) (ML : Nat → Nat → Int64) (x : Int32) : Ex (d + 1) k_X4_sources [.ref 2, .int x] (SH, M, ML) (some (.int (nI (msk (fun v => srcB (M 5 v) (M 6 v) x) 7))), (SH, M, ML)) := by
  refine Ex_in mi_X4_sources rfl rfl ⟨Nat.le_refl _, Nat.le_refl _⟩ ?_
  show RR _ cd_X4_sources false _ (0, [(0, .ref 2), (1, .int x)], [], (SH, M, ML))
  refine r_cst (v := .int 0) rfl rfl ?_
  refine r_sto (L' := [(0, _), (1, _), (2, _)]) rfl rfl ?_
  refine r_cst (v := .int 0) rfl rfl ?_
  refine r_sto (L' := [(0, _), (1, _), (2, _), (3, _)]) rfl rfl ?_
  exact lp_X4_sources_4 d M ML rfl 0 (Nat.zero_le _) _ _ rfl rfl

theorem NS_src {M : Nat → Nat → Int32} {N E A : Nat} {l h : Nat → Nat} (hS : NS M 2 3 4 5 6 N E A l h) (hW : WN N E A l h) (x : Int32) : msk (fun v => srcB (M 5 v) (M 6 v) x) 7 = endsM E l h x true := by
  obtain ⟨-, -, -, -, hm⟩ := hS
  obtain ⟨-, -, hE, -, hl⟩ := hW
  exact msk_cong fun v hv => by rw [(hm v hv).1, (hm v hv).2, src_end hE (fun e he => (hl e he).1)]
theorem ok_sources (d : Nat) (M : Nat → Nat → Int32) (ML : Nat → Nat → Int64) (x : Int32) {N E A : Nat} {l h : Nat → Nat} (hS : NS M 2 3 4 5 6 N E A l h) (hW : WN N E A l h) : Ex (d + 1) k_X4_sources [.ref 2, .int x] (SH, M, ML) (some (.int (nI (endsM E l h x true))), (SH, M, ML)) := by
  have := ok_X4_sources d M ML x
  rwa [NS_src hS hW] at this

set_option maxHeartbeats 1000000 in
set_option maxRecDepth 10000 in
theorem ok_X4_sinks (d : Nat) (M : Nat → Nat → Int32) (ML : Nat → Nat → Int64) (x : Int32) {N E A : Nat} {l h : Nat → Nat} (hS : NS M 2 3 4 5 6 N E A l h) (hW : WN N E A l h) : Ex (d + 2) k_X4_sinks [.ref 2, .int x] (SH, M, ML) (some (.int (nI (endsM E l h x false))), (SH, M, ML)) := by
  refine Ex_in mi_X4_sinks rfl rfl ⟨Nat.le_refl _, Nat.le_refl _⟩ ?_
  show RR _ cd_X4_sinks false _ (0, [(0, .ref 2), (1, .int x)], [], (SH, M, ML))
  refine r_ld rfl rfl ?_
  refine r_ld rfl rfl ?_
  refine r_cst (v := .int (-1)) rfl rfl ?_
  refine r_bin rfl rfl ?_
  refine q_call (as := [_, _]) (rest := []) rfl rfl rfl rfl rfl rfl rfl rfl (ok_sources _ _ _ _ hS hW) ?_
  refine r_ret rfl rfl (trivial) ?_
  have e9 : endsM E l h (x ^^^ (-1)) true = endsM E l h x false := msk_cong (fun v hv => end_neg hW.2.2.1 (fun e he => (hW.2.2.2.2 e he).1))
  rw [e9]

set_option maxHeartbeats 1000000 in
set_option maxRecDepth 10000 in
theorem ok_X4_turned (d : Nat) (M : Nat → Nat → Int32) (ML : Nat → Nat → Int64) (x : Int32) {v : Nat} (hv : v < 7) : Ex (d + 2) k_X4_turned [.ref 2, .int x, .int (nI v)] (SH, M, ML) (some (.int (x ^^^ M 5 v)), (SH, M, ML)) := by
  refine Ex_in mi_X4_turned rfl rfl ⟨Nat.le_refl _, Nat.le_refl _⟩ ?_
  show RR _ cd_X4_turned false _ (0, [(0, .ref 2), (1, .int x), (2, .int (nI v))], [], (SH, M, ML))
  refine r_ld rfl rfl ?_
  refine r_ld rfl rfl ?_
  refine q_getr rfl rfl rfl rfl rfl ?_
  refine r_ld rfl rfl ?_
  refine q_call (as := [_, _]) (rest := [_]) rfl rfl rfl rfl rfl rfl rfl rfl (ok_at_n _ _ _ _ rfl rfl rfl rfl hv) ?_
  refine r_bin rfl rfl ?_
  refine r_ret rfl rfl (trivial) ?_
  exact rfl

theorem b_sshr (n : Nat) (hn : n < 32) (x : Int32) {i : Nat} (hi : i < 32) : bt (x >>> (nI n &&& 31)) i = if n + i < 32 then bt x (n + i) else bt x 31 := by
  unfold bt
  rw [Int32.toBitVec_shiftRight]
  show (x.toBitVec.sshiftRight ((nI n &&& 31).toBitVec.smod 32).toNat).getLsbD i = _
  rw [sm31 n hn, BitVec.getLsbD_sshiftRight, BitVec.msb_eq_getLsbD_last]
  simp [hi]
theorem tb_bt {x : Int32} {e : Nat} (he : e < 32) : tb x (nI e) = bt x e := by
  have h1 : bt (x >>> (nI e &&& 31)) 0 = bt x e := by
    have := b_sshr e he x (i := 0) (by decide)
    rw [if_pos (by omega)] at this
    exact this
  have h2 : ∀ y : Int32, (y &&& 1 = 0) ↔ bt y 0 = false := by
    intro y
    rw [b_zero]
    constructor
    · intro q
      have := q 0 (by decide)
      rw [b_and, show bt 1 0 = true from by decide +kernel, Bool.and_true] at this
      exact this
    · intro q i hi
      rw [b_and]
      by_cases h0 : i = 0
      · subst h0; rw [q]; rfl
      · have : bt 1 i = false := (by decide +kernel : ∀ i, i < 32 → i ≠ 0 → bt 1 i = false) i hi h0
        rw [this, Bool.and_false]
  unfold tb
  rw [← h1]
  cases hb : bt (x >>> (nI e &&& 31)) 0 with
  | true => simp [h2, hb]
  | false => simp [h2, hb]

set_option maxHeartbeats 1000000 in
set_option maxRecDepth 10000 in
theorem ok_X4_tail (d : Nat) (M : Nat → Nat → Int32) (ML : Nat → Nat → Int64) (x : Int32) {N E A e : Nat} {l h : Nat → Nat} (hS : NS M 2 3 4 5 6 N E A l h) (he : e < E) (hE : E ≤ 10) : Ex (d + 2) k_X4_tail [.ref 2, .int x, .int (nI e)] (SH, M, ML) (some (.int (nI (fr l h x e))), (SH, M, ML)) := by
  refine Ex_in mi_X4_tail rfl rfl ⟨Nat.le_refl _, Nat.le_refl _⟩ ?_
  show RR _ cd_X4_tail false _ (0, [(0, .ref 2), (1, .int x), (2, .int (nI e))], [], (SH, M, ML))
  refine r_ld rfl rfl ?_
  refine r_ld rfl rfl ?_
  refine q_cife (as := [_, _]) (rest := []) rfl rfl rfl rfl rfl rfl rfl rfl (ok_X11_isIn ..) rfl (fun h_2 => ?_) (fun h_2 => ?_)
  · refine r_ld rfl rfl ?_
    refine q_getr rfl rfl rfl rfl rfl ?_
    refine r_ld rfl rfl ?_
    refine q_call (as := [_, _]) (rest := []) rfl rfl rfl rfl rfl rfl rfl rfl (ok_at_n _ _ _ _ rfl rfl rfl rfl (by omega)) ?_
    refine r_ret rfl rfl (trivial) ?_
    obtain ⟨-, -, -, hl, -⟩ := hS
    rw [tb_bt (by omega)] at h_2
    simp [fr, h_2, (hl e he).1, (hl e he).2]
  · refine r_ld rfl rfl ?_
    refine q_getr rfl rfl rfl rfl rfl ?_
    refine r_ld rfl rfl ?_
    refine q_call (as := [_, _]) (rest := []) rfl rfl rfl rfl rfl rfl rfl rfl (ok_at_n _ _ _ _ rfl rfl rfl rfl (by omega)) ?_
    refine r_go rfl ?_
    refine r_ret rfl rfl (trivial) ?_
    obtain ⟨-, -, -, hl, -⟩ := hS
    rw [tb_bt (by omega)] at h_2
    simp [fr, h_2, (hl e he).1, (hl e he).2]

set_option maxHeartbeats 1000000 in
set_option maxRecDepth 10000 in
theorem ok_X4_head (d : Nat) (M : Nat → Nat → Int32) (ML : Nat → Nat → Int64) (x : Int32) {N E A e : Nat} {l h : Nat → Nat} (hS : NS M 2 3 4 5 6 N E A l h) (he : e < E) (hE : E ≤ 10) : Ex (d + 2) k_X4_head [.ref 2, .int x, .int (nI e)] (SH, M, ML) (some (.int (nI (to l h x e))), (SH, M, ML)) := by
  refine Ex_in mi_X4_head rfl rfl ⟨Nat.le_refl _, Nat.le_refl _⟩ ?_
  show RR _ cd_X4_head false _ (0, [(0, .ref 2), (1, .int x), (2, .int (nI e))], [], (SH, M, ML))
  refine r_ld rfl rfl ?_
  refine r_ld rfl rfl ?_
  refine q_cife (as := [_, _]) (rest := []) rfl rfl rfl rfl rfl rfl rfl rfl (ok_X11_isIn ..) rfl (fun h_2 => ?_) (fun h_2 => ?_)
  · refine r_ld rfl rfl ?_
    refine q_getr rfl rfl rfl rfl rfl ?_
    refine r_ld rfl rfl ?_
    refine q_call (as := [_, _]) (rest := []) rfl rfl rfl rfl rfl rfl rfl rfl (ok_at_n _ _ _ _ rfl rfl rfl rfl (by omega)) ?_
    refine r_ret rfl rfl (trivial) ?_
    obtain ⟨-, -, -, hl, -⟩ := hS
    rw [tb_bt (by omega)] at h_2
    simp [to, h_2, (hl e he).1, (hl e he).2]
  · refine r_ld rfl rfl ?_
    refine q_getr rfl rfl rfl rfl rfl ?_
    refine r_ld rfl rfl ?_
    refine q_call (as := [_, _]) (rest := []) rfl rfl rfl rfl rfl rfl rfl rfl (ok_at_n _ _ _ _ rfl rfl rfl rfl (by omega)) ?_
    refine r_go rfl ?_
    refine r_ret rfl rfl (trivial) ?_
    obtain ⟨-, -, -, hl, -⟩ := hS
    rw [tb_bt (by omega)] at h_2
    simp [to, h_2, (hl e he).1, (hl e he).2]

