/-! ===== free of rounds ===== -/
/-- no set of nodes of which each is led to from one of them -/
def Free (E : Nat) (l h : Nat → Nat) (x : Int32) : Prop := ∀ S : Nat → Prop, (∀ v, S v → v < 7) → (∀ v, S v → ∃ e, e < E ∧ to l h x e = v ∧ S (fr l h x e)) → ∀ v, ¬ S v
noncomputable def freeB (E : Nat) (l h : Nat → Nat) (x : Int32) : Bool := @decide (Free E l h x) (Classical.propDecidable _)
theorem freeT {E : Nat} {l h : Nat → Nat} {x : Int32} (q : Free E l h x) : freeB E l h x = true := by unfold freeB; exact @decide_eq_true _ (Classical.propDecidable _) q
theorem freeF {E : Nat} {l h : Nat → Nat} {x : Int32} (q : ¬ Free E l h x) : freeB E l h x = false := by unfold freeB; exact @decide_eq_false _ (Classical.propDecidable _) q
theorem freeB_iff {E : Nat} {l h : Nat → Nat} {x : Int32} : freeB E l h x = true ↔ Free E l h x := by
  constructor
  · intro q
    apply Classical.byContradiction
    intro q2
    rw [freeF q2] at q
    cases q
  · exact freeT
def tch (l h : Nat → Nat) (e v : Nat) : Bool := decide (h e = v) || decide (l e = v)
/-- one look at a node: its edges go if none leads to it -/
def stp (E : Nat) (l h : Nat → Nat) (x : Int32) (L v : Nat) : Nat := if ∀ e, e < E → L.testBit e = true → ¬ to l h x e = v then msk (fun e => L.testBit e && !tch l h e v) E else L
def psL (E : Nat) (l h : Nat → Nat) (x : Int32) (L : Nat) : Nat → Nat
  | 0 => L
  | v + 1 => stp E l h x (psL E l h x L v) v
theorem stp_sub {E : Nat} {l h : Nat → Nat} {x : Int32} {L v i : Nat} (q : (stp E l h x L v).testBit i = true) : L.testBit i = true := by
  unfold stp at q
  split at q
  · rw [msk_bit] at q
    simp at q
    exact q.2.1
  · exact q
theorem psL_sub {E : Nat} {l h : Nat → Nat} {x : Int32} {L i : Nat} : ∀ {v u : Nat}, u ≤ v → (psL E l h x L v).testBit i = true → (psL E l h x L u).testBit i = true
  | 0, u, hu, q => by
    have : u = 0 := by omega
    subst this; exact q
  | v + 1, u, hu, q => by
    by_cases h9 : u = v + 1
    · subst h9; exact q
    · exact psL_sub (v := v) (by omega) (stp_sub q)
theorem stp_lt {E : Nat} {l h : Nat → Nat} {x : Int32} {L v : Nat} (q : L < 2 ^ E) : stp E l h x L v < 2 ^ E := by
  unfold stp
  split
  · exact msk_lt _ _
  · exact q
theorem psL_lt {E : Nat} {l h : Nat → Nat} {x : Int32} {L : Nat} (q : L < 2 ^ E) : ∀ v, psL E l h x L v < 2 ^ E
  | 0 => q
  | v + 1 => stp_lt (psL_lt q v)
theorem bit_lt {L E i : Nat} (hL : L < 2 ^ E) (q : L.testBit i = true) : i < E := by
  apply Classical.byContradiction
  intro h9
  rw [Nat.testBit_lt_two_pow (Nat.lt_of_lt_of_le hL (p2 (by omega)))] at q
  cases q
theorem bits_eq {L K : Nat} (q : ∀ i, L.testBit i = true → K.testBit i = true) (q2 : ∀ i, K.testBit i = true → L.testBit i = true) : L = K := by
  apply Nat.eq_of_testBit_eq
  intro i
  cases h1 : L.testBit i with
  | true => rw [q i h1]
  | false =>
    cases h2 : K.testBit i with
    | true => rw [q2 i h2] at h1; cases h1
    | false => rfl
theorem bit_ex {L : Nat} (q : L ≠ 0) : ∃ i, L.testBit i = true := by
  apply Classical.byContradiction
  intro q2
  apply q
  apply Nat.eq_of_testBit_eq
  intro i
  rw [Nat.zero_testBit]
  cases h1 : L.testBit i with
  | true => exact absurd ⟨i, h1⟩ q2
  | false => rfl
/-- every set that is led to from itself is held by the edges that are left -/
def Hld (E : Nat) (l h : Nat → Nat) (x : Int32) (L : Nat) : Prop := ∀ S : Nat → Prop, (∀ v, S v → v < 7) → (∀ v, S v → ∃ e, e < E ∧ to l h x e = v ∧ S (fr l h x e)) → ∀ v, S v → ∃ e, e < E ∧ L.testBit e = true ∧ to l h x e = v ∧ S (fr l h x e)
theorem tch_ft {l h : Nat → Nat} {x : Int32} {e v : Nat} : tch l h e v = true ↔ (to l h x e = v ∨ fr l h x e = v) := by
  unfold tch to fr
  cases bt x e <;> simp
  omega
theorem Hld_stp {E : Nat} {l h : Nat → Nat} {x : Int32} {L v : Nat} (q : Hld E l h x L) : Hld E l h x (stp E l h x L v) := by
  intro S h7 hS u hu
  obtain ⟨e, he, hL, ht, hf⟩ := q S h7 hS u hu
  refine ⟨e, he, ?_, ht, hf⟩
  unfold stp
  split
  · rename_i hc
    have hv : ¬ S v := fun hv => by
      obtain ⟨e2, he2, hL2, ht2, -⟩ := q S h7 hS v hv
      exact hc e2 he2 hL2 ht2
    rw [msk_bit]
    have : tch l h e v = false := by
      cases h1 : tch l h e v with
      | false => rfl
      | true =>
        rcases (tch_ft (x := x)).mp h1 with h2 | h2
        · exact absurd (by rw [← h2, ht]; exact hu) hv
        · exact absurd (by rw [← h2]; exact hf) hv
    simp [he, hL, this]
  · exact hL
theorem Hld_ps {E : Nat} {l h : Nat → Nat} {x : Int32} {L : Nat} (q : Hld E l h x L) : ∀ v, Hld E l h x (psL E l h x L v)
  | 0 => q
  | v + 1 => Hld_stp (Hld_ps q v)
theorem Hld_0 {E : Nat} {l h : Nat → Nat} {x : Int32} : Hld E l h x (2 ^ E - 1) := fun S h7 hS v hv => by
  obtain ⟨e, he, ht, hf⟩ := hS v hv
  exact ⟨e, he, by rw [Nat.testBit_two_pow_sub_one]; exact decide_eq_true he, ht, hf⟩
theorem Hld_free {E : Nat} {l h : Nat → Nat} {x : Int32} (q : Hld E l h x 0) : Free E l h x := fun S h7 hS v hv => by
  obtain ⟨e, -, hL, -⟩ := q S h7 hS v hv
  rw [Nat.zero_testBit] at hL
  cases hL
theorem stall {E : Nat} {l h : Nat → Nat} {x : Int32} {L : Nat} (hL : L < 2 ^ E) (hb : ∀ e, e < E → l e < 7 ∧ h e < 7) (h0 : L ≠ 0) (q : psL E l h x L 7 = L) : ¬ Free E l h x := by
  intro hF
  have hall : ∀ v, v ≤ 7 → psL E l h x L v = L := fun v hv => bits_eq (fun i h1 => psL_sub (Nat.zero_le _) h1) (fun i h1 => psL_sub hv (by rw [q]; exact h1))
  obtain ⟨e0, he0⟩ := bit_ex h0
  have hbt : ∀ e, e < E → to l h x e < 7 ∧ fr l h x e < 7 := fun e he => by
    have := hb e he
    unfold to fr
    cases bt x e <;> simp <;> omega
  refine hF (fun v => ∃ e, e < E ∧ L.testBit e = true ∧ to l h x e = v) ?_ ?_ (to l h x e0) ⟨e0, bit_lt hL he0, he0, rfl⟩
  · rintro v ⟨e, he, -, rfl⟩
    exact (hbt e he).1
  · rintro v ⟨e, he, hLe, ht⟩
    refine ⟨e, he, ht, ?_⟩
    apply Classical.byContradiction
    intro hno
    have hu := (hbt e he).2
    have h1 := hall (fr l h x e + 1) (by omega)
    have h2 := hall (fr l h x e) (by omega)
    rw [psL, h2] at h1
    unfold stp at h1
    rw [if_pos (fun e2 he2 hL2 ht2 => hno ⟨e2, he2, hL2, ht2⟩)] at h1
    have h3 : (msk (fun e' => L.testBit e' && !tch l h e' (fr l h x e)) E).testBit e = L.testBit e := by rw [h1]
    rw [msk_bit, hLe, (tch_ft (x := x)).mpr (Or.inr rfl)] at h3
    simp at h3
/-- how many nodes have edges that are left -/
def cnE (E : Nat) (l h : Nat → Nat) (L : Nat) : Nat := fb_ct (fun v => decide (∃ e, e < E ∧ (L.testBit e && tch l h e v) = true)) 7
theorem cn_lt {E : Nat} {l h : Nat → Nat} {x : Int32} {L : Nat} (hL : L < 2 ^ E) (q : psL E l h x L 7 ≠ L) : cnE E l h (psL E l h x L 7) + 1 ≤ cnE E l h L := by
  have hex : ∃ v, v < 7 ∧ psL E l h x L (v + 1) ≠ psL E l h x L v := by
    apply Classical.byContradiction
    intro h1
    apply q
    have : ∀ v, v ≤ 7 → psL E l h x L v = L := by
      intro v
      induction v with
      | zero => intro _; rfl
      | succ v ih =>
        intro hv
        have h2 : psL E l h x L (v + 1) = psL E l h x L v := by
          apply Classical.byContradiction
          intro h3
          exact h1 ⟨v, by omega, h3⟩
        rw [h2, ih (by omega)]
    exact this 7 (by omega)
  obtain ⟨v, hv, hne⟩ := hex
  have hc : ∀ e, e < E → (psL E l h x L v).testBit e = true → ¬ to l h x e = v := by
    apply Classical.byContradiction
    intro h1
    apply hne
    rw [psL, stp, if_neg h1]
  have hst : psL E l h x L (v + 1) = msk (fun e => (psL E l h x L v).testBit e && !tch l h e v) E := by rw [psL, stp, if_pos hc]
  have hpv : ∃ e, e < E ∧ ((psL E l h x L v).testBit e && tch l h e v) = true := by
    apply Classical.byContradiction
    intro h1
    apply hne
    rw [hst]
    apply bits_eq
    · intro i hi
      rw [msk_bit] at hi
      simp at hi
      exact hi.2.1
    · intro i hi
      have hiE := bit_lt (psL_lt hL v) hi
      have : tch l h i v = false := by
        cases h2 : tch l h i v with
        | false => rfl
        | true => exact absurd ⟨i, hiE, by rw [hi, h2]; rfl⟩ h1
      rw [msk_bit]
      simp [hiE, hi, this]
  have hp : (fun v => decide (∃ e, e < E ∧ (L.testBit e && tch l h e v) = true)) v = true := by
    obtain ⟨e, he, h1⟩ := hpv
    rw [Bool.and_eq_true] at h1
    exact decide_eq_true ⟨e, he, by rw [show L.testBit e = true from psL_sub (Nat.zero_le _) h1.1, h1.2]; rfl⟩
  have hu := fb_ct_upd (fun v => decide (∃ e, e < E ∧ (L.testBit e && tch l h e v) = true)) false hv
  rw [if_pos hp] at hu
  have hs : cnE E l h (psL E l h x L 7) ≤ fb_ct (fun k => if k = v then false else (fun v => decide (∃ e, e < E ∧ (L.testBit e && tch l h e v) = true)) k) 7 := by
    apply fb_ct_sub
    intro k hk hk2
    obtain ⟨e, he, h1⟩ := of_decide_eq_true hk2
    rw [Bool.and_eq_true] at h1
    have hkv : k ≠ v := by
      intro h2
      subst h2
      have h3 := psL_sub (u := k + 1) (by omega) h1.1
      rw [hst, msk_bit] at h3
      simp [h1.2] at h3
    rw [if_neg hkv]
    exact decide_eq_true ⟨e, he, by rw [show L.testBit e = true from psL_sub (Nat.zero_le _) h1.1, h1.2]; rfl⟩
  simp only [cnE] at hs ⊢
  simp only [Bool.false_eq_true, if_false] at hu
  omega
theorem cn_0 {E : Nat} {l h : Nat → Nat} {L : Nat} (hL : L < 2 ^ E) (hb : ∀ e, e < E → l e < 7 ∧ h e < 7) (q : cnE E l h L = 0) : L = 0 := by
  apply Classical.byContradiction
  intro h0
  obtain ⟨e, he⟩ := bit_ex h0
  have heE := bit_lt hL he
  have := fb_ct_zero.mp q (h e) (hb e heE).2
  exact absurd ⟨e, heE, by rw [he]; simp [tch]⟩ (of_decide_eq_false this)
/-- which bits are led to node v, as ints -/
theorem lead_I {E : Nat} {l h : Nat → Nat} {x : Int32} {L v : Nat} (hE : E ≤ 10) (hlh : ∀ e, e < E → l e < h e) : ((x ^^^ nI (amk E h v)) &&& nI (tmk E l h v)) &&& nI L = 0 ↔ ∀ e, e < E → L.testBit e = true → ¬ to l h x e = v := by
  rw [b_zero]
  constructor
  · intro q e he hLe ht
    have := q e (by omega)
    rw [b_and, b_and, b_xor, b_nI _ (by omega), b_nI _ (by omega), b_nI _ (by omega), tk_bit, ak_bit, hLe] at this
    have := hlh e he
    unfold to at ht
    cases hx : bt x e with
    | true =>
      simp [hx] at ht
      have h9 : h e ≠ v := by omega
      simp [hx, he, ht, h9] at *
    | false =>
      simp [hx] at ht
      simp [hx, he, ht] at *
  · intro q i hi
    rw [b_and, b_and, b_xor, b_nI _ hi, b_nI _ hi, b_nI _ hi, tk_bit, ak_bit]
    by_cases hiE : i < E
    · have h8 := hlh i hiE
      have hq := q i hiE
      unfold to at hq
      cases hL : L.testBit i with
      | false => simp
      | true =>
        have hq := hq hL
        cases hx : bt x i with
        | true =>
          simp [hx] at hq
          by_cases h9 : h i = v
          · simp [hiE, h9]
          · simp [hiE, h9, hq]
        | false =>
          simp [hx] at hq
          simp [hiE, hq]
    · simp [hiE]
theorem clr_I {E : Nat} {l h : Nat → Nat} {L v : Nat} (hL : L < 2 ^ E) (hE : E ≤ 10) : nI L &&& (nI (tmk E l h v) ^^^ (-1)) = nI (msk (fun e => L.testBit e && !tch l h e v) E) := by
  apply b_ext
  intro i hi
  rw [b_and, b_xor, b_m1 i hi, b_nI _ hi, b_nI _ hi, b_nI _ hi, msk_bit, tk_bit]
  by_cases hiE : i < E
  · simp [hiE, tch]
  · have : L.testBit i = false := by
      cases h1 : L.testBit i with
      | false => rfl
      | true => exact absurd (bit_lt hL h1) hiE
    simp [hiE, this]

set_option maxHeartbeats 1000000 in
set_option maxRecDepth 10000 in
theorem lp_X4_isFree_27 (d : Nat) (M : Nat → Nat → Int32) (ML : Nat → Nat → Int64) {N E A : Nat} {l h : Nat → Nat} (hS : NS M 2 3 4 5 6 N E A l h) (hW : WN N E A l h) {x c b : Int32} {L : Nat} (hL : L < 2 ^ E)  {res : Rt} (hk : RR d cd_X4_isFree true res (87, [(0, .ref 2), (1, .int x), (2, .int (nI (psL E l h x L 7))), (3, .int c), (4, .int b), (5, .int (nI 7))], [], (SH, M, ML))) :
    ∀ v, v ≤ 7 → ∀ (y : Int32) (i : Int32), y = nI (psL E l h x L v) → i = nI v → RR d cd_X4_isFree true res (27, [(0, .ref 2), (1, .int x), (2, .int y), (3, .int c), (4, .int b), (5, .int i)], [], (SH, M, ML)) := by
  have hm := hS.2.2.2.2
  refine up_ind fun v hv ih => ?_
  intro y i hv0 hv1
  subst hv0 hv1
  refine r_ld rfl rfl ?_
  refine r_ld rfl rfl ?_
  refine q_getr rfl rfl rfl rfl rfl ?_
  refine q_len rfl rfl rfl rfl ?_
  refine r_cj rfl rfl (fun h_34 => ?_) (fun h_34 => ?_)
  · have h9 : v = 7 := by first | (have := nle (a := 7) (b := v) (by decide) (by omega) h_34; omega) | (have := nle (a := 7) (b := v) (by decide) (by omega) h_44; omega)
    subst h9
    exact hk
  · refine r_ld rfl rfl ?_
    refine r_ld rfl rfl ?_
    refine q_getr rfl rfl rfl rfl rfl ?_
    refine q_len rfl rfl rfl rfl ?_
    refine r_cj rfl rfl (fun h_44 => ?_) (fun h_44 => ?_)
    · have h9 : v = 7 := by first | (have := nle (a := 7) (b := v) (by decide) (by omega) h_34; omega) | (have := nle (a := 7) (b := v) (by decide) (by omega) h_44; omega)
      subst h9
      exact hk
    · have hlt : v < 7 := nnle (a := 7) (b := v) (by decide) (by omega) h_34
      refine r_ld rfl rfl ?_
      refine r_ld rfl rfl ?_
      refine q_getr rfl rfl rfl rfl rfl ?_
      refine r_ld rfl rfl ?_
      refine q_ain rfl rfl rfl (rfl) (hlt) rfl ?_
      refine r_bin rfl rfl ?_
      refine r_ld rfl rfl ?_
      refine q_getr rfl rfl rfl rfl rfl ?_
      refine r_ld rfl rfl ?_
      refine q_ain rfl rfl rfl (rfl) (hlt) rfl ?_
      rw [(hm v hlt).1, (hm v hlt).2]
      refine r_bin rfl rfl ?_
      refine r_ld rfl rfl ?_
      refine r_bin rfl rfl ?_
      refine r_cj rfl rfl (fun h_66 => ?_) (fun h_66 => ?_)
      · refine q_inc (y := _ + 1) rfl rfl rfl ?_
        refine q_norm (L' := [(0, _), (1, _), (2, _), (3, _), (4, _), (5, _)]) rfl ?_
        refine r_go rfl ?_
        first
          | exact ih hlt _ _ (by
              have hc : ¬ ∀ e, e < E → (psL E l h x L v).testBit e = true → ¬ to l h x e = v := fun q => h_66 ((lead_I hW.2.2.1 (fun e he => (hW.2.2.2.2 e he).1)).mpr q)
              rw [psL, stp, if_neg hc]) (nI_1 v)
          | exact ih hlt _ _ (by
              have hc := (lead_I hW.2.2.1 (fun e he => (hW.2.2.2.2 e he).1)).mp (Classical.not_not.mp h_66)
              rw [clr_I (psL_lt hL v) hW.2.2.1, psL, stp, if_pos hc]) (nI_1 v)
      · refine r_ld rfl rfl ?_
        refine r_ld rfl rfl ?_
        refine q_getr rfl rfl rfl rfl rfl ?_
        refine r_ld rfl rfl ?_
        refine q_ain rfl rfl rfl (rfl) (hlt) rfl ?_
        rw [(hm v hlt).1]
        refine r_cst (v := .int (-1)) rfl rfl ?_
        refine r_bin rfl rfl ?_
        refine r_bin rfl rfl ?_
        refine r_sto (L' := [(0, _), (1, _), (2, _), (3, _), (4, _), (5, _)]) rfl rfl ?_
        refine q_inc (y := _ + 1) rfl rfl rfl ?_
        refine q_norm (L' := [(0, _), (1, _), (2, _), (3, _), (4, _), (5, _)]) rfl ?_
        refine r_go rfl ?_
        first
          | exact ih hlt _ _ (by
              have hc : ¬ ∀ e, e < E → (psL E l h x L v).testBit e = true → ¬ to l h x e = v := fun q => h_66 ((lead_I hW.2.2.1 (fun e he => (hW.2.2.2.2 e he).1)).mpr q)
              rw [psL, stp, if_neg hc]) (nI_1 v)
          | exact ih hlt _ _ (by
              have hc := (lead_I hW.2.2.1 (fun e he => (hW.2.2.2.2 e he).1)).mp (Classical.not_not.mp h_66)
              rw [clr_I (psL_lt hL v) hW.2.2.1, psL, stp, if_pos hc]) (nI_1 v)

set_option maxHeartbeats 1000000 in
set_option maxRecDepth 10000 in
theorem lp_X4_isFree_11 (d : Nat) (M : Nat → Nat → Int32) (ML : Nat → Nat → Int64) {N E A : Nat} {l h : Nat → Nat} (hS : NS M 2 3 4 5 6 N E A l h) (hW : WN N E A l h) {x : Int32} {res : Rt} (hk : res = (some (.int (b2i (freeB E l h x))), (SH, M, ML))) :
    ∀ n, n ≤ 7 → ∀ L, L < 2 ^ E → Hld E l h x L → cnE E l h L + n ≤ 7 → ∀ (i : Int32), i = nI n → RR d cd_X4_isFree true res (11, [(0, .ref 2), (1, .int x), (2, .int ((nI L))), (3, .int i)], [], (SH, M, ML)) := by
  refine up_ind fun n hn ih L hL hH hc => ?_
  intro i hv0
  subst hv0
  refine r_ld rfl rfl ?_
  refine r_cst (v := .int 7) rfl rfl ?_
  refine r_cj rfl rfl (fun h_14 => ?_) (fun h_14 => ?_)
  · have hz : L = 0 ∨ n = 7 := by
      first
        | exact Or.inl (neq (by have := p2 hW.2.2.1; omega) (by decide) (Classical.not_not.mp h_18))
        | exact Or.inl (neq (by have := p2 hW.2.2.1; omega) (by decide) h_18)
        | (right; have := nle (a := 7) (b := n) (by decide) (by omega) h_14; omega)
    have hz : L = 0 := hz.elim (fun q => q) (fun q => cn_0 hL (WN_b hW) (by omega))
    subst hz
    refine r_ld rfl rfl ?_
    refine q_cjF rfl rfl (by decide) ?_
    refine r_cst (v := .int 1) rfl rfl ?_
    refine r_go rfl ?_
    refine r_ret rfl rfl (by first | exact rb0 | exact rb1 | exact rbB _) ?_
    rw [hk, freeT (Hld_free hH)]
    exact rfl
  · refine r_ld rfl rfl ?_
    refine r_cj rfl rfl (fun h_18 => ?_) (fun h_18 => ?_)
    · have hz : L = 0 ∨ n = 7 := by
        first
          | exact Or.inl (neq (by have := p2 hW.2.2.1; omega) (by decide) (Classical.not_not.mp h_18))
          | exact Or.inl (neq (by have := p2 hW.2.2.1; omega) (by decide) h_18)
          | (right; have := nle (a := 7) (b := n) (by decide) (by omega) h_14; omega)
      have hz : L = 0 := hz.elim (fun q => q) (fun q => cn_0 hL (WN_b hW) (by omega))
      subst hz
      refine r_ld rfl rfl ?_
      refine q_cjF rfl rfl (by decide) ?_
      refine r_cst (v := .int 1) rfl rfl ?_
      refine r_go rfl ?_
      refine r_ret rfl rfl (by first | exact rb0 | exact rb1 | exact rbB _) ?_
      rw [hk, freeT (Hld_free hH)]
      exact rfl
    · refine r_ld rfl rfl ?_
      have hlt : n < 7 := nnle (a := 7) (b := n) (by decide) (by omega) h_14
      have hL0 : L ≠ 0 := fun q => h_18 (by rw [q]; rfl)
      refine r_sto (L' := [(0, _), (1, _), (2, _), (3, _), (4, _)]) rfl rfl ?_
      refine r_cst (v := .int 0) rfl rfl ?_
      refine r_sto (L' := [(0, _), (1, _), (2, _), (3, _), (4, _), (5, _)]) rfl rfl ?_
      refine lp_X4_isFree_27 d M ML hS hW hL ?_ 0 (Nat.zero_le _) _ _ rfl rfl
      refine r_ld rfl rfl ?_
      refine r_ld rfl rfl ?_
      refine r_cj rfl rfl (fun h_90 => ?_) (fun h_90 => ?_)
      · refine q_inc (y := _ + 1) rfl rfl rfl ?_
        refine q_norm (L' := [(0, _), (1, _), (2, _), (3, _), (4, _), (5, _)]) rfl ?_
        refine r_go rfl ?_
        refine q_keep [0, 1, 2, 3] (L' := [(0, _), (1, _), (2, _), (3, _)]) rfl ?_
        have hne : psL E l h x L 7 ≠ L := fun q => h_90 (congrArg nI q)
        have hcn := cn_lt hL hne
        exact ih hlt _ (psL_lt hL 7) (Hld_ps hH 7) (by omega) _ (nI_1 n)
      · refine r_cst (v := .int 0) rfl rfl ?_
        refine r_ret rfl rfl (by first | exact rb0 | exact rb1 | exact rbB _) ?_
        rw [hk, freeF (stall hL (WN_b hW) hL0 (neq (by have := p2 hW.2.2.1; have := psL_lt (l := l) (h := h) (x := x) hL 7; omega) (by have := p2 hW.2.2.1; omega) (Classical.not_not.mp h_90)))]
        exact rfl

set_option maxHeartbeats 1000000 in
set_option maxRecDepth 10000 in
theorem ok_X4_isFree (d : Nat) (M : Nat → Nat → Int32) (ML : Nat → Nat → Int64) {x : Int32} {N E A : Nat} {l h : Nat → Nat} (hS : NS M 2 3 4 5 6 N E A l h) (hW : WN N E A l h) : Ex (d + 1) k_X4_isFree [.ref 2, .int x] (SH, M, ML) (some (.int (b2i (freeB E l h x))), (SH, M, ML)) := by
  refine Ex_in mi_X4_isFree rfl rfl ⟨Nat.le_refl _, Nat.le_refl _⟩ ?_
  show RR _ cd_X4_isFree true _ (0, [(0, .ref 2), (1, .int x)], [], (SH, M, ML))
  refine r_cst (v := .int 1) rfl rfl ?_
  refine r_ld rfl rfl ?_
  refine q_geti rfl rfl rfl rfl rfl ?_
  refine r_bin rfl rfl ?_
  refine r_cst (v := .int 1) rfl rfl ?_
  refine r_bin rfl rfl ?_
  refine r_sto (L' := [(0, _), (1, _), (2, _)]) rfl rfl ?_
  refine r_cst (v := .int 0) rfl rfl ?_
  refine r_sto (L' := [(0, _), (1, _), (2, _), (3, _)]) rfl rfl ?_
  have e9 : (1 : Int32) <<< (M 2 1 &&& 31) - 1 = nI (2 ^ E - 1) := by
    rw [hS.2.1, shl1 (by have := hW.2.2.1; omega), show (1 : Int32) = nI 1 from rfl, pk_sub (Nat.one_le_two_pow)]
  rw [e9]
  exact lp_X4_isFree_11 d M ML hS hW rfl 0 (Nat.zero_le _) _ (by have := Nat.one_le_two_pow (n := E); omega) Hld_0 (fb_ct_le _ 7) _ rfl

