/-! ===== flows of the class ===== -/
theorem cc_lt {l h : Nat → Nat} {c E : Nat} (hc : c < E) (hch : isCh l h c = true) : cc l h c < cc l h E := by
  have h1 := fb_ct_mono (isCh l h) (show c + 1 ≤ E from hc)
  rw [fb_ct_succ, if_pos hch] at h1
  unfold cc
  omega
theorem cc_le (l h : Nat → Nat) (E : Nat) : cc l h E ≤ E := fb_ct_le _ _
theorem cc_kth {l h : Nat → Nat} {k E : Nat} (hk : k < cc l h E) : ∃ c, c < E ∧ isCh l h c = true ∧ cc l h c = k := fb_ct_kth hk
theorem cc_one {l h : Nat → Nat} {c d : Nat} (hc : isCh l h c = true) (hd : isCh l h d = true) (e : cc l h c = cc l h d) : c = d := fb_ct_kth_one hc hd e
/-- how many edges of ring k lie otherwise -/
def agN (M : Mm) (a k : Nat) : Nat := popc ((a ^^^ (M 21 k).toNatClampNeg) &&& (M 20 k).toNatClampNeg)
def kcM (M : Mm) (a : Nat) : Nat → Nat
  | 0 => 0
  | k + 1 => 2 ^ 4 * kcM M a k + agN M a k
theorem agN_lt (M : Mm) (a k : Nat) : agN M a k < 16 := Nat.lt_of_le_of_lt (popc_le _) (by decide)
theorem kcM_lt (M : Mm) (a : Nat) : ∀ k, kcM M a k < 2 ^ (4 * k)
  | 0 => Nat.one_pos
  | k + 1 => by
    have ih := kcM_lt M a k
    have := agN_lt M a k
    rw [kcM, show 4 * (k + 1) = 4 * k + 4 by omega, Nat.pow_add]
    omega
theorem kcM_eq {M M2 : Mm} {a b : Nat} : ∀ k, kcM M a k = kcM M2 b k ↔ ∀ i, i < k → agN M a i = agN M2 b i
  | 0 => ⟨fun _ i hi => absurd hi (Nat.not_lt_zero i), fun _ => rfl⟩
  | k + 1 => by
    have ih := kcM_eq (M := M) (M2 := M2) (a := a) (b := b) k
    have h1 := agN_lt M a k
    have h2 := agN_lt M2 b k
    rw [kcM, kcM]
    constructor
    · intro q i hi
      have e1 : kcM M a k = kcM M2 b k := by omega
      rcases Nat.lt_or_ge i k with w | w
      · exact ih.mp e1 i w
      · have : i = k := by omega
        subst this
        omega
    · intro q
      rw [ih.mpr (fun i hi => q i (by omega)), q k (by omega)]
/-- do two arrowings flow alike -/
def eqF (l h : Nat → Nat) (E : Nat) (x y : Int32) : Bool := decide (∀ c, c < E → isCh l h c = true → flw l h E x c = flw l h E y c)
theorem RG_fl {M : Mm} {E : Nat} {l h : Nat → Nat} (hR : RG M E l h) {c : Nat} (hc : c < E) (hch : isCh l h c = true) : ∃ rg wy, M 20 (cc l h c) = nI rg ∧ M 21 (cc l h c) = nI wy ∧ rg < 2 ^ 11 ∧ wy < 2 ^ 11 ∧ ∀ a, a < 2 ^ E → agN M a (cc l h c) = popc ((a ^^^ wy) &&& rg) ∧ (popc rg : Int) - 2 * agN M a (cc l h c) = flw l h E (nI a) c := by
  obtain ⟨-, rg, wy, h1, h2, h3, h4, h5⟩ := hR.2 c hc hch
  refine ⟨rg, wy, h1, h2, h3, h4, fun a ha => ?_⟩
  have e : agN M a (cc l h c) = popc ((a ^^^ wy) &&& rg) := by
    unfold agN
    rw [h1, h2, nI_clamp (by omega), nI_clamp (by omega)]
  exact ⟨e, by rw [e]; exact h5 a ha⟩
theorem eqF_ag {M : Mm} {E : Nat} {l h : Nat → Nat} (hR : RG M E l h) {a b : Nat} (ha : a < 2 ^ E) (hb : b < 2 ^ E) : (∀ k, k < cc l h E → agN M a k = agN M b k) ↔ ∀ c, c < E → isCh l h c = true → flw l h E (nI a) c = flw l h E (nI b) c := by
  constructor
  · intro q c hc hch
    obtain ⟨rg, wy, -, -, -, -, h5⟩ := RG_fl hR hc hch
    have h1 := (h5 a ha).2
    have h2 := (h5 b hb).2
    rw [q _ (cc_lt hc hch)] at h1
    omega
  · intro q k hk
    obtain ⟨c, hc, hch, rfl⟩ := cc_kth hk
    obtain ⟨rg, wy, -, -, -, -, h5⟩ := RG_fl hR hc hch
    have h1 := (h5 a ha).2
    have h2 := (h5 b hb).2
    have h3 := q c hc hch
    omega
theorem eqF_kc {M : Mm} {E : Nat} {l h : Nat → Nat} (hR : RG M E l h) {a b : Nat} (ha : a < 2 ^ E) (hb : b < 2 ^ E) : eqF l h E (nI a) (nI b) = decide (kcM M a (cc l h E) = kcM M b (cc l h E)) := decide_eq_decide.mpr ((eqF_ag hR ha hb).symm.trans (kcM_eq _).symm)
theorem wb_tb (n : Nat) : (lN n).toBitVec = BitVec.ofNat 64 n := rfl
theorem wb_inj {a b : Int64} (h : a.toBitVec = b.toBitVec) : a = b := Int64.toBitVec_inj.mp h
theorem wb_c : ∀ k, k < 64 → ((nI k).toInt64 &&& 63) = lN k := by decide +kernel
theorem wb_sm : ∀ k, k < 64 → (BitVec.ofNat 64 k).smod 64 = BitVec.ofNat 64 k := by decide +kernel
theorem wb_shl (n : Nat) {k : Nat} (hk : k < 64) : lN n <<< ((nI k).toInt64 &&& 63) = lN (n * 2 ^ k) := by
  rw [wb_c k hk]
  apply wb_inj
  rw [Int64.toBitVec_shiftLeft, wb_tb, wb_tb, wb_tb, wb_sm k hk]
  apply BitVec.eq_of_toNat_eq
  rw [BitVec.shiftLeft_eq', BitVec.toNat_shiftLeft, BitVec.toNat_ofNat, BitVec.toNat_ofNat, BitVec.toNat_ofNat, Nat.mod_eq_of_lt (show k < 2 ^ 64 by omega), Nat.shiftLeft_eq, Nat.mul_mod, Nat.mod_mod, ← Nat.mul_mod]
theorem lshl4 (x : Nat) : lN x <<< ((4 : Int32).toInt64 &&& 63) = lN (2 ^ 4 * x) := by
  rw [Nat.mul_comm]
  exact wb_shl x (k := 4) (by decide)
/-- a flow told -/
def flI (l h : Nat → Nat) (E : Nat) (x : Int32) (c : Nat) : Int32 := Int32.ofInt (flw l h E x c)
def chB (l h : Nat → Nat) (E : Nat) (y : Int32) : Bool := inR y E && isCh l h y.toNatClampNeg
def flowA (l h : Nat → Nat) (E : Nat) (x y : Int32) : Int64 := bif inR x (2 ^ E) && chB l h E y then (flI l h E x y.toNatClampNeg).toInt64 else NOv
noncomputable def alB (l h : Nat → Nat) (E : Nat) (x y : Int32) : Bool := eqF l h E x y && (freeB E l h x && freeB E l h y)
noncomputable def alikeA (l h : Nat → Nat) (E : Nat) (x y : Int32) : Int32 := bif inR x (2 ^ E) && inR y (2 ^ E) then b2i (alB l h E x y) else -1
noncomputable def conjA (l h : Nat → Nat) (N E : Nat) (x y : Int32) : Int32 := bif wdB N x && wdB N y then b2i (alB l h E (nI (arW E l h N x.toNatClampNeg)) (nI (arW E l h N y.toNatClampNeg))) else -1

set_option maxHeartbeats 1000000 in
set_option maxRecDepth 10000 in
theorem lp_X6_chordOf_y {d : Nat} {M : Mm} {ML : Ml} {E : Nat} {l h : Nat → Nat} (hE : E ≤ 10) (hR : RG M E l h) {c : Nat} (hc : c < E) (hch : isCh l h c = true) : ∀ k, k ≤ cc l h c → WP (d + 1) cd_X6_chordOf false (fun r M2 L2 => r = some (.int (nI (cc l h c))) ∧ L2 = ML ∧ M2 = M) (2, [(0, .ref 18), (1, .int (nI c)), (2, .int (nI k))], [], (SH, M, ML)) := by
  have hcE := cc_le l h E
  have hcl := cc_lt hc hch
  refine up_ind fun k hk ih => ?_
  refine w_ld rfl rfl ?_
  refine w_ld rfl rfl ?_
  refine w_getv rfl rfl rfl rfl rfl (hR.1) ?_
  refine w_cjF rfl rfl (fun q => absurd (nle (by omega) (by omega) q) (by omega)) ?_
  obtain ⟨c2, hc2, hch2, he2⟩ := cc_kth (l := l) (h := h) (k := k) (E := E) (by omega)
  have hM := (hR.2 c2 hc2 hch2).1
  rw [he2] at hM
  refine w_ld rfl rfl ?_
  refine w_getr rfl rfl rfl rfl rfl ?_
  refine w_ld rfl rfl ?_
  refine w_call (as := [_, _]) (rest := []) rfl rfl rfl rfl rfl rfl rfl rfl (ok_at_v _ _ _ rfl rfl rfl (rfl) (by omega) (hM)) ?_
  refine w_ld rfl rfl ?_
  refine w_cj rfl rfl (fun h_19 => ?_) (fun h_19 => ?_)
  · refine w_inc (y := _ + 1) rfl rfl rfl ?_
    refine w_norm (L' := [(0, _), (1, _), (2, _)]) rfl ?_
    refine w_go rfl ?_
    rw [nI_1]
    refine ih (Nat.lt_of_le_of_ne hk (fun w => ?_))
    have := cc_one hch2 hch (he2.trans w)
    exact h_19 (congrArg nI this)
  · refine w_ld rfl rfl ?_
    refine w_ret rfl rfl (trivial) ?_
    have h9 := neq (by omega) (by omega) (Classical.not_not.mp h_19)
    subst h9
    exact ⟨by rw [he2], rfl, rfl⟩

set_option maxHeartbeats 1000000 in
set_option maxRecDepth 10000 in
theorem ok_X6_chordOf_y {d : Nat} {M : Mm} {ML : Ml} {E : Nat} {l h : Nat → Nat} (hE : E ≤ 10) (hR : RG M E l h) {c : Nat} (hc : c < E) (hch : isCh l h c = true) : EX (d + 2) k_X6_chordOf [.ref 18, .int (nI c)] M ML (fun r M2 L2 => r = some (.int (nI (cc l h c))) ∧ L2 = ML ∧ M2 = M) := by
  refine EX_in mi_X6_chordOf rfl rfl ?_
  show WP _ cd_X6_chordOf false _ (0, [(0, .ref 18), (1, .int (nI c))], [], (SH, M, ML))
  refine w_cst (v := .int 0) rfl rfl ?_
  refine w_sto (L' := [(0, _), (1, _), (2, _)]) rfl rfl ?_
  exact lp_X6_chordOf_y hE hR hc hch 0 (Nat.zero_le _)

set_option maxHeartbeats 1000000 in
set_option maxRecDepth 10000 in
theorem lp_X6_chordOf_n {d : Nat} {M : Mm} {ML : Ml} {E : Nat} {l h : Nat → Nat} (hE : E ≤ 10) (hR : RG M E l h) {y : Int32} (hy : ∀ c, c < E → isCh l h c = true → y ≠ nI c) : ∀ k, k ≤ cc l h E → WP (d + 1) cd_X6_chordOf false (fun r M2 L2 => r = some (.int (-1)) ∧ L2 = ML ∧ M2 = M) (2, [(0, .ref 18), (1, .int y), (2, .int (nI k))], [], (SH, M, ML)) := by
  have hcE := cc_le l h E
  refine up_ind fun k hk ih => ?_
  refine w_ld rfl rfl ?_
  refine w_ld rfl rfl ?_
  refine w_getv rfl rfl rfl rfl rfl (hR.1) ?_
  refine w_cj rfl rfl (fun h_7 => ?_) (fun h_7 => ?_)
  · refine w_cst (v := .int (-1)) rfl rfl ?_
    refine w_ret rfl rfl (trivial) ?_
    exact ⟨rfl, rfl, rfl⟩
  · have hlt : k < cc l h E := nnle (by omega) (by omega) h_7
    obtain ⟨c2, hc2, hch2, he2⟩ := cc_kth hlt
    have hM := (hR.2 c2 hc2 hch2).1
    rw [he2] at hM
    refine w_ld rfl rfl ?_
    refine w_getr rfl rfl rfl rfl rfl ?_
    refine w_ld rfl rfl ?_
    refine w_call (as := [_, _]) (rest := []) rfl rfl rfl rfl rfl rfl rfl rfl (ok_at_v _ _ _ rfl rfl rfl (rfl) (by omega) (hM)) ?_
    refine w_ld rfl rfl ?_
    refine w_cjT rfl rfl (fun q => hy c2 hc2 hch2 q.symm) ?_
    refine w_inc (y := _ + 1) rfl rfl rfl ?_
    refine w_norm (L' := [(0, _), (1, _), (2, _)]) rfl ?_
    refine w_go rfl ?_
    rw [nI_1]
    exact ih hlt

set_option maxHeartbeats 1000000 in
set_option maxRecDepth 10000 in
theorem ok_X6_chordOf_n {d : Nat} {M : Mm} {ML : Ml} {E : Nat} {l h : Nat → Nat} (hE : E ≤ 10) (hR : RG M E l h) {y : Int32} (hy : ∀ c, c < E → isCh l h c = true → y ≠ nI c) : EX (d + 2) k_X6_chordOf [.ref 18, .int y] M ML (fun r M2 L2 => r = some (.int (-1)) ∧ L2 = ML ∧ M2 = M) := by
  refine EX_in mi_X6_chordOf rfl rfl ?_
  show WP _ cd_X6_chordOf false _ (0, [(0, .ref 18), (1, .int y)], [], (SH, M, ML))
  refine w_cst (v := .int 0) rfl rfl ?_
  refine w_sto (L' := [(0, _), (1, _), (2, _)]) rfl rfl ?_
  exact lp_X6_chordOf_n hE hR hy 0 (Nat.zero_le _)

set_option maxHeartbeats 1000000 in
set_option maxRecDepth 10000 in
theorem ok_X6_against {d : Nat} {M : Mm} {ML : Ml} {E : Nat} {l h : Nat → Nat} (hE : E ≤ 10) (hR : RG M E l h) {c a : Nat} (hc : c < E) (hch : isCh l h c = true) (ha : a < 2 ^ E) : EX (d + 2) k_X6_against [.ref 18, .int (nI (cc l h c)), .int (nI a)] M ML (fun r M2 L2 => r = some (.int (nI (agN M a (cc l h c)))) ∧ L2 = ML ∧ M2 = M) := by
  refine EX_in mi_X6_against rfl rfl ?_
  show WP _ cd_X6_against false _ (0, [(0, .ref 18), (1, .int (nI (cc l h c))), (2, .int (nI a))], [], (SH, M, ML))
  obtain ⟨rg, wy, h1, h2, h3, h4, h5⟩ := RG_fl hR hc hch
  have hcl := cc_lt hc hch
  have hcE := cc_le l h E
  refine w_ld rfl rfl ?_
  refine w_ld rfl rfl ?_
  refine w_getr rfl rfl rfl rfl rfl ?_
  refine w_ld rfl rfl ?_
  refine w_call (as := [_, _]) (rest := [_]) rfl rfl rfl rfl rfl rfl rfl rfl (ok_at_v _ _ _ rfl rfl rfl (rfl) (by omega) (h2)) ?_
  refine w_bin rfl rfl ?_
  rw [xorN]
  refine w_ld rfl rfl ?_
  refine w_getr rfl rfl rfl rfl rfl ?_
  refine w_ld rfl rfl ?_
  refine w_call (as := [_, _]) (rest := [_]) rfl rfl rfl rfl rfl rfl rfl rfl (ok_at_v _ _ _ rfl rfl rfl (rfl) (by omega) (h1)) ?_
  refine w_bin rfl rfl ?_
  rw [andN]
  refine w_call (as := [_]) (rest := []) rfl rfl rfl rfl rfl rfl rfl rfl (ok_bitCount _ _ _ (Nat.lt_of_le_of_lt Nat.and_le_right (show rg < 2048 from h3))) ?_
  refine w_ret rfl rfl (trivial) ?_
  exact ⟨by rw [(h5 a ha).1], rfl, rfl⟩

theorem ofI_sub2 {p q : Nat} {z : Int} (h : (p : Int) - 2 * q = z) : nI p - 2 * nI q = Int32.ofInt z := by
  rw [show (2 : Int32) = nI 2 from rfl, pk_mul, ← h]
  show Int32.ofNat p - Int32.ofNat (2 * q) = Int32.ofInt ((p : Int) - 2 * (q : Int))
  rw [Int32.ofInt_sub]
  rfl

set_option maxHeartbeats 1000000 in
set_option maxRecDepth 10000 in
theorem ok_X6_round {d : Nat} {M : Mm} {ML : Ml} {E : Nat} {l h : Nat → Nat} (hE : E ≤ 10) (hR : RG M E l h) {c a : Nat} (hc : c < E) (hch : isCh l h c = true) (ha : a < 2 ^ E) : EX (d + 3) k_X6_round [.ref 18, .int (nI (cc l h c)), .int (nI a)] M ML (fun r M2 L2 => r = some (.int (flI l h E (nI a) c)) ∧ L2 = ML ∧ M2 = M) := by
  refine EX_in mi_X6_round rfl rfl ?_
  show WP _ cd_X6_round false _ (0, [(0, .ref 18), (1, .int (nI (cc l h c))), (2, .int (nI a))], [], (SH, M, ML))
  obtain ⟨rg, wy, h1, h2, h3, h4, h5⟩ := RG_fl hR hc hch
  have hcl := cc_lt hc hch
  have hcE := cc_le l h E
  refine w_ld rfl rfl ?_
  refine w_getr rfl rfl rfl rfl rfl ?_
  refine w_ld rfl rfl ?_
  refine w_call (as := [_, _]) (rest := []) rfl rfl rfl rfl rfl rfl rfl rfl (ok_at_v _ _ _ rfl rfl rfl (rfl) (by omega) (h1)) ?_
  refine w_call (as := [_]) (rest := []) rfl rfl rfl rfl rfl rfl rfl rfl (ok_bitCount _ _ _ (show rg < 2048 from h3)) ?_
  refine w_cst (v := .int 2) rfl rfl ?_
  refine w_ld rfl rfl ?_
  refine w_ld rfl rfl ?_
  refine w_ld rfl rfl ?_
  refine w_call (as := [_, _, _]) (rest := [_, _]) rfl rfl rfl rfl rfl rfl rfl rfl (EX_ex (ok_X6_against hE hR hc hch ha)) ?_
  refine w_bin rfl rfl ?_
  refine w_bin rfl rfl ?_
  refine w_ret rfl rfl (trivial) ?_
  exact ⟨by rw [ofI_sub2 (h5 a ha).2]; rfl, rfl, rfl⟩

set_option maxHeartbeats 1000000 in
set_option maxRecDepth 10000 in
theorem lp_X6_key_5 {d : Nat} {M : Mm} {ML : Ml} {E : Nat} {l h : Nat → Nat} (hE : E ≤ 10) (hR : RG M E l h) {a : Nat} (ha : a < 2 ^ E) : ∀ k, k ≤ cc l h E → WP (d + 2) cd_X6_key false (fun r M2 L2 => r = some (.long (lN (kcM M a (cc l h E)))) ∧ L2 = ML ∧ M2 = M) (5, [(0, .ref 18), (1, .int (nI a)), (2, .long (lN (kcM M a k))), (4, .int (nI k))], [], (SH, M, ML)) := by
  have hcE := cc_le l h E
  refine up_ind fun k hk ih => ?_
  have hag := agN_lt M a k
  refine w_ld rfl rfl ?_
  refine w_ld rfl rfl ?_
  refine w_getv rfl rfl rfl rfl rfl (hR.1) ?_
  refine w_cj rfl rfl (fun h_11 => ?_) (fun h_11 => ?_)
  · have h9 : k = cc l h E := by have := nle (by omega) (by omega) h_11; omega
    subst h9
    refine w_ld rfl rfl ?_
    refine w_ret rfl rfl (trivial) ?_
    exact ⟨rfl, rfl, rfl⟩
  · have hlt : k < cc l h E := nnle (by omega) (by omega) h_11
    obtain ⟨c2, hc2, hch2, he2⟩ := cc_kth hlt
    have hca := EX_ex (ok_X6_against (d := d) (ML := ML) hE hR hc2 hch2 ha)
    rw [he2] at hca
    refine w_ld rfl rfl ?_
    refine w_cst (v := .int 4) rfl rfl ?_
    refine w_bin rfl rfl ?_
    rw [lshl4]
    refine w_ld rfl rfl ?_
    refine w_ld rfl rfl ?_
    refine w_ld rfl rfl ?_
    refine w_call (as := [_, _, _]) (rest := [_]) rfl rfl rfl rfl rfl rfl rfl rfl hca ?_
    refine w_una rfl rfl ?_
    rw [nI_l (by omega)]
    refine w_bin rfl rfl ?_
    rw [fb_or_sumL _ hag]
    refine w_sto (L' := [(0, _), (1, _), (2, _), (4, _)]) rfl rfl ?_
    refine w_inc (y := _ + 1) rfl rfl rfl ?_
    refine w_norm (L' := [(0, _), (1, _), (2, _), (4, _)]) rfl ?_
    refine w_go rfl ?_
    rw [nI_1]
    exact ih hlt

set_option maxHeartbeats 1000000 in
set_option maxRecDepth 10000 in
theorem ok_X6_key {d : Nat} {M : Mm} {ML : Ml} {E : Nat} {l h : Nat → Nat} (hE : E ≤ 10) (hR : RG M E l h) {a : Nat} (ha : a < 2 ^ E) : EX (d + 3) k_X6_key [.ref 18, .int (nI a)] M ML (fun r M2 L2 => r = some (.long (lN (kcM M a (cc l h E)))) ∧ L2 = ML ∧ M2 = M) := by
  refine EX_in mi_X6_key rfl rfl ?_
  show WP _ cd_X6_key false _ (0, [(0, .ref 18), (1, .int (nI a))], [], (SH, M, ML))
  refine w_cst (v := .long 0) rfl rfl ?_
  refine w_sto (L' := [(0, _), (1, _), (2, _)]) rfl rfl ?_
  refine w_cst (v := .int 0) rfl rfl ?_
  refine w_sto (L' := [(0, _), (1, _), (2, _), (4, _)]) rfl rfl ?_
  exact lp_X6_key_5 hE hR ha 0 (Nat.zero_le _)

theorem kc_62 {M : Mm} {a : Nat} {l h : Nat → Nat} {E : Nat} (hE : E ≤ 10) : kcM M a (cc l h E) < 2 ^ 62 := Nat.lt_of_lt_of_le (kcM_lt M a _) (p2 (by have := cc_le l h E; omega))
theorem cmp_lN {a b : Nat} (ha : a < 2 ^ 62) (hb : b < 2 ^ 62) : lg_cmp (lN a) (lN b) = 0 ↔ a = b := (lg_cmp_eq _ _).trans (fb_lN_inj (by omega) (by omega))

set_option maxHeartbeats 1000000 in
set_option maxRecDepth 10000 in
theorem ok_X11_areAlike {d : Nat} {M : Mm} {ML : Ml} {N E A : Nat} {l h : Nat → Nat} (hS : NS M 2 3 4 5 6 N E A l h) (hW : WN N E A l h) (hR : RG M E l h) {a b : Nat} (ha : a < 2 ^ E) (hb : b < 2 ^ E) : EX (d + 4) k_X11_areAlike [.ref 1, .int (nI a), .int (nI b)] M ML (fun r M2 L2 => r = some (.int (b2i (alB l h E (nI a) (nI b)))) ∧ L2 = ML ∧ M2 = M) := by
  refine EX_in mi_X11_areAlike rfl rfl ?_
  show WP _ cd_X11_areAlike true _ (0, [(0, .ref 1), (1, .int (nI a)), (2, .int (nI b))], [], (SH, M, ML))
  have hE10 := hW.2.2.1
  refine w_ld rfl rfl ?_
  refine w_getr rfl rfl rfl rfl rfl ?_
  refine w_ld rfl rfl ?_
  refine w_call (as := [_, _]) (rest := []) rfl rfl rfl rfl rfl rfl rfl rfl (EX_ex (ok_X6_key hE10 hR ha)) ?_
  refine w_ld rfl rfl ?_
  refine w_getr rfl rfl rfl rfl rfl ?_
  refine w_ld rfl rfl ?_
  refine w_call (as := [_, _]) (rest := [_]) rfl rfl rfl rfl rfl rfl rfl rfl (EX_ex (ok_X6_key hE10 hR hb)) ?_
  refine w_bin rfl rfl ?_
  refine w_cj rfl rfl (fun h_17 => ?_) (fun h_17 => ?_)
  · refine w_cst (v := .int 0) rfl rfl ?_
    refine w_ret rfl rfl (by first | exact rb1 | exact rb0) ?_
    refine ⟨?_, rfl, rfl⟩
    unfold alB
    rw [eqF_kc hR ha hb]
    first
      | (rw [h_25, h_36, decide_eq_true ((cmp_lN (kc_62 hE10) (kc_62 hE10)).mp (Classical.not_not.mp h_17))]; rfl)
      | (rw [h_25, h_36, Bool.and_false, Bool.and_false]; rfl)
      | (rw [h_25, Bool.false_and, Bool.and_false]; rfl)
      | (rw [decide_eq_false (fun w => h_17 ((cmp_lN (kc_62 hE10) (kc_62 hE10)).mpr w))]; rfl)
  · refine w_ld rfl rfl ?_
    refine w_getr rfl rfl rfl rfl rfl ?_
    refine w_ld rfl rfl ?_
    refine w_cife (as := [_, _]) (rest := []) rfl rfl rfl rfl rfl rfl rfl rfl (ok_X4_isFree _ _ _ hS hW) rfl (fun h_25 => ?_) (fun h_25 => ?_)
    · refine w_cst (v := .int 0) rfl rfl ?_
      refine w_ret rfl rfl (by first | exact rb1 | exact rb0) ?_
      refine ⟨?_, rfl, rfl⟩
      unfold alB
      rw [eqF_kc hR ha hb]
      first
        | (rw [h_25, h_36, decide_eq_true ((cmp_lN (kc_62 hE10) (kc_62 hE10)).mp (Classical.not_not.mp h_17))]; rfl)
        | (rw [h_25, h_36, Bool.and_false, Bool.and_false]; rfl)
        | (rw [h_25, Bool.false_and, Bool.and_false]; rfl)
        | (rw [decide_eq_false (fun w => h_17 ((cmp_lN (kc_62 hE10) (kc_62 hE10)).mpr w))]; rfl)
    · refine w_ld rfl rfl ?_
      refine w_getr rfl rfl rfl rfl rfl ?_
      refine w_ld rfl rfl ?_
      refine w_cife (as := [_, _]) (rest := []) rfl rfl rfl rfl rfl rfl rfl rfl (ok_X4_isFree _ _ _ hS hW) rfl (fun h_36 => ?_) (fun h_36 => ?_)
      · refine w_cst (v := .int 0) rfl rfl ?_
        refine w_ret rfl rfl (by first | exact rb1 | exact rb0) ?_
        refine ⟨?_, rfl, rfl⟩
        unfold alB
        rw [eqF_kc hR ha hb]
        first
          | (rw [h_25, h_36, decide_eq_true ((cmp_lN (kc_62 hE10) (kc_62 hE10)).mp (Classical.not_not.mp h_17))]; rfl)
          | (rw [h_25, h_36, Bool.and_false, Bool.and_false]; rfl)
          | (rw [h_25, Bool.false_and, Bool.and_false]; rfl)
          | (rw [decide_eq_false (fun w => h_17 ((cmp_lN (kc_62 hE10) (kc_62 hE10)).mpr w))]; rfl)
      · refine w_cst (v := .int 1) rfl rfl ?_
        refine w_go rfl ?_
        refine w_ret rfl rfl (by first | exact rb1 | exact rb0) ?_
        refine ⟨?_, rfl, rfl⟩
        unfold alB
        rw [eqF_kc hR ha hb]
        first
          | (rw [h_25, h_36, decide_eq_true ((cmp_lN (kc_62 hE10) (kc_62 hE10)).mp (Classical.not_not.mp h_17))]; rfl)
          | (rw [h_25, h_36, Bool.and_false, Bool.and_false]; rfl)
          | (rw [h_25, Bool.false_and, Bool.and_false]; rfl)
          | (rw [decide_eq_false (fun w => h_17 ((cmp_lN (kc_62 hE10) (kc_62 hE10)).mpr w))]; rfl)

set_option maxHeartbeats 1000000 in
set_option maxRecDepth 10000 in
theorem ok_X11_alike {d : Nat} {M : Mm} {ML : Ml} {N E A : Nat} {l h : Nat → Nat} (hS : NS M 2 3 4 5 6 N E A l h) (hW : WN N E A l h) (hR : RG M E l h) {x y : Int32} : EX (d + 5) k_X11_alike [.ref 1, .int x, .int y] M ML (fun r M2 L2 => r = some (.int (alikeA l h E x y)) ∧ L2 = ML ∧ M2 = M) := by
  refine EX_in mi_X11_alike rfl rfl ?_
  show WP _ cd_X11_alike false _ (0, [(0, .ref 1), (1, .int x), (2, .int y)], [], (SH, M, ML))
  have hE10 := hW.2.2.1
  have h1024 := pow_b hE10
  refine w_ld rfl rfl ?_
  refine w_getr rfl rfl rfl rfl rfl ?_
  refine w_ld rfl rfl ?_
  refine w_cife (as := [_, _]) (rest := []) rfl rfl rfl rfl rfl rfl rfl rfl (ok_X4_hasArrowing _ _ _ _ hS.2.1 hW.2.2.1) rfl (fun h_5 => ?_) (fun h_5 => ?_)
  · refine w_cst (v := .int (-1)) rfl rfl ?_
    refine w_ret rfl rfl (trivial) ?_
    refine ⟨?_, rfl, rfl⟩
    unfold alikeA
    first
      | (rw [h_5]; rfl)
      | (rw [h_5, h_16]; rfl)
  · refine w_ld rfl rfl ?_
    refine w_getr rfl rfl rfl rfl rfl ?_
    refine w_ld rfl rfl ?_
    refine w_cifn (as := [_, _]) (rest := []) rfl rfl rfl rfl rfl rfl rfl rfl (ok_X4_hasArrowing _ _ _ _ hS.2.1 hW.2.2.1) rfl (fun h_16 => ?_) (fun h_16 => ?_)
    · obtain ⟨a, ha, rfl⟩ := inR_ex (by omega) h_5
      obtain ⟨b, hb, rfl⟩ := inR_ex (by omega) h_16
      refine w_ld rfl rfl ?_
      refine w_ld rfl rfl ?_
      refine w_ld rfl rfl ?_
      refine w_cife (as := [_, _, _]) (rest := []) rfl rfl rfl rfl rfl rfl rfl rfl (EX_ex (ok_X11_areAlike hS hW hR ha hb)) rfl (fun h_27 => ?_) (fun h_27 => ?_)
      · refine w_cst (v := .int 0) rfl rfl ?_
        refine w_ret rfl rfl (trivial) ?_
        refine ⟨?_, rfl, rfl⟩
        unfold alikeA
        rw [h_5, h_16, h_27]
        exact rfl
      · refine w_cst (v := .int 1) rfl rfl ?_
        refine w_go rfl ?_
        refine w_ret rfl rfl (trivial) ?_
        refine ⟨?_, rfl, rfl⟩
        unfold alikeA
        rw [h_5, h_16, h_27]
        exact rfl
    · refine w_cst (v := .int (-1)) rfl rfl ?_
      refine w_ret rfl rfl (trivial) ?_
      refine ⟨?_, rfl, rfl⟩
      unfold alikeA
      first
        | (rw [h_5]; rfl)
        | (rw [h_5, h_16]; rfl)

set_option maxHeartbeats 1000000 in
set_option maxRecDepth 10000 in
theorem ok_X11_flow {d : Nat} {M : Mm} {ML : Ml} {N E A : Nat} {l h : Nat → Nat} (hS : NS M 2 3 4 5 6 N E A l h) (hW : WN N E A l h) (hR : RG M E l h) {x y : Int32} : EX (d + 4) k_X11_flow [.ref 1, .int x, .int y] M ML (fun r M2 L2 => r = some (.long (flowA l h E x y)) ∧ L2 = ML ∧ M2 = M) := by
  have hE10 := hW.2.2.1
  have h1024 := pow_b hE10
  refine EX_in mi_X11_flow rfl rfl ?_
  show WP _ cd_X11_flow false _ (0, [(0, .ref 1), (1, .int x), (2, .int y)], [], (SH, M, ML))
  cases hch : chB l h E y with
  | false =>
    have hno : ∀ c, c < E → isCh l h c = true → y ≠ nI c := fun c hc hc2 w => by
      rw [w, chB, inR_nI (by omega) hc, nI_clamp (by omega), hc2] at hch
      exact Bool.noConfusion hch
    refine w_ld rfl rfl ?_
    refine w_getr rfl rfl rfl rfl rfl ?_
    refine w_ld rfl rfl ?_
    refine w_call (as := [_, _]) (rest := []) rfl rfl rfl rfl rfl rfl rfl rfl (EX_ex (ok_X6_chordOf_n hE10 hR hno)) ?_
    refine w_sto (L' := [(0, _), (1, _), (2, _), (3, _)]) rfl rfl ?_
    refine w_ld rfl rfl ?_
    refine w_getr rfl rfl rfl rfl rfl ?_
    refine w_ld rfl rfl ?_
    refine w_cife (as := [_, _]) (rest := []) rfl rfl rfl rfl rfl rfl rfl rfl (ok_X4_hasArrowing _ _ _ _ hS.2.1 hW.2.2.1) rfl (fun h_14 => ?_) (fun h_14 => ?_)
    · refine w_ldl rfl ?_
      refine w_ret rfl rfl (trivial) ?_
      refine ⟨?_, rfl, rfl⟩
      unfold flowA
      rw [hch, Bool.and_false]
      exact rfl
    · refine w_ld rfl rfl ?_
      refine w_cjF rfl rfl (by decide) ?_
      refine w_ldl rfl ?_
      refine w_ret rfl rfl (trivial) ?_
      refine ⟨?_, rfl, rfl⟩
      unfold flowA
      rw [hch, Bool.and_false]
      exact rfl
  | true =>
    obtain ⟨c, hc, rfl, hc2⟩ : ∃ c, c < E ∧ y = nI c ∧ isCh l h c = true := by
      have h2 := hch
      unfold chB at h2
      rw [Bool.and_eq_true] at h2
      obtain ⟨c, hc, rfl⟩ := inR_ex (by omega) h2.1
      rw [nI_clamp (by omega)] at h2
      exact ⟨c, hc, rfl, h2.2⟩
    have hcl := cc_lt hc hc2
    have hcE := cc_le l h E
    refine w_ld rfl rfl ?_
    refine w_getr rfl rfl rfl rfl rfl ?_
    refine w_ld rfl rfl ?_
    refine w_call (as := [_, _]) (rest := []) rfl rfl rfl rfl rfl rfl rfl rfl (EX_ex (ok_X6_chordOf_y hE10 hR hc hc2)) ?_
    refine w_sto (L' := [(0, _), (1, _), (2, _), (3, _)]) rfl rfl ?_
    refine w_ld rfl rfl ?_
    refine w_getr rfl rfl rfl rfl rfl ?_
    refine w_ld rfl rfl ?_
    refine w_cife (as := [_, _]) (rest := []) rfl rfl rfl rfl rfl rfl rfl rfl (ok_X4_hasArrowing _ _ _ _ hS.2.1 hW.2.2.1) rfl (fun h_14 => ?_) (fun h_14 => ?_)
    · refine w_ldl rfl ?_
      refine w_ret rfl rfl (trivial) ?_
      refine ⟨?_, rfl, rfl⟩
      unfold flowA
      rw [h_14]
      exact rfl
    · refine w_ld rfl rfl ?_
      refine w_cjT rfl rfl (nlt0.mp (ne_m1 (by omega))) ?_
      obtain ⟨a, ha, rfl⟩ := inR_ex (by omega) h_14
      refine w_ld rfl rfl ?_
      refine w_getr rfl rfl rfl rfl rfl ?_
      refine w_ld rfl rfl ?_
      refine w_ld rfl rfl ?_
      refine w_call (as := [_, _, _]) (rest := []) rfl rfl rfl rfl rfl rfl rfl rfl (EX_ex (ok_X6_round hE10 hR hc hc2 ha)) ?_
      refine w_una rfl rfl ?_
      refine w_ret rfl rfl (trivial) ?_
      refine ⟨?_, rfl, rfl⟩
      unfold flowA
      rw [h_14, hch, nI_clamp (by omega)]
      exact rfl

theorem RG_Fr {M M' : Mm} {S : List Nat} {E : Nat} {l h : Nat → Nat} (hR : RG M E l h) (f : Fr S M M') (hd : 18 ∉ S ∧ 19 ∉ S ∧ 20 ∉ S ∧ 21 ∉ S) : RG M' E l h := by
  unfold RG RGe
  rw [f 18 hd.1, f 19 hd.2.1, f 20 hd.2.2.1, f 21 hd.2.2.2]
  exact hR

set_option maxHeartbeats 1000000 in
set_option maxRecDepth 10000 in
theorem ok_X11_conjugate {d : Nat} {M : Mm} {ML : Ml} {N E A : Nat} {l h : Nat → Nat} (hS : NS M 2 3 4 5 6 N E A l h) (hW : WN N E A l h) (hR : RG M E l h) {x y : Int32} : EX (d + 5) k_X11_conjugate [.ref 1, .int x, .int y] M ML (fun r M2 L2 => r = some (.int (conjA l h N E x y)) ∧ L2 = ML ∧ Fr [40, 41] M M2) := by
  refine EX_in mi_X11_conjugate rfl rfl ?_
  show WP _ cd_X11_conjugate false _ (0, [(0, .ref 1), (1, .int x), (2, .int y)], [], (SH, M, ML))
  refine w_ld rfl rfl ?_
  refine w_getr rfl rfl rfl rfl rfl ?_
  refine w_ld rfl rfl ?_
  refine w_getr rfl rfl rfl rfl rfl ?_
  refine w_getv rfl rfl rfl rfl rfl (hS.1) ?_
  refine w_ld rfl rfl ?_
  obtain ⟨_, M3, L3, ⟨rfl, rfl, hF, hp⟩, hE12⟩ := ok_X10_takeOne (d := d + 1) (ML := ML) (M := M) (x := x) hW
  refine w_cife (as := [_, _, _]) (rest := []) rfl rfl rfl rfl rfl rfl rfl rfl hE12 rfl (fun h_12 => ?_) (fun h_12 => ?_)
  · refine w_cst (v := .int (-1)) rfl rfl ?_
    refine w_ret rfl rfl (trivial) ?_
    first
      | exact ⟨by unfold conjA; rw [h_12]; rfl, rfl, Fr_mono hF (by decide)⟩
      | exact ⟨by unfold conjA; rw [h_12, h_30]; rfl, rfl, Fr_tr (Fr_mono hF (by decide)) (Fr_mono hF2 (by decide))⟩
  · have hS3 := NS_Fr hS hF (by decide)
    obtain ⟨a, ha, rfl, hB1⟩ := wdB_ex h_12
    rw [nI_clamp ha] at hp
    have hp1 := hp h_12
    refine w_ld rfl rfl ?_
    refine w_getr rfl rfl rfl rfl rfl ?_
    refine w_ld rfl rfl ?_
    refine w_getr rfl rfl rfl rfl rfl ?_
    refine w_getv rfl rfl rfl rfl rfl (hS3.1) ?_
    refine w_ld rfl rfl ?_
    obtain ⟨_, M4, L4, ⟨rfl, rfl, hF2, hp2⟩, hE30⟩ := ok_X10_takeOther (d := d + 1) (ML := L3) (M := M3) (x := y) hW
    refine w_cifn (as := [_, _, _]) (rest := []) rfl rfl rfl rfl rfl rfl rfl rfl hE30 rfl (fun h_30 => ?_) (fun h_30 => ?_)
    · have hS4 := NS_Fr hS3 hF2 (by decide)
      have hR4 := RG_Fr (RG_Fr hR hF (by decide)) hF2 (by decide)
      obtain ⟨b, hb, rfl, hB2⟩ := wdB_ex h_30
      rw [nI_clamp hb] at hp2
      have hp2' := hp2 h_30
      have hp1' : ∀ v, v < N → M4 40 v = nI (pl N a v) := fun v hv => by rw [hF2 40 (by decide)]; exact hp1 v hv
      refine w_ld rfl rfl ?_
      refine w_getr rfl rfl rfl rfl rfl ?_
      refine w_ld rfl rfl ?_
      refine w_getr rfl rfl rfl rfl rfl ?_
      refine w_ld rfl rfl ?_
      refine w_getr rfl rfl rfl rfl rfl ?_
      refine w_getr rfl rfl rfl rfl rfl ?_
      refine w_call (as := [_, _, _]) (rest := []) rfl rfl rfl rfl rfl rfl rfl rfl (EX_ex (ok_X10_arrowsOf_40 hS4 hW hp1')) ?_
      refine w_sto (L' := [(0, _), (1, _), (2, _), (3, _)]) rfl rfl ?_
      refine w_ld rfl rfl ?_
      refine w_ld rfl rfl ?_
      refine w_ld rfl rfl ?_
      refine w_getr rfl rfl rfl rfl rfl ?_
      refine w_ld rfl rfl ?_
      refine w_getr rfl rfl rfl rfl rfl ?_
      refine w_ld rfl rfl ?_
      refine w_getr rfl rfl rfl rfl rfl ?_
      refine w_getr rfl rfl rfl rfl rfl ?_
      refine w_call (as := [_, _, _]) (rest := [_, _]) rfl rfl rfl rfl rfl rfl rfl rfl (EX_ex (ok_X10_arrowsOf_41 hS4 hW hp2')) ?_
      refine w_cife (as := [_, _, _]) (rest := []) rfl rfl rfl rfl rfl rfl rfl rfl (EX_ex (ok_X11_areAlike hS4 hW hR4 arW_lt arW_lt)) rfl (fun h_77 => ?_) (fun h_77 => ?_)
      · refine w_cst (v := .int 0) rfl rfl ?_
        refine w_ret rfl rfl (trivial) ?_
        refine ⟨?_, rfl, Fr_tr (Fr_mono hF (by decide)) (Fr_mono hF2 (by decide))⟩
        unfold conjA
        rw [h_12, h_30, nI_clamp ha, nI_clamp hb, h_77]
        exact rfl
      · refine w_cst (v := .int 1) rfl rfl ?_
        refine w_go rfl ?_
        refine w_ret rfl rfl (trivial) ?_
        refine ⟨?_, rfl, Fr_tr (Fr_mono hF (by decide)) (Fr_mono hF2 (by decide))⟩
        unfold conjA
        rw [h_12, h_30, nI_clamp ha, nI_clamp hb, h_77]
        exact rfl
    · refine w_cst (v := .int (-1)) rfl rfl ?_
      refine w_ret rfl rfl (trivial) ?_
      first
        | exact ⟨by unfold conjA; rw [h_12]; rfl, rfl, Fr_mono hF (by decide)⟩
        | exact ⟨by unfold conjA; rw [h_12, h_30]; rfl, rfl, Fr_tr (Fr_mono hF (by decide)) (Fr_mono hF2 (by decide))⟩

