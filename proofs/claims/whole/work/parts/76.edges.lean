/-! ===== nodes, edge, cut of both ===== -/
/-- the class's net, newly drawn -/
def NW (M : Mm) (N E A : Nat) (l h : Nat → Nat) : Prop := NS M 2 3 4 5 6 N E A l h ∧ RG M E l h ∧ M 24 0 = 0 ∧ M 31 0 = 0 ∧ M 12 0 = 0
def pE (l h : Nat → Nat) (i j e : Nat) : Bool := decide (l e = min i j) && decide (h e = max i j)
abbrev hasP (l h : Nat → Nat) (E : Nat) (x y : Int32) : Prop := fa_first (pE l h x.toNatClampNeg y.toNatClampNeg) E < E
def edR (N E : Nat) (l h : Nat → Nat) (x y : Int32) : Int32 := if (inR x N && inR y N && decide (x ≠ y)) = true then (if hasP l h E x y then -5 else if E < 10 then 0 else -3) else -1
def edA (A E : Nat) (x y : Int32) : Nat := A ||| (if x.toNatClampNeg < y.toNatClampNeg then 0 else 2 ^ E)
def edl (l : Nat → Nat) (E : Nat) (x y : Int32) : Nat → Nat := fun e => if e = E then min x.toNatClampNeg y.toNatClampNeg else l e
def edh (h : Nat → Nat) (E : Nat) (x y : Int32) : Nat → Nat := fun e => if e = E then max x.toNatClampNeg y.toNatClampNeg else h e
def shN (k : Nat) (l : Nat → Nat) : Nat → Nat := fun e => if e < k then l e else l (e + 1)
theorem edR_m {N E : Nat} {l h : Nat → Nat} {x y : Int32} (q : (inR x N && inR y N && decide (x ≠ y)) = false) : edR N E l h x y = -1 := by
  unfold edR
  rw [q]
  rfl
theorem edR_t {N E : Nat} {l h : Nat → Nat} {x y : Int32} (h1 : inR x N = true) (h2 : inR y N = true) (h3 : x ≠ y) : edR N E l h x y = if hasP l h E x y then -5 else if E < 10 then 0 else -3 := by
  unfold edR
  rw [h1, h2, decide_eq_true h3]
  rfl
theorem fstI_neg {p : Nat → Bool} {n : Nat} (hn : n < 2 ^ 31) : fstI p n < 0 ↔ ¬ fa_first p n < n := by
  unfold fstI
  by_cases q : fa_first p n < n
  · rw [if_pos q]
    exact ⟨fun w => absurd w (ne_m1 (by omega)), fun w => absurd q w⟩
  · rw [if_neg q]
    exact ⟨fun _ => q, fun _ => by decide⟩
def lstI (p : Nat → Bool) : Nat → Int32
  | 0 => -1
  | n + 1 => if p n = true then nI n else lstI p n
theorem lstI_no {p : Nat → Bool} : ∀ n, (∀ j, j < n → p j = false) → lstI p n = -1
  | 0, _ => rfl
  | n + 1, q => by
    rw [lstI, if_neg (by rw [q n (Nat.lt_succ_self n)]; exact Bool.noConfusion)]
    exact lstI_no n (fun j hj => q j (Nat.lt_succ_of_lt hj))
theorem lstI_yes {p : Nat → Bool} : ∀ n, n < 2 ^ 31 → ∀ j, j < n → p j = true → ¬ lstI p n < 0
  | 0, _, _, hj, _ => absurd hj (Nat.not_lt_zero _)
  | n + 1, hn, j, hj, hp => by
    rw [lstI]
    by_cases q : p n = true
    · rw [if_pos q]
      exact ne_m1 (by omega)
    · rw [if_neg q]
      refine lstI_yes n (by omega) j ?_ hp
      rcases Nat.lt_or_ge j n with w | w
      · exact w
      · have : j = n := by omega
        exact absurd (this ▸ hp) q
theorem lstI_neg {p : Nat → Bool} {n : Nat} (hn : n < 2 ^ 31) : lstI p n < 0 ↔ ¬ fa_first p n < n := by
  by_cases q : fa_first p n < n
  · exact ⟨fun w => absurd w (lstI_yes n hn _ q (fa_first_yes p n q)), fun w => absurd q w⟩
  · refine ⟨fun _ => q, fun _ => ?_⟩
    rw [lstI_no n (fun j hj => fa_first_no p n j (by omega))]
    decide
theorem remR {A k : Nat} (hA : A < 2 ^ 31) (hk : k < 30) : (nI A &&& ((1 : Int32) <<< (nI k &&& 31) - 1)) ||| ((nI A >>> ((nI k + 1) &&& 31)) <<< (nI k &&& 31)) = nI (remB A k) := by
  have e1 : (1 : Int32) <<< (nI k &&& 31) - 1 = nI (2 ^ k - 1) := by
    rw [shl1 (by omega), show (1 : Int32) = nI 1 from rfl, pk_sub (Nat.one_le_two_pow)]
  have hq : A / 2 ^ (k + 1) * 2 ^ k ≤ A := by
    refine Nat.le_trans (Nat.mul_le_mul (Nat.le_refl _) (Nat.pow_le_pow_right (by decide) (Nat.le_succ k))) ?_
    exact Nat.div_mul_le_self A (2 ^ (k + 1))
  rw [e1, nI_1, shrN hA (by omega), shlN (by omega) (by omega)]
  apply b_ext
  intro i hi
  rw [b_or, b_and, b_nI _ hi, b_nI _ hi, b_nI _ hi, b_nI _ hi, Nat.testBit_two_pow_sub_one, Nat.testBit_mul_two_pow, Nat.testBit_div_two_pow, rem_bit _ _ _ hA]
  by_cases q : i < k
  · have h1 : ¬ k ≤ i := by omega
    have h2 : i < 31 := by omega
    simp [q, h1, h2]
  · have h1 : k ≤ i := by omega
    have h3 : i - k + (k + 1) = i + 1 := by omega
    simp [q, h1, h3]
theorem WN_new {k : Nat} {l h : Nat → Nat} (h1 : 1 ≤ k) (h7 : k ≤ 7) : WN k 0 0 l h := ⟨h1, h7, by decide, by decide, fun e he => absurd he (Nat.not_lt_zero e)⟩
theorem WN_edge {N E A : Nat} {l h : Nat → Nat} {x y : Int32} (hW : WN N E A l h) (hE : E < 10) (hi : x.toNatClampNeg < N) (hj : y.toNatClampNeg < N) (hn : x.toNatClampNeg ≠ y.toNatClampNeg) : WN N (E + 1) (edA A E x y) (edl l E x y) (edh h E x y) := by
  obtain ⟨h1, h2, h3, h4, h5⟩ := hW
  refine ⟨h1, h2, by omega, ?_, fun e he => ?_⟩
  · unfold edA
    refine Nat.or_lt_two_pow (Nat.lt_of_lt_of_le h4 (p2 (Nat.le_succ E))) ?_
    split
    · exact Nat.two_pow_pos _
    · exact Nat.pow_lt_pow_right (by decide) (Nat.lt_succ_self E)
  · unfold edl edh
    by_cases q : e = E
    · rw [if_pos q, if_pos q]
      omega
    · rw [if_neg q, if_neg q]
      exact h5 e (by omega)
theorem WN_cut {N E A k : Nat} {l h : Nat → Nat} (hW : WN N E A l h) (hk : k < E) : WN N (E - 1) (remB A k) (shN k l) (shN k h) := by
  obtain ⟨h1, h2, h3, h4, h5⟩ := hW
  refine ⟨h1, h2, by omega, rem_lt (E := E - 1) (by rw [show E - 1 + 1 = E by omega]; exact h4) (by omega) (by omega), fun e he => ?_⟩
  unfold shN
  by_cases q : e < k
  · rw [if_pos q, if_pos q]
    exact h5 e (by omega)
  · rw [if_neg q, if_neg q]
    exact h5 (e + 1) (by omega)

set_option maxHeartbeats 1000000 in
set_option maxRecDepth 10000 in
theorem ok_X11_renew {d : Nat} {M : Mm} {ML : Ml} {N E A : Nat} {l h : Nat → Nat} (hS : NS M 2 3 4 5 6 N E A l h) (hW : WN N E A l h) : EX (d + 5) k_X11_renew [.ref 1] M ML (fun r M2 L2 => r = none ∧ L2 = ML ∧ Fr [12, 18, 19, 20, 21, 22, 23, 24, 31] M M2 ∧ NW M2 N E A l h) := by
  refine EX_in mi_X11_renew rfl rfl ?_
  show WP _ cd_X11_renew false _ (0, [(0, .ref 1)], [], (SH, M, ML))
  refine w_ld rfl rfl ?_
  refine w_getr rfl rfl rfl rfl rfl ?_
  refine w_ld rfl rfl ?_
  refine w_getr rfl rfl rfl rfl rfl ?_
  obtain ⟨_, M3, L3, ⟨rfl, rfl, hF, hR⟩, hE8⟩ := ok_X6_draw (d := d) (ML := ML) hS hW
  refine w_callv (as := [_, _]) (rest := []) rfl rfl rfl rfl rfl rfl rfl rfl hE8 ?_
  refine w_ld rfl rfl ?_
  refine w_getr rfl rfl rfl rfl rfl ?_
  refine w_cst (v := .int 0) rfl rfl ?_
  refine w_put rfl rfl rfl rfl rfl (Or.inr (Or.inl rfl)) ?_
  refine w_ld rfl rfl ?_
  refine w_getr rfl rfl rfl rfl rfl ?_
  refine w_cst (v := .int 0) rfl rfl ?_
  refine w_put rfl rfl rfl rfl rfl (Or.inr (Or.inl rfl)) ?_
  refine w_ld rfl rfl ?_
  refine w_getr rfl rfl rfl rfl rfl ?_
  refine w_cst (v := .int 0) rfl rfl ?_
  refine w_put rfl rfl rfl rfl rfl (Or.inl rfl) ?_
  refine w_ret rfl rfl (trivial) ?_
  have hF2 : Fr [12, 24, 31] M3 (up2 (up2 (up2 M3 24 0 0) 31 0 0) 12 0 0) := Fr_up (by decide) (Fr_up (by decide) (Fr_up (by decide) Fr_rf))
  refine ⟨rfl, rfl, Fr_up (by decide) (Fr_up (by decide) (Fr_up (by decide) (Fr_mono hF (by decide)))), NS_Fr (NS_Fr hS hF (by decide)) hF2 (by decide), RG_Fr hR hF2 (by decide), ?_, ?_, up2_e⟩
  · rw [up2_row (by decide), up2_row (by decide), up2_e]
  · rw [up2_row (by decide), up2_e]

def wh1 (x : Int32) : Bool := decide (1 ≤ x ∧ x ≤ 7)
theorem wh1_ex {x : Int32} (q : wh1 x = true) : ∃ k, 1 ≤ k ∧ k ≤ 7 ∧ x = nI k := by
  have w := of_decide_eq_true q
  rw [Int32.le_iff_toInt_le, Int32.le_iff_toInt_le] at w
  have w1 : (1 : Int) ≤ x.toInt := w.1
  have w2 : x.toInt ≤ 7 := w.2
  refine ⟨x.toInt.toNat, by omega, by omega, ?_⟩
  apply Int32.toInt_inj.mp
  rw [nI_toInt (by omega)]
  omega

set_option maxHeartbeats 1000000 in
set_option maxRecDepth 10000 in
theorem ok_X11_nodes {d : Nat} {M : Mm} {ML : Ml} {N E A : Nat} {l h : Nat → Nat} (hS : NS M 2 3 4 5 6 N E A l h) (hW : WN N E A l h) {x : Int32} : EX (d + 6) k_X11_nodes [.ref 1, .int x] M ML (fun r M2 L2 => (wh1 x = false → r = some (.int (-1)) ∧ L2 = ML ∧ M2 = M) ∧ (wh1 x = true → r = some (.int (nI N)) ∧ L2 = ML ∧ NW M2 x.toNatClampNeg 0 0 l h ∧ Fr [2, 3, 4, 5, 6, 12, 18, 19, 20, 21, 22, 23, 24, 31] M M2)) := by
  refine EX_in mi_X11_nodes rfl rfl ?_
  show WP _ cd_X11_nodes false _ (0, [(0, .ref 1), (1, .int x)], [], (SH, M, ML))
  refine w_ld rfl rfl ?_
  refine w_cst (v := .int 1) rfl rfl ?_
  refine w_cj rfl rfl (fun h_2 => ?_) (fun h_2 => ?_)
  · refine w_cst (v := .int (-1)) rfl rfl ?_
    refine w_ret rfl rfl (trivial) ?_
    refine ⟨fun _ => ⟨rfl, rfl, rfl⟩, fun q => ?_⟩
    have w := of_decide_eq_true q
    first
      | exact absurd h_2 (nlt_le.mpr w.1)
      | exact absurd w.2 h_8
  · refine w_ld rfl rfl ?_
    refine w_cst (v := .int 7) rfl rfl ?_
    refine w_cj rfl rfl (fun h_8 => ?_) (fun h_8 => ?_)
    · refine w_ld rfl rfl ?_
      refine w_getr rfl rfl rfl rfl rfl ?_
      refine w_getv rfl rfl rfl rfl rfl (hS.1) ?_
      refine w_sto (L' := [(0, _), (1, _), (2, _)]) rfl rfl ?_
      refine w_ld rfl rfl ?_
      refine w_getr rfl rfl rfl rfl rfl ?_
      refine w_ld rfl rfl ?_
      have hx : wh1 x = true := decide_eq_true ⟨nlt_le.mp h_2, h_8⟩
      obtain ⟨k, hk1, hk7, rfl⟩ := wh1_ex hx
      obtain ⟨M3, hE26, hS3, hF3⟩ := ok_X4_clear_2 (d + 2) M ML k l h
      refine w_callv (as := [_, _]) (rest := []) rfl rfl rfl rfl rfl rfl rfl rfl hE26 ?_
      refine w_ld rfl rfl ?_
      obtain ⟨_, M4, L4, ⟨rfl, rfl, hF4, hN4⟩, hE30⟩ := ok_X11_renew (d := d) (ML := ML) hS3 (WN_new hk1 hk7)
      refine w_callv (as := [_]) (rest := []) rfl rfl rfl rfl rfl rfl rfl rfl hE30 ?_
      refine w_ld rfl rfl ?_
      refine w_ret rfl rfl (trivial) ?_
      refine ⟨fun q => absurd (q.symm.trans hx) Bool.noConfusion, fun _ => ⟨rfl, rfl, ?_, Fr_tr (Fr_mono hF3 (by decide)) (Fr_mono hF4 (by decide))⟩⟩
      rw [nI_clamp (by omega)]
      exact hN4
    · refine w_cst (v := .int (-1)) rfl rfl ?_
      refine w_ret rfl rfl (trivial) ?_
      refine ⟨fun _ => ⟨rfl, rfl, rfl⟩, fun q => ?_⟩
      have w := of_decide_eq_true q
      first
        | exact absurd h_2 (nlt_le.mpr w.1)
        | exact absurd w.2 h_8

set_option maxHeartbeats 1000000 in
set_option maxRecDepth 10000 in
theorem ok_X11_edge {d : Nat} {M : Mm} {ML : Ml} {N E A : Nat} {l h : Nat → Nat} (hS : NS M 2 3 4 5 6 N E A l h) (hW : WN N E A l h) {x y : Int32} : EX (d + 6) k_X11_edge [.ref 1, .int x, .int y] M ML (fun r M2 L2 => (¬ edR N E l h x y = 0 → r = some (.int (edR N E l h x y)) ∧ L2 = ML ∧ M2 = M) ∧ (edR N E l h x y = 0 → r = some (.int (nI E)) ∧ L2 = ML ∧ NW M2 N (E + 1) (edA A E x y) (edl l E x y) (edh h E x y) ∧ Fr [2, 3, 4, 5, 6, 12, 18, 19, 20, 21, 22, 23, 24, 31] M M2)) := by
  refine EX_in mi_X11_edge rfl rfl ?_
  show WP _ cd_X11_edge false _ (0, [(0, .ref 1), (1, .int x), (2, .int y)], [], (SH, M, ML))
  refine w_ld rfl rfl ?_
  refine w_getr rfl rfl rfl rfl rfl ?_
  refine w_ld rfl rfl ?_
  refine w_cife (as := [_, _]) (rest := []) rfl rfl rfl rfl rfl rfl rfl rfl (ok_X4_hasNode_2 _ _ _ _ hS.1) rfl (fun h_5 => ?_) (fun h_5 => ?_)
  · refine w_cst (v := .int (-1)) rfl rfl ?_
    refine w_ret rfl rfl (trivial) ?_
    have he : edR N E l h x y = -1 := edR_m (by
      first
        | exact (fun (w : inR x N = false) => by rw [w]; rfl) h_5
        | exact (fun (w : inR y N = false) => by rw [w]; cases inR x N <;> rfl) h_16
        | exact (fun (w : ¬ x ≠ y) => by rw [decide_eq_false w]; exact Bool.and_false _) h_24)
    exact ⟨fun _ => ⟨by rw [he], rfl, rfl⟩, fun q => absurd (he.symm.trans q) (by decide)⟩
  · refine w_ld rfl rfl ?_
    refine w_getr rfl rfl rfl rfl rfl ?_
    refine w_ld rfl rfl ?_
    refine w_cife (as := [_, _]) (rest := []) rfl rfl rfl rfl rfl rfl rfl rfl (ok_X4_hasNode_2 _ _ _ _ hS.1) rfl (fun h_16 => ?_) (fun h_16 => ?_)
    · refine w_cst (v := .int (-1)) rfl rfl ?_
      refine w_ret rfl rfl (trivial) ?_
      have he : edR N E l h x y = -1 := edR_m (by
        first
          | exact (fun (w : inR x N = false) => by rw [w]; rfl) h_5
          | exact (fun (w : inR y N = false) => by rw [w]; cases inR x N <;> rfl) h_16
          | exact (fun (w : ¬ x ≠ y) => by rw [decide_eq_false w]; exact Bool.and_false _) h_24)
      exact ⟨fun _ => ⟨by rw [he], rfl, rfl⟩, fun q => absurd (he.symm.trans q) (by decide)⟩
    · refine w_ld rfl rfl ?_
      refine w_ld rfl rfl ?_
      refine w_cj rfl rfl (fun h_24 => ?_) (fun h_24 => ?_)
      · refine w_ld rfl rfl ?_
        refine w_getr rfl rfl rfl rfl rfl ?_
        have hN7 := hW.2.1
        obtain ⟨i, hi, rfl⟩ := inR_ex (by omega) h_5
        obtain ⟨j, hj, rfl⟩ := inR_ex (by omega) h_16
        have hci : (nI i).toNatClampNeg = i := nI_clamp (by omega)
        have hcj : (nI j).toNatClampNeg = j := nI_clamp (by omega)
        have hij : i ≠ j := fun w => h_24 (congrArg nI w)
        have hP : hasP l h E (nI i) (nI j) ↔ fa_first (pE l h i j) E < E := by
          unfold hasP
          rw [hci, hcj]
        have hE10 := hW.2.2.1
        have hed := edR_t (E := E) (l := l) (h := h) h_5 h_16 h_24
        refine w_ld rfl rfl ?_
        refine w_ld rfl rfl ?_
        refine w_call (as := [_, _, _]) (rest := []) rfl rfl rfl rfl rfl rfl rfl rfl (ok_X4_between_2 _ _ _ hS hE10 (by omega) (by omega) (WN_b hW)) ?_
        refine w_cj rfl rfl (fun h_38 => ?_) (fun h_38 => ?_)
        · refine w_ld rfl rfl ?_
          refine w_getr rfl rfl rfl rfl rfl ?_
          refine w_getv rfl rfl rfl rfl rfl (hS.2.1) ?_
          refine w_cst (v := .int 10) rfl rfl ?_
          refine w_cj rfl rfl (fun h_53 => ?_) (fun h_53 => ?_)
          · refine w_ld rfl rfl ?_
            refine w_getr rfl rfl rfl rfl rfl ?_
            refine w_ld rfl rfl ?_
            refine w_ld rfl rfl ?_
            have hlt : E < 10 := nlt (by omega) (by decide) h_53
            have hne : ¬ hasP l h E (nI i) (nI j) := fun w => (fstI_neg (by omega)).mp h_38 (hP.mp w)
            have he : edR N E l h (nI i) (nI j) = 0 := by rw [hed, if_neg hne, if_pos hlt]
            have hW3 : WN N (E + 1) (edA A E (nI i) (nI j)) (edl l E (nI i) (nI j)) (edh h E (nI i) (nI j)) := WN_edge hW hlt (by omega) (by omega) (by omega)
            obtain ⟨M3, hE65, hS3', hF3⟩ := ok_X4_join_2 (d + 2) M ML (i := i) (j := j) hS hlt (by omega) (by omega) (WN_b hW)
            have hS3 : NS M3 2 3 4 5 6 N (E + 1) (edA A E (nI i) (nI j)) (edl l E (nI i) (nI j)) (edh h E (nI i) (nI j)) := by
              unfold edA edl edh
              rw [hci, hcj]
              exact hS3'
            refine w_callv (as := [_, _, _]) (rest := []) rfl rfl rfl rfl rfl rfl rfl rfl hE65 ?_
            refine w_ld rfl rfl ?_
            obtain ⟨_, M4, L4, ⟨rfl, rfl, hF4, hN4⟩, hE69⟩ := ok_X11_renew (d := d) (ML := ML) hS3 hW3
            refine w_callv (as := [_]) (rest := []) rfl rfl rfl rfl rfl rfl rfl rfl hE69 ?_
            refine w_ld rfl rfl ?_
            refine w_getr rfl rfl rfl rfl rfl ?_
            refine w_getv rfl rfl rfl rfl rfl (hN4.1.2.1) ?_
            refine w_cst (v := .int 1) rfl rfl ?_
            refine w_bin rfl rfl ?_
            refine w_ret rfl rfl (trivial) ?_
            refine ⟨fun q => absurd he q, fun _ => ⟨by rw [nI_s1], rfl, hN4, Fr_tr (Fr_mono hF3 (by decide)) (Fr_mono hF4 (by decide))⟩⟩
          · refine w_cst (v := .int (-3)) rfl rfl ?_
            refine w_ret rfl rfl (trivial) ?_
            have hne : ¬ hasP l h E (nI i) (nI j) := fun w => (fstI_neg (by omega)).mp h_38 (hP.mp w)
            have he : edR N E l h (nI i) (nI j) = -3 := by rw [hed, if_neg hne, if_neg (fun w => h_53 (nI_lt w (by decide)))]
            exact ⟨fun _ => ⟨by rw [he], rfl, rfl⟩, fun q => absurd (he.symm.trans q) (by decide)⟩
        · refine w_cst (v := .int (-5)) rfl rfl ?_
          refine w_ret rfl rfl (trivial) ?_
          have hyes : hasP l h E (nI i) (nI j) := hP.mpr (Classical.byContradiction fun w => h_38 ((fstI_neg (by omega)).mpr w))
          have he : edR N E l h (nI i) (nI j) = -5 := by rw [hed, if_pos hyes]
          exact ⟨fun _ => ⟨by rw [he], rfl, rfl⟩, fun q => absurd (he.symm.trans q) (by decide)⟩
      · refine w_cst (v := .int (-1)) rfl rfl ?_
        refine w_ret rfl rfl (trivial) ?_
        have he : edR N E l h x y = -1 := edR_m (by
          first
            | exact (fun (w : inR x N = false) => by rw [w]; rfl) h_5
            | exact (fun (w : inR y N = false) => by rw [w]; cases inR x N <;> rfl) h_16
            | exact (fun (w : ¬ x ≠ y) => by rw [decide_eq_false w]; exact Bool.and_false _) h_24)
        exact ⟨fun _ => ⟨by rw [he], rfl, rfl⟩, fun q => absurd (he.symm.trans q) (by decide)⟩

set_option maxHeartbeats 1000000 in
set_option maxRecDepth 10000 in
theorem ok_X11_cut {d : Nat} {M : Mm} {ML : Ml} {N E A : Nat} {l h : Nat → Nat} (hS : NS M 2 3 4 5 6 N E A l h) (hW : WN N E A l h) {x : Int32} : EX (d + 6) k_X11_cut [.ref 1, .int x] M ML (fun r M2 L2 => (inR x E = false → r = some (.int (-1)) ∧ L2 = ML ∧ M2 = M) ∧ (inR x E = true → r = some (.int (nI (E - 1))) ∧ L2 = ML ∧ NW M2 N (E - 1) (remB A x.toNatClampNeg) (shN x.toNatClampNeg l) (shN x.toNatClampNeg h) ∧ Fr [2, 3, 4, 5, 6, 12, 18, 19, 20, 21, 22, 23, 24, 31] M M2)) := by
  refine EX_in mi_X11_cut rfl rfl ?_
  show WP _ cd_X11_cut false _ (0, [(0, .ref 1), (1, .int x)], [], (SH, M, ML))
  refine w_ld rfl rfl ?_
  refine w_getr rfl rfl rfl rfl rfl ?_
  refine w_ld rfl rfl ?_
  refine w_cifn (as := [_, _]) (rest := []) rfl rfl rfl rfl rfl rfl rfl rfl (ok_X4_hasEdge _ _ _ _ hS.2.1) rfl (fun h_5 => ?_) (fun h_5 => ?_)
  · refine w_ld rfl rfl ?_
    refine w_getr rfl rfl rfl rfl rfl ?_
    refine w_ld rfl rfl ?_
    have hE10 := hW.2.2.1
    obtain ⟨k, hk, rfl⟩ := inR_ex (by omega) h_5
    have hc : (nI k).toNatClampNeg = k := nI_clamp (by omega)
    obtain ⟨M3, hE18, hS3, hF3⟩ := ok_X4_remove (d + 2) M ML hS hE10 hk hW.2.2.2.1 (WN_b hW)
    refine w_callv (as := [_, _]) (rest := []) rfl rfl rfl rfl rfl rfl rfl rfl hE18 ?_
    refine w_ld rfl rfl ?_
    obtain ⟨_, M4, L4, ⟨rfl, rfl, hF4, hN4⟩, hE22⟩ := ok_X11_renew (d := d) (ML := ML) hS3 (WN_cut hW hk)
    refine w_callv (as := [_]) (rest := []) rfl rfl rfl rfl rfl rfl rfl rfl hE22 ?_
    refine w_ld rfl rfl ?_
    refine w_getr rfl rfl rfl rfl rfl ?_
    refine w_getv rfl rfl rfl rfl rfl (hN4.1.2.1) ?_
    refine w_ret rfl rfl (trivial) ?_
    refine ⟨fun q => absurd (q.symm.trans h_5) Bool.noConfusion, fun _ => ⟨rfl, rfl, ?_, Fr_tr (Fr_mono hF3 (by decide)) (Fr_mono hF4 (by decide))⟩⟩
    rw [hc]
    exact hN4
  · refine w_cst (v := .int (-1)) rfl rfl ?_
    refine w_ret rfl rfl (trivial) ?_
    exact ⟨fun _ => ⟨rfl, rfl, rfl⟩, fun q => absurd (h_5.symm.trans q) Bool.noConfusion⟩

