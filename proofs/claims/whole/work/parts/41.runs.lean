/-! ===== runs ===== -/
theorem NS_cong {M M' : Mm} {N E A : Nat} {l h : Nat → Nat} (hS : NS M 2 3 4 5 6 N E A l h) (e : ∀ x, 2 ≤ x → x ≤ 6 → M' x = M x) : NS M' 2 3 4 5 6 N E A l h := by
  unfold NS
  rw [e 2 (by decide) (by decide), e 3 (by decide) (by decide), e 4 (by decide) (by decide), e 5 (by decide) (by decide), e 6 (by decide) (by decide)]
  exact hS
theorem NS_Fr {M M' : Mm} {S : List Nat} {N E A : Nat} {l h : Nat → Nat} (hS : NS M 2 3 4 5 6 N E A l h) (f : Fr S M M') (hd : ∀ x ∈ S, 6 < x) : NS M' 2 3 4 5 6 N E A l h :=
  NS_cong hS (fun x _ h6 => f x (fun q => absurd (hd x q) (by omega)))
theorem tmk_lt {E : Nat} {l h : Nat → Nat} (hE : E ≤ 10) (v : Nat) : tmk E l h v < 2048 := Nat.lt_of_lt_of_le (msk_lt _ E) (Nat.le_trans (p2 hE) (by decide))
theorem tmk_ltE {E : Nat} {l h : Nat → Nat} (v : Nat) : tmk E l h v < 2 ^ E := msk_lt _ E
theorem xor_ltE {E a t : Nat} (ha : a < 2 ^ E) (ht : t < 2 ^ E) : a ^^^ t < 2 ^ E := Nat.xor_lt_two_pow ha ht
theorem ends_lt {N E A : Nat} {l h : Nat → Nat} (hW : WN N E A l h) (x : Int32) (s : Bool) : endsM E l h x s < 2 ^ N := by
  rw [← endsM_N hW x s]
  exact msk_lt _ N
theorem popc_le (n : Nat) : popc n ≤ 12 := by
  unfold popc
  exact Nat.le_trans List.countP_le_length (by rw [List.length_range]; exact Nat.le_refl _)
theorem hv_cong {n : Nat} {w w' : Nat → Int32} : ∀ e, (∀ i, i < e → w i = w' i) → hv n w e = hv n w' e
  | 0, _ => rfl
  | e + 1, q => by
    have ih := hv_cong (n := n) (w := w) (w' := w') e (fun i hi => q i (by omega))
    rw [hv, hv, ih, q e (Nat.lt_succ_self e)]
theorem pick_cong {k b n N : Nat} {wd wo wo' : Nat → Int32} (q : ∀ i, i < N → wo i = wo' i) : pick k b n N wd wo = pick k b n N wd wo' := by
  have h1 : hv n wo N = hv n wo' N := hv_cong N q
  have h2 : hv n (fun e => -(wo e)) N = hv n (fun e => -(wo' e)) N := hv_cong N (fun i hi => by rw [q i hi])
  unfold pick
  rw [h1, h2]
theorem msb_ok : ∀ n, n < 128 → msb n < 7 := by decide +kernel
theorem pick_lt {k b n N : Nat} {wd wo : Nat → Int32} (hn : n < 2 ^ N) (hN : N ≤ 7) (h0 : 0 < n) (hb : b < 7) : pick k b n N wd wo < 7 := by
  have hnn : n < 128 := Nat.lt_of_lt_of_le hn (Nat.pow_le_pow_right (by decide) hN)
  have hg : ∀ w, (hv n w N).1 < 128 ∧ 0 < (hv n w N).1 := fun w => ⟨Nat.lt_of_lt_of_le (hv_lt n w N) (Nat.pow_le_pow_right (by decide) hN), Nat.pos_of_ne_zero (hv_pos N (by rw [Nat.mod_eq_of_lt hn]; omega))⟩
  unfold pick
  split
  · exact lsb_ok _ hnn h0
  · exact msb_ok _ hnn
  · exact lsb_ok _ (lfr_ok _ hnn h0 _ hb).2 (lfr_ok _ hnn h0 _ hb).1
  · exact msb_ok _ (hg _).1
  · exact lsb_ok _ (lfr_ok _ (hg _).1 (hg _).2 _ hb).2 (lfr_ok _ (hg _).1 (hg _).2 _ hb).1
  · exact msb_ok _ (hg _).1
/-- the node a run fires at a state: arrows, what was fired so far, behind how many it was first as at the start -/
def rnV (k b N E : Nat) (l h : Nat → Nat) (s : Nat × List Nat × Nat) : Nat := pick k b (endsM E l h (nI s.1) true) N (fun e => nI (popc (tmk E l h e))) (fun e => nI (s.2.1.count e))
def rnT (k b N A E : Nat) (l h : Nat → Nat) (s : Nat × List Nat × Nat) : Nat × List Nat × Nat :=
  (s.1 ^^^ tmk E l h (rnV k b N E l h s), s.2.1 ++ [rnV k b N E l h s], if s.2.2 = 0 ∧ s.1 ^^^ tmk E l h (rnV k b N E l h s) = A then s.2.1.length + 1 else s.2.2)
def rnS (k b N A E : Nat) (l h : Nat → Nat) : Nat → Nat × List Nat × Nat
  | 0 => (A, [], 0)
  | n + 1 => if endsM E l h (nI (rnS k b N A E l h n).1) true = 0 then rnS k b N A E l h n else rnT k b N A E l h (rnS k b N A E l h n)
theorem rnS_z {k b N A E : Nat} {l h : Nat → Nat} {n : Nat} (q : endsM E l h (nI (rnS k b N A E l h n).1) true = 0) : rnS k b N A E l h (n + 1) = rnS k b N A E l h n := if_pos q
theorem rnS_s {k b N A E : Nat} {l h : Nat → Nat} {n : Nat} (q : ¬ endsM E l h (nI (rnS k b N A E l h n).1) true = 0) : rnS k b N A E l h (n + 1) = rnT k b N A E l h (rnS k b N A E l h n) := if_neg q
theorem rnS_stuck {k b N A E : Nat} {l h : Nat → Nat} {n : Nat} (q : endsM E l h (nI (rnS k b N A E l h n).1) true = 0) : ∀ j, rnS k b N A E l h (n + j) = rnS k b N A E l h n
  | 0 => rfl
  | j + 1 => by
    have ih := rnS_stuck q j
    rw [← Nat.add_assoc, rnS_z (by rw [ih]; exact q), ih]
/-- what holds of a run's state -/
def rnG (E : Nat) (n : Nat) (s : Nat × List Nat × Nat) : Prop := s.1 < 2 ^ E ∧ s.2.1.length ≤ n ∧ s.2.2 ≤ n ∧ ∀ v ∈ s.2.1, v < 7
theorem rnS_ok {k b N A E : Nat} {l h : Nat → Nat} (hW : WN N E A l h) (hb : b < 7) : ∀ n, rnG E n (rnS k b N A E l h n)
  | 0 => ⟨hW.2.2.2.1, Nat.le_refl _, Nat.le_refl _, fun v hv => absurd hv List.not_mem_nil⟩
  | n + 1 => by
    obtain ⟨h1, h2, h3, h4⟩ := rnS_ok (k := k) hW hb n
    by_cases q : endsM E l h (nI (rnS k b N A E l h n).1) true = 0
    · rw [rnS_z q]
      exact ⟨h1, by omega, by omega, h4⟩
    · rw [rnS_s q]
      have hv : rnV k b N E l h (rnS k b N A E l h n) < 7 := pick_lt (ends_lt hW _ _) hW.2.1 (Nat.pos_of_ne_zero q) hb
      refine ⟨xor_ltE h1 (tmk_ltE _), ?_, ?_, ?_⟩
      · show (_ ++ [_]).length ≤ _
        rw [List.length_append]
        show _ + 1 ≤ _
        omega
      · show (if _ then _ else _) ≤ _
        split
        · exact Nat.succ_le_succ h2
        · exact Nat.le_succ_of_le h3
      · intro v hm
        rcases List.mem_append.mp hm with q1 | q1
        · exact h4 v q1
        · rw [List.mem_singleton.mp q1]
          exact hv
theorem cnt_le (L : List Nat) (v n : Nat) (h : L.length ≤ n) : L.count v ≤ n := Nat.le_trans List.count_le_length h
theorem cnt_app (L : List Nat) (u v : Nat) : (L ++ [u]).count v = L.count v + (if v = u then 1 else 0) := by
  rw [List.count_append, List.count_singleton]
  by_cases q : v = u
  · rw [if_pos q, if_pos (by simp [q])]
  · rw [if_neg q, if_neg (by simpa using fun h => q h.symm)]
theorem gt41 {n : Nat} (h : n ≤ 40) : (-41 : Int32) < nI n := by
  rw [Int32.lt_iff_toInt_lt, nI_toInt (by omega)]
  have : (-41 : Int32).toInt = -41 := by decide
  omega
theorem gt41n {n : Nat} (h : n ≤ 40) : (-41 : Int32) < -(nI n) := by
  have e : (-(nI n)).toInt = -(n : Int) := by
    rw [fb_negI (by rw [nI_toInt (by omega)]; omega), nI_toInt (by omega)]
  have : (-41 : Int32).toInt = -41 := by decide
  rw [Int32.lt_iff_toInt_lt, e]
  omega
/-- the state of a run in the class's cells -/
def RC (M : Mm) (s : Nat × List Nat × Nat) : Prop := M 44 0 = nI s.1 ∧ M 44 1 = nI s.2.1.length ∧ M 44 2 = nI s.2.2 ∧ (∀ k, (h : k < s.2.1.length) → M 45 k = nI (s.2.1[k])) ∧ ∀ v, v < 7 → M 46 v = nI (s.2.1.count v)

theorem ok_X7_choose (d : Nat) (M : Mm) (ML : Ml) {E : Nat} {l h : Nat → Nat} (hT : ∀ v, v < 7 → M 5 v = nI (tmk E l h v) ∧ tmk E l h v < 2048) {N n b : Nat} (hN : M 2 0 = nI N) (hN7 : N ≤ 7) (hn : n < 2 ^ N) (h0 : 0 < n) (hb : b < 7) (h46 : ∀ e, e < N → (-41 : Int32) < M 46 e) (h46n : ∀ e, e < N → (-41 : Int32) < -(M 46 e)) (h4p : ∀ e, e < N → (-41 : Int32) < nI (popc (tmk E l h e))) {k : Nat} (hk : k < 6) : Ex (d + 4) k_X7_choose [.ref 44, .ref 2, .int (nI k), .int (nI b), .int (nI n)] (SH, M, ML) (some (.int (nI (pick k b n N (fun e => nI (popc (tmk E l h e))) (M 46)))), (SH, M, ML)) := by
  match k, hk with
  | 0, _ => exact ok_X7_choose_0 d M ML hT hN hN7 hn h0 hb h46 h46n h4p
  | 1, _ => exact ok_X7_choose_1 d M ML hT hN hN7 hn h0 hb h46 h46n h4p
  | 2, _ => exact ok_X7_choose_2 d M ML hT hN hN7 hn h0 hb h46 h46n h4p
  | 3, _ => exact ok_X7_choose_3 d M ML hT hN hN7 hn h0 hb h46 h46n h4p
  | 4, _ => exact ok_X7_choose_4 d M ML hT hN hN7 hn h0 hb h46 h46n h4p
  | 5, _ => exact ok_X7_choose_5 d M ML hT hN hN7 hn h0 hb h46 h46n h4p
  | n + 6, q => exact absurd q (by omega)
theorem ok_X12_chooses (d : Nat) (M : Mm) (ML : Ml) {E A : Nat} {l h : Nat → Nat} {N n b i : Nat} (hS : NM M N E A l h) (hW : WN N E A l h) (hi : i < 4) (hm : M 79 i = nI b) (hn : n < 2 ^ N) (h0 : 0 < n) (hb : b < 7) (ht : ∀ e, e < N → tmk E l h e < 2048) {k : Nat} (hk : k < 6) (hk2 : M 78 i = nI k) : Ex (d + 4) k_X12_chooses [.ref 73, .int (nI i), .int (nI n)] (SH, M, ML) (some (.int (nI (pick k b n N (fun e => nI (popc (tmk E l h e))) (M 97)))), (SH, M, ML)) := by
  match k, hk with
  | 0, _ => exact ok_X12_chooses_0 d M ML hS hW hi hm hn h0 hb ht hk2
  | 1, _ => exact ok_X12_chooses_1 d M ML hS hW hi hm hn h0 hb ht hk2
  | 2, _ => exact ok_X12_chooses_2 d M ML hS hW hi hm hn h0 hb ht hk2
  | 3, _ => exact ok_X12_chooses_3 d M ML hS hW hi hm hn h0 hb ht hk2
  | 4, _ => exact ok_X12_chooses_4 d M ML hS hW hi hm hn h0 hb ht hk2
  | 5, _ => exact ok_X12_chooses_5 d M ML hS hW hi hm hn h0 hb ht hk2
  | n + 6, q => exact absurd q (by omega)
theorem RC_step {M : Mm} {k b N A E : Nat} {l h : Nat → Nat} {s : Nat × List Nat × Nat} {v : Nat} (hv : rnV k b N E l h s = v) (hv7 : v < 7) (hR : RC M s) (h31 : s.1 ^^^ tmk E l h v < 2 ^ 31) (hA31 : A < 2 ^ 31) (hs31 : s.2.2 < 2 ^ 31) :
    (¬ (M 44 2 = 0 ∧ nI (s.1 ^^^ tmk E l h v) = nI A) → RC (up2 (up2 (up2 (up2 M 44 0 (nI (s.1 ^^^ tmk E l h v))) 45 s.2.1.length (nI v)) 46 v (nI (s.2.1.count v + 1))) 44 1 (nI (s.2.1.length + 1))) (rnT k b N A E l h s)) ∧
    (M 44 2 = 0 ∧ nI (s.1 ^^^ tmk E l h v) = nI A → RC (up2 (up2 (up2 (up2 (up2 M 44 0 (nI (s.1 ^^^ tmk E l h v))) 45 s.2.1.length (nI v)) 46 v (nI (s.2.1.count v + 1))) 44 1 (nI (s.2.1.length + 1))) 44 2 (nI (s.2.1.length + 1))) (rnT k b N A E l h s)) := by
  obtain ⟨a1, a2, a3, a4, a5⟩ := hR
  have hlen : (s.2.1 ++ [v]).length = s.2.1.length + 1 := by rw [List.length_append]; rfl
  have hfd : ∀ (X : Mm), (∀ k, k ≠ s.2.1.length → X 45 k = M 45 k) → X 45 s.2.1.length = nI v → ∀ k, (h : k < (s.2.1 ++ [v]).length) → X 45 k = nI ((s.2.1 ++ [v])[k]) := fun X x1 x2 k hk => by
    by_cases q : k < s.2.1.length
    · rw [List.getElem_append_left q, x1 k (by omega)]
      exact a4 k q
    · have e : k = s.2.1.length := by omega
      subst e
      rw [x2, List.getElem_append_right (Nat.le_refl _)]
      simp
  have hof : ∀ (X : Mm), (∀ u, u ≠ v → X 46 u = M 46 u) → X 46 v = nI (s.2.1.count v + 1) → ∀ u, u < 7 → X 46 u = nI ((s.2.1 ++ [v]).count u) := fun X x1 x2 u hu => by
    rw [cnt_app]
    by_cases q : u = v
    · rw [q, x2, if_pos rfl]
    · rw [x1 u q, if_neg q]
      exact a5 u hu
  have h3 : (M 44 2 = 0 ∧ nI (s.1 ^^^ tmk E l h v) = nI A) ↔ (s.2.2 = 0 ∧ s.1 ^^^ tmk E l h v = A) := by
    rw [a3, nI_e0 hs31]
    exact ⟨fun q => ⟨q.1, neq h31 hA31 q.2⟩, fun q => ⟨q.1, by rw [q.2]⟩⟩
  have hT : rnT k b N A E l h s = (s.1 ^^^ tmk E l h v, s.2.1 ++ [v], if s.2.2 = 0 ∧ s.1 ^^^ tmk E l h v = A then s.2.1.length + 1 else s.2.2) := by
    unfold rnT
    rw [hv]
  rw [hT]
  constructor
  · intro q
    refine ⟨?_, ?_, ?_, ?_, ?_⟩
    · rw [up2_k (by decide), up2_row (by decide), up2_row (by decide), up2_e]
    · rw [up2_e]
      show _ = nI (s.2.1 ++ [v]).length
      rw [hlen]
    · rw [up2_k (by decide), up2_row (by decide), up2_row (by decide), up2_k (by decide), a3]
      show nI s.2.2 = nI (if _ then _ else _)
      rw [if_neg (fun r => q (h3.mpr r))]
    · exact hfd _ (fun k hk => by rw [up2_row (by decide), up2_row (by decide), up2_k hk, up2_row (by decide)]) (by rw [up2_row (by decide), up2_row (by decide), up2_e])
    · exact hof _ (fun k hk => by rw [up2_row (by decide), up2_k hk, up2_row (by decide), up2_row (by decide)]) (by rw [up2_row (by decide), up2_e])
  · intro q
    refine ⟨?_, ?_, ?_, ?_, ?_⟩
    · rw [up2_k (by decide), up2_k (by decide), up2_row (by decide), up2_row (by decide), up2_e]
    · rw [up2_k (by decide), up2_e]
      show _ = nI (s.2.1 ++ [v]).length
      rw [hlen]
    · rw [up2_e]
      show _ = nI (if _ then _ else _)
      rw [if_pos (h3.mp q)]
    · exact hfd _ (fun k hk => by rw [up2_row (by decide), up2_row (by decide), up2_row (by decide), up2_k hk, up2_row (by decide)]) (by rw [up2_row (by decide), up2_row (by decide), up2_row (by decide), up2_e])
    · exact hof _ (fun k hk => by rw [up2_row (by decide), up2_row (by decide), up2_k hk, up2_row (by decide), up2_row (by decide)]) (by rw [up2_row (by decide), up2_row (by decide), up2_e])
/-- one firing in thought -/
theorem ok_fireThought {d : Nat} {M : Mm} {ML : Ml} {k b N A E : Nat} {l h : Nat → Nat} (hS : NS M 2 3 4 5 6 N E A l h) (hW : WN N E A l h) {s : Nat × List Nat × Nat} {v e : Nat} (he : e < 40) (hG : rnG E e s) (hv : rnV k b N E l h s = v) (hv7 : v < 7) (hR : RC M s) : EX (d + 3) k_X7_fireThought [.ref 44, .ref 2, .int (nI v)] M ML (fun r M2 L2 => r = none ∧ L2 = ML ∧ Fr [44, 45, 46] M M2 ∧ RC M2 (rnT k b N A E l h s)) := by
  have hE := hW.2.2.1
  have h31 : s.1 ^^^ tmk E l h v < 2 ^ 31 := Nat.lt_of_lt_of_le (xor_ltE hG.1 (tmk_ltE _)) (Nat.le_trans (p2 hE) (by decide))
  have hA31 : A < 2 ^ 31 := Nat.lt_of_lt_of_le hW.2.2.2.1 (Nat.le_trans (p2 hE) (by decide))
  have hs31 : s.2.2 < 2 ^ 31 := by have := hG.2.2.1; omega
  have hc : s.2.1.length < 40 := by have := hG.2.1; omega
  have ho : s.2.1.count v < 40 := Nat.lt_of_le_of_lt List.count_le_length hc
  have hst := RC_step (A := A) hv hv7 hR h31 hA31 hs31
  by_cases q : M 44 2 = 0 ∧ nI (s.1 ^^^ tmk E l h v) = nI A
  · refine EX_of (ok_X7_fireThought_s d M ML hv7 hc ho hR.1 (hS.2.2.2.2 v hv7).1 hR.2.1 (hR.2.2.2.2 v hv7) (by rw [hS.2.2.1]; exact q)) ⟨rfl, rfl, ?_, hst.2 q⟩
    exact Fr_up (by decide) (Fr_up (by decide) (Fr_up (by decide) (Fr_up (by decide) (Fr_up (by decide) Fr_rf))))
  · refine EX_of (ok_X7_fireThought_k d M ML hv7 hc ho hR.1 (hS.2.2.2.2 v hv7).1 hR.2.1 (hR.2.2.2.2 v hv7) (by rw [hS.2.2.1]; exact q)) ⟨rfl, rfl, ?_, hst.1 q⟩
    exact Fr_up (by decide) (Fr_up (by decide) (Fr_up (by decide) (Fr_up (by decide) Fr_rf)))

set_option maxHeartbeats 1000000 in
set_option maxRecDepth 10000 in
theorem lp_X7_go_48 {d : Nat} {M : Mm} {ML : Ml} {k b n N E A : Nat} {l h : Nat → Nat} (hS : NS M 2 3 4 5 6 N E A l h) (hW : WN N E A l h) (hk : k < 6) (hb : b < 7) (hn : n ≤ 40) : ∀ e, e ≤ n → ∀ M', Fr [44, 45, 46] M M' → RC M' (rnS k b N A E l h e) → WP (d + 4) cd_X7_go false (fun r M2 L2 => r = none ∧ L2 = ML ∧ Fr [44, 45, 46] M M2 ∧ RC M2 (rnS k b N A E l h n)) (48, [(0, .ref 44), (1, .ref 2), (2, .int (nI k)), (3, .int (nI b)), (4, .int (nI n)), (5, .int (nI e))], [], (SH, M', ML)) := by
  refine up_ind fun e he ih => ?_
  intro M' hF hR
  have hG := rnS_ok (k := k) hW hb e
  have hS' := NS_Fr hS hF (by decide)
  have h2048 : ∀ v, tmk E l h v < 2048 := tmk_lt hW.2.2.1
  have ha31 : (rnS k b N A E l h e).1 < 2 ^ 31 := Nat.lt_of_lt_of_le hG.1 (Nat.le_trans (p2 hW.2.2.1) (by decide))
  refine w_ld rfl rfl ?_
  refine w_ld rfl rfl ?_
  refine w_cj rfl rfl (fun h_52 => ?_) (fun h_52 => ?_)
  · have h9 : e = n := by have := nle (by omega) (by omega) h_52; omega
    subst h9
    refine w_ret rfl rfl (trivial) ?_
    exact ⟨rfl, rfl, hF, hR⟩
  · have hlt : e < n := nnle (by omega) (by omega) h_52
    refine w_ld rfl rfl ?_
    refine w_ld rfl rfl ?_
    refine w_getv rfl rfl rfl rfl rfl (hR.1) ?_
    refine w_call (as := [_, _]) (rest := []) rfl rfl rfl rfl rfl rfl rfl rfl (ok_sources _ _ _ _ hS' hW) ?_
    refine w_sto (L' := [(0, _), (1, _), (2, _), (3, _), (4, _), (5, _), (6, _)]) rfl rfl ?_
    refine w_ld rfl rfl ?_
    refine w_cj rfl rfl (fun h_67 => ?_) (fun h_67 => ?_)
    · have hN7 : N ≤ 7 := hW.2.1
      have hlen := hG.2.1
      have hne : ¬ endsM E l h (nI (rnS k b N A E l h e).1) true = 0 := fun q => h_67 (by rw [q]; rfl)
      refine w_ld rfl rfl ?_
      refine w_ld rfl rfl ?_
      refine w_ld rfl rfl ?_
      refine w_ld rfl rfl ?_
      refine w_ld rfl rfl ?_
      refine w_ld rfl rfl ?_
      refine w_ld rfl rfl ?_
      refine w_call (as := [_, _, _, _, _]) (rest := [_, _]) rfl rfl rfl rfl rfl rfl rfl rfl (ok_X7_choose _ _ _ (fun v hv => ⟨(hS'.2.2.2.2 v hv).1, h2048 v⟩) hS'.1 hW.2.1 (ends_lt hW _ _) (Nat.pos_of_ne_zero hne) hb (fun e' h' => by rw [hR.2.2.2.2 e' (by omega)]; exact gt41 (cnt_le _ _ _ (by omega))) (fun e' h' => by rw [hR.2.2.2.2 e' (by omega)]; exact gt41n (cnt_le _ _ _ (by omega))) (fun e' h' => gt41 (Nat.le_trans (popc_le _) (by decide))) hk) ?_
      rw [show pick k b (endsM E l h (nI (rnS k b N A E l h e).1) true) N (fun e => nI (popc (tmk E l h e))) (M' 46) = rnV k b N E l h (rnS k b N A E l h e) from pick_cong (fun i hi => hR.2.2.2.2 i (by omega))]
      have hv7 : rnV k b N E l h (rnS k b N A E l h e) < 7 := pick_lt (ends_lt hW _ _) hW.2.1 (Nat.pos_of_ne_zero hne) hb
      obtain ⟨_, M3, L3, ⟨rfl, rfl, hF2, hR2⟩, hE82⟩ := ok_fireThought (d := d + 1) (ML := ML) hS' hW (by omega) hG rfl hv7 hR
      refine w_callv (as := [_, _, _]) (rest := []) rfl rfl rfl rfl rfl rfl rfl rfl hE82 ?_
      refine w_inc (y := _ + 1) rfl rfl rfl ?_
      refine w_norm (L' := [(0, _), (1, _), (2, _), (3, _), (4, _), (5, _), (6, _)]) rfl ?_
      refine w_go rfl ?_
      refine w_keep [0, 1, 2, 3, 4, 5] (L' := [(0, _), (1, _), (2, _), (3, _), (4, _), (5, _)]) rfl ?_
      rw [nI_1]
      exact ih hlt _ (Fr_tr hF hF2) (by rw [rnS_s hne]; exact hR2)
    · refine w_ret rfl rfl (trivial) ?_
      have hz : endsM E l h (nI (rnS k b N A E l h e).1) true = 0 := (nI_e0 endsM_b).mp (Classical.not_not.mp h_67)
      have h9 := rnS_stuck hz (n - e)
      rw [show e + (n - e) = n by omega] at h9
      exact ⟨rfl, rfl, hF, by rw [h9]; exact hR⟩

set_option maxHeartbeats 1000000 in
set_option maxRecDepth 10000 in
theorem lp_X7_go_21 {d : Nat} {M : Mm} {ML : Ml} {k b n N E A : Nat} {l h : Nat → Nat} (hS : NS M 2 3 4 5 6 N E A l h) (hW : WN N E A l h) (hk : k < 6) (hb : b < 7) (hn : n ≤ 40) : ∀ e, e ≤ 7 → ∀ M', Fr [44, 45, 46] M M' → M' 44 0 = nI A → M' 44 1 = 0 → M' 44 2 = 0 → (∀ v, v < e → M' 46 v = 0) → WP (d + 4) cd_X7_go false (fun r M2 L2 => r = none ∧ L2 = ML ∧ Fr [44, 45, 46] M M2 ∧ RC M2 (rnS k b N A E l h n)) (21, [(0, .ref 44), (1, .ref 2), (2, .int (nI k)), (3, .int (nI b)), (4, .int (nI n)), (5, .int (nI e))], [], (SH, M', ML)) := by
  refine up_ind fun e he ih => ?_
  intro M' hF h0 h1 h2 h3
  refine w_ld rfl rfl ?_
  refine w_ld rfl rfl ?_
  refine w_getr rfl rfl rfl rfl rfl ?_
  refine w_len rfl rfl rfl rfl ?_
  refine w_cj rfl rfl (fun h_28 => ?_) (fun h_28 => ?_)
  · have h9 : e = 7 := by have := nle (by decide) (by omega) h_28; omega
    subst h9
    refine w_cst (v := .int 0) rfl rfl ?_
    refine w_sto (L' := [(0, _), (1, _), (2, _), (3, _), (4, _), (5, _)]) rfl rfl ?_
    exact lp_X7_go_48 hS hW hk hb hn 0 (Nat.zero_le _) _ hF ⟨h0, h1, h2, fun k hk => absurd hk (Nat.not_lt_zero k), fun v hv => h3 v hv⟩
  · have hlt : e < 7 := nnle (by decide) (by omega) h_28
    refine w_ld rfl rfl ?_
    refine w_getr rfl rfl rfl rfl rfl ?_
    refine w_ld rfl rfl ?_
    refine w_cst (v := .int 0) rfl rfl ?_
    refine w_sin rfl rfl rfl (rfl) (by omega) rfl ?_
    refine w_inc (y := _ + 1) rfl rfl rfl ?_
    refine w_norm (L' := [(0, _), (1, _), (2, _), (3, _), (4, _), (5, _)]) rfl ?_
    refine w_go rfl ?_
    rw [nI_1]
    refine ih hlt _ (Fr_up (by decide) hF) (by rw [up2_row (by decide)]; exact h0) (by rw [up2_row (by decide)]; exact h1) (by rw [up2_row (by decide)]; exact h2) (fun v hv => ?_)
    by_cases q : v = e
    · rw [q, up2_e]
    · rw [up2_k q]
      exact h3 v (by omega)

set_option maxHeartbeats 1000000 in
set_option maxRecDepth 10000 in
theorem ok_X7_go {d : Nat} {M : Mm} {ML : Ml} {k b n N E A : Nat} {l h : Nat → Nat} (hS : NS M 2 3 4 5 6 N E A l h) (hW : WN N E A l h) (hk : k < 6) (hb : b < 7) (hn : n ≤ 40) : EX (d + 5) k_X7_go [.ref 44, .ref 2, .int (nI k), .int (nI b), .int (nI n)] M ML (fun r M2 L2 => r = none ∧ L2 = ML ∧ Fr [44, 45, 46] M M2 ∧ RC M2 (rnS k b N A E l h n)) := by
  refine EX_in mi_X7_go rfl rfl ?_
  show WP _ cd_X7_go false _ (0, [(0, .ref 44), (1, .ref 2), (2, .int (nI k)), (3, .int (nI b)), (4, .int (nI n))], [], (SH, M, ML))
  refine w_ld rfl rfl ?_
  refine w_ld rfl rfl ?_
  refine w_getv rfl rfl rfl rfl rfl (hS.2.2.1) ?_
  refine w_put rfl rfl rfl rfl rfl (Or.inl rfl) ?_
  refine w_ld rfl rfl ?_
  refine w_cst (v := .int 0) rfl rfl ?_
  refine w_put rfl rfl rfl rfl rfl (Or.inl rfl) ?_
  refine w_ld rfl rfl ?_
  refine w_cst (v := .int 0) rfl rfl ?_
  refine w_put rfl rfl rfl rfl rfl (Or.inl rfl) ?_
  refine w_cst (v := .int 0) rfl rfl ?_
  refine w_sto (L' := [(0, _), (1, _), (2, _), (3, _), (4, _), (5, _)]) rfl rfl ?_
  exact lp_X7_go_21 hS hW hk hb hn 0 (Nat.zero_le _) _ (Fr_up (by decide) (Fr_up (by decide) (Fr_up (by decide) Fr_rf))) (by rw [up2_k (by decide), up2_k (by decide), up2_e]) (by rw [up2_k (by decide), up2_e]) up2_e (fun v hv => absurd hv (Nat.not_lt_zero v))

