/-! ===== the reference: free of rounds ===== -/
/-- nodes that are led to from a set by the first e edges -/
def ledB (l h : Nat → Nat) (x : Int32) (L e v : Nat) : Bool := decide (∃ y, y < e ∧ (L.testBit (fr l h x y) = true ∧ to l h x y = v))
def ledM (l h : Nat → Nat) (x : Int32) (L e : Nat) : Nat := msk (ledB l h x L e) 7
theorem led_1 {l h : Nat → Nat} {x : Int32} {L e : Nat} (ht : to l h x e < 7) (hb : L.testBit (fr l h x e) = true) : nI (ledM l h x L e) ||| (1 : Int32) <<< (nI (to l h x e) &&& 31) = nI (ledM l h x L (e + 1)) := by
  rw [shl1 (by omega), orN]
  congr 1
  apply Nat.eq_of_testBit_eq
  intro i
  unfold ledM
  rw [Nat.testBit_or, msk_bit, msk_bit, Nat.testBit_two_pow]
  by_cases hi : to l h x e = i
  · subst hi
    have : ledB l h x L (e + 1) (to l h x e) = true := decide_eq_true ⟨e, by omega, hb, rfl⟩
    simp [ht, this]
  · have : ledB l h x L (e + 1) i = ledB l h x L e i := by
      unfold ledB
      apply decide_eq_decide.mpr
      constructor
      · rintro ⟨y, hy, h1, h2⟩
        by_cases hye : y = e
        · subst hye; exact absurd h2 hi
        · exact ⟨y, by omega, h1, h2⟩
      · rintro ⟨y, hy, h1⟩
        exact ⟨y, by omega, h1⟩
    rw [this]
    simp [hi]
theorem led_0 {l h : Nat → Nat} {x : Int32} {L e : Nat} (hb : L.testBit (fr l h x e) = false) : nI (ledM l h x L e) ||| (0 : Int32) = nI (ledM l h x L (e + 1)) := by
  rw [show (0 : Int32) = nI 0 from rfl, orN, Nat.or_zero]
  congr 1
  apply msk_cong
  intro i _
  unfold ledB
  apply decide_eq_decide.mpr
  constructor
  · rintro ⟨y, hy, h1⟩
    exact ⟨y, by omega, h1⟩
  · rintro ⟨y, hy, h1, h2⟩
    by_cases hye : y = e
    · subst hye; rw [hb] at h1; cases h1
    · exact ⟨y, by omega, h1, h2⟩
theorem led_z (l h : Nat → Nat) (x : Int32) (L : Nat) : ledM l h x L 0 = 0 := msk_zero.mpr fun i _ => decide_eq_false (by rintro ⟨y, hy, -⟩; omega)
def nxL (E : Nat) (l h : Nat → Nat) (x : Int32) (L : Nat) : Nat := L &&& ledM l h x L E
theorem nxL_le {E : Nat} {l h : Nat → Nat} {x : Int32} {L : Nat} : nxL E l h x L ≤ L := Nat.and_le_left
/-- a set that is led to from itself lies within -/
def Wth (E : Nat) (l h : Nat → Nat) (x : Int32) (L : Nat) : Prop := ∀ S : Nat → Prop, (∀ v, S v → v < 7) → (∀ v, S v → ∃ e, e < E ∧ to l h x e = v ∧ S (fr l h x e)) → ∀ v, S v → L.testBit v = true
theorem Wth_nx {E : Nat} {l h : Nat → Nat} {x : Int32} {L : Nat} (q : Wth E l h x L) : Wth E l h x (nxL E l h x L) := fun S h7 hS v hv => by
  obtain ⟨e, he, ht, hf⟩ := hS v hv
  unfold nxL ledM
  rw [Nat.testBit_and, q S h7 hS v hv, msk_bit]
  have : ledB l h x L E v = true := decide_eq_true ⟨e, he, q S h7 hS _ hf, ht⟩
  simp [h7 v hv, this]
theorem Wth_0 {N E A : Nat} {l h : Nat → Nat} (hW : WN N E A l h) {x : Int32} : Wth E l h x (2 ^ N - 1) := fun S h7 hS v hv => by
  obtain ⟨e, he, ht, hf⟩ := hS v hv
  rw [Nat.testBit_two_pow_sub_one]
  have := hW.2.2.2.2 e he
  apply decide_eq_true
  rw [← ht]
  unfold to
  split <;> omega
theorem Wth_free {E : Nat} {l h : Nat → Nat} {x : Int32} (q : Wth E l h x 0) : Free E l h x := fun S h7 hS v hv => by
  have := q S h7 hS v hv
  rw [Nat.zero_testBit] at this
  cases this
theorem fix_free {E : Nat} {l h : Nat → Nat} {x : Int32} {L : Nat} (h0 : L ≠ 0) (q : nxL E l h x L = L) : ¬ Free E l h x := by
  intro hF
  obtain ⟨v, hv⟩ := bit_ex h0
  have hb : ∀ v, L.testBit v = true → v < 7 ∧ ∃ e, e < E ∧ to l h x e = v ∧ L.testBit (fr l h x e) = true := by
    intro v hv
    have h1 : (nxL E l h x L).testBit v = true := by rw [q]; exact hv
    unfold nxL ledM at h1
    rw [Nat.testBit_and, hv, msk_bit] at h1
    simp at h1
    obtain ⟨y, hy, h2, h3⟩ := of_decide_eq_true h1.2
    exact ⟨h1.1, y, hy, h3, h2⟩
  exact hF (fun v => L.testBit v = true) (fun v hv => (hb v hv).1) (fun v hv => (hb v hv).2) v hv

set_option maxHeartbeats 1000000 in
set_option maxRecDepth 10000 in
theorem lp_X12_isFree_24 (d : Nat) (M : Nat → Nat → Int32) (ML : Nat → Nat → Int64) {N E A : Nat} {l h : Nat → Nat} (hS : NM M N E A l h) (hW : WN N E A l h) {x : Int32} {L : Nat} (hL : L < 2 ^ 31) {res : Rt} (hk : RR (d + 2) cd_X12_isFree true res (71, [(0, .ref 73), (1, .int x), (2, .int (nI L)), (3, .int (nI L)), (4, .int (nI (ledM l h x L E)))], [], (SH, M, ML))) :
    ∀ e, e ≤ E → ∀ (y : Int32) (i : Int32), y = nI (ledM l h x L e) → i = nI e → RR (d + 2) cd_X12_isFree true res (24, [(0, .ref 73), (1, .int x), (2, .int ((nI L))), (3, .int ((nI L))), (4, .int y), (5, .int i)], [], (SH, M, ML)) := by
  refine up_ind fun e he ih => ?_
  intro y i hv0 hv1
  subst hv0 hv1
  refine r_ld rfl rfl ?_
  refine r_ld rfl rfl ?_
  refine q_geti rfl rfl rfl rfl rfl ?_
  refine r_cj rfl rfl (fun h_30 => ?_) (fun h_30 => ?_)
  · refine q_keep [0, 1, 2, 3, 4] (L' := [(0, _), (1, _), (2, _), (3, _), (4, _)]) rfl ?_
    have h9 : e = E := by
      have := nle (by have := hW.2.2.1; omega) (by have := hW.2.2.1; omega) (show nI E ≤ nI e by rw [← hS.2.1]; exact h_30)
      omega
    subst h9
    exact hk
  · have hlt : e < E := nnle (by have := hW.2.2.1; omega) (by have := hW.2.2.1; omega) (by rw [← hS.2.1]; exact h_30)
    have hbe := WN_b hW e hlt
    have hfb : fr l h x e < 7 ∧ to l h x e < 7 := by
      unfold fr to
      split
      · exact ⟨hbe.2, hbe.1⟩
      · exact hbe
    refine r_ld rfl rfl ?_
    refine r_ld rfl rfl ?_
    refine r_ld rfl rfl ?_
    refine r_ld rfl rfl ?_
    refine r_ld rfl rfl ?_
    refine q_call (as := [_, _, _]) (rest := [_, _]) rfl rfl rfl rfl rfl rfl rfl rfl (ok_X12_fromOf _ _ _ _ hS hW.2.2.1 hlt) ?_
    refine q_cife (as := [_, _]) (rest := [_]) rfl rfl rfl rfl rfl rfl rfl rfl (ok_X12_has ..) rfl (fun h_43 => ?_) (fun h_43 => ?_)
    · refine r_cst (v := .int 0) rfl rfl ?_
      refine r_bin rfl rfl ?_
      refine r_sto (L' := [(0, _), (1, _), (2, _), (3, _), (4, _), (5, _)]) rfl rfl ?_
      refine q_inc (y := _ + 1) rfl rfl rfl ?_
      refine q_norm (L' := [(0, _), (1, _), (2, _), (3, _), (4, _), (5, _)]) rfl ?_
      refine r_go rfl ?_
      rw [tb_nI hL (by omega)] at h_43
      first
        | exact ih hlt _ _ (led_1 hfb.2 h_43) (nI_1 e)
        | exact ih hlt _ _ (led_0 h_43) (nI_1 e)
    · refine r_cst (v := .int 1) rfl rfl ?_
      refine r_ld rfl rfl ?_
      refine r_ld rfl rfl ?_
      refine r_ld rfl rfl ?_
      refine q_call (as := [_, _, _]) (rest := [_, _]) rfl rfl rfl rfl rfl rfl rfl rfl (ok_X12_toOf _ _ _ _ hS hW.2.2.1 hlt) ?_
      refine r_bin rfl rfl ?_
      refine r_go rfl ?_
      refine r_bin rfl rfl ?_
      refine r_sto (L' := [(0, _), (1, _), (2, _), (3, _), (4, _), (5, _)]) rfl rfl ?_
      refine q_inc (y := _ + 1) rfl rfl rfl ?_
      refine q_norm (L' := [(0, _), (1, _), (2, _), (3, _), (4, _), (5, _)]) rfl ?_
      refine r_go rfl ?_
      rw [tb_nI hL (by omega)] at h_43
      first
        | exact ih hlt _ _ (led_1 hfb.2 h_43) (nI_1 e)
        | exact ih hlt _ _ (led_0 h_43) (nI_1 e)

set_option maxHeartbeats 1000000 in
theorem lp_X12_isFree_x (d : Nat) (M : Nat → Nat → Int32) (ML : Nat → Nat → Int64) {N E A : Nat} {l h : Nat → Nat} (hS : NM M N E A l h) (hW : WN N E A l h) {x : Int32} {res : Rt} (hk : res = (some (.int (b2i (freeB E l h x))), (SH, M, ML))) (L : Nat) (hL : L < 2 ^ 31) (hH : Wth E l h x L) (hq : nxL E l h x L = L) :
    RR (d + 2) cd_X12_isFree true res (11, [(0, .ref 73), (1, .int x), (2, .int (nI L)), (3, .int (nI L))], [], (SH, M, ML)) := by
  refine r_ld rfl rfl ?_
  refine r_ld rfl rfl ?_
  refine q_cjT rfl rfl (rfl) ?_
  refine r_ld rfl rfl ?_
  refine r_cj rfl rfl (fun h_80 => ?_) (fun h_80 => ?_)
  · refine r_cst (v := .int 0) rfl rfl ?_
    refine r_ret rfl rfl (by first | exact rb0 | exact rb1 | exact rbB _) ?_
    rw [hk]
    first
      | (have : L = 0 := neq hL (by decide) (Classical.not_not.mp h_80)
         subst this
         rw [freeT (Wth_free hH)]
         rfl)
      | (rw [freeF (fix_free (fun q => h_80 (by rw [q]; rfl)) hq)]
         rfl)
  · refine r_cst (v := .int 1) rfl rfl ?_
    refine r_go rfl ?_
    refine r_ret rfl rfl (by first | exact rb0 | exact rb1 | exact rbB _) ?_
    rw [hk]
    first
      | (have : L = 0 := neq hL (by decide) (Classical.not_not.mp h_80)
         subst this
         rw [freeT (Wth_free hH)]
         rfl)
      | (rw [freeF (fix_free (fun q => h_80 (by rw [q]; rfl)) hq)]
         rfl)
set_option maxHeartbeats 1000000 in
theorem lp_X12_isFree_11 (d : Nat) (M : Nat → Nat → Int32) (ML : Nat → Nat → Int64) {N E A : Nat} {l h : Nat → Nat} (hS : NM M N E A l h) (hW : WN N E A l h) {x : Int32} {res : Rt} (hk : res = (some (.int (b2i (freeB E l h x))), (SH, M, ML))) :
    ∀ L, L < 2 ^ 31 → Wth E l h x L → ∀ w9, ¬ nI L = w9 → RR (d + 2) cd_X12_isFree true res (11, [(0, .ref 73), (1, .int x), (2, .int (nI L)), (3, .int w9)], [], (SH, M, ML)) := by
  have hx9 := lp_X12_isFree_x d M ML hS hW hk
  intro L
  induction L using Nat.strongRecOn with
  | _ L ih =>
  intro hL hH w9 hne
  refine r_ld rfl rfl ?_
  refine r_ld rfl rfl ?_
  refine q_cjF rfl rfl (fun q => hne q) ?_
  refine r_ld rfl rfl ?_
  refine r_sto (L' := [(0, _), (1, _), (2, _), (3, _)]) rfl rfl ?_
  refine r_cst (v := .int 0) rfl rfl ?_
  refine r_sto (L' := [(0, _), (1, _), (2, _), (3, _), (4, _)]) rfl rfl ?_
  refine r_cst (v := .int 0) rfl rfl ?_
  refine r_sto (L' := [(0, _), (1, _), (2, _), (3, _), (4, _), (5, _)]) rfl rfl ?_
  refine lp_X12_isFree_24 d M ML hS hW hL ?_ 0 (Nat.zero_le _) _ _ (by rw [led_z]; rfl) rfl
  refine r_ld rfl rfl ?_
  refine r_ld rfl rfl ?_
  refine r_bin rfl rfl ?_
  refine r_sto (L' := [(0, _), (1, _), (2, _), (3, _), (4, _)]) rfl rfl ?_
  refine r_go rfl ?_
  refine q_keep [0, 1, 2, 3] (L' := [(0, _), (1, _), (2, _), (3, _)]) rfl ?_
  rw [show nI L &&& nI (ledM l h x L E) = nI (nxL E l h x L) from andN]
  by_cases hq : nxL E l h x L = L
  · rw [hq]
    exact hx9 _ hL hH hq
  · have hlt : nxL E l h x L < L := by have := nxL_le (E := E) (l := l) (h := h) (x := x) (L := L); omega
    exact ih _ hlt (by omega) (Wth_nx hH) _ (fun q => hq (neq (by omega) hL q))

set_option maxHeartbeats 1000000 in
set_option maxRecDepth 10000 in
theorem ok_X12_isFree (d : Nat) (M : Nat → Nat → Int32) (ML : Nat → Nat → Int64) {x : Int32} {N E A : Nat} {l h : Nat → Nat} (hS : NM M N E A l h) (hW : WN N E A l h) : Ex (d + 3) k_X12_isFree [.ref 73, .int x] (SH, M, ML) (some (.int (b2i (freeB E l h x))), (SH, M, ML)) := by
  refine Ex_in mi_X12_isFree rfl rfl ⟨Nat.le_refl _, Nat.le_refl _⟩ ?_
  show RR _ cd_X12_isFree true _ (0, [(0, .ref 73), (1, .int x)], [], (SH, M, ML))
  refine r_cst (v := .int 1) rfl rfl ?_
  refine r_ld rfl rfl ?_
  refine q_geti rfl rfl rfl rfl rfl ?_
  refine r_bin rfl rfl ?_
  refine r_cst (v := .int 1) rfl rfl ?_
  refine r_bin rfl rfl ?_
  refine r_sto (L' := [(0, _), (1, _), (2, _)]) rfl rfl ?_
  refine r_cst (v := .int 0) rfl rfl ?_
  refine r_sto (L' := [(0, _), (1, _), (2, _), (3, _)]) rfl rfl ?_
  have hN := hW.2.1
  have e9 : (1 : Int32) <<< (M 73 0 &&& 31) - 1 = nI (2 ^ N - 1) := by
    rw [hS.1, shl1 (by omega), show (1 : Int32) = nI 1 from rfl, pk_sub (Nat.one_le_two_pow)]
  rw [e9]
  have h7 := p2 hN
  have h1 := p2 hW.1
  exact lp_X12_isFree_11 d M ML hS hW rfl _ (by omega) (Wth_0 hW) _ (fun q => by have := neq (b := 0) (by omega) (by decide) q; omega)

