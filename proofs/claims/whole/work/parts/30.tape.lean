/-! ===== the tape ===== -/
/-- the tape in its cells -/
def TS (c : Int32) (f : Nat → Int32) (B : List Int32) : Prop := c = nI B.length ∧ B.length ≤ 40 ∧ ∀ k x, B[k]? = some x → (∃ j, j < 256 ∧ x = nI j) ∧ f k = x
theorem TS_0 (f : Nat → Int32) : TS 0 f [] := ⟨rfl, Nat.zero_le _, fun k v h => by simp at h⟩
/-- the byte e of a word -/
def byt (x : Int32) (e : Nat) : Int32 := (x >>> (8 * nI e &&& 31)) &&& 255
theorem and255 (y : Int32) : ∃ j, j < 256 ∧ y &&& 255 = nI j := by
  refine ⟨(y &&& 255).toBitVec.toNat, ?_, ?_⟩
  · have h : (y &&& 255).toBitVec.toNat = y.toBitVec.toNat &&& 255 := by
      rw [Int32.toBitVec_and, BitVec.toNat_and]; rfl
    rw [h]
    exact Nat.lt_of_le_of_lt Nat.and_le_right (by decide)
  · apply Int32.toBitVec_inj.mp
    apply BitVec.eq_of_toNat_eq
    show _ = (BitVec.ofNat 32 _).toNat
    rw [BitVec.toNat_ofNat]
    exact (Nat.mod_eq_of_lt (y &&& 255).toBitVec.isLt).symm
/-- the bytes that feed lays, highest first -/
def feedL (x : Int32) : Nat → List Int32
  | 0 => []
  | e + 1 => byt x e :: feedL x e
theorem feedL_len (x : Int32) : ∀ e, (feedL x e).length = e
  | 0 => rfl
  | e + 1 => by rw [feedL, List.length_cons, feedL_len x e]
theorem TS_add {f f' : Nat → Int32} {c c' : Int32} {B : List Int32} {x : Int32} (h : TS c f B) (hn : B.length < 40) (hx : ∃ j, j < 256 ∧ x = nI j) (hc : c' = nI (B.length + 1)) (hf : f' = upd f B.length x) : TS c' f' (B ++ [x]) := by
  obtain ⟨-, h2, h3⟩ := h
  subst hc hf
  refine ⟨by simp, by simp; omega, fun k v' hk => ?_⟩
  rcases Nat.lt_trichotomy k B.length with hl | hl | hl
  · rw [List.getElem?_append_left hl] at hk
    have := h3 k v' hk
    unfold upd
    rw [if_neg (by omega)]
    exact this
  · subst hl
    rw [List.getElem?_append_right (Nat.le_refl _), Nat.sub_self] at hk
    cases hk
    unfold upd
    rw [if_pos rfl]
    exact ⟨hx, rfl⟩
  · rw [List.getElem?_append_right (by omega)] at hk
    have : k - B.length ≠ 0 := by omega
    cases hq : k - B.length with
    | zero => omega
    | succ n => rw [hq] at hk; simp at hk
theorem nI_pm (e : Nat) : nI e + (-1) = nI e - 1 := (Int32.sub_eq_add_neg ..).symm

set_option maxHeartbeats 1000000 in
set_option maxRecDepth 10000 in
theorem ok_X8_add (d : Nat) (M : Nat → Nat → Int32) (ML : Nat → Nat → Int64) {B : List Int32} {x : Int32} (hB : TS (M 47 0) (M 48) B) (h4 : B.length < 40) (hx : ∃ j, j < 256 ∧ x = nI j) : ∃ M', Ex (d + 2) k_X8_add [.ref 47, .int x] (SH, M, ML) (none, (SH, M', ML)) ∧ TS (M' 47 0) (M' 48) (B ++ [x]) ∧ Fr [47, 48] M M' := by
  refine ⟨up2 (up2 M 48 B.length x) 47 0 (nI (B.length + 1)), ?_, TS_add hB h4 hx (by simp [up2_at]) (by rw [up2_ne (by decide), up2_eq]), Fr_up (by decide) (Fr_up (by decide) Fr_rf)⟩
  refine Ex_in mi_X8_add rfl rfl ⟨Nat.le_refl _, Nat.le_refl _⟩ ?_
  show RR _ cd_X8_add false _ (0, [(0, .ref 47), (1, .int x)], [], (SH, M, ML))
  refine r_ld rfl rfl ?_
  refine q_getr rfl rfl rfl rfl rfl ?_
  refine r_ld rfl rfl ?_
  refine q_geti rfl rfl rfl rfl rfl ?_
  refine r_ld rfl rfl ?_
  refine q_callv (as := [_, _, _]) (rest := []) rfl rfl rfl rfl rfl rfl rfl rfl (ok_lay_n _ _ _ _ _ rfl rfl rfl hB.1 (by omega)) ?_
  refine r_ld rfl rfl ?_
  refine r_stk rfl rfl ?_
  refine q_geti rfl rfl rfl rfl rfl ?_
  refine r_cst (v := .int 1) rfl rfl ?_
  refine r_bin rfl rfl ?_
  rw [show (up2 M 48 B.length x) 47 0 + 1 = nI (B.length + 1) from by rw [up2_ne (by decide), hB.1]; exact nI_1 _]
  refine q_put rfl rfl rfl rfl rfl (Or.inl rfl) ?_
  refine r_ret rfl rfl (trivial) ?_
  exact rfl

set_option maxHeartbeats 1000000 in
set_option maxRecDepth 10000 in
theorem ok_X11_wipe (d : Nat) (M : Nat → Nat → Int32) (ML : Nat → Nat → Int64) {B : List Int32} (hB : TS (M 47 0) (M 48) B) : Ex (d + 1) k_X11_wipe [.ref 1] (SH, M, ML) (some (.int (nI B.length)), (SH, up2 M 47 0 0, ML)) := by
  refine Ex_in mi_X11_wipe rfl rfl ⟨Nat.le_refl _, Nat.le_refl _⟩ ?_
  show RR _ cd_X11_wipe false _ (0, [(0, .ref 1)], [], (SH, M, ML))
  refine r_ld rfl rfl ?_
  refine q_getr rfl rfl rfl rfl rfl ?_
  refine q_geti rfl rfl rfl rfl rfl ?_
  refine r_sto (L' := [(0, _), (1, _)]) rfl rfl ?_
  refine r_ld rfl rfl ?_
  refine q_getr rfl rfl rfl rfl rfl ?_
  refine r_cst (v := .int 0) rfl rfl ?_
  refine q_put rfl rfl rfl rfl rfl (Or.inl rfl) ?_
  refine r_ld rfl rfl ?_
  refine r_ret rfl rfl (trivial) ?_
  rw [hB.1]

set_option maxHeartbeats 1000000 in
set_option maxRecDepth 10000 in
theorem ok_X12_wipe (d : Nat) (M : Nat → Nat → Int32) (ML : Nat → Nat → Int64) {B : List Int32} (hB : TS (M 73 12) (M 80) B) : Ex (d + 1) k_X12_wipe [.ref 73] (SH, M, ML) (some (.int (nI B.length)), (SH, up2 M 73 12 0, ML)) := by
  refine Ex_in mi_X12_wipe rfl rfl ⟨Nat.le_refl _, Nat.le_refl _⟩ ?_
  show RR _ cd_X12_wipe false _ (0, [(0, .ref 73)], [], (SH, M, ML))
  refine r_ld rfl rfl ?_
  refine q_geti rfl rfl rfl rfl rfl ?_
  refine r_sto (L' := [(0, _), (1, _)]) rfl rfl ?_
  refine r_ld rfl rfl ?_
  refine r_cst (v := .int 0) rfl rfl ?_
  refine q_put rfl rfl rfl rfl rfl (Or.inl rfl) ?_
  refine r_ld rfl rfl ?_
  refine r_ret rfl rfl (trivial) ?_
  rw [hB.1]

set_option maxHeartbeats 1000000 in
set_option maxRecDepth 10000 in
theorem lp_X11_feed_33 (d : Nat) (M : Nat → Nat → Int32) (ML : Nat → Nat → Int64) {x n : Int32} : ∀ e (B : List Int32) (M' : Nat → Nat → Int32), B.length + e ≤ 40 → TS (M' 47 0) (M' 48) B → Fr [47, 48] M M' → ∃ M9, (TS (M9 47 0) (M9 48) (B ++ feedL x e) ∧ Fr [47, 48] M M9) ∧ RR (d + 2) cd_X11_feed false (some (.int (nI (B.length + e))), (SH, M9, ML)) (33, [(0, .ref 1), (1, .int x), (2, .int n), (3, .int (nI e - 1))], [], (SH, M', ML)) := by
  intro e
  induction e with
  | zero =>
    intro B M' hn hB hm
    simp only [feedL, List.append_nil, Nat.add_zero]
    refine ⟨M', ⟨hB, hm⟩, ?_⟩
    refine r_ld rfl rfl ?_
    refine q_cjT rfl rfl (by decide) ?_
    refine r_ld rfl rfl ?_
    refine q_getr rfl rfl rfl rfl rfl ?_
    refine q_geti rfl rfl rfl rfl rfl ?_
    refine r_ret rfl rfl (trivial) ?_
    rw [hB.1]
  | succ e ih =>
    intro B M' hn hB hm
    have he : nI (e + 1) - 1 = nI e := by rw [show (1 : Int32) = nI 1 from rfl, pk_sub (by omega), Nat.add_sub_cancel]
    obtain ⟨M2, hx2, hl2, hf2⟩ := ok_X8_add d M' ML (x := byt x e) hB (by omega) (and255 _)
    obtain ⟨M9, hq, hR⟩ := ih (B ++ [byt x e]) M2 (by simp; omega) hl2 (Fr_tr hm hf2)
    rw [List.append_assoc, List.singleton_append, ← feedL] at hq
    rw [List.length_append, List.length_singleton, show B.length + 1 + e = B.length + (e + 1) by omega] at hR
    refine ⟨M9, hq, ?_⟩
    rw [he]
    refine r_ld rfl rfl ?_
    refine q_cjF rfl rfl (nlt0.mpr (nI_pos' (by omega))) ?_
    refine r_ld rfl rfl ?_
    refine q_getr rfl rfl rfl rfl rfl ?_
    refine r_ld rfl rfl ?_
    refine r_cst (v := .int 8) rfl rfl ?_
    refine r_ld rfl rfl ?_
    refine r_bin rfl rfl ?_
    refine r_bin rfl rfl ?_
    refine r_cst (v := .int 255) rfl rfl ?_
    refine r_bin rfl rfl ?_
    refine q_callv (as := [_, _]) (rest := []) rfl rfl rfl rfl rfl rfl rfl rfl hx2 ?_
    refine q_inc (y := nI e - 1) rfl rfl (nI_pm e) ?_
    refine q_norm (L' := [(0, _), (1, _), (2, _), (3, _)]) rfl ?_
    refine r_go rfl ?_
    exact hR

set_option maxHeartbeats 1000000 in
set_option maxRecDepth 10000 in
theorem lp_X12_feed_29 (d : Nat) (M : Nat → Nat → Int32) (ML : Nat → Nat → Int64) {x n : Int32} : ∀ e (B : List Int32) (M' : Nat → Nat → Int32), B.length + e ≤ 40 → TS (M' 73 12) (M' 80) B → Fm [80] [12] M M' → ∃ M9, (TS (M9 73 12) (M9 80) (B ++ feedL x e) ∧ Fm [80] [12] M M9) ∧ RR (d + 1) cd_X12_feed false (some (.int (nI (B.length + e))), (SH, M9, ML)) (29, [(0, .ref 73), (1, .int x), (2, .int n), (3, .int (nI e - 1))], [], (SH, M', ML)) := by
  intro e
  induction e with
  | zero =>
    intro B M' hn hB hm
    simp only [feedL, List.append_nil, Nat.add_zero]
    refine ⟨M', ⟨hB, hm⟩, ?_⟩
    refine r_ld rfl rfl ?_
    refine q_cjT rfl rfl (by decide) ?_
    refine r_ld rfl rfl ?_
    refine q_geti rfl rfl rfl rfl rfl ?_
    refine r_ret rfl rfl (trivial) ?_
    rw [hB.1]
  | succ e ih =>
    intro B M' hn hB hm
    have he : nI (e + 1) - 1 = nI e := by rw [show (1 : Int32) = nI 1 from rfl, pk_sub (by omega), Nat.add_sub_cancel]
    obtain ⟨M2, hM2⟩ : ∃ M2, M2 = up2 (up2 M' 80 B.length (byt x e)) 73 12 (nI (B.length + 1)) := ⟨_, rfl⟩
    have hl2 : TS (M2 73 12) (M2 80) (B ++ [byt x e]) := by
      subst hM2
      exact TS_add hB (by omega) (and255 _) (by simp [up2_at]) (by rw [up2_ne (by decide), up2_eq])
    have hf2 : Fm [80] [12] M' M2 := by
      subst hM2
      exact Fm_f (by decide) (Fm_up (by decide) (by decide) Fm_rf)
    subst hM2
    obtain ⟨M9, hq, hR⟩ := ih (B ++ [byt x e]) _ (by simp; omega) hl2 (Fm_tr hm hf2)
    rw [List.append_assoc, List.singleton_append, ← feedL] at hq
    rw [List.length_append, List.length_singleton, show B.length + 1 + e = B.length + (e + 1) by omega] at hR
    refine ⟨M9, hq, ?_⟩
    rw [he]
    refine r_ld rfl rfl ?_
    refine q_cjF rfl rfl (nlt0.mpr (nI_pos' (by omega))) ?_
    refine r_ld rfl rfl ?_
    refine q_getr rfl rfl rfl rfl rfl ?_
    refine r_ld rfl rfl ?_
    refine q_geti rfl rfl rfl rfl rfl ?_
    refine r_ld rfl rfl ?_
    refine r_cst (v := .int 8) rfl rfl ?_
    refine r_ld rfl rfl ?_
    refine r_bin rfl rfl ?_
    refine r_bin rfl rfl ?_
    refine r_cst (v := .int 255) rfl rfl ?_
    refine r_bin rfl rfl ?_
    refine q_sin rfl rfl rfl (hB.1) (by omega) rfl ?_
    refine r_ld rfl rfl ?_
    refine r_stk rfl rfl ?_
    refine q_geti rfl rfl rfl rfl rfl ?_
    refine r_cst (v := .int 1) rfl rfl ?_
    refine r_bin rfl rfl ?_
    rw [show (up2 M' 80 B.length ((x >>> (8 * nI e &&& 31)) &&& 255)) 73 12 + 1 = nI (B.length + 1) from by rw [up2_ne (by decide), hB.1]; exact nI_1 _]
    refine q_put rfl rfl rfl rfl rfl (Or.inl rfl) ?_
    refine q_inc (y := nI e - 1) rfl rfl (nI_pm e) ?_
    refine q_norm (L' := [(0, _), (1, _), (2, _), (3, _)]) rfl ?_
    refine r_go rfl ?_
    exact hR

set_option maxHeartbeats 1000000 in
set_option maxRecDepth 10000 in
theorem ok_X11_feed_n (d : Nat) (M : Nat → Nat → Int32) (ML : Nat → Nat → Int64) {x y : Int32} (hb : ¬ (1 ≤ y ∧ y ≤ 4)) : Ex (d + 3) k_X11_feed [.ref 1, .int x, .int y] (SH, M, ML) (some (.int (-1)), (SH, M, ML)) := by
  refine Ex_in mi_X11_feed rfl rfl ⟨Nat.le_refl _, Nat.le_refl _⟩ ?_
  show RR _ cd_X11_feed false _ (0, [(0, .ref 1), (1, .int x), (2, .int y)], [], (SH, M, ML))
  refine r_ld rfl rfl ?_
  refine r_cst (v := .int 1) rfl rfl ?_
  refine r_cj rfl rfl (fun h_2 => ?_) (fun h_2 => ?_)
  · refine r_cst (v := .int (-1)) rfl rfl ?_
    refine r_ret rfl rfl (trivial) ?_
    exact rfl
  · refine r_ld rfl rfl ?_
    refine r_cst (v := .int 4) rfl rfl ?_
    refine r_cj rfl rfl (fun h_7 => ?_) (fun h_7 => ?_)
    · exact (hb ⟨nlt_le.mp h_2, h_7⟩).elim
    · refine r_cst (v := .int (-1)) rfl rfl ?_
      refine r_ret rfl rfl (trivial) ?_
      exact rfl

set_option maxHeartbeats 1000000 in
set_option maxRecDepth 10000 in
theorem ok_X12_feed_n (d : Nat) (M : Nat → Nat → Int32) (ML : Nat → Nat → Int64) {x y : Int32} (hb : ¬ (1 ≤ y ∧ y ≤ 4)) : Ex (d + 2) k_X12_feed [.ref 73, .int x, .int y] (SH, M, ML) (some (.int (-1)), (SH, M, ML)) := by
  refine Ex_in mi_X12_feed rfl rfl ⟨Nat.le_refl _, Nat.le_refl _⟩ ?_
  show RR _ cd_X12_feed false _ (0, [(0, .ref 73), (1, .int x), (2, .int y)], [], (SH, M, ML))
  refine r_ld rfl rfl ?_
  refine r_cst (v := .int 1) rfl rfl ?_
  refine r_cst (v := .int 4) rfl rfl ?_
  refine q_cifn (as := [_, _, _]) (rest := []) rfl rfl rfl rfl rfl rfl rfl rfl (ok_X12_in ..) rfl (fun h_3 => ?_) (fun h_3 => ?_)
  · exact (hb (of_decide_eq_true h_3)).elim
  · refine r_cst (v := .int (-1)) rfl rfl ?_
    refine r_ret rfl rfl (trivial) ?_
    exact rfl

set_option maxHeartbeats 1000000 in
set_option maxRecDepth 10000 in
theorem ok_X11_feed_f (d : Nat) (M : Nat → Nat → Int32) (ML : Nat → Nat → Int64) {x : Int32} {n : Nat} {B : List Int32} (hB : TS (M 47 0) (M 48) B) (hf : 40 < B.length + n) (hn : 1 ≤ n) (h4 : n ≤ 4) : Ex (d + 3) k_X11_feed [.ref 1, .int x, .int (nI n)] (SH, M, ML) (some (.int (-3)), (SH, M, ML)) := by
  refine Ex_in mi_X11_feed rfl rfl ⟨Nat.le_refl _, Nat.le_refl _⟩ ?_
  show RR _ cd_X11_feed false _ (0, [(0, .ref 1), (1, .int x), (2, .int (nI n))], [], (SH, M, ML))
  refine r_ld rfl rfl ?_
  refine r_cst (v := .int 1) rfl rfl ?_
  refine q_cjF rfl rfl (nlt_le.mpr (nI_le (a := 1) hn (by omega))) ?_
  refine r_ld rfl rfl ?_
  refine r_cst (v := .int 4) rfl rfl ?_
  refine q_cjT rfl rfl (nI_le (b := 4) h4 (by decide)) ?_
  refine r_ld rfl rfl ?_
  refine q_getr rfl rfl rfl rfl rfl ?_
  refine q_geti rfl rfl rfl rfl rfl ?_
  refine r_ld rfl rfl ?_
  refine r_bin rfl rfl ?_
  refine r_cst (v := .int 40) rfl rfl ?_
  refine q_cjF rfl rfl (by rw [hB.1, nI_add]; have := hB.2.1; exact fun q => by have := nle (by omega) (by decide) (show nI (B.length + n) ≤ nI 40 from q); omega) ?_
  refine r_cst (v := .int (-3)) rfl rfl ?_
  refine r_ret rfl rfl (trivial) ?_
  exact rfl

set_option maxHeartbeats 1000000 in
set_option maxRecDepth 10000 in
theorem ok_X12_feed_f (d : Nat) (M : Nat → Nat → Int32) (ML : Nat → Nat → Int64) {x : Int32} {n : Nat} {B : List Int32} (hB : TS (M 73 12) (M 80) B) (hf : 40 < B.length + n) (hn : 1 ≤ n) (h4 : n ≤ 4) : Ex (d + 2) k_X12_feed [.ref 73, .int x, .int (nI n)] (SH, M, ML) (some (.int (-3)), (SH, M, ML)) := by
  refine Ex_in mi_X12_feed rfl rfl ⟨Nat.le_refl _, Nat.le_refl _⟩ ?_
  show RR _ cd_X12_feed false _ (0, [(0, .ref 73), (1, .int x), (2, .int (nI n))], [], (SH, M, ML))
  refine r_ld rfl rfl ?_
  refine r_cst (v := .int 1) rfl rfl ?_
  refine r_cst (v := .int 4) rfl rfl ?_
  refine q_cifn (as := [_, _, _]) (rest := []) rfl rfl rfl rfl rfl rfl rfl rfl (ok_X12_in ..) rfl (fun h_3 => ?_) (fun h_3 => ?_)
  · refine r_ld rfl rfl ?_
    refine q_geti rfl rfl rfl rfl rfl ?_
    refine r_ld rfl rfl ?_
    refine r_bin rfl rfl ?_
    refine r_cst (v := .int 40) rfl rfl ?_
    refine q_cjF rfl rfl (by rw [hB.1, nI_add]; have := hB.2.1; exact fun q => by have := nle (by omega) (by decide) (show nI (B.length + n) ≤ nI 40 from q); omega) ?_
    refine r_cst (v := .int (-3)) rfl rfl ?_
    refine r_ret rfl rfl (trivial) ?_
    exact rfl
  · exact absurd h_3 (by rw [decide_eq_true (show (1 : Int32) ≤ nI n ∧ nI n ≤ 4 from ⟨nI_le (a := 1) hn (by omega), nI_le (b := 4) h4 (by decide)⟩)]; decide)

set_option maxHeartbeats 1000000 in
set_option maxRecDepth 10000 in
theorem ok_X11_feed_y (d : Nat) (M : Nat → Nat → Int32) (ML : Nat → Nat → Int64) {x : Int32} {n : Nat} {B : List Int32} (hB : TS (M 47 0) (M 48) B) (hf : B.length + n ≤ 40) (hn : 1 ≤ n) (h4 : n ≤ 4)  : ∃ M', Ex (d + 3) k_X11_feed [.ref 1, .int x, .int (nI n)] (SH, M, ML) (some (.int (nI (B.length + n))), (SH, M', ML)) ∧ TS (M' 47 0) (M' 48) (B ++ feedL x n) ∧ Fr [47, 48] M M' := by
  obtain ⟨M9, ⟨hq1, hq2⟩, hR⟩ := lp_X11_feed_33 (x := x) (n := nI n) d M ML n B M hf hB Fr_rf
  refine ⟨M9, ?_, hq1, hq2⟩
  refine Ex_in mi_X11_feed rfl rfl ⟨Nat.le_refl _, Nat.le_refl _⟩ ?_
  show RR _ cd_X11_feed false _ (0, [(0, .ref 1), (1, .int x), (2, .int (nI n))], [], (SH, M, ML))
  refine r_ld rfl rfl ?_
  refine r_cst (v := .int 1) rfl rfl ?_
  refine q_cjF rfl rfl (nlt_le.mpr (nI_le (a := 1) hn (by omega))) ?_
  refine r_ld rfl rfl ?_
  refine r_cst (v := .int 4) rfl rfl ?_
  refine q_cjT rfl rfl (nI_le (b := 4) h4 (by decide)) ?_
  refine r_ld rfl rfl ?_
  refine q_getr rfl rfl rfl rfl rfl ?_
  refine q_geti rfl rfl rfl rfl rfl ?_
  refine r_ld rfl rfl ?_
  refine r_bin rfl rfl ?_
  refine r_cst (v := .int 40) rfl rfl ?_
  refine q_cjT rfl rfl (by rw [hB.1, nI_add]; exact nI_le (b := 40) (by omega) (by decide)) ?_
  refine r_ld rfl rfl ?_
  refine r_cst (v := .int 1) rfl rfl ?_
  refine r_bin rfl rfl ?_
  refine r_sto (L' := [(0, _), (1, _), (2, _), (3, _)]) rfl rfl ?_
  exact hR

set_option maxHeartbeats 1000000 in
set_option maxRecDepth 10000 in
theorem ok_X12_feed_y (d : Nat) (M : Nat → Nat → Int32) (ML : Nat → Nat → Int64) {x : Int32} {n : Nat} {B : List Int32} (hB : TS (M 73 12) (M 80) B) (hf : B.length + n ≤ 40) (hn : 1 ≤ n) (h4 : n ≤ 4)  : ∃ M', Ex (d + 2) k_X12_feed [.ref 73, .int x, .int (nI n)] (SH, M, ML) (some (.int (nI (B.length + n))), (SH, M', ML)) ∧ TS (M' 73 12) (M' 80) (B ++ feedL x n) ∧ Fm [80] [12] M M' := by
  obtain ⟨M9, ⟨hq1, hq2⟩, hR⟩ := lp_X12_feed_29 (x := x) (n := nI n) d M ML n B M hf hB Fm_rf
  refine ⟨M9, ?_, hq1, hq2⟩
  refine Ex_in mi_X12_feed rfl rfl ⟨Nat.le_refl _, Nat.le_refl _⟩ ?_
  show RR _ cd_X12_feed false _ (0, [(0, .ref 73), (1, .int x), (2, .int (nI n))], [], (SH, M, ML))
  refine r_ld rfl rfl ?_
  refine r_cst (v := .int 1) rfl rfl ?_
  refine r_cst (v := .int 4) rfl rfl ?_
  refine q_cifn (as := [_, _, _]) (rest := []) rfl rfl rfl rfl rfl rfl rfl rfl (ok_X12_in ..) rfl (fun h_3 => ?_) (fun h_3 => ?_)
  · refine r_ld rfl rfl ?_
    refine q_geti rfl rfl rfl rfl rfl ?_
    refine r_ld rfl rfl ?_
    refine r_bin rfl rfl ?_
    refine r_cst (v := .int 40) rfl rfl ?_
    refine q_cjT rfl rfl (by rw [hB.1, nI_add]; exact nI_le (b := 40) (by omega) (by decide)) ?_
    refine r_ld rfl rfl ?_
    refine r_cst (v := .int 1) rfl rfl ?_
    refine r_bin rfl rfl ?_
    refine r_sto (L' := [(0, _), (1, _), (2, _), (3, _)]) rfl rfl ?_
    exact hR
  · exact absurd h_3 (by rw [decide_eq_true (show (1 : Int32) ≤ nI n ∧ nI n ≤ 4 from ⟨nI_le (a := 1) hn (by omega), nI_le (b := 4) h4 (by decide)⟩)]; decide)

