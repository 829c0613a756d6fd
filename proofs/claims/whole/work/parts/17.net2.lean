/-! ===== Net, 2 ===== -/
theorem ok_at_n (d : Nat) (M : Nat → Nat → Int32) (ML : Nat → Nat → Int64) (i : Int32) {a n k : Nat} (ha : Nat.blt 0 a = true) (h : SH[a - 1]? = some (0, n, [])) (hn : Nat.blt n 2147483648 = true) (hi : i = nI k) (hk : k < n) : Ex (d + 1) k_X11_at [.ref a, .int i] (SH, M, ML) (some (.int (M a k)), (SH, M, ML)) := by
  have := ok_X11_at d M ML i ha h hn
  rw [hi, rdA_nI hk (blt_lt hn)] at this
  rw [hi]
  exact this
theorem ok_lay_n (d : Nat) (M : Nat → Nat → Int32) (ML : Nat → Nat → Int64) (i v : Int32) {a n k : Nat} (ha : Nat.blt 0 a = true) (h : SH[a - 1]? = some (0, n, [])) (hn : Nat.blt n 2147483648 = true) (hi : i = nI k) (hk : k < n) : Ex (d + 1) k_X11_lay [.ref a, .int i, .int v] (SH, M, ML) (none, (SH, up2 M a k v, ML)) := by
  have := ok_X11_lay d M ML i v ha h hn
  rw [hi, wrA_nI hk (blt_lt hn)] at this
  rw [hi]
  exact this
def tmk (E : Nat) (l h : Nat → Nat) (v : Nat) : Nat := msk (fun e => decide (h e = v) || decide (l e = v)) E
def amk (E : Nat) (h : Nat → Nat) (v : Nat) : Nat := msk (fun e => decide (h e = v)) E
/-- a net in its cells: N nodes, E edges, the arrows, each edge's low and high, the edges of each node -/
def NS (M : Nat → Nat → Int32) (a lo hi t w N E A : Nat) (l h : Nat → Nat) : Prop :=
  M a 0 = nI N ∧ M a 1 = nI E ∧ M a 2 = nI A ∧ (∀ e, e < E → M lo e = nI (l e) ∧ M hi e = nI (h e)) ∧ ∀ v, v < 7 → M t v = nI (tmk E l h v) ∧ M w v = nI (amk E h v)
/-- what a net is -/
def WN (N E A : Nat) (l h : Nat → Nat) : Prop := 1 ≤ N ∧ N ≤ 7 ∧ E ≤ 10 ∧ A < 2 ^ E ∧ ∀ e, e < E → l e < h e ∧ h e < N
/-- rows outside S stay -/
def Fr (S : List Nat) (M M' : Nat → Nat → Int32) : Prop := ∀ x, x ∉ S → M' x = M x
theorem mk_bits {M : Nat → Nat → Int32} {lo hi E v : Nat} {l h : Nat → Nat} (hv : v < 7) (hl : ∀ e, e < E → M lo e = nI (l e) ∧ M hi e = nI (h e)) (hb : ∀ e, e < E → l e < 7 ∧ h e < 7) :
    msk (fun e => decide (M hi e = nI v) || decide (M lo e = nI v)) E = tmk E l h v ∧ msk (fun e => decide (M hi e = nI v)) E = amk E h v := by
  have e1 : ∀ e, e < E → decide (M hi e = nI v) = decide (h e = v) := fun e he => by
    rw [(hl e he).2]
    exact decide_eq_decide.mpr (nI_eq (by have := (hb e he).2; omega) (by omega))
  have e2 : ∀ e, e < E → decide (M lo e = nI v) = decide (l e = v) := fun e he => by
    rw [(hl e he).1]
    exact decide_eq_decide.mpr (nI_eq (by have := (hb e he).1; omega) (by omega))
  exact ⟨msk_cong (fun e he => by rw [e1 e he, e2 e he]), msk_cong (fun e he => e1 e he)⟩
theorem NS_mk {M : Nat → Nat → Int32} {a lo hi t w N E A : Nat} {l h : Nat → Nat} (d1 : t ≠ w ∧ a ≠ t ∧ a ≠ w) (d2 : lo ≠ t ∧ lo ≠ w ∧ hi ≠ t ∧ hi ≠ w) (h0 : M a 0 = nI N) (h1 : M a 1 = nI E) (h2 : M a 2 = nI A) (hl : ∀ e, e < E → M lo e = nI (l e) ∧ M hi e = nI (h e)) (hb : ∀ e, e < E → l e < 7 ∧ h e < 7) :
    NS (mkM M lo hi t w E 7) a lo hi t w N E A l h := by
  refine ⟨by rw [mkM_ne d1.2.1 d1.2.2]; exact h0, by rw [mkM_ne d1.2.1 d1.2.2]; exact h1, by rw [mkM_ne d1.2.1 d1.2.2]; exact h2, fun e he => ⟨by rw [mkM_ne d2.1 d2.2.1]; exact (hl e he).1, by rw [mkM_ne d2.2.2.1 d2.2.2.2]; exact (hl e he).2⟩, fun v hv => ?_⟩
  obtain ⟨e1, e2⟩ := mk_bits hv hl hb
  unfold mkM
  constructor
  · rw [if_pos ⟨rfl, hv⟩, e1]
  · rw [if_neg (fun q => d1.1 q.1.symm), if_pos ⟨rfl, hv⟩, e2]
theorem Fr_mk {S : List Nat} {M M' : Nat → Nat → Int32} {lo hi t w E v : Nat} (ht : t ∈ S) (hw : w ∈ S) (h : Fr S M M') : Fr S M (mkM M' lo hi t w E v) := fun x hx => by
  rw [mkM_ne (fun q => hx (by rw [q]; exact ht)) (fun q => hx (by rw [q]; exact hw))]
  exact h x hx
theorem Fr_up {S : List Nat} {M M' : Nat → Nat → Int32} {a k : Nat} {v : Int32} (ha : a ∈ S) (h : Fr S M M') : Fr S M (up2 M' a k v) := fun x hx => by
  rw [up2_ne (fun q => hx (by rw [q]; exact ha))]
  exact h x hx
theorem Fr_rf {S : List Nat} {M : Nat → Nat → Int32} : Fr S M M := fun _ _ => rfl
theorem Fr_tr {S : List Nat} {M M' M'' : Nat → Nat → Int32} (h : Fr S M M') (h2 : Fr S M' M'') : Fr S M M'' := fun x hx => (h2 x hx).trans (h x hx)
theorem Fr_mono {S S' : List Nat} {M M' : Nat → Nat → Int32} (h : Fr S M M') (hs : ∀ x ∈ S, x ∈ S') : Fr S' M M' := fun x hx => h x (fun q => hx (hs x q))
theorem WN_b {N E A : Nat} {l h : Nat → Nat} (hW : WN N E A l h) : ∀ e, e < E → l e < 7 ∧ h e < 7 := fun e he => by
  obtain ⟨-, h2, -, -, h5⟩ := hW
  have := h5 e he
  omega
theorem minI {i j : Nat} (hi : i < 2 ^ 31) (hj : j < 2 ^ 31) : (if nI j < nI i then nI j else nI i) = nI (min i j) := by
  by_cases h : j < i
  · rw [if_pos (nI_lt h hi), Nat.min_eq_right (by omega)]
  · rw [if_neg (nI_nlt (by omega) hj), Nat.min_eq_left (by omega)]
theorem maxI {i j : Nat} (hi : i < 2 ^ 31) (hj : j < 2 ^ 31) : (if nI i < nI j then nI j else nI i) = nI (max i j) := by
  by_cases h : i < j
  · rw [if_pos (nI_lt h hj), Nat.max_eq_right (by omega)]
  · rw [if_neg (nI_nlt (by omega) hi), Nat.max_eq_left (by omega)]
def cp2 (M : Nat → Nat → Int32) (lo hi lo2 hi2 e : Nat) : Nat → Nat → Int32 := fun x y => if x = lo ∧ y < e then M lo2 y else if x = hi ∧ y < e then M hi2 y else M x y
theorem cp2_0 (M : Nat → Nat → Int32) (lo hi lo2 hi2 : Nat) : cp2 M lo hi lo2 hi2 0 = M := by
  funext x y; simp [cp2]
theorem cp2_ne {M : Nat → Nat → Int32} {lo hi lo2 hi2 e x : Nat} (h1 : x ≠ lo) (h2 : x ≠ hi) : cp2 M lo hi lo2 hi2 e x = M x := by
  funext y; simp [cp2, h1, h2]
theorem cp2_succ {M : Nat → Nat → Int32} {lo hi lo2 hi2 e : Nat} (h : lo ≠ hi) : up2 (up2 (cp2 M lo hi lo2 hi2 e) lo e (M lo2 e)) hi e (M hi2 e) = cp2 M lo hi lo2 hi2 (e + 1) := by
  funext x y
  rw [up2_at, up2_at]
  unfold cp2
  by_cases hx : x = lo
  · subst hx
    by_cases hy : y = e
    · subst hy; simp [h]
    · have : (y < e + 1) ↔ y < e := by omega
      simp [h, hy, this]
  · by_cases hw : x = hi
    · subst hw
      by_cases hy : y = e
      · subst hy; simp [Ne.symm h]
      · have : (y < e + 1) ↔ y < e := by omega
        simp [Ne.symm h, hy, this]
    · simp [hx, hw]

set_option maxHeartbeats 1000000 in
set_option maxRecDepth 10000 in
theorem ok_X4_clear_2 (d : Nat) (M : Nat → Nat → Int32) (ML : Nat → Nat → Int64) (N : Nat) (l h : Nat → Nat) : ∃ M', Ex (d + 3) k_X4_clear [.ref 2, .int (nI N)] (SH, M, ML) (none, (SH, M', ML)) ∧ NS M' 2 3 4 5 6 N 0 0 l h ∧ Fr [2, 3, 4, 5, 6] M M' := by
  refine ⟨mkM (up2 (up2 (up2 M 2 0 (nI N)) 2 1 (nI 0)) 2 2 (nI 0)) 3 4 5 6 0 7, ?_, NS_mk ⟨by decide, by decide, by decide⟩ ⟨by decide, by decide, by decide, by decide⟩ (by simp [up2_at]) (by simp [up2_at]) (by simp [up2_at]) (fun e he => absurd he (Nat.not_lt_zero _)) (fun e he => absurd he (Nat.not_lt_zero _)), Fr_mk (by decide) (by decide) (Fr_up (by decide) (Fr_up (by decide) (Fr_up (by decide) Fr_rf)))⟩
  refine Ex_in mi_X4_clear rfl rfl ⟨Nat.le_refl _, Nat.le_refl _⟩ ?_
  show RR _ cd_X4_clear false _ (0, [(0, .ref 2), (1, .int (nI N))], [], (SH, M, ML))
  refine r_ld rfl rfl ?_
  refine r_ld rfl rfl ?_
  refine q_put rfl rfl rfl rfl rfl (Or.inl rfl) ?_
  refine r_ld rfl rfl ?_
  refine r_cst (v := .int 0) rfl rfl ?_
  refine q_put rfl rfl rfl rfl rfl (Or.inl rfl) ?_
  refine r_ld rfl rfl ?_
  refine r_cst (v := .int 0) rfl rfl ?_
  refine q_put rfl rfl rfl rfl rfl (Or.inl rfl) ?_
  refine r_ld rfl rfl ?_
  refine q_callv (as := [_]) (rest := []) rfl rfl rfl rfl rfl rfl rfl rfl (ok_X4_mark_2 d _ _ (E := 0) (by simp [up2_at]; rfl) (by decide)) ?_
  refine r_ret rfl rfl (trivial) ?_
  exact rfl

set_option maxHeartbeats 1000000 in
set_option maxRecDepth 10000 in
theorem ok_X4_join_2 (d : Nat) (M : Nat → Nat → Int32) (ML : Nat → Nat → Int64) {N E A i j : Nat} {l h : Nat → Nat} (hS : NS M 2 3 4 5 6 N E A l h) (hE : E < 10) (hi : i < 7) (hj : j < 7) (hb : ∀ e, e < E → l e < 7 ∧ h e < 7) : ∃ M', Ex (d + 3) k_X4_join [.ref 2, .int (nI i), .int (nI j)] (SH, M, ML) (none, (SH, M', ML)) ∧ NS M' 2 3 4 5 6 N (E + 1) (A ||| (if i < j then 0 else 2 ^ E)) (fun e => if e = E then min i j else l e) (fun e => if e = E then max i j else h e) ∧ Fr [2, 3, 4, 5, 6] M M' := by
  obtain ⟨hN1, hE1, hA1, hl1, -⟩ := hS
  refine ⟨mkM (up2 (up2 (up2 (up2 M 3 E (nI (min i j))) 4 E (nI (max i j))) 2 2 (nI (A ||| (if i < j then 0 else 2 ^ E)))) 2 1 (nI (E + 1))) 3 4 5 6 (E + 1) 7, ?_, NS_mk ⟨by decide, by decide, by decide⟩ ⟨by decide, by decide, by decide, by decide⟩ (by simp [up2_at, hN1]) (by simp [up2_at]) (by simp [up2_at]) (fun e he => ?_) (fun e he => ?_), Fr_mk (by decide) (by decide) (Fr_up (by decide) (Fr_up (by decide) (Fr_up (by decide) (Fr_up (by decide) Fr_rf))))⟩
  rotate_left 1
  · by_cases he2 : e = E
    · subst he2; simp [up2_at]
    · have := hl1 e (by omega)
      simp [up2_at, he2, this.1, this.2]
  · by_cases he2 : e = E
    · subst he2; simp; omega
    · have := hb e (by omega)
      simp [he2]; omega
  refine Ex_in mi_X4_join rfl rfl ⟨Nat.le_refl _, Nat.le_refl _⟩ ?_
  show RR _ cd_X4_join false _ (0, [(0, .ref 2), (1, .int (nI i)), (2, .int (nI j))], [], (SH, M, ML))
  refine r_ld rfl rfl ?_
  refine q_geti rfl rfl rfl rfl rfl ?_
  refine r_cst (v := .int 10) rfl rfl ?_
  refine q_cjF rfl rfl (by rw [hE1]; exact nI_ge hE (by decide)) ?_
  refine r_ld rfl rfl ?_
  refine q_getr rfl rfl rfl rfl rfl ?_
  refine r_ld rfl rfl ?_
  refine q_geti rfl rfl rfl rfl rfl ?_
  refine r_ld rfl rfl ?_
  refine r_ld rfl rfl ?_
  refine r_mm rfl rfl (Nat.le_of_ble_eq_true rfl) ?_
  rw [minI (by omega) (by omega)]
  refine q_callv (as := [_, _, _]) (rest := []) rfl rfl rfl rfl rfl rfl rfl rfl (ok_lay_n _ _ _ _ _ rfl rfl rfl hE1 hE) ?_
  refine r_ld rfl rfl ?_
  refine q_getr rfl rfl rfl rfl rfl ?_
  refine r_ld rfl rfl ?_
  refine q_geti rfl rfl rfl rfl rfl ?_
  refine r_ld rfl rfl ?_
  refine r_ld rfl rfl ?_
  refine r_mm rfl rfl (Nat.le_of_ble_eq_true rfl) ?_
  rw [maxI (by omega) (by omega)]
  refine q_callv (as := [_, _, _]) (rest := []) rfl rfl rfl rfl rfl rfl rfl rfl (ok_lay_n _ _ _ _ _ rfl rfl rfl (by rw [up2_ne (by decide)]; exact hE1) hE) ?_
  refine r_ld rfl rfl ?_
  refine r_stk rfl rfl ?_
  refine q_geti rfl rfl rfl rfl rfl ?_
  refine r_ld rfl rfl ?_
  refine r_ld rfl rfl ?_
  refine r_cj rfl rfl (fun h_48 => ?_) (fun h_48 => ?_)
  · refine r_cst (v := .int 1) rfl rfl ?_
    refine r_ld rfl rfl ?_
    refine q_geti rfl rfl rfl rfl rfl ?_
    refine r_bin rfl rfl ?_
    refine r_bin rfl rfl ?_
    have hA9 : ∀ x : Int32, x = (if i < j then 0 else 1) → ((up2 (up2 M 3 E (nI (min i j))) 4 E (nI (max i j))) 2 2 ||| x <<< ((up2 (up2 M 3 E (nI (min i j))) 4 E (nI (max i j))) 2 1 &&& 31)) = nI (A ||| (if i < j then 0 else 2 ^ E)) := fun x hx => by
      rw [show (up2 (up2 M 3 E (nI (min i j))) 4 E (nI (max i j))) 2 2 = nI A by rw [up2_ne (by decide), up2_ne (by decide)]; exact hA1, show (up2 (up2 M 3 E (nI (min i j))) 4 E (nI (max i j))) 2 1 = nI E by rw [up2_ne (by decide), up2_ne (by decide)]; exact hE1, hx, ← orN]
      by_cases hij : i < j
      · rw [if_pos hij, if_pos hij, sh_b0 (by omega)]; rfl
      · rw [if_neg hij, if_neg hij, sh_b1 (by omega)]; rfl
    rw [hA9 _ (by first | exact (if_pos (nnle (by omega) (by omega) h_48)).symm | exact (if_neg (by have := nle (by omega) (by omega) h_48; omega)).symm)]
    refine q_put rfl rfl rfl rfl rfl (Or.inl rfl) ?_
    refine r_ld rfl rfl ?_
    refine r_stk rfl rfl ?_
    refine q_geti rfl rfl rfl rfl rfl ?_
    refine r_cst (v := .int 1) rfl rfl ?_
    refine r_bin rfl rfl ?_
    rw [show (up2 (up2 (up2 M 3 E (nI (min i j))) 4 E (nI (max i j))) 2 2 (nI (A ||| (if i < j then 0 else 2 ^ E)))) 2 1 + 1 = nI (E + 1) by rw [up2_at, if_neg (by decide), up2_ne (by decide), up2_ne (by decide), hE1]; exact nI_1 E]
    refine q_put rfl rfl rfl rfl rfl (Or.inl rfl) ?_
    refine r_ld rfl rfl ?_
    refine q_callv (as := [_]) (rest := []) rfl rfl rfl rfl rfl rfl rfl rfl (ok_X4_mark_2 _ _ _ (E := E + 1) (by simp [up2_at]) (by omega)) ?_
    refine r_ret rfl rfl (trivial) ?_
    exact rfl
  · refine r_cst (v := .int 0) rfl rfl ?_
    refine r_go rfl ?_
    refine r_ld rfl rfl ?_
    refine q_geti rfl rfl rfl rfl rfl ?_
    refine r_bin rfl rfl ?_
    refine r_bin rfl rfl ?_
    have hA9 : ∀ x : Int32, x = (if i < j then 0 else 1) → ((up2 (up2 M 3 E (nI (min i j))) 4 E (nI (max i j))) 2 2 ||| x <<< ((up2 (up2 M 3 E (nI (min i j))) 4 E (nI (max i j))) 2 1 &&& 31)) = nI (A ||| (if i < j then 0 else 2 ^ E)) := fun x hx => by
      rw [show (up2 (up2 M 3 E (nI (min i j))) 4 E (nI (max i j))) 2 2 = nI A by rw [up2_ne (by decide), up2_ne (by decide)]; exact hA1, show (up2 (up2 M 3 E (nI (min i j))) 4 E (nI (max i j))) 2 1 = nI E by rw [up2_ne (by decide), up2_ne (by decide)]; exact hE1, hx, ← orN]
      by_cases hij : i < j
      · rw [if_pos hij, if_pos hij, sh_b0 (by omega)]; rfl
      · rw [if_neg hij, if_neg hij, sh_b1 (by omega)]; rfl
    rw [hA9 _ (by first | exact (if_pos (nnle (by omega) (by omega) h_48)).symm | exact (if_neg (by have := nle (by omega) (by omega) h_48; omega)).symm)]
    refine q_put rfl rfl rfl rfl rfl (Or.inl rfl) ?_
    refine r_ld rfl rfl ?_
    refine r_stk rfl rfl ?_
    refine q_geti rfl rfl rfl rfl rfl ?_
    refine r_cst (v := .int 1) rfl rfl ?_
    refine r_bin rfl rfl ?_
    rw [show (up2 (up2 (up2 M 3 E (nI (min i j))) 4 E (nI (max i j))) 2 2 (nI (A ||| (if i < j then 0 else 2 ^ E)))) 2 1 + 1 = nI (E + 1) by rw [up2_at, if_neg (by decide), up2_ne (by decide), up2_ne (by decide), hE1]; exact nI_1 E]
    refine q_put rfl rfl rfl rfl rfl (Or.inl rfl) ?_
    refine r_ld rfl rfl ?_
    refine q_callv (as := [_]) (rest := []) rfl rfl rfl rfl rfl rfl rfl rfl (ok_X4_mark_2 _ _ _ (E := E + 1) (by simp [up2_at]) (by omega)) ?_
    refine r_ret rfl rfl (trivial) ?_
    exact rfl

set_option maxHeartbeats 1000000 in
set_option maxRecDepth 10000 in
theorem lp_X4_copy_26_2_7 (d : Nat) (M : Nat → Nat → Int32) (ML : Nat → Nat → Int64) {E : Nat} (hE : E ≤ 10) (hE1 : M 2 1 = nI E) {res : Rt} (hk : res = (none, (SH, mkM (cp2 M 3 4 8 9 10) 3 4 5 6 E 7, ML))) :
    ∀ e, e ≤ 10 → ∀ (i : Int32) (M' : Nat → Nat → Int32), i = nI e → M' = cp2 M 3 4 8 9 e → RR (d + 2) cd_X4_copy false res (26, [(0, .ref 2), (1, .ref 7), (2, .int i)], [], (SH, M', ML)) := by
  refine up_ind fun e he ih => ?_
  intro i M' hv0 hv1
  subst hv0 hv1
  refine r_ld rfl rfl ?_
  refine r_cst (v := .int 10) rfl rfl ?_
  refine r_cj rfl rfl (fun h_29 => ?_) (fun h_29 => ?_)
  · have h9 : e = 10 := by have := nle (a := 10) (b := e) (by decide) (by omega) h_29; omega
    subst h9
    refine r_ld rfl rfl ?_
    refine q_callv (as := [_]) (rest := []) rfl rfl rfl rfl rfl rfl rfl rfl (ok_X4_mark_2 _ _ _ (E := E) (by rw [cp2_ne (by decide) (by decide)]; exact hE1) hE) ?_
    refine r_ret rfl rfl (trivial) ?_
    exact hk
  · have hlt : e < 10 := nnle (a := 10) (b := e) (by decide) (by omega) h_29
    refine r_ld rfl rfl ?_
    refine q_getr rfl rfl rfl rfl rfl ?_
    refine r_ld rfl rfl ?_
    refine r_ld rfl rfl ?_
    refine q_getr rfl rfl rfl rfl rfl ?_
    refine r_ld rfl rfl ?_
    refine q_call (as := [_, _]) (rest := [_, _]) rfl rfl rfl rfl rfl rfl rfl rfl (ok_at_n _ _ _ _ rfl rfl rfl rfl hlt) ?_
    refine q_callv (as := [_, _, _]) (rest := []) rfl rfl rfl rfl rfl rfl rfl rfl (ok_lay_n _ _ _ _ _ rfl rfl rfl rfl hlt) ?_
    refine r_ld rfl rfl ?_
    refine q_getr rfl rfl rfl rfl rfl ?_
    refine r_ld rfl rfl ?_
    refine r_ld rfl rfl ?_
    refine q_getr rfl rfl rfl rfl rfl ?_
    refine r_ld rfl rfl ?_
    refine q_call (as := [_, _]) (rest := [_, _]) rfl rfl rfl rfl rfl rfl rfl rfl (ok_at_n _ _ _ _ rfl rfl rfl rfl hlt) ?_
    refine q_callv (as := [_, _, _]) (rest := []) rfl rfl rfl rfl rfl rfl rfl rfl (ok_lay_n _ _ _ _ _ rfl rfl rfl rfl hlt) ?_
    refine q_inc (y := _ + 1) rfl rfl rfl ?_
    refine q_norm (L' := [(0, _), (1, _), (2, _)]) rfl ?_
    refine r_go rfl ?_
    exact ih hlt _ _ (nI_1 e) (cp2_succ (by decide))

set_option maxHeartbeats 1000000 in
set_option maxRecDepth 10000 in
theorem ok_X4_copy_2_7 (d : Nat) (M : Nat → Nat → Int32) (ML : Nat → Nat → Int64) {N E A : Nat} {l h : Nat → Nat} (hS : NS M 7 8 9 10 11 N E A l h) (hE : E ≤ 10) (hb : ∀ e, e < E → l e < 7 ∧ h e < 7) : ∃ M', Ex (d + 3) k_X4_copy [.ref 2, .ref 7] (SH, M, ML) (none, (SH, M', ML)) ∧ NS M' 2 3 4 5 6 N E A l h ∧ Fr [2, 3, 4, 5, 6] M M' := by
  obtain ⟨hN1, hE1, hA1, hl1, -⟩ := hS
  refine ⟨mkM (cp2 (up2 (up2 (up2 M 2 0 (nI N)) 2 1 (nI E)) 2 2 (nI A)) 3 4 8 9 10) 3 4 5 6 E 7, ?_, NS_mk ⟨by decide, by decide, by decide⟩ ⟨by decide, by decide, by decide, by decide⟩ (by rw [cp2_ne (by decide) (by decide)]; simp [up2_at]) (by rw [cp2_ne (by decide) (by decide)]; simp [up2_at]) (by rw [cp2_ne (by decide) (by decide)]; simp [up2_at]) (fun e he => ?_) hb, Fr_mk (by decide) (by decide) (fun x hx => ?_)⟩
  rotate_left 1
  · have := hl1 e he
    have h10 : e < 10 := by omega
    simp [cp2, up2_at, h10, this.1, this.2]
  · simp only [List.mem_cons, not_or] at hx
    rw [cp2_ne (by omega) (by omega), up2_ne (by omega), up2_ne (by omega), up2_ne (by omega)]
  refine Ex_in mi_X4_copy rfl rfl ⟨Nat.le_refl _, Nat.le_refl _⟩ ?_
  show RR _ cd_X4_copy false _ (0, [(0, .ref 2), (1, .ref 7)], [], (SH, M, ML))
  refine r_ld rfl rfl ?_
  refine r_ld rfl rfl ?_
  refine q_geti rfl rfl rfl rfl rfl ?_
  refine q_put rfl rfl rfl rfl rfl (Or.inl rfl) ?_
  refine r_ld rfl rfl ?_
  refine r_ld rfl rfl ?_
  refine q_geti rfl rfl rfl rfl rfl ?_
  refine q_put rfl rfl rfl rfl rfl (Or.inl rfl) ?_
  refine r_ld rfl rfl ?_
  refine r_ld rfl rfl ?_
  refine q_geti rfl rfl rfl rfl rfl ?_
  refine q_put rfl rfl rfl rfl rfl (Or.inl rfl) ?_
  refine r_cst (v := .int 0) rfl rfl ?_
  refine r_sto (L' := [(0, _), (1, _), (2, _)]) rfl rfl ?_
  rw [hN1, show up2 M 2 0 (nI N) 7 1 = nI E by rw [up2_ne (by decide)]; exact hE1, show up2 (up2 M 2 0 (nI N)) 2 1 (nI E) 7 2 = nI A by rw [up2_ne (by decide), up2_ne (by decide)]; exact hA1]
  exact lp_X4_copy_26_2_7 d (up2 (up2 (up2 M 2 0 (nI N)) 2 1 (nI E)) 2 2 (nI A)) ML hE (by simp [up2_at]) rfl 0 (Nat.zero_le _) _ _ rfl (cp2_0 _ _ _ _ _).symm

set_option maxHeartbeats 1000000 in
set_option maxRecDepth 10000 in
theorem lp_X4_copy_26_2_50 (d : Nat) (M : Nat → Nat → Int32) (ML : Nat → Nat → Int64) {E : Nat} (hE : E ≤ 10) (hE1 : M 2 1 = nI E) {res : Rt} (hk : res = (none, (SH, mkM (cp2 M 3 4 51 52 10) 3 4 5 6 E 7, ML))) :
    ∀ e, e ≤ 10 → ∀ (i : Int32) (M' : Nat → Nat → Int32), i = nI e → M' = cp2 M 3 4 51 52 e → RR (d + 2) cd_X4_copy false res (26, [(0, .ref 2), (1, .ref 50), (2, .int i)], [], (SH, M', ML)) := by
  refine up_ind fun e he ih => ?_
  intro i M' hv0 hv1
  subst hv0 hv1
  refine r_ld rfl rfl ?_
  refine r_cst (v := .int 10) rfl rfl ?_
  refine r_cj rfl rfl (fun h_29 => ?_) (fun h_29 => ?_)
  · have h9 : e = 10 := by have := nle (a := 10) (b := e) (by decide) (by omega) h_29; omega
    subst h9
    refine r_ld rfl rfl ?_
    refine q_callv (as := [_]) (rest := []) rfl rfl rfl rfl rfl rfl rfl rfl (ok_X4_mark_2 _ _ _ (E := E) (by rw [cp2_ne (by decide) (by decide)]; exact hE1) hE) ?_
    refine r_ret rfl rfl (trivial) ?_
    exact hk
  · have hlt : e < 10 := nnle (a := 10) (b := e) (by decide) (by omega) h_29
    refine r_ld rfl rfl ?_
    refine q_getr rfl rfl rfl rfl rfl ?_
    refine r_ld rfl rfl ?_
    refine r_ld rfl rfl ?_
    refine q_getr rfl rfl rfl rfl rfl ?_
    refine r_ld rfl rfl ?_
    refine q_call (as := [_, _]) (rest := [_, _]) rfl rfl rfl rfl rfl rfl rfl rfl (ok_at_n _ _ _ _ rfl rfl rfl rfl hlt) ?_
    refine q_callv (as := [_, _, _]) (rest := []) rfl rfl rfl rfl rfl rfl rfl rfl (ok_lay_n _ _ _ _ _ rfl rfl rfl rfl hlt) ?_
    refine r_ld rfl rfl ?_
    refine q_getr rfl rfl rfl rfl rfl ?_
    refine r_ld rfl rfl ?_
    refine r_ld rfl rfl ?_
    refine q_getr rfl rfl rfl rfl rfl ?_
    refine r_ld rfl rfl ?_
    refine q_call (as := [_, _]) (rest := [_, _]) rfl rfl rfl rfl rfl rfl rfl rfl (ok_at_n _ _ _ _ rfl rfl rfl rfl hlt) ?_
    refine q_callv (as := [_, _, _]) (rest := []) rfl rfl rfl rfl rfl rfl rfl rfl (ok_lay_n _ _ _ _ _ rfl rfl rfl rfl hlt) ?_
    refine q_inc (y := _ + 1) rfl rfl rfl ?_
    refine q_norm (L' := [(0, _), (1, _), (2, _)]) rfl ?_
    refine r_go rfl ?_
    exact ih hlt _ _ (nI_1 e) (cp2_succ (by decide))

set_option maxHeartbeats 1000000 in
set_option maxRecDepth 10000 in
theorem ok_X4_copy_2_50 (d : Nat) (M : Nat → Nat → Int32) (ML : Nat → Nat → Int64) {N E A : Nat} {l h : Nat → Nat} (hS : NS M 50 51 52 53 54 N E A l h) (hE : E ≤ 10) (hb : ∀ e, e < E → l e < 7 ∧ h e < 7) : ∃ M', Ex (d + 3) k_X4_copy [.ref 2, .ref 50] (SH, M, ML) (none, (SH, M', ML)) ∧ NS M' 2 3 4 5 6 N E A l h ∧ Fr [2, 3, 4, 5, 6] M M' := by
  obtain ⟨hN1, hE1, hA1, hl1, -⟩ := hS
  refine ⟨mkM (cp2 (up2 (up2 (up2 M 2 0 (nI N)) 2 1 (nI E)) 2 2 (nI A)) 3 4 51 52 10) 3 4 5 6 E 7, ?_, NS_mk ⟨by decide, by decide, by decide⟩ ⟨by decide, by decide, by decide, by decide⟩ (by rw [cp2_ne (by decide) (by decide)]; simp [up2_at]) (by rw [cp2_ne (by decide) (by decide)]; simp [up2_at]) (by rw [cp2_ne (by decide) (by decide)]; simp [up2_at]) (fun e he => ?_) hb, Fr_mk (by decide) (by decide) (fun x hx => ?_)⟩
  rotate_left 1
  · have := hl1 e he
    have h10 : e < 10 := by omega
    simp [cp2, up2_at, h10, this.1, this.2]
  · simp only [List.mem_cons, not_or] at hx
    rw [cp2_ne (by omega) (by omega), up2_ne (by omega), up2_ne (by omega), up2_ne (by omega)]
  refine Ex_in mi_X4_copy rfl rfl ⟨Nat.le_refl _, Nat.le_refl _⟩ ?_
  show RR _ cd_X4_copy false _ (0, [(0, .ref 2), (1, .ref 50)], [], (SH, M, ML))
  refine r_ld rfl rfl ?_
  refine r_ld rfl rfl ?_
  refine q_geti rfl rfl rfl rfl rfl ?_
  refine q_put rfl rfl rfl rfl rfl (Or.inl rfl) ?_
  refine r_ld rfl rfl ?_
  refine r_ld rfl rfl ?_
  refine q_geti rfl rfl rfl rfl rfl ?_
  refine q_put rfl rfl rfl rfl rfl (Or.inl rfl) ?_
  refine r_ld rfl rfl ?_
  refine r_ld rfl rfl ?_
  refine q_geti rfl rfl rfl rfl rfl ?_
  refine q_put rfl rfl rfl rfl rfl (Or.inl rfl) ?_
  refine r_cst (v := .int 0) rfl rfl ?_
  refine r_sto (L' := [(0, _), (1, _), (2, _)]) rfl rfl ?_
  rw [hN1, show up2 M 2 0 (nI N) 50 1 = nI E by rw [up2_ne (by decide)]; exact hE1, show up2 (up2 M 2 0 (nI N)) 2 1 (nI E) 50 2 = nI A by rw [up2_ne (by decide), up2_ne (by decide)]; exact hA1]
  exact lp_X4_copy_26_2_50 d (up2 (up2 (up2 M 2 0 (nI N)) 2 1 (nI E)) 2 2 (nI A)) ML hE (by simp [up2_at]) rfl 0 (Nat.zero_le _) _ _ rfl (cp2_0 _ _ _ _ _).symm

set_option maxHeartbeats 1000000 in
set_option maxRecDepth 10000 in
theorem ok_X4_clear_7 (d : Nat) (M : Nat → Nat → Int32) (ML : Nat → Nat → Int64) (N : Nat) (l h : Nat → Nat) : ∃ M', Ex (d + 3) k_X4_clear [.ref 7, .int (nI N)] (SH, M, ML) (none, (SH, M', ML)) ∧ NS M' 7 8 9 10 11 N 0 0 l h ∧ Fr [7, 8, 9, 10, 11] M M' := by
  refine ⟨mkM (up2 (up2 (up2 M 7 0 (nI N)) 7 1 (nI 0)) 7 2 (nI 0)) 8 9 10 11 0 7, ?_, NS_mk ⟨by decide, by decide, by decide⟩ ⟨by decide, by decide, by decide, by decide⟩ (by simp [up2_at]) (by simp [up2_at]) (by simp [up2_at]) (fun e he => absurd he (Nat.not_lt_zero _)) (fun e he => absurd he (Nat.not_lt_zero _)), Fr_mk (by decide) (by decide) (Fr_up (by decide) (Fr_up (by decide) (Fr_up (by decide) Fr_rf)))⟩
  refine Ex_in mi_X4_clear rfl rfl ⟨Nat.le_refl _, Nat.le_refl _⟩ ?_
  show RR _ cd_X4_clear false _ (0, [(0, .ref 7), (1, .int (nI N))], [], (SH, M, ML))
  refine r_ld rfl rfl ?_
  refine r_ld rfl rfl ?_
  refine q_put rfl rfl rfl rfl rfl (Or.inl rfl) ?_
  refine r_ld rfl rfl ?_
  refine r_cst (v := .int 0) rfl rfl ?_
  refine q_put rfl rfl rfl rfl rfl (Or.inl rfl) ?_
  refine r_ld rfl rfl ?_
  refine r_cst (v := .int 0) rfl rfl ?_
  refine q_put rfl rfl rfl rfl rfl (Or.inl rfl) ?_
  refine r_ld rfl rfl ?_
  refine q_callv (as := [_]) (rest := []) rfl rfl rfl rfl rfl rfl rfl rfl (ok_X4_mark_7 d _ _ (E := 0) (by simp [up2_at]; rfl) (by decide)) ?_
  refine r_ret rfl rfl (trivial) ?_
  exact rfl

set_option maxHeartbeats 1000000 in
set_option maxRecDepth 10000 in
theorem ok_X4_join_7 (d : Nat) (M : Nat → Nat → Int32) (ML : Nat → Nat → Int64) {N E A i j : Nat} {l h : Nat → Nat} (hS : NS M 7 8 9 10 11 N E A l h) (hE : E < 10) (hi : i < 7) (hj : j < 7) (hb : ∀ e, e < E → l e < 7 ∧ h e < 7) : ∃ M', Ex (d + 3) k_X4_join [.ref 7, .int (nI i), .int (nI j)] (SH, M, ML) (none, (SH, M', ML)) ∧ NS M' 7 8 9 10 11 N (E + 1) (A ||| (if i < j then 0 else 2 ^ E)) (fun e => if e = E then min i j else l e) (fun e => if e = E then max i j else h e) ∧ Fr [7, 8, 9, 10, 11] M M' := by
  obtain ⟨hN1, hE1, hA1, hl1, -⟩ := hS
  refine ⟨mkM (up2 (up2 (up2 (up2 M 8 E (nI (min i j))) 9 E (nI (max i j))) 7 2 (nI (A ||| (if i < j then 0 else 2 ^ E)))) 7 1 (nI (E + 1))) 8 9 10 11 (E + 1) 7, ?_, NS_mk ⟨by decide, by decide, by decide⟩ ⟨by decide, by decide, by decide, by decide⟩ (by simp [up2_at, hN1]) (by simp [up2_at]) (by simp [up2_at]) (fun e he => ?_) (fun e he => ?_), Fr_mk (by decide) (by decide) (Fr_up (by decide) (Fr_up (by decide) (Fr_up (by decide) (Fr_up (by decide) Fr_rf))))⟩
  rotate_left 1
  · by_cases he2 : e = E
    · subst he2; simp [up2_at]
    · have := hl1 e (by omega)
      simp [up2_at, he2, this.1, this.2]
  · by_cases he2 : e = E
    · subst he2; simp; omega
    · have := hb e (by omega)
      simp [he2]; omega
  refine Ex_in mi_X4_join rfl rfl ⟨Nat.le_refl _, Nat.le_refl _⟩ ?_
  show RR _ cd_X4_join false _ (0, [(0, .ref 7), (1, .int (nI i)), (2, .int (nI j))], [], (SH, M, ML))
  refine r_ld rfl rfl ?_
  refine q_geti rfl rfl rfl rfl rfl ?_
  refine r_cst (v := .int 10) rfl rfl ?_
  refine q_cjF rfl rfl (by rw [hE1]; exact nI_ge hE (by decide)) ?_
  refine r_ld rfl rfl ?_
  refine q_getr rfl rfl rfl rfl rfl ?_
  refine r_ld rfl rfl ?_
  refine q_geti rfl rfl rfl rfl rfl ?_
  refine r_ld rfl rfl ?_
  refine r_ld rfl rfl ?_
  refine r_mm rfl rfl (Nat.le_of_ble_eq_true rfl) ?_
  rw [minI (by omega) (by omega)]
  refine q_callv (as := [_, _, _]) (rest := []) rfl rfl rfl rfl rfl rfl rfl rfl (ok_lay_n _ _ _ _ _ rfl rfl rfl hE1 hE) ?_
  refine r_ld rfl rfl ?_
  refine q_getr rfl rfl rfl rfl rfl ?_
  refine r_ld rfl rfl ?_
  refine q_geti rfl rfl rfl rfl rfl ?_
  refine r_ld rfl rfl ?_
  refine r_ld rfl rfl ?_
  refine r_mm rfl rfl (Nat.le_of_ble_eq_true rfl) ?_
  rw [maxI (by omega) (by omega)]
  refine q_callv (as := [_, _, _]) (rest := []) rfl rfl rfl rfl rfl rfl rfl rfl (ok_lay_n _ _ _ _ _ rfl rfl rfl (by rw [up2_ne (by decide)]; exact hE1) hE) ?_
  refine r_ld rfl rfl ?_
  refine r_stk rfl rfl ?_
  refine q_geti rfl rfl rfl rfl rfl ?_
  refine r_ld rfl rfl ?_
  refine r_ld rfl rfl ?_
  refine r_cj rfl rfl (fun h_48 => ?_) (fun h_48 => ?_)
  · refine r_cst (v := .int 1) rfl rfl ?_
    refine r_ld rfl rfl ?_
    refine q_geti rfl rfl rfl rfl rfl ?_
    refine r_bin rfl rfl ?_
    refine r_bin rfl rfl ?_
    have hA9 : ∀ x : Int32, x = (if i < j then 0 else 1) → ((up2 (up2 M 8 E (nI (min i j))) 9 E (nI (max i j))) 7 2 ||| x <<< ((up2 (up2 M 8 E (nI (min i j))) 9 E (nI (max i j))) 7 1 &&& 31)) = nI (A ||| (if i < j then 0 else 2 ^ E)) := fun x hx => by
      rw [show (up2 (up2 M 8 E (nI (min i j))) 9 E (nI (max i j))) 7 2 = nI A by rw [up2_ne (by decide), up2_ne (by decide)]; exact hA1, show (up2 (up2 M 8 E (nI (min i j))) 9 E (nI (max i j))) 7 1 = nI E by rw [up2_ne (by decide), up2_ne (by decide)]; exact hE1, hx, ← orN]
      by_cases hij : i < j
      · rw [if_pos hij, if_pos hij, sh_b0 (by omega)]; rfl
      · rw [if_neg hij, if_neg hij, sh_b1 (by omega)]; rfl
    rw [hA9 _ (by first | exact (if_pos (nnle (by omega) (by omega) h_48)).symm | exact (if_neg (by have := nle (by omega) (by omega) h_48; omega)).symm)]
    refine q_put rfl rfl rfl rfl rfl (Or.inl rfl) ?_
    refine r_ld rfl rfl ?_
    refine r_stk rfl rfl ?_
    refine q_geti rfl rfl rfl rfl rfl ?_
    refine r_cst (v := .int 1) rfl rfl ?_
    refine r_bin rfl rfl ?_
    rw [show (up2 (up2 (up2 M 8 E (nI (min i j))) 9 E (nI (max i j))) 7 2 (nI (A ||| (if i < j then 0 else 2 ^ E)))) 7 1 + 1 = nI (E + 1) by rw [up2_at, if_neg (by decide), up2_ne (by decide), up2_ne (by decide), hE1]; exact nI_1 E]
    refine q_put rfl rfl rfl rfl rfl (Or.inl rfl) ?_
    refine r_ld rfl rfl ?_
    refine q_callv (as := [_]) (rest := []) rfl rfl rfl rfl rfl rfl rfl rfl (ok_X4_mark_7 _ _ _ (E := E + 1) (by simp [up2_at]) (by omega)) ?_
    refine r_ret rfl rfl (trivial) ?_
    exact rfl
  · refine r_cst (v := .int 0) rfl rfl ?_
    refine r_go rfl ?_
    refine r_ld rfl rfl ?_
    refine q_geti rfl rfl rfl rfl rfl ?_
    refine r_bin rfl rfl ?_
    refine r_bin rfl rfl ?_
    have hA9 : ∀ x : Int32, x = (if i < j then 0 else 1) → ((up2 (up2 M 8 E (nI (min i j))) 9 E (nI (max i j))) 7 2 ||| x <<< ((up2 (up2 M 8 E (nI (min i j))) 9 E (nI (max i j))) 7 1 &&& 31)) = nI (A ||| (if i < j then 0 else 2 ^ E)) := fun x hx => by
      rw [show (up2 (up2 M 8 E (nI (min i j))) 9 E (nI (max i j))) 7 2 = nI A by rw [up2_ne (by decide), up2_ne (by decide)]; exact hA1, show (up2 (up2 M 8 E (nI (min i j))) 9 E (nI (max i j))) 7 1 = nI E by rw [up2_ne (by decide), up2_ne (by decide)]; exact hE1, hx, ← orN]
      by_cases hij : i < j
      · rw [if_pos hij, if_pos hij, sh_b0 (by omega)]; rfl
      · rw [if_neg hij, if_neg hij, sh_b1 (by omega)]; rfl
    rw [hA9 _ (by first | exact (if_pos (nnle (by omega) (by omega) h_48)).symm | exact (if_neg (by have := nle (by omega) (by omega) h_48; omega)).symm)]
    refine q_put rfl rfl rfl rfl rfl (Or.inl rfl) ?_
    refine r_ld rfl rfl ?_
    refine r_stk rfl rfl ?_
    refine q_geti rfl rfl rfl rfl rfl ?_
    refine r_cst (v := .int 1) rfl rfl ?_
    refine r_bin rfl rfl ?_
    rw [show (up2 (up2 (up2 M 8 E (nI (min i j))) 9 E (nI (max i j))) 7 2 (nI (A ||| (if i < j then 0 else 2 ^ E)))) 7 1 + 1 = nI (E + 1) by rw [up2_at, if_neg (by decide), up2_ne (by decide), up2_ne (by decide), hE1]; exact nI_1 E]
    refine q_put rfl rfl rfl rfl rfl (Or.inl rfl) ?_
    refine r_ld rfl rfl ?_
    refine q_callv (as := [_]) (rest := []) rfl rfl rfl rfl rfl rfl rfl rfl (ok_X4_mark_7 _ _ _ (E := E + 1) (by simp [up2_at]) (by omega)) ?_
    refine r_ret rfl rfl (trivial) ?_
    exact rfl

set_option maxHeartbeats 1000000 in
set_option maxRecDepth 10000 in
theorem lp_X4_copy_26_50_2 (d : Nat) (M : Nat → Nat → Int32) (ML : Nat → Nat → Int64) {E : Nat} (hE : E ≤ 10) (hE1 : M 50 1 = nI E) {res : Rt} (hk : res = (none, (SH, mkM (cp2 M 51 52 3 4 10) 51 52 53 54 E 7, ML))) :
    ∀ e, e ≤ 10 → ∀ (i : Int32) (M' : Nat → Nat → Int32), i = nI e → M' = cp2 M 51 52 3 4 e → RR (d + 2) cd_X4_copy false res (26, [(0, .ref 50), (1, .ref 2), (2, .int i)], [], (SH, M', ML)) := by
  refine up_ind fun e he ih => ?_
  intro i M' hv0 hv1
  subst hv0 hv1
  refine r_ld rfl rfl ?_
  refine r_cst (v := .int 10) rfl rfl ?_
  refine r_cj rfl rfl (fun h_29 => ?_) (fun h_29 => ?_)
  · have h9 : e = 10 := by have := nle (a := 10) (b := e) (by decide) (by omega) h_29; omega
    subst h9
    refine r_ld rfl rfl ?_
    refine q_callv (as := [_]) (rest := []) rfl rfl rfl rfl rfl rfl rfl rfl (ok_X4_mark_50 _ _ _ (E := E) (by rw [cp2_ne (by decide) (by decide)]; exact hE1) hE) ?_
    refine r_ret rfl rfl (trivial) ?_
    exact hk
  · have hlt : e < 10 := nnle (a := 10) (b := e) (by decide) (by omega) h_29
    refine r_ld rfl rfl ?_
    refine q_getr rfl rfl rfl rfl rfl ?_
    refine r_ld rfl rfl ?_
    refine r_ld rfl rfl ?_
    refine q_getr rfl rfl rfl rfl rfl ?_
    refine r_ld rfl rfl ?_
    refine q_call (as := [_, _]) (rest := [_, _]) rfl rfl rfl rfl rfl rfl rfl rfl (ok_at_n _ _ _ _ rfl rfl rfl rfl hlt) ?_
    refine q_callv (as := [_, _, _]) (rest := []) rfl rfl rfl rfl rfl rfl rfl rfl (ok_lay_n _ _ _ _ _ rfl rfl rfl rfl hlt) ?_
    refine r_ld rfl rfl ?_
    refine q_getr rfl rfl rfl rfl rfl ?_
    refine r_ld rfl rfl ?_
    refine r_ld rfl rfl ?_
    refine q_getr rfl rfl rfl rfl rfl ?_
    refine r_ld rfl rfl ?_
    refine q_call (as := [_, _]) (rest := [_, _]) rfl rfl rfl rfl rfl rfl rfl rfl (ok_at_n _ _ _ _ rfl rfl rfl rfl hlt) ?_
    refine q_callv (as := [_, _, _]) (rest := []) rfl rfl rfl rfl rfl rfl rfl rfl (ok_lay_n _ _ _ _ _ rfl rfl rfl rfl hlt) ?_
    refine q_inc (y := _ + 1) rfl rfl rfl ?_
    refine q_norm (L' := [(0, _), (1, _), (2, _)]) rfl ?_
    refine r_go rfl ?_
    exact ih hlt _ _ (nI_1 e) (cp2_succ (by decide))

set_option maxHeartbeats 1000000 in
set_option maxRecDepth 10000 in
theorem ok_X4_copy_50_2 (d : Nat) (M : Nat → Nat → Int32) (ML : Nat → Nat → Int64) {N E A : Nat} {l h : Nat → Nat} (hS : NS M 2 3 4 5 6 N E A l h) (hE : E ≤ 10) (hb : ∀ e, e < E → l e < 7 ∧ h e < 7) : ∃ M', Ex (d + 3) k_X4_copy [.ref 50, .ref 2] (SH, M, ML) (none, (SH, M', ML)) ∧ NS M' 50 51 52 53 54 N E A l h ∧ Fr [50, 51, 52, 53, 54] M M' := by
  obtain ⟨hN1, hE1, hA1, hl1, -⟩ := hS
  refine ⟨mkM (cp2 (up2 (up2 (up2 M 50 0 (nI N)) 50 1 (nI E)) 50 2 (nI A)) 51 52 3 4 10) 51 52 53 54 E 7, ?_, NS_mk ⟨by decide, by decide, by decide⟩ ⟨by decide, by decide, by decide, by decide⟩ (by rw [cp2_ne (by decide) (by decide)]; simp [up2_at]) (by rw [cp2_ne (by decide) (by decide)]; simp [up2_at]) (by rw [cp2_ne (by decide) (by decide)]; simp [up2_at]) (fun e he => ?_) hb, Fr_mk (by decide) (by decide) (fun x hx => ?_)⟩
  rotate_left 1
  · have := hl1 e he
    have h10 : e < 10 := by omega
    simp [cp2, up2_at, h10, this.1, this.2]
  · simp only [List.mem_cons, not_or] at hx
    rw [cp2_ne (by omega) (by omega), up2_ne (by omega), up2_ne (by omega), up2_ne (by omega)]
  refine Ex_in mi_X4_copy rfl rfl ⟨Nat.le_refl _, Nat.le_refl _⟩ ?_
  show RR _ cd_X4_copy false _ (0, [(0, .ref 50), (1, .ref 2)], [], (SH, M, ML))
  refine r_ld rfl rfl ?_
  refine r_ld rfl rfl ?_
  refine q_geti rfl rfl rfl rfl rfl ?_
  refine q_put rfl rfl rfl rfl rfl (Or.inl rfl) ?_
  refine r_ld rfl rfl ?_
  refine r_ld rfl rfl ?_
  refine q_geti rfl rfl rfl rfl rfl ?_
  refine q_put rfl rfl rfl rfl rfl (Or.inl rfl) ?_
  refine r_ld rfl rfl ?_
  refine r_ld rfl rfl ?_
  refine q_geti rfl rfl rfl rfl rfl ?_
  refine q_put rfl rfl rfl rfl rfl (Or.inl rfl) ?_
  refine r_cst (v := .int 0) rfl rfl ?_
  refine r_sto (L' := [(0, _), (1, _), (2, _)]) rfl rfl ?_
  rw [hN1, show up2 M 50 0 (nI N) 2 1 = nI E by rw [up2_ne (by decide)]; exact hE1, show up2 (up2 M 50 0 (nI N)) 50 1 (nI E) 2 2 = nI A by rw [up2_ne (by decide), up2_ne (by decide)]; exact hA1]
  exact lp_X4_copy_26_50_2 d (up2 (up2 (up2 M 50 0 (nI N)) 50 1 (nI E)) 50 2 (nI A)) ML hE (by simp [up2_at]) rfl 0 (Nat.zero_le _) _ _ rfl (cp2_0 _ _ _ _ _).symm

