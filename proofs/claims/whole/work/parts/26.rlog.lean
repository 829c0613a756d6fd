/-! ===== the reference: the log ===== -/
/-- rows outside S (and 73) stay, and of row 73 the fields outside F -/
def Fm (S F : List Nat) (M M' : Nat → Nat → Int32) : Prop := (∀ x, x ∉ S → x ≠ 73 → M' x = M x) ∧ ∀ k, k ∉ F → M' 73 k = M 73 k
theorem Fm_rf {S F : List Nat} {M : Nat → Nat → Int32} : Fm S F M M := ⟨fun _ _ _ => rfl, fun _ _ => rfl⟩
theorem Fm_up {S F : List Nat} {M M' : Nat → Nat → Int32} {a k : Nat} {v : Int32} (ha : a ∈ S) (h7 : a ≠ 73) (h : Fm S F M M') : Fm S F M (up2 M' a k v) :=
  ⟨fun x hx h9 => by rw [up2_ne (fun q => hx (by rw [q]; exact ha))]; exact h.1 x hx h9, fun j hj => by rw [up2_ne (Ne.symm h7)]; exact h.2 j hj⟩
theorem Fm_f {S F : List Nat} {M M' : Nat → Nat → Int32} {k : Nat} {v : Int32} (hk : k ∈ F) (h : Fm S F M M') : Fm S F M (up2 M' 73 k v) :=
  ⟨fun x hx h9 => by rw [up2_ne h9]; exact h.1 x hx h9, fun j hj => by rw [up2_at, if_neg (fun q => hj (by rw [q.2]; exact hk))]; exact h.2 j hj⟩
theorem Fm_tr {S F : List Nat} {M M' M'' : Nat → Nat → Int32} (h : Fm S F M M') (h2 : Fm S F M' M'') : Fm S F M M'' := ⟨fun x hx h9 => (h2.1 x hx h9).trans (h.1 x hx h9), fun k hk => (h2.2 k hk).trans (h.2 k hk)⟩
theorem Fm_mono {S S' F F' : List Nat} {M M' : Nat → Nat → Int32} (h : Fm S F M M') (hs : ∀ x ∈ S, x ∈ S') (hf : ∀ x ∈ F, x ∈ F') : Fm S' F' M M' := ⟨fun x hx h9 => h.1 x (fun q => hx (hs x q)) h9, fun k hk => h.2 k (fun q => hk (hf k q))⟩
def shm (M : Nat → Nat → Int32) (f m e : Nat) : Nat → Nat → Int32 := fun x y => if (x = 76 ∨ x = 77) ∧ f ≤ y ∧ y < e then M x (y + m) else M x y
theorem shm_0 (M : Nat → Nat → Int32) (f m : Nat) : shm M f m f = M := by
  funext x y
  unfold shm
  rw [if_neg (by omega)]
theorem shm_ne {M : Nat → Nat → Int32} {f m e x : Nat} (h1 : x ≠ 76) (h2 : x ≠ 77) : shm M f m e x = M x := by
  funext y; simp [shm, h1, h2]
theorem shm_hi {M : Nat → Nat → Int32} {f m e x y : Nat} (h : e ≤ y) : shm M f m e x y = M x y := by
  unfold shm
  rw [if_neg (by omega)]
theorem shm_succ {M : Nat → Nat → Int32} {f m e : Nat} (hk : f ≤ e) : up2 (up2 (shm M f m e) 76 e (M 76 (e + m))) 77 e (M 77 (e + m)) = shm M f m (e + 1) := by
  funext x y
  rw [up2_at, up2_at]
  unfold shm
  by_cases hy : y = e
  · subst hy
    by_cases hx : x = 76
    · subst hx; simp [hk]
    · by_cases hx2 : x = 77
      · subst hx2; simp [hk]
      · simp [hx, hx2]
  · have : (f ≤ y ∧ y < e + 1) ↔ (f ≤ y ∧ y < e) := by omega
    simp [hy, this]
theorem LG_out {f g f' g' : Nat → Int32} {c : Int32} {L : List (Nat × Bool)} {k m : Nat} (h : LG c f g L) (hkm : k + m ≤ L.length) (hf : ∀ y, f' y = (if k ≤ y ∧ y < L.length - m then f (y + m) else f y) ∧ g' y = (if k ≤ y ∧ y < L.length - m then g (y + m) else g y)) : LG (nI (L.length - m)) f' g' (L.take k ++ L.drop (k + m)) := by
  obtain ⟨-, h2, h3⟩ := h
  have hlen : (L.take k ++ L.drop (k + m)).length = L.length - m := by simp; omega
  refine ⟨by rw [hlen], by rw [hlen]; omega, fun y v b hy => ?_⟩
  have hyl := (List.getElem?_eq_some_iff.mp hy).1
  rw [hlen] at hyl
  obtain ⟨h4, h5⟩ := hf y
  by_cases hyk : y < k
  · rw [List.getElem?_append_left (by simp; omega), List.getElem?_take, if_pos hyk] at hy
    rw [h4, h5, if_neg (by omega), if_neg (by omega)]
    exact h3 y v b hy
  · rw [List.getElem?_append_right (by simp; omega), List.getElem?_drop] at hy
    have e9 : k + m + (y - (L.take k).length) = y + m := by simp; omega
    rw [e9] at hy
    rw [h4, h5, if_pos ⟨by omega, hyl⟩, if_pos ⟨by omega, hyl⟩]
    exact h3 (y + m) v b hy

set_option maxHeartbeats 1000000 in
set_option maxRecDepth 10000 in
theorem lp_X12_goesOut_12 (d : Nat) (M : Nat → Nat → Int32) (ML : Nat → Nat → Int64) {f m n : Nat} (hn : M 73 5 = nI n) (hnm : n + m ≤ 24) {res : Rt} (hk : res = (none, (SH, shm M f m n, ML))) :
    ∀ e, e ≤ n → f ≤ e → ∀ (i : Int32) (M' : Nat → Nat → Int32), i = nI e → M' = shm M f m e → RR d cd_X12_goesOut false res (12, [(0, .ref 73), (1, .int ((nI f))), (2, .int ((nI m))), (3, .int i)], [], (SH, M', ML)) := by
  refine up_ind fun e he ih hfe => ?_
  intro i M' hv0 hv1
  subst hv0 hv1
  refine r_ld rfl rfl ?_
  refine r_ld rfl rfl ?_
  refine q_geti rfl rfl rfl rfl rfl ?_
  refine r_cj rfl rfl (fun h_17 => ?_) (fun h_17 => ?_)
  · have h9 : e = n := by
      have := nle (by omega) (by omega) (show nI n ≤ nI e by rw [← hn, ← shm_ne (M := M) (f := f) (m := m) (e := e) (x := 73) (by decide) (by decide)]; exact h_17)
      omega
    subst h9
    refine r_ret rfl rfl (trivial) ?_
    exact hk
  · have hlt : e < n := nnle (by omega) (by omega) (by rw [← hn, ← shm_ne (M := M) (f := f) (m := m) (e := e) (x := 73) (by decide) (by decide)]; exact h_17)
    refine r_ld rfl rfl ?_
    refine q_getr rfl rfl rfl rfl rfl ?_
    refine r_ld rfl rfl ?_
    refine r_ld rfl rfl ?_
    refine q_getr rfl rfl rfl rfl rfl ?_
    refine r_ld rfl rfl ?_
    refine r_ld rfl rfl ?_
    refine r_bin rfl rfl ?_
    refine q_ain rfl rfl rfl (nI_add e m) (by omega) rfl ?_
    refine q_sin rfl rfl rfl (rfl) (by omega) rfl ?_
    refine r_ld rfl rfl ?_
    refine q_getr rfl rfl rfl rfl rfl ?_
    refine r_ld rfl rfl ?_
    refine r_ld rfl rfl ?_
    refine q_getr rfl rfl rfl rfl rfl ?_
    refine r_ld rfl rfl ?_
    refine r_ld rfl rfl ?_
    refine r_bin rfl rfl ?_
    refine q_ain rfl rfl rfl (nI_add e m) (by omega) rfl ?_
    refine q_sin rfl rfl rfl (rfl) (by omega) rfl ?_
    refine q_inc (y := _ + 1) rfl rfl rfl ?_
    refine q_norm (L' := [(0, _), (1, _), (2, _), (3, _)]) rfl ?_
    refine r_go rfl ?_
    refine ih hlt (by omega) _ _ (nI_1 e) ?_
    rw [shm_hi (by omega), up2_ne (by decide), shm_hi (by omega)]
    exact shm_succ hfe

set_option maxHeartbeats 1000000 in
set_option maxRecDepth 10000 in
theorem ok_X12_goesOut (d : Nat) (M : Nat → Nat → Int32) (ML : Nat → Nat → Int64) {L : List (Nat × Bool)} {k m : Nat} (hL : LG (M 73 5) (M 76) (M 77) L) (hkm : k + m ≤ L.length) : ∃ M', Ex (d + 1) k_X12_goesOut [.ref 73, .int (nI k), .int (nI m)] (SH, M, ML) (none, (SH, M', ML)) ∧ LG (M' 73 5) (M' 76) (M' 77) (L.take k ++ L.drop (k + m)) ∧ Fm [76, 77] [5] M M' := by
  have h24 := hL.2.1
  refine ⟨shm (up2 M 73 5 (nI (L.length - m))) k m (L.length - m), ?_, ?_, ?_⟩
  rotate_left 1
  · have h9 := LG_out (f' := shm (up2 M 73 5 (nI (L.length - m))) k m (L.length - m) 76) (g' := shm (up2 M 73 5 (nI (L.length - m))) k m (L.length - m) 77) hL hkm (fun y => ⟨by simp [shm, up2_at], by simp [shm, up2_at]⟩)
    rw [shm_ne (by decide) (by decide), show up2 M 73 5 (nI (L.length - m)) 73 5 = nI (L.length - m) from by simp [up2_at]]
    exact h9
  · refine ⟨fun x hx h9 => ?_, fun j hj => ?_⟩
    · simp only [List.mem_cons, not_or] at hx
      rw [shm_ne (by omega) (by omega), up2_ne h9]
    · rw [shm_ne (by decide) (by decide), up2_at, if_neg (fun q => hj (by rw [q.2]; decide))]
  refine Ex_in mi_X12_goesOut rfl rfl ⟨Nat.le_refl _, Nat.le_refl _⟩ ?_
  show RR _ cd_X12_goesOut false _ (0, [(0, .ref 73), (1, .int (nI k)), (2, .int (nI m))], [], (SH, M, ML))
  refine r_ld rfl rfl ?_
  refine r_stk rfl rfl ?_
  refine q_geti rfl rfl rfl rfl rfl ?_
  refine r_ld rfl rfl ?_
  refine r_bin rfl rfl ?_
  rw [hL.1, pk_sub (by omega)]
  refine q_put rfl rfl rfl rfl rfl (Or.inl rfl) ?_
  refine r_ld rfl rfl ?_
  refine r_sto (L' := [(0, _), (1, _), (2, _), (3, _)]) rfl rfl ?_
  exact lp_X12_goesOut_12 d (up2 M 73 5 (nI (L.length - m))) ML (n := L.length - m) (by simp [up2_at]) (by omega) rfl k (by omega) (Nat.le_refl _) _ _ rfl (shm_0 _ _ _).symm

set_option maxHeartbeats 1000000 in
set_option maxRecDepth 10000 in
theorem ok_X12_logs_b (d : Nat) (M : Nat → Nat → Int32) (ML : Nat → Nat → Int64) {L : List (Nat × Bool)} {v : Nat} {b : Bool} (hL : LG (M 73 5) (M 76) (M 77) L) (hv : v < 7) (h24 : L.length < 24) : ∃ M', Ex (d + 2) k_X12_logs [.ref 73, .int (nI v), .int (b2i b)] (SH, M, ML) (none, (SH, M', ML)) ∧ LG (M' 73 5) (M' 76) (M' 77) (L ++ [(v, b)]) ∧ Fm [76, 77] [5] M M' := by
  refine ⟨(up2 (up2 (up2 M 76 L.length (nI v)) 77 L.length (b2i b)) 73 5 (nI (L.length + 1))), ?_, LG_cong (LG_add (v := v) (b := b) hL h24 hv) (by simp [up2_at]) (fun k hk => ⟨by simp [up2_at, upd], by simp [up2_at, upd]⟩), Fm_f (by decide) (Fm_up (by decide) (by decide) (Fm_up (by decide) (by decide) Fm_rf))⟩
  refine Ex_in mi_X12_logs rfl rfl ⟨Nat.le_refl _, Nat.le_refl _⟩ ?_
  show RR _ cd_X12_logs false _ (0, [(0, .ref 73), (1, .int (nI v)), (2, .int (b2i b))], [], (SH, M, ML))
  refine r_ld rfl rfl ?_
  refine q_geti rfl rfl rfl rfl rfl ?_
  refine r_cst (v := .int 24) rfl rfl ?_
  refine q_cjT rfl rfl (by rw [hL.1]; exact fun q => by have := neq (b := 24) (by omega) (by decide) q; omega) ?_
  refine r_ld rfl rfl ?_
  refine q_getr rfl rfl rfl rfl rfl ?_
  refine r_ld rfl rfl ?_
  refine q_geti rfl rfl rfl rfl rfl ?_
  refine r_ld rfl rfl ?_
  refine q_sin rfl rfl rfl (hL.1) (by omega) rfl ?_
  refine r_ld rfl rfl ?_
  refine q_getr rfl rfl rfl rfl rfl ?_
  refine r_ld rfl rfl ?_
  refine q_geti rfl rfl rfl rfl rfl ?_
  refine r_ld rfl rfl ?_
  refine q_sin rfl rfl rfl (by rw [up2_ne (by decide)]; exact hL.1) (by omega) rfl ?_
  refine r_ld rfl rfl ?_
  refine r_stk rfl rfl ?_
  refine q_geti rfl rfl rfl rfl rfl ?_
  refine r_cst (v := .int 1) rfl rfl ?_
  refine r_bin rfl rfl ?_
  rw [show (up2 (up2 M 76 L.length (nI v)) 77 L.length (b2i b)) 73 5 + 1 = nI (L.length + 1) from by rw [up2_ne (by decide), up2_ne (by decide), hL.1]; exact nI_1 _]
  refine q_put rfl rfl rfl rfl rfl (Or.inl rfl) ?_
  refine r_ret rfl rfl (trivial) ?_
  exact rfl

theorem LG_add2 {f g f' g' : Nat → Int32} {c c' : Int32} {L : List (Nat × Bool)} {v : Nat} {b : Bool} (h : LG c f g L) (hn : L.length < 24) (hv : v < 7) (hc : c' = nI (L.length + 1)) (h1 : f' = upd f L.length (nI v)) (h2 : g' = upd g L.length (b2i b)) : LG c' f' g' (L ++ [(v, b)]) := by
  subst hc h1 h2
  exact LG_add h hn hv

set_option maxHeartbeats 1000000 in
set_option maxRecDepth 10000 in
theorem ok_X12_logs_a (d : Nat) (M : Nat → Nat → Int32) (ML : Nat → Nat → Int64) {L : List (Nat × Bool)} {v : Nat} {b : Bool} (hL : LG (M 73 5) (M 76) (M 77) L) (hv : v < 7) (h24 : L.length = 24) : ∃ M', Ex (d + 2) k_X12_logs [.ref 73, .int (nI v), .int (b2i b)] (SH, M, ML) (none, (SH, M', ML)) ∧ LG (M' 73 5) (M' 76) (M' 77) (L.tail ++ [(v, b)]) ∧ Fm [76, 77] [5] M M' := by
  obtain ⟨M2, h9, hl9, hf9⟩ := ok_X12_goesOut (k := 0) (m := 1) d M ML hL (by omega)
  rw [List.take_zero, List.nil_append, show 0 + 1 = 1 from rfl, List.drop_one] at hl9
  have ht : L.tail.length = 23 := by simp; omega
  have hc : M2 73 5 = nI 23 := by rw [hl9.1, ht]
  refine ⟨(up2 (up2 (up2 M2 76 23 (nI v)) 77 23 (b2i b)) 73 5 (nI 24)), ?_, LG_add2 hl9 (by omega) hv (by rw [ht]; simp [up2_at]) (by rw [ht, up2_ne (by decide), up2_ne (by decide), up2_eq]) (by rw [ht, up2_ne (by decide), up2_eq, up2_ne (by decide)]), Fm_f (by decide) (Fm_up (by decide) (by decide) (Fm_up (by decide) (by decide) hf9))⟩
  refine Ex_in mi_X12_logs rfl rfl ⟨Nat.le_refl _, Nat.le_refl _⟩ ?_
  show RR _ cd_X12_logs false _ (0, [(0, .ref 73), (1, .int (nI v)), (2, .int (b2i b))], [], (SH, M, ML))
  refine r_ld rfl rfl ?_
  refine q_geti rfl rfl rfl rfl rfl ?_
  refine r_cst (v := .int 24) rfl rfl ?_
  refine q_cjF rfl rfl (by rw [hL.1, h24]; exact fun q => q rfl) ?_
  refine r_ld rfl rfl ?_
  refine r_cst (v := .int 0) rfl rfl ?_
  refine r_cst (v := .int 1) rfl rfl ?_
  refine q_callv (as := [_, _, _]) (rest := []) rfl rfl rfl rfl rfl rfl rfl rfl h9 ?_
  refine r_ld rfl rfl ?_
  refine q_getr rfl rfl rfl rfl rfl ?_
  refine r_ld rfl rfl ?_
  refine q_geti rfl rfl rfl rfl rfl ?_
  refine r_ld rfl rfl ?_
  refine q_sin rfl rfl rfl (hc) (by omega) rfl ?_
  refine r_ld rfl rfl ?_
  refine q_getr rfl rfl rfl rfl rfl ?_
  refine r_ld rfl rfl ?_
  refine q_geti rfl rfl rfl rfl rfl ?_
  refine r_ld rfl rfl ?_
  refine q_sin rfl rfl rfl (by rw [up2_ne (by decide)]; exact hc) (by omega) rfl ?_
  refine r_ld rfl rfl ?_
  refine r_stk rfl rfl ?_
  refine q_geti rfl rfl rfl rfl rfl ?_
  refine r_cst (v := .int 1) rfl rfl ?_
  refine r_bin rfl rfl ?_
  rw [show (up2 (up2 M2 76 23 (nI v)) 77 23 (b2i b)) 73 5 + 1 = nI 24 from by rw [up2_ne (by decide), up2_ne (by decide), hc]; rfl]
  refine q_put rfl rfl rfl rfl rfl (Or.inl rfl) ?_
  refine r_ret rfl rfl (trivial) ?_
  exact rfl

theorem ok_X12_logs (d : Nat) (M : Nat → Nat → Int32) (ML : Nat → Nat → Int64) {L : List (Nat × Bool)} {v : Nat} {b : Bool} (hL : LG (M 73 5) (M 76) (M 77) L) (hv : v < 7) : ∃ M', Ex (d + 2) k_X12_logs [.ref 73, .int (nI v), .int (b2i b)] (SH, M, ML) (none, (SH, M', ML)) ∧ LG (M' 73 5) (M' 76) (M' 77) (addL L (v, b)) ∧ Fm [76, 77] [5] M M' := by
  unfold addL
  by_cases h24 : L.length = 24
  · rw [if_pos h24]
    exact ok_X12_logs_a d M ML hL hv h24
  · rw [if_neg h24]
    exact ok_X12_logs_b d M ML hL hv (by have := hL.2.1; omega)

