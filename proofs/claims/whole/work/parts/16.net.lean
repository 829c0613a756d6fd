/-! ===== Net ===== -/
/-- a number 0 .. n - 1 -/
def inR (v : Int32) (n : Nat) : Bool := decide (0 ≤ v ∧ v < nI n)
theorem inR_ex {v : Int32} {n : Nat} (hn : n < 2 ^ 31) (h : inR v n = true) : ∃ k, k < n ∧ v = nI k := by
  have h1 := of_decide_eq_true h
  obtain ⟨j, hj, rfl⟩ := nI_of (nlt0.mpr h1.1)
  exact ⟨j, nlt hj hn h1.2, rfl⟩
theorem inR_nI {k n : Nat} (hn : n < 2 ^ 31) (h : k < n) : inR (nI k) n = true := decide_eq_true ⟨nI_pos' (by omega), nI_lt h hn⟩
theorem inR_no {k n : Nat} (hk : k < 2 ^ 31) (h : n ≤ k) : inR (nI k) n = false := decide_eq_false (fun q => nI_nlt h hk q.2)
def srcB (t w x : Int32) : Bool := decide (¬ t = 0 ∧ x &&& t = w)
theorem sh_b1 {e : Nat} (he : e < 31) : (1 : Int32) <<< (nI e &&& 31) = nI (if true then 2 ^ e else 0) := by rw [shl1 (by omega)]; rfl
theorem sh_b0 {e : Nat} (he : e < 31) : (0 : Int32) <<< (nI e &&& 31) = nI (if false then 2 ^ e else 0) := by
  have := shlN (x := 0) (e := e) (by omega) (by rw [Nat.zero_mul]; decide)
  rw [Nat.zero_mul] at this
  exact this
theorem or_b1 {p : Nat → Bool} {e : Nat} (he : e < 31) (hp : p e = true) : nI (msk p e) ||| (1 : Int32) <<< (nI e &&& 31) = nI (msk p (e + 1)) := by
  rw [sh_b1 he, orN, ← msk_or, hp]
theorem or_b0 {p : Nat → Bool} {e : Nat} (he : e < 31) (hp : p e = false) : nI (msk p e) ||| (0 : Int32) <<< (nI e &&& 31) = nI (msk p (e + 1)) := by
  rw [sh_b0 he, orN, ← msk_or, hp]
theorem or_z0 {p : Nat → Bool} {e : Nat} (hp : p e = false) : nI (msk p e) ||| (0 : Int32) = nI (msk p (e + 1)) := by
  rw [show (0 : Int32) = nI 0 from rfl, orN, ← msk_or, hp]
  rfl
theorem sk_b0 {p : Nat → Bool} {e : Nat} (hp : p e = false) : nI (msk p e) = nI (msk p (e + 1)) := by
  rw [← msk_or, hp]; simp
def fstI (p : Nat → Bool) (n : Nat) : Int32 := if fa_first p n < n then nI (fa_first p n) else -1
theorem fstI_no {p : Nat → Bool} {n : Nat} (h : ∀ j, j < n → p j = false) : fstI p n = -1 := by
  unfold fstI
  rw [if_neg]
  intro hlt
  have := fa_first_yes p n hlt
  rw [h _ hlt] at this
  cases this
theorem fstI_yes {p : Nat → Bool} {n e : Nat} (he : e < n) (hp : p e = true) (h : ∀ j, j < e → p j = false) : fstI p n = nI e := by
  unfold fstI
  have h1 : ¬ fa_first p n < e := fun hlt => by
    have := fa_first_yes p n (by omega)
    rw [h _ hlt] at this
    cases this
  have h2 : ¬ e < fa_first p n := fun hlt => by
    have := fa_first_no p n e hlt
    rw [hp] at this
    cases this
  have : fa_first p n = e := by omega
  rw [this, if_pos he]
def mkM (M : Nat → Nat → Int32) (lo hi t w E v : Nat) : Nat → Nat → Int32 := fun x y => if x = t ∧ y < v then nI (msk (fun e => decide (M hi e = nI y) || decide (M lo e = nI y)) E) else if x = w ∧ y < v then nI (msk (fun e => decide (M hi e = nI y)) E) else M x y
theorem mkM_0 (M : Nat → Nat → Int32) (lo hi t w E : Nat) : mkM M lo hi t w E 0 = M := by
  funext x y; simp [mkM]
theorem mkM_ne {M : Nat → Nat → Int32} {lo hi t w E v x : Nat} (h1 : x ≠ t) (h2 : x ≠ w) : mkM M lo hi t w E v x = M x := by
  funext y; simp [mkM, h1, h2]
theorem mkM_succ {M : Nat → Nat → Int32} {lo hi t w E v : Nat} (h : t ≠ w) : up2 (up2 (mkM M lo hi t w E v) t v (nI (msk (fun e => decide (M hi e = nI v) || decide (M lo e = nI v)) E))) w v (nI (msk (fun e => decide (M hi e = nI v)) E)) = mkM M lo hi t w E (v + 1) := by
  funext x y
  rw [up2_at, up2_at]
  unfold mkM
  by_cases hx : x = t
  · subst hx
    by_cases hy : y = v
    · subst hy; simp [h]
    · have : (y < v + 1) ↔ y < v := by omega
      simp [h, hy, this]
  · by_cases hw : x = w
    · subst hw
      by_cases hy : y = v
      · subst hy; simp [Ne.symm h]
      · have : (y < v + 1) ↔ y < v := by omega
        simp [Ne.symm h, hy, this]
    · simp [hx, hw]

set_option maxHeartbeats 1000000 in
set_option maxRecDepth 10000 in
theorem ok_X4_hasNode_2 (d : Nat) (M : Nat → Nat → Int32) (ML : Nat → Nat → Int64) (v : Int32) {N : Nat} (hN : M 2 0 = nI N) : Ex (d + 1) k_X4_hasNode [.ref 2, .int v] (SH, M, ML) (some (.int (b2i (inR v N))), (SH, M, ML)) := by
  refine Ex_in mi_X4_hasNode rfl rfl ⟨Nat.le_refl _, Nat.le_refl _⟩ ?_
  show RR _ cd_X4_hasNode true _ (0, [(0, .ref 2), (1, .int v)], [], (SH, M, ML))
  refine r_ld rfl rfl ?_
  refine r_cj rfl rfl (fun h_1 => ?_) (fun h_1 => ?_)
  · refine r_cst (v := .int 0) rfl rfl ?_
    refine r_ret rfl rfl (by first | exact rb0 | exact rb1 | exact rbB _) ?_
    first | rw [inR, b2f (fun q => nlt0.mpr q.1 h_1)] | rw [inR, b2f (fun q => nle_lt.mpr q.2 (by rw [← hN]; exact h_9))] | rw [inR, b2t ⟨nlt0.mp h_1, by rw [← hN]; exact nle_lt.mp h_9⟩]
  · refine r_ld rfl rfl ?_
    refine r_ld rfl rfl ?_
    refine q_geti rfl rfl rfl rfl rfl ?_
    refine r_cj rfl rfl (fun h_9 => ?_) (fun h_9 => ?_)
    · refine r_cst (v := .int 0) rfl rfl ?_
      refine r_ret rfl rfl (by first | exact rb0 | exact rb1 | exact rbB _) ?_
      first | rw [inR, b2f (fun q => nlt0.mpr q.1 h_1)] | rw [inR, b2f (fun q => nle_lt.mpr q.2 (by rw [← hN]; exact h_9))] | rw [inR, b2t ⟨nlt0.mp h_1, by rw [← hN]; exact nle_lt.mp h_9⟩]
    · refine r_cst (v := .int 1) rfl rfl ?_
      refine r_go rfl ?_
      refine r_ret rfl rfl (by first | exact rb0 | exact rb1 | exact rbB _) ?_
      first | rw [inR, b2f (fun q => nlt0.mpr q.1 h_1)] | rw [inR, b2f (fun q => nle_lt.mpr q.2 (by rw [← hN]; exact h_9))] | rw [inR, b2t ⟨nlt0.mp h_1, by rw [← hN]; exact nle_lt.mp h_9⟩]

set_option maxHeartbeats 1000000 in
set_option maxRecDepth 10000 in
theorem ok_X4_hasEdge (d : Nat) (M : Nat → Nat → Int32) (ML : Nat → Nat → Int64) (v : Int32) {E : Nat} (hN : M 2 1 = nI E) : Ex (d + 1) k_X4_hasEdge [.ref 2, .int v] (SH, M, ML) (some (.int (b2i (inR v E))), (SH, M, ML)) := by
  refine Ex_in mi_X4_hasEdge rfl rfl ⟨Nat.le_refl _, Nat.le_refl _⟩ ?_
  show RR _ cd_X4_hasEdge true _ (0, [(0, .ref 2), (1, .int v)], [], (SH, M, ML))
  refine r_ld rfl rfl ?_
  refine r_cj rfl rfl (fun h_1 => ?_) (fun h_1 => ?_)
  · refine r_cst (v := .int 0) rfl rfl ?_
    refine r_ret rfl rfl (by first | exact rb0 | exact rb1 | exact rbB _) ?_
    first | rw [inR, b2f (fun q => nlt0.mpr q.1 h_1)] | rw [inR, b2f (fun q => nle_lt.mpr q.2 (by rw [← hN]; exact h_9))] | rw [inR, b2t ⟨nlt0.mp h_1, by rw [← hN]; exact nle_lt.mp h_9⟩]
  · refine r_ld rfl rfl ?_
    refine r_ld rfl rfl ?_
    refine q_geti rfl rfl rfl rfl rfl ?_
    refine r_cj rfl rfl (fun h_9 => ?_) (fun h_9 => ?_)
    · refine r_cst (v := .int 0) rfl rfl ?_
      refine r_ret rfl rfl (by first | exact rb0 | exact rb1 | exact rbB _) ?_
      first | rw [inR, b2f (fun q => nlt0.mpr q.1 h_1)] | rw [inR, b2f (fun q => nle_lt.mpr q.2 (by rw [← hN]; exact h_9))] | rw [inR, b2t ⟨nlt0.mp h_1, by rw [← hN]; exact nle_lt.mp h_9⟩]
    · refine r_cst (v := .int 1) rfl rfl ?_
      refine r_go rfl ?_
      refine r_ret rfl rfl (by first | exact rb0 | exact rb1 | exact rbB _) ?_
      first | rw [inR, b2f (fun q => nlt0.mpr q.1 h_1)] | rw [inR, b2f (fun q => nle_lt.mpr q.2 (by rw [← hN]; exact h_9))] | rw [inR, b2t ⟨nlt0.mp h_1, by rw [← hN]; exact nle_lt.mp h_9⟩]

set_option maxHeartbeats 1000000 in
set_option maxRecDepth 10000 in
theorem ok_X4_hasArrowing (d : Nat) (M : Nat → Nat → Int32) (ML : Nat → Nat → Int64) (v : Int32) {E : Nat} (hN : M 2 1 = nI E) (hE : E ≤ 10) : Ex (d + 1) k_X4_hasArrowing [.ref 2, .int v] (SH, M, ML) (some (.int (b2i (inR v (2 ^ E)))), (SH, M, ML)) := by
  refine Ex_in mi_X4_hasArrowing rfl rfl ⟨Nat.le_refl _, Nat.le_refl _⟩ ?_
  show RR _ cd_X4_hasArrowing true _ (0, [(0, .ref 2), (1, .int v)], [], (SH, M, ML))
  refine r_ld rfl rfl ?_
  refine r_cj rfl rfl (fun h_1 => ?_) (fun h_1 => ?_)
  · refine r_cst (v := .int 0) rfl rfl ?_
    refine r_ret rfl rfl (by first | exact rb0 | exact rb1 | exact rbB _) ?_
    first | rw [inR, b2f (fun q => nlt0.mpr q.1 h_1)] | rw [inR, b2f (fun q => nle_lt.mpr q.2 (by rw [← shl1 (e := E) (by omega), ← hN]; exact h_11))] | rw [inR, b2t ⟨nlt0.mp h_1, by rw [← shl1 (e := E) (by omega), ← hN]; exact nle_lt.mp h_11⟩]
  · refine r_ld rfl rfl ?_
    refine r_cst (v := .int 1) rfl rfl ?_
    refine r_ld rfl rfl ?_
    refine q_geti rfl rfl rfl rfl rfl ?_
    refine r_bin rfl rfl ?_
    refine r_cj rfl rfl (fun h_11 => ?_) (fun h_11 => ?_)
    · refine r_cst (v := .int 0) rfl rfl ?_
      refine r_ret rfl rfl (by first | exact rb0 | exact rb1 | exact rbB _) ?_
      first | rw [inR, b2f (fun q => nlt0.mpr q.1 h_1)] | rw [inR, b2f (fun q => nle_lt.mpr q.2 (by rw [← shl1 (e := E) (by omega), ← hN]; exact h_11))] | rw [inR, b2t ⟨nlt0.mp h_1, by rw [← shl1 (e := E) (by omega), ← hN]; exact nle_lt.mp h_11⟩]
    · refine r_cst (v := .int 1) rfl rfl ?_
      refine r_go rfl ?_
      refine r_ret rfl rfl (by first | exact rb0 | exact rb1 | exact rbB _) ?_
      first | rw [inR, b2f (fun q => nlt0.mpr q.1 h_1)] | rw [inR, b2f (fun q => nle_lt.mpr q.2 (by rw [← shl1 (e := E) (by omega), ← hN]; exact h_11))] | rw [inR, b2t ⟨nlt0.mp h_1, by rw [← shl1 (e := E) (by omega), ← hN]; exact nle_lt.mp h_11⟩]

set_option maxHeartbeats 1000000 in
set_option maxRecDepth 10000 in
theorem lp_X4_mark_15_2 (d : Nat) (M : Nat → Nat → Int32) (ML : Nat → Nat → Int64) {E v : Nat} (hE : M 2 1 = nI E) (hE2 : E ≤ 10) {res : Rt} (hk : RR (d + 1) cd_X4_mark false res (95, [(0, .ref 2), (1, .int (nI v)), (2, .int (nI (msk (fun e => decide (M 4 e = nI v) || decide (M 3 e = nI v)) E))), (3, .int (nI (msk (fun e => decide (M 4 e = nI v)) E)))], [], (SH, mkM M 3 4 5 6 E v, ML))) :
    ∀ e, e ≤ E → ∀ (x : Int32) (y : Int32) (i : Int32), x = nI (msk (fun e => decide (M 4 e = nI v) || decide (M 3 e = nI v)) e) → y = nI (msk (fun e => decide (M 4 e = nI v)) e) → i = nI e → RR (d + 1) cd_X4_mark false res (15, [(0, .ref 2), (1, .int (nI v)), (2, .int x), (3, .int y), (4, .int i)], [], (SH, mkM M 3 4 5 6 E v, ML)) := by
  refine up_ind fun e he ih => ?_
  intro x y i hv0 hv1 hv2
  subst hv0 hv1 hv2
  refine r_ld rfl rfl ?_
  refine r_ld rfl rfl ?_
  refine q_geti rfl rfl rfl rfl rfl ?_
  refine r_cj rfl rfl (fun h_21 => ?_) (fun h_21 => ?_)
  · refine q_keep [0, 1, 2, 3] (L' := [(0, _), (1, _), (2, _), (3, _)]) rfl ?_
    have h9 : e = E := by
      have := nle (by omega) (by omega) (show nI E ≤ nI e by rw [← hE, ← mkM_ne (M := M) (lo := 3) (hi := 4) (t := 5) (w := 6) (E := E) (v := v) (x := 2) (by decide) (by decide)]; exact h_21)
      omega
    subst h9
    exact hk
  · have hlt : e < E := nnle (by omega) (by omega) (by rw [← hE, ← mkM_ne (M := M) (lo := 3) (hi := 4) (t := 5) (w := 6) (E := E) (v := v) (x := 2) (by decide) (by decide)]; exact h_21)
    have er4 : rdA (mkM M 3 4 5 6 E v 4) 10 (nI e) = M 4 e := by rw [rdA_nI (by omega) (by decide), mkM_ne (M := M) (lo := 3) (hi := 4) (t := 5) (w := 6) (E := E) (v := v) (x := 4) (by decide) (by decide)]
    have er3 : rdA (mkM M 3 4 5 6 E v 3) 10 (nI e) = M 3 e := by rw [rdA_nI (by omega) (by decide), mkM_ne (M := M) (lo := 3) (hi := 4) (t := 5) (w := 6) (E := E) (v := v) (x := 3) (by decide) (by decide)]
    refine r_ld rfl rfl ?_
    refine q_getr rfl rfl rfl rfl rfl ?_
    refine r_ld rfl rfl ?_
    refine q_call (as := [_, _]) (rest := []) rfl rfl rfl rfl rfl rfl rfl rfl (ok_X11_at _ _ _ _ rfl rfl rfl) ?_
    refine r_ld rfl rfl ?_
    refine r_cj rfl rfl (fun h_34 => ?_) (fun h_34 => ?_)
    · refine r_cst (v := .int 0) rfl rfl ?_
      refine r_sto (L' := [(0, _), (1, _), (2, _), (3, _), (4, _), (5, _)]) rfl rfl ?_
      refine r_ld rfl rfl ?_
      refine r_ld rfl rfl ?_
      refine q_cjF rfl rfl (by decide) ?_
      refine r_ld rfl rfl ?_
      refine q_getr rfl rfl rfl rfl rfl ?_
      refine r_ld rfl rfl ?_
      refine q_call (as := [_, _]) (rest := [_]) rfl rfl rfl rfl rfl rfl rfl rfl (ok_X11_at _ _ _ _ rfl rfl rfl) ?_
      refine r_ld rfl rfl ?_
      refine r_cj rfl rfl (fun h_60 => ?_) (fun h_60 => ?_)
      · refine r_cst (v := .int 0) rfl rfl ?_
        refine r_ld rfl rfl ?_
        refine r_bin rfl rfl ?_
        refine r_bin rfl rfl ?_
        refine r_sto (L' := [(0, _), (1, _), (2, _), (3, _), (4, _), (5, _)]) rfl rfl ?_
        refine r_ld rfl rfl ?_
        refine r_ld rfl rfl ?_
        refine q_cjT rfl rfl (by decide) ?_
        refine r_cst (v := .int 0) rfl rfl ?_
        refine r_ld rfl rfl ?_
        refine r_bin rfl rfl ?_
        refine r_bin rfl rfl ?_
        refine r_sto (L' := [(0, _), (1, _), (2, _), (3, _), (4, _), (5, _)]) rfl rfl ?_
        refine q_inc (y := _ + 1) rfl rfl rfl ?_
        refine q_norm (L' := [(0, _), (1, _), (2, _), (3, _), (4, _), (5, _)]) rfl ?_
        refine r_go rfl ?_
        refine q_keep [0, 1, 2, 3, 4] (L' := [(0, _), (1, _), (2, _), (3, _), (4, _)]) rfl ?_
        exact ih hlt _ _ _ (by first | exact or_b1 (by omega) (by simp_all) | exact or_b0 (by omega) (by simp_all)) (by first | exact or_b1 (by omega) (by simp_all) | exact or_b0 (by omega) (by simp_all)) (nI_1 e)
      · refine r_cst (v := .int 1) rfl rfl ?_
        refine r_go rfl ?_
        refine r_ld rfl rfl ?_
        refine r_bin rfl rfl ?_
        refine r_bin rfl rfl ?_
        refine r_sto (L' := [(0, _), (1, _), (2, _), (3, _), (4, _), (5, _)]) rfl rfl ?_
        refine r_ld rfl rfl ?_
        refine r_ld rfl rfl ?_
        refine q_cjT rfl rfl (by decide) ?_
        refine r_cst (v := .int 0) rfl rfl ?_
        refine r_ld rfl rfl ?_
        refine r_bin rfl rfl ?_
        refine r_bin rfl rfl ?_
        refine r_sto (L' := [(0, _), (1, _), (2, _), (3, _), (4, _), (5, _)]) rfl rfl ?_
        refine q_inc (y := _ + 1) rfl rfl rfl ?_
        refine q_norm (L' := [(0, _), (1, _), (2, _), (3, _), (4, _), (5, _)]) rfl ?_
        refine r_go rfl ?_
        refine q_keep [0, 1, 2, 3, 4] (L' := [(0, _), (1, _), (2, _), (3, _), (4, _)]) rfl ?_
        exact ih hlt _ _ _ (by first | exact or_b1 (by omega) (by simp_all) | exact or_b0 (by omega) (by simp_all)) (by first | exact or_b1 (by omega) (by simp_all) | exact or_b0 (by omega) (by simp_all)) (nI_1 e)
    · refine r_cst (v := .int 1) rfl rfl ?_
      refine r_go rfl ?_
      refine r_sto (L' := [(0, _), (1, _), (2, _), (3, _), (4, _), (5, _)]) rfl rfl ?_
      refine r_ld rfl rfl ?_
      refine r_ld rfl rfl ?_
      refine q_cjT rfl rfl (by decide) ?_
      refine r_cst (v := .int 1) rfl rfl ?_
      refine r_go rfl ?_
      refine r_ld rfl rfl ?_
      refine r_bin rfl rfl ?_
      refine r_bin rfl rfl ?_
      refine r_sto (L' := [(0, _), (1, _), (2, _), (3, _), (4, _), (5, _)]) rfl rfl ?_
      refine r_ld rfl rfl ?_
      refine r_ld rfl rfl ?_
      refine q_cjF rfl rfl (by decide) ?_
      refine r_cst (v := .int 1) rfl rfl ?_
      refine r_go rfl ?_
      refine r_ld rfl rfl ?_
      refine r_bin rfl rfl ?_
      refine r_bin rfl rfl ?_
      refine r_sto (L' := [(0, _), (1, _), (2, _), (3, _), (4, _), (5, _)]) rfl rfl ?_
      refine q_inc (y := _ + 1) rfl rfl rfl ?_
      refine q_norm (L' := [(0, _), (1, _), (2, _), (3, _), (4, _), (5, _)]) rfl ?_
      refine r_go rfl ?_
      refine q_keep [0, 1, 2, 3, 4] (L' := [(0, _), (1, _), (2, _), (3, _), (4, _)]) rfl ?_
      exact ih hlt _ _ _ (by first | exact or_b1 (by omega) (by simp_all) | exact or_b0 (by omega) (by simp_all)) (by first | exact or_b1 (by omega) (by simp_all) | exact or_b0 (by omega) (by simp_all)) (nI_1 e)

set_option maxHeartbeats 1000000 in
set_option maxRecDepth 10000 in
theorem lp_X4_mark_2_2 (d : Nat) (M : Nat → Nat → Int32) (ML : Nat → Nat → Int64) {E : Nat} (hE : M 2 1 = nI E) (hE2 : E ≤ 10) {res : Rt} (hk : res = (none, (SH, mkM M 3 4 5 6 E 7, ML))) :
    ∀ v, v ≤ 7 → ∀ (i : Int32) (M' : Nat → Nat → Int32), i = nI v → M' = mkM M 3 4 5 6 E v → RR (d + 1) cd_X4_mark false res (2, [(0, .ref 2), (1, .int i)], [], (SH, M', ML)) := by
  refine up_ind fun v hv ih => ?_
  intro i M' hv0 hv1
  subst hv0 hv1
  refine r_ld rfl rfl ?_
  refine r_cst (v := .int 7) rfl rfl ?_
  refine r_cj rfl rfl (fun h_5 => ?_) (fun h_5 => ?_)
  · have h9 : v = 7 := by have := nle (a := 7) (b := v) (by decide) (by omega) h_5; omega
    subst h9
    refine r_ret rfl rfl (trivial) ?_
    exact hk
  · have hlt : v < 7 := nnle (a := 7) (b := v) (by decide) (by omega) h_5
    refine r_cst (v := .int 0) rfl rfl ?_
    refine r_sto (L' := [(0, _), (1, _), (2, _)]) rfl rfl ?_
    refine r_cst (v := .int 0) rfl rfl ?_
    refine r_sto (L' := [(0, _), (1, _), (2, _), (3, _)]) rfl rfl ?_
    refine r_cst (v := .int 0) rfl rfl ?_
    refine r_sto (L' := [(0, _), (1, _), (2, _), (3, _), (4, _)]) rfl rfl ?_
    refine lp_X4_mark_15_2 d M ML hE hE2 ?_ 0 (Nat.zero_le _) _ _ _ rfl rfl rfl
    refine r_ld rfl rfl ?_
    refine q_getr rfl rfl rfl rfl rfl ?_
    refine r_ld rfl rfl ?_
    refine r_ld rfl rfl ?_
    refine q_callv (as := [_, _, _]) (rest := []) rfl rfl rfl rfl rfl rfl rfl rfl (ok_X11_lay _ _ _ _ _ rfl rfl rfl) ?_
    refine r_ld rfl rfl ?_
    refine q_getr rfl rfl rfl rfl rfl ?_
    refine r_ld rfl rfl ?_
    refine r_ld rfl rfl ?_
    refine q_callv (as := [_, _, _]) (rest := []) rfl rfl rfl rfl rfl rfl rfl rfl (ok_X11_lay _ _ _ _ _ rfl rfl rfl) ?_
    have hM9 : wrA (wrA (mkM M 3 4 5 6 E v) 5 7 (nI v) (nI (msk (fun e => decide (M 4 e = nI v) || decide (M 3 e = nI v)) E))) 6 7 (nI v) (nI (msk (fun e => decide (M 4 e = nI v)) E)) = mkM M 3 4 5 6 E (v + 1) := by rw [wrA_nI (by omega) (by decide), wrA_nI (by omega) (by decide), mkM_succ (by decide)]
    refine q_inc (y := _ + 1) rfl rfl rfl ?_
    refine q_norm (L' := [(0, _), (1, _), (2, _), (3, _)]) rfl ?_
    refine r_go rfl ?_
    refine q_keep [0, 1] (L' := [(0, _), (1, _)]) rfl ?_
    exact ih (by omega) _ _ (nI_1 v) hM9

set_option maxHeartbeats 1000000 in
set_option maxRecDepth 10000 in
theorem ok_X4_mark_2 (d : Nat) (M : Nat → Nat → Int32) (ML : Nat → Nat → Int64) {E : Nat} (hE : M 2 1 = nI E) (hE2 : E ≤ 10) : Ex (d + 2) k_X4_mark [.ref 2] (SH, M, ML) (none, (SH, mkM M 3 4 5 6 E 7, ML)) := by
  refine Ex_in mi_X4_mark rfl rfl ⟨Nat.le_refl _, Nat.le_refl _⟩ ?_
  show RR _ cd_X4_mark false _ (0, [(0, .ref 2)], [], (SH, M, ML))
  refine r_cst (v := .int 0) rfl rfl ?_
  refine r_sto (L' := [(0, _), (1, _)]) rfl rfl ?_
  exact lp_X4_mark_2_2 d M ML hE hE2 rfl 0 (Nat.zero_le _) _ _ rfl (mkM_0 _ _ _ _ _ _).symm

set_option maxHeartbeats 1000000 in
set_option maxRecDepth 10000 in
theorem ok_X4_hasNode_7 (d : Nat) (M : Nat → Nat → Int32) (ML : Nat → Nat → Int64) (v : Int32) {N : Nat} (hN : M 7 0 = nI N) : Ex (d + 1) k_X4_hasNode [.ref 7, .int v] (SH, M, ML) (some (.int (b2i (inR v N))), (SH, M, ML)) := by
  refine Ex_in mi_X4_hasNode rfl rfl ⟨Nat.le_refl _, Nat.le_refl _⟩ ?_
  show RR _ cd_X4_hasNode true _ (0, [(0, .ref 7), (1, .int v)], [], (SH, M, ML))
  refine r_ld rfl rfl ?_
  refine r_cj rfl rfl (fun h_1 => ?_) (fun h_1 => ?_)
  · refine r_cst (v := .int 0) rfl rfl ?_
    refine r_ret rfl rfl (by first | exact rb0 | exact rb1 | exact rbB _) ?_
    first | rw [inR, b2f (fun q => nlt0.mpr q.1 h_1)] | rw [inR, b2f (fun q => nle_lt.mpr q.2 (by rw [← hN]; exact h_9))] | rw [inR, b2t ⟨nlt0.mp h_1, by rw [← hN]; exact nle_lt.mp h_9⟩]
  · refine r_ld rfl rfl ?_
    refine r_ld rfl rfl ?_
    refine q_geti rfl rfl rfl rfl rfl ?_
    refine r_cj rfl rfl (fun h_9 => ?_) (fun h_9 => ?_)
    · refine r_cst (v := .int 0) rfl rfl ?_
      refine r_ret rfl rfl (by first | exact rb0 | exact rb1 | exact rbB _) ?_
      first | rw [inR, b2f (fun q => nlt0.mpr q.1 h_1)] | rw [inR, b2f (fun q => nle_lt.mpr q.2 (by rw [← hN]; exact h_9))] | rw [inR, b2t ⟨nlt0.mp h_1, by rw [← hN]; exact nle_lt.mp h_9⟩]
    · refine r_cst (v := .int 1) rfl rfl ?_
      refine r_go rfl ?_
      refine r_ret rfl rfl (by first | exact rb0 | exact rb1 | exact rbB _) ?_
      first | rw [inR, b2f (fun q => nlt0.mpr q.1 h_1)] | rw [inR, b2f (fun q => nle_lt.mpr q.2 (by rw [← hN]; exact h_9))] | rw [inR, b2t ⟨nlt0.mp h_1, by rw [← hN]; exact nle_lt.mp h_9⟩]

set_option maxHeartbeats 1000000 in
set_option maxRecDepth 10000 in
theorem lp_X4_mark_15_7 (d : Nat) (M : Nat → Nat → Int32) (ML : Nat → Nat → Int64) {E v : Nat} (hE : M 7 1 = nI E) (hE2 : E ≤ 10) {res : Rt} (hk : RR (d + 1) cd_X4_mark false res (95, [(0, .ref 7), (1, .int (nI v)), (2, .int (nI (msk (fun e => decide (M 9 e = nI v) || decide (M 8 e = nI v)) E))), (3, .int (nI (msk (fun e => decide (M 9 e = nI v)) E)))], [], (SH, mkM M 8 9 10 11 E v, ML))) :
    ∀ e, e ≤ E → ∀ (x : Int32) (y : Int32) (i : Int32), x = nI (msk (fun e => decide (M 9 e = nI v) || decide (M 8 e = nI v)) e) → y = nI (msk (fun e => decide (M 9 e = nI v)) e) → i = nI e → RR (d + 1) cd_X4_mark false res (15, [(0, .ref 7), (1, .int (nI v)), (2, .int x), (3, .int y), (4, .int i)], [], (SH, mkM M 8 9 10 11 E v, ML)) := by
  refine up_ind fun e he ih => ?_
  intro x y i hv0 hv1 hv2
  subst hv0 hv1 hv2
  refine r_ld rfl rfl ?_
  refine r_ld rfl rfl ?_
  refine q_geti rfl rfl rfl rfl rfl ?_
  refine r_cj rfl rfl (fun h_21 => ?_) (fun h_21 => ?_)
  · refine q_keep [0, 1, 2, 3] (L' := [(0, _), (1, _), (2, _), (3, _)]) rfl ?_
    have h9 : e = E := by
      have := nle (by omega) (by omega) (show nI E ≤ nI e by rw [← hE, ← mkM_ne (M := M) (lo := 8) (hi := 9) (t := 10) (w := 11) (E := E) (v := v) (x := 7) (by decide) (by decide)]; exact h_21)
      omega
    subst h9
    exact hk
  · have hlt : e < E := nnle (by omega) (by omega) (by rw [← hE, ← mkM_ne (M := M) (lo := 8) (hi := 9) (t := 10) (w := 11) (E := E) (v := v) (x := 7) (by decide) (by decide)]; exact h_21)
    have er9 : rdA (mkM M 8 9 10 11 E v 9) 10 (nI e) = M 9 e := by rw [rdA_nI (by omega) (by decide), mkM_ne (M := M) (lo := 8) (hi := 9) (t := 10) (w := 11) (E := E) (v := v) (x := 9) (by decide) (by decide)]
    have er8 : rdA (mkM M 8 9 10 11 E v 8) 10 (nI e) = M 8 e := by rw [rdA_nI (by omega) (by decide), mkM_ne (M := M) (lo := 8) (hi := 9) (t := 10) (w := 11) (E := E) (v := v) (x := 8) (by decide) (by decide)]
    refine r_ld rfl rfl ?_
    refine q_getr rfl rfl rfl rfl rfl ?_
    refine r_ld rfl rfl ?_
    refine q_call (as := [_, _]) (rest := []) rfl rfl rfl rfl rfl rfl rfl rfl (ok_X11_at _ _ _ _ rfl rfl rfl) ?_
    refine r_ld rfl rfl ?_
    refine r_cj rfl rfl (fun h_34 => ?_) (fun h_34 => ?_)
    · refine r_cst (v := .int 0) rfl rfl ?_
      refine r_sto (L' := [(0, _), (1, _), (2, _), (3, _), (4, _), (5, _)]) rfl rfl ?_
      refine r_ld rfl rfl ?_
      refine r_ld rfl rfl ?_
      refine q_cjF rfl rfl (by decide) ?_
      refine r_ld rfl rfl ?_
      refine q_getr rfl rfl rfl rfl rfl ?_
      refine r_ld rfl rfl ?_
      refine q_call (as := [_, _]) (rest := [_]) rfl rfl rfl rfl rfl rfl rfl rfl (ok_X11_at _ _ _ _ rfl rfl rfl) ?_
      refine r_ld rfl rfl ?_
      refine r_cj rfl rfl (fun h_60 => ?_) (fun h_60 => ?_)
      · refine r_cst (v := .int 0) rfl rfl ?_
        refine r_ld rfl rfl ?_
        refine r_bin rfl rfl ?_
        refine r_bin rfl rfl ?_
        refine r_sto (L' := [(0, _), (1, _), (2, _), (3, _), (4, _), (5, _)]) rfl rfl ?_
        refine r_ld rfl rfl ?_
        refine r_ld rfl rfl ?_
        refine q_cjT rfl rfl (by decide) ?_
        refine r_cst (v := .int 0) rfl rfl ?_
        refine r_ld rfl rfl ?_
        refine r_bin rfl rfl ?_
        refine r_bin rfl rfl ?_
        refine r_sto (L' := [(0, _), (1, _), (2, _), (3, _), (4, _), (5, _)]) rfl rfl ?_
        refine q_inc (y := _ + 1) rfl rfl rfl ?_
        refine q_norm (L' := [(0, _), (1, _), (2, _), (3, _), (4, _), (5, _)]) rfl ?_
        refine r_go rfl ?_
        refine q_keep [0, 1, 2, 3, 4] (L' := [(0, _), (1, _), (2, _), (3, _), (4, _)]) rfl ?_
        exact ih hlt _ _ _ (by first | exact or_b1 (by omega) (by simp_all) | exact or_b0 (by omega) (by simp_all)) (by first | exact or_b1 (by omega) (by simp_all) | exact or_b0 (by omega) (by simp_all)) (nI_1 e)
      · refine r_cst (v := .int 1) rfl rfl ?_
        refine r_go rfl ?_
        refine r_ld rfl rfl ?_
        refine r_bin rfl rfl ?_
        refine r_bin rfl rfl ?_
        refine r_sto (L' := [(0, _), (1, _), (2, _), (3, _), (4, _), (5, _)]) rfl rfl ?_
        refine r_ld rfl rfl ?_
        refine r_ld rfl rfl ?_
        refine q_cjT rfl rfl (by decide) ?_
        refine r_cst (v := .int 0) rfl rfl ?_
        refine r_ld rfl rfl ?_
        refine r_bin rfl rfl ?_
        refine r_bin rfl rfl ?_
        refine r_sto (L' := [(0, _), (1, _), (2, _), (3, _), (4, _), (5, _)]) rfl rfl ?_
        refine q_inc (y := _ + 1) rfl rfl rfl ?_
        refine q_norm (L' := [(0, _), (1, _), (2, _), (3, _), (4, _), (5, _)]) rfl ?_
        refine r_go rfl ?_
        refine q_keep [0, 1, 2, 3, 4] (L' := [(0, _), (1, _), (2, _), (3, _), (4, _)]) rfl ?_
        exact ih hlt _ _ _ (by first | exact or_b1 (by omega) (by simp_all) | exact or_b0 (by omega) (by simp_all)) (by first | exact or_b1 (by omega) (by simp_all) | exact or_b0 (by omega) (by simp_all)) (nI_1 e)
    · refine r_cst (v := .int 1) rfl rfl ?_
      refine r_go rfl ?_
      refine r_sto (L' := [(0, _), (1, _), (2, _), (3, _), (4, _), (5, _)]) rfl rfl ?_
      refine r_ld rfl rfl ?_
      refine r_ld rfl rfl ?_
      refine q_cjT rfl rfl (by decide) ?_
      refine r_cst (v := .int 1) rfl rfl ?_
      refine r_go rfl ?_
      refine r_ld rfl rfl ?_
      refine r_bin rfl rfl ?_
      refine r_bin rfl rfl ?_
      refine r_sto (L' := [(0, _), (1, _), (2, _), (3, _), (4, _), (5, _)]) rfl rfl ?_
      refine r_ld rfl rfl ?_
      refine r_ld rfl rfl ?_
      refine q_cjF rfl rfl (by decide) ?_
      refine r_cst (v := .int 1) rfl rfl ?_
      refine r_go rfl ?_
      refine r_ld rfl rfl ?_
      refine r_bin rfl rfl ?_
      refine r_bin rfl rfl ?_
      refine r_sto (L' := [(0, _), (1, _), (2, _), (3, _), (4, _), (5, _)]) rfl rfl ?_
      refine q_inc (y := _ + 1) rfl rfl rfl ?_
      refine q_norm (L' := [(0, _), (1, _), (2, _), (3, _), (4, _), (5, _)]) rfl ?_
      refine r_go rfl ?_
      refine q_keep [0, 1, 2, 3, 4] (L' := [(0, _), (1, _), (2, _), (3, _), (4, _)]) rfl ?_
      exact ih hlt _ _ _ (by first | exact or_b1 (by omega) (by simp_all) | exact or_b0 (by omega) (by simp_all)) (by first | exact or_b1 (by omega) (by simp_all) | exact or_b0 (by omega) (by simp_all)) (nI_1 e)

set_option maxHeartbeats 1000000 in
set_option maxRecDepth 10000 in
theorem lp_X4_mark_2_7 (d : Nat) (M : Nat → Nat → Int32) (ML : Nat → Nat → Int64) {E : Nat} (hE : M 7 1 = nI E) (hE2 : E ≤ 10) {res : Rt} (hk : res = (none, (SH, mkM M 8 9 10 11 E 7, ML))) :
    ∀ v, v ≤ 7 → ∀ (i : Int32) (M' : Nat → Nat → Int32), i = nI v → M' = mkM M 8 9 10 11 E v → RR (d + 1) cd_X4_mark false res (2, [(0, .ref 7), (1, .int i)], [], (SH, M', ML)) := by
  refine up_ind fun v hv ih => ?_
  intro i M' hv0 hv1
  subst hv0 hv1
  refine r_ld rfl rfl ?_
  refine r_cst (v := .int 7) rfl rfl ?_
  refine r_cj rfl rfl (fun h_5 => ?_) (fun h_5 => ?_)
  · have h9 : v = 7 := by have := nle (a := 7) (b := v) (by decide) (by omega) h_5; omega
    subst h9
    refine r_ret rfl rfl (trivial) ?_
    exact hk
  · have hlt : v < 7 := nnle (a := 7) (b := v) (by decide) (by omega) h_5
    refine r_cst (v := .int 0) rfl rfl ?_
    refine r_sto (L' := [(0, _), (1, _), (2, _)]) rfl rfl ?_
    refine r_cst (v := .int 0) rfl rfl ?_
    refine r_sto (L' := [(0, _), (1, _), (2, _), (3, _)]) rfl rfl ?_
    refine r_cst (v := .int 0) rfl rfl ?_
    refine r_sto (L' := [(0, _), (1, _), (2, _), (3, _), (4, _)]) rfl rfl ?_
    refine lp_X4_mark_15_7 d M ML hE hE2 ?_ 0 (Nat.zero_le _) _ _ _ rfl rfl rfl
    refine r_ld rfl rfl ?_
    refine q_getr rfl rfl rfl rfl rfl ?_
    refine r_ld rfl rfl ?_
    refine r_ld rfl rfl ?_
    refine q_callv (as := [_, _, _]) (rest := []) rfl rfl rfl rfl rfl rfl rfl rfl (ok_X11_lay _ _ _ _ _ rfl rfl rfl) ?_
    refine r_ld rfl rfl ?_
    refine q_getr rfl rfl rfl rfl rfl ?_
    refine r_ld rfl rfl ?_
    refine r_ld rfl rfl ?_
    refine q_callv (as := [_, _, _]) (rest := []) rfl rfl rfl rfl rfl rfl rfl rfl (ok_X11_lay _ _ _ _ _ rfl rfl rfl) ?_
    have hM9 : wrA (wrA (mkM M 8 9 10 11 E v) 10 7 (nI v) (nI (msk (fun e => decide (M 9 e = nI v) || decide (M 8 e = nI v)) E))) 11 7 (nI v) (nI (msk (fun e => decide (M 9 e = nI v)) E)) = mkM M 8 9 10 11 E (v + 1) := by rw [wrA_nI (by omega) (by decide), wrA_nI (by omega) (by decide), mkM_succ (by decide)]
    refine q_inc (y := _ + 1) rfl rfl rfl ?_
    refine q_norm (L' := [(0, _), (1, _), (2, _), (3, _)]) rfl ?_
    refine r_go rfl ?_
    refine q_keep [0, 1] (L' := [(0, _), (1, _)]) rfl ?_
    exact ih (by omega) _ _ (nI_1 v) hM9

set_option maxHeartbeats 1000000 in
set_option maxRecDepth 10000 in
theorem ok_X4_mark_7 (d : Nat) (M : Nat → Nat → Int32) (ML : Nat → Nat → Int64) {E : Nat} (hE : M 7 1 = nI E) (hE2 : E ≤ 10) : Ex (d + 2) k_X4_mark [.ref 7] (SH, M, ML) (none, (SH, mkM M 8 9 10 11 E 7, ML)) := by
  refine Ex_in mi_X4_mark rfl rfl ⟨Nat.le_refl _, Nat.le_refl _⟩ ?_
  show RR _ cd_X4_mark false _ (0, [(0, .ref 7)], [], (SH, M, ML))
  refine r_cst (v := .int 0) rfl rfl ?_
  refine r_sto (L' := [(0, _), (1, _)]) rfl rfl ?_
  exact lp_X4_mark_2_7 d M ML hE hE2 rfl 0 (Nat.zero_le _) _ _ rfl (mkM_0 _ _ _ _ _ _).symm

set_option maxHeartbeats 1000000 in
set_option maxRecDepth 10000 in
theorem lp_X4_mark_15_50 (d : Nat) (M : Nat → Nat → Int32) (ML : Nat → Nat → Int64) {E v : Nat} (hE : M 50 1 = nI E) (hE2 : E ≤ 10) {res : Rt} (hk : RR (d + 1) cd_X4_mark false res (95, [(0, .ref 50), (1, .int (nI v)), (2, .int (nI (msk (fun e => decide (M 52 e = nI v) || decide (M 51 e = nI v)) E))), (3, .int (nI (msk (fun e => decide (M 52 e = nI v)) E)))], [], (SH, mkM M 51 52 53 54 E v, ML))) :
    ∀ e, e ≤ E → ∀ (x : Int32) (y : Int32) (i : Int32), x = nI (msk (fun e => decide (M 52 e = nI v) || decide (M 51 e = nI v)) e) → y = nI (msk (fun e => decide (M 52 e = nI v)) e) → i = nI e → RR (d + 1) cd_X4_mark false res (15, [(0, .ref 50), (1, .int (nI v)), (2, .int x), (3, .int y), (4, .int i)], [], (SH, mkM M 51 52 53 54 E v, ML)) := by
  refine up_ind fun e he ih => ?_
  intro x y i hv0 hv1 hv2
  subst hv0 hv1 hv2
  refine r_ld rfl rfl ?_
  refine r_ld rfl rfl ?_
  refine q_geti rfl rfl rfl rfl rfl ?_
  refine r_cj rfl rfl (fun h_21 => ?_) (fun h_21 => ?_)
  · refine q_keep [0, 1, 2, 3] (L' := [(0, _), (1, _), (2, _), (3, _)]) rfl ?_
    have h9 : e = E := by
      have := nle (by omega) (by omega) (show nI E ≤ nI e by rw [← hE, ← mkM_ne (M := M) (lo := 51) (hi := 52) (t := 53) (w := 54) (E := E) (v := v) (x := 50) (by decide) (by decide)]; exact h_21)
      omega
    subst h9
    exact hk
  · have hlt : e < E := nnle (by omega) (by omega) (by rw [← hE, ← mkM_ne (M := M) (lo := 51) (hi := 52) (t := 53) (w := 54) (E := E) (v := v) (x := 50) (by decide) (by decide)]; exact h_21)
    have er52 : rdA (mkM M 51 52 53 54 E v 52) 10 (nI e) = M 52 e := by rw [rdA_nI (by omega) (by decide), mkM_ne (M := M) (lo := 51) (hi := 52) (t := 53) (w := 54) (E := E) (v := v) (x := 52) (by decide) (by decide)]
    have er51 : rdA (mkM M 51 52 53 54 E v 51) 10 (nI e) = M 51 e := by rw [rdA_nI (by omega) (by decide), mkM_ne (M := M) (lo := 51) (hi := 52) (t := 53) (w := 54) (E := E) (v := v) (x := 51) (by decide) (by decide)]
    refine r_ld rfl rfl ?_
    refine q_getr rfl rfl rfl rfl rfl ?_
    refine r_ld rfl rfl ?_
    refine q_call (as := [_, _]) (rest := []) rfl rfl rfl rfl rfl rfl rfl rfl (ok_X11_at _ _ _ _ rfl rfl rfl) ?_
    refine r_ld rfl rfl ?_
    refine r_cj rfl rfl (fun h_34 => ?_) (fun h_34 => ?_)
    · refine r_cst (v := .int 0) rfl rfl ?_
      refine r_sto (L' := [(0, _), (1, _), (2, _), (3, _), (4, _), (5, _)]) rfl rfl ?_
      refine r_ld rfl rfl ?_
      refine r_ld rfl rfl ?_
      refine q_cjF rfl rfl (by decide) ?_
      refine r_ld rfl rfl ?_
      refine q_getr rfl rfl rfl rfl rfl ?_
      refine r_ld rfl rfl ?_
      refine q_call (as := [_, _]) (rest := [_]) rfl rfl rfl rfl rfl rfl rfl rfl (ok_X11_at _ _ _ _ rfl rfl rfl) ?_
      refine r_ld rfl rfl ?_
      refine r_cj rfl rfl (fun h_60 => ?_) (fun h_60 => ?_)
      · refine r_cst (v := .int 0) rfl rfl ?_
        refine r_ld rfl rfl ?_
        refine r_bin rfl rfl ?_
        refine r_bin rfl rfl ?_
        refine r_sto (L' := [(0, _), (1, _), (2, _), (3, _), (4, _), (5, _)]) rfl rfl ?_
        refine r_ld rfl rfl ?_
        refine r_ld rfl rfl ?_
        refine q_cjT rfl rfl (by decide) ?_
        refine r_cst (v := .int 0) rfl rfl ?_
        refine r_ld rfl rfl ?_
        refine r_bin rfl rfl ?_
        refine r_bin rfl rfl ?_
        refine r_sto (L' := [(0, _), (1, _), (2, _), (3, _), (4, _), (5, _)]) rfl rfl ?_
        refine q_inc (y := _ + 1) rfl rfl rfl ?_
        refine q_norm (L' := [(0, _), (1, _), (2, _), (3, _), (4, _), (5, _)]) rfl ?_
        refine r_go rfl ?_
        refine q_keep [0, 1, 2, 3, 4] (L' := [(0, _), (1, _), (2, _), (3, _), (4, _)]) rfl ?_
        exact ih hlt _ _ _ (by first | exact or_b1 (by omega) (by simp_all) | exact or_b0 (by omega) (by simp_all)) (by first | exact or_b1 (by omega) (by simp_all) | exact or_b0 (by omega) (by simp_all)) (nI_1 e)
      · refine r_cst (v := .int 1) rfl rfl ?_
        refine r_go rfl ?_
        refine r_ld rfl rfl ?_
        refine r_bin rfl rfl ?_
        refine r_bin rfl rfl ?_
        refine r_sto (L' := [(0, _), (1, _), (2, _), (3, _), (4, _), (5, _)]) rfl rfl ?_
        refine r_ld rfl rfl ?_
        refine r_ld rfl rfl ?_
        refine q_cjT rfl rfl (by decide) ?_
        refine r_cst (v := .int 0) rfl rfl ?_
        refine r_ld rfl rfl ?_
        refine r_bin rfl rfl ?_
        refine r_bin rfl rfl ?_
        refine r_sto (L' := [(0, _), (1, _), (2, _), (3, _), (4, _), (5, _)]) rfl rfl ?_
        refine q_inc (y := _ + 1) rfl rfl rfl ?_
        refine q_norm (L' := [(0, _), (1, _), (2, _), (3, _), (4, _), (5, _)]) rfl ?_
        refine r_go rfl ?_
        refine q_keep [0, 1, 2, 3, 4] (L' := [(0, _), (1, _), (2, _), (3, _), (4, _)]) rfl ?_
        exact ih hlt _ _ _ (by first | exact or_b1 (by omega) (by simp_all) | exact or_b0 (by omega) (by simp_all)) (by first | exact or_b1 (by omega) (by simp_all) | exact or_b0 (by omega) (by simp_all)) (nI_1 e)
    · refine r_cst (v := .int 1) rfl rfl ?_
      refine r_go rfl ?_
      refine r_sto (L' := [(0, _), (1, _), (2, _), (3, _), (4, _), (5, _)]) rfl rfl ?_
      refine r_ld rfl rfl ?_
      refine r_ld rfl rfl ?_
      refine q_cjT rfl rfl (by decide) ?_
      refine r_cst (v := .int 1) rfl rfl ?_
      refine r_go rfl ?_
      refine r_ld rfl rfl ?_
      refine r_bin rfl rfl ?_
      refine r_bin rfl rfl ?_
      refine r_sto (L' := [(0, _), (1, _), (2, _), (3, _), (4, _), (5, _)]) rfl rfl ?_
      refine r_ld rfl rfl ?_
      refine r_ld rfl rfl ?_
      refine q_cjF rfl rfl (by decide) ?_
      refine r_cst (v := .int 1) rfl rfl ?_
      refine r_go rfl ?_
      refine r_ld rfl rfl ?_
      refine r_bin rfl rfl ?_
      refine r_bin rfl rfl ?_
      refine r_sto (L' := [(0, _), (1, _), (2, _), (3, _), (4, _), (5, _)]) rfl rfl ?_
      refine q_inc (y := _ + 1) rfl rfl rfl ?_
      refine q_norm (L' := [(0, _), (1, _), (2, _), (3, _), (4, _), (5, _)]) rfl ?_
      refine r_go rfl ?_
      refine q_keep [0, 1, 2, 3, 4] (L' := [(0, _), (1, _), (2, _), (3, _), (4, _)]) rfl ?_
      exact ih hlt _ _ _ (by first | exact or_b1 (by omega) (by simp_all) | exact or_b0 (by omega) (by simp_all)) (by first | exact or_b1 (by omega) (by simp_all) | exact or_b0 (by omega) (by simp_all)) (nI_1 e)

set_option maxHeartbeats 1000000 in
set_option maxRecDepth 10000 in
theorem lp_X4_mark_2_50 (d : Nat) (M : Nat → Nat → Int32) (ML : Nat → Nat → Int64) {E : Nat} (hE : M 50 1 = nI E) (hE2 : E ≤ 10) {res : Rt} (hk : res = (none, (SH, mkM M 51 52 53 54 E 7, ML))) :
    ∀ v, v ≤ 7 → ∀ (i : Int32) (M' : Nat → Nat → Int32), i = nI v → M' = mkM M 51 52 53 54 E v → RR (d + 1) cd_X4_mark false res (2, [(0, .ref 50), (1, .int i)], [], (SH, M', ML)) := by
  refine up_ind fun v hv ih => ?_
  intro i M' hv0 hv1
  subst hv0 hv1
  refine r_ld rfl rfl ?_
  refine r_cst (v := .int 7) rfl rfl ?_
  refine r_cj rfl rfl (fun h_5 => ?_) (fun h_5 => ?_)
  · have h9 : v = 7 := by have := nle (a := 7) (b := v) (by decide) (by omega) h_5; omega
    subst h9
    refine r_ret rfl rfl (trivial) ?_
    exact hk
  · have hlt : v < 7 := nnle (a := 7) (b := v) (by decide) (by omega) h_5
    refine r_cst (v := .int 0) rfl rfl ?_
    refine r_sto (L' := [(0, _), (1, _), (2, _)]) rfl rfl ?_
    refine r_cst (v := .int 0) rfl rfl ?_
    refine r_sto (L' := [(0, _), (1, _), (2, _), (3, _)]) rfl rfl ?_
    refine r_cst (v := .int 0) rfl rfl ?_
    refine r_sto (L' := [(0, _), (1, _), (2, _), (3, _), (4, _)]) rfl rfl ?_
    refine lp_X4_mark_15_50 d M ML hE hE2 ?_ 0 (Nat.zero_le _) _ _ _ rfl rfl rfl
    refine r_ld rfl rfl ?_
    refine q_getr rfl rfl rfl rfl rfl ?_
    refine r_ld rfl rfl ?_
    refine r_ld rfl rfl ?_
    refine q_callv (as := [_, _, _]) (rest := []) rfl rfl rfl rfl rfl rfl rfl rfl (ok_X11_lay _ _ _ _ _ rfl rfl rfl) ?_
    refine r_ld rfl rfl ?_
    refine q_getr rfl rfl rfl rfl rfl ?_
    refine r_ld rfl rfl ?_
    refine r_ld rfl rfl ?_
    refine q_callv (as := [_, _, _]) (rest := []) rfl rfl rfl rfl rfl rfl rfl rfl (ok_X11_lay _ _ _ _ _ rfl rfl rfl) ?_
    have hM9 : wrA (wrA (mkM M 51 52 53 54 E v) 53 7 (nI v) (nI (msk (fun e => decide (M 52 e = nI v) || decide (M 51 e = nI v)) E))) 54 7 (nI v) (nI (msk (fun e => decide (M 52 e = nI v)) E)) = mkM M 51 52 53 54 E (v + 1) := by rw [wrA_nI (by omega) (by decide), wrA_nI (by omega) (by decide), mkM_succ (by decide)]
    refine q_inc (y := _ + 1) rfl rfl rfl ?_
    refine q_norm (L' := [(0, _), (1, _), (2, _), (3, _)]) rfl ?_
    refine r_go rfl ?_
    refine q_keep [0, 1] (L' := [(0, _), (1, _)]) rfl ?_
    exact ih (by omega) _ _ (nI_1 v) hM9

set_option maxHeartbeats 1000000 in
set_option maxRecDepth 10000 in
theorem ok_X4_mark_50 (d : Nat) (M : Nat → Nat → Int32) (ML : Nat → Nat → Int64) {E : Nat} (hE : M 50 1 = nI E) (hE2 : E ≤ 10) : Ex (d + 2) k_X4_mark [.ref 50] (SH, M, ML) (none, (SH, mkM M 51 52 53 54 E 7, ML)) := by
  refine Ex_in mi_X4_mark rfl rfl ⟨Nat.le_refl _, Nat.le_refl _⟩ ?_
  show RR _ cd_X4_mark false _ (0, [(0, .ref 50)], [], (SH, M, ML))
  refine r_cst (v := .int 0) rfl rfl ?_
  refine r_sto (L' := [(0, _), (1, _)]) rfl rfl ?_
  exact lp_X4_mark_2_50 d M ML hE hE2 rfl 0 (Nat.zero_le _) _ _ rfl (mkM_0 _ _ _ _ _ _).symm

