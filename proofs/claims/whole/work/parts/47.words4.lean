/-! ===== how many words, the least ===== -/
/-- rows of nodes that can begin a word: one set after the other, one node after the other -/
def owI (c : Nat → Nat → Bool) (s : Nat) (f : Nat → Int32) : Nat → Nat → Int32
  | 0 => f
  | v + 1 => if c s v then upd (owI c s f v) (s ||| 2 ^ v) (owI c s f v (s ||| 2 ^ v) + owI c s f v s) else owI c s f v
def owS (c : Nat → Nat → Bool) (N : Nat) : Nat → Nat → Int32
  | 0 => fun t => if t = 0 then 1 else 0
  | s + 1 => owI c s (owS c N s) N
theorem owI_y {c : Nat → Nat → Bool} {s v : Nat} {f : Nat → Int32} (q : c s v = true) (t : Nat) : owI c s f (v + 1) t = if t = s ||| 2 ^ v then owI c s f v (s ||| 2 ^ v) + owI c s f v s else owI c s f v t := by
  rw [owI, if_pos q]
  rfl
theorem owI_n {c : Nat → Nat → Bool} {s v : Nat} {f : Nat → Int32} (q : c s v = false) : owI c s f (v + 1) = owI c s f v := by
  rw [owI, if_neg (by rw [q]; exact Bool.noConfusion)]
theorem owI_all {c : Nat → Nat → Bool} {s : Nat} {f : Nat → Int32} : ∀ v, (∀ u, u < v → c s u = false) → owI c s f v = f
  | 0, _ => rfl
  | v + 1, q => by rw [owI_n (q v (by omega)), owI_all v (fun u hu => q u (by omega))]
theorem cm_top {E : Nat} {l h : Nat → Nat} {x : Int32} {N v : Nat} (hv : v < N) : cmB E l h x (2 ^ N - 1) v = false := by
  unfold cmB
  rw [Nat.testBit_two_pow_sub_one, decide_eq_true hv]
  rfl
theorem ow_top {E : Nat} {l h : Nat → Nat} {x : Int32} {N : Nat} : owS (cmB E l h x) N (2 ^ N) = owS (cmB E l h x) N (2 ^ N - 1) := by
  have hp : 0 < 2 ^ N := Nat.two_pow_pos N
  have e : 2 ^ N = 2 ^ N - 1 + 1 := by omega
  conv => lhs; rw [e]
  exact owI_all N (fun u hu => cm_top hu)
theorem or_lt {N s v : Nat} (hs : s < 2 ^ N) (hv : v < N) : s ||| 2 ^ v < 2 ^ N := Nat.or_lt_two_pow hs (Nat.pow_lt_pow_right (by decide) hv)
theorem p7 {N : Nat} (h : N ≤ 7) : 2 ^ N ≤ 128 := p2 (k := 7) h
/-- the least word: the nodes that came, the digits so far; none: no node can come -/
def lwS (c : Nat → Nat → Bool) (N : Nat) : Nat → Option (Nat × Nat)
  | 0 => some (0, 0)
  | k + 1 => (lwS c N k).bind fun p => if fa_first (c p.1) N < N then some (p.1 ||| 2 ^ fa_first (c p.1) N, p.2 * 10 + fa_first (c p.1) N + 1) else none
theorem lwS_y {c : Nat → Nat → Bool} {N k g w v : Nat} (h : lwS c N k = some (g, w)) (hv : fa_first (c g) N = v) (q : v < N) : lwS c N (k + 1) = some (g ||| 2 ^ v, w * 10 + v + 1) := by
  subst hv
  show (lwS c N k).bind _ = _
  rw [h]
  show (if _ then _ else _) = _
  rw [if_pos q]
theorem lwS_n {c : Nat → Nat → Bool} {N k g w : Nat} (h : lwS c N k = some (g, w)) (q : fa_first (c g) N = N) : ∀ j, lwS c N (k + 1 + j) = none
  | 0 => by
    show (lwS c N k).bind _ = _
    rw [h]
    show (if _ then _ else _) = _
    rw [q, if_neg (Nat.lt_irrefl N)]
  | j + 1 => by
    show (lwS c N (k + 1 + j)).bind _ = _
    rw [lwS_n h q j]
    rfl
theorem lwS_b {c : Nat → Nat → Bool} {N : Nat} (hN : N ≤ 7) : ∀ k g w, lwS c N k = some (g, w) → g < 2 ^ N ∧ w < 10 ^ k
  | 0, g, w, h => by
    have e : (0, 0) = (g, w) := Option.some.inj h
    rw [← (Prod.mk.inj e).1, ← (Prod.mk.inj e).2]
    exact ⟨Nat.two_pow_pos N, by decide⟩
  | k + 1, g, w, h => by
    have h' : (lwS c N k).bind _ = some (g, w) := h
    obtain ⟨⟨g0, w0⟩, h1, h2⟩ := Option.bind_eq_some_iff.mp h'
    have ih := lwS_b hN k g0 w0 h1
    have h3 : (if fa_first (c g0) N < N then some (g0 ||| 2 ^ fa_first (c g0) N, w0 * 10 + fa_first (c g0) N + 1) else none) = some (g, w) := h2
    by_cases q : fa_first (c g0) N < N
    · rw [if_pos q] at h3
      have e := Option.some.inj h3
      rw [← (Prod.mk.inj e).1, ← (Prod.mk.inj e).2]
      refine ⟨or_lt ih.1 q, ?_⟩
      rw [Nat.pow_succ]
      omega
    · rw [if_neg q] at h3
      exact absurd h3 (by simp)
/-- what words answers for the least -/
def lwA (c : Nat → Nat → Bool) (N : Nat) : Int32 := match lwS c N N with
  | some p => nI p.2
  | none => -2

theorem row_at {M : Mm} {a k n : Nat} {f : Nat → Int32} (hM : ∀ t, t < n → M a t = f t) (hk : k < n) : M a k = f k := hM k hk

set_option maxHeartbeats 1000000 in
set_option maxRecDepth 10000 in
theorem lp_X10_howMany_44 {d : Nat} {M : Mm} {ML : Ml} {N E A : Nat} {l h : Nat → Nat} (hW : WN N E A l h) {x : Int32} (ha : ∀ v, v < 7 → M 42 v = nI (ahM l h x E v)) {s : Nat} (hs : s < 2 ^ N) (hk : ∀ M9, Fr [43] M M9 → (∀ t, t < 2 ^ N → M9 43 t = owS (cmB E l h x) N (s + 1) t) → WP (d + 2) cd_X10_howMany false (fun r M2 L2 => r = some (.int (owS (cmB E l h x) N (2 ^ N) (2 ^ N - 1))) ∧ L2 = ML ∧ Fr [43] M M2) (36, [(0, .ref 39), (1, .int (nI N)), (2, .int (nI (2 ^ N))), (3, .int (nI (s + 1)))], [], (SH, M9, ML))) : ∀ v, v ≤ N → ∀ M', Fr [43] M M' → (∀ t, t < 2 ^ N → M' 43 t = owI (cmB E l h x) s (owS (cmB E l h x) N s) v t) → WP (d + 2) cd_X10_howMany false (fun r M2 L2 => r = some (.int (owS (cmB E l h x) N (2 ^ N) (2 ^ N - 1))) ∧ L2 = ML ∧ Fr [43] M M2) (44, [(0, .ref 39), (1, .int (nI N)), (2, .int (nI (2 ^ N))), (3, .int (nI s)), (4, .int (nI v))], [], (SH, M', ML)) := by
  have hN7 := hW.2.1
  have hN1 := hW.1
  have h128 := p7 hN7
  have hp2 : 0 < 2 ^ N := Nat.two_pow_pos N
  refine up_ind fun v hv ih => ?_
  intro M' hF hr
  have ha' : ∀ v, v < 7 → M' 42 v = nI (ahM l h x E v) := fun v hv => by rw [hF 42 (by decide)]; exact ha v hv
  refine w_ld rfl rfl ?_
  refine w_ld rfl rfl ?_
  refine w_cj rfl rfl (fun h_47 => ?_) (fun h_47 => ?_)
  · have h9 : v = N := by have := nle (by omega) (by omega) h_47; omega
    subst h9
    refine w_inc (y := _ + 1) rfl rfl rfl ?_
    refine w_norm (L' := [(0, _), (1, _), (2, _), (3, _), (4, _)]) rfl ?_
    refine w_go rfl ?_
    refine w_keep [0, 1, 2, 3] (L' := [(0, _), (1, _), (2, _), (3, _)]) rfl ?_
    rw [nI_1]
    exact hk _ hF hr
  · have hlt : v < N := nnle (by omega) (by omega) h_47
    have hor := or_lt hs hlt
    refine w_ld rfl rfl ?_
    refine w_ld rfl rfl ?_
    refine w_ld rfl rfl ?_
    refine w_cife (as := [_, _, _]) (rest := []) rfl rfl rfl rfl rfl rfl rfl rfl (EX_ex (ok_X10_mayCome hW ha' (by omega) (by omega))) rfl (fun h_54 => ?_) (fun h_54 => ?_)
    · refine w_inc (y := _ + 1) rfl rfl rfl ?_
      refine w_norm (L' := [(0, _), (1, _), (2, _), (3, _), (4, _)]) rfl ?_
      refine w_go rfl ?_
      rw [nI_1]
      first
        | exact ih hlt _ hF (fun t ht => by rw [owI_n h_54]; exact hr t ht)
        | (refine ih hlt _ (Fr_up (by decide) hF) (fun t ht => ?_)
           rw [owI_y h_54]
           by_cases q : t = s ||| 2 ^ v
           · rw [q, up2_e, if_pos rfl]
           · rw [up2_k q, if_neg q]
             exact hr t ht)
    · refine w_ld rfl rfl ?_
      refine w_cst (v := .int 1) rfl rfl ?_
      refine w_ld rfl rfl ?_
      refine w_bin rfl rfl ?_
      refine w_bin rfl rfl ?_
      rw [or_sh (by omega)]
      refine w_sto (L' := [(0, _), (1, _), (2, _), (3, _), (4, _), (5, _)]) rfl rfl ?_
      skip
      refine w_ld rfl rfl ?_
      refine w_getr rfl rfl rfl rfl rfl ?_
      refine w_ld rfl rfl ?_
      refine w_ld rfl rfl ?_
      refine w_getr rfl rfl rfl rfl rfl ?_
      refine w_ld rfl rfl ?_
      refine w_call (as := [_, _]) (rest := [_, _]) rfl rfl rfl rfl rfl rfl rfl rfl (ok_at_v _ _ _ rfl rfl rfl (rfl) (by omega) (hr _ hor)) ?_
      refine w_ld rfl rfl ?_
      refine w_getr rfl rfl rfl rfl rfl ?_
      refine w_ld rfl rfl ?_
      refine w_call (as := [_, _]) (rest := [_, _, _]) rfl rfl rfl rfl rfl rfl rfl rfl (ok_at_v _ _ _ rfl rfl rfl (rfl) (by omega) (hr _ hs)) ?_
      refine w_bin rfl rfl ?_
      refine w_callv (as := [_, _, _]) (rest := []) rfl rfl rfl rfl rfl rfl rfl rfl (ok_lay_n _ _ _ _ _ rfl rfl rfl (rfl) (by omega)) ?_
      refine w_inc (y := _ + 1) rfl rfl rfl ?_
      refine w_norm (L' := [(0, _), (1, _), (2, _), (3, _), (4, _), (5, _)]) rfl ?_
      refine w_go rfl ?_
      refine w_keep [0, 1, 2, 3, 4] (L' := [(0, _), (1, _), (2, _), (3, _), (4, _)]) rfl ?_
      rw [nI_1]
      first
        | exact ih hlt _ hF (fun t ht => by rw [owI_n h_54]; exact hr t ht)
        | (refine ih hlt _ (Fr_up (by decide) hF) (fun t ht => ?_)
           rw [owI_y h_54]
           by_cases q : t = s ||| 2 ^ v
           · rw [q, up2_e, if_pos rfl]
           · rw [up2_k q, if_neg q]
             exact hr t ht)

set_option maxHeartbeats 1000000 in
set_option maxRecDepth 10000 in
theorem lp_X10_howMany_36 {d : Nat} {M : Mm} {ML : Ml} {N E A : Nat} {l h : Nat → Nat} (hW : WN N E A l h) {x : Int32} (ha : ∀ v, v < 7 → M 42 v = nI (ahM l h x E v)) : ∀ s, s ≤ 2 ^ N → ∀ M', Fr [43] M M' → (∀ t, t < 2 ^ N → M' 43 t = owS (cmB E l h x) N s t) → WP (d + 2) cd_X10_howMany false (fun r M2 L2 => r = some (.int (owS (cmB E l h x) N (2 ^ N) (2 ^ N - 1))) ∧ L2 = ML ∧ Fr [43] M M2) (36, [(0, .ref 39), (1, .int (nI N)), (2, .int (nI (2 ^ N))), (3, .int (nI s))], [], (SH, M', ML)) := by
  have hN7 := hW.2.1
  have hN1 := hW.1
  have h128 := p7 hN7
  have hp2 : 0 < 2 ^ N := Nat.two_pow_pos N
  refine up_ind fun s hs ih => ?_
  intro M' hF hr
  refine w_ld rfl rfl ?_
  refine w_ld rfl rfl ?_
  refine w_cj rfl rfl (fun h_38 => ?_) (fun h_38 => ?_)
  · have h9 : s = 2 ^ N := by have := nle (by omega) (by omega) h_38; omega
    subst h9
    refine w_ld rfl rfl ?_
    refine w_getr rfl rfl rfl rfl rfl ?_
    refine w_ld rfl rfl ?_
    refine w_cst (v := .int 1) rfl rfl ?_
    refine w_bin rfl rfl ?_
    refine w_call (as := [_, _]) (rest := []) rfl rfl rfl rfl rfl rfl rfl rfl (ok_at_v _ _ _ rfl rfl rfl (by rw [show (1 : Int32) = nI 1 from rfl, pk_sub (by omega)]) (by omega) (hr _ (by omega))) ?_
    refine w_ret rfl rfl (trivial) ?_
    exact ⟨rfl, rfl, hF⟩
  · have hlt : s < 2 ^ N := nnle (by omega) (by omega) h_38
    refine w_cst (v := .int 0) rfl rfl ?_
    refine w_sto (L' := [(0, _), (1, _), (2, _), (3, _), (4, _)]) rfl rfl ?_
    exact lp_X10_howMany_44 hW ha hlt (fun M9 hF9 hr9 => ih hlt M9 hF9 hr9) 0 (Nat.zero_le _) M' hF hr

set_option maxHeartbeats 1000000 in
set_option maxRecDepth 10000 in
theorem lp_X10_howMany_6 {d : Nat} {M : Mm} {ML : Ml} {N E A : Nat} {l h : Nat → Nat} (hW : WN N E A l h) {x : Int32} (ha : ∀ v, v < 7 → M 42 v = nI (ahM l h x E v)) : ∀ s, s ≤ 2 ^ N → ∀ M', Fr [43] M M' → (∀ t, t < s → M' 43 t = owS (cmB E l h x) N 0 t) → WP (d + 2) cd_X10_howMany false (fun r M2 L2 => r = some (.int (owS (cmB E l h x) N (2 ^ N) (2 ^ N - 1))) ∧ L2 = ML ∧ Fr [43] M M2) (6, [(0, .ref 39), (1, .int (nI N)), (2, .int (nI (2 ^ N))), (3, .int (nI s))], [], (SH, M', ML)) := by
  have hN7 := hW.2.1
  have hN1 := hW.1
  have h128 := p7 hN7
  have hp2 : 0 < 2 ^ N := Nat.two_pow_pos N
  refine up_ind fun s hs ih => ?_
  intro M' hF hr
  refine w_ld rfl rfl ?_
  refine w_ld rfl rfl ?_
  refine w_cj rfl rfl (fun h_8 => ?_) (fun h_8 => ?_)
  · have h9 : s = 2 ^ N := by have := nle (by omega) (by omega) h_8; omega
    subst h9
    refine w_cst (v := .int 0) rfl rfl ?_
    refine w_sto (L' := [(0, _), (1, _), (2, _), (3, _)]) rfl rfl ?_
    exact lp_X10_howMany_36 hW ha 0 (Nat.zero_le _) M' hF hr
  · have hlt : s < 2 ^ N := nnle (by omega) (by omega) h_8
    refine w_ld rfl rfl ?_
    refine w_getr rfl rfl rfl rfl rfl ?_
    refine w_ld rfl rfl ?_
    refine w_ld rfl rfl ?_
    refine w_cj rfl rfl (fun h_17 => ?_) (fun h_17 => ?_)
    · refine w_cst (v := .int 0) rfl rfl ?_
      refine w_callv (as := [_, _, _]) (rest := []) rfl rfl rfl rfl rfl rfl rfl rfl (ok_lay_n _ _ _ _ _ rfl rfl rfl (rfl) (by omega)) ?_
      refine w_inc (y := _ + 1) rfl rfl rfl ?_
      refine w_norm (L' := [(0, _), (1, _), (2, _), (3, _)]) rfl ?_
      refine w_go rfl ?_
      rw [nI_1]
      refine ih hlt _ (Fr_up (by decide) hF) (fun t ht => ?_)
      by_cases q : t = s
      · subst q
        rw [up2_e]
        first
          | exact (if_pos ((nI_e0 (by omega)).mp (Classical.not_not.mp h_17))).symm
          | exact (if_neg (fun w => h_17 (by rw [w]; rfl))).symm
      · rw [up2_k q]
        exact hr t (by omega)
    · refine w_cst (v := .int 1) rfl rfl ?_
      refine w_go rfl ?_
      refine w_callv (as := [_, _, _]) (rest := []) rfl rfl rfl rfl rfl rfl rfl rfl (ok_lay_n _ _ _ _ _ rfl rfl rfl (rfl) (by omega)) ?_
      refine w_inc (y := _ + 1) rfl rfl rfl ?_
      refine w_norm (L' := [(0, _), (1, _), (2, _), (3, _)]) rfl ?_
      refine w_go rfl ?_
      rw [nI_1]
      refine ih hlt _ (Fr_up (by decide) hF) (fun t ht => ?_)
      by_cases q : t = s
      · subst q
        rw [up2_e]
        first
          | exact (if_pos ((nI_e0 (by omega)).mp (Classical.not_not.mp h_17))).symm
          | exact (if_neg (fun w => h_17 (by rw [w]; rfl))).symm
      · rw [up2_k q]
        exact hr t (by omega)

set_option maxHeartbeats 1000000 in
set_option maxRecDepth 10000 in
theorem ok_X10_howMany {d : Nat} {M : Mm} {ML : Ml} {N E A : Nat} {l h : Nat → Nat} (hW : WN N E A l h) {x : Int32} (ha : ∀ v, v < 7 → M 42 v = nI (ahM l h x E v)) : EX (d + 3) k_X10_howMany [.ref 39, .int (nI N)] M ML (fun r M2 L2 => r = some (.int (owS (cmB E l h x) N (2 ^ N) (2 ^ N - 1))) ∧ L2 = ML ∧ Fr [43] M M2) := by
  refine EX_in mi_X10_howMany rfl rfl ?_
  show WP _ cd_X10_howMany false _ (0, [(0, .ref 39), (1, .int (nI N))], [], (SH, M, ML))
  refine w_cst (v := .int 1) rfl rfl ?_
  refine w_ld rfl rfl ?_
  refine w_bin rfl rfl ?_
  rw [shl1 (by have := hW.2.1; omega)]
  refine w_sto (L' := [(0, _), (1, _), (2, _)]) rfl rfl ?_
  refine w_cst (v := .int 0) rfl rfl ?_
  refine w_sto (L' := [(0, _), (1, _), (2, _), (3, _)]) rfl rfl ?_
  exact lp_X10_howMany_6 hW ha 0 (Nat.zero_le _) M Fr_rf (fun t ht => absurd ht (Nat.not_lt_zero t))

set_option maxHeartbeats 1000000 in
set_option maxRecDepth 10000 in
theorem lp_X10_leastWord_16 {d : Nat} {M : Mm} {ML : Ml} {N E A : Nat} {l h : Nat → Nat} (hW : WN N E A l h) {x : Int32} (ha : ∀ v, v < 7 → M 42 v = nI (ahM l h x E v)) {k g w : Nat} (hg : g < 2 ^ N) (hn : fa_first (cmB E l h x g) N = N → WP (d + 2) cd_X10_leastWord false (fun r M2 L2 => r = some (.int (match lwS (cmB E l h x) N N with | some p => nI p.2 | none => -1)) ∧ L2 = ML ∧ M2 = M) (44, [(0, .ref 39), (1, .int (nI N))], [], (SH, M, ML))) (hy : ∀ v, v < N → fa_first (cmB E l h x g) N = v → WP (d + 2) cd_X10_leastWord false (fun r M2 L2 => r = some (.int (match lwS (cmB E l h x) N N with | some p => nI p.2 | none => -1)) ∧ L2 = ML ∧ M2 = M) (46, [(0, .ref 39), (1, .int (nI N)), (2, .int (nI w)), (3, .int (nI g)), (4, .int (nI k)), (5, .int (nI v))], [], (SH, M, ML))) : ∀ v, v ≤ N → (∀ u, u < v → cmB E l h x g u = false) → WP (d + 2) cd_X10_leastWord false (fun r M2 L2 => r = some (.int (match lwS (cmB E l h x) N N with | some p => nI p.2 | none => -1)) ∧ L2 = ML ∧ M2 = M) (16, [(0, .ref 39), (1, .int (nI N)), (2, .int (nI w)), (3, .int (nI g)), (4, .int (nI k)), (5, .int (nI v))], [], (SH, M, ML)) := by
  have hN7 := hW.2.1
  have hN1 := hW.1
  have h128 := p7 hN7
  have hp2 : 0 < 2 ^ N := Nat.two_pow_pos N
  refine up_ind fun v hv ih => ?_
  intro hu
  refine w_ld rfl rfl ?_
  refine w_ld rfl rfl ?_
  refine w_cj rfl rfl (fun h_19 => ?_) (fun h_19 => ?_)
  · refine w_ld rfl rfl ?_
    refine w_ld rfl rfl ?_
    refine w_cj rfl rfl (fun h_41 => ?_) (fun h_41 => ?_)
    · have hlt := nlt (by omega) (by omega) h_41
      first
        | exact absurd (nle (by omega) (by omega) h_19) (by omega)
        | exact hy v hlt (ff_eq hlt h_26 hu)
    · have hge := nnlt (by omega) (by omega) h_41
      have h9 : v = N := by omega
      refine w_keep [0, 1] (L' := [(0, _), (1, _)]) rfl ?_
      refine hn ?_
      refine Nat.le_antisymm (fa_first_le _ N) (Nat.not_lt.mp fun q => ?_)
      have := fa_first_yes _ _ q
      rw [hu _ (by omega)] at this
      exact Bool.noConfusion this
  · have hlt : v < N := nnle (by omega) (by omega) h_19
    refine w_ld rfl rfl ?_
    refine w_ld rfl rfl ?_
    refine w_ld rfl rfl ?_
    refine w_cifn (as := [_, _, _]) (rest := []) rfl rfl rfl rfl rfl rfl rfl rfl (EX_ex (ok_X10_mayCome hW ha (by omega) (by omega))) rfl (fun h_26 => ?_) (fun h_26 => ?_)
    · refine w_ld rfl rfl ?_
      refine w_ld rfl rfl ?_
      refine w_cj rfl rfl (fun h_41 => ?_) (fun h_41 => ?_)
      · have hlt := nlt (by omega) (by omega) h_41
        first
          | exact absurd (nle (by omega) (by omega) h_19) (by omega)
          | exact hy v hlt (ff_eq hlt h_26 hu)
      · have hge := nnlt (by omega) (by omega) h_41
        have h9 : v = N := by omega
        refine w_keep [0, 1] (L' := [(0, _), (1, _)]) rfl ?_
        refine hn ?_
        refine Nat.le_antisymm (fa_first_le _ N) (Nat.not_lt.mp fun q => ?_)
        have := fa_first_yes _ _ q
        rw [hu _ (by omega)] at this
        exact Bool.noConfusion this
    · refine w_inc (y := _ + 1) rfl rfl rfl ?_
      refine w_norm (L' := [(0, _), (1, _), (2, _), (3, _), (4, _), (5, _)]) rfl ?_
      refine w_go rfl ?_
      rw [nI_1]
      refine ih hlt (fun u hq => ?_)
      rcases Nat.lt_or_ge u v with r | r
      · exact hu u r
      · have : u = v := by omega
        subst this
        exact h_26

set_option maxHeartbeats 1000000 in
set_option maxRecDepth 10000 in
theorem lp_X10_leastWord_7 {d : Nat} {M : Mm} {ML : Ml} {N E A : Nat} {l h : Nat → Nat} (hW : WN N E A l h) {x : Int32} (ha : ∀ v, v < 7 → M 42 v = nI (ahM l h x E v)) : ∀ k, k ≤ N → ∀ g w, lwS (cmB E l h x) N k = some (g, w) → WP (d + 2) cd_X10_leastWord false (fun r M2 L2 => r = some (.int (match lwS (cmB E l h x) N N with | some p => nI p.2 | none => -1)) ∧ L2 = ML ∧ M2 = M) (7, [(0, .ref 39), (1, .int (nI N)), (2, .int (nI w)), (3, .int (nI g)), (4, .int (nI k))], [], (SH, M, ML)) := by
  have hN7 := hW.2.1
  have hN1 := hW.1
  have h128 := p7 hN7
  have hp2 : 0 < 2 ^ N := Nat.two_pow_pos N
  refine up_ind fun k hk ih => ?_
  intro g w hl
  have hb := lwS_b hN7 k g w hl
  refine w_ld rfl rfl ?_
  refine w_ld rfl rfl ?_
  refine w_cj rfl rfl (fun h_10 => ?_) (fun h_10 => ?_)
  · have h9 : k = N := by have := nle (by omega) (by omega) h_10; omega
    subst h9
    refine w_ld rfl rfl ?_
    refine w_ret rfl rfl (trivial) ?_
    exact ⟨by rw [hl], rfl, rfl⟩
  · have hlt : k < N := nnle (by omega) (by omega) h_10
    refine w_cst (v := .int 0) rfl rfl ?_
    refine w_sto (L' := [(0, _), (1, _), (2, _), (3, _), (4, _), (5, _)]) rfl rfl ?_
    refine lp_X10_leastWord_16 hW ha hb.1 (fun q => ?_) (fun v hv q => ?_) 0 (Nat.zero_le _) (fun u hu => absurd hu (Nat.not_lt_zero u))
    · refine w_cst (v := .int (-1)) rfl rfl ?_
      refine w_ret rfl rfl trivial ?_
      have h9 := lwS_n hl q (N - (k + 1))
      rw [show k + 1 + (N - (k + 1)) = N by omega] at h9
      exact ⟨by rw [h9], rfl, rfl⟩
    · have hp9 := lwS_y hl q hv
      refine w_ld rfl rfl ?_
      refine w_cst (v := .int 1) rfl rfl ?_
      refine w_ld rfl rfl ?_
      refine w_bin rfl rfl ?_
      refine w_bin rfl rfl ?_
      rw [or_sh (by omega)]
      refine w_sto (L' := [(0, _), (1, _), (2, _), (3, _), (4, _), (5, _)]) rfl rfl ?_
      refine w_ld rfl rfl ?_
      refine w_cst (v := .int 10) rfl rfl ?_
      refine w_bin rfl rfl ?_
      refine w_ld rfl rfl ?_
      refine w_bin rfl rfl ?_
      refine w_cst (v := .int 1) rfl rfl ?_
      refine w_bin rfl rfl ?_
      rw [show (10 : Int32) = nI 10 from rfl, pk_mul, nI_add, nI_1]
      refine w_sto (L' := [(0, _), (1, _), (2, _), (3, _), (4, _), (5, _)]) rfl rfl ?_
      refine w_inc (y := _ + 1) rfl rfl rfl ?_
      refine w_norm (L' := [(0, _), (1, _), (2, _), (3, _), (4, _), (5, _)]) rfl ?_
      refine w_go rfl ?_
      refine w_keep [0, 1, 2, 3, 4] (L' := [(0, _), (1, _), (2, _), (3, _), (4, _)]) rfl ?_
      rw [nI_1]
      exact ih hlt _ _ hp9

set_option maxHeartbeats 1000000 in
set_option maxRecDepth 10000 in
theorem ok_X10_leastWord {d : Nat} {M : Mm} {ML : Ml} {N E A : Nat} {l h : Nat → Nat} (hW : WN N E A l h) {x : Int32} (ha : ∀ v, v < 7 → M 42 v = nI (ahM l h x E v)) : EX (d + 3) k_X10_leastWord [.ref 39, .int (nI N)] M ML (fun r M2 L2 => r = some (.int (match lwS (cmB E l h x) N N with | some p => nI p.2 | none => -1)) ∧ L2 = ML ∧ M2 = M) := by
  refine EX_in mi_X10_leastWord rfl rfl ?_
  show WP _ cd_X10_leastWord false _ (0, [(0, .ref 39), (1, .int (nI N))], [], (SH, M, ML))
  refine w_cst (v := .int 0) rfl rfl ?_
  refine w_sto (L' := [(0, _), (1, _), (2, _)]) rfl rfl ?_
  refine w_cst (v := .int 0) rfl rfl ?_
  refine w_sto (L' := [(0, _), (1, _), (2, _), (3, _)]) rfl rfl ?_
  refine w_cst (v := .int 0) rfl rfl ?_
  refine w_sto (L' := [(0, _), (1, _), (2, _), (3, _), (4, _)]) rfl rfl ?_
  exact lp_X10_leastWord_7 hW ha 0 (Nat.zero_le _) 0 0 rfl

set_option maxHeartbeats 1000000 in
set_option maxRecDepth 10000 in
theorem ok_X11_words {d : Nat} {M : Mm} {ML : Ml} {N E A : Nat} {l h : Nat → Nat} (hS : NS M 2 3 4 5 6 N E A l h) (hW : WN N E A l h) {x y : Int32} : EX (d + 4) k_X11_words [.ref 1, .int x, .int y] M ML (fun r M2 L2 => r = some (.int (bif inR x (2 ^ E) && wh y 1 then (if y = 0 then lwA (cmB E l h x) N else owS (cmB E l h x) N (2 ^ N) (2 ^ N - 1)) else -1)) ∧ L2 = ML ∧ Fr [42, 43] M M2) := by
  refine EX_in mi_X11_words rfl rfl ?_
  show WP _ cd_X11_words false _ (0, [(0, .ref 1), (1, .int x), (2, .int y)], [], (SH, M, ML))
  refine w_ld rfl rfl ?_
  refine w_getr rfl rfl rfl rfl rfl ?_
  refine w_ld rfl rfl ?_
  refine w_cife (as := [_, _]) (rest := []) rfl rfl rfl rfl rfl rfl rfl rfl (ok_X4_hasArrowing _ _ _ _ hS.2.1 hW.2.2.1) rfl (fun h_5 => ?_) (fun h_5 => ?_)
  · refine w_cst (v := .int (-1)) rfl rfl ?_
    refine w_ret rfl rfl (trivial) ?_
    refine ⟨?_, rfl, Fr_rf⟩
    first
      | (rw [h_5]; rfl)
      | (rw [h_5, wh_no1 h_12]; rfl)
      | (rw [h_5, wh_no2 (n := 1) (nle_lt.mp h_17)]; rfl)
  · refine w_ld rfl rfl ?_
    refine w_cj rfl rfl (fun h_12 => ?_) (fun h_12 => ?_)
    · refine w_cst (v := .int (-1)) rfl rfl ?_
      refine w_ret rfl rfl (trivial) ?_
      refine ⟨?_, rfl, Fr_rf⟩
      first
        | (rw [h_5]; rfl)
        | (rw [h_5, wh_no1 h_12]; rfl)
        | (rw [h_5, wh_no2 (n := 1) (nle_lt.mp h_17)]; rfl)
    · refine w_ld rfl rfl ?_
      refine w_cst (v := .int 1) rfl rfl ?_
      refine w_cj rfl rfl (fun h_17 => ?_) (fun h_17 => ?_)
      · refine w_ld rfl rfl ?_
        refine w_getr rfl rfl rfl rfl rfl ?_
        refine w_ld rfl rfl ?_
        refine w_getr rfl rfl rfl rfl rfl ?_
        refine w_ld rfl rfl ?_
        obtain ⟨_, M3, L3, ⟨rfl, rfl, hF, hah⟩, hE31⟩ := ok_X10_order (d := d) (ML := ML) (M := M) hS hW
        refine w_callv (as := [_, _, _]) (rest := []) rfl rfl rfl rfl rfl rfl rfl rfl hE31 ?_
        have hS3 := NS_Fr hS hF (by decide)
        refine w_ld rfl rfl ?_
        refine w_cst (v := .int 1) rfl rfl ?_
        refine w_cj rfl rfl (fun h_36 => ?_) (fun h_36 => ?_)
        · refine w_ld rfl rfl ?_
          refine w_getr rfl rfl rfl rfl rfl ?_
          refine w_ld rfl rfl ?_
          refine w_getr rfl rfl rfl rfl rfl ?_
          refine w_getv rfl rfl rfl rfl rfl (hS3.1) ?_
          refine w_call (as := [_, _]) (rest := []) rfl rfl rfl rfl rfl rfl rfl rfl (EX_ex (ok_X10_leastWord hW hah)) ?_
          refine w_sto (L' := [(0, _), (1, _), (2, _), (3, _)]) rfl rfl ?_
          refine w_ld rfl rfl ?_
          refine w_cj rfl rfl (fun h_70 => ?_) (fun h_70 => ?_)
          · refine w_ld rfl rfl ?_
            refine w_ret rfl rfl (trivial) ?_
            refine ⟨?_, rfl, Fr_mono hF (by decide)⟩
            have hy0 : y = 0 := by
              obtain ⟨j, hj, rfl⟩ := wh_ex (by decide) (wh_yes (n := 1) h_12 h_17)
              match j, hj with
              | 0, _ => rfl
              | 1, _ => exact absurd rfl h_36
            rw [h_5, wh_yes (n := 1) h_12 h_17]
            show _ = some (Value.int (if y = 0 then _ else _))
            rw [if_pos hy0]
            unfold lwA
            cases hw : lwS (cmB E l h x) N N with
            | none => first | rfl | (rw [hw] at h_70; exact absurd h_70 (by decide))
            | some p =>
              have hb := (lwS_b hW.2.1 N p.1 p.2 hw).2
              have hp := p10 hW.2.1
              first
                | rfl
                | (rw [hw] at h_70; exact absurd (nI_pos' (by omega)) h_70)
          · refine w_cst (v := .int (-2)) rfl rfl ?_
            refine w_go rfl ?_
            refine w_ret rfl rfl (trivial) ?_
            refine ⟨?_, rfl, Fr_mono hF (by decide)⟩
            have hy0 : y = 0 := by
              obtain ⟨j, hj, rfl⟩ := wh_ex (by decide) (wh_yes (n := 1) h_12 h_17)
              match j, hj with
              | 0, _ => rfl
              | 1, _ => exact absurd rfl h_36
            rw [h_5, wh_yes (n := 1) h_12 h_17]
            show _ = some (Value.int (if y = 0 then _ else _))
            rw [if_pos hy0]
            unfold lwA
            cases hw : lwS (cmB E l h x) N N with
            | none => first | rfl | (rw [hw] at h_70; exact absurd h_70 (by decide))
            | some p =>
              have hb := (lwS_b hW.2.1 N p.1 p.2 hw).2
              have hp := p10 hW.2.1
              first
                | rfl
                | (rw [hw] at h_70; exact absurd (nI_pos' (by omega)) h_70)
        · refine w_ld rfl rfl ?_
          refine w_getr rfl rfl rfl rfl rfl ?_
          refine w_ld rfl rfl ?_
          refine w_getr rfl rfl rfl rfl rfl ?_
          refine w_getv rfl rfl rfl rfl rfl (hS3.1) ?_
          obtain ⟨_, M4, L4, ⟨rfl, rfl, hF2⟩, hE50⟩ := ok_X10_howMany (d := d) (ML := L3) (M := M3) hW hah
          refine w_call (as := [_, _]) (rest := []) rfl rfl rfl rfl rfl rfl rfl rfl hE50 ?_
          refine w_ret rfl rfl (trivial) ?_
          refine ⟨?_, rfl, Fr_tr (Fr_mono hF (by decide)) (Fr_mono hF2 (by decide))⟩
          rw [h_5, wh_yes (n := 1) h_12 h_17, Classical.not_not.mp h_36]
          exact rfl
      · refine w_cst (v := .int (-1)) rfl rfl ?_
        refine w_ret rfl rfl (trivial) ?_
        refine ⟨?_, rfl, Fr_rf⟩
        first
          | (rw [h_5]; rfl)
          | (rw [h_5, wh_no1 h_12]; rfl)
          | (rw [h_5, wh_no2 (n := 1) (nle_lt.mp h_17)]; rfl)

