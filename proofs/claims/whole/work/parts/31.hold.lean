/-! ===== holders: the class ===== -/
/-- what hinders a row in a holder that holds h -/
def nrV (h : Int32) : Int32 := if h = 0 then -11 else if h = 3 then 0 else -12
/-- what taken answers: held h, asked y, number, size -/
def tkV (h y nb sz : Int32) : Int32 := if h = 0 then -11 else if h = 3 ∨ (y ≠ 0 ∧ y ≠ h) then -12 else if y = 0 then nb else sz
/-- row a, cells below e are 0 -/
def zro (M : Nat → Nat → Int32) (a e : Nat) : Nat → Nat → Int32 := fun x y => if x = a ∧ y < e then 0 else M x y
theorem zro_0 (M : Nat → Nat → Int32) (a : Nat) : zro M a 0 = M := by
  funext x y
  unfold zro
  rw [if_neg (by omega)]
theorem zro_succ (M : Nat → Nat → Int32) (a e : Nat) : up2 (zro M a e) a e 0 = zro M a (e + 1) := by
  funext x y
  rw [up2_at]
  unfold zro
  by_cases h : x = a
  · by_cases h2 : y = e
    · simp [h, h2]
    · have : y < e + 1 ↔ y < e := by omega
      simp [h, h2, this]
  · simp [h]

set_option maxHeartbeats 1000000 in
set_option maxRecDepth 10000 in
theorem ok_X11_holderAt_n (d : Nat) (M : Nat → Nat → Int32) (ML : Nat → Nat → Int64) {x : Int32} (hx : ¬ (0 ≤ x ∧ x < 6)) : Ex (d + 1) k_X11_holderAt [.ref 1, .int x] (SH, M, ML) (some .null, (SH, M, ML)) := by
  refine Ex_in mi_X11_holderAt rfl rfl ⟨Nat.le_refl _, Nat.le_refl _⟩ ?_
  show RR _ cd_X11_holderAt false _ (0, [(0, .ref 1), (1, .int x)], [], (SH, M, ML))
  refine r_ld rfl rfl ?_
  refine r_cj rfl rfl (fun h_1 => ?_) (fun h_1 => ?_)
  · refine r_cst (v := .null) rfl rfl ?_
    refine r_ret rfl rfl (trivial) ?_
    exact rfl
  · refine r_ld rfl rfl ?_
    refine r_ld rfl rfl ?_
    refine q_getr rfl rfl rfl rfl rfl ?_
    refine q_len rfl rfl rfl rfl ?_
    refine r_cj rfl rfl (fun h_10 => ?_) (fun h_10 => ?_)
    · refine r_cst (v := .null) rfl rfl ?_
      refine r_ret rfl rfl (trivial) ?_
      exact rfl
    · exact (hx ⟨nlt0.mp h_1, Int32.not_le.mp h_10⟩).elim

set_option maxHeartbeats 1000000 in
set_option maxRecDepth 10000 in
theorem ok_X11_noRow_n (d : Nat) (M : Nat → Nat → Int32) (ML : Nat → Nat → Int64) : Ex (d + 1) k_X11_noRow [.null] (SH, M, ML) (some (.int (-1)), (SH, M, ML)) := by
  refine Ex_in mi_X11_noRow rfl rfl ⟨Nat.le_refl _, Nat.le_refl _⟩ ?_
  show RR _ cd_X11_noRow false _ (0, [(0, .null)], [], (SH, M, ML))
  refine r_ld rfl rfl ?_
  refine r_nlj rfl rfl ?_
  refine r_cst (v := .int (-1)) rfl rfl ?_
  refine r_ret rfl rfl (trivial) ?_
  exact rfl

set_option maxHeartbeats 1000000 in
set_option maxRecDepth 10000 in
theorem ok_X11_drop_n (d : Nat) (M : Nat → Nat → Int32) (ML : Nat → Nat → Int64) {x : Int32} (hx : ¬ (0 ≤ x ∧ x < 6)) : Ex (d + 2) k_X11_drop [.ref 1, .int x] (SH, M, ML) (some (.int (-1)), (SH, M, ML)) := by
  refine Ex_in mi_X11_drop rfl rfl ⟨Nat.le_refl _, Nat.le_refl _⟩ ?_
  show RR _ cd_X11_drop false _ (0, [(0, .ref 1), (1, .int x)], [], (SH, M, ML))
  refine r_ld rfl rfl ?_
  refine r_ld rfl rfl ?_
  refine q_call (as := [_, _]) (rest := []) rfl rfl rfl rfl rfl rfl rfl rfl (ok_X11_holderAt_n _ _ _ hx) ?_
  refine r_sto (L' := [(0, _), (1, _), (2, _)]) rfl rfl ?_
  refine r_ld rfl rfl ?_
  refine r_nlj rfl rfl ?_
  refine r_cst (v := .int (-1)) rfl rfl ?_
  refine r_ret rfl rfl (trivial) ?_
  exact rfl

set_option maxHeartbeats 1000000 in
set_option maxRecDepth 10000 in
theorem ok_X11_taken_n (d : Nat) (M : Nat → Nat → Int32) (ML : Nat → Nat → Int64) {x : Int32} (hx : ¬ (0 ≤ x ∧ x < 6)) (y : Int32) : Ex (d + 2) k_X11_taken [.ref 1, .int x, .int y] (SH, M, ML) (some (.int (-1)), (SH, M, ML)) := by
  refine Ex_in mi_X11_taken rfl rfl ⟨Nat.le_refl _, Nat.le_refl _⟩ ?_
  show RR _ cd_X11_taken false _ (0, [(0, .ref 1), (1, .int x), (2, .int y)], [], (SH, M, ML))
  refine r_ld rfl rfl ?_
  refine r_ld rfl rfl ?_
  refine q_call (as := [_, _]) (rest := []) rfl rfl rfl rfl rfl rfl rfl rfl (ok_X11_holderAt_n _ _ _ hx) ?_
  refine r_sto (L' := [(0, _), (1, _), (2, _), (3, _)]) rfl rfl ?_
  refine r_ld rfl rfl ?_
  refine r_nlj rfl rfl ?_
  refine r_cst (v := .int (-1)) rfl rfl ?_
  refine r_ret rfl rfl (trivial) ?_
  exact rfl

set_option maxHeartbeats 1000000 in
set_option maxRecDepth 10000 in
theorem ok_X11_row_n (d : Nat) (M : Nat → Nat → Int32) (ML : Nat → Nat → Int64) {x : Int32} (hx : ¬ (0 ≤ x ∧ x < 6)) (y : Int32) : Ex (d + 3) k_X11_row [.ref 1, .int x, .int y] (SH, M, ML) (some (.int (-1)), (SH, M, ML)) := by
  refine Ex_in mi_X11_row rfl rfl ⟨Nat.le_refl _, Nat.le_refl _⟩ ?_
  show RR _ cd_X11_row false _ (0, [(0, .ref 1), (1, .int x), (2, .int y)], [], (SH, M, ML))
  refine r_ld rfl rfl ?_
  refine r_ld rfl rfl ?_
  refine q_call (as := [_, _]) (rest := []) rfl rfl rfl rfl rfl rfl rfl rfl (ok_X11_holderAt_n _ _ _ hx) ?_
  refine r_sto (L' := [(0, _), (1, _), (2, _), (3, _)]) rfl rfl ?_
  refine r_ld rfl rfl ?_
  refine r_nlj rfl rfl ?_
  refine r_cst (v := .int (-1)) rfl rfl ?_
  refine r_ret rfl rfl (trivial) ?_
  exact rfl

set_option maxHeartbeats 1000000 in
set_option maxRecDepth 10000 in
theorem ok_X11_put_n (d : Nat) (M : Nat → Nat → Int32) (ML : Nat → Nat → Int64) {x : Int32} (hx : ¬ (0 ≤ x ∧ x < 6)) (y z : Int32) : Ex (d + 2) k_X11_put [.ref 1, .int x, .int y, .int z] (SH, M, ML) (some (.int (-1)), (SH, M, ML)) := by
  refine Ex_in mi_X11_put rfl rfl ⟨Nat.le_refl _, Nat.le_refl _⟩ ?_
  show RR _ cd_X11_put false _ (0, [(0, .ref 1), (1, .int x), (2, .int y), (3, .int z)], [], (SH, M, ML))
  refine r_ld rfl rfl ?_
  refine r_ld rfl rfl ?_
  refine q_call (as := [_, _]) (rest := []) rfl rfl rfl rfl rfl rfl rfl rfl (ok_X11_holderAt_n _ _ _ hx) ?_
  refine r_sto (L' := [(0, _), (1, _), (2, _), (3, _), (4, _)]) rfl rfl ?_
  refine r_ld rfl rfl ?_
  refine q_call (as := [_]) (rest := []) rfl rfl rfl rfl rfl rfl rfl rfl (ok_X11_noRow_n ..) ?_
  refine r_sto (L' := [(0, _), (1, _), (2, _), (3, _), (4, _), (5, _)]) rfl rfl ?_
  refine r_ld rfl rfl ?_
  refine r_nlj rfl rfl ?_
  refine r_ld rfl rfl ?_
  refine r_ret rfl rfl (trivial) ?_
  exact rfl

set_option maxHeartbeats 1000000 in
set_option maxRecDepth 10000 in
theorem ok_X11_holderAt_0 (d : Nat) (M : Nat → Nat → Int32) (ML : Nat → Nat → Int64) : Ex (d + 1) k_X11_holderAt [.ref 1, .int (nI 0)] (SH, M, ML) (some (.ref 61), (SH, M, ML)) := by
  refine Ex_in mi_X11_holderAt rfl rfl ⟨Nat.le_refl _, Nat.le_refl _⟩ ?_
  show RR _ cd_X11_holderAt false _ (0, [(0, .ref 1), (1, .int (nI 0))], [], (SH, M, ML))
  refine r_ld rfl rfl ?_
  refine q_cjF rfl rfl (by decide) ?_
  refine r_ld rfl rfl ?_
  refine r_ld rfl rfl ?_
  refine q_getr rfl rfl rfl rfl rfl ?_
  refine q_len rfl rfl rfl rfl ?_
  refine q_cjF rfl rfl (by decide) ?_
  refine r_ld rfl rfl ?_
  refine q_getr rfl rfl rfl rfl rfl ?_
  refine r_ld rfl rfl ?_
  refine r_alq (i := 48) (v := .ref 61) rfl rfl rfl (vp_in_nI (by decide) (by decide)) ?_
  refine r_go rfl ?_
  refine r_ret rfl rfl (trivial) ?_
  exact rfl

set_option maxHeartbeats 1000000 in
set_option maxRecDepth 10000 in
theorem ok_X11_noRow_0 (d : Nat) (M : Nat → Nat → Int32) (ML : Nat → Nat → Int64) : Ex (d + 1) k_X11_noRow [.ref 61] (SH, M, ML) (some (.int (nrV (M 61 0))), (SH, M, ML)) := by
  refine Ex_in mi_X11_noRow rfl rfl ⟨Nat.le_refl _, Nat.le_refl _⟩ ?_
  show RR _ cd_X11_noRow false _ (0, [(0, .ref 61)], [], (SH, M, ML))
  refine r_ld rfl rfl ?_
  refine r_nlj rfl rfl ?_
  refine r_ld rfl rfl ?_
  refine q_geti rfl rfl rfl rfl rfl ?_
  refine r_cj rfl rfl (fun h_10 => ?_) (fun h_10 => ?_)
  · refine r_ld rfl rfl ?_
    refine q_geti rfl rfl rfl rfl rfl ?_
    refine r_cst (v := .int 3) rfl rfl ?_
    refine r_cj rfl rfl (fun h_21 => ?_) (fun h_21 => ?_)
    · refine r_cst (v := .int (-12)) rfl rfl ?_
      refine r_ret rfl rfl (trivial) ?_
      first
        | (simp_all [nrV]; done)
        | (have h9 := Classical.not_not.mp h_10; simp_all [nrV]; done)
    · refine r_cst (v := .int 0) rfl rfl ?_
      refine r_go rfl ?_
      refine r_ret rfl rfl (trivial) ?_
      first
        | (simp_all [nrV]; done)
        | (have h9 := Classical.not_not.mp h_10; simp_all [nrV]; done)
  · refine r_cst (v := .int (-11)) rfl rfl ?_
    refine r_ret rfl rfl (trivial) ?_
    first
      | (simp_all [nrV]; done)
      | (have h9 := Classical.not_not.mp h_10; simp_all [nrV]; done)

set_option maxHeartbeats 1000000 in
set_option maxRecDepth 10000 in
theorem ok_X3_take_0 (d : Nat) (M : Nat → Nat → Int32) (ML : Nat → Nat → Int64) (x y z : Int32) : Ex (d + 1) k_X3_take [.ref 61, .int x, .int y, .int z] (SH, M, ML) (none, (SH, up2 (up2 (up2 M 61 0 x) 61 1 y) 61 2 z, ML)) := by
  refine Ex_in mi_X3_take rfl rfl ⟨Nat.le_refl _, Nat.le_refl _⟩ ?_
  show RR _ cd_X3_take false _ (0, [(0, .ref 61), (1, .int x), (2, .int y), (3, .int z)], [], (SH, M, ML))
  refine r_ld rfl rfl ?_
  refine r_ld rfl rfl ?_
  refine q_put rfl rfl rfl rfl rfl (Or.inl rfl) ?_
  refine r_ld rfl rfl ?_
  refine r_ld rfl rfl ?_
  refine q_put rfl rfl rfl rfl rfl (Or.inl rfl) ?_
  refine r_ld rfl rfl ?_
  refine r_ld rfl rfl ?_
  refine q_put rfl rfl rfl rfl rfl (Or.inl rfl) ?_
  refine r_ret rfl rfl (trivial) ?_
  exact rfl

set_option maxHeartbeats 1000000 in
set_option maxRecDepth 10000 in
theorem ok_X11_drop_0 (d : Nat) (M : Nat → Nat → Int32) (ML : Nat → Nat → Int64) : Ex (d + 2) k_X11_drop [.ref 1, .int (nI 0)] (SH, M, ML) (some (.int (M 61 0)), (SH, up2 (up2 (up2 M 61 0 0) 61 1 0) 61 2 0, ML)) := by
  refine Ex_in mi_X11_drop rfl rfl ⟨Nat.le_refl _, Nat.le_refl _⟩ ?_
  show RR _ cd_X11_drop false _ (0, [(0, .ref 1), (1, .int (nI 0))], [], (SH, M, ML))
  refine r_ld rfl rfl ?_
  refine r_ld rfl rfl ?_
  refine q_call (as := [_, _]) (rest := []) rfl rfl rfl rfl rfl rfl rfl rfl (ok_X11_holderAt_0 ..) ?_
  refine r_sto (L' := [(0, _), (1, _), (2, _)]) rfl rfl ?_
  refine r_ld rfl rfl ?_
  refine r_nlj rfl rfl ?_
  refine r_ld rfl rfl ?_
  refine q_geti rfl rfl rfl rfl rfl ?_
  refine r_sto (L' := [(0, _), (1, _), (2, _), (3, _)]) rfl rfl ?_
  refine r_ld rfl rfl ?_
  refine r_cst (v := .int 0) rfl rfl ?_
  refine r_cst (v := .int 0) rfl rfl ?_
  refine r_cst (v := .int 0) rfl rfl ?_
  refine q_callv (as := [_, _, _, _]) (rest := []) rfl rfl rfl rfl rfl rfl rfl rfl (ok_X3_take_0 ..) ?_
  refine r_ld rfl rfl ?_
  refine r_ret rfl rfl (trivial) ?_
  exact rfl

set_option maxHeartbeats 1000000 in
set_option maxRecDepth 10000 in
theorem ok_X11_taken_0 (d : Nat) (M : Nat → Nat → Int32) (ML : Nat → Nat → Int64) (y : Int32) (hy : 0 ≤ y ∧ y ≤ 2) : Ex (d + 2) k_X11_taken [.ref 1, .int (nI 0), .int y] (SH, M, ML) (some (.int (tkV (M 61 0) y (M 61 1) (M 61 2))), (SH, M, ML)) := by
  refine Ex_in mi_X11_taken rfl rfl ⟨Nat.le_refl _, Nat.le_refl _⟩ ?_
  show RR _ cd_X11_taken false _ (0, [(0, .ref 1), (1, .int (nI 0)), (2, .int y)], [], (SH, M, ML))
  refine r_ld rfl rfl ?_
  refine r_ld rfl rfl ?_
  refine q_call (as := [_, _]) (rest := []) rfl rfl rfl rfl rfl rfl rfl rfl (ok_X11_holderAt_0 ..) ?_
  refine r_sto (L' := [(0, _), (1, _), (2, _), (3, _)]) rfl rfl ?_
  refine r_ld rfl rfl ?_
  refine r_nlj rfl rfl ?_
  refine r_ld rfl rfl ?_
  refine q_cjF rfl rfl (nlt0.mpr hy.1) ?_
  refine r_ld rfl rfl ?_
  refine r_cst (v := .int 2) rfl rfl ?_
  refine r_cj rfl rfl (fun h_16 => ?_) (fun h_16 => ?_)
  · refine r_ld rfl rfl ?_
    refine q_geti rfl rfl rfl rfl rfl ?_
    refine r_cj rfl rfl (fun h_25 => ?_) (fun h_25 => ?_)
    · refine r_ld rfl rfl ?_
      refine q_geti rfl rfl rfl rfl rfl ?_
      refine r_cst (v := .int 3) rfl rfl ?_
      refine r_cj rfl rfl (fun h_36 => ?_) (fun h_36 => ?_)
      · refine r_cst (v := .int (-12)) rfl rfl ?_
        refine r_ret rfl rfl (trivial) ?_
        first
          | (simp_all [tkV]; done)
          | (have h9 := Classical.not_not.mp h_25; simp_all [tkV]; done)
      · refine r_ld rfl rfl ?_
        refine r_cj rfl rfl (fun h_40 => ?_) (fun h_40 => ?_)
        · refine r_ld rfl rfl ?_
          refine r_cj rfl rfl (fun h_55 => ?_) (fun h_55 => ?_)
          · refine r_ld rfl rfl ?_
            refine q_geti rfl rfl rfl rfl rfl ?_
            refine r_ret rfl rfl (trivial) ?_
            first
              | (simp_all [tkV]; done)
              | (have h9 := Classical.not_not.mp h_25; simp_all [tkV]; done)
          · refine r_ld rfl rfl ?_
            refine q_geti rfl rfl rfl rfl rfl ?_
            refine r_go rfl ?_
            refine r_ret rfl rfl (trivial) ?_
            first
              | (simp_all [tkV]; done)
              | (have h9 := Classical.not_not.mp h_25; simp_all [tkV]; done)
        · refine r_ld rfl rfl ?_
          refine r_ld rfl rfl ?_
          refine q_geti rfl rfl rfl rfl rfl ?_
          refine r_cj rfl rfl (fun h_48 => ?_) (fun h_48 => ?_)
          · refine r_ld rfl rfl ?_
            refine r_cj rfl rfl (fun h_55 => ?_) (fun h_55 => ?_)
            · refine r_ld rfl rfl ?_
              refine q_geti rfl rfl rfl rfl rfl ?_
              refine r_ret rfl rfl (trivial) ?_
              first
                | (simp_all [tkV]; done)
                | (have h9 := Classical.not_not.mp h_25; simp_all [tkV]; done)
            · refine r_ld rfl rfl ?_
              refine q_geti rfl rfl rfl rfl rfl ?_
              refine r_go rfl ?_
              refine r_ret rfl rfl (trivial) ?_
              first
                | (simp_all [tkV]; done)
                | (have h9 := Classical.not_not.mp h_25; simp_all [tkV]; done)
          · refine r_cst (v := .int (-12)) rfl rfl ?_
            refine r_ret rfl rfl (trivial) ?_
            first
              | (simp_all [tkV]; done)
              | (have h9 := Classical.not_not.mp h_25; simp_all [tkV]; done)
    · refine r_cst (v := .int (-11)) rfl rfl ?_
      refine r_ret rfl rfl (trivial) ?_
      first
        | (simp_all [tkV]; done)
        | (have h9 := Classical.not_not.mp h_25; simp_all [tkV]; done)
  · refine r_cst (v := .int (-1)) rfl rfl ?_
    refine r_ret rfl rfl (trivial) ?_
    first
      | (simp_all [tkV]; done)
      | (have h9 := Classical.not_not.mp h_25; simp_all [tkV]; done)

set_option maxHeartbeats 1000000 in
set_option maxRecDepth 10000 in
theorem ok_X11_taken_b_0 (d : Nat) (M : Nat → Nat → Int32) (ML : Nat → Nat → Int64) (y : Int32) (hy : ¬ (0 ≤ y ∧ y ≤ 2)) : Ex (d + 2) k_X11_taken [.ref 1, .int (nI 0), .int y] (SH, M, ML) (some (.int (-1)), (SH, M, ML)) := by
  refine Ex_in mi_X11_taken rfl rfl ⟨Nat.le_refl _, Nat.le_refl _⟩ ?_
  show RR _ cd_X11_taken false _ (0, [(0, .ref 1), (1, .int (nI 0)), (2, .int y)], [], (SH, M, ML))
  refine r_ld rfl rfl ?_
  refine r_ld rfl rfl ?_
  refine q_call (as := [_, _]) (rest := []) rfl rfl rfl rfl rfl rfl rfl rfl (ok_X11_holderAt_0 ..) ?_
  refine r_sto (L' := [(0, _), (1, _), (2, _), (3, _)]) rfl rfl ?_
  refine r_ld rfl rfl ?_
  refine r_nlj rfl rfl ?_
  refine r_ld rfl rfl ?_
  refine r_cj rfl rfl (fun h_11 => ?_) (fun h_11 => ?_)
  · refine r_cst (v := .int (-1)) rfl rfl ?_
    refine r_ret rfl rfl (trivial) ?_
    exact rfl
  · refine r_ld rfl rfl ?_
    refine r_cst (v := .int 2) rfl rfl ?_
    refine r_cj rfl rfl (fun h_16 => ?_) (fun h_16 => ?_)
    · exact (hy ⟨nlt0.mp h_11, h_16⟩).elim
    · refine r_cst (v := .int (-1)) rfl rfl ?_
      refine r_ret rfl rfl (trivial) ?_
      exact rfl

set_option maxHeartbeats 1000000 in
set_option maxRecDepth 10000 in
theorem lp_X3_takeRow_9_0 (d : Nat) (M : Nat → Nat → Int32) (ML : Nat → Nat → Int64) {v : Int32} {res : Rt} (hk : res = (none, (SH, zro M 62 20, ML))) :
    ∀ e, e ≤ 20 → ∀ (i : Int32) (M' : Nat → Nat → Int32), i = nI e → M' = zro M 62 e → RR (d + 1) cd_X3_takeRow false res (9, [(0, .ref 61), (1, .int v), (2, .int i)], [], (SH, M', ML)) := by
  refine up_ind fun e he ih => ?_
  intro i M' hv0 hv1
  subst hv0 hv1
  refine r_ld rfl rfl ?_
  refine r_ld rfl rfl ?_
  refine q_getr rfl rfl rfl rfl rfl ?_
  refine q_len rfl rfl rfl rfl ?_
  refine r_cj rfl rfl (fun h_15 => ?_) (fun h_15 => ?_)
  · have h9 : e = 20 := by have := nle (a := 20) (b := e) (by decide) (by omega) h_15; omega
    subst h9
    refine r_ret rfl rfl (trivial) ?_
    exact hk
  · have hlt : e < 20 := nnle (a := 20) (b := e) (by decide) (by omega) h_15
    refine r_ld rfl rfl ?_
    refine q_getr rfl rfl rfl rfl rfl ?_
    refine r_ld rfl rfl ?_
    refine r_cst (v := .int 0) rfl rfl ?_
    refine q_sin rfl rfl rfl (rfl) (by omega) rfl ?_
    refine q_inc (y := _ + 1) rfl rfl rfl ?_
    refine q_norm (L' := [(0, _), (1, _), (2, _)]) rfl ?_
    refine r_go rfl ?_
    exact ih hlt _ _ (nI_1 e) (zro_succ _ _ _)

set_option maxHeartbeats 1000000 in
set_option maxRecDepth 10000 in
theorem ok_X3_takeRow_0 (d : Nat) (M : Nat → Nat → Int32) (ML : Nat → Nat → Int64) (v : Int32) : Ex (d + 2) k_X3_takeRow [.ref 61, .int v] (SH, M, ML) (none, (SH, zro (up2 (up2 (up2 M 61 0 3) 61 1 0) 61 2 v) 62 20, ML)) := by
  refine Ex_in mi_X3_takeRow rfl rfl ⟨Nat.le_refl _, Nat.le_refl _⟩ ?_
  show RR _ cd_X3_takeRow false _ (0, [(0, .ref 61), (1, .int v)], [], (SH, M, ML))
  refine r_ld rfl rfl ?_
  refine r_cst (v := .int 3) rfl rfl ?_
  refine r_cst (v := .int 0) rfl rfl ?_
  refine r_ld rfl rfl ?_
  refine q_callv (as := [_, _, _, _]) (rest := []) rfl rfl rfl rfl rfl rfl rfl rfl (ok_X3_take_0 ..) ?_
  refine r_cst (v := .int 0) rfl rfl ?_
  refine r_sto (L' := [(0, _), (1, _), (2, _)]) rfl rfl ?_
  exact lp_X3_takeRow_9_0 d _ ML rfl 0 (by decide) _ _ rfl (zro_0 _ _).symm

set_option maxHeartbeats 1000000 in
set_option maxRecDepth 10000 in
theorem ok_X11_row_0 (d : Nat) (M : Nat → Nat → Int32) (ML : Nat → Nat → Int64) (v : Int32) (hv : 0 ≤ v ∧ v ≤ 20) : Ex (d + 3) k_X11_row [.ref 1, .int (nI 0), .int v] (SH, M, ML) (some (.int v), (SH, zro (up2 (up2 (up2 M 61 0 3) 61 1 0) 61 2 v) 62 20, ML)) := by
  refine Ex_in mi_X11_row rfl rfl ⟨Nat.le_refl _, Nat.le_refl _⟩ ?_
  show RR _ cd_X11_row false _ (0, [(0, .ref 1), (1, .int (nI 0)), (2, .int v)], [], (SH, M, ML))
  refine r_ld rfl rfl ?_
  refine r_ld rfl rfl ?_
  refine q_call (as := [_, _]) (rest := []) rfl rfl rfl rfl rfl rfl rfl rfl (ok_X11_holderAt_0 ..) ?_
  refine r_sto (L' := [(0, _), (1, _), (2, _), (3, _)]) rfl rfl ?_
  refine r_ld rfl rfl ?_
  refine r_nlj rfl rfl ?_
  refine r_ld rfl rfl ?_
  refine r_cst (v := .int 20) rfl rfl ?_
  refine q_cjT rfl rfl (hv.2) ?_
  refine r_ld rfl rfl ?_
  refine q_cjT rfl rfl (hv.1) ?_
  refine r_ld rfl rfl ?_
  refine r_ld rfl rfl ?_
  refine q_callv (as := [_, _]) (rest := []) rfl rfl rfl rfl rfl rfl rfl rfl (ok_X3_takeRow_0 ..) ?_
  refine r_ld rfl rfl ?_
  refine r_ret rfl rfl (trivial) ?_
  exact rfl

set_option maxHeartbeats 1000000 in
set_option maxRecDepth 10000 in
theorem ok_X11_row_b_0 (d : Nat) (M : Nat → Nat → Int32) (ML : Nat → Nat → Int64) (v : Int32) (hv : ¬ v ≤ 20) : Ex (d + 3) k_X11_row [.ref 1, .int (nI 0), .int v] (SH, M, ML) (some (.int (-1)), (SH, M, ML)) := by
  refine Ex_in mi_X11_row rfl rfl ⟨Nat.le_refl _, Nat.le_refl _⟩ ?_
  show RR _ cd_X11_row false _ (0, [(0, .ref 1), (1, .int (nI 0)), (2, .int v)], [], (SH, M, ML))
  refine r_ld rfl rfl ?_
  refine r_ld rfl rfl ?_
  refine q_call (as := [_, _]) (rest := []) rfl rfl rfl rfl rfl rfl rfl rfl (ok_X11_holderAt_0 ..) ?_
  refine r_sto (L' := [(0, _), (1, _), (2, _), (3, _)]) rfl rfl ?_
  refine r_ld rfl rfl ?_
  refine r_nlj rfl rfl ?_
  refine r_ld rfl rfl ?_
  refine r_cst (v := .int 20) rfl rfl ?_
  refine q_cjF rfl rfl (hv) ?_
  refine r_cst (v := .int (-1)) rfl rfl ?_
  refine r_ret rfl rfl (trivial) ?_
  exact rfl

set_option maxHeartbeats 1000000 in
set_option maxRecDepth 10000 in
theorem ok_X11_row_c_0 (d : Nat) (M : Nat → Nat → Int32) (ML : Nat → Nat → Int64) (v : Int32) (hv : ¬ 0 ≤ v) (hv2 : v ≤ 20) : Ex (d + 3) k_X11_row [.ref 1, .int (nI 0), .int v] (SH, M, ML) (some (.int (-14)), (SH, M, ML)) := by
  refine Ex_in mi_X11_row rfl rfl ⟨Nat.le_refl _, Nat.le_refl _⟩ ?_
  show RR _ cd_X11_row false _ (0, [(0, .ref 1), (1, .int (nI 0)), (2, .int v)], [], (SH, M, ML))
  refine r_ld rfl rfl ?_
  refine r_ld rfl rfl ?_
  refine q_call (as := [_, _]) (rest := []) rfl rfl rfl rfl rfl rfl rfl rfl (ok_X11_holderAt_0 ..) ?_
  refine r_sto (L' := [(0, _), (1, _), (2, _), (3, _)]) rfl rfl ?_
  refine r_ld rfl rfl ?_
  refine r_nlj rfl rfl ?_
  refine r_ld rfl rfl ?_
  refine r_cst (v := .int 20) rfl rfl ?_
  refine q_cjT rfl rfl (hv2) ?_
  refine r_ld rfl rfl ?_
  refine q_cjF rfl rfl (hv) ?_
  refine r_cst (v := .int (-14)) rfl rfl ?_
  refine r_ret rfl rfl (trivial) ?_
  exact rfl

set_option maxHeartbeats 1000000 in
set_option maxRecDepth 10000 in
theorem ok_X11_put_b_0 (d : Nat) (M : Nat → Nat → Int32) (ML : Nat → Nat → Int64) (y z : Int32) (h0 : ¬ nrV (M 61 0) = 0) : Ex (d + 2) k_X11_put [.ref 1, .int (nI 0), .int y, .int z] (SH, M, ML) (some (.int (nrV (M 61 0))), (SH, M, ML)) := by
  refine Ex_in mi_X11_put rfl rfl ⟨Nat.le_refl _, Nat.le_refl _⟩ ?_
  show RR _ cd_X11_put false _ (0, [(0, .ref 1), (1, .int (nI 0)), (2, .int y), (3, .int z)], [], (SH, M, ML))
  refine r_ld rfl rfl ?_
  refine r_ld rfl rfl ?_
  refine q_call (as := [_, _]) (rest := []) rfl rfl rfl rfl rfl rfl rfl rfl (ok_X11_holderAt_0 ..) ?_
  refine r_sto (L' := [(0, _), (1, _), (2, _), (3, _), (4, _)]) rfl rfl ?_
  refine r_ld rfl rfl ?_
  refine q_call (as := [_]) (rest := []) rfl rfl rfl rfl rfl rfl rfl rfl (ok_X11_noRow_0 ..) ?_
  refine r_sto (L' := [(0, _), (1, _), (2, _), (3, _), (4, _), (5, _)]) rfl rfl ?_
  refine r_ld rfl rfl ?_
  refine r_nlj rfl rfl ?_
  refine r_ld rfl rfl ?_
  refine q_cjF rfl rfl (h0) ?_
  refine r_ld rfl rfl ?_
  refine r_ret rfl rfl (trivial) ?_
  exact rfl

set_option maxHeartbeats 1000000 in
set_option maxRecDepth 10000 in
theorem ok_X11_put_c_0 (d : Nat) (M : Nat → Nat → Int32) (ML : Nat → Nat → Int64) (y z : Int32) (h0 : nrV (M 61 0) = 0) (hy : ¬ (0 ≤ y ∧ y < M 61 2)) : Ex (d + 2) k_X11_put [.ref 1, .int (nI 0), .int y, .int z] (SH, M, ML) (some (.int (-13)), (SH, M, ML)) := by
  refine Ex_in mi_X11_put rfl rfl ⟨Nat.le_refl _, Nat.le_refl _⟩ ?_
  show RR _ cd_X11_put false _ (0, [(0, .ref 1), (1, .int (nI 0)), (2, .int y), (3, .int z)], [], (SH, M, ML))
  refine r_ld rfl rfl ?_
  refine r_ld rfl rfl ?_
  refine q_call (as := [_, _]) (rest := []) rfl rfl rfl rfl rfl rfl rfl rfl (ok_X11_holderAt_0 ..) ?_
  refine r_sto (L' := [(0, _), (1, _), (2, _), (3, _), (4, _)]) rfl rfl ?_
  refine r_ld rfl rfl ?_
  refine q_call (as := [_]) (rest := []) rfl rfl rfl rfl rfl rfl rfl rfl (ok_X11_noRow_0 ..) ?_
  refine r_sto (L' := [(0, _), (1, _), (2, _), (3, _), (4, _), (5, _)]) rfl rfl ?_
  refine r_ld rfl rfl ?_
  refine r_nlj rfl rfl ?_
  refine r_ld rfl rfl ?_
  refine q_cjT rfl rfl (h0) ?_
  refine r_ld rfl rfl ?_
  refine r_cj rfl rfl (fun h_28 => ?_) (fun h_28 => ?_)
  · refine r_cst (v := .int (-13)) rfl rfl ?_
    refine r_ret rfl rfl (trivial) ?_
    exact rfl
  · refine r_ld rfl rfl ?_
    refine r_ld rfl rfl ?_
    refine q_geti rfl rfl rfl rfl rfl ?_
    refine r_cj rfl rfl (fun h_37 => ?_) (fun h_37 => ?_)
    · exact (hy ⟨nlt0.mp h_28, h_37⟩).elim
    · refine r_cst (v := .int (-13)) rfl rfl ?_
      refine r_ret rfl rfl (trivial) ?_
      exact rfl

set_option maxHeartbeats 1000000 in
set_option maxRecDepth 10000 in
theorem ok_X11_put_y_0 (d : Nat) (M : Nat → Nat → Int32) (ML : Nat → Nat → Int64) (z : Int32) {k n : Nat} (h0 : nrV (M 61 0) = 0) (hn : M 61 2 = nI n) (hk : k < n) (hn2 : n ≤ 20) : Ex (d + 2) k_X11_put [.ref 1, .int (nI 0), .int (nI k), .int z] (SH, M, ML) (some (.int 1), (SH, up2 M 62 k z, ML)) := by
  refine Ex_in mi_X11_put rfl rfl ⟨Nat.le_refl _, Nat.le_refl _⟩ ?_
  show RR _ cd_X11_put false _ (0, [(0, .ref 1), (1, .int (nI 0)), (2, .int (nI k)), (3, .int z)], [], (SH, M, ML))
  refine r_ld rfl rfl ?_
  refine r_ld rfl rfl ?_
  refine q_call (as := [_, _]) (rest := []) rfl rfl rfl rfl rfl rfl rfl rfl (ok_X11_holderAt_0 ..) ?_
  refine r_sto (L' := [(0, _), (1, _), (2, _), (3, _), (4, _)]) rfl rfl ?_
  refine r_ld rfl rfl ?_
  refine q_call (as := [_]) (rest := []) rfl rfl rfl rfl rfl rfl rfl rfl (ok_X11_noRow_0 ..) ?_
  refine r_sto (L' := [(0, _), (1, _), (2, _), (3, _), (4, _), (5, _)]) rfl rfl ?_
  refine r_ld rfl rfl ?_
  refine r_nlj rfl rfl ?_
  refine r_ld rfl rfl ?_
  refine q_cjT rfl rfl (h0) ?_
  refine r_ld rfl rfl ?_
  refine q_cjF rfl rfl (nlt0.mpr (nI_pos' (by omega))) ?_
  refine r_ld rfl rfl ?_
  refine r_ld rfl rfl ?_
  refine q_geti rfl rfl rfl rfl rfl ?_
  refine q_cjT rfl rfl (by rw [hn]; exact nI_lt hk (by omega)) ?_
  refine r_ld rfl rfl ?_
  refine q_getr rfl rfl rfl rfl rfl ?_
  refine r_ld rfl rfl ?_
  refine r_ld rfl rfl ?_
  refine q_callv (as := [_, _, _]) (rest := []) rfl rfl rfl rfl rfl rfl rfl rfl (ok_lay_n _ _ _ _ _ rfl rfl rfl rfl (by omega)) ?_
  refine r_cst (v := .int 1) rfl rfl ?_
  refine r_ret rfl rfl (trivial) ?_
  exact rfl

set_option maxHeartbeats 1000000 in
set_option maxRecDepth 10000 in
theorem ok_X11_holderAt_1 (d : Nat) (M : Nat → Nat → Int32) (ML : Nat → Nat → Int64) : Ex (d + 1) k_X11_holderAt [.ref 1, .int (nI 1)] (SH, M, ML) (some (.ref 63), (SH, M, ML)) := by
  refine Ex_in mi_X11_holderAt rfl rfl ⟨Nat.le_refl _, Nat.le_refl _⟩ ?_
  show RR _ cd_X11_holderAt false _ (0, [(0, .ref 1), (1, .int (nI 1))], [], (SH, M, ML))
  refine r_ld rfl rfl ?_
  refine q_cjF rfl rfl (by decide) ?_
  refine r_ld rfl rfl ?_
  refine r_ld rfl rfl ?_
  refine q_getr rfl rfl rfl rfl rfl ?_
  refine q_len rfl rfl rfl rfl ?_
  refine q_cjF rfl rfl (by decide) ?_
  refine r_ld rfl rfl ?_
  refine q_getr rfl rfl rfl rfl rfl ?_
  refine r_ld rfl rfl ?_
  refine r_alq (i := 48) (v := .ref 63) rfl rfl rfl (vp_in_nI (by decide) (by decide)) ?_
  refine r_go rfl ?_
  refine r_ret rfl rfl (trivial) ?_
  exact rfl

set_option maxHeartbeats 1000000 in
set_option maxRecDepth 10000 in
theorem ok_X11_noRow_1 (d : Nat) (M : Nat → Nat → Int32) (ML : Nat → Nat → Int64) : Ex (d + 1) k_X11_noRow [.ref 63] (SH, M, ML) (some (.int (nrV (M 63 0))), (SH, M, ML)) := by
  refine Ex_in mi_X11_noRow rfl rfl ⟨Nat.le_refl _, Nat.le_refl _⟩ ?_
  show RR _ cd_X11_noRow false _ (0, [(0, .ref 63)], [], (SH, M, ML))
  refine r_ld rfl rfl ?_
  refine r_nlj rfl rfl ?_
  refine r_ld rfl rfl ?_
  refine q_geti rfl rfl rfl rfl rfl ?_
  refine r_cj rfl rfl (fun h_10 => ?_) (fun h_10 => ?_)
  · refine r_ld rfl rfl ?_
    refine q_geti rfl rfl rfl rfl rfl ?_
    refine r_cst (v := .int 3) rfl rfl ?_
    refine r_cj rfl rfl (fun h_21 => ?_) (fun h_21 => ?_)
    · refine r_cst (v := .int (-12)) rfl rfl ?_
      refine r_ret rfl rfl (trivial) ?_
      first
        | (simp_all [nrV]; done)
        | (have h9 := Classical.not_not.mp h_10; simp_all [nrV]; done)
    · refine r_cst (v := .int 0) rfl rfl ?_
      refine r_go rfl ?_
      refine r_ret rfl rfl (trivial) ?_
      first
        | (simp_all [nrV]; done)
        | (have h9 := Classical.not_not.mp h_10; simp_all [nrV]; done)
  · refine r_cst (v := .int (-11)) rfl rfl ?_
    refine r_ret rfl rfl (trivial) ?_
    first
      | (simp_all [nrV]; done)
      | (have h9 := Classical.not_not.mp h_10; simp_all [nrV]; done)

set_option maxHeartbeats 1000000 in
set_option maxRecDepth 10000 in
theorem ok_X3_take_1 (d : Nat) (M : Nat → Nat → Int32) (ML : Nat → Nat → Int64) (x y z : Int32) : Ex (d + 1) k_X3_take [.ref 63, .int x, .int y, .int z] (SH, M, ML) (none, (SH, up2 (up2 (up2 M 63 0 x) 63 1 y) 63 2 z, ML)) := by
  refine Ex_in mi_X3_take rfl rfl ⟨Nat.le_refl _, Nat.le_refl _⟩ ?_
  show RR _ cd_X3_take false _ (0, [(0, .ref 63), (1, .int x), (2, .int y), (3, .int z)], [], (SH, M, ML))
  refine r_ld rfl rfl ?_
  refine r_ld rfl rfl ?_
  refine q_put rfl rfl rfl rfl rfl (Or.inl rfl) ?_
  refine r_ld rfl rfl ?_
  refine r_ld rfl rfl ?_
  refine q_put rfl rfl rfl rfl rfl (Or.inl rfl) ?_
  refine r_ld rfl rfl ?_
  refine r_ld rfl rfl ?_
  refine q_put rfl rfl rfl rfl rfl (Or.inl rfl) ?_
  refine r_ret rfl rfl (trivial) ?_
  exact rfl

set_option maxHeartbeats 1000000 in
set_option maxRecDepth 10000 in
theorem ok_X11_drop_1 (d : Nat) (M : Nat → Nat → Int32) (ML : Nat → Nat → Int64) : Ex (d + 2) k_X11_drop [.ref 1, .int (nI 1)] (SH, M, ML) (some (.int (M 63 0)), (SH, up2 (up2 (up2 M 63 0 0) 63 1 0) 63 2 0, ML)) := by
  refine Ex_in mi_X11_drop rfl rfl ⟨Nat.le_refl _, Nat.le_refl _⟩ ?_
  show RR _ cd_X11_drop false _ (0, [(0, .ref 1), (1, .int (nI 1))], [], (SH, M, ML))
  refine r_ld rfl rfl ?_
  refine r_ld rfl rfl ?_
  refine q_call (as := [_, _]) (rest := []) rfl rfl rfl rfl rfl rfl rfl rfl (ok_X11_holderAt_1 ..) ?_
  refine r_sto (L' := [(0, _), (1, _), (2, _)]) rfl rfl ?_
  refine r_ld rfl rfl ?_
  refine r_nlj rfl rfl ?_
  refine r_ld rfl rfl ?_
  refine q_geti rfl rfl rfl rfl rfl ?_
  refine r_sto (L' := [(0, _), (1, _), (2, _), (3, _)]) rfl rfl ?_
  refine r_ld rfl rfl ?_
  refine r_cst (v := .int 0) rfl rfl ?_
  refine r_cst (v := .int 0) rfl rfl ?_
  refine r_cst (v := .int 0) rfl rfl ?_
  refine q_callv (as := [_, _, _, _]) (rest := []) rfl rfl rfl rfl rfl rfl rfl rfl (ok_X3_take_1 ..) ?_
  refine r_ld rfl rfl ?_
  refine r_ret rfl rfl (trivial) ?_
  exact rfl

set_option maxHeartbeats 1000000 in
set_option maxRecDepth 10000 in
theorem ok_X11_taken_1 (d : Nat) (M : Nat → Nat → Int32) (ML : Nat → Nat → Int64) (y : Int32) (hy : 0 ≤ y ∧ y ≤ 2) : Ex (d + 2) k_X11_taken [.ref 1, .int (nI 1), .int y] (SH, M, ML) (some (.int (tkV (M 63 0) y (M 63 1) (M 63 2))), (SH, M, ML)) := by
  refine Ex_in mi_X11_taken rfl rfl ⟨Nat.le_refl _, Nat.le_refl _⟩ ?_
  show RR _ cd_X11_taken false _ (0, [(0, .ref 1), (1, .int (nI 1)), (2, .int y)], [], (SH, M, ML))
  refine r_ld rfl rfl ?_
  refine r_ld rfl rfl ?_
  refine q_call (as := [_, _]) (rest := []) rfl rfl rfl rfl rfl rfl rfl rfl (ok_X11_holderAt_1 ..) ?_
  refine r_sto (L' := [(0, _), (1, _), (2, _), (3, _)]) rfl rfl ?_
  refine r_ld rfl rfl ?_
  refine r_nlj rfl rfl ?_
  refine r_ld rfl rfl ?_
  refine q_cjF rfl rfl (nlt0.mpr hy.1) ?_
  refine r_ld rfl rfl ?_
  refine r_cst (v := .int 2) rfl rfl ?_
  refine r_cj rfl rfl (fun h_16 => ?_) (fun h_16 => ?_)
  · refine r_ld rfl rfl ?_
    refine q_geti rfl rfl rfl rfl rfl ?_
    refine r_cj rfl rfl (fun h_25 => ?_) (fun h_25 => ?_)
    · refine r_ld rfl rfl ?_
      refine q_geti rfl rfl rfl rfl rfl ?_
      refine r_cst (v := .int 3) rfl rfl ?_
      refine r_cj rfl rfl (fun h_36 => ?_) (fun h_36 => ?_)
      · refine r_cst (v := .int (-12)) rfl rfl ?_
        refine r_ret rfl rfl (trivial) ?_
        first
          | (simp_all [tkV]; done)
          | (have h9 := Classical.not_not.mp h_25; simp_all [tkV]; done)
      · refine r_ld rfl rfl ?_
        refine r_cj rfl rfl (fun h_40 => ?_) (fun h_40 => ?_)
        · refine r_ld rfl rfl ?_
          refine r_cj rfl rfl (fun h_55 => ?_) (fun h_55 => ?_)
          · refine r_ld rfl rfl ?_
            refine q_geti rfl rfl rfl rfl rfl ?_
            refine r_ret rfl rfl (trivial) ?_
            first
              | (simp_all [tkV]; done)
              | (have h9 := Classical.not_not.mp h_25; simp_all [tkV]; done)
          · refine r_ld rfl rfl ?_
            refine q_geti rfl rfl rfl rfl rfl ?_
            refine r_go rfl ?_
            refine r_ret rfl rfl (trivial) ?_
            first
              | (simp_all [tkV]; done)
              | (have h9 := Classical.not_not.mp h_25; simp_all [tkV]; done)
        · refine r_ld rfl rfl ?_
          refine r_ld rfl rfl ?_
          refine q_geti rfl rfl rfl rfl rfl ?_
          refine r_cj rfl rfl (fun h_48 => ?_) (fun h_48 => ?_)
          · refine r_ld rfl rfl ?_
            refine r_cj rfl rfl (fun h_55 => ?_) (fun h_55 => ?_)
            · refine r_ld rfl rfl ?_
              refine q_geti rfl rfl rfl rfl rfl ?_
              refine r_ret rfl rfl (trivial) ?_
              first
                | (simp_all [tkV]; done)
                | (have h9 := Classical.not_not.mp h_25; simp_all [tkV]; done)
            · refine r_ld rfl rfl ?_
              refine q_geti rfl rfl rfl rfl rfl ?_
              refine r_go rfl ?_
              refine r_ret rfl rfl (trivial) ?_
              first
                | (simp_all [tkV]; done)
                | (have h9 := Classical.not_not.mp h_25; simp_all [tkV]; done)
          · refine r_cst (v := .int (-12)) rfl rfl ?_
            refine r_ret rfl rfl (trivial) ?_
            first
              | (simp_all [tkV]; done)
              | (have h9 := Classical.not_not.mp h_25; simp_all [tkV]; done)
    · refine r_cst (v := .int (-11)) rfl rfl ?_
      refine r_ret rfl rfl (trivial) ?_
      first
        | (simp_all [tkV]; done)
        | (have h9 := Classical.not_not.mp h_25; simp_all [tkV]; done)
  · refine r_cst (v := .int (-1)) rfl rfl ?_
    refine r_ret rfl rfl (trivial) ?_
    first
      | (simp_all [tkV]; done)
      | (have h9 := Classical.not_not.mp h_25; simp_all [tkV]; done)

set_option maxHeartbeats 1000000 in
set_option maxRecDepth 10000 in
theorem ok_X11_taken_b_1 (d : Nat) (M : Nat → Nat → Int32) (ML : Nat → Nat → Int64) (y : Int32) (hy : ¬ (0 ≤ y ∧ y ≤ 2)) : Ex (d + 2) k_X11_taken [.ref 1, .int (nI 1), .int y] (SH, M, ML) (some (.int (-1)), (SH, M, ML)) := by
  refine Ex_in mi_X11_taken rfl rfl ⟨Nat.le_refl _, Nat.le_refl _⟩ ?_
  show RR _ cd_X11_taken false _ (0, [(0, .ref 1), (1, .int (nI 1)), (2, .int y)], [], (SH, M, ML))
  refine r_ld rfl rfl ?_
  refine r_ld rfl rfl ?_
  refine q_call (as := [_, _]) (rest := []) rfl rfl rfl rfl rfl rfl rfl rfl (ok_X11_holderAt_1 ..) ?_
  refine r_sto (L' := [(0, _), (1, _), (2, _), (3, _)]) rfl rfl ?_
  refine r_ld rfl rfl ?_
  refine r_nlj rfl rfl ?_
  refine r_ld rfl rfl ?_
  refine r_cj rfl rfl (fun h_11 => ?_) (fun h_11 => ?_)
  · refine r_cst (v := .int (-1)) rfl rfl ?_
    refine r_ret rfl rfl (trivial) ?_
    exact rfl
  · refine r_ld rfl rfl ?_
    refine r_cst (v := .int 2) rfl rfl ?_
    refine r_cj rfl rfl (fun h_16 => ?_) (fun h_16 => ?_)
    · exact (hy ⟨nlt0.mp h_11, h_16⟩).elim
    · refine r_cst (v := .int (-1)) rfl rfl ?_
      refine r_ret rfl rfl (trivial) ?_
      exact rfl

set_option maxHeartbeats 1000000 in
set_option maxRecDepth 10000 in
theorem lp_X3_takeRow_9_1 (d : Nat) (M : Nat → Nat → Int32) (ML : Nat → Nat → Int64) {v : Int32} {res : Rt} (hk : res = (none, (SH, zro M 64 20, ML))) :
    ∀ e, e ≤ 20 → ∀ (i : Int32) (M' : Nat → Nat → Int32), i = nI e → M' = zro M 64 e → RR (d + 1) cd_X3_takeRow false res (9, [(0, .ref 63), (1, .int v), (2, .int i)], [], (SH, M', ML)) := by
  refine up_ind fun e he ih => ?_
  intro i M' hv0 hv1
  subst hv0 hv1
  refine r_ld rfl rfl ?_
  refine r_ld rfl rfl ?_
  refine q_getr rfl rfl rfl rfl rfl ?_
  refine q_len rfl rfl rfl rfl ?_
  refine r_cj rfl rfl (fun h_15 => ?_) (fun h_15 => ?_)
  · have h9 : e = 20 := by have := nle (a := 20) (b := e) (by decide) (by omega) h_15; omega
    subst h9
    refine r_ret rfl rfl (trivial) ?_
    exact hk
  · have hlt : e < 20 := nnle (a := 20) (b := e) (by decide) (by omega) h_15
    refine r_ld rfl rfl ?_
    refine q_getr rfl rfl rfl rfl rfl ?_
    refine r_ld rfl rfl ?_
    refine r_cst (v := .int 0) rfl rfl ?_
    refine q_sin rfl rfl rfl (rfl) (by omega) rfl ?_
    refine q_inc (y := _ + 1) rfl rfl rfl ?_
    refine q_norm (L' := [(0, _), (1, _), (2, _)]) rfl ?_
    refine r_go rfl ?_
    exact ih hlt _ _ (nI_1 e) (zro_succ _ _ _)

set_option maxHeartbeats 1000000 in
set_option maxRecDepth 10000 in
theorem ok_X3_takeRow_1 (d : Nat) (M : Nat → Nat → Int32) (ML : Nat → Nat → Int64) (v : Int32) : Ex (d + 2) k_X3_takeRow [.ref 63, .int v] (SH, M, ML) (none, (SH, zro (up2 (up2 (up2 M 63 0 3) 63 1 0) 63 2 v) 64 20, ML)) := by
  refine Ex_in mi_X3_takeRow rfl rfl ⟨Nat.le_refl _, Nat.le_refl _⟩ ?_
  show RR _ cd_X3_takeRow false _ (0, [(0, .ref 63), (1, .int v)], [], (SH, M, ML))
  refine r_ld rfl rfl ?_
  refine r_cst (v := .int 3) rfl rfl ?_
  refine r_cst (v := .int 0) rfl rfl ?_
  refine r_ld rfl rfl ?_
  refine q_callv (as := [_, _, _, _]) (rest := []) rfl rfl rfl rfl rfl rfl rfl rfl (ok_X3_take_1 ..) ?_
  refine r_cst (v := .int 0) rfl rfl ?_
  refine r_sto (L' := [(0, _), (1, _), (2, _)]) rfl rfl ?_
  exact lp_X3_takeRow_9_1 d _ ML rfl 0 (by decide) _ _ rfl (zro_0 _ _).symm

set_option maxHeartbeats 1000000 in
set_option maxRecDepth 10000 in
theorem ok_X11_row_1 (d : Nat) (M : Nat → Nat → Int32) (ML : Nat → Nat → Int64) (v : Int32) (hv : 0 ≤ v ∧ v ≤ 20) : Ex (d + 3) k_X11_row [.ref 1, .int (nI 1), .int v] (SH, M, ML) (some (.int v), (SH, zro (up2 (up2 (up2 M 63 0 3) 63 1 0) 63 2 v) 64 20, ML)) := by
  refine Ex_in mi_X11_row rfl rfl ⟨Nat.le_refl _, Nat.le_refl _⟩ ?_
  show RR _ cd_X11_row false _ (0, [(0, .ref 1), (1, .int (nI 1)), (2, .int v)], [], (SH, M, ML))
  refine r_ld rfl rfl ?_
  refine r_ld rfl rfl ?_
  refine q_call (as := [_, _]) (rest := []) rfl rfl rfl rfl rfl rfl rfl rfl (ok_X11_holderAt_1 ..) ?_
  refine r_sto (L' := [(0, _), (1, _), (2, _), (3, _)]) rfl rfl ?_
  refine r_ld rfl rfl ?_
  refine r_nlj rfl rfl ?_
  refine r_ld rfl rfl ?_
  refine r_cst (v := .int 20) rfl rfl ?_
  refine q_cjT rfl rfl (hv.2) ?_
  refine r_ld rfl rfl ?_
  refine q_cjT rfl rfl (hv.1) ?_
  refine r_ld rfl rfl ?_
  refine r_ld rfl rfl ?_
  refine q_callv (as := [_, _]) (rest := []) rfl rfl rfl rfl rfl rfl rfl rfl (ok_X3_takeRow_1 ..) ?_
  refine r_ld rfl rfl ?_
  refine r_ret rfl rfl (trivial) ?_
  exact rfl

set_option maxHeartbeats 1000000 in
set_option maxRecDepth 10000 in
theorem ok_X11_row_b_1 (d : Nat) (M : Nat → Nat → Int32) (ML : Nat → Nat → Int64) (v : Int32) (hv : ¬ v ≤ 20) : Ex (d + 3) k_X11_row [.ref 1, .int (nI 1), .int v] (SH, M, ML) (some (.int (-1)), (SH, M, ML)) := by
  refine Ex_in mi_X11_row rfl rfl ⟨Nat.le_refl _, Nat.le_refl _⟩ ?_
  show RR _ cd_X11_row false _ (0, [(0, .ref 1), (1, .int (nI 1)), (2, .int v)], [], (SH, M, ML))
  refine r_ld rfl rfl ?_
  refine r_ld rfl rfl ?_
  refine q_call (as := [_, _]) (rest := []) rfl rfl rfl rfl rfl rfl rfl rfl (ok_X11_holderAt_1 ..) ?_
  refine r_sto (L' := [(0, _), (1, _), (2, _), (3, _)]) rfl rfl ?_
  refine r_ld rfl rfl ?_
  refine r_nlj rfl rfl ?_
  refine r_ld rfl rfl ?_
  refine r_cst (v := .int 20) rfl rfl ?_
  refine q_cjF rfl rfl (hv) ?_
  refine r_cst (v := .int (-1)) rfl rfl ?_
  refine r_ret rfl rfl (trivial) ?_
  exact rfl

set_option maxHeartbeats 1000000 in
set_option maxRecDepth 10000 in
theorem ok_X11_row_c_1 (d : Nat) (M : Nat → Nat → Int32) (ML : Nat → Nat → Int64) (v : Int32) (hv : ¬ 0 ≤ v) (hv2 : v ≤ 20) : Ex (d + 3) k_X11_row [.ref 1, .int (nI 1), .int v] (SH, M, ML) (some (.int (-14)), (SH, M, ML)) := by
  refine Ex_in mi_X11_row rfl rfl ⟨Nat.le_refl _, Nat.le_refl _⟩ ?_
  show RR _ cd_X11_row false _ (0, [(0, .ref 1), (1, .int (nI 1)), (2, .int v)], [], (SH, M, ML))
  refine r_ld rfl rfl ?_
  refine r_ld rfl rfl ?_
  refine q_call (as := [_, _]) (rest := []) rfl rfl rfl rfl rfl rfl rfl rfl (ok_X11_holderAt_1 ..) ?_
  refine r_sto (L' := [(0, _), (1, _), (2, _), (3, _)]) rfl rfl ?_
  refine r_ld rfl rfl ?_
  refine r_nlj rfl rfl ?_
  refine r_ld rfl rfl ?_
  refine r_cst (v := .int 20) rfl rfl ?_
  refine q_cjT rfl rfl (hv2) ?_
  refine r_ld rfl rfl ?_
  refine q_cjF rfl rfl (hv) ?_
  refine r_cst (v := .int (-14)) rfl rfl ?_
  refine r_ret rfl rfl (trivial) ?_
  exact rfl

set_option maxHeartbeats 1000000 in
set_option maxRecDepth 10000 in
theorem ok_X11_put_b_1 (d : Nat) (M : Nat → Nat → Int32) (ML : Nat → Nat → Int64) (y z : Int32) (h0 : ¬ nrV (M 63 0) = 0) : Ex (d + 2) k_X11_put [.ref 1, .int (nI 1), .int y, .int z] (SH, M, ML) (some (.int (nrV (M 63 0))), (SH, M, ML)) := by
  refine Ex_in mi_X11_put rfl rfl ⟨Nat.le_refl _, Nat.le_refl _⟩ ?_
  show RR _ cd_X11_put false _ (0, [(0, .ref 1), (1, .int (nI 1)), (2, .int y), (3, .int z)], [], (SH, M, ML))
  refine r_ld rfl rfl ?_
  refine r_ld rfl rfl ?_
  refine q_call (as := [_, _]) (rest := []) rfl rfl rfl rfl rfl rfl rfl rfl (ok_X11_holderAt_1 ..) ?_
  refine r_sto (L' := [(0, _), (1, _), (2, _), (3, _), (4, _)]) rfl rfl ?_
  refine r_ld rfl rfl ?_
  refine q_call (as := [_]) (rest := []) rfl rfl rfl rfl rfl rfl rfl rfl (ok_X11_noRow_1 ..) ?_
  refine r_sto (L' := [(0, _), (1, _), (2, _), (3, _), (4, _), (5, _)]) rfl rfl ?_
  refine r_ld rfl rfl ?_
  refine r_nlj rfl rfl ?_
  refine r_ld rfl rfl ?_
  refine q_cjF rfl rfl (h0) ?_
  refine r_ld rfl rfl ?_
  refine r_ret rfl rfl (trivial) ?_
  exact rfl

set_option maxHeartbeats 1000000 in
set_option maxRecDepth 10000 in
theorem ok_X11_put_c_1 (d : Nat) (M : Nat → Nat → Int32) (ML : Nat → Nat → Int64) (y z : Int32) (h0 : nrV (M 63 0) = 0) (hy : ¬ (0 ≤ y ∧ y < M 63 2)) : Ex (d + 2) k_X11_put [.ref 1, .int (nI 1), .int y, .int z] (SH, M, ML) (some (.int (-13)), (SH, M, ML)) := by
  refine Ex_in mi_X11_put rfl rfl ⟨Nat.le_refl _, Nat.le_refl _⟩ ?_
  show RR _ cd_X11_put false _ (0, [(0, .ref 1), (1, .int (nI 1)), (2, .int y), (3, .int z)], [], (SH, M, ML))
  refine r_ld rfl rfl ?_
  refine r_ld rfl rfl ?_
  refine q_call (as := [_, _]) (rest := []) rfl rfl rfl rfl rfl rfl rfl rfl (ok_X11_holderAt_1 ..) ?_
  refine r_sto (L' := [(0, _), (1, _), (2, _), (3, _), (4, _)]) rfl rfl ?_
  refine r_ld rfl rfl ?_
  refine q_call (as := [_]) (rest := []) rfl rfl rfl rfl rfl rfl rfl rfl (ok_X11_noRow_1 ..) ?_
  refine r_sto (L' := [(0, _), (1, _), (2, _), (3, _), (4, _), (5, _)]) rfl rfl ?_
  refine r_ld rfl rfl ?_
  refine r_nlj rfl rfl ?_
  refine r_ld rfl rfl ?_
  refine q_cjT rfl rfl (h0) ?_
  refine r_ld rfl rfl ?_
  refine r_cj rfl rfl (fun h_28 => ?_) (fun h_28 => ?_)
  · refine r_cst (v := .int (-13)) rfl rfl ?_
    refine r_ret rfl rfl (trivial) ?_
    exact rfl
  · refine r_ld rfl rfl ?_
    refine r_ld rfl rfl ?_
    refine q_geti rfl rfl rfl rfl rfl ?_
    refine r_cj rfl rfl (fun h_37 => ?_) (fun h_37 => ?_)
    · exact (hy ⟨nlt0.mp h_28, h_37⟩).elim
    · refine r_cst (v := .int (-13)) rfl rfl ?_
      refine r_ret rfl rfl (trivial) ?_
      exact rfl

set_option maxHeartbeats 1000000 in
set_option maxRecDepth 10000 in
theorem ok_X11_put_y_1 (d : Nat) (M : Nat → Nat → Int32) (ML : Nat → Nat → Int64) (z : Int32) {k n : Nat} (h0 : nrV (M 63 0) = 0) (hn : M 63 2 = nI n) (hk : k < n) (hn2 : n ≤ 20) : Ex (d + 2) k_X11_put [.ref 1, .int (nI 1), .int (nI k), .int z] (SH, M, ML) (some (.int 1), (SH, up2 M 64 k z, ML)) := by
  refine Ex_in mi_X11_put rfl rfl ⟨Nat.le_refl _, Nat.le_refl _⟩ ?_
  show RR _ cd_X11_put false _ (0, [(0, .ref 1), (1, .int (nI 1)), (2, .int (nI k)), (3, .int z)], [], (SH, M, ML))
  refine r_ld rfl rfl ?_
  refine r_ld rfl rfl ?_
  refine q_call (as := [_, _]) (rest := []) rfl rfl rfl rfl rfl rfl rfl rfl (ok_X11_holderAt_1 ..) ?_
  refine r_sto (L' := [(0, _), (1, _), (2, _), (3, _), (4, _)]) rfl rfl ?_
  refine r_ld rfl rfl ?_
  refine q_call (as := [_]) (rest := []) rfl rfl rfl rfl rfl rfl rfl rfl (ok_X11_noRow_1 ..) ?_
  refine r_sto (L' := [(0, _), (1, _), (2, _), (3, _), (4, _), (5, _)]) rfl rfl ?_
  refine r_ld rfl rfl ?_
  refine r_nlj rfl rfl ?_
  refine r_ld rfl rfl ?_
  refine q_cjT rfl rfl (h0) ?_
  refine r_ld rfl rfl ?_
  refine q_cjF rfl rfl (nlt0.mpr (nI_pos' (by omega))) ?_
  refine r_ld rfl rfl ?_
  refine r_ld rfl rfl ?_
  refine q_geti rfl rfl rfl rfl rfl ?_
  refine q_cjT rfl rfl (by rw [hn]; exact nI_lt hk (by omega)) ?_
  refine r_ld rfl rfl ?_
  refine q_getr rfl rfl rfl rfl rfl ?_
  refine r_ld rfl rfl ?_
  refine r_ld rfl rfl ?_
  refine q_callv (as := [_, _, _]) (rest := []) rfl rfl rfl rfl rfl rfl rfl rfl (ok_lay_n _ _ _ _ _ rfl rfl rfl rfl (by omega)) ?_
  refine r_cst (v := .int 1) rfl rfl ?_
  refine r_ret rfl rfl (trivial) ?_
  exact rfl

set_option maxHeartbeats 1000000 in
set_option maxRecDepth 10000 in
theorem ok_X11_holderAt_2 (d : Nat) (M : Nat → Nat → Int32) (ML : Nat → Nat → Int64) : Ex (d + 1) k_X11_holderAt [.ref 1, .int (nI 2)] (SH, M, ML) (some (.ref 65), (SH, M, ML)) := by
  refine Ex_in mi_X11_holderAt rfl rfl ⟨Nat.le_refl _, Nat.le_refl _⟩ ?_
  show RR _ cd_X11_holderAt false _ (0, [(0, .ref 1), (1, .int (nI 2))], [], (SH, M, ML))
  refine r_ld rfl rfl ?_
  refine q_cjF rfl rfl (by decide) ?_
  refine r_ld rfl rfl ?_
  refine r_ld rfl rfl ?_
  refine q_getr rfl rfl rfl rfl rfl ?_
  refine q_len rfl rfl rfl rfl ?_
  refine q_cjF rfl rfl (by decide) ?_
  refine r_ld rfl rfl ?_
  refine q_getr rfl rfl rfl rfl rfl ?_
  refine r_ld rfl rfl ?_
  refine r_alq (i := 48) (v := .ref 65) rfl rfl rfl (vp_in_nI (by decide) (by decide)) ?_
  refine r_go rfl ?_
  refine r_ret rfl rfl (trivial) ?_
  exact rfl

set_option maxHeartbeats 1000000 in
set_option maxRecDepth 10000 in
theorem ok_X11_noRow_2 (d : Nat) (M : Nat → Nat → Int32) (ML : Nat → Nat → Int64) : Ex (d + 1) k_X11_noRow [.ref 65] (SH, M, ML) (some (.int (nrV (M 65 0))), (SH, M, ML)) := by
  refine Ex_in mi_X11_noRow rfl rfl ⟨Nat.le_refl _, Nat.le_refl _⟩ ?_
  show RR _ cd_X11_noRow false _ (0, [(0, .ref 65)], [], (SH, M, ML))
  refine r_ld rfl rfl ?_
  refine r_nlj rfl rfl ?_
  refine r_ld rfl rfl ?_
  refine q_geti rfl rfl rfl rfl rfl ?_
  refine r_cj rfl rfl (fun h_10 => ?_) (fun h_10 => ?_)
  · refine r_ld rfl rfl ?_
    refine q_geti rfl rfl rfl rfl rfl ?_
    refine r_cst (v := .int 3) rfl rfl ?_
    refine r_cj rfl rfl (fun h_21 => ?_) (fun h_21 => ?_)
    · refine r_cst (v := .int (-12)) rfl rfl ?_
      refine r_ret rfl rfl (trivial) ?_
      first
        | (simp_all [nrV]; done)
        | (have h9 := Classical.not_not.mp h_10; simp_all [nrV]; done)
    · refine r_cst (v := .int 0) rfl rfl ?_
      refine r_go rfl ?_
      refine r_ret rfl rfl (trivial) ?_
      first
        | (simp_all [nrV]; done)
        | (have h9 := Classical.not_not.mp h_10; simp_all [nrV]; done)
  · refine r_cst (v := .int (-11)) rfl rfl ?_
    refine r_ret rfl rfl (trivial) ?_
    first
      | (simp_all [nrV]; done)
      | (have h9 := Classical.not_not.mp h_10; simp_all [nrV]; done)

set_option maxHeartbeats 1000000 in
set_option maxRecDepth 10000 in
theorem ok_X3_take_2 (d : Nat) (M : Nat → Nat → Int32) (ML : Nat → Nat → Int64) (x y z : Int32) : Ex (d + 1) k_X3_take [.ref 65, .int x, .int y, .int z] (SH, M, ML) (none, (SH, up2 (up2 (up2 M 65 0 x) 65 1 y) 65 2 z, ML)) := by
  refine Ex_in mi_X3_take rfl rfl ⟨Nat.le_refl _, Nat.le_refl _⟩ ?_
  show RR _ cd_X3_take false _ (0, [(0, .ref 65), (1, .int x), (2, .int y), (3, .int z)], [], (SH, M, ML))
  refine r_ld rfl rfl ?_
  refine r_ld rfl rfl ?_
  refine q_put rfl rfl rfl rfl rfl (Or.inl rfl) ?_
  refine r_ld rfl rfl ?_
  refine r_ld rfl rfl ?_
  refine q_put rfl rfl rfl rfl rfl (Or.inl rfl) ?_
  refine r_ld rfl rfl ?_
  refine r_ld rfl rfl ?_
  refine q_put rfl rfl rfl rfl rfl (Or.inl rfl) ?_
  refine r_ret rfl rfl (trivial) ?_
  exact rfl

set_option maxHeartbeats 1000000 in
set_option maxRecDepth 10000 in
theorem ok_X11_drop_2 (d : Nat) (M : Nat → Nat → Int32) (ML : Nat → Nat → Int64) : Ex (d + 2) k_X11_drop [.ref 1, .int (nI 2)] (SH, M, ML) (some (.int (M 65 0)), (SH, up2 (up2 (up2 M 65 0 0) 65 1 0) 65 2 0, ML)) := by
  refine Ex_in mi_X11_drop rfl rfl ⟨Nat.le_refl _, Nat.le_refl _⟩ ?_
  show RR _ cd_X11_drop false _ (0, [(0, .ref 1), (1, .int (nI 2))], [], (SH, M, ML))
  refine r_ld rfl rfl ?_
  refine r_ld rfl rfl ?_
  refine q_call (as := [_, _]) (rest := []) rfl rfl rfl rfl rfl rfl rfl rfl (ok_X11_holderAt_2 ..) ?_
  refine r_sto (L' := [(0, _), (1, _), (2, _)]) rfl rfl ?_
  refine r_ld rfl rfl ?_
  refine r_nlj rfl rfl ?_
  refine r_ld rfl rfl ?_
  refine q_geti rfl rfl rfl rfl rfl ?_
  refine r_sto (L' := [(0, _), (1, _), (2, _), (3, _)]) rfl rfl ?_
  refine r_ld rfl rfl ?_
  refine r_cst (v := .int 0) rfl rfl ?_
  refine r_cst (v := .int 0) rfl rfl ?_
  refine r_cst (v := .int 0) rfl rfl ?_
  refine q_callv (as := [_, _, _, _]) (rest := []) rfl rfl rfl rfl rfl rfl rfl rfl (ok_X3_take_2 ..) ?_
  refine r_ld rfl rfl ?_
  refine r_ret rfl rfl (trivial) ?_
  exact rfl

set_option maxHeartbeats 1000000 in
set_option maxRecDepth 10000 in
theorem ok_X11_taken_2 (d : Nat) (M : Nat → Nat → Int32) (ML : Nat → Nat → Int64) (y : Int32) (hy : 0 ≤ y ∧ y ≤ 2) : Ex (d + 2) k_X11_taken [.ref 1, .int (nI 2), .int y] (SH, M, ML) (some (.int (tkV (M 65 0) y (M 65 1) (M 65 2))), (SH, M, ML)) := by
  refine Ex_in mi_X11_taken rfl rfl ⟨Nat.le_refl _, Nat.le_refl _⟩ ?_
  show RR _ cd_X11_taken false _ (0, [(0, .ref 1), (1, .int (nI 2)), (2, .int y)], [], (SH, M, ML))
  refine r_ld rfl rfl ?_
  refine r_ld rfl rfl ?_
  refine q_call (as := [_, _]) (rest := []) rfl rfl rfl rfl rfl rfl rfl rfl (ok_X11_holderAt_2 ..) ?_
  refine r_sto (L' := [(0, _), (1, _), (2, _), (3, _)]) rfl rfl ?_
  refine r_ld rfl rfl ?_
  refine r_nlj rfl rfl ?_
  refine r_ld rfl rfl ?_
  refine q_cjF rfl rfl (nlt0.mpr hy.1) ?_
  refine r_ld rfl rfl ?_
  refine r_cst (v := .int 2) rfl rfl ?_
  refine r_cj rfl rfl (fun h_16 => ?_) (fun h_16 => ?_)
  · refine r_ld rfl rfl ?_
    refine q_geti rfl rfl rfl rfl rfl ?_
    refine r_cj rfl rfl (fun h_25 => ?_) (fun h_25 => ?_)
    · refine r_ld rfl rfl ?_
      refine q_geti rfl rfl rfl rfl rfl ?_
      refine r_cst (v := .int 3) rfl rfl ?_
      refine r_cj rfl rfl (fun h_36 => ?_) (fun h_36 => ?_)
      · refine r_cst (v := .int (-12)) rfl rfl ?_
        refine r_ret rfl rfl (trivial) ?_
        first
          | (simp_all [tkV]; done)
          | (have h9 := Classical.not_not.mp h_25; simp_all [tkV]; done)
      · refine r_ld rfl rfl ?_
        refine r_cj rfl rfl (fun h_40 => ?_) (fun h_40 => ?_)
        · refine r_ld rfl rfl ?_
          refine r_cj rfl rfl (fun h_55 => ?_) (fun h_55 => ?_)
          · refine r_ld rfl rfl ?_
            refine q_geti rfl rfl rfl rfl rfl ?_
            refine r_ret rfl rfl (trivial) ?_
            first
              | (simp_all [tkV]; done)
              | (have h9 := Classical.not_not.mp h_25; simp_all [tkV]; done)
          · refine r_ld rfl rfl ?_
            refine q_geti rfl rfl rfl rfl rfl ?_
            refine r_go rfl ?_
            refine r_ret rfl rfl (trivial) ?_
            first
              | (simp_all [tkV]; done)
              | (have h9 := Classical.not_not.mp h_25; simp_all [tkV]; done)
        · refine r_ld rfl rfl ?_
          refine r_ld rfl rfl ?_
          refine q_geti rfl rfl rfl rfl rfl ?_
          refine r_cj rfl rfl (fun h_48 => ?_) (fun h_48 => ?_)
          · refine r_ld rfl rfl ?_
            refine r_cj rfl rfl (fun h_55 => ?_) (fun h_55 => ?_)
            · refine r_ld rfl rfl ?_
              refine q_geti rfl rfl rfl rfl rfl ?_
              refine r_ret rfl rfl (trivial) ?_
              first
                | (simp_all [tkV]; done)
                | (have h9 := Classical.not_not.mp h_25; simp_all [tkV]; done)
            · refine r_ld rfl rfl ?_
              refine q_geti rfl rfl rfl rfl rfl ?_
              refine r_go rfl ?_
              refine r_ret rfl rfl (trivial) ?_
              first
                | (simp_all [tkV]; done)
                | (have h9 := Classical.not_not.mp h_25; simp_all [tkV]; done)
          · refine r_cst (v := .int (-12)) rfl rfl ?_
            refine r_ret rfl rfl (trivial) ?_
            first
              | (simp_all [tkV]; done)
              | (have h9 := Classical.not_not.mp h_25; simp_all [tkV]; done)
    · refine r_cst (v := .int (-11)) rfl rfl ?_
      refine r_ret rfl rfl (trivial) ?_
      first
        | (simp_all [tkV]; done)
        | (have h9 := Classical.not_not.mp h_25; simp_all [tkV]; done)
  · refine r_cst (v := .int (-1)) rfl rfl ?_
    refine r_ret rfl rfl (trivial) ?_
    first
      | (simp_all [tkV]; done)
      | (have h9 := Classical.not_not.mp h_25; simp_all [tkV]; done)

set_option maxHeartbeats 1000000 in
set_option maxRecDepth 10000 in
theorem ok_X11_taken_b_2 (d : Nat) (M : Nat → Nat → Int32) (ML : Nat → Nat → Int64) (y : Int32) (hy : ¬ (0 ≤ y ∧ y ≤ 2)) : Ex (d + 2) k_X11_taken [.ref 1, .int (nI 2), .int y] (SH, M, ML) (some (.int (-1)), (SH, M, ML)) := by
  refine Ex_in mi_X11_taken rfl rfl ⟨Nat.le_refl _, Nat.le_refl _⟩ ?_
  show RR _ cd_X11_taken false _ (0, [(0, .ref 1), (1, .int (nI 2)), (2, .int y)], [], (SH, M, ML))
  refine r_ld rfl rfl ?_
  refine r_ld rfl rfl ?_
  refine q_call (as := [_, _]) (rest := []) rfl rfl rfl rfl rfl rfl rfl rfl (ok_X11_holderAt_2 ..) ?_
  refine r_sto (L' := [(0, _), (1, _), (2, _), (3, _)]) rfl rfl ?_
  refine r_ld rfl rfl ?_
  refine r_nlj rfl rfl ?_
  refine r_ld rfl rfl ?_
  refine r_cj rfl rfl (fun h_11 => ?_) (fun h_11 => ?_)
  · refine r_cst (v := .int (-1)) rfl rfl ?_
    refine r_ret rfl rfl (trivial) ?_
    exact rfl
  · refine r_ld rfl rfl ?_
    refine r_cst (v := .int 2) rfl rfl ?_
    refine r_cj rfl rfl (fun h_16 => ?_) (fun h_16 => ?_)
    · exact (hy ⟨nlt0.mp h_11, h_16⟩).elim
    · refine r_cst (v := .int (-1)) rfl rfl ?_
      refine r_ret rfl rfl (trivial) ?_
      exact rfl

set_option maxHeartbeats 1000000 in
set_option maxRecDepth 10000 in
theorem lp_X3_takeRow_9_2 (d : Nat) (M : Nat → Nat → Int32) (ML : Nat → Nat → Int64) {v : Int32} {res : Rt} (hk : res = (none, (SH, zro M 66 20, ML))) :
    ∀ e, e ≤ 20 → ∀ (i : Int32) (M' : Nat → Nat → Int32), i = nI e → M' = zro M 66 e → RR (d + 1) cd_X3_takeRow false res (9, [(0, .ref 65), (1, .int v), (2, .int i)], [], (SH, M', ML)) := by
  refine up_ind fun e he ih => ?_
  intro i M' hv0 hv1
  subst hv0 hv1
  refine r_ld rfl rfl ?_
  refine r_ld rfl rfl ?_
  refine q_getr rfl rfl rfl rfl rfl ?_
  refine q_len rfl rfl rfl rfl ?_
  refine r_cj rfl rfl (fun h_15 => ?_) (fun h_15 => ?_)
  · have h9 : e = 20 := by have := nle (a := 20) (b := e) (by decide) (by omega) h_15; omega
    subst h9
    refine r_ret rfl rfl (trivial) ?_
    exact hk
  · have hlt : e < 20 := nnle (a := 20) (b := e) (by decide) (by omega) h_15
    refine r_ld rfl rfl ?_
    refine q_getr rfl rfl rfl rfl rfl ?_
    refine r_ld rfl rfl ?_
    refine r_cst (v := .int 0) rfl rfl ?_
    refine q_sin rfl rfl rfl (rfl) (by omega) rfl ?_
    refine q_inc (y := _ + 1) rfl rfl rfl ?_
    refine q_norm (L' := [(0, _), (1, _), (2, _)]) rfl ?_
    refine r_go rfl ?_
    exact ih hlt _ _ (nI_1 e) (zro_succ _ _ _)

set_option maxHeartbeats 1000000 in
set_option maxRecDepth 10000 in
theorem ok_X3_takeRow_2 (d : Nat) (M : Nat → Nat → Int32) (ML : Nat → Nat → Int64) (v : Int32) : Ex (d + 2) k_X3_takeRow [.ref 65, .int v] (SH, M, ML) (none, (SH, zro (up2 (up2 (up2 M 65 0 3) 65 1 0) 65 2 v) 66 20, ML)) := by
  refine Ex_in mi_X3_takeRow rfl rfl ⟨Nat.le_refl _, Nat.le_refl _⟩ ?_
  show RR _ cd_X3_takeRow false _ (0, [(0, .ref 65), (1, .int v)], [], (SH, M, ML))
  refine r_ld rfl rfl ?_
  refine r_cst (v := .int 3) rfl rfl ?_
  refine r_cst (v := .int 0) rfl rfl ?_
  refine r_ld rfl rfl ?_
  refine q_callv (as := [_, _, _, _]) (rest := []) rfl rfl rfl rfl rfl rfl rfl rfl (ok_X3_take_2 ..) ?_
  refine r_cst (v := .int 0) rfl rfl ?_
  refine r_sto (L' := [(0, _), (1, _), (2, _)]) rfl rfl ?_
  exact lp_X3_takeRow_9_2 d _ ML rfl 0 (by decide) _ _ rfl (zro_0 _ _).symm

set_option maxHeartbeats 1000000 in
set_option maxRecDepth 10000 in
theorem ok_X11_row_2 (d : Nat) (M : Nat → Nat → Int32) (ML : Nat → Nat → Int64) (v : Int32) (hv : 0 ≤ v ∧ v ≤ 20) : Ex (d + 3) k_X11_row [.ref 1, .int (nI 2), .int v] (SH, M, ML) (some (.int v), (SH, zro (up2 (up2 (up2 M 65 0 3) 65 1 0) 65 2 v) 66 20, ML)) := by
  refine Ex_in mi_X11_row rfl rfl ⟨Nat.le_refl _, Nat.le_refl _⟩ ?_
  show RR _ cd_X11_row false _ (0, [(0, .ref 1), (1, .int (nI 2)), (2, .int v)], [], (SH, M, ML))
  refine r_ld rfl rfl ?_
  refine r_ld rfl rfl ?_
  refine q_call (as := [_, _]) (rest := []) rfl rfl rfl rfl rfl rfl rfl rfl (ok_X11_holderAt_2 ..) ?_
  refine r_sto (L' := [(0, _), (1, _), (2, _), (3, _)]) rfl rfl ?_
  refine r_ld rfl rfl ?_
  refine r_nlj rfl rfl ?_
  refine r_ld rfl rfl ?_
  refine r_cst (v := .int 20) rfl rfl ?_
  refine q_cjT rfl rfl (hv.2) ?_
  refine r_ld rfl rfl ?_
  refine q_cjT rfl rfl (hv.1) ?_
  refine r_ld rfl rfl ?_
  refine r_ld rfl rfl ?_
  refine q_callv (as := [_, _]) (rest := []) rfl rfl rfl rfl rfl rfl rfl rfl (ok_X3_takeRow_2 ..) ?_
  refine r_ld rfl rfl ?_
  refine r_ret rfl rfl (trivial) ?_
  exact rfl

set_option maxHeartbeats 1000000 in
set_option maxRecDepth 10000 in
theorem ok_X11_row_b_2 (d : Nat) (M : Nat → Nat → Int32) (ML : Nat → Nat → Int64) (v : Int32) (hv : ¬ v ≤ 20) : Ex (d + 3) k_X11_row [.ref 1, .int (nI 2), .int v] (SH, M, ML) (some (.int (-1)), (SH, M, ML)) := by
  refine Ex_in mi_X11_row rfl rfl ⟨Nat.le_refl _, Nat.le_refl _⟩ ?_
  show RR _ cd_X11_row false _ (0, [(0, .ref 1), (1, .int (nI 2)), (2, .int v)], [], (SH, M, ML))
  refine r_ld rfl rfl ?_
  refine r_ld rfl rfl ?_
  refine q_call (as := [_, _]) (rest := []) rfl rfl rfl rfl rfl rfl rfl rfl (ok_X11_holderAt_2 ..) ?_
  refine r_sto (L' := [(0, _), (1, _), (2, _), (3, _)]) rfl rfl ?_
  refine r_ld rfl rfl ?_
  refine r_nlj rfl rfl ?_
  refine r_ld rfl rfl ?_
  refine r_cst (v := .int 20) rfl rfl ?_
  refine q_cjF rfl rfl (hv) ?_
  refine r_cst (v := .int (-1)) rfl rfl ?_
  refine r_ret rfl rfl (trivial) ?_
  exact rfl

set_option maxHeartbeats 1000000 in
set_option maxRecDepth 10000 in
theorem ok_X11_row_c_2 (d : Nat) (M : Nat → Nat → Int32) (ML : Nat → Nat → Int64) (v : Int32) (hv : ¬ 0 ≤ v) (hv2 : v ≤ 20) : Ex (d + 3) k_X11_row [.ref 1, .int (nI 2), .int v] (SH, M, ML) (some (.int (-14)), (SH, M, ML)) := by
  refine Ex_in mi_X11_row rfl rfl ⟨Nat.le_refl _, Nat.le_refl _⟩ ?_
  show RR _ cd_X11_row false _ (0, [(0, .ref 1), (1, .int (nI 2)), (2, .int v)], [], (SH, M, ML))
  refine r_ld rfl rfl ?_
  refine r_ld rfl rfl ?_
  refine q_call (as := [_, _]) (rest := []) rfl rfl rfl rfl rfl rfl rfl rfl (ok_X11_holderAt_2 ..) ?_
  refine r_sto (L' := [(0, _), (1, _), (2, _), (3, _)]) rfl rfl ?_
  refine r_ld rfl rfl ?_
  refine r_nlj rfl rfl ?_
  refine r_ld rfl rfl ?_
  refine r_cst (v := .int 20) rfl rfl ?_
  refine q_cjT rfl rfl (hv2) ?_
  refine r_ld rfl rfl ?_
  refine q_cjF rfl rfl (hv) ?_
  refine r_cst (v := .int (-14)) rfl rfl ?_
  refine r_ret rfl rfl (trivial) ?_
  exact rfl

set_option maxHeartbeats 1000000 in
set_option maxRecDepth 10000 in
theorem ok_X11_put_b_2 (d : Nat) (M : Nat → Nat → Int32) (ML : Nat → Nat → Int64) (y z : Int32) (h0 : ¬ nrV (M 65 0) = 0) : Ex (d + 2) k_X11_put [.ref 1, .int (nI 2), .int y, .int z] (SH, M, ML) (some (.int (nrV (M 65 0))), (SH, M, ML)) := by
  refine Ex_in mi_X11_put rfl rfl ⟨Nat.le_refl _, Nat.le_refl _⟩ ?_
  show RR _ cd_X11_put false _ (0, [(0, .ref 1), (1, .int (nI 2)), (2, .int y), (3, .int z)], [], (SH, M, ML))
  refine r_ld rfl rfl ?_
  refine r_ld rfl rfl ?_
  refine q_call (as := [_, _]) (rest := []) rfl rfl rfl rfl rfl rfl rfl rfl (ok_X11_holderAt_2 ..) ?_
  refine r_sto (L' := [(0, _), (1, _), (2, _), (3, _), (4, _)]) rfl rfl ?_
  refine r_ld rfl rfl ?_
  refine q_call (as := [_]) (rest := []) rfl rfl rfl rfl rfl rfl rfl rfl (ok_X11_noRow_2 ..) ?_
  refine r_sto (L' := [(0, _), (1, _), (2, _), (3, _), (4, _), (5, _)]) rfl rfl ?_
  refine r_ld rfl rfl ?_
  refine r_nlj rfl rfl ?_
  refine r_ld rfl rfl ?_
  refine q_cjF rfl rfl (h0) ?_
  refine r_ld rfl rfl ?_
  refine r_ret rfl rfl (trivial) ?_
  exact rfl

set_option maxHeartbeats 1000000 in
set_option maxRecDepth 10000 in
theorem ok_X11_put_c_2 (d : Nat) (M : Nat → Nat → Int32) (ML : Nat → Nat → Int64) (y z : Int32) (h0 : nrV (M 65 0) = 0) (hy : ¬ (0 ≤ y ∧ y < M 65 2)) : Ex (d + 2) k_X11_put [.ref 1, .int (nI 2), .int y, .int z] (SH, M, ML) (some (.int (-13)), (SH, M, ML)) := by
  refine Ex_in mi_X11_put rfl rfl ⟨Nat.le_refl _, Nat.le_refl _⟩ ?_
  show RR _ cd_X11_put false _ (0, [(0, .ref 1), (1, .int (nI 2)), (2, .int y), (3, .int z)], [], (SH, M, ML))
  refine r_ld rfl rfl ?_
  refine r_ld rfl rfl ?_
  refine q_call (as := [_, _]) (rest := []) rfl rfl rfl rfl rfl rfl rfl rfl (ok_X11_holderAt_2 ..) ?_
  refine r_sto (L' := [(0, _), (1, _), (2, _), (3, _), (4, _)]) rfl rfl ?_
  refine r_ld rfl rfl ?_
  refine q_call (as := [_]) (rest := []) rfl rfl rfl rfl rfl rfl rfl rfl (ok_X11_noRow_2 ..) ?_
  refine r_sto (L' := [(0, _), (1, _), (2, _), (3, _), (4, _), (5, _)]) rfl rfl ?_
  refine r_ld rfl rfl ?_
  refine r_nlj rfl rfl ?_
  refine r_ld rfl rfl ?_
  refine q_cjT rfl rfl (h0) ?_
  refine r_ld rfl rfl ?_
  refine r_cj rfl rfl (fun h_28 => ?_) (fun h_28 => ?_)
  · refine r_cst (v := .int (-13)) rfl rfl ?_
    refine r_ret rfl rfl (trivial) ?_
    exact rfl
  · refine r_ld rfl rfl ?_
    refine r_ld rfl rfl ?_
    refine q_geti rfl rfl rfl rfl rfl ?_
    refine r_cj rfl rfl (fun h_37 => ?_) (fun h_37 => ?_)
    · exact (hy ⟨nlt0.mp h_28, h_37⟩).elim
    · refine r_cst (v := .int (-13)) rfl rfl ?_
      refine r_ret rfl rfl (trivial) ?_
      exact rfl

set_option maxHeartbeats 1000000 in
set_option maxRecDepth 10000 in
theorem ok_X11_put_y_2 (d : Nat) (M : Nat → Nat → Int32) (ML : Nat → Nat → Int64) (z : Int32) {k n : Nat} (h0 : nrV (M 65 0) = 0) (hn : M 65 2 = nI n) (hk : k < n) (hn2 : n ≤ 20) : Ex (d + 2) k_X11_put [.ref 1, .int (nI 2), .int (nI k), .int z] (SH, M, ML) (some (.int 1), (SH, up2 M 66 k z, ML)) := by
  refine Ex_in mi_X11_put rfl rfl ⟨Nat.le_refl _, Nat.le_refl _⟩ ?_
  show RR _ cd_X11_put false _ (0, [(0, .ref 1), (1, .int (nI 2)), (2, .int (nI k)), (3, .int z)], [], (SH, M, ML))
  refine r_ld rfl rfl ?_
  refine r_ld rfl rfl ?_
  refine q_call (as := [_, _]) (rest := []) rfl rfl rfl rfl rfl rfl rfl rfl (ok_X11_holderAt_2 ..) ?_
  refine r_sto (L' := [(0, _), (1, _), (2, _), (3, _), (4, _)]) rfl rfl ?_
  refine r_ld rfl rfl ?_
  refine q_call (as := [_]) (rest := []) rfl rfl rfl rfl rfl rfl rfl rfl (ok_X11_noRow_2 ..) ?_
  refine r_sto (L' := [(0, _), (1, _), (2, _), (3, _), (4, _), (5, _)]) rfl rfl ?_
  refine r_ld rfl rfl ?_
  refine r_nlj rfl rfl ?_
  refine r_ld rfl rfl ?_
  refine q_cjT rfl rfl (h0) ?_
  refine r_ld rfl rfl ?_
  refine q_cjF rfl rfl (nlt0.mpr (nI_pos' (by omega))) ?_
  refine r_ld rfl rfl ?_
  refine r_ld rfl rfl ?_
  refine q_geti rfl rfl rfl rfl rfl ?_
  refine q_cjT rfl rfl (by rw [hn]; exact nI_lt hk (by omega)) ?_
  refine r_ld rfl rfl ?_
  refine q_getr rfl rfl rfl rfl rfl ?_
  refine r_ld rfl rfl ?_
  refine r_ld rfl rfl ?_
  refine q_callv (as := [_, _, _]) (rest := []) rfl rfl rfl rfl rfl rfl rfl rfl (ok_lay_n _ _ _ _ _ rfl rfl rfl rfl (by omega)) ?_
  refine r_cst (v := .int 1) rfl rfl ?_
  refine r_ret rfl rfl (trivial) ?_
  exact rfl

set_option maxHeartbeats 1000000 in
set_option maxRecDepth 10000 in
theorem ok_X11_holderAt_3 (d : Nat) (M : Nat → Nat → Int32) (ML : Nat → Nat → Int64) : Ex (d + 1) k_X11_holderAt [.ref 1, .int (nI 3)] (SH, M, ML) (some (.ref 67), (SH, M, ML)) := by
  refine Ex_in mi_X11_holderAt rfl rfl ⟨Nat.le_refl _, Nat.le_refl _⟩ ?_
  show RR _ cd_X11_holderAt false _ (0, [(0, .ref 1), (1, .int (nI 3))], [], (SH, M, ML))
  refine r_ld rfl rfl ?_
  refine q_cjF rfl rfl (by decide) ?_
  refine r_ld rfl rfl ?_
  refine r_ld rfl rfl ?_
  refine q_getr rfl rfl rfl rfl rfl ?_
  refine q_len rfl rfl rfl rfl ?_
  refine q_cjF rfl rfl (by decide) ?_
  refine r_ld rfl rfl ?_
  refine q_getr rfl rfl rfl rfl rfl ?_
  refine r_ld rfl rfl ?_
  refine r_alq (i := 48) (v := .ref 67) rfl rfl rfl (vp_in_nI (by decide) (by decide)) ?_
  refine r_go rfl ?_
  refine r_ret rfl rfl (trivial) ?_
  exact rfl

set_option maxHeartbeats 1000000 in
set_option maxRecDepth 10000 in
theorem ok_X11_noRow_3 (d : Nat) (M : Nat → Nat → Int32) (ML : Nat → Nat → Int64) : Ex (d + 1) k_X11_noRow [.ref 67] (SH, M, ML) (some (.int (nrV (M 67 0))), (SH, M, ML)) := by
  refine Ex_in mi_X11_noRow rfl rfl ⟨Nat.le_refl _, Nat.le_refl _⟩ ?_
  show RR _ cd_X11_noRow false _ (0, [(0, .ref 67)], [], (SH, M, ML))
  refine r_ld rfl rfl ?_
  refine r_nlj rfl rfl ?_
  refine r_ld rfl rfl ?_
  refine q_geti rfl rfl rfl rfl rfl ?_
  refine r_cj rfl rfl (fun h_10 => ?_) (fun h_10 => ?_)
  · refine r_ld rfl rfl ?_
    refine q_geti rfl rfl rfl rfl rfl ?_
    refine r_cst (v := .int 3) rfl rfl ?_
    refine r_cj rfl rfl (fun h_21 => ?_) (fun h_21 => ?_)
    · refine r_cst (v := .int (-12)) rfl rfl ?_
      refine r_ret rfl rfl (trivial) ?_
      first
        | (simp_all [nrV]; done)
        | (have h9 := Classical.not_not.mp h_10; simp_all [nrV]; done)
    · refine r_cst (v := .int 0) rfl rfl ?_
      refine r_go rfl ?_
      refine r_ret rfl rfl (trivial) ?_
      first
        | (simp_all [nrV]; done)
        | (have h9 := Classical.not_not.mp h_10; simp_all [nrV]; done)
  · refine r_cst (v := .int (-11)) rfl rfl ?_
    refine r_ret rfl rfl (trivial) ?_
    first
      | (simp_all [nrV]; done)
      | (have h9 := Classical.not_not.mp h_10; simp_all [nrV]; done)

set_option maxHeartbeats 1000000 in
set_option maxRecDepth 10000 in
theorem ok_X3_take_3 (d : Nat) (M : Nat → Nat → Int32) (ML : Nat → Nat → Int64) (x y z : Int32) : Ex (d + 1) k_X3_take [.ref 67, .int x, .int y, .int z] (SH, M, ML) (none, (SH, up2 (up2 (up2 M 67 0 x) 67 1 y) 67 2 z, ML)) := by
  refine Ex_in mi_X3_take rfl rfl ⟨Nat.le_refl _, Nat.le_refl _⟩ ?_
  show RR _ cd_X3_take false _ (0, [(0, .ref 67), (1, .int x), (2, .int y), (3, .int z)], [], (SH, M, ML))
  refine r_ld rfl rfl ?_
  refine r_ld rfl rfl ?_
  refine q_put rfl rfl rfl rfl rfl (Or.inl rfl) ?_
  refine r_ld rfl rfl ?_
  refine r_ld rfl rfl ?_
  refine q_put rfl rfl rfl rfl rfl (Or.inl rfl) ?_
  refine r_ld rfl rfl ?_
  refine r_ld rfl rfl ?_
  refine q_put rfl rfl rfl rfl rfl (Or.inl rfl) ?_
  refine r_ret rfl rfl (trivial) ?_
  exact rfl

set_option maxHeartbeats 1000000 in
set_option maxRecDepth 10000 in
theorem ok_X11_drop_3 (d : Nat) (M : Nat → Nat → Int32) (ML : Nat → Nat → Int64) : Ex (d + 2) k_X11_drop [.ref 1, .int (nI 3)] (SH, M, ML) (some (.int (M 67 0)), (SH, up2 (up2 (up2 M 67 0 0) 67 1 0) 67 2 0, ML)) := by
  refine Ex_in mi_X11_drop rfl rfl ⟨Nat.le_refl _, Nat.le_refl _⟩ ?_
  show RR _ cd_X11_drop false _ (0, [(0, .ref 1), (1, .int (nI 3))], [], (SH, M, ML))
  refine r_ld rfl rfl ?_
  refine r_ld rfl rfl ?_
  refine q_call (as := [_, _]) (rest := []) rfl rfl rfl rfl rfl rfl rfl rfl (ok_X11_holderAt_3 ..) ?_
  refine r_sto (L' := [(0, _), (1, _), (2, _)]) rfl rfl ?_
  refine r_ld rfl rfl ?_
  refine r_nlj rfl rfl ?_
  refine r_ld rfl rfl ?_
  refine q_geti rfl rfl rfl rfl rfl ?_
  refine r_sto (L' := [(0, _), (1, _), (2, _), (3, _)]) rfl rfl ?_
  refine r_ld rfl rfl ?_
  refine r_cst (v := .int 0) rfl rfl ?_
  refine r_cst (v := .int 0) rfl rfl ?_
  refine r_cst (v := .int 0) rfl rfl ?_
  refine q_callv (as := [_, _, _, _]) (rest := []) rfl rfl rfl rfl rfl rfl rfl rfl (ok_X3_take_3 ..) ?_
  refine r_ld rfl rfl ?_
  refine r_ret rfl rfl (trivial) ?_
  exact rfl

set_option maxHeartbeats 1000000 in
set_option maxRecDepth 10000 in
theorem ok_X11_taken_3 (d : Nat) (M : Nat → Nat → Int32) (ML : Nat → Nat → Int64) (y : Int32) (hy : 0 ≤ y ∧ y ≤ 2) : Ex (d + 2) k_X11_taken [.ref 1, .int (nI 3), .int y] (SH, M, ML) (some (.int (tkV (M 67 0) y (M 67 1) (M 67 2))), (SH, M, ML)) := by
  refine Ex_in mi_X11_taken rfl rfl ⟨Nat.le_refl _, Nat.le_refl _⟩ ?_
  show RR _ cd_X11_taken false _ (0, [(0, .ref 1), (1, .int (nI 3)), (2, .int y)], [], (SH, M, ML))
  refine r_ld rfl rfl ?_
  refine r_ld rfl rfl ?_
  refine q_call (as := [_, _]) (rest := []) rfl rfl rfl rfl rfl rfl rfl rfl (ok_X11_holderAt_3 ..) ?_
  refine r_sto (L' := [(0, _), (1, _), (2, _), (3, _)]) rfl rfl ?_
  refine r_ld rfl rfl ?_
  refine r_nlj rfl rfl ?_
  refine r_ld rfl rfl ?_
  refine q_cjF rfl rfl (nlt0.mpr hy.1) ?_
  refine r_ld rfl rfl ?_
  refine r_cst (v := .int 2) rfl rfl ?_
  refine r_cj rfl rfl (fun h_16 => ?_) (fun h_16 => ?_)
  · refine r_ld rfl rfl ?_
    refine q_geti rfl rfl rfl rfl rfl ?_
    refine r_cj rfl rfl (fun h_25 => ?_) (fun h_25 => ?_)
    · refine r_ld rfl rfl ?_
      refine q_geti rfl rfl rfl rfl rfl ?_
      refine r_cst (v := .int 3) rfl rfl ?_
      refine r_cj rfl rfl (fun h_36 => ?_) (fun h_36 => ?_)
      · refine r_cst (v := .int (-12)) rfl rfl ?_
        refine r_ret rfl rfl (trivial) ?_
        first
          | (simp_all [tkV]; done)
          | (have h9 := Classical.not_not.mp h_25; simp_all [tkV]; done)
      · refine r_ld rfl rfl ?_
        refine r_cj rfl rfl (fun h_40 => ?_) (fun h_40 => ?_)
        · refine r_ld rfl rfl ?_
          refine r_cj rfl rfl (fun h_55 => ?_) (fun h_55 => ?_)
          · refine r_ld rfl rfl ?_
            refine q_geti rfl rfl rfl rfl rfl ?_
            refine r_ret rfl rfl (trivial) ?_
            first
              | (simp_all [tkV]; done)
              | (have h9 := Classical.not_not.mp h_25; simp_all [tkV]; done)
          · refine r_ld rfl rfl ?_
            refine q_geti rfl rfl rfl rfl rfl ?_
            refine r_go rfl ?_
            refine r_ret rfl rfl (trivial) ?_
            first
              | (simp_all [tkV]; done)
              | (have h9 := Classical.not_not.mp h_25; simp_all [tkV]; done)
        · refine r_ld rfl rfl ?_
          refine r_ld rfl rfl ?_
          refine q_geti rfl rfl rfl rfl rfl ?_
          refine r_cj rfl rfl (fun h_48 => ?_) (fun h_48 => ?_)
          · refine r_ld rfl rfl ?_
            refine r_cj rfl rfl (fun h_55 => ?_) (fun h_55 => ?_)
            · refine r_ld rfl rfl ?_
              refine q_geti rfl rfl rfl rfl rfl ?_
              refine r_ret rfl rfl (trivial) ?_
              first
                | (simp_all [tkV]; done)
                | (have h9 := Classical.not_not.mp h_25; simp_all [tkV]; done)
            · refine r_ld rfl rfl ?_
              refine q_geti rfl rfl rfl rfl rfl ?_
              refine r_go rfl ?_
              refine r_ret rfl rfl (trivial) ?_
              first
                | (simp_all [tkV]; done)
                | (have h9 := Classical.not_not.mp h_25; simp_all [tkV]; done)
          · refine r_cst (v := .int (-12)) rfl rfl ?_
            refine r_ret rfl rfl (trivial) ?_
            first
              | (simp_all [tkV]; done)
              | (have h9 := Classical.not_not.mp h_25; simp_all [tkV]; done)
    · refine r_cst (v := .int (-11)) rfl rfl ?_
      refine r_ret rfl rfl (trivial) ?_
      first
        | (simp_all [tkV]; done)
        | (have h9 := Classical.not_not.mp h_25; simp_all [tkV]; done)
  · refine r_cst (v := .int (-1)) rfl rfl ?_
    refine r_ret rfl rfl (trivial) ?_
    first
      | (simp_all [tkV]; done)
      | (have h9 := Classical.not_not.mp h_25; simp_all [tkV]; done)

set_option maxHeartbeats 1000000 in
set_option maxRecDepth 10000 in
theorem ok_X11_taken_b_3 (d : Nat) (M : Nat → Nat → Int32) (ML : Nat → Nat → Int64) (y : Int32) (hy : ¬ (0 ≤ y ∧ y ≤ 2)) : Ex (d + 2) k_X11_taken [.ref 1, .int (nI 3), .int y] (SH, M, ML) (some (.int (-1)), (SH, M, ML)) := by
  refine Ex_in mi_X11_taken rfl rfl ⟨Nat.le_refl _, Nat.le_refl _⟩ ?_
  show RR _ cd_X11_taken false _ (0, [(0, .ref 1), (1, .int (nI 3)), (2, .int y)], [], (SH, M, ML))
  refine r_ld rfl rfl ?_
  refine r_ld rfl rfl ?_
  refine q_call (as := [_, _]) (rest := []) rfl rfl rfl rfl rfl rfl rfl rfl (ok_X11_holderAt_3 ..) ?_
  refine r_sto (L' := [(0, _), (1, _), (2, _), (3, _)]) rfl rfl ?_
  refine r_ld rfl rfl ?_
  refine r_nlj rfl rfl ?_
  refine r_ld rfl rfl ?_
  refine r_cj rfl rfl (fun h_11 => ?_) (fun h_11 => ?_)
  · refine r_cst (v := .int (-1)) rfl rfl ?_
    refine r_ret rfl rfl (trivial) ?_
    exact rfl
  · refine r_ld rfl rfl ?_
    refine r_cst (v := .int 2) rfl rfl ?_
    refine r_cj rfl rfl (fun h_16 => ?_) (fun h_16 => ?_)
    · exact (hy ⟨nlt0.mp h_11, h_16⟩).elim
    · refine r_cst (v := .int (-1)) rfl rfl ?_
      refine r_ret rfl rfl (trivial) ?_
      exact rfl

set_option maxHeartbeats 1000000 in
set_option maxRecDepth 10000 in
theorem lp_X3_takeRow_9_3 (d : Nat) (M : Nat → Nat → Int32) (ML : Nat → Nat → Int64) {v : Int32} {res : Rt} (hk : res = (none, (SH, zro M 68 20, ML))) :
    ∀ e, e ≤ 20 → ∀ (i : Int32) (M' : Nat → Nat → Int32), i = nI e → M' = zro M 68 e → RR (d + 1) cd_X3_takeRow false res (9, [(0, .ref 67), (1, .int v), (2, .int i)], [], (SH, M', ML)) := by
  refine up_ind fun e he ih => ?_
  intro i M' hv0 hv1
  subst hv0 hv1
  refine r_ld rfl rfl ?_
  refine r_ld rfl rfl ?_
  refine q_getr rfl rfl rfl rfl rfl ?_
  refine q_len rfl rfl rfl rfl ?_
  refine r_cj rfl rfl (fun h_15 => ?_) (fun h_15 => ?_)
  · have h9 : e = 20 := by have := nle (a := 20) (b := e) (by decide) (by omega) h_15; omega
    subst h9
    refine r_ret rfl rfl (trivial) ?_
    exact hk
  · have hlt : e < 20 := nnle (a := 20) (b := e) (by decide) (by omega) h_15
    refine r_ld rfl rfl ?_
    refine q_getr rfl rfl rfl rfl rfl ?_
    refine r_ld rfl rfl ?_
    refine r_cst (v := .int 0) rfl rfl ?_
    refine q_sin rfl rfl rfl (rfl) (by omega) rfl ?_
    refine q_inc (y := _ + 1) rfl rfl rfl ?_
    refine q_norm (L' := [(0, _), (1, _), (2, _)]) rfl ?_
    refine r_go rfl ?_
    exact ih hlt _ _ (nI_1 e) (zro_succ _ _ _)

set_option maxHeartbeats 1000000 in
set_option maxRecDepth 10000 in
theorem ok_X3_takeRow_3 (d : Nat) (M : Nat → Nat → Int32) (ML : Nat → Nat → Int64) (v : Int32) : Ex (d + 2) k_X3_takeRow [.ref 67, .int v] (SH, M, ML) (none, (SH, zro (up2 (up2 (up2 M 67 0 3) 67 1 0) 67 2 v) 68 20, ML)) := by
  refine Ex_in mi_X3_takeRow rfl rfl ⟨Nat.le_refl _, Nat.le_refl _⟩ ?_
  show RR _ cd_X3_takeRow false _ (0, [(0, .ref 67), (1, .int v)], [], (SH, M, ML))
  refine r_ld rfl rfl ?_
  refine r_cst (v := .int 3) rfl rfl ?_
  refine r_cst (v := .int 0) rfl rfl ?_
  refine r_ld rfl rfl ?_
  refine q_callv (as := [_, _, _, _]) (rest := []) rfl rfl rfl rfl rfl rfl rfl rfl (ok_X3_take_3 ..) ?_
  refine r_cst (v := .int 0) rfl rfl ?_
  refine r_sto (L' := [(0, _), (1, _), (2, _)]) rfl rfl ?_
  exact lp_X3_takeRow_9_3 d _ ML rfl 0 (by decide) _ _ rfl (zro_0 _ _).symm

set_option maxHeartbeats 1000000 in
set_option maxRecDepth 10000 in
theorem ok_X11_row_3 (d : Nat) (M : Nat → Nat → Int32) (ML : Nat → Nat → Int64) (v : Int32) (hv : 0 ≤ v ∧ v ≤ 20) : Ex (d + 3) k_X11_row [.ref 1, .int (nI 3), .int v] (SH, M, ML) (some (.int v), (SH, zro (up2 (up2 (up2 M 67 0 3) 67 1 0) 67 2 v) 68 20, ML)) := by
  refine Ex_in mi_X11_row rfl rfl ⟨Nat.le_refl _, Nat.le_refl _⟩ ?_
  show RR _ cd_X11_row false _ (0, [(0, .ref 1), (1, .int (nI 3)), (2, .int v)], [], (SH, M, ML))
  refine r_ld rfl rfl ?_
  refine r_ld rfl rfl ?_
  refine q_call (as := [_, _]) (rest := []) rfl rfl rfl rfl rfl rfl rfl rfl (ok_X11_holderAt_3 ..) ?_
  refine r_sto (L' := [(0, _), (1, _), (2, _), (3, _)]) rfl rfl ?_
  refine r_ld rfl rfl ?_
  refine r_nlj rfl rfl ?_
  refine r_ld rfl rfl ?_
  refine r_cst (v := .int 20) rfl rfl ?_
  refine q_cjT rfl rfl (hv.2) ?_
  refine r_ld rfl rfl ?_
  refine q_cjT rfl rfl (hv.1) ?_
  refine r_ld rfl rfl ?_
  refine r_ld rfl rfl ?_
  refine q_callv (as := [_, _]) (rest := []) rfl rfl rfl rfl rfl rfl rfl rfl (ok_X3_takeRow_3 ..) ?_
  refine r_ld rfl rfl ?_
  refine r_ret rfl rfl (trivial) ?_
  exact rfl

set_option maxHeartbeats 1000000 in
set_option maxRecDepth 10000 in
theorem ok_X11_row_b_3 (d : Nat) (M : Nat → Nat → Int32) (ML : Nat → Nat → Int64) (v : Int32) (hv : ¬ v ≤ 20) : Ex (d + 3) k_X11_row [.ref 1, .int (nI 3), .int v] (SH, M, ML) (some (.int (-1)), (SH, M, ML)) := by
  refine Ex_in mi_X11_row rfl rfl ⟨Nat.le_refl _, Nat.le_refl _⟩ ?_
  show RR _ cd_X11_row false _ (0, [(0, .ref 1), (1, .int (nI 3)), (2, .int v)], [], (SH, M, ML))
  refine r_ld rfl rfl ?_
  refine r_ld rfl rfl ?_
  refine q_call (as := [_, _]) (rest := []) rfl rfl rfl rfl rfl rfl rfl rfl (ok_X11_holderAt_3 ..) ?_
  refine r_sto (L' := [(0, _), (1, _), (2, _), (3, _)]) rfl rfl ?_
  refine r_ld rfl rfl ?_
  refine r_nlj rfl rfl ?_
  refine r_ld rfl rfl ?_
  refine r_cst (v := .int 20) rfl rfl ?_
  refine q_cjF rfl rfl (hv) ?_
  refine r_cst (v := .int (-1)) rfl rfl ?_
  refine r_ret rfl rfl (trivial) ?_
  exact rfl

set_option maxHeartbeats 1000000 in
set_option maxRecDepth 10000 in
theorem ok_X11_row_c_3 (d : Nat) (M : Nat → Nat → Int32) (ML : Nat → Nat → Int64) (v : Int32) (hv : ¬ 0 ≤ v) (hv2 : v ≤ 20) : Ex (d + 3) k_X11_row [.ref 1, .int (nI 3), .int v] (SH, M, ML) (some (.int (-14)), (SH, M, ML)) := by
  refine Ex_in mi_X11_row rfl rfl ⟨Nat.le_refl _, Nat.le_refl _⟩ ?_
  show RR _ cd_X11_row false _ (0, [(0, .ref 1), (1, .int (nI 3)), (2, .int v)], [], (SH, M, ML))
  refine r_ld rfl rfl ?_
  refine r_ld rfl rfl ?_
  refine q_call (as := [_, _]) (rest := []) rfl rfl rfl rfl rfl rfl rfl rfl (ok_X11_holderAt_3 ..) ?_
  refine r_sto (L' := [(0, _), (1, _), (2, _), (3, _)]) rfl rfl ?_
  refine r_ld rfl rfl ?_
  refine r_nlj rfl rfl ?_
  refine r_ld rfl rfl ?_
  refine r_cst (v := .int 20) rfl rfl ?_
  refine q_cjT rfl rfl (hv2) ?_
  refine r_ld rfl rfl ?_
  refine q_cjF rfl rfl (hv) ?_
  refine r_cst (v := .int (-14)) rfl rfl ?_
  refine r_ret rfl rfl (trivial) ?_
  exact rfl

set_option maxHeartbeats 1000000 in
set_option maxRecDepth 10000 in
theorem ok_X11_put_b_3 (d : Nat) (M : Nat → Nat → Int32) (ML : Nat → Nat → Int64) (y z : Int32) (h0 : ¬ nrV (M 67 0) = 0) : Ex (d + 2) k_X11_put [.ref 1, .int (nI 3), .int y, .int z] (SH, M, ML) (some (.int (nrV (M 67 0))), (SH, M, ML)) := by
  refine Ex_in mi_X11_put rfl rfl ⟨Nat.le_refl _, Nat.le_refl _⟩ ?_
  show RR _ cd_X11_put false _ (0, [(0, .ref 1), (1, .int (nI 3)), (2, .int y), (3, .int z)], [], (SH, M, ML))
  refine r_ld rfl rfl ?_
  refine r_ld rfl rfl ?_
  refine q_call (as := [_, _]) (rest := []) rfl rfl rfl rfl rfl rfl rfl rfl (ok_X11_holderAt_3 ..) ?_
  refine r_sto (L' := [(0, _), (1, _), (2, _), (3, _), (4, _)]) rfl rfl ?_
  refine r_ld rfl rfl ?_
  refine q_call (as := [_]) (rest := []) rfl rfl rfl rfl rfl rfl rfl rfl (ok_X11_noRow_3 ..) ?_
  refine r_sto (L' := [(0, _), (1, _), (2, _), (3, _), (4, _), (5, _)]) rfl rfl ?_
  refine r_ld rfl rfl ?_
  refine r_nlj rfl rfl ?_
  refine r_ld rfl rfl ?_
  refine q_cjF rfl rfl (h0) ?_
  refine r_ld rfl rfl ?_
  refine r_ret rfl rfl (trivial) ?_
  exact rfl

set_option maxHeartbeats 1000000 in
set_option maxRecDepth 10000 in
theorem ok_X11_put_c_3 (d : Nat) (M : Nat → Nat → Int32) (ML : Nat → Nat → Int64) (y z : Int32) (h0 : nrV (M 67 0) = 0) (hy : ¬ (0 ≤ y ∧ y < M 67 2)) : Ex (d + 2) k_X11_put [.ref 1, .int (nI 3), .int y, .int z] (SH, M, ML) (some (.int (-13)), (SH, M, ML)) := by
  refine Ex_in mi_X11_put rfl rfl ⟨Nat.le_refl _, Nat.le_refl _⟩ ?_
  show RR _ cd_X11_put false _ (0, [(0, .ref 1), (1, .int (nI 3)), (2, .int y), (3, .int z)], [], (SH, M, ML))
  refine r_ld rfl rfl ?_
  refine r_ld rfl rfl ?_
  refine q_call (as := [_, _]) (rest := []) rfl rfl rfl rfl rfl rfl rfl rfl (ok_X11_holderAt_3 ..) ?_
  refine r_sto (L' := [(0, _), (1, _), (2, _), (3, _), (4, _)]) rfl rfl ?_
  refine r_ld rfl rfl ?_
  refine q_call (as := [_]) (rest := []) rfl rfl rfl rfl rfl rfl rfl rfl (ok_X11_noRow_3 ..) ?_
  refine r_sto (L' := [(0, _), (1, _), (2, _), (3, _), (4, _), (5, _)]) rfl rfl ?_
  refine r_ld rfl rfl ?_
  refine r_nlj rfl rfl ?_
  refine r_ld rfl rfl ?_
  refine q_cjT rfl rfl (h0) ?_
  refine r_ld rfl rfl ?_
  refine r_cj rfl rfl (fun h_28 => ?_) (fun h_28 => ?_)
  · refine r_cst (v := .int (-13)) rfl rfl ?_
    refine r_ret rfl rfl (trivial) ?_
    exact rfl
  · refine r_ld rfl rfl ?_
    refine r_ld rfl rfl ?_
    refine q_geti rfl rfl rfl rfl rfl ?_
    refine r_cj rfl rfl (fun h_37 => ?_) (fun h_37 => ?_)
    · exact (hy ⟨nlt0.mp h_28, h_37⟩).elim
    · refine r_cst (v := .int (-13)) rfl rfl ?_
      refine r_ret rfl rfl (trivial) ?_
      exact rfl

set_option maxHeartbeats 1000000 in
set_option maxRecDepth 10000 in
theorem ok_X11_put_y_3 (d : Nat) (M : Nat → Nat → Int32) (ML : Nat → Nat → Int64) (z : Int32) {k n : Nat} (h0 : nrV (M 67 0) = 0) (hn : M 67 2 = nI n) (hk : k < n) (hn2 : n ≤ 20) : Ex (d + 2) k_X11_put [.ref 1, .int (nI 3), .int (nI k), .int z] (SH, M, ML) (some (.int 1), (SH, up2 M 68 k z, ML)) := by
  refine Ex_in mi_X11_put rfl rfl ⟨Nat.le_refl _, Nat.le_refl _⟩ ?_
  show RR _ cd_X11_put false _ (0, [(0, .ref 1), (1, .int (nI 3)), (2, .int (nI k)), (3, .int z)], [], (SH, M, ML))
  refine r_ld rfl rfl ?_
  refine r_ld rfl rfl ?_
  refine q_call (as := [_, _]) (rest := []) rfl rfl rfl rfl rfl rfl rfl rfl (ok_X11_holderAt_3 ..) ?_
  refine r_sto (L' := [(0, _), (1, _), (2, _), (3, _), (4, _)]) rfl rfl ?_
  refine r_ld rfl rfl ?_
  refine q_call (as := [_]) (rest := []) rfl rfl rfl rfl rfl rfl rfl rfl (ok_X11_noRow_3 ..) ?_
  refine r_sto (L' := [(0, _), (1, _), (2, _), (3, _), (4, _), (5, _)]) rfl rfl ?_
  refine r_ld rfl rfl ?_
  refine r_nlj rfl rfl ?_
  refine r_ld rfl rfl ?_
  refine q_cjT rfl rfl (h0) ?_
  refine r_ld rfl rfl ?_
  refine q_cjF rfl rfl (nlt0.mpr (nI_pos' (by omega))) ?_
  refine r_ld rfl rfl ?_
  refine r_ld rfl rfl ?_
  refine q_geti rfl rfl rfl rfl rfl ?_
  refine q_cjT rfl rfl (by rw [hn]; exact nI_lt hk (by omega)) ?_
  refine r_ld rfl rfl ?_
  refine q_getr rfl rfl rfl rfl rfl ?_
  refine r_ld rfl rfl ?_
  refine r_ld rfl rfl ?_
  refine q_callv (as := [_, _, _]) (rest := []) rfl rfl rfl rfl rfl rfl rfl rfl (ok_lay_n _ _ _ _ _ rfl rfl rfl rfl (by omega)) ?_
  refine r_cst (v := .int 1) rfl rfl ?_
  refine r_ret rfl rfl (trivial) ?_
  exact rfl

set_option maxHeartbeats 1000000 in
set_option maxRecDepth 10000 in
theorem ok_X11_holderAt_4 (d : Nat) (M : Nat → Nat → Int32) (ML : Nat → Nat → Int64) : Ex (d + 1) k_X11_holderAt [.ref 1, .int (nI 4)] (SH, M, ML) (some (.ref 69), (SH, M, ML)) := by
  refine Ex_in mi_X11_holderAt rfl rfl ⟨Nat.le_refl _, Nat.le_refl _⟩ ?_
  show RR _ cd_X11_holderAt false _ (0, [(0, .ref 1), (1, .int (nI 4))], [], (SH, M, ML))
  refine r_ld rfl rfl ?_
  refine q_cjF rfl rfl (by decide) ?_
  refine r_ld rfl rfl ?_
  refine r_ld rfl rfl ?_
  refine q_getr rfl rfl rfl rfl rfl ?_
  refine q_len rfl rfl rfl rfl ?_
  refine q_cjF rfl rfl (by decide) ?_
  refine r_ld rfl rfl ?_
  refine q_getr rfl rfl rfl rfl rfl ?_
  refine r_ld rfl rfl ?_
  refine r_alq (i := 48) (v := .ref 69) rfl rfl rfl (vp_in_nI (by decide) (by decide)) ?_
  refine r_go rfl ?_
  refine r_ret rfl rfl (trivial) ?_
  exact rfl

set_option maxHeartbeats 1000000 in
set_option maxRecDepth 10000 in
theorem ok_X11_noRow_4 (d : Nat) (M : Nat → Nat → Int32) (ML : Nat → Nat → Int64) : Ex (d + 1) k_X11_noRow [.ref 69] (SH, M, ML) (some (.int (nrV (M 69 0))), (SH, M, ML)) := by
  refine Ex_in mi_X11_noRow rfl rfl ⟨Nat.le_refl _, Nat.le_refl _⟩ ?_
  show RR _ cd_X11_noRow false _ (0, [(0, .ref 69)], [], (SH, M, ML))
  refine r_ld rfl rfl ?_
  refine r_nlj rfl rfl ?_
  refine r_ld rfl rfl ?_
  refine q_geti rfl rfl rfl rfl rfl ?_
  refine r_cj rfl rfl (fun h_10 => ?_) (fun h_10 => ?_)
  · refine r_ld rfl rfl ?_
    refine q_geti rfl rfl rfl rfl rfl ?_
    refine r_cst (v := .int 3) rfl rfl ?_
    refine r_cj rfl rfl (fun h_21 => ?_) (fun h_21 => ?_)
    · refine r_cst (v := .int (-12)) rfl rfl ?_
      refine r_ret rfl rfl (trivial) ?_
      first
        | (simp_all [nrV]; done)
        | (have h9 := Classical.not_not.mp h_10; simp_all [nrV]; done)
    · refine r_cst (v := .int 0) rfl rfl ?_
      refine r_go rfl ?_
      refine r_ret rfl rfl (trivial) ?_
      first
        | (simp_all [nrV]; done)
        | (have h9 := Classical.not_not.mp h_10; simp_all [nrV]; done)
  · refine r_cst (v := .int (-11)) rfl rfl ?_
    refine r_ret rfl rfl (trivial) ?_
    first
      | (simp_all [nrV]; done)
      | (have h9 := Classical.not_not.mp h_10; simp_all [nrV]; done)

set_option maxHeartbeats 1000000 in
set_option maxRecDepth 10000 in
theorem ok_X3_take_4 (d : Nat) (M : Nat → Nat → Int32) (ML : Nat → Nat → Int64) (x y z : Int32) : Ex (d + 1) k_X3_take [.ref 69, .int x, .int y, .int z] (SH, M, ML) (none, (SH, up2 (up2 (up2 M 69 0 x) 69 1 y) 69 2 z, ML)) := by
  refine Ex_in mi_X3_take rfl rfl ⟨Nat.le_refl _, Nat.le_refl _⟩ ?_
  show RR _ cd_X3_take false _ (0, [(0, .ref 69), (1, .int x), (2, .int y), (3, .int z)], [], (SH, M, ML))
  refine r_ld rfl rfl ?_
  refine r_ld rfl rfl ?_
  refine q_put rfl rfl rfl rfl rfl (Or.inl rfl) ?_
  refine r_ld rfl rfl ?_
  refine r_ld rfl rfl ?_
  refine q_put rfl rfl rfl rfl rfl (Or.inl rfl) ?_
  refine r_ld rfl rfl ?_
  refine r_ld rfl rfl ?_
  refine q_put rfl rfl rfl rfl rfl (Or.inl rfl) ?_
  refine r_ret rfl rfl (trivial) ?_
  exact rfl

set_option maxHeartbeats 1000000 in
set_option maxRecDepth 10000 in
theorem ok_X11_drop_4 (d : Nat) (M : Nat → Nat → Int32) (ML : Nat → Nat → Int64) : Ex (d + 2) k_X11_drop [.ref 1, .int (nI 4)] (SH, M, ML) (some (.int (M 69 0)), (SH, up2 (up2 (up2 M 69 0 0) 69 1 0) 69 2 0, ML)) := by
  refine Ex_in mi_X11_drop rfl rfl ⟨Nat.le_refl _, Nat.le_refl _⟩ ?_
  show RR _ cd_X11_drop false _ (0, [(0, .ref 1), (1, .int (nI 4))], [], (SH, M, ML))
  refine r_ld rfl rfl ?_
  refine r_ld rfl rfl ?_
  refine q_call (as := [_, _]) (rest := []) rfl rfl rfl rfl rfl rfl rfl rfl (ok_X11_holderAt_4 ..) ?_
  refine r_sto (L' := [(0, _), (1, _), (2, _)]) rfl rfl ?_
  refine r_ld rfl rfl ?_
  refine r_nlj rfl rfl ?_
  refine r_ld rfl rfl ?_
  refine q_geti rfl rfl rfl rfl rfl ?_
  refine r_sto (L' := [(0, _), (1, _), (2, _), (3, _)]) rfl rfl ?_
  refine r_ld rfl rfl ?_
  refine r_cst (v := .int 0) rfl rfl ?_
  refine r_cst (v := .int 0) rfl rfl ?_
  refine r_cst (v := .int 0) rfl rfl ?_
  refine q_callv (as := [_, _, _, _]) (rest := []) rfl rfl rfl rfl rfl rfl rfl rfl (ok_X3_take_4 ..) ?_
  refine r_ld rfl rfl ?_
  refine r_ret rfl rfl (trivial) ?_
  exact rfl

set_option maxHeartbeats 1000000 in
set_option maxRecDepth 10000 in
theorem ok_X11_taken_4 (d : Nat) (M : Nat → Nat → Int32) (ML : Nat → Nat → Int64) (y : Int32) (hy : 0 ≤ y ∧ y ≤ 2) : Ex (d + 2) k_X11_taken [.ref 1, .int (nI 4), .int y] (SH, M, ML) (some (.int (tkV (M 69 0) y (M 69 1) (M 69 2))), (SH, M, ML)) := by
  refine Ex_in mi_X11_taken rfl rfl ⟨Nat.le_refl _, Nat.le_refl _⟩ ?_
  show RR _ cd_X11_taken false _ (0, [(0, .ref 1), (1, .int (nI 4)), (2, .int y)], [], (SH, M, ML))
  refine r_ld rfl rfl ?_
  refine r_ld rfl rfl ?_
  refine q_call (as := [_, _]) (rest := []) rfl rfl rfl rfl rfl rfl rfl rfl (ok_X11_holderAt_4 ..) ?_
  refine r_sto (L' := [(0, _), (1, _), (2, _), (3, _)]) rfl rfl ?_
  refine r_ld rfl rfl ?_
  refine r_nlj rfl rfl ?_
  refine r_ld rfl rfl ?_
  refine q_cjF rfl rfl (nlt0.mpr hy.1) ?_
  refine r_ld rfl rfl ?_
  refine r_cst (v := .int 2) rfl rfl ?_
  refine r_cj rfl rfl (fun h_16 => ?_) (fun h_16 => ?_)
  · refine r_ld rfl rfl ?_
    refine q_geti rfl rfl rfl rfl rfl ?_
    refine r_cj rfl rfl (fun h_25 => ?_) (fun h_25 => ?_)
    · refine r_ld rfl rfl ?_
      refine q_geti rfl rfl rfl rfl rfl ?_
      refine r_cst (v := .int 3) rfl rfl ?_
      refine r_cj rfl rfl (fun h_36 => ?_) (fun h_36 => ?_)
      · refine r_cst (v := .int (-12)) rfl rfl ?_
        refine r_ret rfl rfl (trivial) ?_
        first
          | (simp_all [tkV]; done)
          | (have h9 := Classical.not_not.mp h_25; simp_all [tkV]; done)
      · refine r_ld rfl rfl ?_
        refine r_cj rfl rfl (fun h_40 => ?_) (fun h_40 => ?_)
        · refine r_ld rfl rfl ?_
          refine r_cj rfl rfl (fun h_55 => ?_) (fun h_55 => ?_)
          · refine r_ld rfl rfl ?_
            refine q_geti rfl rfl rfl rfl rfl ?_
            refine r_ret rfl rfl (trivial) ?_
            first
              | (simp_all [tkV]; done)
              | (have h9 := Classical.not_not.mp h_25; simp_all [tkV]; done)
          · refine r_ld rfl rfl ?_
            refine q_geti rfl rfl rfl rfl rfl ?_
            refine r_go rfl ?_
            refine r_ret rfl rfl (trivial) ?_
            first
              | (simp_all [tkV]; done)
              | (have h9 := Classical.not_not.mp h_25; simp_all [tkV]; done)
        · refine r_ld rfl rfl ?_
          refine r_ld rfl rfl ?_
          refine q_geti rfl rfl rfl rfl rfl ?_
          refine r_cj rfl rfl (fun h_48 => ?_) (fun h_48 => ?_)
          · refine r_ld rfl rfl ?_
            refine r_cj rfl rfl (fun h_55 => ?_) (fun h_55 => ?_)
            · refine r_ld rfl rfl ?_
              refine q_geti rfl rfl rfl rfl rfl ?_
              refine r_ret rfl rfl (trivial) ?_
              first
                | (simp_all [tkV]; done)
                | (have h9 := Classical.not_not.mp h_25; simp_all [tkV]; done)
            · refine r_ld rfl rfl ?_
              refine q_geti rfl rfl rfl rfl rfl ?_
              refine r_go rfl ?_
              refine r_ret rfl rfl (trivial) ?_
              first
                | (simp_all [tkV]; done)
                | (have h9 := Classical.not_not.mp h_25; simp_all [tkV]; done)
          · refine r_cst (v := .int (-12)) rfl rfl ?_
            refine r_ret rfl rfl (trivial) ?_
            first
              | (simp_all [tkV]; done)
              | (have h9 := Classical.not_not.mp h_25; simp_all [tkV]; done)
    · refine r_cst (v := .int (-11)) rfl rfl ?_
      refine r_ret rfl rfl (trivial) ?_
      first
        | (simp_all [tkV]; done)
        | (have h9 := Classical.not_not.mp h_25; simp_all [tkV]; done)
  · refine r_cst (v := .int (-1)) rfl rfl ?_
    refine r_ret rfl rfl (trivial) ?_
    first
      | (simp_all [tkV]; done)
      | (have h9 := Classical.not_not.mp h_25; simp_all [tkV]; done)

set_option maxHeartbeats 1000000 in
set_option maxRecDepth 10000 in
theorem ok_X11_taken_b_4 (d : Nat) (M : Nat → Nat → Int32) (ML : Nat → Nat → Int64) (y : Int32) (hy : ¬ (0 ≤ y ∧ y ≤ 2)) : Ex (d + 2) k_X11_taken [.ref 1, .int (nI 4), .int y] (SH, M, ML) (some (.int (-1)), (SH, M, ML)) := by
  refine Ex_in mi_X11_taken rfl rfl ⟨Nat.le_refl _, Nat.le_refl _⟩ ?_
  show RR _ cd_X11_taken false _ (0, [(0, .ref 1), (1, .int (nI 4)), (2, .int y)], [], (SH, M, ML))
  refine r_ld rfl rfl ?_
  refine r_ld rfl rfl ?_
  refine q_call (as := [_, _]) (rest := []) rfl rfl rfl rfl rfl rfl rfl rfl (ok_X11_holderAt_4 ..) ?_
  refine r_sto (L' := [(0, _), (1, _), (2, _), (3, _)]) rfl rfl ?_
  refine r_ld rfl rfl ?_
  refine r_nlj rfl rfl ?_
  refine r_ld rfl rfl ?_
  refine r_cj rfl rfl (fun h_11 => ?_) (fun h_11 => ?_)
  · refine r_cst (v := .int (-1)) rfl rfl ?_
    refine r_ret rfl rfl (trivial) ?_
    exact rfl
  · refine r_ld rfl rfl ?_
    refine r_cst (v := .int 2) rfl rfl ?_
    refine r_cj rfl rfl (fun h_16 => ?_) (fun h_16 => ?_)
    · exact (hy ⟨nlt0.mp h_11, h_16⟩).elim
    · refine r_cst (v := .int (-1)) rfl rfl ?_
      refine r_ret rfl rfl (trivial) ?_
      exact rfl

set_option maxHeartbeats 1000000 in
set_option maxRecDepth 10000 in
theorem lp_X3_takeRow_9_4 (d : Nat) (M : Nat → Nat → Int32) (ML : Nat → Nat → Int64) {v : Int32} {res : Rt} (hk : res = (none, (SH, zro M 70 20, ML))) :
    ∀ e, e ≤ 20 → ∀ (i : Int32) (M' : Nat → Nat → Int32), i = nI e → M' = zro M 70 e → RR (d + 1) cd_X3_takeRow false res (9, [(0, .ref 69), (1, .int v), (2, .int i)], [], (SH, M', ML)) := by
  refine up_ind fun e he ih => ?_
  intro i M' hv0 hv1
  subst hv0 hv1
  refine r_ld rfl rfl ?_
  refine r_ld rfl rfl ?_
  refine q_getr rfl rfl rfl rfl rfl ?_
  refine q_len rfl rfl rfl rfl ?_
  refine r_cj rfl rfl (fun h_15 => ?_) (fun h_15 => ?_)
  · have h9 : e = 20 := by have := nle (a := 20) (b := e) (by decide) (by omega) h_15; omega
    subst h9
    refine r_ret rfl rfl (trivial) ?_
    exact hk
  · have hlt : e < 20 := nnle (a := 20) (b := e) (by decide) (by omega) h_15
    refine r_ld rfl rfl ?_
    refine q_getr rfl rfl rfl rfl rfl ?_
    refine r_ld rfl rfl ?_
    refine r_cst (v := .int 0) rfl rfl ?_
    refine q_sin rfl rfl rfl (rfl) (by omega) rfl ?_
    refine q_inc (y := _ + 1) rfl rfl rfl ?_
    refine q_norm (L' := [(0, _), (1, _), (2, _)]) rfl ?_
    refine r_go rfl ?_
    exact ih hlt _ _ (nI_1 e) (zro_succ _ _ _)

set_option maxHeartbeats 1000000 in
set_option maxRecDepth 10000 in
theorem ok_X3_takeRow_4 (d : Nat) (M : Nat → Nat → Int32) (ML : Nat → Nat → Int64) (v : Int32) : Ex (d + 2) k_X3_takeRow [.ref 69, .int v] (SH, M, ML) (none, (SH, zro (up2 (up2 (up2 M 69 0 3) 69 1 0) 69 2 v) 70 20, ML)) := by
  refine Ex_in mi_X3_takeRow rfl rfl ⟨Nat.le_refl _, Nat.le_refl _⟩ ?_
  show RR _ cd_X3_takeRow false _ (0, [(0, .ref 69), (1, .int v)], [], (SH, M, ML))
  refine r_ld rfl rfl ?_
  refine r_cst (v := .int 3) rfl rfl ?_
  refine r_cst (v := .int 0) rfl rfl ?_
  refine r_ld rfl rfl ?_
  refine q_callv (as := [_, _, _, _]) (rest := []) rfl rfl rfl rfl rfl rfl rfl rfl (ok_X3_take_4 ..) ?_
  refine r_cst (v := .int 0) rfl rfl ?_
  refine r_sto (L' := [(0, _), (1, _), (2, _)]) rfl rfl ?_
  exact lp_X3_takeRow_9_4 d _ ML rfl 0 (by decide) _ _ rfl (zro_0 _ _).symm

set_option maxHeartbeats 1000000 in
set_option maxRecDepth 10000 in
theorem ok_X11_row_4 (d : Nat) (M : Nat → Nat → Int32) (ML : Nat → Nat → Int64) (v : Int32) (hv : 0 ≤ v ∧ v ≤ 20) : Ex (d + 3) k_X11_row [.ref 1, .int (nI 4), .int v] (SH, M, ML) (some (.int v), (SH, zro (up2 (up2 (up2 M 69 0 3) 69 1 0) 69 2 v) 70 20, ML)) := by
  refine Ex_in mi_X11_row rfl rfl ⟨Nat.le_refl _, Nat.le_refl _⟩ ?_
  show RR _ cd_X11_row false _ (0, [(0, .ref 1), (1, .int (nI 4)), (2, .int v)], [], (SH, M, ML))
  refine r_ld rfl rfl ?_
  refine r_ld rfl rfl ?_
  refine q_call (as := [_, _]) (rest := []) rfl rfl rfl rfl rfl rfl rfl rfl (ok_X11_holderAt_4 ..) ?_
  refine r_sto (L' := [(0, _), (1, _), (2, _), (3, _)]) rfl rfl ?_
  refine r_ld rfl rfl ?_
  refine r_nlj rfl rfl ?_
  refine r_ld rfl rfl ?_
  refine r_cst (v := .int 20) rfl rfl ?_
  refine q_cjT rfl rfl (hv.2) ?_
  refine r_ld rfl rfl ?_
  refine q_cjT rfl rfl (hv.1) ?_
  refine r_ld rfl rfl ?_
  refine r_ld rfl rfl ?_
  refine q_callv (as := [_, _]) (rest := []) rfl rfl rfl rfl rfl rfl rfl rfl (ok_X3_takeRow_4 ..) ?_
  refine r_ld rfl rfl ?_
  refine r_ret rfl rfl (trivial) ?_
  exact rfl

set_option maxHeartbeats 1000000 in
set_option maxRecDepth 10000 in
theorem ok_X11_row_b_4 (d : Nat) (M : Nat → Nat → Int32) (ML : Nat → Nat → Int64) (v : Int32) (hv : ¬ v ≤ 20) : Ex (d + 3) k_X11_row [.ref 1, .int (nI 4), .int v] (SH, M, ML) (some (.int (-1)), (SH, M, ML)) := by
  refine Ex_in mi_X11_row rfl rfl ⟨Nat.le_refl _, Nat.le_refl _⟩ ?_
  show RR _ cd_X11_row false _ (0, [(0, .ref 1), (1, .int (nI 4)), (2, .int v)], [], (SH, M, ML))
  refine r_ld rfl rfl ?_
  refine r_ld rfl rfl ?_
  refine q_call (as := [_, _]) (rest := []) rfl rfl rfl rfl rfl rfl rfl rfl (ok_X11_holderAt_4 ..) ?_
  refine r_sto (L' := [(0, _), (1, _), (2, _), (3, _)]) rfl rfl ?_
  refine r_ld rfl rfl ?_
  refine r_nlj rfl rfl ?_
  refine r_ld rfl rfl ?_
  refine r_cst (v := .int 20) rfl rfl ?_
  refine q_cjF rfl rfl (hv) ?_
  refine r_cst (v := .int (-1)) rfl rfl ?_
  refine r_ret rfl rfl (trivial) ?_
  exact rfl

set_option maxHeartbeats 1000000 in
set_option maxRecDepth 10000 in
theorem ok_X11_row_c_4 (d : Nat) (M : Nat → Nat → Int32) (ML : Nat → Nat → Int64) (v : Int32) (hv : ¬ 0 ≤ v) (hv2 : v ≤ 20) : Ex (d + 3) k_X11_row [.ref 1, .int (nI 4), .int v] (SH, M, ML) (some (.int (-14)), (SH, M, ML)) := by
  refine Ex_in mi_X11_row rfl rfl ⟨Nat.le_refl _, Nat.le_refl _⟩ ?_
  show RR _ cd_X11_row false _ (0, [(0, .ref 1), (1, .int (nI 4)), (2, .int v)], [], (SH, M, ML))
  refine r_ld rfl rfl ?_
  refine r_ld rfl rfl ?_
  refine q_call (as := [_, _]) (rest := []) rfl rfl rfl rfl rfl rfl rfl rfl (ok_X11_holderAt_4 ..) ?_
  refine r_sto (L' := [(0, _), (1, _), (2, _), (3, _)]) rfl rfl ?_
  refine r_ld rfl rfl ?_
  refine r_nlj rfl rfl ?_
  refine r_ld rfl rfl ?_
  refine r_cst (v := .int 20) rfl rfl ?_
  refine q_cjT rfl rfl (hv2) ?_
  refine r_ld rfl rfl ?_
  refine q_cjF rfl rfl (hv) ?_
  refine r_cst (v := .int (-14)) rfl rfl ?_
  refine r_ret rfl rfl (trivial) ?_
  exact rfl

set_option maxHeartbeats 1000000 in
set_option maxRecDepth 10000 in
theorem ok_X11_put_b_4 (d : Nat) (M : Nat → Nat → Int32) (ML : Nat → Nat → Int64) (y z : Int32) (h0 : ¬ nrV (M 69 0) = 0) : Ex (d + 2) k_X11_put [.ref 1, .int (nI 4), .int y, .int z] (SH, M, ML) (some (.int (nrV (M 69 0))), (SH, M, ML)) := by
  refine Ex_in mi_X11_put rfl rfl ⟨Nat.le_refl _, Nat.le_refl _⟩ ?_
  show RR _ cd_X11_put false _ (0, [(0, .ref 1), (1, .int (nI 4)), (2, .int y), (3, .int z)], [], (SH, M, ML))
  refine r_ld rfl rfl ?_
  refine r_ld rfl rfl ?_
  refine q_call (as := [_, _]) (rest := []) rfl rfl rfl rfl rfl rfl rfl rfl (ok_X11_holderAt_4 ..) ?_
  refine r_sto (L' := [(0, _), (1, _), (2, _), (3, _), (4, _)]) rfl rfl ?_
  refine r_ld rfl rfl ?_
  refine q_call (as := [_]) (rest := []) rfl rfl rfl rfl rfl rfl rfl rfl (ok_X11_noRow_4 ..) ?_
  refine r_sto (L' := [(0, _), (1, _), (2, _), (3, _), (4, _), (5, _)]) rfl rfl ?_
  refine r_ld rfl rfl ?_
  refine r_nlj rfl rfl ?_
  refine r_ld rfl rfl ?_
  refine q_cjF rfl rfl (h0) ?_
  refine r_ld rfl rfl ?_
  refine r_ret rfl rfl (trivial) ?_
  exact rfl

set_option maxHeartbeats 1000000 in
set_option maxRecDepth 10000 in
theorem ok_X11_put_c_4 (d : Nat) (M : Nat → Nat → Int32) (ML : Nat → Nat → Int64) (y z : Int32) (h0 : nrV (M 69 0) = 0) (hy : ¬ (0 ≤ y ∧ y < M 69 2)) : Ex (d + 2) k_X11_put [.ref 1, .int (nI 4), .int y, .int z] (SH, M, ML) (some (.int (-13)), (SH, M, ML)) := by
  refine Ex_in mi_X11_put rfl rfl ⟨Nat.le_refl _, Nat.le_refl _⟩ ?_
  show RR _ cd_X11_put false _ (0, [(0, .ref 1), (1, .int (nI 4)), (2, .int y), (3, .int z)], [], (SH, M, ML))
  refine r_ld rfl rfl ?_
  refine r_ld rfl rfl ?_
  refine q_call (as := [_, _]) (rest := []) rfl rfl rfl rfl rfl rfl rfl rfl (ok_X11_holderAt_4 ..) ?_
  refine r_sto (L' := [(0, _), (1, _), (2, _), (3, _), (4, _)]) rfl rfl ?_
  refine r_ld rfl rfl ?_
  refine q_call (as := [_]) (rest := []) rfl rfl rfl rfl rfl rfl rfl rfl (ok_X11_noRow_4 ..) ?_
  refine r_sto (L' := [(0, _), (1, _), (2, _), (3, _), (4, _), (5, _)]) rfl rfl ?_
  refine r_ld rfl rfl ?_
  refine r_nlj rfl rfl ?_
  refine r_ld rfl rfl ?_
  refine q_cjT rfl rfl (h0) ?_
  refine r_ld rfl rfl ?_
  refine r_cj rfl rfl (fun h_28 => ?_) (fun h_28 => ?_)
  · refine r_cst (v := .int (-13)) rfl rfl ?_
    refine r_ret rfl rfl (trivial) ?_
    exact rfl
  · refine r_ld rfl rfl ?_
    refine r_ld rfl rfl ?_
    refine q_geti rfl rfl rfl rfl rfl ?_
    refine r_cj rfl rfl (fun h_37 => ?_) (fun h_37 => ?_)
    · exact (hy ⟨nlt0.mp h_28, h_37⟩).elim
    · refine r_cst (v := .int (-13)) rfl rfl ?_
      refine r_ret rfl rfl (trivial) ?_
      exact rfl

set_option maxHeartbeats 1000000 in
set_option maxRecDepth 10000 in
theorem ok_X11_put_y_4 (d : Nat) (M : Nat → Nat → Int32) (ML : Nat → Nat → Int64) (z : Int32) {k n : Nat} (h0 : nrV (M 69 0) = 0) (hn : M 69 2 = nI n) (hk : k < n) (hn2 : n ≤ 20) : Ex (d + 2) k_X11_put [.ref 1, .int (nI 4), .int (nI k), .int z] (SH, M, ML) (some (.int 1), (SH, up2 M 70 k z, ML)) := by
  refine Ex_in mi_X11_put rfl rfl ⟨Nat.le_refl _, Nat.le_refl _⟩ ?_
  show RR _ cd_X11_put false _ (0, [(0, .ref 1), (1, .int (nI 4)), (2, .int (nI k)), (3, .int z)], [], (SH, M, ML))
  refine r_ld rfl rfl ?_
  refine r_ld rfl rfl ?_
  refine q_call (as := [_, _]) (rest := []) rfl rfl rfl rfl rfl rfl rfl rfl (ok_X11_holderAt_4 ..) ?_
  refine r_sto (L' := [(0, _), (1, _), (2, _), (3, _), (4, _)]) rfl rfl ?_
  refine r_ld rfl rfl ?_
  refine q_call (as := [_]) (rest := []) rfl rfl rfl rfl rfl rfl rfl rfl (ok_X11_noRow_4 ..) ?_
  refine r_sto (L' := [(0, _), (1, _), (2, _), (3, _), (4, _), (5, _)]) rfl rfl ?_
  refine r_ld rfl rfl ?_
  refine r_nlj rfl rfl ?_
  refine r_ld rfl rfl ?_
  refine q_cjT rfl rfl (h0) ?_
  refine r_ld rfl rfl ?_
  refine q_cjF rfl rfl (nlt0.mpr (nI_pos' (by omega))) ?_
  refine r_ld rfl rfl ?_
  refine r_ld rfl rfl ?_
  refine q_geti rfl rfl rfl rfl rfl ?_
  refine q_cjT rfl rfl (by rw [hn]; exact nI_lt hk (by omega)) ?_
  refine r_ld rfl rfl ?_
  refine q_getr rfl rfl rfl rfl rfl ?_
  refine r_ld rfl rfl ?_
  refine r_ld rfl rfl ?_
  refine q_callv (as := [_, _, _]) (rest := []) rfl rfl rfl rfl rfl rfl rfl rfl (ok_lay_n _ _ _ _ _ rfl rfl rfl rfl (by omega)) ?_
  refine r_cst (v := .int 1) rfl rfl ?_
  refine r_ret rfl rfl (trivial) ?_
  exact rfl

set_option maxHeartbeats 1000000 in
set_option maxRecDepth 10000 in
theorem ok_X11_holderAt_5 (d : Nat) (M : Nat → Nat → Int32) (ML : Nat → Nat → Int64) : Ex (d + 1) k_X11_holderAt [.ref 1, .int (nI 5)] (SH, M, ML) (some (.ref 71), (SH, M, ML)) := by
  refine Ex_in mi_X11_holderAt rfl rfl ⟨Nat.le_refl _, Nat.le_refl _⟩ ?_
  show RR _ cd_X11_holderAt false _ (0, [(0, .ref 1), (1, .int (nI 5))], [], (SH, M, ML))
  refine r_ld rfl rfl ?_
  refine q_cjF rfl rfl (by decide) ?_
  refine r_ld rfl rfl ?_
  refine r_ld rfl rfl ?_
  refine q_getr rfl rfl rfl rfl rfl ?_
  refine q_len rfl rfl rfl rfl ?_
  refine q_cjF rfl rfl (by decide) ?_
  refine r_ld rfl rfl ?_
  refine q_getr rfl rfl rfl rfl rfl ?_
  refine r_ld rfl rfl ?_
  refine r_alq (i := 48) (v := .ref 71) rfl rfl rfl (vp_in_nI (by decide) (by decide)) ?_
  refine r_go rfl ?_
  refine r_ret rfl rfl (trivial) ?_
  exact rfl

set_option maxHeartbeats 1000000 in
set_option maxRecDepth 10000 in
theorem ok_X11_noRow_5 (d : Nat) (M : Nat → Nat → Int32) (ML : Nat → Nat → Int64) : Ex (d + 1) k_X11_noRow [.ref 71] (SH, M, ML) (some (.int (nrV (M 71 0))), (SH, M, ML)) := by
  refine Ex_in mi_X11_noRow rfl rfl ⟨Nat.le_refl _, Nat.le_refl _⟩ ?_
  show RR _ cd_X11_noRow false _ (0, [(0, .ref 71)], [], (SH, M, ML))
  refine r_ld rfl rfl ?_
  refine r_nlj rfl rfl ?_
  refine r_ld rfl rfl ?_
  refine q_geti rfl rfl rfl rfl rfl ?_
  refine r_cj rfl rfl (fun h_10 => ?_) (fun h_10 => ?_)
  · refine r_ld rfl rfl ?_
    refine q_geti rfl rfl rfl rfl rfl ?_
    refine r_cst (v := .int 3) rfl rfl ?_
    refine r_cj rfl rfl (fun h_21 => ?_) (fun h_21 => ?_)
    · refine r_cst (v := .int (-12)) rfl rfl ?_
      refine r_ret rfl rfl (trivial) ?_
      first
        | (simp_all [nrV]; done)
        | (have h9 := Classical.not_not.mp h_10; simp_all [nrV]; done)
    · refine r_cst (v := .int 0) rfl rfl ?_
      refine r_go rfl ?_
      refine r_ret rfl rfl (trivial) ?_
      first
        | (simp_all [nrV]; done)
        | (have h9 := Classical.not_not.mp h_10; simp_all [nrV]; done)
  · refine r_cst (v := .int (-11)) rfl rfl ?_
    refine r_ret rfl rfl (trivial) ?_
    first
      | (simp_all [nrV]; done)
      | (have h9 := Classical.not_not.mp h_10; simp_all [nrV]; done)

set_option maxHeartbeats 1000000 in
set_option maxRecDepth 10000 in
theorem ok_X3_take_5 (d : Nat) (M : Nat → Nat → Int32) (ML : Nat → Nat → Int64) (x y z : Int32) : Ex (d + 1) k_X3_take [.ref 71, .int x, .int y, .int z] (SH, M, ML) (none, (SH, up2 (up2 (up2 M 71 0 x) 71 1 y) 71 2 z, ML)) := by
  refine Ex_in mi_X3_take rfl rfl ⟨Nat.le_refl _, Nat.le_refl _⟩ ?_
  show RR _ cd_X3_take false _ (0, [(0, .ref 71), (1, .int x), (2, .int y), (3, .int z)], [], (SH, M, ML))
  refine r_ld rfl rfl ?_
  refine r_ld rfl rfl ?_
  refine q_put rfl rfl rfl rfl rfl (Or.inl rfl) ?_
  refine r_ld rfl rfl ?_
  refine r_ld rfl rfl ?_
  refine q_put rfl rfl rfl rfl rfl (Or.inl rfl) ?_
  refine r_ld rfl rfl ?_
  refine r_ld rfl rfl ?_
  refine q_put rfl rfl rfl rfl rfl (Or.inl rfl) ?_
  refine r_ret rfl rfl (trivial) ?_
  exact rfl

set_option maxHeartbeats 1000000 in
set_option maxRecDepth 10000 in
theorem ok_X11_drop_5 (d : Nat) (M : Nat → Nat → Int32) (ML : Nat → Nat → Int64) : Ex (d + 2) k_X11_drop [.ref 1, .int (nI 5)] (SH, M, ML) (some (.int (M 71 0)), (SH, up2 (up2 (up2 M 71 0 0) 71 1 0) 71 2 0, ML)) := by
  refine Ex_in mi_X11_drop rfl rfl ⟨Nat.le_refl _, Nat.le_refl _⟩ ?_
  show RR _ cd_X11_drop false _ (0, [(0, .ref 1), (1, .int (nI 5))], [], (SH, M, ML))
  refine r_ld rfl rfl ?_
  refine r_ld rfl rfl ?_
  refine q_call (as := [_, _]) (rest := []) rfl rfl rfl rfl rfl rfl rfl rfl (ok_X11_holderAt_5 ..) ?_
  refine r_sto (L' := [(0, _), (1, _), (2, _)]) rfl rfl ?_
  refine r_ld rfl rfl ?_
  refine r_nlj rfl rfl ?_
  refine r_ld rfl rfl ?_
  refine q_geti rfl rfl rfl rfl rfl ?_
  refine r_sto (L' := [(0, _), (1, _), (2, _), (3, _)]) rfl rfl ?_
  refine r_ld rfl rfl ?_
  refine r_cst (v := .int 0) rfl rfl ?_
  refine r_cst (v := .int 0) rfl rfl ?_
  refine r_cst (v := .int 0) rfl rfl ?_
  refine q_callv (as := [_, _, _, _]) (rest := []) rfl rfl rfl rfl rfl rfl rfl rfl (ok_X3_take_5 ..) ?_
  refine r_ld rfl rfl ?_
  refine r_ret rfl rfl (trivial) ?_
  exact rfl

set_option maxHeartbeats 1000000 in
set_option maxRecDepth 10000 in
theorem ok_X11_taken_5 (d : Nat) (M : Nat → Nat → Int32) (ML : Nat → Nat → Int64) (y : Int32) (hy : 0 ≤ y ∧ y ≤ 2) : Ex (d + 2) k_X11_taken [.ref 1, .int (nI 5), .int y] (SH, M, ML) (some (.int (tkV (M 71 0) y (M 71 1) (M 71 2))), (SH, M, ML)) := by
  refine Ex_in mi_X11_taken rfl rfl ⟨Nat.le_refl _, Nat.le_refl _⟩ ?_
  show RR _ cd_X11_taken false _ (0, [(0, .ref 1), (1, .int (nI 5)), (2, .int y)], [], (SH, M, ML))
  refine r_ld rfl rfl ?_
  refine r_ld rfl rfl ?_
  refine q_call (as := [_, _]) (rest := []) rfl rfl rfl rfl rfl rfl rfl rfl (ok_X11_holderAt_5 ..) ?_
  refine r_sto (L' := [(0, _), (1, _), (2, _), (3, _)]) rfl rfl ?_
  refine r_ld rfl rfl ?_
  refine r_nlj rfl rfl ?_
  refine r_ld rfl rfl ?_
  refine q_cjF rfl rfl (nlt0.mpr hy.1) ?_
  refine r_ld rfl rfl ?_
  refine r_cst (v := .int 2) rfl rfl ?_
  refine r_cj rfl rfl (fun h_16 => ?_) (fun h_16 => ?_)
  · refine r_ld rfl rfl ?_
    refine q_geti rfl rfl rfl rfl rfl ?_
    refine r_cj rfl rfl (fun h_25 => ?_) (fun h_25 => ?_)
    · refine r_ld rfl rfl ?_
      refine q_geti rfl rfl rfl rfl rfl ?_
      refine r_cst (v := .int 3) rfl rfl ?_
      refine r_cj rfl rfl (fun h_36 => ?_) (fun h_36 => ?_)
      · refine r_cst (v := .int (-12)) rfl rfl ?_
        refine r_ret rfl rfl (trivial) ?_
        first
          | (simp_all [tkV]; done)
          | (have h9 := Classical.not_not.mp h_25; simp_all [tkV]; done)
      · refine r_ld rfl rfl ?_
        refine r_cj rfl rfl (fun h_40 => ?_) (fun h_40 => ?_)
        · refine r_ld rfl rfl ?_
          refine r_cj rfl rfl (fun h_55 => ?_) (fun h_55 => ?_)
          · refine r_ld rfl rfl ?_
            refine q_geti rfl rfl rfl rfl rfl ?_
            refine r_ret rfl rfl (trivial) ?_
            first
              | (simp_all [tkV]; done)
              | (have h9 := Classical.not_not.mp h_25; simp_all [tkV]; done)
          · refine r_ld rfl rfl ?_
            refine q_geti rfl rfl rfl rfl rfl ?_
            refine r_go rfl ?_
            refine r_ret rfl rfl (trivial) ?_
            first
              | (simp_all [tkV]; done)
              | (have h9 := Classical.not_not.mp h_25; simp_all [tkV]; done)
        · refine r_ld rfl rfl ?_
          refine r_ld rfl rfl ?_
          refine q_geti rfl rfl rfl rfl rfl ?_
          refine r_cj rfl rfl (fun h_48 => ?_) (fun h_48 => ?_)
          · refine r_ld rfl rfl ?_
            refine r_cj rfl rfl (fun h_55 => ?_) (fun h_55 => ?_)
            · refine r_ld rfl rfl ?_
              refine q_geti rfl rfl rfl rfl rfl ?_
              refine r_ret rfl rfl (trivial) ?_
              first
                | (simp_all [tkV]; done)
                | (have h9 := Classical.not_not.mp h_25; simp_all [tkV]; done)
            · refine r_ld rfl rfl ?_
              refine q_geti rfl rfl rfl rfl rfl ?_
              refine r_go rfl ?_
              refine r_ret rfl rfl (trivial) ?_
              first
                | (simp_all [tkV]; done)
                | (have h9 := Classical.not_not.mp h_25; simp_all [tkV]; done)
          · refine r_cst (v := .int (-12)) rfl rfl ?_
            refine r_ret rfl rfl (trivial) ?_
            first
              | (simp_all [tkV]; done)
              | (have h9 := Classical.not_not.mp h_25; simp_all [tkV]; done)
    · refine r_cst (v := .int (-11)) rfl rfl ?_
      refine r_ret rfl rfl (trivial) ?_
      first
        | (simp_all [tkV]; done)
        | (have h9 := Classical.not_not.mp h_25; simp_all [tkV]; done)
  · refine r_cst (v := .int (-1)) rfl rfl ?_
    refine r_ret rfl rfl (trivial) ?_
    first
      | (simp_all [tkV]; done)
      | (have h9 := Classical.not_not.mp h_25; simp_all [tkV]; done)

set_option maxHeartbeats 1000000 in
set_option maxRecDepth 10000 in
theorem ok_X11_taken_b_5 (d : Nat) (M : Nat → Nat → Int32) (ML : Nat → Nat → Int64) (y : Int32) (hy : ¬ (0 ≤ y ∧ y ≤ 2)) : Ex (d + 2) k_X11_taken [.ref 1, .int (nI 5), .int y] (SH, M, ML) (some (.int (-1)), (SH, M, ML)) := by
  refine Ex_in mi_X11_taken rfl rfl ⟨Nat.le_refl _, Nat.le_refl _⟩ ?_
  show RR _ cd_X11_taken false _ (0, [(0, .ref 1), (1, .int (nI 5)), (2, .int y)], [], (SH, M, ML))
  refine r_ld rfl rfl ?_
  refine r_ld rfl rfl ?_
  refine q_call (as := [_, _]) (rest := []) rfl rfl rfl rfl rfl rfl rfl rfl (ok_X11_holderAt_5 ..) ?_
  refine r_sto (L' := [(0, _), (1, _), (2, _), (3, _)]) rfl rfl ?_
  refine r_ld rfl rfl ?_
  refine r_nlj rfl rfl ?_
  refine r_ld rfl rfl ?_
  refine r_cj rfl rfl (fun h_11 => ?_) (fun h_11 => ?_)
  · refine r_cst (v := .int (-1)) rfl rfl ?_
    refine r_ret rfl rfl (trivial) ?_
    exact rfl
  · refine r_ld rfl rfl ?_
    refine r_cst (v := .int 2) rfl rfl ?_
    refine r_cj rfl rfl (fun h_16 => ?_) (fun h_16 => ?_)
    · exact (hy ⟨nlt0.mp h_11, h_16⟩).elim
    · refine r_cst (v := .int (-1)) rfl rfl ?_
      refine r_ret rfl rfl (trivial) ?_
      exact rfl

set_option maxHeartbeats 1000000 in
set_option maxRecDepth 10000 in
theorem lp_X3_takeRow_9_5 (d : Nat) (M : Nat → Nat → Int32) (ML : Nat → Nat → Int64) {v : Int32} {res : Rt} (hk : res = (none, (SH, zro M 72 20, ML))) :
    ∀ e, e ≤ 20 → ∀ (i : Int32) (M' : Nat → Nat → Int32), i = nI e → M' = zro M 72 e → RR (d + 1) cd_X3_takeRow false res (9, [(0, .ref 71), (1, .int v), (2, .int i)], [], (SH, M', ML)) := by
  refine up_ind fun e he ih => ?_
  intro i M' hv0 hv1
  subst hv0 hv1
  refine r_ld rfl rfl ?_
  refine r_ld rfl rfl ?_
  refine q_getr rfl rfl rfl rfl rfl ?_
  refine q_len rfl rfl rfl rfl ?_
  refine r_cj rfl rfl (fun h_15 => ?_) (fun h_15 => ?_)
  · have h9 : e = 20 := by have := nle (a := 20) (b := e) (by decide) (by omega) h_15; omega
    subst h9
    refine r_ret rfl rfl (trivial) ?_
    exact hk
  · have hlt : e < 20 := nnle (a := 20) (b := e) (by decide) (by omega) h_15
    refine r_ld rfl rfl ?_
    refine q_getr rfl rfl rfl rfl rfl ?_
    refine r_ld rfl rfl ?_
    refine r_cst (v := .int 0) rfl rfl ?_
    refine q_sin rfl rfl rfl (rfl) (by omega) rfl ?_
    refine q_inc (y := _ + 1) rfl rfl rfl ?_
    refine q_norm (L' := [(0, _), (1, _), (2, _)]) rfl ?_
    refine r_go rfl ?_
    exact ih hlt _ _ (nI_1 e) (zro_succ _ _ _)

set_option maxHeartbeats 1000000 in
set_option maxRecDepth 10000 in
theorem ok_X3_takeRow_5 (d : Nat) (M : Nat → Nat → Int32) (ML : Nat → Nat → Int64) (v : Int32) : Ex (d + 2) k_X3_takeRow [.ref 71, .int v] (SH, M, ML) (none, (SH, zro (up2 (up2 (up2 M 71 0 3) 71 1 0) 71 2 v) 72 20, ML)) := by
  refine Ex_in mi_X3_takeRow rfl rfl ⟨Nat.le_refl _, Nat.le_refl _⟩ ?_
  show RR _ cd_X3_takeRow false _ (0, [(0, .ref 71), (1, .int v)], [], (SH, M, ML))
  refine r_ld rfl rfl ?_
  refine r_cst (v := .int 3) rfl rfl ?_
  refine r_cst (v := .int 0) rfl rfl ?_
  refine r_ld rfl rfl ?_
  refine q_callv (as := [_, _, _, _]) (rest := []) rfl rfl rfl rfl rfl rfl rfl rfl (ok_X3_take_5 ..) ?_
  refine r_cst (v := .int 0) rfl rfl ?_
  refine r_sto (L' := [(0, _), (1, _), (2, _)]) rfl rfl ?_
  exact lp_X3_takeRow_9_5 d _ ML rfl 0 (by decide) _ _ rfl (zro_0 _ _).symm

set_option maxHeartbeats 1000000 in
set_option maxRecDepth 10000 in
theorem ok_X11_row_5 (d : Nat) (M : Nat → Nat → Int32) (ML : Nat → Nat → Int64) (v : Int32) (hv : 0 ≤ v ∧ v ≤ 20) : Ex (d + 3) k_X11_row [.ref 1, .int (nI 5), .int v] (SH, M, ML) (some (.int v), (SH, zro (up2 (up2 (up2 M 71 0 3) 71 1 0) 71 2 v) 72 20, ML)) := by
  refine Ex_in mi_X11_row rfl rfl ⟨Nat.le_refl _, Nat.le_refl _⟩ ?_
  show RR _ cd_X11_row false _ (0, [(0, .ref 1), (1, .int (nI 5)), (2, .int v)], [], (SH, M, ML))
  refine r_ld rfl rfl ?_
  refine r_ld rfl rfl ?_
  refine q_call (as := [_, _]) (rest := []) rfl rfl rfl rfl rfl rfl rfl rfl (ok_X11_holderAt_5 ..) ?_
  refine r_sto (L' := [(0, _), (1, _), (2, _), (3, _)]) rfl rfl ?_
  refine r_ld rfl rfl ?_
  refine r_nlj rfl rfl ?_
  refine r_ld rfl rfl ?_
  refine r_cst (v := .int 20) rfl rfl ?_
  refine q_cjT rfl rfl (hv.2) ?_
  refine r_ld rfl rfl ?_
  refine q_cjT rfl rfl (hv.1) ?_
  refine r_ld rfl rfl ?_
  refine r_ld rfl rfl ?_
  refine q_callv (as := [_, _]) (rest := []) rfl rfl rfl rfl rfl rfl rfl rfl (ok_X3_takeRow_5 ..) ?_
  refine r_ld rfl rfl ?_
  refine r_ret rfl rfl (trivial) ?_
  exact rfl

set_option maxHeartbeats 1000000 in
set_option maxRecDepth 10000 in
theorem ok_X11_row_b_5 (d : Nat) (M : Nat → Nat → Int32) (ML : Nat → Nat → Int64) (v : Int32) (hv : ¬ v ≤ 20) : Ex (d + 3) k_X11_row [.ref 1, .int (nI 5), .int v] (SH, M, ML) (some (.int (-1)), (SH, M, ML)) := by
  refine Ex_in mi_X11_row rfl rfl ⟨Nat.le_refl _, Nat.le_refl _⟩ ?_
  show RR _ cd_X11_row false _ (0, [(0, .ref 1), (1, .int (nI 5)), (2, .int v)], [], (SH, M, ML))
  refine r_ld rfl rfl ?_
  refine r_ld rfl rfl ?_
  refine q_call (as := [_, _]) (rest := []) rfl rfl rfl rfl rfl rfl rfl rfl (ok_X11_holderAt_5 ..) ?_
  refine r_sto (L' := [(0, _), (1, _), (2, _), (3, _)]) rfl rfl ?_
  refine r_ld rfl rfl ?_
  refine r_nlj rfl rfl ?_
  refine r_ld rfl rfl ?_
  refine r_cst (v := .int 20) rfl rfl ?_
  refine q_cjF rfl rfl (hv) ?_
  refine r_cst (v := .int (-1)) rfl rfl ?_
  refine r_ret rfl rfl (trivial) ?_
  exact rfl

set_option maxHeartbeats 1000000 in
set_option maxRecDepth 10000 in
theorem ok_X11_row_c_5 (d : Nat) (M : Nat → Nat → Int32) (ML : Nat → Nat → Int64) (v : Int32) (hv : ¬ 0 ≤ v) (hv2 : v ≤ 20) : Ex (d + 3) k_X11_row [.ref 1, .int (nI 5), .int v] (SH, M, ML) (some (.int (-14)), (SH, M, ML)) := by
  refine Ex_in mi_X11_row rfl rfl ⟨Nat.le_refl _, Nat.le_refl _⟩ ?_
  show RR _ cd_X11_row false _ (0, [(0, .ref 1), (1, .int (nI 5)), (2, .int v)], [], (SH, M, ML))
  refine r_ld rfl rfl ?_
  refine r_ld rfl rfl ?_
  refine q_call (as := [_, _]) (rest := []) rfl rfl rfl rfl rfl rfl rfl rfl (ok_X11_holderAt_5 ..) ?_
  refine r_sto (L' := [(0, _), (1, _), (2, _), (3, _)]) rfl rfl ?_
  refine r_ld rfl rfl ?_
  refine r_nlj rfl rfl ?_
  refine r_ld rfl rfl ?_
  refine r_cst (v := .int 20) rfl rfl ?_
  refine q_cjT rfl rfl (hv2) ?_
  refine r_ld rfl rfl ?_
  refine q_cjF rfl rfl (hv) ?_
  refine r_cst (v := .int (-14)) rfl rfl ?_
  refine r_ret rfl rfl (trivial) ?_
  exact rfl

set_option maxHeartbeats 1000000 in
set_option maxRecDepth 10000 in
theorem ok_X11_put_b_5 (d : Nat) (M : Nat → Nat → Int32) (ML : Nat → Nat → Int64) (y z : Int32) (h0 : ¬ nrV (M 71 0) = 0) : Ex (d + 2) k_X11_put [.ref 1, .int (nI 5), .int y, .int z] (SH, M, ML) (some (.int (nrV (M 71 0))), (SH, M, ML)) := by
  refine Ex_in mi_X11_put rfl rfl ⟨Nat.le_refl _, Nat.le_refl _⟩ ?_
  show RR _ cd_X11_put false _ (0, [(0, .ref 1), (1, .int (nI 5)), (2, .int y), (3, .int z)], [], (SH, M, ML))
  refine r_ld rfl rfl ?_
  refine r_ld rfl rfl ?_
  refine q_call (as := [_, _]) (rest := []) rfl rfl rfl rfl rfl rfl rfl rfl (ok_X11_holderAt_5 ..) ?_
  refine r_sto (L' := [(0, _), (1, _), (2, _), (3, _), (4, _)]) rfl rfl ?_
  refine r_ld rfl rfl ?_
  refine q_call (as := [_]) (rest := []) rfl rfl rfl rfl rfl rfl rfl rfl (ok_X11_noRow_5 ..) ?_
  refine r_sto (L' := [(0, _), (1, _), (2, _), (3, _), (4, _), (5, _)]) rfl rfl ?_
  refine r_ld rfl rfl ?_
  refine r_nlj rfl rfl ?_
  refine r_ld rfl rfl ?_
  refine q_cjF rfl rfl (h0) ?_
  refine r_ld rfl rfl ?_
  refine r_ret rfl rfl (trivial) ?_
  exact rfl

set_option maxHeartbeats 1000000 in
set_option maxRecDepth 10000 in
theorem ok_X11_put_c_5 (d : Nat) (M : Nat → Nat → Int32) (ML : Nat → Nat → Int64) (y z : Int32) (h0 : nrV (M 71 0) = 0) (hy : ¬ (0 ≤ y ∧ y < M 71 2)) : Ex (d + 2) k_X11_put [.ref 1, .int (nI 5), .int y, .int z] (SH, M, ML) (some (.int (-13)), (SH, M, ML)) := by
  refine Ex_in mi_X11_put rfl rfl ⟨Nat.le_refl _, Nat.le_refl _⟩ ?_
  show RR _ cd_X11_put false _ (0, [(0, .ref 1), (1, .int (nI 5)), (2, .int y), (3, .int z)], [], (SH, M, ML))
  refine r_ld rfl rfl ?_
  refine r_ld rfl rfl ?_
  refine q_call (as := [_, _]) (rest := []) rfl rfl rfl rfl rfl rfl rfl rfl (ok_X11_holderAt_5 ..) ?_
  refine r_sto (L' := [(0, _), (1, _), (2, _), (3, _), (4, _)]) rfl rfl ?_
  refine r_ld rfl rfl ?_
  refine q_call (as := [_]) (rest := []) rfl rfl rfl rfl rfl rfl rfl rfl (ok_X11_noRow_5 ..) ?_
  refine r_sto (L' := [(0, _), (1, _), (2, _), (3, _), (4, _), (5, _)]) rfl rfl ?_
  refine r_ld rfl rfl ?_
  refine r_nlj rfl rfl ?_
  refine r_ld rfl rfl ?_
  refine q_cjT rfl rfl (h0) ?_
  refine r_ld rfl rfl ?_
  refine r_cj rfl rfl (fun h_28 => ?_) (fun h_28 => ?_)
  · refine r_cst (v := .int (-13)) rfl rfl ?_
    refine r_ret rfl rfl (trivial) ?_
    exact rfl
  · refine r_ld rfl rfl ?_
    refine r_ld rfl rfl ?_
    refine q_geti rfl rfl rfl rfl rfl ?_
    refine r_cj rfl rfl (fun h_37 => ?_) (fun h_37 => ?_)
    · exact (hy ⟨nlt0.mp h_28, h_37⟩).elim
    · refine r_cst (v := .int (-13)) rfl rfl ?_
      refine r_ret rfl rfl (trivial) ?_
      exact rfl

set_option maxHeartbeats 1000000 in
set_option maxRecDepth 10000 in
theorem ok_X11_put_y_5 (d : Nat) (M : Nat → Nat → Int32) (ML : Nat → Nat → Int64) (z : Int32) {k n : Nat} (h0 : nrV (M 71 0) = 0) (hn : M 71 2 = nI n) (hk : k < n) (hn2 : n ≤ 20) : Ex (d + 2) k_X11_put [.ref 1, .int (nI 5), .int (nI k), .int z] (SH, M, ML) (some (.int 1), (SH, up2 M 72 k z, ML)) := by
  refine Ex_in mi_X11_put rfl rfl ⟨Nat.le_refl _, Nat.le_refl _⟩ ?_
  show RR _ cd_X11_put false _ (0, [(0, .ref 1), (1, .int (nI 5)), (2, .int (nI k)), (3, .int z)], [], (SH, M, ML))
  refine r_ld rfl rfl ?_
  refine r_ld rfl rfl ?_
  refine q_call (as := [_, _]) (rest := []) rfl rfl rfl rfl rfl rfl rfl rfl (ok_X11_holderAt_5 ..) ?_
  refine r_sto (L' := [(0, _), (1, _), (2, _), (3, _), (4, _)]) rfl rfl ?_
  refine r_ld rfl rfl ?_
  refine q_call (as := [_]) (rest := []) rfl rfl rfl rfl rfl rfl rfl rfl (ok_X11_noRow_5 ..) ?_
  refine r_sto (L' := [(0, _), (1, _), (2, _), (3, _), (4, _), (5, _)]) rfl rfl ?_
  refine r_ld rfl rfl ?_
  refine r_nlj rfl rfl ?_
  refine r_ld rfl rfl ?_
  refine q_cjT rfl rfl (h0) ?_
  refine r_ld rfl rfl ?_
  refine q_cjF rfl rfl (nlt0.mpr (nI_pos' (by omega))) ?_
  refine r_ld rfl rfl ?_
  refine r_ld rfl rfl ?_
  refine q_geti rfl rfl rfl rfl rfl ?_
  refine q_cjT rfl rfl (by rw [hn]; exact nI_lt hk (by omega)) ?_
  refine r_ld rfl rfl ?_
  refine q_getr rfl rfl rfl rfl rfl ?_
  refine r_ld rfl rfl ?_
  refine r_ld rfl rfl ?_
  refine q_callv (as := [_, _, _]) (rest := []) rfl rfl rfl rfl rfl rfl rfl rfl (ok_lay_n _ _ _ _ _ rfl rfl rfl rfl (by omega)) ?_
  refine r_cst (v := .int 1) rfl rfl ?_
  refine r_ret rfl rfl (trivial) ?_
  exact rfl

