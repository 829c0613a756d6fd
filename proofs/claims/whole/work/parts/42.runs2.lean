/-! ===== runs: the calls ===== -/
/-- what runs answers of a run's state -/
def runA (s : Nat × List Nat × Nat) (z : Int32) : Int32 := if z = 0 then nI s.1 else if z = 1 then nI s.2.1.length else if z = 2 then (if s.2.2 = 0 then -2 else nI s.2.2) else if 60 ≤ z then nI (s.2.1.count (z - 60).toNatClampNeg) else match s.2.1[(z - 10).toNatClampNeg]? with
  | some v => nI v
  | none => -2
theorem runA_0 {s : Nat × List Nat × Nat} {z : Int32} (h : z = 0) : runA s z = nI s.1 := if_pos h
theorem runA_1 {s : Nat × List Nat × Nat} {z : Int32} (h : z = 1) : runA s z = nI s.2.1.length := by
  unfold runA
  rw [if_neg (by rw [h]; decide), if_pos h]
theorem runA_2 {s : Nat × List Nat × Nat} {z : Int32} (h : z = 2) : runA s z = if s.2.2 = 0 then -2 else nI s.2.2 := by
  unfold runA
  rw [if_neg (by rw [h]; decide), if_neg (by rw [h]; decide), if_pos h]
theorem runA_60 {s : Nat × List Nat × Nat} {z : Int32} (h : 60 ≤ z) {j : Nat} (hj : j < 2 ^ 31) (hz : z - 60 = nI j) : runA s z = nI (s.2.1.count j) := by
  unfold runA
  rw [if_neg (fun q => by rw [q] at h; exact absurd h (by decide)), if_neg (fun q => by rw [q] at h; exact absurd h (by decide)), if_neg (fun q => by rw [q] at h; exact absurd h (by decide)), if_pos h, hz, nI_clamp hj]
theorem runA_f {s : Nat × List Nat × Nat} {z : Int32} (h : 10 ≤ z) (h2 : z < 60) {j : Nat} (hj : j < 2 ^ 31) (hz : z - 10 = nI j) : runA s z = match s.2.1[j]? with
  | some v => nI v
  | none => -2 := by
  unfold runA
  rw [if_neg (fun q => by rw [q] at h; exact absurd h (by decide)), if_neg (fun q => by rw [q] at h; exact absurd h (by decide)), if_neg (fun q => by rw [q] at h; exact absurd h (by decide)), if_neg (Int32.not_le.mpr h2), hz, nI_clamp hj]
theorem runA_fy {s : Nat × List Nat × Nat} {z : Int32} (h : 10 ≤ z) (h2 : z < 60) {j : Nat} (hj : j < s.2.1.length) (hj2 : j < 2 ^ 31) (hz : z - 10 = nI j) : runA s z = nI s.2.1[j] := by
  rw [runA_f h h2 hj2 hz, List.getElem?_eq_getElem hj]
theorem runA_fn {s : Nat × List Nat × Nat} {z : Int32} (h : 10 ≤ z) (h2 : z < 60) {j : Nat} (hj : s.2.1.length ≤ j) (hj2 : j < 2 ^ 31) (hz : z - 10 = nI j) : runA s z = -2 := by
  rw [runA_f h h2 hj2 hz, List.getElem?_eq_none hj]
theorem c60 : (60 : Int32).toInt = 60 := by decide
theorem c50 : (50 : Int32).toInt = 50 := by decide
theorem c10 : (10 : Int32).toInt = 10 := by decide
theorem z10 {z : Int32} (h : 10 ≤ z) (h2 : z < 60) : ∃ j, j < 50 ∧ z - 10 = nI j := by
  rw [Int32.le_iff_toInt_le, c10] at h
  rw [Int32.lt_iff_toInt_lt, c60] at h2
  have e : (z - 10).toInt = z.toInt - 10 := fb_subI (by rw [c10]; omega) (by rw [c10]; omega)
  have h0 : ¬ z - 10 < 0 := by rw [Int32.lt_iff_toInt_lt, e, Int32.toInt_zero]; omega
  obtain ⟨j, hj, hz⟩ := nI_of h0
  rw [hz, nI_toInt hj] at e
  exact ⟨j, by omega, hz⟩
theorem z60 {z : Int32} {N : Nat} (hN : N ≤ 7) (h : inR (z - 60) N = true) : 60 ≤ z ∧ ∃ j, j < N ∧ z - 60 = nI j := by
  obtain ⟨j, hj, hz⟩ := inR_ex (by omega) h
  refine ⟨?_, j, hj, hz⟩
  have e : z = nI j + 60 := by rw [← hz]; exact (Int32.sub_add_cancel z 60).symm
  rw [e, show (60 : Int32) = nI 60 from rfl, nI_add]
  exact nI_le (by omega) (by omega)
theorem runQ_cases {N : Nat} {z : Int32} (hN : N ≤ 7) (h : runQ N z = true) : z = 0 ∨ z = 1 ∨ z = 2 ∨ (10 ≤ z ∧ z < 50) ∨ (60 ≤ z ∧ ∃ j, j < N ∧ z - 60 = nI j) := by
  by_cases q : 60 ≤ z
  · rw [runQ_2 (nlt_le.mpr q)] at h
    exact Or.inr (Or.inr (Or.inr (Or.inr (z60 hN h))))
  · unfold runQ at h
    rw [decide_eq_false q] at h
    have h3 := of_decide_eq_true (show decide _ = true from h)
    rcases h3 with ⟨h1, h2⟩ | h3
    · obtain ⟨j, hj, rfl⟩ := nI_of2 (x := z) (M := 2) (n := 2) (by decide) (nlt0.mpr h1) h2
      match j, hj with
      | 0, _ => exact Or.inl rfl
      | 1, _ => exact Or.inr (Or.inl rfl)
      | 2, _ => exact Or.inr (Or.inr (Or.inl rfl))
      | j + 3, q => exact absurd q (by omega)
    · exact Or.inr (Or.inr (Or.inr (Or.inl h3)))
theorem lt5060 {z : Int32} (h : z < 50) : z < 60 := by
  rw [Int32.lt_iff_toInt_lt] at h ⊢
  rw [c50] at h
  rw [c60]
  omega
theorem ge60_ne {z : Int32} (h : 10 ≤ z) : ¬ z = 0 ∧ ¬ z = 1 ∧ ¬ z = 2 := ⟨fun q => by rw [q] at h; exact absurd h (by decide), fun q => by rw [q] at h; exact absurd h (by decide), fun q => by rw [q] at h; exact absurd h (by decide)⟩
theorem le1060 {z : Int32} (h : 60 ≤ z) : 10 ≤ z := by
  rw [Int32.le_iff_toInt_le] at h ⊢
  rw [c60] at h
  rw [c10]
  omega
/-- whether runs is answered at all -/
def runOK (N n : Nat) (x y z : Int32) : Bool := inR x n && (inR y 41 && runQ N z)
theorem lt41 {y : Int32} : y ≤ 40 ↔ y < nI 41 := by
  rw [Int32.le_iff_toInt_le, Int32.lt_iff_toInt_lt, nI_toInt (by decide), show (40 : Int32).toInt = 40 by decide]
  omega
theorem runOK_1 {N n : Nat} {x y z : Int32} (h : ¬ (0 ≤ x ∧ x < nI n)) : runOK N n x y z = false := by
  unfold runOK inR
  rw [decide_eq_false h]
  rfl
theorem runOK_2 {N n : Nat} {x y z : Int32} (h : ¬ (0 ≤ y ∧ y ≤ 40)) : runOK N n x y z = false := by
  unfold runOK
  rw [show inR y 41 = false from decide_eq_false (fun q => h ⟨q.1, lt41.mpr q.2⟩), Bool.false_and, Bool.and_false]
theorem runOK_3 {N n : Nat} {x y z : Int32} (h : runQ N z = false) : runOK N n x y z = false := by
  unfold runOK
  rw [h, Bool.and_false, Bool.and_false]
theorem runOK_y {N n : Nat} {x y z : Int32} (h : runOK N n x y z = true) : (∃ i, i < n ∧ i < 2 ^ 31 ∧ x = nI i) ∧ (∃ j, j ≤ 40 ∧ y = nI j) ∧ runQ N z = true := by
  unfold runOK at h
  rw [Bool.and_eq_true, Bool.and_eq_true] at h
  obtain ⟨h1, h2, h3⟩ := h
  have h1' := of_decide_eq_true h1
  obtain ⟨j, hj, e⟩ := inR_ex (by decide) h2
  refine ⟨?_, ⟨j, by omega, e⟩, h3⟩
  obtain ⟨i, hi, rfl⟩ := nI_of (nlt0.mpr h1'.1)
  by_cases q : n < 2 ^ 31
  · exact ⟨i, nlt hi q h1'.2, hi, rfl⟩
  · exact ⟨i, by omega, hi, rfl⟩

set_option maxHeartbeats 1000000 in
set_option maxRecDepth 10000 in
theorem ok_X11_runs_n {d : Nat} {M : Mm} {ML : Ml} {N E A : Nat} {l h : Nat → Nat} (hS : NS M 2 3 4 5 6 N E A l h) (hW : WN N E A l h) {F : List (Nat × Nat)} (hF : FS (M 15 0) (M 16) (M 17) F) {x y z : Int32} (hq : runOK N F.length x y z = false) : EX (d + 6) k_X11_runs [.ref 1, .int x, .int y, .int z] M ML (fun r M2 L2 => r = some (.int (-1)) ∧ M2 = M ∧ L2 = ML) := by
  refine EX_in mi_X11_runs rfl rfl ?_
  show WP _ cd_X11_runs false _ (0, [(0, .ref 1), (1, .int x), (2, .int y), (3, .int z)], [], (SH, M, ML))
  refine w_ld rfl rfl ?_
  refine w_cj rfl rfl (fun h_1 => ?_) (fun h_1 => ?_)
  · refine w_cst (v := .int (-1)) rfl rfl ?_
    refine w_ret rfl rfl (trivial) ?_
    exact ⟨rfl, rfl, rfl⟩
  · refine w_ld rfl rfl ?_
    refine w_ld rfl rfl ?_
    refine w_getr rfl rfl rfl rfl rfl ?_
    refine w_getv rfl rfl rfl rfl rfl (hF.1) ?_
    refine w_cj rfl rfl (fun h_12 => ?_) (fun h_12 => ?_)
    · refine w_cst (v := .int (-1)) rfl rfl ?_
      refine w_ret rfl rfl (trivial) ?_
      exact ⟨rfl, rfl, rfl⟩
    · refine w_ld rfl rfl ?_
      refine w_cj rfl rfl (fun h_16 => ?_) (fun h_16 => ?_)
      · refine w_cst (v := .int (-1)) rfl rfl ?_
        refine w_ret rfl rfl (trivial) ?_
        exact ⟨rfl, rfl, rfl⟩
      · refine w_ld rfl rfl ?_
        refine w_cst (v := .int 40) rfl rfl ?_
        refine w_cj rfl rfl (fun h_22 => ?_) (fun h_22 => ?_)
        · refine w_cst (v := .int (-1)) rfl rfl ?_
          refine w_ret rfl rfl (trivial) ?_
          exact ⟨rfl, rfl, rfl⟩
        · refine w_ld rfl rfl ?_
          refine w_ld rfl rfl ?_
          refine w_cifn (as := [_, _]) (rest := []) rfl rfl rfl rfl rfl rfl rfl rfl (ok_X11_isOfRun _ _ _ hS.1 hW.2.1) rfl (fun h_27 => ?_) (fun h_27 => ?_)
          · exfalso
            have e := hq
            unfold runOK at e
            rw [h_27, show inR x F.length = true from decide_eq_true ⟨nlt0.mp h_1, nle_lt.mp h_12⟩, show inR y 41 = true from decide_eq_true ⟨nlt0.mp h_16, lt41.mp (nlt_le.mp h_22)⟩] at e
            exact Bool.noConfusion e
          · refine w_cst (v := .int (-1)) rfl rfl ?_
            refine w_ret rfl rfl (trivial) ?_
            exact ⟨rfl, rfl, rfl⟩

set_option maxHeartbeats 1000000 in
set_option maxRecDepth 10000 in
theorem ok_X11_runs_y {d : Nat} {M : Mm} {ML : Ml} {N E A : Nat} {l h : Nat → Nat} (hS : NS M 2 3 4 5 6 N E A l h) (hW : WN N E A l h) {F : List (Nat × Nat)} (hF : FS (M 15 0) (M 16) (M 17) F) {i n k b : Nat} (hl : F[i]? = some (k, b)) (hn : n ≤ 40) {z : Int32} (hz : runQ N z = true) : EX (d + 6) k_X11_runs [.ref 1, .int (nI i), .int (nI n), .int z] M ML (fun r M2 L2 => r = some (.int (runA (rnS k b N A E l h n) z)) ∧ L2 = ML ∧ Fr [44, 45, 46] M M2) := by
  refine EX_in mi_X11_runs rfl rfl ?_
  show WP _ cd_X11_runs false _ (0, [(0, .ref 1), (1, .int (nI i)), (2, .int (nI n)), (3, .int z)], [], (SH, M, ML))
  have hN7 := hW.2.1
  have hil : i < F.length := (List.getElem?_eq_some_iff.mp hl).1
  have hF4 := hF.2.1
  have hkb := hF.2.2 _ _ _ hl
  have hG := rnS_ok (k := k) hW hkb.2.1 n
  have hs1 := hG.2.1
  have hs2 := hG.2.2.1
  refine w_ld rfl rfl ?_
  refine w_cjF rfl rfl (fun q => nlt0.mpr (nI_pos' (by omega)) q) ?_
  refine w_ld rfl rfl ?_
  refine w_ld rfl rfl ?_
  refine w_getr rfl rfl rfl rfl rfl ?_
  refine w_getv rfl rfl rfl rfl rfl (hF.1) ?_
  refine w_cjF rfl rfl (fun q => absurd (nle (by omega) (by omega) q) (by omega)) ?_
  refine w_ld rfl rfl ?_
  refine w_cjF rfl rfl (fun q => nlt0.mpr (nI_pos' (by omega)) q) ?_
  refine w_ld rfl rfl ?_
  refine w_cst (v := .int 40) rfl rfl ?_
  refine w_cjF rfl rfl (fun q => absurd (nlt (b := n) (a := 40) (by decide) (by omega) q) (by omega)) ?_
  refine w_ld rfl rfl ?_
  refine w_ld rfl rfl ?_
  refine w_cifn (as := [_, _]) (rest := []) rfl rfl rfl rfl rfl rfl rfl rfl (ok_X11_isOfRun _ _ _ hS.1 hW.2.1) rfl (fun h_27 => ?_) (fun h_27 => ?_)
  · refine w_ld rfl rfl ?_
    refine w_getr rfl rfl rfl rfl rfl ?_
    refine w_ld rfl rfl ?_
    refine w_getr rfl rfl rfl rfl rfl ?_
    refine w_ld rfl rfl ?_
    refine w_getr rfl rfl rfl rfl rfl ?_
    refine w_getr rfl rfl rfl rfl rfl ?_
    refine w_ld rfl rfl ?_
    refine w_call (as := [_, _]) (rest := [_, _]) rfl rfl rfl rfl rfl rfl rfl rfl (ok_at_v _ _ _ rfl rfl rfl (rfl) (by omega) (hkb.2.2.1)) ?_
    refine w_ld rfl rfl ?_
    refine w_getr rfl rfl rfl rfl rfl ?_
    refine w_getr rfl rfl rfl rfl rfl ?_
    refine w_ld rfl rfl ?_
    refine w_call (as := [_, _]) (rest := [_, _, _]) rfl rfl rfl rfl rfl rfl rfl rfl (ok_at_v _ _ _ rfl rfl rfl (rfl) (by omega) (hkb.2.2.2)) ?_
    refine w_ld rfl rfl ?_
    obtain ⟨_, M3, L3, ⟨rfl, rfl, hFr, hR⟩, hE66⟩ := ok_X7_go (d := d) (ML := ML) hS hW hkb.1 hkb.2.1 hn
    refine w_callv (as := [_, _, _, _, _]) (rest := []) rfl rfl rfl rfl rfl rfl rfl rfl hE66 ?_
    refine w_ld rfl rfl ?_
    refine w_cj rfl rfl (fun h_70 => ?_) (fun h_70 => ?_)
    · skip
      refine w_ld rfl rfl ?_
      refine w_cst (v := .int 1) rfl rfl ?_
      refine w_cj rfl rfl (fun h_83 => ?_) (fun h_83 => ?_)
      · refine w_ld rfl rfl ?_
        refine w_cst (v := .int 2) rfl rfl ?_
        refine w_cj rfl rfl (fun h_96 => ?_) (fun h_96 => ?_)
        · refine w_ld rfl rfl ?_
          refine w_cst (v := .int 60) rfl rfl ?_
          refine w_cj rfl rfl (fun h_125 => ?_) (fun h_125 => ?_)
          · have h60 : z < 60 := h_125
            have h10 : 10 ≤ z := by
              rcases runQ_cases hN7 hz with q | q | q | q | q
              · exact absurd q h_70
              · exact absurd q h_83
              · exact absurd q h_96
              · exact q.1
              · exact le1060 q.1
            have ⟨j, hj, hz10⟩ := z10 h10 h60
            refine w_ld rfl rfl ?_
            refine w_cst (v := .int 10) rfl rfl ?_
            refine w_bin rfl rfl ?_
            refine w_sto (L' := [(0, _), (1, _), (2, _), (3, _), (4, _)]) rfl rfl ?_
            refine w_ld rfl rfl ?_
            refine w_ld rfl rfl ?_
            refine w_getr rfl rfl rfl rfl rfl ?_
            refine w_getv rfl rfl rfl rfl rfl (hR.2.1) ?_
            refine w_cj rfl rfl (fun h_158 => ?_) (fun h_158 => ?_)
            · refine w_cst (v := .int (-2)) rfl rfl ?_
              refine w_ret rfl rfl (trivial) ?_
              first
                | exact ⟨by rw [runA_2 (Classical.not_not.mp h_96), if_pos (Nat.eq_zero_of_not_pos (fun q => (fun w => absurd h_106 (Int32.not_le.mpr w)) (nI_lt (a := 0) q (by omega))))], rfl, hFr⟩
                | exact ⟨by rw [runA_2 (Classical.not_not.mp h_96), if_neg (fun q => h_106 (by rw [q]; decide))], rfl, hFr⟩
                | exact ⟨by rw [runA_fy h10 h60 h_158N (by omega) hz10], rfl, hFr⟩
                | exact ⟨by rw [runA_fn h10 h60 (by rw [hz10] at h_158; exact nle (by omega) (by omega) h_158) (by omega) hz10], rfl, hFr⟩
            · have h_158N : j < (rnS k b N A E l h n).2.1.length := by
                rw [hz10] at h_158
                exact nnle (by omega) (by omega) h_158
              refine w_ld rfl rfl ?_
              refine w_getr rfl rfl rfl rfl rfl ?_
              refine w_getr rfl rfl rfl rfl rfl ?_
              refine w_ld rfl rfl ?_
              refine w_call (as := [_, _]) (rest := []) rfl rfl rfl rfl rfl rfl rfl rfl (ok_at_v _ _ _ rfl rfl rfl (hz10) (by omega) (hR.2.2.2.1 _ h_158N)) ?_
              refine w_go rfl ?_
              refine w_ret rfl rfl (trivial) ?_
              first
                | exact ⟨by rw [runA_2 (Classical.not_not.mp h_96), if_pos (Nat.eq_zero_of_not_pos (fun q => (fun w => absurd h_106 (Int32.not_le.mpr w)) (nI_lt (a := 0) q (by omega))))], rfl, hFr⟩
                | exact ⟨by rw [runA_2 (Classical.not_not.mp h_96), if_neg (fun q => h_106 (by rw [q]; decide))], rfl, hFr⟩
                | exact ⟨by rw [runA_fy h10 h60 h_158N (by omega) hz10], rfl, hFr⟩
                | exact ⟨by rw [runA_fn h10 h60 (by rw [hz10] at h_158; exact nle (by omega) (by omega) h_158) (by omega) hz10], rfl, hFr⟩
          · have h60 : 60 ≤ z := nlt_le.mp h_125
            have ⟨j, hj, hz60⟩ : ∃ j, j < 7 ∧ z - 60 = nI j := by
              rw [runQ_2 h_125] at hz
              obtain ⟨j, hj, e⟩ := (z60 hN7 hz).2
              exact ⟨j, by omega, e⟩
            refine w_ld rfl rfl ?_
            refine w_getr rfl rfl rfl rfl rfl ?_
            refine w_getr rfl rfl rfl rfl rfl ?_
            refine w_ld rfl rfl ?_
            refine w_cst (v := .int 60) rfl rfl ?_
            refine w_bin rfl rfl ?_
            refine w_call (as := [_, _]) (rest := []) rfl rfl rfl rfl rfl rfl rfl rfl (ok_at_v _ _ _ rfl rfl rfl (hz60) (by omega) (hR.2.2.2.2 _ (by omega))) ?_
            refine w_ret rfl rfl (trivial) ?_
            exact ⟨by rw [runA_60 h60 (by omega) hz60], rfl, hFr⟩
        · refine w_ld rfl rfl ?_
          refine w_getr rfl rfl rfl rfl rfl ?_
          refine w_getv rfl rfl rfl rfl rfl (hR.2.2.1) ?_
          refine w_cj rfl rfl (fun h_106 => ?_) (fun h_106 => ?_)
          · refine w_cst (v := .int (-2)) rfl rfl ?_
            refine w_ret rfl rfl (trivial) ?_
            first
              | exact ⟨by rw [runA_2 (Classical.not_not.mp h_96), if_pos (Nat.eq_zero_of_not_pos (fun q => (fun w => absurd h_106 (Int32.not_le.mpr w)) (nI_lt (a := 0) q (by omega))))], rfl, hFr⟩
              | exact ⟨by rw [runA_2 (Classical.not_not.mp h_96), if_neg (fun q => h_106 (by rw [q]; decide))], rfl, hFr⟩
              | exact ⟨by rw [runA_fy h10 h60 h_158N (by omega) hz10], rfl, hFr⟩
              | exact ⟨by rw [runA_fn h10 h60 (by rw [hz10] at h_158; exact nle (by omega) (by omega) h_158) (by omega) hz10], rfl, hFr⟩
          · refine w_ld rfl rfl ?_
            refine w_getr rfl rfl rfl rfl rfl ?_
            refine w_getv rfl rfl rfl rfl rfl (hR.2.2.1) ?_
            refine w_go rfl ?_
            refine w_ret rfl rfl (trivial) ?_
            first
              | exact ⟨by rw [runA_2 (Classical.not_not.mp h_96), if_pos (Nat.eq_zero_of_not_pos (fun q => (fun w => absurd h_106 (Int32.not_le.mpr w)) (nI_lt (a := 0) q (by omega))))], rfl, hFr⟩
              | exact ⟨by rw [runA_2 (Classical.not_not.mp h_96), if_neg (fun q => h_106 (by rw [q]; decide))], rfl, hFr⟩
              | exact ⟨by rw [runA_fy h10 h60 h_158N (by omega) hz10], rfl, hFr⟩
              | exact ⟨by rw [runA_fn h10 h60 (by rw [hz10] at h_158; exact nle (by omega) (by omega) h_158) (by omega) hz10], rfl, hFr⟩
      · skip
        refine w_ld rfl rfl ?_
        refine w_getr rfl rfl rfl rfl rfl ?_
        refine w_getv rfl rfl rfl rfl rfl (hR.2.1) ?_
        refine w_ret rfl rfl (trivial) ?_
        exact ⟨by rw [runA_1 (Classical.not_not.mp h_83)], rfl, hFr⟩
    · refine w_ld rfl rfl ?_
      refine w_getr rfl rfl rfl rfl rfl ?_
      refine w_getv rfl rfl rfl rfl rfl (hR.1) ?_
      refine w_ret rfl rfl (trivial) ?_
      exact ⟨by rw [runA_0 (Classical.not_not.mp h_70)], rfl, hFr⟩
  · rw [hz] at h_27
    exact Bool.noConfusion h_27

