/-! ===== runs of the reference ===== -/
theorem NM_cong {M M' : Mm} {N E A : Nat} {l h : Nat → Nat} (hS : NM M N E A l h) (e : M' 73 0 = M 73 0 ∧ M' 73 1 = M 73 1 ∧ M' 73 4 = M 73 4) (e2 : M' 74 = M 74) (e3 : M' 75 = M 75) : NM M' N E A l h := by
  unfold NM
  rw [e.1, e.2.1, e.2.2, e2, e3]
  exact hS
theorem NM_Fm {M M' : Mm} {S F : List Nat} {N E A : Nat} {l h : Nat → Nat} (hS : NM M N E A l h) (f : Fm S F M M') (hd : 74 ∉ S ∧ 75 ∉ S) (hf : 0 ∉ F ∧ 1 ∉ F ∧ 4 ∉ F) : NM M' N E A l h :=
  NM_cong hS ⟨f.2 0 hf.1, f.2 1 hf.2.1, f.2 4 hf.2.2⟩ (f.1 74 hd.1 (by decide)) (f.1 75 hd.2 (by decide))
/-- the state of a run in the reference's rows -/
def RM (M : Mm) (s : Nat × List Nat × Nat) : Prop := (∀ k, (h : k < s.2.1.length) → M 98 k = nI (s.2.1[k])) ∧ ∀ v, v < 7 → M 97 v = nI (s.2.1.count v)
theorem RM_step {M : Mm} {k b N A E : Nat} {l h : Nat → Nat} {s : Nat × List Nat × Nat} {v : Nat} (hv : rnV k b N E l h s = v) (hR : RM M s) : RM (up2 (up2 M 97 v (nI (s.2.1.count v + 1))) 98 s.2.1.length (nI v)) (rnT k b N A E l h s) := by
  obtain ⟨a4, a5⟩ := hR
  unfold rnT
  rw [hv]
  refine ⟨fun k hk => ?_, fun u hu => ?_⟩
  · by_cases q : k < s.2.1.length
    · show _ = nI ((s.2.1 ++ [v])[k])
      rw [List.getElem_append_left q, up2_k (by omega), up2_row (by decide)]
      exact a4 k q
    · have hk2 : k < (s.2.1 ++ [v]).length := hk
      rw [List.length_append] at hk2
      have e : k = s.2.1.length := by
        have : [v].length = 1 := rfl
        omega
      subst e
      rw [up2_e]
      show _ = nI ((s.2.1 ++ [v])[s.2.1.length])
      rw [List.getElem_append_right (Nat.le_refl _)]
      simp
  · show _ = nI ((s.2.1 ++ [v]).count u)
    rw [cnt_app, up2_row (by decide)]
    by_cases q : u = v
    · rw [q, up2_e, if_pos rfl]
    · rw [up2_k q, if_neg q]
      exact a5 u hu
theorem sub1I {n : Nat} (h : n < 2 ^ 31) : (fun x : Int32 => decide (0 ≤ x ∧ x ≤ nI n - 1)) = fun x => inR x n := funext fun x => by
  unfold inR
  exact decide_eq_decide.mpr (sub1_le h)

theorem le49 {z : Int32} (h : z ≤ 49) : z < 50 := by
  rw [Int32.lt_iff_toInt_lt, c50]
  rw [Int32.le_iff_toInt_le, show (49 : Int32).toInt = 49 by decide] at h
  omega
theorem lt49 {z : Int32} (h : z < 50) : z ≤ 49 := by
  rw [Int32.lt_iff_toInt_lt, c50] at h
  rw [Int32.le_iff_toInt_le, show (49 : Int32).toInt = 49 by decide]
  omega
theorem z012 {z : Int32} (h : decide (0 ≤ z ∧ z ≤ 2) = true) : z < 60 := by
  have h1 := (of_decide_eq_true h).2
  rw [Int32.lt_iff_toInt_lt, c60]
  rw [Int32.le_iff_toInt_le, show (2 : Int32).toInt = 2 by decide] at h1
  omega

set_option maxHeartbeats 1000000 in
set_option maxRecDepth 10000 in
theorem ok_X12_runs_n {d : Nat} {M : Mm} {ML : Ml} {N E A : Nat} {l h : Nat → Nat} (hS : NM M N E A l h) (hW : WN N E A l h) {F : List (Nat × Nat)} (hF : FS (M 73 8) (M 78) (M 79) F) {x y z : Int32} (hq : runOK N F.length x y z = false) : EX (d + 5) k_X12_runs [.ref 73, .int x, .int y, .int z] M ML (fun r M2 L2 => r = some (.int (-1)) ∧ M2 = M ∧ L2 = ML) := by
  refine EX_in mi_X12_runs rfl rfl ?_
  show WP _ cd_X12_runs false _ (0, [(0, .ref 73), (1, .int x), (2, .int y), (3, .int z)], [], (SH, M, ML))
  have hN7 := hW.2.1
  have hF4 := hF.2.1
  refine w_ld rfl rfl ?_
  refine w_cst (v := .int 0) rfl rfl ?_
  refine w_ld rfl rfl ?_
  refine w_getv rfl rfl rfl rfl rfl (hF.1) ?_
  refine w_cst (v := .int 1) rfl rfl ?_
  refine w_bin rfl rfl ?_
  refine w_cife (as := [_, _, _]) (rest := []) rfl rfl rfl rfl rfl rfl rfl rfl (ok_X12_in ..) rfl (fun h_8 => ?_) (fun h_8 => ?_)
  · refine w_cst (v := .int (-1)) rfl rfl ?_
    refine w_ret rfl rfl (trivial) ?_
    exact ⟨rfl, rfl, rfl⟩
  · refine w_ld rfl rfl ?_
    refine w_cst (v := .int 0) rfl rfl ?_
    refine w_cst (v := .int 40) rfl rfl ?_
    refine w_cife (as := [_, _, _]) (rest := []) rfl rfl rfl rfl rfl rfl rfl rfl (ok_X12_in ..) rfl (fun h_18 => ?_) (fun h_18 => ?_)
    · refine w_cst (v := .int (-1)) rfl rfl ?_
      refine w_ret rfl rfl (trivial) ?_
      exact ⟨rfl, rfl, rfl⟩
    · refine w_ld rfl rfl ?_
      refine w_cst (v := .int 0) rfl rfl ?_
      refine w_cst (v := .int 2) rfl rfl ?_
      refine w_cifn (as := [_, _, _]) (rest := []) rfl rfl rfl rfl rfl rfl rfl rfl (ok_X12_in ..) rfl (fun h_27 => ?_) (fun h_27 => ?_)
      · exfalso
        have e := hq
        have h1 := of_decide_eq_true h_8
        have h2 := of_decide_eq_true h_18
        rw [sub1_le (by omega)] at h1
        unfold runOK at e
        first
          | rw [show inR x F.length = true from decide_eq_true h1, show inR y 41 = true from decide_eq_true ⟨h2.1, lt41.mp h2.2⟩, show runQ N z = true from runQ_1 (z012 h_27) (Or.inl (of_decide_eq_true h_27))] at e
          | rw [show inR x F.length = true from decide_eq_true h1, show inR y 41 = true from decide_eq_true ⟨h2.1, lt41.mp h2.2⟩, show runQ N z = true from runQ_1 (lt5060 (le49 (of_decide_eq_true h_38).2)) (Or.inr ⟨(of_decide_eq_true h_38).1, le49 (of_decide_eq_true h_38).2⟩)] at e
          | rw [show inR x F.length = true from decide_eq_true h1, show inR y 41 = true from decide_eq_true ⟨h2.1, lt41.mp h2.2⟩, show runQ N z = true from (runQ_2 (nlt_le.mpr (z60 hN7 h_49).1)).trans h_49] at e
        exact Bool.noConfusion e
      · refine w_ld rfl rfl ?_
        refine w_cst (v := .int 10) rfl rfl ?_
        refine w_cst (v := .int 49) rfl rfl ?_
        refine w_cifn (as := [_, _, _]) (rest := []) rfl rfl rfl rfl rfl rfl rfl rfl (ok_X12_in ..) rfl (fun h_38 => ?_) (fun h_38 => ?_)
        · exfalso
          have e := hq
          have h1 := of_decide_eq_true h_8
          have h2 := of_decide_eq_true h_18
          rw [sub1_le (by omega)] at h1
          unfold runOK at e
          first
            | rw [show inR x F.length = true from decide_eq_true h1, show inR y 41 = true from decide_eq_true ⟨h2.1, lt41.mp h2.2⟩, show runQ N z = true from runQ_1 (z012 h_27) (Or.inl (of_decide_eq_true h_27))] at e
            | rw [show inR x F.length = true from decide_eq_true h1, show inR y 41 = true from decide_eq_true ⟨h2.1, lt41.mp h2.2⟩, show runQ N z = true from runQ_1 (lt5060 (le49 (of_decide_eq_true h_38).2)) (Or.inr ⟨(of_decide_eq_true h_38).1, le49 (of_decide_eq_true h_38).2⟩)] at e
            | rw [show inR x F.length = true from decide_eq_true h1, show inR y 41 = true from decide_eq_true ⟨h2.1, lt41.mp h2.2⟩, show runQ N z = true from (runQ_2 (nlt_le.mpr (z60 hN7 h_49).1)).trans h_49] at e
          exact Bool.noConfusion e
        · refine w_ld rfl rfl ?_
          refine w_ld rfl rfl ?_
          refine w_cst (v := .int 60) rfl rfl ?_
          refine w_bin rfl rfl ?_
          refine w_cifn (as := [_, _]) (rest := []) rfl rfl rfl rfl rfl rfl rfl rfl (ok_X12_isNode _ _ _ _ hS.1 (by have := hW.2.1; omega)) rfl (fun h_49 => ?_) (fun h_49 => ?_)
          · exfalso
            have e := hq
            have h1 := of_decide_eq_true h_8
            have h2 := of_decide_eq_true h_18
            rw [sub1_le (by omega)] at h1
            unfold runOK at e
            first
              | rw [show inR x F.length = true from decide_eq_true h1, show inR y 41 = true from decide_eq_true ⟨h2.1, lt41.mp h2.2⟩, show runQ N z = true from runQ_1 (z012 h_27) (Or.inl (of_decide_eq_true h_27))] at e
              | rw [show inR x F.length = true from decide_eq_true h1, show inR y 41 = true from decide_eq_true ⟨h2.1, lt41.mp h2.2⟩, show runQ N z = true from runQ_1 (lt5060 (le49 (of_decide_eq_true h_38).2)) (Or.inr ⟨(of_decide_eq_true h_38).1, le49 (of_decide_eq_true h_38).2⟩)] at e
              | rw [show inR x F.length = true from decide_eq_true h1, show inR y 41 = true from decide_eq_true ⟨h2.1, lt41.mp h2.2⟩, show runQ N z = true from (runQ_2 (nlt_le.mpr (z60 hN7 h_49).1)).trans h_49] at e
            exact Bool.noConfusion e
          · refine w_cst (v := .int (-1)) rfl rfl ?_
            refine w_ret rfl rfl (trivial) ?_
            exact ⟨rfl, rfl, rfl⟩

set_option maxHeartbeats 1000000 in
set_option maxRecDepth 10000 in
theorem lp_X12_runs_184 {d : Nat} {M : Mm} {ML : Ml} {N : Nat} (hN7 : N ≤ 7) {i n : Nat} {z : Int32} (hz : runQ N z = true) {s : Nat × List Nat × Nat} (h40 : s.2.1.length ≤ 40) (hR : RM M s) : WP (d + 4) cd_X12_runs false (fun r M2 L2 => r = some (.int (runA s z)) ∧ L2 = ML ∧ M2 = M) (184, [(0, .ref 73), (1, .int (nI i)), (2, .int (nI n)), (3, .int z), (4, .int (nI s.1)), (5, .int (nI s.2.1.length)), (6, .int (if s.2.2 = 0 then -2 else nI s.2.2))], [], (SH, M, ML)) := by
  refine w_ld rfl rfl ?_
  refine w_cst (v := .int 10) rfl rfl ?_
  refine w_cj rfl rfl (fun h_187 => ?_) (fun h_187 => ?_)
  · refine w_ld rfl rfl ?_
    refine w_cst (v := .int 60) rfl rfl ?_
    refine w_cj rfl rfl (fun h_215 => ?_) (fun h_215 => ?_)
    · have h60 : z < 60 := h_215
      have h10 : 10 ≤ z := h_187
      have ⟨j, hj, hz10⟩ := z10 h10 h60
      refine w_ld rfl rfl ?_
      refine w_cst (v := .int 10) rfl rfl ?_
      refine w_bin rfl rfl ?_
      refine w_ld rfl rfl ?_
      refine w_cj rfl rfl (fun h_236 => ?_) (fun h_236 => ?_)
      · refine w_cst (v := .int (-2)) rfl rfl ?_
        refine w_ret rfl rfl (trivial) ?_
        first
          | exact ⟨by rw [runA_60 h60 (by omega) hz60], rfl, rfl⟩
          | exact ⟨by rw [runA_fy h10 h60 h_236N (by omega) hz10], rfl, rfl⟩
          | exact ⟨by rw [runA_fn h10 h60 (by rw [hz10] at h_236; exact nle (by omega) (by omega) h_236) (by omega) hz10], rfl, rfl⟩
      · have h_236N : j < s.2.1.length := by
          rw [hz10] at h_236
          exact nnle (by omega) (by omega) h_236
        refine w_ld rfl rfl ?_
        refine w_getr rfl rfl rfl rfl rfl ?_
        refine w_ld rfl rfl ?_
        refine w_cst (v := .int 10) rfl rfl ?_
        refine w_bin rfl rfl ?_
        refine w_aiv rfl rfl rfl (hz10) (by omega) rfl (hR.1 _ h_236N) ?_
        refine w_go rfl ?_
        refine w_ret rfl rfl (trivial) ?_
        first
          | exact ⟨by rw [runA_60 h60 (by omega) hz60], rfl, rfl⟩
          | exact ⟨by rw [runA_fy h10 h60 h_236N (by omega) hz10], rfl, rfl⟩
          | exact ⟨by rw [runA_fn h10 h60 (by rw [hz10] at h_236; exact nle (by omega) (by omega) h_236) (by omega) hz10], rfl, rfl⟩
    · have h60 : 60 ≤ z := nlt_le.mp h_215
      have ⟨j, hj, hz60⟩ : ∃ j, j < 7 ∧ z - 60 = nI j := by
        rw [runQ_2 h_215] at hz
        obtain ⟨j, hj, e⟩ := (z60 hN7 hz).2
        exact ⟨j, by omega, e⟩
      refine w_ld rfl rfl ?_
      refine w_getr rfl rfl rfl rfl rfl ?_
      refine w_ld rfl rfl ?_
      refine w_cst (v := .int 60) rfl rfl ?_
      refine w_bin rfl rfl ?_
      refine w_aiv rfl rfl rfl (hz60) (by omega) rfl (hR.2 _ (by omega)) ?_
      refine w_go rfl ?_
      refine w_ret rfl rfl (trivial) ?_
      first
        | exact ⟨by rw [runA_60 h60 (by omega) hz60], rfl, rfl⟩
        | exact ⟨by rw [runA_fy h10 h60 h_236N (by omega) hz10], rfl, rfl⟩
        | exact ⟨by rw [runA_fn h10 h60 (by rw [hz10] at h_236; exact nle (by omega) (by omega) h_236) (by omega) hz10], rfl, rfl⟩
  · skip
    refine w_ld rfl rfl ?_
    refine w_cj rfl rfl (fun h_191 => ?_) (fun h_191 => ?_)
    · refine w_ld rfl rfl ?_
      refine w_cst (v := .int 1) rfl rfl ?_
      refine w_cj rfl rfl (fun h_201 => ?_) (fun h_201 => ?_)
      · refine w_ld rfl rfl ?_
        refine w_ret rfl rfl (trivial) ?_
        first
          | exact ⟨by rw [runA_0 (Classical.not_not.mp h_191)], rfl, rfl⟩
          | exact ⟨by rw [runA_1 (Classical.not_not.mp h_201)], rfl, rfl⟩
          | exact ⟨by rw [runA_2 (by
              rcases runQ_cases hN7 hz with q | q | q | q | q
              · exact absurd q h_191
              · exact absurd q h_201
              · exact q
              · exact absurd q.1 h_187
              · exact absurd (le1060 q.1) h_187)], rfl, rfl⟩
      · refine w_ld rfl rfl ?_
        refine w_go rfl ?_
        refine w_ret rfl rfl (trivial) ?_
        first
          | exact ⟨by rw [runA_0 (Classical.not_not.mp h_191)], rfl, rfl⟩
          | exact ⟨by rw [runA_1 (Classical.not_not.mp h_201)], rfl, rfl⟩
          | exact ⟨by rw [runA_2 (by
              rcases runQ_cases hN7 hz with q | q | q | q | q
              · exact absurd q h_191
              · exact absurd q h_201
              · exact q
              · exact absurd q.1 h_187
              · exact absurd (le1060 q.1) h_187)], rfl, rfl⟩
    · refine w_ld rfl rfl ?_
      refine w_go rfl ?_
      refine w_ret rfl rfl (trivial) ?_
      first
        | exact ⟨by rw [runA_0 (Classical.not_not.mp h_191)], rfl, rfl⟩
        | exact ⟨by rw [runA_1 (Classical.not_not.mp h_201)], rfl, rfl⟩
        | exact ⟨by rw [runA_2 (by
            rcases runQ_cases hN7 hz with q | q | q | q | q
            · exact absurd q h_191
            · exact absurd q h_201
            · exact q
            · exact absurd q.1 h_187
            · exact absurd (le1060 q.1) h_187)], rfl, rfl⟩

theorem ag_s {s : Nat × List Nat × Nat} (h : s.2.2 < 2 ^ 31) : (0 ≤ (if s.2.2 = 0 then (-2 : Int32) else nI s.2.2)) ↔ ¬ s.2.2 = 0 := by
  by_cases q : s.2.2 = 0
  · rw [if_pos q]
    exact ⟨fun w => absurd w (by decide), fun w => absurd q w⟩
  · rw [if_neg q]
    exact ⟨fun _ => q, fun _ => nI_pos' h⟩

set_option maxHeartbeats 1000000 in
set_option maxRecDepth 10000 in
theorem lp_X12_runs_94 {d : Nat} {M : Mm} {ML : Ml} {N E A : Nat} {l h : Nat → Nat} (hS : NM M N E A l h) (hW : WN N E A l h) {F : List (Nat × Nat)} (hF : FS (M 73 8) (M 78) (M 79) F) {i n k b : Nat} (hl : F[i]? = some (k, b)) (hn : n ≤ 40) {z : Int32} (hz : runQ N z = true) : ∀ e, e ≤ n → ∀ M', Fm [97, 98] [] M M' → RM M' (rnS k b N A E l h e) → (rnS k b N A E l h e).2.1.length = e → WP (d + 4) cd_X12_runs false (fun r M2 L2 => r = some (.int (runA (rnS k b N A E l h n) z)) ∧ L2 = ML ∧ Fm [97, 98] [] M M2) (94, [(0, .ref 73), (1, .int (nI i)), (2, .int (nI n)), (3, .int z), (4, .int (nI (rnS k b N A E l h e).1)), (5, .int (nI e)), (6, .int (if (rnS k b N A E l h e).2.2 = 0 then -2 else nI (rnS k b N A E l h e).2.2))], [], (SH, M', ML)) := by
  have hN7 := hW.2.1
  have hil : i < F.length := (List.getElem?_eq_some_iff.mp hl).1
  have hF4 := hF.2.1
  have hkb := hF.2.2 _ _ _ hl
  have hE := hW.2.2.1
  have h2048 : ∀ v, tmk E l h v < 2048 := tmk_lt hE
  refine up_ind fun e he ih => ?_
  intro M' hFm hR hlen
  have hG := rnS_ok (k := k) hW hkb.2.1 e
  have hG2 := hG.2.2.1
  have hS' := NM_Fm hS hFm (by decide) (by decide)
  have ha31 : (rnS k b N A E l h e).1 < 2 ^ 31 := Nat.lt_of_lt_of_le hG.1 (Nat.le_trans (p2 hE) (by decide))
  refine w_ld rfl rfl ?_
  refine w_ld rfl rfl ?_
  refine w_cj rfl rfl (fun h_97 => ?_) (fun h_97 => ?_)
  · have h9 : rnS k b N A E l h n = rnS k b N A E l h e := by
      first
        | (have : e = n := by (have := nle (by omega) (by omega) h_97; omega)
           rw [this])
        | (have hz := rnS_stuck ((nI_e0 endsM_b).mp h_107) (n - e)
           rw [show e + (n - e) = n by omega] at hz
           exact hz)
    have hp := lp_X12_runs_184 (d := d) (ML := ML) (i := i) (n := n) hN7 hz (by rw [hlen]; omega) hR
    rw [hlen] at hp
    exact WP_mono hp (fun r M2 L2 q => ⟨by rw [h9]; exact q.1, q.2.1, by rw [q.2.2]; exact hFm⟩)
  · have hlt : e < n := nnle (by omega) (by omega) h_97
    refine w_ld rfl rfl ?_
    refine w_ld rfl rfl ?_
    refine w_cst (v := .int 1) rfl rfl ?_
    refine w_call (as := [_, _, _]) (rest := []) rfl rfl rfl rfl rfl rfl rfl rfl (ok_X12_endsOf (s := true) _ _ _ hS' hW) ?_
    refine w_cj rfl rfl (fun h_107 => ?_) (fun h_107 => ?_)
    · have h9 : rnS k b N A E l h n = rnS k b N A E l h e := by
        first
          | (have : e = n := by (have := nle (by omega) (by omega) h_97; omega)
             rw [this])
          | (have hz := rnS_stuck ((nI_e0 endsM_b).mp h_107) (n - e)
             rw [show e + (n - e) = n by omega] at hz
             exact hz)
      have hp := lp_X12_runs_184 (d := d) (ML := ML) (i := i) (n := n) hN7 hz (by rw [hlen]; omega) hR
      rw [hlen] at hp
      exact WP_mono hp (fun r M2 L2 q => ⟨by rw [h9]; exact q.1, q.2.1, by rw [q.2.2]; exact hFm⟩)
    · have hne : ¬ endsM E l h (nI (rnS k b N A E l h e).1) true = 0 := fun q => h_107 (by rw [q]; rfl)
      refine w_ld rfl rfl ?_
      refine w_ld rfl rfl ?_
      refine w_ld rfl rfl ?_
      refine w_ld rfl rfl ?_
      refine w_cst (v := .int 1) rfl rfl ?_
      refine w_call (as := [_, _, _]) (rest := [_, _]) rfl rfl rfl rfl rfl rfl rfl rfl (ok_X12_endsOf (s := true) _ _ _ hS' hW) ?_
      refine w_call (as := [_, _, _]) (rest := []) rfl rfl rfl rfl rfl rfl rfl rfl (ok_X12_chooses (b := b) _ _ _ hS' hW (by omega) (by rw [hFm.1 79 (by decide) (by decide)]; exact hkb.2.2.2) (ends_lt hW _ _) (Nat.pos_of_ne_zero hne) hkb.2.1 (fun e' _ => h2048 e') hkb.1 (by rw [hFm.1 78 (by decide) (by decide)]; exact hkb.2.2.1)) ?_
      rw [show pick k b (endsM E l h (nI (rnS k b N A E l h e).1) true) N (fun e => nI (popc (tmk E l h e))) (M' 97) = rnV k b N E l h (rnS k b N A E l h e) from pick_cong (fun i hi => hR.2 i (by omega))]
      have hv7 : rnV k b N E l h (rnS k b N A E l h e) < 7 := pick_lt (ends_lt hW _ _) hN7 (Nat.pos_of_ne_zero hne) hkb.2.1
      refine w_sto (L' := [(0, _), (1, _), (2, _), (3, _), (4, _), (5, _), (6, _), (7, _)]) rfl rfl ?_
      refine w_ld rfl rfl ?_
      refine w_ld rfl rfl ?_
      refine w_ld rfl rfl ?_
      refine w_call (as := [_, _]) (rest := [_]) rfl rfl rfl rfl rfl rfl rfl rfl (ok_X12_edgesOf _ _ _ hv7 hS' hW) ?_
      refine w_bin rfl rfl ?_
      rw [xorN]
      refine w_sto (L' := [(0, _), (1, _), (2, _), (3, _), (4, _), (5, _), (6, _), (7, _)]) rfl rfl ?_
      refine w_ld rfl rfl ?_
      refine w_getr rfl rfl rfl rfl rfl ?_
      refine w_ld rfl rfl ?_
      refine w_stk rfl rfl ?_
      refine w_aiv rfl rfl rfl (rfl) (by omega) rfl (hR.2 _ hv7) ?_
      refine w_cst (v := .int 1) rfl rfl ?_
      refine w_bin rfl rfl ?_
      rw [nI_1]
      refine w_sin rfl rfl rfl (rfl) (by omega) rfl ?_
      refine w_ld rfl rfl ?_
      refine w_getr rfl rfl rfl rfl rfl ?_
      refine w_ld rfl rfl ?_
      refine w_ld rfl rfl ?_
      refine w_sin rfl rfl rfl (rfl) (by omega) rfl ?_
      have hRn := RM_step (A := A) (v := rnV k b N E l h (rnS k b N A E l h e)) rfl hR
      rw [hlen, ← rnS_s hne] at hRn
      have hFn : Fm [97, 98] [] M (up2 (up2 M' 97 (rnV k b N E l h (rnS k b N A E l h e)) (nI ((rnS k b N A E l h e).2.1.count (rnV k b N E l h (rnS k b N A E l h e)) + 1))) 98 e (nI (rnV k b N E l h (rnS k b N A E l h e)))) := Fm_up (by decide) (by decide) (Fm_up (by decide) (by decide) hFm)
      have hln : (rnS k b N A E l h (e + 1)).2.1.length = e + 1 := by
        rw [rnS_s hne]
        show (_ ++ [_]).length = _
        rw [List.length_append, hlen]
        rfl
      have hsn : (rnS k b N A E l h (e + 1)).2.2 = if (rnS k b N A E l h e).2.2 = 0 ∧ (rnS k b N A E l h e).1 ^^^ tmk E l h (rnV k b N E l h (rnS k b N A E l h e)) = A then e + 1 else (rnS k b N A E l h e).2.2 := by
        rw [rnS_s hne]
        unfold rnT
        dsimp only
        rw [hlen]
      have han : (rnS k b N A E l h (e + 1)).1 = (rnS k b N A E l h e).1 ^^^ tmk E l h (rnV k b N E l h (rnS k b N A E l h e)) := by
        rw [rnS_s hne]
        rfl
      have hx31 : (rnS k b N A E l h e).1 ^^^ tmk E l h (rnV k b N E l h (rnS k b N A E l h e)) < 2 ^ 31 := Nat.lt_of_lt_of_le (xor_ltE hG.1 (tmk_ltE _)) (Nat.le_trans (p2 hE) (by decide))
      have hA31 : A < 2 ^ 31 := Nat.lt_of_lt_of_le hW.2.2.2.1 (Nat.le_trans (p2 hE) (by decide))
      refine w_inc (y := _ + 1) rfl rfl rfl ?_
      refine w_norm (L' := [(0, _), (1, _), (2, _), (3, _), (4, _), (5, _), (6, _), (7, _)]) rfl ?_
      refine w_ld rfl rfl ?_
      refine w_cj rfl rfl (fun h_160 => ?_) (fun h_160 => ?_)
      · refine w_ld rfl rfl ?_
        refine w_sto (L' := [(0, _), (1, _), (2, _), (3, _), (4, _), (5, _), (6, _), (7, _)]) rfl rfl ?_
        refine w_go rfl ?_
        refine w_keep [0, 1, 2, 3, 4, 5, 6] (L' := [(0, _), (1, _), (2, _), (3, _), (4, _), (5, _), (6, _)]) rfl ?_
        rw [nI_1]
        have hp := ih hlt _ hFn hRn hln
        rw [han, hsn] at hp
        first
          | (have hc : ¬ ((rnS k b N A E l h e).2.2 = 0 ∧ (rnS k b N A E l h e).1 ^^^ tmk E l h (rnV k b N E l h (rnS k b N A E l h e)) = A) := fun w => (ag_s (by omega)).mp h_160 w.1
             rw [if_neg hc] at hp
             exact hp)
          | (have hc : ¬ ((rnS k b N A E l h e).2.2 = 0 ∧ (rnS k b N A E l h e).1 ^^^ tmk E l h (rnV k b N E l h (rnS k b N A E l h e)) = A) := fun w => h_169 (by rw [w.2])
             rw [if_neg hc] at hp
             exact hp)
          | (have hc : (rnS k b N A E l h e).2.2 = 0 ∧ (rnS k b N A E l h e).1 ^^^ tmk E l h (rnV k b N E l h (rnS k b N A E l h e)) = A := ⟨Classical.not_not.mp (fun w => h_160 ((ag_s (by omega)).mpr w)), neq hx31 hA31 (Classical.not_not.mp h_169)⟩
             rw [if_pos hc, if_neg (Nat.succ_ne_zero e)] at hp
             exact hp)
      · refine w_ld rfl rfl ?_
        refine w_ld rfl rfl ?_
        refine w_getv rfl rfl rfl rfl rfl ((NM_Fm hS hFn (by decide) (by decide)).2.2.1) ?_
        refine w_cj rfl rfl (fun h_169 => ?_) (fun h_169 => ?_)
        · refine w_ld rfl rfl ?_
          refine w_sto (L' := [(0, _), (1, _), (2, _), (3, _), (4, _), (5, _), (6, _), (7, _)]) rfl rfl ?_
          refine w_go rfl ?_
          refine w_keep [0, 1, 2, 3, 4, 5, 6] (L' := [(0, _), (1, _), (2, _), (3, _), (4, _), (5, _), (6, _)]) rfl ?_
          rw [nI_1]
          have hp := ih hlt _ hFn hRn hln
          rw [han, hsn] at hp
          first
            | (have hc : ¬ ((rnS k b N A E l h e).2.2 = 0 ∧ (rnS k b N A E l h e).1 ^^^ tmk E l h (rnV k b N E l h (rnS k b N A E l h e)) = A) := fun w => (ag_s (by omega)).mp h_160 w.1
               rw [if_neg hc] at hp
               exact hp)
            | (have hc : ¬ ((rnS k b N A E l h e).2.2 = 0 ∧ (rnS k b N A E l h e).1 ^^^ tmk E l h (rnV k b N E l h (rnS k b N A E l h e)) = A) := fun w => h_169 (by rw [w.2])
               rw [if_neg hc] at hp
               exact hp)
            | (have hc : (rnS k b N A E l h e).2.2 = 0 ∧ (rnS k b N A E l h e).1 ^^^ tmk E l h (rnV k b N E l h (rnS k b N A E l h e)) = A := ⟨Classical.not_not.mp (fun w => h_160 ((ag_s (by omega)).mpr w)), neq hx31 hA31 (Classical.not_not.mp h_169)⟩
               rw [if_pos hc, if_neg (Nat.succ_ne_zero e)] at hp
               exact hp)
        · refine w_ld rfl rfl ?_
          refine w_go rfl ?_
          refine w_sto (L' := [(0, _), (1, _), (2, _), (3, _), (4, _), (5, _), (6, _), (7, _)]) rfl rfl ?_
          refine w_go rfl ?_
          refine w_keep [0, 1, 2, 3, 4, 5, 6] (L' := [(0, _), (1, _), (2, _), (3, _), (4, _), (5, _), (6, _)]) rfl ?_
          rw [nI_1]
          have hp := ih hlt _ hFn hRn hln
          rw [han, hsn] at hp
          first
            | (have hc : ¬ ((rnS k b N A E l h e).2.2 = 0 ∧ (rnS k b N A E l h e).1 ^^^ tmk E l h (rnV k b N E l h (rnS k b N A E l h e)) = A) := fun w => (ag_s (by omega)).mp h_160 w.1
               rw [if_neg hc] at hp
               exact hp)
            | (have hc : ¬ ((rnS k b N A E l h e).2.2 = 0 ∧ (rnS k b N A E l h e).1 ^^^ tmk E l h (rnV k b N E l h (rnS k b N A E l h e)) = A) := fun w => h_169 (by rw [w.2])
               rw [if_neg hc] at hp
               exact hp)
            | (have hc : (rnS k b N A E l h e).2.2 = 0 ∧ (rnS k b N A E l h e).1 ^^^ tmk E l h (rnV k b N E l h (rnS k b N A E l h e)) = A := ⟨Classical.not_not.mp (fun w => h_160 ((ag_s (by omega)).mpr w)), neq hx31 hA31 (Classical.not_not.mp h_169)⟩
               rw [if_pos hc, if_neg (Nat.succ_ne_zero e)] at hp
               exact hp)

set_option maxHeartbeats 1000000 in
set_option maxRecDepth 10000 in
theorem lp_X12_runs_60 {d : Nat} {M : Mm} {ML : Ml} {N E A : Nat} {l h : Nat → Nat} (hS : NM M N E A l h) (hW : WN N E A l h) {F : List (Nat × Nat)} (hF : FS (M 73 8) (M 78) (M 79) F) {i n k b : Nat} (hl : F[i]? = some (k, b)) (hn : n ≤ 40) {z : Int32} (hz : runQ N z = true) : ∀ e, e ≤ 7 → ∀ M', Fm [97, 98] [] M M' → (∀ v, v < e → M' 97 v = 0) → WP (d + 4) cd_X12_runs false (fun r M2 L2 => r = some (.int (runA (rnS k b N A E l h n) z)) ∧ L2 = ML ∧ Fm [97, 98] [] M M2) (60, [(0, .ref 73), (1, .int (nI i)), (2, .int (nI n)), (3, .int z), (4, .int (nI e))], [], (SH, M', ML)) := by
  refine up_ind fun e he ih => ?_
  intro M' hFm h3
  have hS' := NM_Fm hS hFm (by decide) (by decide)
  refine w_ld rfl rfl ?_
  refine w_cst (v := .int 7) rfl rfl ?_
  refine w_cj rfl rfl (fun h_64 => ?_) (fun h_64 => ?_)
  · have h9 : e = 7 := by have := nle (a := 7) (by decide) (by omega) h_64; omega
    subst h9
    refine w_ld rfl rfl ?_
    refine w_getv rfl rfl rfl rfl rfl (hS'.2.2.1) ?_
    refine w_sto (L' := [(0, _), (1, _), (2, _), (3, _), (4, _)]) rfl rfl ?_
    refine w_cst (v := .int 0) rfl rfl ?_
    refine w_sto (L' := [(0, _), (1, _), (2, _), (3, _), (4, _), (5, _)]) rfl rfl ?_
    refine w_cst (v := .int (-2)) rfl rfl ?_
    refine w_sto (L' := [(0, _), (1, _), (2, _), (3, _), (4, _), (5, _), (6, _)]) rfl rfl ?_
    exact lp_X12_runs_94 hS hW hF hl hn hz 0 (Nat.zero_le _) _ hFm ⟨fun k hk => absurd hk (Nat.not_lt_zero k), fun v hv => h3 v hv⟩ rfl
  · have hlt : e < 7 := nnle (by decide) (by omega) h_64
    refine w_ld rfl rfl ?_
    refine w_getr rfl rfl rfl rfl rfl ?_
    refine w_ld rfl rfl ?_
    refine w_cst (v := .int 0) rfl rfl ?_
    refine w_sin rfl rfl rfl (rfl) (by omega) rfl ?_
    refine w_inc (y := _ + 1) rfl rfl rfl ?_
    refine w_norm (L' := [(0, _), (1, _), (2, _), (3, _), (4, _)]) rfl ?_
    refine w_go rfl ?_
    rw [nI_1]
    refine ih hlt _ (Fm_up (by decide) (by decide) hFm) (fun v hv => ?_)
    by_cases q : v = e
    · rw [q, up2_e]
    · rw [up2_k q]
      exact h3 v (by omega)

set_option maxHeartbeats 1000000 in
set_option maxRecDepth 10000 in
theorem ok_X12_runs_y {d : Nat} {M : Mm} {ML : Ml} {N E A : Nat} {l h : Nat → Nat} (hS : NM M N E A l h) (hW : WN N E A l h) {F : List (Nat × Nat)} (hF : FS (M 73 8) (M 78) (M 79) F) {i n k b : Nat} (hl : F[i]? = some (k, b)) (hn : n ≤ 40) {z : Int32} (hz : runQ N z = true) : EX (d + 5) k_X12_runs [.ref 73, .int (nI i), .int (nI n), .int z] M ML (fun r M2 L2 => r = some (.int (runA (rnS k b N A E l h n) z)) ∧ L2 = ML ∧ Fm [97, 98] [] M M2) := by
  refine EX_in mi_X12_runs rfl rfl ?_
  show WP _ cd_X12_runs false _ (0, [(0, .ref 73), (1, .int (nI i)), (2, .int (nI n)), (3, .int z)], [], (SH, M, ML))
  have hN7 := hW.2.1
  have hil : i < F.length := (List.getElem?_eq_some_iff.mp hl).1
  have hF4 := hF.2.1
  refine w_ld rfl rfl ?_
  refine w_cst (v := .int 0) rfl rfl ?_
  refine w_ld rfl rfl ?_
  refine w_getv rfl rfl rfl rfl rfl (hF.1) ?_
  refine w_cst (v := .int 1) rfl rfl ?_
  refine w_bin rfl rfl ?_
  refine w_cife (as := [_, _, _]) (rest := []) rfl rfl rfl rfl rfl rfl rfl rfl (ok_X12_in ..) rfl (fun h_8 => ?_) (fun h_8 => ?_)
  · exfalso
    first
      | exact of_decide_eq_false h_8 (by rw [sub1_le (by omega)]; exact ⟨nI_pos' (by omega), nI_lt hil (by omega)⟩)
      | exact of_decide_eq_false h_18 ⟨nI_pos' (by omega), nI_le (b := 40) hn (by decide)⟩
      | (have h1 := of_decide_eq_false h_27
         have h2 := of_decide_eq_false h_38
         rcases runQ_cases hN7 hz with q | q | q | q | q
         · exact h1 (by rw [q]; decide)
         · exact h1 (by rw [q]; decide)
         · exact h1 (by rw [q]; decide)
         · exact h2 ⟨q.1, lt49 q.2⟩
         · obtain ⟨-, j, hj, e⟩ := q
           rw [e, inR_nI (by omega) hj] at h_49
           exact Bool.noConfusion h_49)
  · refine w_ld rfl rfl ?_
    refine w_cst (v := .int 0) rfl rfl ?_
    refine w_cst (v := .int 40) rfl rfl ?_
    refine w_cife (as := [_, _, _]) (rest := []) rfl rfl rfl rfl rfl rfl rfl rfl (ok_X12_in ..) rfl (fun h_18 => ?_) (fun h_18 => ?_)
    · exfalso
      first
        | exact of_decide_eq_false h_8 (by rw [sub1_le (by omega)]; exact ⟨nI_pos' (by omega), nI_lt hil (by omega)⟩)
        | exact of_decide_eq_false h_18 ⟨nI_pos' (by omega), nI_le (b := 40) hn (by decide)⟩
        | (have h1 := of_decide_eq_false h_27
           have h2 := of_decide_eq_false h_38
           rcases runQ_cases hN7 hz with q | q | q | q | q
           · exact h1 (by rw [q]; decide)
           · exact h1 (by rw [q]; decide)
           · exact h1 (by rw [q]; decide)
           · exact h2 ⟨q.1, lt49 q.2⟩
           · obtain ⟨-, j, hj, e⟩ := q
             rw [e, inR_nI (by omega) hj] at h_49
             exact Bool.noConfusion h_49)
    · refine w_ld rfl rfl ?_
      refine w_cst (v := .int 0) rfl rfl ?_
      refine w_cst (v := .int 2) rfl rfl ?_
      refine w_cifn (as := [_, _, _]) (rest := []) rfl rfl rfl rfl rfl rfl rfl rfl (ok_X12_in ..) rfl (fun h_27 => ?_) (fun h_27 => ?_)
      · refine w_cst (v := .int 0) rfl rfl ?_
        refine w_sto (L' := [(0, _), (1, _), (2, _), (3, _), (4, _)]) rfl rfl ?_
        exact lp_X12_runs_60 hS hW hF hl hn hz 0 (Nat.zero_le _) _ Fm_rf (fun v hv => absurd hv (Nat.not_lt_zero v))
      · refine w_ld rfl rfl ?_
        refine w_cst (v := .int 10) rfl rfl ?_
        refine w_cst (v := .int 49) rfl rfl ?_
        refine w_cifn (as := [_, _, _]) (rest := []) rfl rfl rfl rfl rfl rfl rfl rfl (ok_X12_in ..) rfl (fun h_38 => ?_) (fun h_38 => ?_)
        · refine w_cst (v := .int 0) rfl rfl ?_
          refine w_sto (L' := [(0, _), (1, _), (2, _), (3, _), (4, _)]) rfl rfl ?_
          exact lp_X12_runs_60 hS hW hF hl hn hz 0 (Nat.zero_le _) _ Fm_rf (fun v hv => absurd hv (Nat.not_lt_zero v))
        · refine w_ld rfl rfl ?_
          refine w_ld rfl rfl ?_
          refine w_cst (v := .int 60) rfl rfl ?_
          refine w_bin rfl rfl ?_
          refine w_cifn (as := [_, _]) (rest := []) rfl rfl rfl rfl rfl rfl rfl rfl (ok_X12_isNode _ _ _ _ hS.1 (by have := hW.2.1; omega)) rfl (fun h_49 => ?_) (fun h_49 => ?_)
          · refine w_cst (v := .int 0) rfl rfl ?_
            refine w_sto (L' := [(0, _), (1, _), (2, _), (3, _), (4, _)]) rfl rfl ?_
            exact lp_X12_runs_60 hS hW hF hl hn hz 0 (Nat.zero_le _) _ Fm_rf (fun v hv => absurd hv (Nat.not_lt_zero v))
          · exfalso
            first
              | exact of_decide_eq_false h_8 (by rw [sub1_le (by omega)]; exact ⟨nI_pos' (by omega), nI_lt hil (by omega)⟩)
              | exact of_decide_eq_false h_18 ⟨nI_pos' (by omega), nI_le (b := 40) hn (by decide)⟩
              | (have h1 := of_decide_eq_false h_27
                 have h2 := of_decide_eq_false h_38
                 rcases runQ_cases hN7 hz with q | q | q | q | q
                 · exact h1 (by rw [q]; decide)
                 · exact h1 (by rw [q]; decide)
                 · exact h1 (by rw [q]; decide)
                 · exact h2 ⟨q.1, lt49 q.2⟩
                 · obtain ⟨-, j, hj, e⟩ := q
                   rw [e, inR_nI (by omega) hj] at h_49
                   exact Bool.noConfusion h_49)

