/-! ===== the one invariant over both halves ===== -/
def dj (S T : List Nat) : Bool := S.all fun x => T.all fun y => x != y
theorem dj_n {S T : List Nat} (h : dj S T = true) {y : Nat} (hy : y ∈ T) : y ∉ S := fun hx => by
  have w := List.all_eq_true.mp (List.all_eq_true.mp h y hx) y hy
  rw [bne_self_eq_false] at w
  exact Bool.noConfusion w
theorem Fr_e {S T : List Nat} {M M' : Mm} (f : Fr S M M') (d : dj S T = true) : ∀ x, x ∈ T → M' x = M x := fun x hx => f x (dj_n d hx)
theorem Fm_e {S T F : List Nat} {M M' : Mm} (f : Fm S F M M') (d : dj S T = true) (h7 : 73 ∉ T) : ∀ x, x ∈ T → M' x = M x := fun x hx => f.1 x (dj_n d hx) (fun q => h7 (q ▸ hx))
theorem Fm_k {S T F : List Nat} {M M' : Mm} (f : Fm S F M M') (d : dj F T = true) : ∀ k, k ∈ T → M' 73 k = M 73 k := fun k hk => f.2 k (dj_n d hk)
def hfC (M : Mm) (E : Nat) (l h : Nat → Nat) : Prop := M 24 0 = 0 ∨ (M 24 0 = 1 ∧ CLS M E l h)
def hfR (M : Mm) (E : Nat) (l h : Nat → Nat) : Prop := M 31 0 = 0 ∨ (M 31 0 = 1 ∧ RKS M E l h)
abbrev TCc : List Nat := [24, 25, 26, 27, 28, 29]
abbrev TCr : List Nat := [31, 32, 33]
abbrev TCw : List Nat := [34, 35, 36]
theorem hfC_e {M M' : Mm} {E : Nat} {l h : Nat → Nat} (q : hfC M E l h) (e : ∀ x, x ∈ TCc → M' x = M x) : hfC M' E l h := by
  unfold hfC CLS at q ⊢
  rw [e 24 (by decide), e 25 (by decide), e 26 (by decide), e 27 (by decide), e 28 (by decide), e 29 (by decide)]
  exact q
theorem hfR_e {M M' : Mm} {E : Nat} {l h : Nat → Nat} (q : hfR M E l h) (e : ∀ x, x ∈ TCr → M' x = M x) : hfR M' E l h := by
  unfold hfR RKS at q ⊢
  rw [e 31 (by decide), e 33 (by decide)]
  exact q
theorem WS_e {M M' : Mm} (q : WS M) (e : ∀ x, x ∈ TCw → M' x = M x) : WS M' := by
  unfold WS BQ at q ⊢
  rw [e 34 (by decide), e 35 (by decide), e 36 (by decide)]
  exact q
/-- the class's half -/
def JC (M : Mm) (N E A : Nat) (l h : Nat → Nat) (L : List (Nat × Bool)) (F : List (Nat × Nat)) (B : List Int32) : Prop :=
  NS M 2 3 4 5 6 N E A l h ∧ LG (M 12 0) (M 13) (M 14) L ∧ FS (M 15 0) (M 16) (M 17) F ∧ TS (M 47 0) (M 48) B ∧ RG M E l h ∧ hfC M E l h ∧ hfR M E l h ∧ WS M
/-- the reference's half -/
def JM (M : Mm) (N E A : Nat) (l h : Nat → Nat) (L : List (Nat × Bool)) (F : List (Nat × Nat)) (B : List Int32) : Prop :=
  NM M N E A l h ∧ LG (M 73 5) (M 76) (M 77) L ∧ FS (M 73 8) (M 78) (M 79) F ∧ TS (M 73 12) (M 80) B
/-- the holders of both -/
def HR1 (M : Mm) (i : Nat) : Prop := M (61 + 2 * i) 0 = M 81 i ∧ (M 81 i = 0 ∨ ((M 81 i = 1 ∨ M 81 i = 2) ∧ M (61 + 2 * i) 1 = M 82 i ∧ M (61 + 2 * i) 2 = M 83 i) ∨ (M 81 i = 3 ∧ ∃ n, n ≤ 20 ∧ M (61 + 2 * i) 2 = nI n ∧ M 83 i = nI n ∧ ∀ j, j < n → M (62 + 2 * i) j = M 84 (20 * i + j)))
def HR (M : Mm) : Prop := ∀ i, i < 6 → HR1 M i
/-- the image of both -/
def IMJ (M : Mm) : Prop := (M 1 15 = 0 ∧ M 73 39 = 0) ∨ (M 1 15 = 1 ∧ M 73 39 = 1 ∧ ∃ N E A l h L F, WN N E A l h ∧ KP M N E A l h L F ∧ IMG M N E A l h L F)
def JS (M : Mm) (N E A : Nat) (l h : Nat → Nat) (L : List (Nat × Bool)) (F : List (Nat × Nat)) (B : List Int32) : Prop :=
  WN N E A l h ∧ JC M N E A l h L F B ∧ JM M N E A l h L F B ∧ HR M ∧ IMJ M
def J (M : Mm) : Prop := ∃ N E A l h L F B, JS M N E A l h L F B
theorem JS_J {M : Mm} {N E A : Nat} {l h : Nat → Nat} {L : List (Nat × Bool)} {F : List (Nat × Nat)} {B : List Int32} (q : JS M N E A l h L F B) : J M := ⟨N, E, A, l, h, L, F, B, q⟩
abbrev TH : List Nat := [61, 62, 63, 64, 65, 66, 67, 68, 69, 70, 71, 72, 81, 82, 83, 84]
abbrev TI : List Nat := [1, 50, 51, 52, 53, 54, 55, 56, 57, 58, 59, 60, 101]
abbrev TB : List Nat := [1, 2, 3, 4, 5, 6, 12, 13, 14, 15, 16, 17, 18, 19, 20, 21, 47, 48, 50, 51, 52, 53, 54, 55, 56, 57, 58, 59, 60, 61, 62, 63, 64, 65, 66, 67, 68, 69, 70, 71, 72, 73, 74, 75, 76, 77, 78, 79, 80, 81, 82, 83, 84, 101]
abbrev TC : List Nat := [2, 3, 4, 5, 6, 12, 13, 14, 15, 16, 17, 18, 19, 20, 21, 47, 48]
theorem HR_e {M M' : Mm} (q : HR M) (e : ∀ x, x ∈ TH → M' x = M x) : HR M' := by
  intro i hi
  have w := q i hi
  unfold HR1 at w ⊢
  have e1 : M' (61 + 2 * i) = M (61 + 2 * i) := e _ (by simp [TH]; omega)
  have e2 : M' (62 + 2 * i) = M (62 + 2 * i) := e _ (by simp [TH]; omega)
  rw [e1, e2, e 81 (by decide), e 82 (by decide), e 83 (by decide), e 84 (by decide)]
  exact w
theorem IMJ_e {M M' : Mm} (q : IMJ M) (e : ∀ x, x ∈ TI → M' x = M x) (e2 : M' 73 39 = M 73 39) : IMJ M' := by
  unfold IMJ KP NS IMG at q ⊢
  rw [e 1 (by decide), e 50 (by decide), e 51 (by decide), e 52 (by decide), e 53 (by decide), e 54 (by decide), e 55 (by decide), e 56 (by decide), e 57 (by decide), e 58 (by decide), e 59 (by decide), e 60 (by decide), e 101 (by decide), e2]
  exact q
theorem JM_e {M M' : Mm} {N E A : Nat} {l h : Nat → Nat} {L : List (Nat × Bool)} {F : List (Nat × Nat)} {B : List Int32} (q : JM M N E A l h L F B) (e : ∀ x, x ∈ [74, 75, 76, 77, 78, 79, 80] → M' x = M x) (e2 : ∀ k, k ∈ [0, 1, 4, 5, 8, 12] → M' 73 k = M 73 k) : JM M' N E A l h L F B := by
  unfold JM NM at q ⊢
  rw [e 74 (by decide), e 75 (by decide), e 76 (by decide), e 77 (by decide), e 78 (by decide), e 79 (by decide), e 80 (by decide), e2 0 (by decide), e2 1 (by decide), e2 4 (by decide), e2 5 (by decide), e2 8 (by decide), e2 12 (by decide)]
  exact q
theorem JC_e {M M' : Mm} {N E A : Nat} {l h : Nat → Nat} {L : List (Nat × Bool)} {F : List (Nat × Nat)} {B : List Int32} (q : JC M N E A l h L F B) (e : ∀ x, x ∈ TC → M' x = M x) (hc : hfC M' E l h) (hr : hfR M' E l h) (hw : WS M') : JC M' N E A l h L F B := by
  obtain ⟨h1, h2, h3, h4, h5, -, -, -⟩ := q
  refine ⟨NS_row h1 (e 2 (by decide)) (e 3 (by decide)) (e 4 (by decide)) (e 5 (by decide)) (e 6 (by decide)), LG_row h2 (e 12 (by decide)) (e 13 (by decide)) (e 14 (by decide)), FS_row h3 (e 15 (by decide)) (e 16 (by decide)) (e 17 (by decide)), ?_, ?_, hc, hr, hw⟩
  · rw [e 47 (by decide), e 48 (by decide)]
    exact h4
  · unfold RG RGe at h5 ⊢
    rw [e 18 (by decide), e 19 (by decide), e 20 (by decide), e 21 (by decide)]
    exact h5
/-- a question of the class: only its scratch rows S change -/
theorem JS_c {S : List Nat} {M M' : Mm} {N E A : Nat} {l h : Nat → Nat} {L : List (Nat × Bool)} {F : List (Nat × Nat)} {B : List Int32} (q : JS M N E A l h L F B) (f : Fr S M M') (d : dj S TB = true) (hc : hfC M' E l h) (hr : hfR M' E l h) (hw : WS M') : JS M' N E A l h L F B := by
  obtain ⟨h1, h2, h3, h4, h5⟩ := q
  have e := Fr_e f d
  have e73 : M' 73 = M 73 := e 73 (by decide)
  exact ⟨h1, JC_e h2 (fun x hx => e x (by revert hx; simp [TC, TB]; omega)) hc hr hw, JM_e h3 (fun x hx => e x (by revert hx; simp [TB]; omega)) (fun k _ => congrFun e73 k), HR_e h4 (fun x hx => e x (by revert hx; simp [TH, TB]; omega)), IMJ_e h5 (fun x hx => e x (by revert hx; simp [TI, TB]; omega)) (congrFun e73 39)⟩
abbrev TA : List Nat := [1, 2, 3, 4, 5, 6, 12, 13, 14, 15, 16, 17, 18, 19, 20, 21, 47, 48, 50, 51, 52, 53, 54, 55, 56, 57, 58, 59, 60, 61, 62, 63, 64, 65, 66, 67, 68, 69, 70, 71, 72, 74, 75, 76, 77, 78, 79, 80, 81, 82, 83, 84, 101, 24, 25, 26, 27, 28, 29, 31, 32, 33, 34, 35, 36]
/-- a question of the reference -/
theorem JS_m {S G : List Nat} {M M' : Mm} {N E A : Nat} {l h : Nat → Nat} {L : List (Nat × Bool)} {F : List (Nat × Nat)} {B : List Int32} (q : JS M N E A l h L F B) (f : Fm S G M M') (d : dj S TA = true) (d2 : dj G [0, 1, 4, 5, 8, 12, 39] = true) : JS M' N E A l h L F B := by
  obtain ⟨h1, h2, h3, h4, h5⟩ := q
  have e := Fm_e f d (by decide)
  have k := Fm_k f d2
  have h2' := h2
  obtain ⟨-, -, -, -, -, hc, hr, hw⟩ := h2'
  exact ⟨h1, JC_e h2 (fun x hx => e x (by revert hx; simp [TC, TA]; omega)) (hfC_e hc (fun x hx => e x (by revert hx; simp [TCc, TA]; omega))) (hfR_e hr (fun x hx => e x (by revert hx; simp [TCr, TA]; omega))) (WS_e hw (fun x hx => e x (by revert hx; simp [TCw, TA]; omega))), JM_e h3 (fun x hx => e x (by revert hx; simp [TA]; omega)) (fun k2 hk => k k2 (by revert hk; simp; omega)), HR_e h4 (fun x hx => e x (by revert hx; simp [TH, TA]; omega)), IMJ_e h5 (fun x hx => e x (by revert hx; simp [TI, TA]; omega)) (k 39 (by decide))⟩

