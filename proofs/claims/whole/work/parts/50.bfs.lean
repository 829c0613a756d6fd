/-! ===== searches, the nearest first ===== -/
/-- what a search came to, in its order, with how far -/
abbrev BL : Type := List (Nat × Nat)
def dl : BL → Nat → Option Nat
  | [], _ => none
  | p :: L, b => if p.1 = b then some p.2 else dl L b
theorem dl_app (c d b : Nat) : ∀ L : BL, dl (L ++ [(c, d)]) b = match dl L b with
    | some x => some x
    | none => if c = b then some d else none
  | [] => rfl
  | p :: L => by
    show (if p.1 = b then some p.2 else dl (L ++ [(c, d)]) b) = _
    by_cases q : p.1 = b
    · rw [if_pos q, dl, if_pos q]
    · rw [if_neg q, dl_app c d b L, dl, if_neg q]
theorem dl_some {c d b x : Nat} {L : BL} (h : dl L b = some x) : dl (L ++ [(c, d)]) b = some x := by rw [dl_app, h]
theorem dl_new {c d : Nat} {L : BL} (h : dl L c = none) : dl (L ++ [(c, d)]) c = some d := by
  rw [dl_app, h]
  exact if_pos rfl
theorem dl_oth {c d b : Nat} {L : BL} (h : b ≠ c) : dl (L ++ [(c, d)]) b = dl L b := by
  rw [dl_app]
  cases dl L b with
  | some x => rfl
  | none => exact if_neg (fun q => h q.symm)
theorem dl_mem {b x : Nat} : ∀ {L : BL}, dl L b = some x → ∃ k : Nat, L[k]? = some (b, x)
  | [], h => by cases h
  | p :: L, h => by
    unfold dl at h
    by_cases q : p.1 = b
    · rw [if_pos q] at h
      exact ⟨0, by rw [← q, ← Option.some.inj h]; rfl⟩
    · rw [if_neg q] at h
      obtain ⟨k, hk⟩ := dl_mem h
      exact ⟨k + 1, hk⟩
theorem dl_none {b : Nat} : ∀ {L : BL}, dl L b = none → ∀ (k : Nat) (p : Nat × Nat), L[k]? = some p → p.1 ≠ b
  | [], _, k, p, h2 => by simp at h2
  | q :: L, h, 0, p, h2 => by
    have e : q = p := Option.some.inj h2
    subst e
    intro e2
    unfold dl at h
    rw [if_pos e2] at h
    cases h
  | q :: L, h, k + 1, p, h2 => by
    unfold dl at h
    by_cases e : q.1 = b
    · rw [if_pos e] at h
      cases h
    · rw [if_neg e] at h
      exact dl_none h k p h2
theorem get_app {L : BL} {x p : Nat × Nat} {k : Nat} : (L ++ [x])[k]? = some p ↔ L[k]? = some p ∨ (k = L.length ∧ p = x) := by
  rcases Nat.lt_or_ge k L.length with q | q
  · rw [List.getElem?_append_left q]
    exact ⟨Or.inl, fun h => h.elim id (fun w => absurd w.1 (by omega))⟩
  · rw [List.getElem?_append_right q, List.getElem?_eq_none q]
    rcases Nat.eq_zero_or_pos (k - L.length) with r | r
    · rw [r]
      have : k = L.length := by omega
      exact ⟨fun h => Or.inr ⟨this, (Option.some.inj h).symm⟩, fun h => h.elim (fun w => (by cases w)) (fun w => by rw [w.2]; rfl)⟩
    · rw [List.getElem?_eq_none (by show 1 ≤ _; omega)]
      exact ⟨fun h => (by cases h), fun h => h.elim (fun w => (by cases w)) (fun w => absurd w.1 (by omega))⟩
def bvis (g : Nat → Nat → Bool) (t : Nat → Nat → Nat) (p : Nat × Nat) (L : BL) : Nat → BL
  | 0 => L
  | v + 1 => if g p.1 v = true ∧ dl (bvis g t p L v) (t p.1 v) = none then bvis g t p L v ++ [(t p.1 v, p.2 + 1)] else bvis g t p L v
def bfs (g : Nat → Nat → Bool) (t : Nat → Nat → Nat) (N a : Nat) : Nat → BL
  | 0 => [(a, 0)]
  | i + 1 => match (bfs g t N a i)[i]? with
    | none => bfs g t N a i
    | some p => bvis g t p (bfs g t N a i) N
theorem bvis_y {g : Nat → Nat → Bool} {t : Nat → Nat → Nat} {p : Nat × Nat} {L : BL} {v : Nat} (h1 : g p.1 v = true) (h2 : dl (bvis g t p L v) (t p.1 v) = none) : bvis g t p L (v + 1) = bvis g t p L v ++ [(t p.1 v, p.2 + 1)] := if_pos ⟨h1, h2⟩
theorem bvis_n {g : Nat → Nat → Bool} {t : Nat → Nat → Nat} {p : Nat × Nat} {L : BL} {v : Nat} (h : ¬ (g p.1 v = true ∧ dl (bvis g t p L v) (t p.1 v) = none)) : bvis g t p L (v + 1) = bvis g t p L v := if_neg h
theorem bfs_n {g : Nat → Nat → Bool} {t : Nat → Nat → Nat} {N a i : Nat} (h : (bfs g t N a i)[i]? = none) : bfs g t N a (i + 1) = bfs g t N a i := by
  rw [bfs, h]
theorem bfs_s {g : Nat → Nat → Bool} {t : Nat → Nat → Nat} {N a i : Nat} {p : Nat × Nat} (h : (bfs g t N a i)[i]? = some p) : bfs g t N a (i + 1) = bvis g t p (bfs g t N a i) N := by
  rw [bfs, h]
theorem bfs_stuck {g : Nat → Nat → Bool} {t : Nat → Nat → Nat} {N a i : Nat} (h : (bfs g t N a i)[i]? = none) : ∀ j, bfs g t N a (i + j) = bfs g t N a i
  | 0 => rfl
  | j + 1 => by
    have ih := bfs_stuck h j
    have hl : (bfs g t N a i).length ≤ i := List.getElem?_eq_none_iff.mp h
    rw [← Nat.add_assoc, bfs_n (by rw [ih]; exact List.getElem?_eq_none (by omega)), ih]
/-- so many steps lead from one to the other -/
def wk (g : Nat → Nat → Bool) (t : Nat → Nat → Nat) (N : Nat) : Nat → Nat → Nat → Prop
  | 0, x, y => x = y
  | k + 1, x, y => ∃ z v, wk g t N k x z ∧ v < N ∧ g z v = true ∧ y = t z v
/-- what holds in a search: i were looked at whole, of the next one v nodes -/
def Iv (g : Nat → Nat → Bool) (t : Nat → Nat → Nat) (N a n i v : Nat) (L : BL) : Prop :=
  dl L a = some 0 ∧ (∀ (k : Nat) (p : Nat × Nat), L[k]? = some p → p.1 < n ∧ p.2 ≤ k ∧ wk g t N p.2 a p.1 ∧ dl L p.1 = some p.2) ∧
  (∀ (j k : Nat) (p q : Nat × Nat), j < k → L[j]? = some p → L[k]? = some q → p.1 ≠ q.1 ∧ p.2 ≤ q.2) ∧
  (∀ (p q : Nat × Nat) (k : Nat), L[i]? = some p → L[k]? = some q → q.2 ≤ p.2 + 1) ∧
  (∀ j : Nat, j < i → ∀ p : Nat × Nat, L[j]? = some p → ∀ u, u < N → g p.1 u = true → ∃ d, dl L (t p.1 u) = some d ∧ d ≤ p.2 + 1) ∧
  ∀ p : Nat × Nat, L[i]? = some p → ∀ u, u < v → g p.1 u = true → ∃ d, dl L (t p.1 u) = some d ∧ d ≤ p.2 + 1
theorem Iv_step {g : Nat → Nat → Bool} {t : Nat → Nat → Nat} {N a n i v : Nat} {L L2 : BL} {p : Nat × Nat} (ht : ∀ x u, x < n → u < N → t x u < n) (h : Iv g t N a n i v L) (hp : L[i]? = some p) (hv : v < N)
    (h2 : L2 = if g p.1 v = true ∧ dl L (t p.1 v) = none then L ++ [(t p.1 v, p.2 + 1)] else L) : Iv g t N a n i (v + 1) L2 ∧ L2[i]? = some p ∧ L.length ≤ L2.length := by
  obtain ⟨hA, hB, hC, hD, hE, hF⟩ := h
  by_cases c : g p.1 v = true ∧ dl L (t p.1 v) = none
  · rw [if_pos c] at h2
    subst h2
    have hbp := hB i p hp
    have hil : i < L.length := (List.getElem?_eq_some_iff.mp hp).1
    refine ⟨⟨dl_some hA, ?_, ?_, ?_, ?_, ?_⟩, get_app.mpr (Or.inl hp), by rw [List.length_append]; omega⟩
    · intro k q hq
      rcases get_app.mp hq with r | ⟨r1, r2⟩
      · have := hB k q r
        exact ⟨this.1, this.2.1, this.2.2.1, dl_some this.2.2.2⟩
      · subst r2
        exact ⟨ht _ _ hbp.1 hv, by show p.2 + 1 ≤ k; omega, ⟨p.1, v, hbp.2.2.1, hv, c.1, rfl⟩, dl_new c.2⟩
    · intro j k q r hjk hq hr
      rcases get_app.mp hr with r1 | ⟨r1, r2⟩
      · rcases get_app.mp hq with q1 | ⟨q1, q2⟩
        · exact hC j k q r hjk q1 r1
        · have := (List.getElem?_eq_some_iff.mp r1).1
          omega
      · subst r2
        rcases get_app.mp hq with q1 | ⟨q1, q2⟩
        · exact ⟨dl_none c.2 j q q1, hD p q j hp q1⟩
        · omega
    · intro p' q k hp' hq
      have e : p' = p := by
        rcases get_app.mp hp' with w | ⟨w, -⟩
        · rw [hp] at w
          exact (Option.some.inj w).symm
        · omega
      subst e
      rcases get_app.mp hq with w | ⟨-, w⟩
      · exact hD p' q k hp w
      · subst w
        exact Nat.le_refl _
    · intro j hj q hq u hu hg
      rcases get_app.mp hq with w | ⟨w, -⟩
      · obtain ⟨d, hd, hd2⟩ := hE j hj q w u hu hg
        exact ⟨d, dl_some hd, hd2⟩
      · omega
    · intro p' hp' u hu hg
      have e : p' = p := by
        rcases get_app.mp hp' with w | ⟨w, -⟩
        · rw [hp] at w
          exact (Option.some.inj w).symm
        · omega
      subst e
      rcases Nat.lt_or_ge u v with w | w
      · obtain ⟨d, hd, hd2⟩ := hF p' hp u w hg
        exact ⟨d, dl_some hd, hd2⟩
      · have : u = v := by omega
        subst this
        exact ⟨_, dl_new c.2, Nat.le_refl _⟩
  · rw [if_neg c] at h2
    subst h2
    refine ⟨⟨hA, hB, hC, hD, hE, ?_⟩, hp, Nat.le_refl _⟩
    intro p' hp' u hu hg
    rw [hp] at hp'
    have e : p = p' := Option.some.inj hp'
    subst e
    rcases Nat.lt_or_ge u v with w | w
    · exact hF p hp u w hg
    · have : u = v := by omega
      subst this
      cases hd : dl L2 (t p.1 u) with
      | none => exact absurd ⟨hg, hd⟩ c
      | some d =>
        obtain ⟨k, hk⟩ := dl_mem hd
        exact ⟨d, rfl, hD p (t p.1 u, d) k hp hk⟩
theorem Iv_vis {g : Nat → Nat → Bool} {t : Nat → Nat → Nat} {N a n i : Nat} {L : BL} {p : Nat × Nat} (ht : ∀ x u, x < n → u < N → t x u < n) (h : Iv g t N a n i 0 L) (hp : L[i]? = some p) : ∀ v, v ≤ N → Iv g t N a n i v (bvis g t p L v) ∧ (bvis g t p L v)[i]? = some p ∧ L.length ≤ (bvis g t p L v).length
  | 0, _ => ⟨h, hp, Nat.le_refl _⟩
  | v + 1, hv => by
    obtain ⟨h1, h2, h3⟩ := Iv_vis ht h hp v (by omega)
    obtain ⟨a1, a2, a3⟩ := Iv_step ht h1 h2 hv (L2 := bvis g t p L (v + 1)) rfl
    exact ⟨a1, a2, Nat.le_trans h3 a3⟩
theorem Iv_next {g : Nat → Nat → Bool} {t : Nat → Nat → Nat} {N a n i : Nat} {L : BL} {p : Nat × Nat} (h : Iv g t N a n i N L) (hp : L[i]? = some p) : Iv g t N a n (i + 1) 0 L := by
  obtain ⟨hA, hB, hC, hD, hE, hF⟩ := h
  refine ⟨hA, hB, hC, fun p' q k hp' hq => ?_, fun j hj q hq u hu hg => ?_, fun p' _ u hu => absurd hu (Nat.not_lt_zero u)⟩
  · have h1 := hD p q k hp hq
    have h2 := (hC i (i + 1) p p' (Nat.lt_succ_self i) hp hp').2
    omega
  · rcases Nat.lt_or_ge j i with w | w
    · exact hE j w q hq u hu hg
    · have : j = i := by omega
      subst this
      rw [hp] at hq
      rw [← Option.some.inj hq]
      rw [← Option.some.inj hq] at hg
      exact hF p hp u hu hg
theorem Iv_none {g : Nat → Nat → Bool} {t : Nat → Nat → Nat} {N a n i : Nat} {L : BL} (h : Iv g t N a n i 0 L) (hp : L[i]? = none) : Iv g t N a n (i + 1) 0 L := by
  obtain ⟨hA, hB, hC, hD, hE, hF⟩ := h
  have hl := List.getElem?_eq_none_iff.mp hp
  refine ⟨hA, hB, hC, fun p' q k hp' hq => ?_, fun j hj q hq u hu hg => ?_, fun p' _ u hu => absurd hu (Nat.not_lt_zero u)⟩
  · rw [List.getElem?_eq_none (by omega)] at hp'
    cases hp'
  · have := (List.getElem?_eq_some_iff.mp hq).1
    exact hE j (by omega) q hq u hu hg
theorem bfs_Iv {g : Nat → Nat → Bool} {t : Nat → Nat → Nat} {N a n : Nat} (ht : ∀ x u, x < n → u < N → t x u < n) (ha : a < n) : ∀ i, Iv g t N a n i 0 (bfs g t N a i)
  | 0 => by
    have h1 : ∀ (k : Nat) (p : Nat × Nat), [(a, 0)][k]? = some p → k = 0 ∧ p = (a, 0) := fun k p h => by
      match k with
      | 0 => exact ⟨rfl, (Option.some.inj h).symm⟩
      | k + 1 => simp at h
    refine ⟨if_pos rfl, fun k p h => ?_, fun j k p q hjk _ h => ?_, fun p q k h2 h3 => ?_, fun j hj => absurd hj (Nat.not_lt_zero j), fun p _ u hu => absurd hu (Nat.not_lt_zero u)⟩
    · obtain ⟨e1, e2⟩ := h1 k p h
      rw [e2]
      exact ⟨ha, Nat.zero_le _, rfl, if_pos rfl⟩
    · have := (h1 k q h).1
      omega
    · rw [(h1 k q h3).2]
      exact Nat.zero_le _
  | i + 1 => by
    have ih := bfs_Iv (g := g) ht ha i
    cases hp : (bfs g t N a i)[i]? with
    | none =>
      rw [bfs_n hp]
      exact Iv_none ih hp
    | some p =>
      rw [bfs_s hp]
      obtain ⟨h1, h2, -⟩ := Iv_vis ht ih hp N (Nat.le_refl _)
      exact Iv_next h1 h2
theorem Iv_len {g : Nat → Nat → Bool} {t : Nat → Nat → Nat} {N a n i v : Nat} {L : BL} (h : Iv g t N a n i v L) : L.length ≤ n := by
  refine fb_holes n L.length (fun k => (L.getD k (0, 0)).1) (fun k hk => ?_) (fun j k hjk hk => ?_)
  · have hg : L[k]? = some (L.getD k (0, 0)) := by rw [List.getD_eq_getElem?_getD, List.getElem?_eq_getElem hk]; rfl
    exact (h.2.1 k _ hg).1
  · have hg : L[k]? = some (L.getD k (0, 0)) := by rw [List.getD_eq_getElem?_getD, List.getElem?_eq_getElem hk]; rfl
    have hj : L[j]? = some (L.getD j (0, 0)) := by rw [List.getD_eq_getElem?_getD, List.getElem?_eq_getElem (by omega)]; rfl
    exact (h.2.2.1 j k _ _ hjk hj hg).1
/-- the search done -/
def bfsE (g : Nat → Nat → Bool) (t : Nat → Nat → Nat) (N a n : Nat) : BL := bfs g t N a n
theorem bfsE_of {g : Nat → Nat → Bool} {t : Nat → Nat → Nat} {N a n i : Nat} (hi : i ≤ n) (h : (bfs g t N a i)[i]? = none) : bfs g t N a i = bfsE g t N a n := by
  have := bfs_stuck h (n - i)
  rw [show i + (n - i) = n by omega] at this
  exact this.symm
theorem bfsE_none {g : Nat → Nat → Bool} {t : Nat → Nat → Nat} {N a n : Nat} (ht : ∀ x u, x < n → u < N → t x u < n) (ha : a < n) : (bfsE g t N a n)[n]? = none := List.getElem?_eq_none (Iv_len (bfs_Iv ht ha n))
theorem bfs_le {g : Nat → Nat → Bool} {t : Nat → Nat → Nat} {N a n : Nat} (ht : ∀ x u, x < n → u < N → t x u < n) (ha : a < n) {b k : Nat} (h : wk g t N k a b) : ∃ d, dl (bfsE g t N a n) b = some d ∧ d ≤ k := by
  have hI := bfs_Iv (g := g) ht ha n
  have hl := Iv_len hI
  induction k generalizing b with
  | zero => exact ⟨0, by rw [← (show a = b from h)]; exact hI.1, Nat.le_refl _⟩
  | succ k ih =>
    obtain ⟨z, v, h1, hv, hg, rfl⟩ := h
    obtain ⟨d, hd, hdk⟩ := ih h1
    obtain ⟨j, hj⟩ := dl_mem hd
    have hjl := (List.getElem?_eq_some_iff.mp hj).1
    obtain ⟨e, he, hed⟩ := hI.2.2.2.2.1 j (Nat.lt_of_lt_of_le hjl hl) _ hj v hv hg
    have hed' : e ≤ d + 1 := hed
    exact ⟨e, he, by omega⟩
/-- how far it is -/
theorem bfs_dist {g : Nat → Nat → Bool} {t : Nat → Nat → Nat} {N a n : Nat} (ht : ∀ x u, x < n → u < N → t x u < n) (ha : a < n) {b d : Nat} (h : dl (bfsE g t N a n) b = some d) : wk g t N d a b ∧ ∀ k, wk g t N k a b → d ≤ k := by
  have hI := bfs_Iv (g := g) ht ha n
  obtain ⟨j, hj⟩ := dl_mem h
  refine ⟨(hI.2.1 j _ hj).2.2.1, fun k hk => ?_⟩
  obtain ⟨e, he, hek⟩ := bfs_le ht ha hk
  rw [h] at he
  rw [Option.some.inj he]
  exact hek
theorem bfs_same {g g2 : Nat → Nat → Bool} {t t2 : Nat → Nat → Nat} {N N2 a a2 n n2 b b2 : Nat} (ht : ∀ x u, x < n → u < N → t x u < n) (ha : a < n) (ht2 : ∀ x u, x < n2 → u < N2 → t2 x u < n2) (ha2 : a2 < n2) (e : ∀ k, wk g t N k a b ↔ wk g2 t2 N2 k a2 b2) : dl (bfsE g t N a n) b = dl (bfsE g2 t2 N2 a2 n2) b2 := by
  cases h : dl (bfsE g t N a n) b with
  | none =>
    cases h2 : dl (bfsE g2 t2 N2 a2 n2) b2 with
    | none => rfl
    | some d =>
      obtain ⟨d2, hd, -⟩ := bfs_le ht ha ((e d).mpr (bfs_dist ht2 ha2 h2).1)
      rw [h] at hd
      cases hd
  | some d =>
    have h1 := bfs_dist ht ha h
    obtain ⟨d2, hd, hle⟩ := bfs_le ht2 ha2 ((e d).mp h1.1)
    have h2 := bfs_dist ht2 ha2 hd
    have := h1.2 d2 ((e d2).mpr h2.1)
    rw [hd]
    exact congrArg some (by omega)
theorem wk_front {g : Nat → Nat → Bool} {t : Nat → Nat → Nat} {N : Nat} : ∀ {k x y : Nat}, wk g t N (k + 1) x y ↔ ∃ v, v < N ∧ g x v = true ∧ wk g t N k (t x v) y
  | 0, x, y => ⟨fun ⟨z, v, h1, h2, h3, h4⟩ => ⟨v, h2, by rw [show x = z from h1]; exact h3, by rw [show x = z from h1]; exact h4.symm⟩, fun ⟨v, h1, h2, h3⟩ => ⟨x, v, rfl, h1, h2, (show t x v = y from h3).symm⟩⟩
  | k + 1, x, y => by
    constructor
    · rintro ⟨z, v, h1, h2, h3, h4⟩
      obtain ⟨u, hu, hg, hw⟩ := wk_front.mp h1
      exact ⟨u, hu, hg, z, v, hw, h2, h3, h4⟩
    · rintro ⟨u, hu, hg, z, v, hw, h2, h3, h4⟩
      exact ⟨z, v, wk_front.mpr ⟨u, hu, hg, hw⟩, h2, h3, h4⟩
/-- the same steps the other way round -/
theorem wk_back {g g2 : Nat → Nat → Bool} {t t2 : Nat → Nat → Nat} {N : Nat} (h : ∀ x v, v < N → g x v = true → g2 (t x v) v = true ∧ t2 (t x v) v = x) : ∀ {k x y : Nat}, wk g t N k x y → wk g2 t2 N k y x
  | 0, x, y, e => (show x = y from e).symm
  | k + 1, x, y, e => by
    obtain ⟨z, v, h1, h2, h3, rfl⟩ := e
    have := h z v h2 h3
    exact wk_front.mpr ⟨v, h2, this.1, by rw [this.2]; exact wk_back h h1⟩

def gF (E : Nat) (l h : Nat → Nat) (s : Bool) (x v : Nat) : Bool := endB E l h (nI x) v s
def tF (E : Nat) (l h : Nat → Nat) (x v : Nat) : Nat := x ^^^ tmk E l h v
theorem tF_lt {E : Nat} {l h : Nat → Nat} {x v : Nat} (hx : x < 2 ^ E) : tF E l h x v < 2 ^ E := xor_ltE hx (tmk_ltE v)
theorem tF_tF {E : Nat} {l h : Nat → Nat} {x v : Nat} : tF E l h (tF E l h x v) v = x := by
  unfold tF
  rw [Nat.xor_assoc, Nat.xor_self, Nat.xor_zero]
theorem fr_tF {E : Nat} {l h : Nat → Nat} {x v e : Nat} (hE : E ≤ 10) (he : e < E) (ht : l e = v ∨ h e = v) : fr l h (nI (tF E l h x v)) e = to l h (nI x) e := by
  unfold fr to tF
  rw [b_nI _ (by omega), b_nI _ (by omega), Nat.testBit_xor, tk_bit, decide_eq_true he, Bool.true_and]
  have : (decide (h e = v) || decide (l e = v)) = true := by
    rcases ht with q | q
    · rw [decide_eq_true q, Bool.or_true]
    · rw [decide_eq_true q, Bool.true_or]
  rw [this, Bool.xor_true]
  cases x.testBit e <;> rfl
theorem gF_turn {N E A : Nat} {l h : Nat → Nat} (hW : WN N E A l h) {s : Bool} {x v : Nat} (hg : gF E l h s x v = true) : gF E l h (!s) (tF E l h x v) v = true := by
  unfold gF endB at hg ⊢
  have hg' := of_decide_eq_true hg
  refine decide_eq_true ⟨hg'.1, fun e he ht => ?_⟩
  have h1 := hg'.2 e he ht
  have hlh := hW.2.2.2.2 e he
  rw [fr_tF hW.2.2.1 he ht]
  have hx : decide (to l h (nI x) e = v) = !decide (fr l h (nI x) e = v) := by
    unfold to fr
    cases bt (nI x) e with
    | true =>
      show decide (l e = v) = !decide (h e = v)
      rcases ht with q | q
      · rw [decide_eq_true q, decide_eq_false (by omega)]; rfl
      · rw [decide_eq_true q, decide_eq_false (by omega)]; rfl
    | false =>
      show decide (h e = v) = !decide (l e = v)
      rcases ht with q | q
      · rw [decide_eq_true q, decide_eq_false (by omega)]; rfl
      · rw [decide_eq_true q, decide_eq_false (by omega)]; rfl
  rw [hx, h1]
/-- a search from a, by firings (true) or back (false) -/
def srch (N E : Nat) (l h : Nat → Nat) (s : Bool) (a : Nat) : BL := bfsE (gF E l h s) (tF E l h) N a (2 ^ E)
theorem srch_dist {N E A : Nat} {l h : Nat → Nat} (hW : WN N E A l h) {a b : Nat} (ha : a < 2 ^ E) (hb : b < 2 ^ E) : dl (srch N E l h true a) b = dl (srch N E l h false b) a :=
  bfs_same (fun _ _ hx _ => tF_lt hx) ha (fun _ _ hx _ => tF_lt hx) hb (fun k => ⟨fun q => wk_back (fun x v _ hg => ⟨gF_turn hW hg, tF_tF⟩) q, fun q => wk_back (fun x v _ hg => ⟨gF_turn hW hg, tF_tF⟩) q⟩)

