/-! ===== tree, chords, flows ===== -/
abbrev LA (l h : Nat → Nat) : Nat → Nat → Nat := lb l h (fun _ => true)
theorem LA_s {l h : Nat → Nat} {e v : Nat} : LA l h (e + 1) v = if LA l h e v = LA l h e (h e) then LA l h e (l e) else LA l h e v := lb_y (S := fun _ => true) rfl v
def isCh (l h : Nat → Nat) (e : Nat) : Bool := decide (LA l h e (l e) = LA l h e (h e))
def sg (x : Int32) (e : Nat) : Int := if bt x e then -1 else 1
/-- heights along the tree: each edge leads one up -/
def ph (l h : Nat → Nat) (x : Int32) : Nat → Nat → Int
  | 0, _ => 0
  | e + 1, v => if isCh l h e = false ∧ LA l h e v = LA l h e (h e) then ph l h x e v + (sg x e + ph l h x e (l e) - ph l h x e (h e)) else ph l h x e v
/-- the flow round a chord -/
def flw (l h : Nat → Nat) (E : Nat) (x : Int32) (c : Nat) : Int := sg x c + ph l h x E (l c) - ph l h x E (h c)
theorem LA_keep {l h : Nat → Nat} {i : Nat} : ∀ j, LA l h (i + 1 + j) (l i) = LA l h (i + 1 + j) (h i)
  | 0 => lb_join rfl
  | j + 1 => lb_resp (LA_keep j)
theorem LA_in {l h : Nat → Nat} {i e : Nat} (q : i < e) : LA l h e (l i) = LA l h e (h i) := by
  have := LA_keep (l := l) (h := h) (i := i) (e - (i + 1))
  rw [show i + 1 + (e - (i + 1)) = e by omega] at this
  exact this
theorem isCh_ne {l h : Nat → Nat} {e : Nat} (q : isCh l h e = false) : ¬ LA l h e (l e) = LA l h e (h e) := of_decide_eq_false q
theorem ph_T {l h : Nat → Nat} {x : Int32} : ∀ e i, i < e → isCh l h i = false → ph l h x e (h i) - ph l h x e (l i) = sg x i
  | 0, i, q, _ => absurd q (Nat.not_lt_zero i)
  | e + 1, i, q, c => by
    rw [ph, ph]
    rcases Nat.lt_or_ge i e with w | w
    · have ih := ph_T (x := x) e i w c
      have hk := LA_in (l := l) (h := h) w
      by_cases d : isCh l h e = false ∧ LA l h e (h i) = LA l h e (h e)
      · rw [if_pos d, if_pos ⟨d.1, hk.trans d.2⟩]
        omega
      · rw [if_neg d, if_neg (fun y => d ⟨y.1, hk.symm.trans y.2⟩)]
        exact ih
    · have : i = e := by omega
      subst this
      rw [if_pos ⟨c, rfl⟩, if_neg (fun y => isCh_ne c y.2)]
      omega
/-- which edges of the tree lead from a node to the one that its part shares -/
def pm (l h : Nat → Nat) : Nat → Nat → Nat
  | 0, _ => 0
  | e + 1, v => if isCh l h e = false ∧ LA l h e v = LA l h e (h e) then pm l h e v ^^^ ((pm l h e (l e) ^^^ pm l h e (h e)) ^^^ 2 ^ e) else pm l h e v
theorem xor_sh (a b c : Nat) : (a ^^^ c) ^^^ (b ^^^ c) = a ^^^ b := by
  rw [Nat.xor_comm b c, ← Nat.xor_assoc, Nat.xor_assoc a c c, Nat.xor_self, Nat.xor_zero]
theorem pm_T {l h : Nat → Nat} : ∀ e i, i < e → isCh l h i = false → pm l h e (h i) ^^^ pm l h e (l i) = 2 ^ i
  | 0, i, q, _ => absurd q (Nat.not_lt_zero i)
  | e + 1, i, q, c => by
    rw [pm, pm]
    rcases Nat.lt_or_ge i e with w | w
    · have ih := pm_T e i w c
      have hk := LA_in (l := l) (h := h) w
      by_cases d : isCh l h e = false ∧ LA l h e (h i) = LA l h e (h e)
      · rw [if_pos d, if_pos ⟨d.1, hk.trans d.2⟩, xor_sh]
        exact ih
      · rw [if_neg d, if_neg (fun y => d ⟨y.1, hk.symm.trans y.2⟩)]
        exact ih
    · have : i = e := by omega
      subst this
      rw [if_pos ⟨c, rfl⟩, if_neg (fun y => isCh_ne c y.2)]
      rw [Nat.xor_comm (pm l h i (l i)) (pm l h i (h i)), Nat.xor_assoc (pm l h i (h i)) (pm l h i (l i)), ← Nat.xor_assoc (pm l h i (h i)), Nat.xor_self, Nat.zero_xor, Nat.xor_comm (pm l h i (l i)), Nat.xor_assoc, Nat.xor_self, Nat.xor_zero]
theorem pm_lt {l h : Nat → Nat} : ∀ e v, pm l h e v < 2 ^ e
  | 0, v => Nat.one_pos
  | e + 1, v => by
    have ih := pm_lt (l := l) (h := h) e
    have h2 : 2 ^ e < 2 ^ (e + 1) := Nat.pow_lt_pow_right (by decide) (by omega)
    have ih' : ∀ v, pm l h e v < 2 ^ (e + 1) := fun v => Nat.lt_trans (ih v) h2
    rw [pm]
    split
    · exact Nat.xor_lt_two_pow (ih' v) (Nat.xor_lt_two_pow (Nat.xor_lt_two_pow (ih' _) (ih' _)) h2)
    · exact ih' v
/-- a set that no edge of the tree leaves holds whole parts -/
theorem tree_cl {l h : Nat → Nat} {E : Nat} {R : Nat → Prop} (hR : ∀ i, i < E → isCh l h i = false → (R (l i) ↔ R (h i))) : ∀ e, e ≤ E → ∀ u v, LA l h e u = LA l h e v → (R u ↔ R v)
  | 0, _, u, v, q => by rw [show u = v from q]
  | e + 1, he, u, v, q => by
    have ih := tree_cl hR e (by omega)
    cases c : isCh l h e with
    | true =>
      rw [show LA l h (e + 1) = LA l h e from lb_same (of_decide_eq_true c)] at q
      exact ih u v q
    | false =>
      have hle := hR e (by omega) c
      rw [LA_s, LA_s] at q
      by_cases c1 : LA l h e u = LA l h e (h e)
      · rw [if_pos c1] at q
        by_cases c2 : LA l h e v = LA l h e (h e)
        · exact ih u v (c1.trans c2.symm)
        · rw [if_neg c2] at q
          exact ((ih _ _ c1).trans hle.symm).trans (ih _ _ q)
      · rw [if_neg c1] at q
        by_cases c2 : LA l h e v = LA l h e (h e)
        · rw [if_pos c2] at q
          exact (ih _ _ q).trans (hle.trans (ih _ _ c2).symm)
        · rw [if_neg c2] at q
          exact ih u v q
/-- a way along edges of the tree below e: each edge with the node behind it -/
def isP (l h : Nat → Nat) (e : Nat) : Nat → BL → Nat → Prop
  | u, [], v => u = v
  | u, p :: L, v => p.1 < e ∧ isCh l h p.1 = false ∧ ((l p.1 = u ∧ h p.1 = p.2) ∨ (h p.1 = u ∧ l p.1 = p.2)) ∧ isP l h e p.2 L v
/-- no node twice -/
def ndP : Nat → BL → Prop
  | _, [] => True
  | u, p :: L => (∀ q ∈ p :: L, q.2 ≠ u) ∧ ndP p.2 L
theorem isP_up {l h : Nat → Nat} {e e2 : Nat} (he : e ≤ e2) : ∀ {u : Nat} {L : BL} {v : Nat}, isP l h e u L v → isP l h e2 u L v
  | u, [], v, q => q
  | u, p :: L, v, q => ⟨by have := q.1; omega, q.2.1, q.2.2.1, isP_up he q.2.2.2⟩
theorem isP_lab {l h : Nat → Nat} {e : Nat} : ∀ {u : Nat} {L : BL} {v : Nat}, isP l h e u L v → (∀ q ∈ L, LA l h e q.2 = LA l h e u) ∧ LA l h e v = LA l h e u
  | u, [], v, q => ⟨fun _ w => absurd w List.not_mem_nil, congrArg _ (show u = v from q).symm⟩
  | u, p :: L, v, q => by
    obtain ⟨q1, q2, q3, q4⟩ := q
    have hk := LA_in (l := l) (h := h) q1
    have hp : LA l h e p.2 = LA l h e u := by
      rcases q3 with ⟨a, b⟩ | ⟨a, b⟩
      · rw [← a, ← b, hk]
      · rw [← a, ← b, hk]
    obtain ⟨i1, i2⟩ := isP_lab q4
    refine ⟨fun r hr => ?_, i2.trans hp⟩
    rcases List.mem_cons.mp hr with w | w
    · rw [w]; exact hp
    · exact (i1 r w).trans hp
theorem isP_app {l h : Nat → Nat} {e : Nat} : ∀ {u : Nat} {L : BL} {v : Nat} {K : BL} {w : Nat}, isP l h e u L v → isP l h e v K w → isP l h e u (L ++ K) w
  | u, [], v, K, w, q, r => by rw [show u = v from q]; exact r
  | u, p :: L, v, K, w, q, r => ⟨q.1, q.2.1, q.2.2.1, isP_app q.2.2.2 r⟩
theorem ndP_app : ∀ {u : Nat} {L K : BL} {v : Nat} {l h : Nat → Nat} {e : Nat}, isP l h e u L v → ndP u L → ndP v K → (∀ q ∈ K, q.2 ≠ u) → (∀ q ∈ K, ∀ r ∈ L, q.2 ≠ r.2) → ndP u (L ++ K)
  | u, [], K, v, l, h, e, q, _, hK, _, _ => by rw [show u = v from q]; exact hK
  | u, p :: L, K, v, l, h, e, q, hL, hK, h1, h2 => by
    refine ⟨fun r hr => ?_, ndP_app q.2.2.2 hL.2 hK (fun r hr => h2 r hr p List.mem_cons_self) (fun r hr s hs => h2 r hr s (List.mem_cons_of_mem _ hs))⟩
    rcases List.mem_append.mp (show r ∈ (p :: L) ++ K from hr) with w | w
    · exact hL.1 r w
    · exact h1 r w
/-- two nodes of one part are joined by a way without a node twice -/
theorem P_ex {l h : Nat → Nat} : ∀ e u v, LA l h e u = LA l h e v → ∃ L, isP l h e u L v ∧ ndP u L
  | 0, u, v, q => ⟨[], q, trivial⟩
  | e + 1, u, v, q => by
    have ih := P_ex (l := l) (h := h) e
    cases c : isCh l h e with
    | true =>
      rw [show LA l h (e + 1) = LA l h e from lb_same (of_decide_eq_true c)] at q
      obtain ⟨L, h1, h2⟩ := ih u v q
      exact ⟨L, isP_up (by omega) h1, h2⟩
    | false =>
      have hne := isCh_ne c
      have hj : ∀ u v (c1 : LA l h e u = LA l h e (l e)) (c2 : LA l h e (h e) = LA l h e v), ∃ L, isP l h (e + 1) u L v ∧ ndP u L := fun u v c1 c2 => by
        obtain ⟨L, h1, h2⟩ := ih _ _ c1
        obtain ⟨K, k1, k2⟩ := ih _ _ c2
        have lL := isP_lab h1
        have lK := isP_lab k1
        refine ⟨L ++ (e, h e) :: K, isP_app (isP_up (by omega) h1) ⟨by omega, c, Or.inl ⟨rfl, rfl⟩, isP_up (by omega) k1⟩, ndP_app h1 h2 ⟨fun r hr => ?_, k2⟩ (fun r hr => ?_) (fun r hr s hs => ?_)⟩
        · intro w
          rcases List.mem_cons.mp hr with y | y
          · rw [y] at w
            exact hne (congrArg _ w).symm
          · have := lK.1 r y
            rw [w] at this
            exact hne this
        · intro w
          rcases List.mem_cons.mp hr with y | y
          · rw [y] at w
            have w' : h e = u := w
            rw [← w'] at c1
            exact hne c1.symm
          · have := lK.1 r y
            rw [w, c1] at this
            exact hne this
        · intro w
          have a1 := lL.1 s hs
          rcases List.mem_cons.mp hr with y | y
          · rw [y] at w
            have w' : h e = s.2 := w
            rw [← w', c1] at a1
            exact hne a1.symm
          · have := lK.1 r y
            rw [w, a1, c1] at this
            exact hne this
      have hj2 : ∀ u v (c1 : LA l h e u = LA l h e (h e)) (c2 : LA l h e (l e) = LA l h e v), ∃ L, isP l h (e + 1) u L v ∧ ndP u L := fun u v c1 c2 => by
        obtain ⟨L, h1, h2⟩ := ih _ _ c1
        obtain ⟨K, k1, k2⟩ := ih _ _ c2
        have lL := isP_lab h1
        have lK := isP_lab k1
        refine ⟨L ++ (e, l e) :: K, isP_app (isP_up (by omega) h1) ⟨by omega, c, Or.inr ⟨rfl, rfl⟩, isP_up (by omega) k1⟩, ndP_app h1 h2 ⟨fun r hr => ?_, k2⟩ (fun r hr => ?_) (fun r hr s hs => ?_)⟩
        · intro w
          rcases List.mem_cons.mp hr with y | y
          · rw [y] at w
            exact hne (congrArg _ w)
          · have := lK.1 r y
            rw [w] at this
            exact hne this.symm
        · intro w
          rcases List.mem_cons.mp hr with y | y
          · rw [y] at w
            have w' : l e = u := w
            rw [← w'] at c1
            exact hne c1
          · have := lK.1 r y
            rw [w, c1] at this
            exact hne this.symm
        · intro w
          have a1 := lL.1 s hs
          rcases List.mem_cons.mp hr with y | y
          · rw [y] at w
            have w' : l e = s.2 := w
            rw [← w', c1] at a1
            exact hne a1
          · have := lK.1 r y
            rw [w, a1, c1] at this
            exact hne this.symm
      rw [LA_s, LA_s] at q
      by_cases c1 : LA l h e u = LA l h e (h e)
      · rw [if_pos c1] at q
        by_cases c2 : LA l h e v = LA l h e (h e)
        · obtain ⟨L, h1, h2⟩ := ih u v (c1.trans c2.symm)
          exact ⟨L, isP_up (by omega) h1, h2⟩
        · rw [if_neg c2] at q
          exact hj2 u v c1 q
      · rw [if_neg c1] at q
        by_cases c2 : LA l h e v = LA l h e (h e)
        · rw [if_pos c2] at q
          exact hj u v q c2.symm
        · rw [if_neg c2] at q
          obtain ⟨L, h1, h2⟩ := ih u v q
          exact ⟨L, isP_up (by omega) h1, h2⟩
/-- the edges of a way -/
def mkP : BL → Nat
  | [] => 0
  | p :: L => 2 ^ p.1 ^^^ mkP L
theorem mkP_pm {l h : Nat → Nat} {e : Nat} : ∀ {u : Nat} {L : BL} {v : Nat}, isP l h e u L v → mkP L = pm l h e u ^^^ pm l h e v
  | u, [], v, q => by rw [show u = v from q, Nat.xor_self]; rfl
  | u, p :: L, v, q => by
    obtain ⟨q1, q2, q3, q4⟩ := q
    have ih := mkP_pm q4
    have ht := pm_T (l := l) (h := h) e p.1 q1 q2
    have ht2 : pm l h e u ^^^ pm l h e p.2 = 2 ^ p.1 := by
      rcases q3 with ⟨a, b⟩ | ⟨a, b⟩
      · rw [← a, ← b, Nat.xor_comm]; exact ht
      · rw [← a, ← b]; exact ht
    rw [mkP, ih, ← ht2, Nat.xor_assoc, ← Nat.xor_assoc (pm l h e p.2), Nat.xor_self, Nat.zero_xor]
/-- no edge of the rest touches a node that is behind -/
theorem ndP_e {l h : Nat → Nat} {e x : Nat} : ∀ {u : Nat} {L : BL} {v : Nat}, isP l h e u L v → u ≠ x → (∀ q ∈ L, q.2 ≠ x) → ∀ q ∈ L, l q.1 ≠ x ∧ h q.1 ≠ x
  | u, [], v, _, _, _, q, hq => absurd hq List.not_mem_nil
  | u, p :: L, v, hP, hu, hx, q, hq => by
    obtain ⟨q1, q2, q3, q4⟩ := hP
    have hp := hx p List.mem_cons_self
    rcases List.mem_cons.mp hq with w | w
    · rw [w]
      rcases q3 with ⟨a, b⟩ | ⟨a, b⟩
      · rw [a, b]; exact ⟨hu, hp⟩
      · rw [a, b]; exact ⟨hp, hu⟩
    · exact ndP_e q4 hp (fun r hr => hx r (List.mem_cons_of_mem _ hr)) q w
theorem touch_p {l h : Nat → Nat} {e u v : Nat} {p : Nat × Nat} {L : BL} (hP : isP l h e u (p :: L) v) (hn : ndP u (p :: L)) : (∀ q ∈ L, l q.1 ≠ u ∧ h q.1 ≠ u) ∧ ∀ q ∈ L, q.1 ≠ p.1 := by
  have h1 := ndP_e hP.2.2.2 (hn.1 p List.mem_cons_self) (fun r hr => hn.1 r (List.mem_cons_of_mem _ hr))
  refine ⟨h1, fun q hq w => ?_⟩
  have h2 := h1 q hq
  rw [w] at h2
  rcases hP.2.2.1 with ⟨a, _⟩ | ⟨a, _⟩
  · exact h2.1 a
  · exact h2.2 a
theorem mkP_bit {l h : Nat → Nat} {e : Nat} : ∀ {u : Nat} {L : BL} {v : Nat}, isP l h e u L v → ndP u L → ∀ j, (mkP L).testBit j = true ↔ ∃ q ∈ L, q.1 = j
  | u, [], v, _, _, j => ⟨fun w => by rw [mkP, Nat.zero_testBit] at w; exact Bool.noConfusion w, fun ⟨q, hq, _⟩ => absurd hq List.not_mem_nil⟩
  | u, p :: L, v, hP, hn, j => by
    have ih := mkP_bit hP.2.2.2 hn.2 j
    have hd := (touch_p hP hn).2
    rw [mkP, Nat.testBit_xor]
    by_cases c : p.1 = j
    · have hf : (mkP L).testBit j = false := Bool.eq_false_iff.mpr fun w => by
        obtain ⟨q, hq, e9⟩ := ih.mp w
        exact hd q hq (e9.trans c.symm)
      rw [hf, c, Nat.testBit_two_pow_self]
      exact ⟨fun _ => ⟨p, List.mem_cons_self, c⟩, fun _ => rfl⟩
    · rw [Nat.testBit_two_pow_of_ne c, Bool.false_xor, ih]
      exact ⟨fun ⟨q, hq, e9⟩ => ⟨q, List.mem_cons_of_mem _ hq, e9⟩, fun ⟨q, hq, e9⟩ => by
        rcases List.mem_cons.mp hq with w | w
        · rw [w] at e9
          exact absurd e9 c
        · exact ⟨q, w, e9⟩⟩
/-- the bits of a way if all its edges lead it -/
def wyP (h : Nat → Nat) : Nat → BL → Nat
  | _, [] => 0
  | u, p :: L => (if h p.1 = u then 2 ^ p.1 else 0) ||| wyP h p.2 L
theorem wyP_bit {h : Nat → Nat} : ∀ {u : Nat} {L : BL} (j : Nat), (wyP h u L).testBit j = true → ∃ q ∈ L, q.1 = j
  | u, [], j, w => by rw [wyP, Nat.zero_testBit] at w; exact Bool.noConfusion w
  | u, p :: L, j, w => by
    rw [wyP, Nat.testBit_or, Bool.or_eq_true] at w
    rcases w with w | w
    · split at w
      · by_cases c : p.1 = j
        · exact ⟨p, List.mem_cons_self, c⟩
        · rw [Nat.testBit_two_pow_of_ne c] at w
          exact Bool.noConfusion w
      · rw [Nat.zero_testBit] at w
        exact Bool.noConfusion w
    · obtain ⟨q, hq, e⟩ := wyP_bit j w
      exact ⟨q, List.mem_cons_of_mem _ hq, e⟩
/-- W tells for each edge of a way how it lies when it leads the way -/
def wyO (h : Nat → Nat) (W : Nat) : Nat → BL → Prop
  | _, [] => True
  | u, p :: L => W.testBit p.1 = decide (h p.1 = u) ∧ wyO h W p.2 L
theorem wyO_or {h : Nat → Nat} {W b : Nat} : ∀ {u : Nat} {L : BL}, wyO h W u L → (∀ q ∈ L, b.testBit q.1 = false) → wyO h (b ||| W) u L
  | u, [], _, _ => trivial
  | u, p :: L, q, hb => ⟨by rw [Nat.testBit_or, hb p List.mem_cons_self, Bool.false_or]; exact q.1, wyO_or q.2 (fun r hr => hb r (List.mem_cons_of_mem _ hr))⟩
theorem wyP_ok {l h : Nat → Nat} {e : Nat} : ∀ {u : Nat} {L : BL} {v : Nat}, isP l h e u L v → ndP u L → wyO h (wyP h u L) u L
  | u, [], v, _, _ => trivial
  | u, p :: L, v, hP, hn => by
    have ih := wyP_ok hP.2.2.2 hn.2
    have hd := (touch_p hP hn).2
    refine ⟨?_, wyO_or ih (fun q hq => ?_)⟩
    · rw [wyP, Nat.testBit_or]
      have hf : (wyP h p.2 L).testBit p.1 = false := Bool.eq_false_iff.mpr fun w => by
        obtain ⟨q, hq, e9⟩ := wyP_bit _ w
        exact hd q hq e9
      rw [hf, Bool.or_false]
      by_cases c : h p.1 = u
      · rw [if_pos c, Nat.testBit_two_pow_self, decide_eq_true c]
      · rw [if_neg c, Nat.zero_testBit, decide_eq_false c]
    · split
      · exact Nat.testBit_two_pow_of_ne (hd q hq).symm
      · exact Nat.zero_testBit _
/-- going a way: up and down -/
def psP (h : Nat → Nat) (x : Int32) : Nat → BL → Int
  | _, [] => 0
  | u, p :: L => (if bt x p.1 = decide (h p.1 = u) then 1 else -1) + psP h x p.2 L
theorem psP_ph {l h : Nat → Nat} {x : Int32} {E : Nat} (hlh : ∀ i, i < E → l i ≠ h i) : ∀ {u : Nat} {L : BL} {v : Nat}, isP l h E u L v → psP h x u L = ph l h x E v - ph l h x E u
  | u, [], v, q => by rw [show u = v from q, psP]; omega
  | u, p :: L, v, hP => by
    obtain ⟨q1, q2, q3, q4⟩ := hP
    have ih := psP_ph (x := x) hlh q4
    have ht := ph_T (l := l) (h := h) (x := x) E p.1 q1 q2
    have hne := hlh p.1 q1
    rw [psP, ih]
    unfold sg at ht
    rcases q3 with ⟨a, b⟩ | ⟨a, b⟩
    · rw [b, a] at ht
      rw [decide_eq_false (fun w => hne (a.trans w.symm))]
      cases c : bt x p.1 with
      | true =>
        rw [c] at ht
        have ht' : ph l h x E p.2 - ph l h x E u = -1 := ht
        rw [if_neg Bool.noConfusion]
        omega
      | false =>
        rw [c] at ht
        have ht' : ph l h x E p.2 - ph l h x E u = 1 := ht
        rw [if_pos rfl]
        omega
    · rw [b, a] at ht
      rw [decide_eq_true a]
      cases c : bt x p.1 with
      | true =>
        rw [c] at ht
        have ht' : ph l h x E u - ph l h x E p.2 = -1 := ht
        rw [if_pos rfl]
        omega
      | false =>
        rw [c] at ht
        have ht' : ph l h x E u - ph l h x E p.2 = 1 := ht
        rw [if_neg Bool.noConfusion]
        omega
theorem ct_ins {p q : Nat → Bool} {i n : Nat} (hi : i < n) (hp : p i = false) (hq : ∀ k, k ≠ i → q k = p k) : fb_ct q n = fb_ct p n + (if q i then 1 else 0) := by
  have h1 := fb_ct_upd p (q i) hi
  have h2 : fb_ct q n = fb_ct (fun k => if k = i then q i else p k) n := fb_ct_cong fun k _ => by
    show q k = if k = i then q i else p k
    by_cases c : k = i
    · rw [if_pos c, c]
    · rw [if_neg c]
      exact hq k c
  rw [hp] at h1
  have h3 : (if (false : Bool) = true then 1 else 0) = 0 := rfl
  omega
/-- how many edges of a way lie otherwise, and the way's sum -/
theorem psP_ct {l h : Nat → Nat} {e a W : Nat} (he : e ≤ 10) : ∀ {u : Nat} {L : BL} {v : Nat}, isP l h e u L v → ndP u L → wyO h W u L → (fb_ct (fun j => (mkP L).testBit j) 12 : Int) - 2 * fb_ct (fun j => ((a ^^^ W) &&& mkP L).testBit j) 12 = psP h (nI a) u L
  | u, [], v, _, _, _ => by
    have h1 : fb_ct (fun j => (mkP []).testBit j) 12 = 0 := fb_ct_zero.mpr fun k _ => Nat.zero_testBit k
    have h2 : fb_ct (fun j => ((a ^^^ W) &&& mkP []).testBit j) 12 = 0 := fb_ct_zero.mpr fun k _ => by
      show ((a ^^^ W) &&& 0).testBit k = false
      rw [Nat.and_zero, Nat.zero_testBit]
    rw [h1, h2]
    rfl
  | u, p :: L, v, hP, hn, hw => by
    have ih := psP_ct (a := a) he hP.2.2.2 hn.2 hw.2
    have hd := (touch_p hP hn).2
    have hp12 : p.1 < 12 := by have := hP.1; omega
    have hf : (mkP L).testBit p.1 = false := Bool.eq_false_iff.mpr fun w => by
      obtain ⟨q, hq, e9⟩ := (mkP_bit hP.2.2.2 hn.2 _).mp w
      exact hd q hq e9
    have hb : ∀ k, (mkP (p :: L)).testBit k = if k = p.1 then true else (mkP L).testBit k := fun k => by
      rw [mkP, Nat.testBit_xor]
      by_cases c : k = p.1
      · rw [if_pos c, c, hf, Nat.testBit_two_pow_self]
        rfl
      · rw [if_neg c, Nat.testBit_two_pow_of_ne (fun w => c w.symm), Bool.false_xor]
    have h1 := ct_ins (p := fun j => (mkP L).testBit j) (q := fun j => (mkP (p :: L)).testBit j) hp12 hf (fun k hk => by rw [hb, if_neg hk])
    have h2 := ct_ins (p := fun j => ((a ^^^ W) &&& mkP L).testBit j) (q := fun j => ((a ^^^ W) &&& mkP (p :: L)).testBit j) hp12 (by rw [Nat.testBit_and, hf, Bool.and_false]) (fun k hk => by rw [Nat.testBit_and, Nat.testBit_and, hb, if_neg hk])
    have b1 : (mkP (p :: L)).testBit p.1 = true := by rw [hb, if_pos rfl]
    have b2 : ((a ^^^ W) &&& mkP (p :: L)).testBit p.1 = (a.testBit p.1 ^^ decide (h p.1 = u)) := by rw [Nat.testBit_and, b1, Bool.and_true, Nat.testBit_xor, hw.1]
    rw [h1, h2, psP, ← ih, b1, b2, b_nI a (by omega)]
    cases a.testBit p.1 <;> cases decide (h p.1 = u) <;> simp <;> omega

