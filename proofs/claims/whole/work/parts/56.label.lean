/-! ===== which nodes edges of a set join ===== -/
/-- the label of a node when the first e edges, as far as they are of S, have joined -/
def lb (l h : Nat → Nat) (S : Nat → Bool) : Nat → Nat → Nat
  | 0, v => v
  | e + 1, v => if S e = true ∧ lb l h S e v = lb l h S e (h e) then lb l h S e (l e) else lb l h S e v
/-- how many of them joined parts that were not joined -/
def rk (l h : Nat → Nat) (S : Nat → Bool) : Nat → Nat
  | 0 => 0
  | e + 1 => if S e = true ∧ ¬ lb l h S e (l e) = lb l h S e (h e) then rk l h S e + 1 else rk l h S e
theorem lb_n {l h : Nat → Nat} {S : Nat → Bool} {e : Nat} (q : S e = false) : lb l h S (e + 1) = lb l h S e := funext fun v => by
  rw [lb, if_neg (fun w => by rw [q] at w; exact Bool.noConfusion w.1)]
theorem lb_y {l h : Nat → Nat} {S : Nat → Bool} {e : Nat} (q : S e = true) (v : Nat) : lb l h S (e + 1) v = if lb l h S e v = lb l h S e (h e) then lb l h S e (l e) else lb l h S e v := by
  rw [lb]
  by_cases c : lb l h S e v = lb l h S e (h e)
  · rw [if_pos ⟨q, c⟩, if_pos c]
  · rw [if_neg (fun w => c w.2), if_neg c]
theorem lb_same {l h : Nat → Nat} {S : Nat → Bool} {e : Nat} (q : lb l h S e (l e) = lb l h S e (h e)) : lb l h S (e + 1) = lb l h S e := funext fun v => by
  rw [lb]
  by_cases c : S e = true ∧ lb l h S e v = lb l h S e (h e)
  · rw [if_pos c, q, c.2]
  · rw [if_neg c]
theorem lb_resp {l h : Nat → Nat} {S : Nat → Bool} {e u v : Nat} (q : lb l h S e u = lb l h S e v) : lb l h S (e + 1) u = lb l h S (e + 1) v := by
  rw [lb, lb, q]
theorem lb_join {l h : Nat → Nat} {S : Nat → Bool} {e : Nat} (q : S e = true) : lb l h S (e + 1) (l e) = lb l h S (e + 1) (h e) := by
  rw [lb_y q, lb_y q, if_pos rfl]
  by_cases c : lb l h S e (l e) = lb l h S e (h e)
  · rw [if_pos c]
  · rw [if_neg c]
theorem lb_cong {l h : Nat → Nat} {S T : Nat → Bool} : ∀ e, (∀ i, i < e → S i = T i) → lb l h S e = lb l h T e
  | 0, _ => rfl
  | e + 1, q => by
    have ih := lb_cong (l := l) (h := h) (S := S) (T := T) e (fun i hi => q i (by omega))
    funext v
    rw [lb, lb, ih, q e (by omega)]
theorem rk_cong {l h : Nat → Nat} {S T : Nat → Bool} : ∀ e, (∀ i, i < e → S i = T i) → rk l h S e = rk l h T e
  | 0, _ => rfl
  | e + 1, q => by
    have ih := rk_cong (l := l) (h := h) (S := S) (T := T) e (fun i hi => q i (by omega))
    rw [rk, rk, ih, lb_cong e (fun i hi => q i (by omega)), q e (by omega)]
theorem lb_out {l h : Nat → Nat} {S : Nat → Bool} {e : Nat} (q : ∀ i, e ≤ i → S i = false) : ∀ j, lb l h S (e + j) = lb l h S e
  | 0 => rfl
  | j + 1 => by rw [← Nat.add_assoc, lb_n (q _ (by omega)), lb_out q j]
theorem rk_out {l h : Nat → Nat} {S : Nat → Bool} {e : Nat} (q : ∀ i, e ≤ i → S i = false) : ∀ j, rk l h S (e + j) = rk l h S e
  | 0 => rfl
  | j + 1 => by
    rw [← Nat.add_assoc, rk, if_neg (fun w => by rw [q _ (by omega)] at w; exact Bool.noConfusion w.1), rk_out q j]
theorem lb_lt {l h : Nat → Nat} {S : Nat → Bool} {N E : Nat} (hb : ∀ e, e < E → l e < N ∧ h e < N) : ∀ e, e ≤ E → ∀ v, v < N → lb l h S e v < N
  | 0, _, v, hv => hv
  | e + 1, he, v, hv => by
    have ih := lb_lt (S := S) hb e (by omega)
    rw [lb]
    split
    · exact ih _ (hb e (by omega)).1
    · exact ih v hv
theorem lb_idem {l h : Nat → Nat} {S : Nat → Bool} : ∀ e v, lb l h S e (lb l h S e v) = lb l h S e v
  | 0, v => rfl
  | e + 1, v => by
    have ih := lb_idem (l := l) (h := h) (S := S) e
    cases q : S e with
    | false => rw [lb_n q]; exact ih v
    | true =>
      by_cases c : lb l h S e (l e) = lb l h S e (h e)
      · rw [lb_same c]; exact ih v
      · rw [lb_y q v]
        by_cases d : lb l h S e v = lb l h S e (h e)
        · rw [if_pos d, lb_y q, ih, if_neg c]
        · rw [if_neg d, lb_y q, ih, if_neg d]
/-- how many parts there are -/
def fx (l h : Nat → Nat) (S : Nat → Bool) (e N : Nat) : Nat := fb_ct (fun v => decide (lb l h S e v = v)) N
theorem fx_rk {l h : Nat → Nat} {S : Nat → Bool} {N E : Nat} (hb : ∀ e, e < E → l e < N ∧ h e < N) : ∀ e, e ≤ E → fx l h S e N + rk l h S e = N
  | 0, _ => by
    have : fx l h S 0 N = N := fb_ct_all.mpr fun k _ => decide_eq_true rfl
    rw [this]
    rfl
  | e + 1, he => by
    have ih := fx_rk (S := S) hb e (by omega)
    cases q : S e with
    | false =>
      unfold fx at ih ⊢
      rw [lb_n q, rk, if_neg (fun w => by rw [q] at w; exact Bool.noConfusion w.1)]
      exact ih
    | true =>
      by_cases c : lb l h S e (l e) = lb l h S e (h e)
      · unfold fx at ih ⊢
        rw [lb_same c, rk, if_neg (fun w => w.2 c)]
        exact ih
      · rw [rk, if_pos ⟨q, c⟩]
        have hoN := lb_lt (S := S) hb e (by omega) (h e) (hb e (by omega)).2
        have hid := lb_idem (l := l) (h := h) (S := S) e
        have h1 := fb_ct_upd (fun v => decide (lb l h S e v = v)) false hoN
        have h2 : fx l h S (e + 1) N = fb_ct (fun k => if k = lb l h S e (h e) then false else decide (lb l h S e k = k)) N := fb_ct_cong fun k _ => by
          show decide (lb l h S (e + 1) k = k) = _
          rw [lb_y q]
          by_cases d : k = lb l h S e (h e)
          · rw [if_pos d]
            refine decide_eq_false fun w => ?_
            rw [d, hid, if_pos rfl] at w
            exact c w
          · rw [if_neg d]
            refine decide_eq_decide.mpr ⟨fun w => ?_, fun w => ?_⟩
            · by_cases f : lb l h S e k = lb l h S e (h e)
              · rw [if_pos f] at w
                rw [← w, hid] at f
                exact absurd f c
              · rw [if_neg f] at w
                exact w
            · rw [if_neg (fun f => d (by rw [← w]; exact f))]
              exact w
        rw [if_pos (decide_eq_true (hid (h e)))] at h1
        unfold fx at ih h2 ⊢
        rw [h2]
        have h3 : (if (false : Bool) = true then 1 else 0) = 0 := rfl
        omega
theorem lb_ref {l h : Nat → Nat} {S T : Nat → Bool} (hs : ∀ i, S i = true → T i = true) : ∀ e u v, lb l h S e u = lb l h S e v → lb l h T e u = lb l h T e v
  | 0, u, v, q => q
  | e + 1, u, v, q => by
    have ih := lb_ref (l := l) (h := h) hs e
    cases c : S e with
    | false =>
      rw [lb_n c] at q
      exact lb_resp (ih u v q)
    | true =>
      have hj := lb_join (l := l) (h := h) (S := T) (hs e c)
      rw [lb_y c, lb_y c] at q
      by_cases c1 : lb l h S e u = lb l h S e (h e)
      · rw [if_pos c1] at q
        by_cases c2 : lb l h S e v = lb l h S e (h e)
        · exact lb_resp ((ih _ _ c1).trans (ih _ _ c2).symm)
        · rw [if_neg c2] at q
          rw [lb_resp (ih _ _ c1), ← hj]
          exact lb_resp (ih _ _ q)
      · rw [if_neg c1] at q
        by_cases c2 : lb l h S e v = lb l h S e (h e)
        · rw [if_pos c2] at q
          rw [lb_resp (ih _ _ c2), ← hj]
          exact lb_resp (ih _ _ q)
        · rw [if_neg c2] at q
          exact lb_resp (ih _ _ q)
theorem ct_inj {p q : Nat → Bool} {n : Nat} {f : Nat → Nat} (h1 : ∀ i, i < n → p i = true → f i < n ∧ q (f i) = true) (h2 : ∀ i j, i < n → j < n → p i = true → p j = true → f i = f j → i = j) : fb_ct p n ≤ fb_ct q n := by
  have hex : ∀ k, ∃ i, k < fb_ct p n → i < n ∧ p i = true ∧ fb_ct p i = k := fun k => by
    by_cases hk : k < fb_ct p n
    · obtain ⟨i, hi⟩ := fb_ct_kth hk
      exact ⟨i, fun _ => hi⟩
    · exact ⟨0, fun w => absurd w hk⟩
  refine fb_holes (fb_ct q n) (fb_ct p n) (fun k => fb_ct q (f (Classical.choose (hex k)))) (fun k hk => ?_) (fun j k hjk hk w => ?_)
  · obtain ⟨a1, a2, a3⟩ := Classical.choose_spec (hex k) hk
    obtain ⟨b1, b2⟩ := h1 _ a1 a2
    have h3 := fb_ct_mono q (show f (Classical.choose (hex k)) + 1 ≤ n from b1)
    rw [fb_ct_succ, if_pos b2] at h3
    show fb_ct q (f (Classical.choose (hex k))) < _
    omega
  · obtain ⟨a1, a2, a3⟩ := Classical.choose_spec (hex k) hk
    obtain ⟨c1, c2, c3⟩ := Classical.choose_spec (hex j) (by omega)
    have e1 := fb_ct_kth_one (h1 _ c1 c2).2 (h1 _ a1 a2).2 w
    have e2 := h2 _ _ c1 a1 c2 a2 e1
    have e3 : fb_ct p (Classical.choose (hex j)) = fb_ct p (Classical.choose (hex k)) := congrArg _ e2
    omega
theorem rk_mono {l h : Nat → Nat} {S T : Nat → Bool} {N E : Nat} (hb : ∀ e, e < E → l e < N ∧ h e < N) (hs : ∀ i, S i = true → T i = true) : rk l h S E ≤ rk l h T E := by
  have h1 := fx_rk (S := S) hb E (Nat.le_refl _)
  have h2 := fx_rk (S := T) hb E (Nat.le_refl _)
  have h3 : fx l h T E N ≤ fx l h S E N := ct_inj (f := lb l h S E) (fun i hi _ => ⟨lb_lt hb E (Nat.le_refl _) i hi, decide_eq_true (lb_idem E i)⟩) (fun i j _ _ hi hj e => by
    have := lb_ref hs E i j e
    rw [of_decide_eq_true hi, of_decide_eq_true hj] at this
    exact this)
  omega
theorem rk_N {l h : Nat → Nat} {S : Nat → Bool} {N E : Nat} (hN : 1 ≤ N) (hb : ∀ e, e < E → l e < N ∧ h e < N) : rk l h S E ≤ N - 1 := by
  have h1 := fx_rk (S := S) hb E (Nat.le_refl _)
  have h2 : 0 < fx l h S E N := fb_ct_pos.mpr ⟨lb l h S E 0, lb_lt hb E (Nat.le_refl _) 0 hN, decide_eq_true (lb_idem E 0)⟩
  omega
theorem rk_ct {l h : Nat → Nat} {S : Nat → Bool} : ∀ e, rk l h S e ≤ fb_ct S e
  | 0 => Nat.le_refl _
  | e + 1 => by
    have ih := rk_ct (l := l) (h := h) (S := S) e
    rw [rk, fb_ct_succ]
    split
    · rename_i q
      rw [if_pos q.1]
      omega
    · omega
theorem range_ct (p : Nat → Bool) : ∀ n, (List.range n).countP p = fb_ct p n
  | 0 => rfl
  | n + 1 => by
    rw [List.range_succ, List.countP_append, range_ct p n, fb_ct_succ, List.countP_singleton]
theorem popc_ct (n : Nat) : popc n = fb_ct (fun i => n.testBit i) 12 := range_ct _ 12
theorem rk_popc {l h : Nat → Nat} {E s : Nat} (hE : E ≤ 10) : rk l h (fun i => s.testBit i) E ≤ popc s := by
  rw [popc_ct]
  exact Nat.le_trans (rk_ct E) (fb_ct_mono _ (by omega))
theorem popc_E {E s : Nat} (hE : E ≤ 10) (hs : s < 2 ^ E) : popc s ≤ 10 := by
  rw [popc_ct]
  have h1 := fb_ct_split (fun i => s.testBit i) E (12 - E)
  rw [show E + (12 - E) = 12 by omega] at h1
  have h2 : fb_ct (fun k => s.testBit (E + k)) (12 - E) = 0 := fb_ct_zero.mpr fun k _ => Nat.testBit_lt_two_pow (Nat.lt_of_lt_of_le hs (p2 (by omega)))
  have h3 := fb_ct_le (fun i => s.testBit i) E
  rw [h1]
  have h2' : fb_ct (fun k => (fun i => s.testBit i) (E + k)) (12 - E) = 0 := h2
  omega

