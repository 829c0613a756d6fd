/-! ===== classes: the numbers ===== -/
/-- a relation that parts -/
def ER (r : Nat → Nat → Bool) : Prop := (∀ a, r a a = true) ∧ (∀ a b, r a b = true → r b a = true) ∧ ∀ a b c, r a b = true → r b c = true → r a c = true
/-- the least of its class -/
def isHd (p : Nat → Bool) (r : Nat → Nat → Bool) (a : Nat) : Bool := p a && decide (∀ b, b < a → ¬ (p b = true ∧ r b a = true))
def hdo (p : Nat → Bool) (r : Nat → Nat → Bool) (a : Nat) : Nat := fa_first (fun b => p b && r b a) (a + 1)
def hdc (p : Nat → Bool) (r : Nat → Nat → Bool) (n : Nat) : Nat := fb_ct (isHd p r) n
def idx (p : Nat → Bool) (r : Nat → Nat → Bool) (a : Nat) : Nat := hdc p r (hdo p r a)
def szN (p : Nat → Bool) (r : Nat → Nat → Bool) (n k : Nat) : Nat := fb_ct (fun b => p b && decide (idx p r b = k)) n
section CLN
variable {p : Nat → Bool} {r : Nat → Nat → Bool}
theorem isHd_p {a : Nat} (h : isHd p r a = true) : p a = true := by
  unfold isHd at h
  rw [Bool.and_eq_true] at h
  exact h.1
theorem isHd_no {a b : Nat} (h : isHd p r a = true) (hb : b < a) (hp : p b = true) : ¬ r b a = true := by
  unfold isHd at h
  rw [Bool.and_eq_true] at h
  exact fun w => of_decide_eq_true h.2 b hb ⟨hp, w⟩
theorem hdo_1 (hr : ER r) {a : Nat} (hp : p a = true) : hdo p r a ≤ a ∧ p (hdo p r a) = true ∧ r (hdo p r a) a = true ∧ isHd p r (hdo p r a) = true := by
  have h1 : hdo p r a ≤ a := ff_lt (Nat.lt_succ_self a) (by rw [hp, hr.1]; rfl)
  have h2 := fa_first_yes (fun b => p b && r b a) (a + 1) (Nat.lt_succ_of_le h1)
  have h2' : (p (hdo p r a) && r (hdo p r a) a) = true := h2
  rw [Bool.and_eq_true] at h2'
  refine ⟨h1, h2'.1, h2'.2, ?_⟩
  unfold isHd
  rw [h2'.1, Bool.true_and]
  refine decide_eq_true fun b hb w => ?_
  have h3 := fa_first_no (fun b => p b && r b a) (a + 1) b hb
  have h4 : (p b && r b a) = false := h3
  rw [w.1, hr.2.2 _ _ _ w.2 h2'.2] at h4
  exact Bool.noConfusion h4
theorem hd_one (hr : ER r) {c d : Nat} (hc : isHd p r c = true) (hd : isHd p r d = true) (h : r c d = true) : c = d := by
  rcases Nat.lt_trichotomy c d with w | w | w
  · exact absurd h (isHd_no hd w (isHd_p hc))
  · exact w
  · exact absurd (hr.2.1 _ _ h) (isHd_no hc w (isHd_p hd))
theorem hdo_of (hr : ER r) {a c : Nat} (hp : p a = true) (hc : isHd p r c = true) (h : r c a = true) : hdo p r a = c := by
  obtain ⟨-, -, h3, h4⟩ := hdo_1 hr hp
  exact hd_one hr h4 hc (hr.2.2 _ _ _ h3 (hr.2.1 _ _ h))
theorem hdo_self (hr : ER r) {a : Nat} (h : isHd p r a = true) : hdo p r a = a := hdo_of hr (isHd_p h) h (hr.1 a)
theorem hdo_lt (hr : ER r) {a : Nat} (hp : p a = true) (h : isHd p r a = false) : hdo p r a < a := by
  obtain ⟨h1, -, -, h4⟩ := hdo_1 hr hp
  refine Nat.lt_of_le_of_ne h1 fun w => ?_
  rw [w, h] at h4
  exact Bool.noConfusion h4
theorem hdc_lt {c n : Nat} (hc : isHd p r c = true) (h : c < n) : hdc p r c < hdc p r n := by
  have h1 := fb_ct_mono (isHd p r) (show c + 1 ≤ n from h)
  rw [fb_ct_succ, if_pos hc] at h1
  unfold hdc
  omega
theorem hdc_le (n : Nat) : hdc p r n ≤ n := fb_ct_le _ _
theorem hdc_y {a : Nat} (h : isHd p r a = true) : hdc p r (a + 1) = hdc p r a + 1 := by
  unfold hdc
  rw [fb_ct_succ, if_pos h]
theorem hdc_n {a : Nat} (h : isHd p r a = false) : hdc p r (a + 1) = hdc p r a := by
  unfold hdc
  rw [fb_ct_succ, if_neg (by rw [h]; exact Bool.noConfusion)]
  rfl
theorem hdc_kth {k n : Nat} (h : k < hdc p r n) : ∃ c, c < n ∧ isHd p r c = true ∧ hdc p r c = k := fb_ct_kth h
theorem hdc_one {c d : Nat} (hc : isHd p r c = true) (hd : isHd p r d = true) (e : hdc p r c = hdc p r d) : c = d := fb_ct_kth_one hc hd e
theorem hdc_iff {c d : Nat} (hc : isHd p r c = true) (hd : isHd p r d = true) : hdc p r c < hdc p r d ↔ c < d := by
  refine ⟨fun h => Nat.lt_of_not_le fun w => ?_, fun h => hdc_lt hc h⟩
  have := fb_ct_mono (isHd p r) w
  unfold hdc at h
  omega
theorem idx_lt (hr : ER r) {a n : Nat} (hp : p a = true) (h : a < n) : idx p r a < hdc p r n := by
  obtain ⟨h1, -, -, h4⟩ := hdo_1 hr hp
  exact hdc_lt h4 (by omega)
theorem idx_hd (hr : ER r) {a : Nat} (h : isHd p r a = true) : idx p r a = hdc p r a := by
  unfold idx
  rw [hdo_self hr h]
theorem szN_s (n k : Nat) : szN p r (n + 1) k = szN p r n k + (if p n = true ∧ idx p r n = k then 1 else 0) := by
  unfold szN
  rw [fb_ct_succ]
  by_cases c : p n = true ∧ idx p r n = k
  · rw [if_pos c, c.1, decide_eq_true c.2]
    rfl
  · rw [if_neg c, if_neg (fun w => c (by rw [Bool.and_eq_true] at w; exact ⟨w.1, of_decide_eq_true w.2⟩))]
theorem szN_0 (hr : ER r) {n k : Nat} (h : hdc p r n ≤ k) : szN p r n k = 0 := fb_ct_zero.mpr fun b hb => Bool.eq_false_iff.mpr fun w => by
  rw [Bool.and_eq_true] at w
  have := idx_lt hr w.1 hb
  have := of_decide_eq_true w.2
  omega
theorem szN_le (n k : Nat) : szN p r n k ≤ n := fb_ct_le _ _
end CLN
/-- the classes among the first n, in their rows -/
def CK (p : Nat → Bool) (r : Nat → Nat → Bool) (K : Nat → Nat) (cnt : Int32) (hr sr : Nat → Int32) (kr : Nat → Int64) (n : Nat) : Prop := cnt = nI (hdc p r n) ∧ ∀ c, c < n → isHd p r c = true → hr (hdc p r c) = nI c ∧ sr (hdc p r c) = nI (szN p r n (hdc p r c)) ∧ kr (hdc p r c) = lN (K c)
section CLK
variable {p : Nat → Bool} {r : Nat → Nat → Bool} {K : Nat → Nat} {cnt cnt' : Int32} {hr sr hr' sr' : Nat → Int32} {kr kr' : Nat → Int64} {n : Nat}
theorem CK_skip (h : CK p r K cnt hr sr kr n) (hp : p n = false) : CK p r K cnt hr sr kr (n + 1) := by
  have hh : isHd p r n = false := by unfold isHd; rw [hp, Bool.false_and]
  refine ⟨by rw [hdc_n hh]; exact h.1, fun c hc hc2 => ?_⟩
  have hcn : c ≠ n := fun w => by rw [w, hh] at hc2; exact Bool.noConfusion hc2
  rw [szN_s, if_neg (fun w => by rw [hp] at w; exact Bool.noConfusion w.1)]
  exact h.2 c (by omega) hc2
theorem CK_old (hR : ER r) (h : CK p r K cnt hr sr kr n) (hp : p n = true) (hh : isHd p r n = false) (h1 : cnt' = cnt) (h2 : ∀ k, k < hdc p r n → hr' k = hr k ∧ kr' k = kr k) (h3 : ∀ k, k ≠ idx p r n → sr' k = sr k) (h4 : sr' (idx p r n) = nI (szN p r n (idx p r n) + 1)) : CK p r K cnt' hr' sr' kr' (n + 1) := by
  refine ⟨by rw [hdc_n hh, h1]; exact h.1, fun c hc hc2 => ?_⟩
  have hcn : c ≠ n := fun w => by rw [w, hh] at hc2; exact Bool.noConfusion hc2
  have hcl : c < n := by omega
  obtain ⟨a1, a2, a3⟩ := h.2 c hcl hc2
  have hk := h2 _ (hdc_lt hc2 hcl)
  rw [hk.1, hk.2]
  refine ⟨a1, ?_, a3⟩
  rw [szN_s]
  by_cases w : idx p r n = hdc p r c
  · rw [if_pos ⟨hp, w⟩, ← w]
    exact h4
  · rw [if_neg (fun y => w y.2), h3 _ (fun y => w y.symm)]
    exact a2
theorem CK_new (hR : ER r) (h : CK p r K cnt hr sr kr n) (hh : isHd p r n = true) (h1 : cnt' = nI (hdc p r n + 1)) (h2 : ∀ k, k < hdc p r n → hr' k = hr k ∧ kr' k = kr k ∧ sr' k = sr k) (h3 : hr' (hdc p r n) = nI n) (h4 : sr' (hdc p r n) = 1) (h5 : kr' (hdc p r n) = lN (K n)) : CK p r K cnt' hr' sr' kr' (n + 1) := by
  refine ⟨by rw [hdc_y hh]; exact h1, fun c hc hc2 => ?_⟩
  rcases Nat.lt_or_ge c n with w | w
  · obtain ⟨a1, a2, a3⟩ := h.2 c w hc2
    have hcl := hdc_lt hc2 w
    obtain ⟨b1, b2, b3⟩ := h2 _ hcl
    rw [b1, b2, b3, szN_s, if_neg (fun y => by rw [idx_hd hR hh] at y; omega)]
    exact ⟨a1, a2, a3⟩
  · have : c = n := by omega
    subst this
    rw [szN_s, if_pos ⟨isHd_p hh, idx_hd hR hh⟩, szN_0 hR (Nat.le_refl _), h3, h4, h5]
    exact ⟨rfl, rfl, rfl⟩
/-- where the search for a key ends -/
theorem CK_find (hR : ER r) {a : Nat} (hK : ∀ c, c ≤ a → (K c = K a ↔ r c a = true)) (hKb : ∀ c, c ≤ a → K c < 2 ^ 62) (h : CK p r K cnt hr sr kr a) (hp : p a = true) {k : Nat} (hk : k < hdc p r a) : (k < idx p r a → kr k ≠ lN (K a)) ∧ (k = idx p r a → kr k = lN (K a)) := by
  obtain ⟨c, hc, hc2, rfl⟩ := hdc_kth hk
  obtain ⟨-, -, a3⟩ := h.2 c hc hc2
  constructor
  · intro w y
    rw [a3] at y
    have b1 := hKb c (by omega)
    have b2 := hKb a (Nat.le_refl _)
    have e := (fb_lN_inj (by omega) (by omega)).mp y
    have := hdo_of hR hp hc2 ((hK c (by omega)).mp e)
    unfold idx at w
    rw [this] at w
    omega
  · intro w
    obtain ⟨b1, b2, b3, b4⟩ := hdo_1 hR hp
    have : c = hdo p r a := hdc_one hc2 b4 w
    rw [a3, (hK c (by omega)).mpr (by rw [this]; exact b3)]
end CLK
/-- how many are ahead of class k in the order: by S, of C classes -/
def rkC (S : Nat → Nat) (C k : Nat) : Nat := fb_ct (fun i => decide (S k < S i ∨ (S i = S k ∧ i < k))) C
theorem rkC_lt {S : Nat → Nat} {C k : Nat} (h : k < C) : rkC S C k < C := by
  have h1 := fb_ct_upd (fun i => decide (S k < S i ∨ (S i = S k ∧ i < k))) true h
  have h2 := fb_ct_le (fun j => if j = k then true else decide (S k < S j ∨ (S j = S k ∧ j < k))) C
  rw [if_neg (show ¬ decide (S k < S k ∨ (S k = S k ∧ k < k)) = true from fun w => by have := of_decide_eq_true w; omega)] at h1
  have h3 : (if (true : Bool) = true then 1 else 0) = 1 := rfl
  unfold rkC
  omega
theorem rkC_mono {S : Nat → Nat} {C i j : Nat} (hi : i < C) (h : S j < S i ∨ (S i = S j ∧ i < j)) : rkC S C i < rkC S C j := by
  have h1 := fb_ct_upd (fun m => decide (S i < S m ∨ (S m = S i ∧ m < i))) true hi
  rw [if_neg (show ¬ decide (S i < S i ∨ (S i = S i ∧ i < i)) = true from fun w => by have := of_decide_eq_true w; omega)] at h1
  have h2 : fb_ct (fun m => if m = i then true else decide (S i < S m ∨ (S m = S i ∧ m < i))) C ≤ rkC S C j := fb_ct_sub fun m _ w => by
    by_cases y : m = i
    · subst y
      exact decide_eq_true h
    · rw [if_neg y] at w
      have := of_decide_eq_true w
      exact decide_eq_true (by omega)
  have h3 : (if (true : Bool) = true then 1 else 0) = 1 := rfl
  unfold rkC at h2 ⊢
  omega
theorem rkC_inj {S : Nat → Nat} {C i j : Nat} (hi : i < C) (hj : j < C) (e : rkC S C i = rkC S C j) : i = j := by
  rcases Nat.lt_trichotomy (S i) (S j) with w | w | w
  · have := rkC_mono (S := S) hj (Or.inl w)
    omega
  · rcases Nat.lt_trichotomy i j with y | y | y
    · have := rkC_mono (S := S) hi (Or.inr ⟨w, y⟩)
      omega
    · exact y
    · have := rkC_mono (S := S) hj (Or.inr ⟨w.symm, y⟩)
      omega
  · have := rkC_mono (S := S) hi (Or.inl w)
    omega
theorem rkC_onto {S : Nat → Nat} {C k : Nat} (h : k < C) : ∃ i, i < C ∧ rkC S C i = k := fb_onto (f := rkC S C) (fun i hi => rkC_lt hi) (fun i j hij hj e => by have := rkC_inj (S := S) (by omega) hj e; omega) h
/-- which class stands at place k -/
def ocI (S : Nat → Nat) (C k : Nat) : Nat := fa_first (fun c => decide (rkC S C c = k)) C
theorem ocI_of {S : Nat → Nat} {C c : Nat} (h : c < C) : ocI S C (rkC S C c) = c := ff_eq h (decide_eq_true rfl) (fun i hi => decide_eq_false fun w => by have := rkC_inj (S := S) (by omega) h w; omega)
theorem ocI_none {S : Nat → Nat} {C k : Nat} (h : C ≤ k) : ocI S C k = C := by
  refine Nat.le_antisymm (fa_first_le _ _) (Nat.not_lt.mp fun w => ?_)
  have h1 := of_decide_eq_true (fa_first_yes (fun c => decide (rkC S C c = k)) C w)
  have h2 := rkC_lt (S := S) w
  unfold ocI at h2
  omega

