/-! ===== numbers, bits ===== -/
theorem up_ind {E : Nat} {P : Nat → Prop} (h : ∀ e, e ≤ E → (e < E → P (e + 1)) → P e) : ∀ e, e ≤ E → P e := by
  have key : ∀ n e, e ≤ E → E - e ≤ n → P e := by
    intro n
    induction n with
    | zero => intro e he hn; exact h e he (fun hlt => by omega)
    | succ n ih => intro e he hn; exact h e he (fun hlt => ih (e + 1) (by omega) (by omega))
  intro e he
  exact key (E - e) e he (Nat.le_refl _)
theorem nle {a b : Nat} (ha : a < 2 ^ 31) (hb : b < 2 ^ 31) (h : nI a ≤ nI b) : a ≤ b := (nI_leI ha hb).mp h
theorem nnle {a b : Nat} (ha : a < 2 ^ 31) (hb : b < 2 ^ 31) (h : ¬ nI a ≤ nI b) : b < a := by
  have := mt (nI_leI ha hb).mpr h
  omega
theorem nlt {a b : Nat} (ha : a < 2 ^ 31) (hb : b < 2 ^ 31) (h : nI a < nI b) : a < b := (nI_ltI ha hb).mp h
theorem nnlt {a b : Nat} (ha : a < 2 ^ 31) (hb : b < 2 ^ 31) (h : ¬ nI a < nI b) : b ≤ a := by
  have := mt (nI_ltI ha hb).mpr h
  omega
theorem neq {a b : Nat} (ha : a < 2 ^ 31) (hb : b < 2 ^ 31) (h : nI a = nI b) : a = b := (nI_eq ha hb).mp h
theorem sm31 : ∀ n, n < 32 → ((nI n &&& 31).toBitVec.smod 32).toNat = n := by decide +kernel
theorem shlN {x e : Nat} (he : e < 32) (h : x * 2 ^ e < 2 ^ 32) : nI x <<< (nI e &&& 31) = nI (x * 2 ^ e) := pk_shlN _ e (sm31 e he) h
theorem shl1 {e : Nat} (he : e < 32) : (1 : Int32) <<< (nI e &&& 31) = nI (2 ^ e) := by
  have h := shlN (x := 1) he (by rw [Nat.one_mul]; exact Nat.pow_lt_pow_right (by decide) he)
  rw [Nat.one_mul] at h
  exact h
theorem shrN {x e : Nat} (hx : x < 2 ^ 31) (he : e < 32) : nI x >>> (nI e &&& 31) = nI (x / 2 ^ e) := pk_shrN hx _ e (sm31 e he)
theorem tb_nI {x e : Nat} (hx : x < 2 ^ 31) (he : e < 32) : tb (nI x) (nI e) = x.testBit e := by
  unfold tb
  rw [shrN hx he]
  have h1 : (nI (x / 2 ^ e) &&& 1 = 0) ↔ (x / 2 ^ e).testBit 0 = false := by
    have := fa_bit (n := x / 2 ^ e) (j := 0) (by decide)
    exact this
  have h2 : (x / 2 ^ e).testBit 0 = x.testBit e := by
    rw [Nat.testBit_div_two_pow, Nat.zero_add]
  rw [← h2]
  cases hb : (x / 2 ^ e).testBit 0 with
  | true => simp [h1, hb]
  | false => simp [h1, hb]
def msk (p : Nat → Bool) : Nat → Nat
  | 0 => 0
  | n + 1 => msk p n + (if p n then 2 ^ n else 0)
theorem msk_lt (p : Nat → Bool) : ∀ n, msk p n < 2 ^ n
  | 0 => Nat.zero_lt_one
  | n + 1 => by
    have := msk_lt p n
    unfold msk
    rw [Nat.pow_succ]
    split <;> omega
theorem msk_bit (p : Nat → Bool) : ∀ n i, (msk p n).testBit i = (decide (i < n) && p i)
  | 0, i => by simp [msk]
  | n + 1, i => by
    have ih := msk_bit p n i
    have hlt := msk_lt p n
    unfold msk
    by_cases hp : p n = true
    · rw [if_pos hp, Nat.add_comm]
      by_cases hi : i = n
      · subst hi
        rw [Nat.testBit_two_pow_add_eq, ih, hp]
        simp
      · rcases Nat.lt_or_ge i n with h | h
        · rw [Nat.testBit_two_pow_add_gt h, ih]
          simp [h, Nat.lt_succ_of_lt h]
        · have hgt : n < i := by omega
          rw [Nat.testBit_lt_two_pow (show 2 ^ n + msk p n < 2 ^ i from Nat.lt_of_lt_of_le (by omega : 2 ^ n + msk p n < 2 ^ (n + 1)) (Nat.pow_le_pow_right (by decide) (by omega)))]
          have : ¬ i < n + 1 := by omega
          simp [this]
    · rw [if_neg hp, Nat.add_zero, ih]
      by_cases hi : i = n
      · subst hi
        simp at hp
        simp [hp]
      · by_cases h : i < n
        · simp [h, Nat.lt_succ_of_lt h]
        · have : ¬ i < n + 1 := by omega
          simp [h, this]
theorem msk_or (p : Nat → Bool) (n : Nat) : msk p n ||| (if p n then 2 ^ n else 0) = msk p (n + 1) := by
  apply Nat.eq_of_testBit_eq
  intro i
  rw [Nat.testBit_or, msk_bit, msk_bit]
  by_cases hp : p n = true
  · rw [if_pos hp, Nat.testBit_two_pow]
    by_cases hi : n = i
    · subst hi; simp [hp]
    · have : (i < n + 1) ↔ i < n := by omega
      simp [hi, this]
  · rw [if_neg hp, Nat.zero_testBit]
    by_cases hi : i = n
    · subst hi
      simp at hp
      simp [hp]
    · have : (i < n + 1) ↔ i < n := by omega
      simp [this]
theorem msk_cong {p q : Nat → Bool} : ∀ {n : Nat}, (∀ i, i < n → p i = q i) → msk p n = msk q n
  | 0, _ => rfl
  | n + 1, h => by
    unfold msk
    rw [msk_cong (fun i hi => h i (Nat.lt_succ_of_lt hi)), h n (Nat.lt_succ_self n)]
theorem msk_zero {p : Nat → Bool} {n : Nat} : msk p n = 0 ↔ ∀ i, i < n → p i = false := by
  constructor
  · intro h i hi
    have := msk_bit p n i
    rw [h, Nat.zero_testBit] at this
    simpa [hi] using this.symm
  · intro h
    apply Nat.eq_of_testBit_eq
    intro i
    rw [msk_bit, Nat.zero_testBit]
    by_cases hi : i < n
    · simp [hi, h i hi]
    · simp [hi]
theorem msk_self {x n : Nat} (h : x < 2 ^ n) : msk (fun i => x.testBit i) n = x := by
  apply Nat.eq_of_testBit_eq
  intro i
  rw [msk_bit]
  by_cases hi : i < n
  · simp [hi]
  · rw [Nat.testBit_lt_two_pow (Nat.lt_of_lt_of_le h (Nat.pow_le_pow_right (by decide) (by omega)))]
    simp [hi]
theorem orN {a b : Nat} : nI a ||| nI b = nI (a ||| b) := fa_or a b
theorem andN {a b : Nat} : nI a &&& nI b = nI (a &&& b) := fa_and a b
theorem xorN {a b : Nat} : nI a ^^^ nI b = nI (a ^^^ b) := fb_xorI a b
theorem p2 {e k : Nat} (h : e ≤ k) : 2 ^ e ≤ 2 ^ k := Nat.pow_le_pow_right (by decide) h
theorem rdA_nI {f : Nat → Int32} {n i : Nat} (hi : i < n) (hn : n < 2 ^ 31) : rdA f n (nI i) = f i := by
  unfold rdA
  rw [if_pos ⟨nI_pos' (by omega), nI_lt hi hn⟩, nI_clamp (by omega)]
theorem rdA_out {f : Nat → Int32} {n i : Nat} (hi : n ≤ i) (hn : i < 2 ^ 31) : rdA f n (nI i) = 0 := by
  unfold rdA
  rw [if_neg (fun q => nI_nlt hi (by omega) q.2)]
theorem wrA_nI {M : Nat → Nat → Int32} {a n i : Nat} {v : Int32} (hi : i < n) (hn : n < 2 ^ 31) : wrA M a n (nI i) v = up2 M a i v := by
  unfold wrA
  rw [if_pos ⟨nI_pos' (by omega), nI_lt hi hn⟩, nI_clamp (by omega)]
theorem wrA_out {M : Nat → Nat → Int32} {a n i : Nat} {v : Int32} (hi : n ≤ i) (hn : i < 2 ^ 31) : wrA M a n (nI i) v = M := by
  unfold wrA
  rw [if_neg (fun q => nI_nlt hi (by omega) q.2)]
theorem rdL_nI {f : Nat → Int64} {n i : Nat} (hi : i < n) (hn : n < 2 ^ 31) : rdL f n (nI i) = f i := by
  unfold rdL
  rw [if_pos ⟨nI_pos' (by omega), nI_lt hi hn⟩, nI_clamp (by omega)]
theorem wrL_nI {M : Nat → Nat → Int64} {a n i : Nat} {v : Int64} (hi : i < n) (hn : n < 2 ^ 31) : wrL M a n (nI i) v = up2L M a i v := by
  unfold wrL
  rw [if_pos ⟨nI_pos' (by omega), nI_lt hi hn⟩, nI_clamp (by omega)]
theorem up2_at (M : Nat → Nat → Int32) (a k x y : Nat) (v : Int32) : up2 M a k v x y = if x = a ∧ y = k then v else M x y := by
  unfold up2
  by_cases h : x = a
  · by_cases h2 : y = k
    · simp [h, h2]
    · simp [h, h2]
  · simp [h]
theorem up2L_at (M : Nat → Nat → Int64) (a k x y : Nat) (v : Int64) : up2L M a k v x y = if x = a ∧ y = k then v else M x y := by
  unfold up2L
  by_cases h : x = a
  · by_cases h2 : y = k
    · simp [h, h2]
    · simp [h, h2]
  · simp [h]
