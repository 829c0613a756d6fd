/-! ===== what the tables say at the law's start ===== -/
theorem law_K {s : State} {args : Array Value} (hts : ∀ w ∈ lw_tbl, w.before args s = true) : ∃ (dC : Nat → ClassId) (dI : Nat → Nat → Nat) (Y : YC), va_K (dC, dI) ICl (tysY Y) s := by
  have hu : ∀ c, ∃ (q : ClassId × (Nat → Nat)), c < 13 → u_Kn s (cn c) (TT c) (NN c) q.1 q.2 := fun c => by
    by_cases h : c < 13
    · obtain ⟨cC, iS, k⟩ := u_known (ws := lw_tbl) hts (fun w hw => (US_ok c h w hw).1) (hts _ (IN_ok c h).1)
      exact ⟨(cC, iS), fun _ => k⟩
    · exact ⟨(default, fun _ => 0), fun q => absurd q h⟩
  have hA : ∀ ty, Cond.arrayClass ty ∈ lw_tbl → (ty = .int ∨ ty = .long ∨ ty = .boolean) → ∃ cA, ArrOfT s cA ty ∧ va_RA s cA ty := fun ty h hty => by
    obtain ⟨cA, kA, comp, h1, h2, h3⟩ := Cond.arrayClass_spec (hts _ h)
    refine ⟨cA, fun n z => ⟨fun k h => (by cases h), kA, h2, comp, h3⟩, ?_⟩
    rcases hty with rfl | rfl | rfl <;> exact h1
  obtain ⟨y1, a1⟩ := hA .int AC_int (Or.inl rfl)
  obtain ⟨y2, a2⟩ := hA .long AC_long (Or.inr (Or.inl rfl))
  obtain ⟨y3, a3⟩ := hA .boolean AC_boolean (Or.inr (Or.inr rfl))
  obtain ⟨y4, a4⟩ : ∃ cA, ArrOfT s cA (.object "ArrowTurner$Holder") ∧ va_RA s cA (.object "ArrowTurner$Holder") := by
    obtain ⟨comp, cA, kA, h1, h0, h2, h3, h4⟩ := Cond.arrayOver_spec (hts _ AO_h)
    exact ⟨cA, fun n z => ⟨fun k h => (by cases h), kA, h2, comp, h3⟩, kA, comp, h2, h3, h1, h4⟩
  refine ⟨fun c => (hu c).choose.1, fun c => (hu c).choose.2, (y1, y2, y3, y4), ?_, ?_⟩
  · intro c q hq
    have hc : c < 13 := (List.getElem?_eq_some_iff.mp hq).1
    rw [IC_ok c hc] at hq
    cases hq
    exact (hu c).choose_spec hc
  · intro k q hq
    match k with
    | 0 => cases hq; exact a1
    | 1 => cases hq; exact a2
    | 2 => cases hq; exact a3
    | 3 => cases hq; exact a4
    | n + 4 => simp [tysY] at hq
