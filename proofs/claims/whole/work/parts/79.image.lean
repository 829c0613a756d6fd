/-! ===== image and undo of both ===== -/
/-- the class's kept things -/
def KP (M : Mm) (N E A : Nat) (l h : Nat → Nat) (L : List (Nat × Bool)) (F : List (Nat × Nat)) : Prop := NS M 50 51 52 53 54 N E A l h ∧ LG (M 55 0) (M 56) (M 57) L ∧ FS (M 58 0) (M 59) (M 60) F
/-- the reference's kept things -/
def IMG (M : Mm) (N E A : Nat) (l h : Nat → Nat) (L : List (Nat × Bool)) (F : List (Nat × Nat)) : Prop := M 101 76 = nI N ∧ M 101 77 = nI E ∧ M 101 78 = nI A ∧ (∀ e, e < E → M 101 e = nI (l e) ∧ M 101 (10 + e) = nI (h e)) ∧ LG (M 101 79) (fun k => M 101 (20 + k)) (fun k => M 101 (44 + k)) L ∧ FS (M 101 80) (fun k => M 101 (68 + k)) (fun k => M 101 (72 + k)) F
theorem FS_cong {c c' : Int32} {f g f' g' : Nat → Int32} {F : List (Nat × Nat)} (h : FS c f g F) (hc : c' = c) (hf : ∀ k, k < F.length → f' k = f k ∧ g' k = g k) : FS c' f' g' F := by
  obtain ⟨h1, h2, h3⟩ := h
  refine ⟨hc.trans h1, h2, fun k a b q => ?_⟩
  obtain ⟨a1, a2, a3, a4⟩ := h3 k a b q
  have hk : k < F.length := (List.getElem?_eq_some_iff.mp q).1
  exact ⟨a1, a2, (hf k hk).1.trans a3, (hf k hk).2.trans a4⟩
/-- what two rows hold up to n, copied -/
def cpR (f g f' g' : Nat → Int32) (n : Nat) : Prop := ∀ j, j < n → f' j = f j ∧ g' j = g j
theorem cpR_0 {f g f' g' : Nat → Int32} : cpR f g f' g' 0 := fun j hj => absurd hj (Nat.not_lt_zero j)
theorem cpR_s {f g f' g' f2 g2 : Nat → Int32} {n : Nat} (h : cpR f g f' g' n) (h1 : f2 n = f n) (h2 : g2 n = g n) (h3 : ∀ j, j < n → f2 j = f' j ∧ g2 j = g' j) : cpR f g f2 g2 (n + 1) := fun j hj => by
  by_cases q : j = n
  · rw [q]
    exact ⟨h1, h2⟩
  · have := h j (by omega)
    have w := h3 j (by omega)
    exact ⟨w.1.trans this.1, w.2.trans this.2⟩
theorem cpR_k {f g f' g' f2 g2 : Nat → Int32} {n : Nat} (h : cpR f g f' g' n) (h3 : ∀ j, j < n → f2 j = f' j ∧ g2 j = g' j) : cpR f g f2 g2 n := fun j hj => ⟨(h3 j hj).1.trans (h j hj).1, (h3 j hj).2.trans (h j hj).2⟩

theorem NS_row {M M' : Mm} {a lo hi t w N E A : Nat} {l h : Nat → Nat} (hS : NS M a lo hi t w N E A l h) (e1 : M' a = M a) (e2 : M' lo = M lo) (e3 : M' hi = M hi) (e4 : M' t = M t) (e5 : M' w = M w) : NS M' a lo hi t w N E A l h := by
  unfold NS at hS ⊢
  rw [e1, e2, e3, e4, e5]
  exact hS
theorem LG_row {M M' : Mm} {a b c k : Nat} {L : List (Nat × Bool)} (hL : LG (M a k) (M b) (M c) L) (e1 : M' a = M a) (e2 : M' b = M b) (e3 : M' c = M c) : LG (M' a k) (M' b) (M' c) L := by
  rw [e1, e2, e3]
  exact hL
theorem FS_row {M M' : Mm} {a b c k : Nat} {F : List (Nat × Nat)} (hL : FS (M a k) (M b) (M c) F) (e1 : M' a = M a) (e2 : M' b = M b) (e3 : M' c = M c) : FS (M' a k) (M' b) (M' c) F := by
  rw [e1, e2, e3]
  exact hL

set_option maxHeartbeats 1000000 in
set_option maxRecDepth 10000 in
theorem ok_X11_image {d : Nat} {M : Mm} {ML : Ml} {N E A : Nat} {l h : Nat → Nat} (hS : NS M 2 3 4 5 6 N E A l h) (hW : WN N E A l h) {L : List (Nat × Bool)} {F : List (Nat × Nat)} (hL : LG (M 12 0) (M 13) (M 14) L) (hF : FS (M 15 0) (M 16) (M 17) F) : EX (d + 4) k_X11_image [.ref 1] M ML (fun r M2 L2 => r = some (.int (nI E)) ∧ L2 = ML ∧ Fr [1, 50, 51, 52, 53, 54, 55, 56, 57, 58, 59, 60] M M2 ∧ KP M2 N E A l h L F ∧ M2 1 15 = 1) := by
  refine EX_in mi_X11_image rfl rfl ?_
  show WP _ cd_X11_image false _ (0, [(0, .ref 1)], [], (SH, M, ML))
  have hE10 := hW.2.2.1
  refine w_ld rfl rfl ?_
  refine w_getr rfl rfl rfl rfl rfl ?_
  refine w_ld rfl rfl ?_
  refine w_getr rfl rfl rfl rfl rfl ?_
  obtain ⟨M3, hE8, hS3, hF3⟩ := ok_X4_copy_50_2 (d + 0) M ML hS hE10 (WN_b hW)
  have hL3 := LG_row hL (hF3 12 (by decide)) (hF3 13 (by decide)) (hF3 14 (by decide))
  have hF3' := FS_row hF (hF3 15 (by decide)) (hF3 16 (by decide)) (hF3 17 (by decide))
  have hS3' := NS_row hS (hF3 2 (by decide)) (hF3 3 (by decide)) (hF3 4 (by decide)) (hF3 5 (by decide)) (hF3 6 (by decide))
  refine w_callv (as := [_, _]) (rest := []) rfl rfl rfl rfl rfl rfl rfl rfl hE8 ?_
  refine w_ld rfl rfl ?_
  refine w_getr rfl rfl rfl rfl rfl ?_
  refine w_ld rfl rfl ?_
  refine w_getr rfl rfl rfl rfl rfl ?_
  obtain ⟨M4, hE19, hL4, hF4⟩ := ok_X1_copy_55_12 (d + 0) M3 ML hL3
  have hF4' := FS_row hF3' (hF4 15 (by decide)) (hF4 16 (by decide)) (hF4 17 (by decide))
  refine w_callv (as := [_, _]) (rest := []) rfl rfl rfl rfl rfl rfl rfl rfl hE19 ?_
  refine w_ld rfl rfl ?_
  refine w_getr rfl rfl rfl rfl rfl ?_
  refine w_ld rfl rfl ?_
  refine w_getr rfl rfl rfl rfl rfl ?_
  obtain ⟨M5, hE30, hK5, hF5⟩ := ok_X2_copy_58_15 (d + 0) M4 ML hF4'
  refine w_callv (as := [_, _]) (rest := []) rfl rfl rfl rfl rfl rfl rfl rfl hE30 ?_
  refine w_ld rfl rfl ?_
  refine w_cst (v := .int 1) rfl rfl ?_
  refine w_put rfl rfl rfl rfl rfl (Or.inr (Or.inr rfl)) ?_
  refine w_ld rfl rfl ?_
  refine w_getr rfl rfl rfl rfl rfl ?_
  refine w_getv rfl rfl rfl rfl rfl (Eq.trans (by rw [up2_row (by decide), hF5 2 (by decide), hF4 2 (by decide)]) hS3'.2.1) ?_
  refine w_ret rfl rfl (trivial) ?_
  refine ⟨rfl, rfl, Fr_up (by decide) (Fr_tr (Fr_mono hF3 (by decide)) (Fr_tr (Fr_mono hF4 (by decide)) (Fr_mono hF5 (by decide)))), ⟨?_, ?_, ?_⟩, up2_e⟩
  · have hN : ∀ x, x ≠ 1 → (x = 50 ∨ x = 51 ∨ x = 52 ∨ x = 53 ∨ x = 54) → up2 M5 1 15 1 x = M3 x := fun x w y => by rw [up2_row w, hF5 x (by simp; omega), hF4 x (by simp; omega)]
    exact NS_row hS3 (hN 50 (by decide) (by decide)) (hN 51 (by decide) (by decide)) (hN 52 (by decide) (by decide)) (hN 53 (by decide) (by decide)) (hN 54 (by decide) (by decide))
  · refine LG_row hL4 ?_ ?_ ?_ <;> rw [up2_row (by decide), hF5 _ (by decide)]
  · refine FS_row hK5 ?_ ?_ ?_ <;> rw [up2_row (by decide)]

set_option maxHeartbeats 1000000 in
set_option maxRecDepth 10000 in
theorem ok_X11_undo_n {d : Nat} {M : Mm} {ML : Ml} (hk : M 1 15 = 0) : EX (d + 6) k_X11_undo [.ref 1] M ML (fun r M2 L2 => r = some (.int (-5)) ∧ L2 = ML ∧ M2 = M) := by
  refine EX_in mi_X11_undo rfl rfl ?_
  show WP _ cd_X11_undo false _ (0, [(0, .ref 1)], [], (SH, M, ML))
  refine w_ld rfl rfl ?_
  refine w_getv rfl rfl rfl rfl rfl (hk) ?_
  refine w_cjF rfl rfl (fun q => q rfl) ?_
  refine w_cst (v := .int (-5)) rfl rfl ?_
  refine w_ret rfl rfl (trivial) ?_
  exact ⟨rfl, rfl, rfl⟩

set_option maxHeartbeats 1000000 in
set_option maxRecDepth 10000 in
theorem ok_X11_undo_y {d : Nat} {M : Mm} {ML : Ml} {N E A : Nat} {l h : Nat → Nat} {L : List (Nat × Bool)} {F : List (Nat × Nat)} (hK : KP M N E A l h L F) (hW : WN N E A l h) (hk : M 1 15 = 1) : EX (d + 6) k_X11_undo [.ref 1] M ML (fun r M2 L2 => r = some (.int (nI E)) ∧ L2 = ML ∧ Fr [2, 3, 4, 5, 6, 12, 13, 14, 15, 16, 17, 18, 19, 20, 21, 22, 23, 24, 31] M M2 ∧ NS M2 2 3 4 5 6 N E A l h ∧ RG M2 E l h ∧ M2 24 0 = 0 ∧ M2 31 0 = 0 ∧ LG (M2 12 0) (M2 13) (M2 14) L ∧ FS (M2 15 0) (M2 16) (M2 17) F) := by
  refine EX_in mi_X11_undo rfl rfl ?_
  show WP _ cd_X11_undo false _ (0, [(0, .ref 1)], [], (SH, M, ML))
  have hE10 := hW.2.2.1
  refine w_ld rfl rfl ?_
  refine w_getv rfl rfl rfl rfl rfl (hk) ?_
  refine w_cjT rfl rfl (by decide) ?_
  refine w_ld rfl rfl ?_
  refine w_getr rfl rfl rfl rfl rfl ?_
  refine w_ld rfl rfl ?_
  refine w_getr rfl rfl rfl rfl rfl ?_
  obtain ⟨M3, hE18, hS3, hF3⟩ := ok_X4_copy_2_50 (d + 2) M ML hK.1 hE10 (WN_b hW)
  refine w_callv (as := [_, _]) (rest := []) rfl rfl rfl rfl rfl rfl rfl rfl hE18 ?_
  refine w_ld rfl rfl ?_
  obtain ⟨_, M4, ML, ⟨rfl, rfl, hF4, hN4⟩, hE22⟩ := ok_X11_renew (d := d) (ML := ML) hS3 hW
  refine w_callv (as := [_]) (rest := []) rfl rfl rfl rfl rfl rfl rfl rfl hE22 ?_
  refine w_ld rfl rfl ?_
  refine w_getr rfl rfl rfl rfl rfl ?_
  refine w_ld rfl rfl ?_
  refine w_getr rfl rfl rfl rfl rfl ?_
  have hL4 := LG_row (LG_row hK.2.1 (hF3 55 (by decide)) (hF3 56 (by decide)) (hF3 57 (by decide))) (hF4 55 (by decide)) (hF4 56 (by decide)) (hF4 57 (by decide))
  obtain ⟨M5, hE33, hL5, hF5⟩ := ok_X1_copy_12_55 (d + 2) M4 ML hL4
  refine w_callv (as := [_, _]) (rest := []) rfl rfl rfl rfl rfl rfl rfl rfl hE33 ?_
  refine w_ld rfl rfl ?_
  refine w_getr rfl rfl rfl rfl rfl ?_
  refine w_ld rfl rfl ?_
  refine w_getr rfl rfl rfl rfl rfl ?_
  have hK5 := FS_row (FS_row (FS_row hK.2.2 (hF3 58 (by decide)) (hF3 59 (by decide)) (hF3 60 (by decide))) (hF4 58 (by decide)) (hF4 59 (by decide)) (hF4 60 (by decide))) (hF5 58 (by decide)) (hF5 59 (by decide)) (hF5 60 (by decide))
  obtain ⟨M6, hE44, hK6, hF6⟩ := ok_X2_copy_15_58 (d + 2) M5 ML hK5
  refine w_callv (as := [_, _]) (rest := []) rfl rfl rfl rfl rfl rfl rfl rfl hE44 ?_
  refine w_ld rfl rfl ?_
  refine w_getr rfl rfl rfl rfl rfl ?_
  refine w_getv rfl rfl rfl rfl rfl (Eq.trans (by rw [hF6 2 (by decide), hF5 2 (by decide)]) hN4.1.2.1) ?_
  refine w_ret rfl rfl (trivial) ?_
  have hF56 : Fr [12, 13, 14, 15, 16, 17] M4 M6 := Fr_tr (Fr_mono hF5 (by decide)) (Fr_mono hF6 (by decide))
  refine ⟨rfl, rfl, Fr_tr (Fr_mono hF3 (by decide)) (Fr_tr (Fr_mono hF4 (by decide)) (Fr_mono hF56 (by decide))), NS_Fr hN4.1 hF56 (by decide), RG_Fr hN4.2.1 hF56 (by decide), ?_, ?_, ?_, hK6⟩
  · rw [hF56 24 (by decide)]
    exact hN4.2.2.1
  · rw [hF56 31 (by decide)]
    exact hN4.2.2.2.1
  · exact LG_row hL5 (hF6 12 (by decide)) (hF6 13 (by decide)) (hF6 14 (by decide))

