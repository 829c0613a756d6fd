/-! ===== deeds that change the net ===== -/
abbrev TD : List Nat := [2, 3, 4, 5, 6, 12, 13, 14, 15, 16, 17, 18, 19, 20, 21, 47, 48, 24, 25, 26, 27, 28, 29, 31, 32, 33, 34, 35, 36]
abbrev TG : List Nat := [1, 50, 51, 52, 53, 54, 55, 56, 57, 58, 59, 60, 61, 62, 63, 64, 65, 66, 67, 68, 69, 70, 71, 72, 81, 82, 83, 84, 101]
abbrev TN : List Nat := [73, 74, 75, 76, 77, 78, 79, 80]
def HI (M : Mm) : Prop := HR M ∧ IMJ M
theorem JC_m {S G : List Nat} {M M' : Mm} {N E A : Nat} {l h : Nat → Nat} {L : List (Nat × Bool)} {F : List (Nat × Nat)} {B : List Int32} (q : JC M N E A l h L F B) (f : Fm S G M M') (d : dj S TD = true) : JC M' N E A l h L F B := by
  have e := Fm_e f d (by decide)
  have q' := q
  obtain ⟨-, -, -, -, -, hc, hr, hw⟩ := q'
  exact JC_e q (fun x hx => e x (by revert hx; simp [TC, TD]; omega)) (hfC_e hc (fun x hx => e x (by revert hx; simp [TCc, TD]; omega))) (hfR_e hr (fun x hx => e x (by revert hx; simp [TCr, TD]; omega))) (WS_e hw (fun x hx => e x (by revert hx; simp [TCw, TD]; omega)))
theorem JM_c {S : List Nat} {M M' : Mm} {N E A : Nat} {l h : Nat → Nat} {L : List (Nat × Bool)} {F : List (Nat × Nat)} {B : List Int32} (q : JM M N E A l h L F B) (f : Fr S M M') (d : dj S TN = true) : JM M' N E A l h L F B := by
  have e := Fr_e f d
  exact JM_e q (fun x hx => e x (by revert hx; simp [TN]; omega)) (fun k _ => congrFun (e 73 (by decide)) k)
theorem HI_c {S : List Nat} {M M' : Mm} (q : HI M) (f : Fr S M M') (d : dj S (73 :: TG) = true) : HI M' := by
  have e := Fr_e f d
  exact ⟨HR_e q.1 (fun x hx => e x (by revert hx; simp [TH, TG]; omega)), IMJ_e q.2 (fun x hx => e x (by revert hx; simp [TI, TG]; omega)) (congrFun (e 73 (by decide)) 39)⟩
theorem HI_m {S G : List Nat} {M M' : Mm} (q : HI M) (f : Fm S G M M') (d : dj S TG = true) (d2 : 39 ∉ G) : HI M' := by
  have e := Fm_e f d (by decide)
  exact ⟨HR_e q.1 (fun x hx => e x (by revert hx; simp [TH, TG]; omega)), IMJ_e q.2 (fun x hx => e x (by revert hx; simp [TI, TG]; omega)) (f.2 39 d2)⟩
theorem JS_mk {M : Mm} {N E A : Nat} {l h : Nat → Nat} {L : List (Nat × Bool)} {F : List (Nat × Nat)} {B : List Int32} (hW : WN N E A l h) (c : JC M N E A l h L F B) (m : JM M N E A l h L F B) (i : HI M) : J M := ⟨N, E, A, l, h, L, F, B, hW, c, m, i.1, i.2⟩
theorem TS_e {c c' : Int32} {f f' : Nat → Int32} {B : List Int32} (q : TS c f B) (e1 : c' = c) (e2 : f' = f) : TS c' f' B := by
  rw [e1, e2]
  exact q
theorem TS_z {c : Int32} {f : Nat → Int32} (q : c = 0) : TS c f [] := by
  rw [q]
  exact TS_0 f
theorem LG_z {c : Int32} {f g : Nat → Int32} (q : c = 0) : LG c f g [] := by
  rw [q]
  exact LG_0 f g
abbrev FRN : List Nat := [2, 3, 4, 5, 6, 12, 18, 19, 20, 21, 22, 23, 24, 31]
theorem JC_new {M M' : Mm} {N E A : Nat} {l h : Nat → Nat} {L : List (Nat × Bool)} {F : List (Nat × Nat)} {B : List Int32} {N' E' A' : Nat} {l' h' : Nat → Nat} (q : JC M N E A l h L F B) (w : NW M' N' E' A' l' h') (f : Fr FRN M M') : JC M' N' E' A' l' h' [] F B := by
  obtain ⟨-, -, h3, h4, -, -, -, h8⟩ := q
  obtain ⟨w1, w2, w3, w4, w5⟩ := w
  exact ⟨w1, LG_z w5, FS_row h3 (f 15 (by decide)) (f 16 (by decide)) (f 17 (by decide)), TS_e h4 (congrFun (f 47 (by decide)) 0) (f 48 (by decide)), w2, Or.inl w3, Or.inl w4, WS_e h8 (Fr_e f (by decide))⟩
theorem JM_new {M M' : Mm} {N E A : Nat} {l h : Nat → Nat} {L : List (Nat × Bool)} {F : List (Nat × Nat)} {B : List Int32} {N' E' A' : Nat} {l' h' : Nat → Nat} (q : JM M N E A l h L F B) (w : NM M' N' E' A' l' h') (w5 : M' 73 5 = 0) (f : Fm [74, 75] [0, 1, 4, 5] M M') : JM M' N' E' A' l' h' [] F B := by
  obtain ⟨-, -, h3, h4⟩ := q
  refine ⟨w, LG_z w5, ?_, TS_e h4 (f.2 12 (by decide)) (f.1 80 (by decide) (by decide))⟩
  rw [f.2 8 (by decide), f.1 78 (by decide) (by decide), f.1 79 (by decide) (by decide)]
  exact h3
theorem edR_y {N E A : Nat} {l h : Nat → Nat} {x y : Int32} (hW : WN N E A l h) (q : edR N E l h x y = 0) : WN N (E + 1) (edA A E x y) (edl l E x y) (edh h E x y) := by
  have hN7 := hW.2.1
  unfold edR at q
  by_cases w : (inR x N && inR y N && decide (x ≠ y)) = true
  · rw [if_pos w] at q
    by_cases w2 : hasP l h E x y
    · rw [if_pos w2] at q
      exact absurd q (by decide)
    · rw [if_neg w2] at q
      by_cases w3 : E < 10
      · rw [Bool.and_eq_true, Bool.and_eq_true] at w
        have a := inR_cl (by omega) w.1.1
        have b := inR_cl (by omega) w.1.2
        exact WN_edge hW w3 a.2 b.2 (fun z => of_decide_eq_true w.2 (a.1.trans ((congrArg nI z).trans b.1.symm)))
      · rw [if_neg w3] at q
        exact absurd q (by decide)
  · rw [if_neg w] at q
    exact absurd q (by decide)

theorem wh1_cl {x : Int32} (q : wh1 x = true) : 1 ≤ x.toNatClampNeg ∧ x.toNatClampNeg ≤ 7 := by
  obtain ⟨k, h1, h7, rfl⟩ := wh1_ex q
  rw [nI_clamp (by omega)]
  exact ⟨h1, h7⟩

theorem op_nodes {d e : Nat} {M : Mm} {ML : Ml} {x : Int32} (hJ : J M) : EX (d + 6) k_X11_nodes [.ref 1, .int x] M ML (fun r M1 L1 => ∃ v, r = some (.int v) ∧ EX (e + 2) k_X12_nodes [.ref 73, .int x] M1 L1 (fun r2 M2 L2 => r2 = some (.int v) ∧ J M2)) := by
  obtain ⟨N, E, A, l, h, L, F, B, hs⟩ := hJ
  have hs0 := hs
  obtain ⟨hW, ⟨hS, hL, hF, hB, hR, hc, hr, hw⟩, ⟨mS, mL, mF, mB⟩, hH, hI⟩ := hs0
  refine EX_mono (ok_X11_nodes hS hW) (fun r M1 L1 q => ?_)
  rcases Bool.eq_false_or_eq_true (wh1 x) with w | w
  · obtain ⟨q0, -, q3, q4⟩ := q.2 w
    have c1 := JC_new hs.2.1 q3 q4
    have m1 := JM_c hs.2.2.1 q4 (by decide)
    have i1 := HI_c ⟨hH, hI⟩ q4 (by decide)
    refine ⟨_, q0, EX_mono (ok_X12_nodes m1.1) (fun r2 M2 L2 z => ?_)⟩
    obtain ⟨z0, -, z3, z4, z5⟩ := z.2 w
    exact ⟨z0, JS_mk (WN_new (wh1_cl w).1 (wh1_cl w).2) (JC_m c1 z5 (by decide)) (JM_new m1 z3 z4 z5) (HI_m i1 z5 (by decide) (by decide))⟩
  · obtain ⟨q0, -, q3⟩ := q.1 w
    subst q3
    refine ⟨_, q0, EX_mono (ok_X12_nodes mS) (fun r2 M2 L2 z => ?_)⟩
    obtain ⟨z0, -, z3⟩ := z.1 w
    subst z3
    exact ⟨z0, JS_J hs⟩

theorem op_edge {d e : Nat} {M : Mm} {ML : Ml} {x y : Int32} (hJ : J M) : EX (d + 6) k_X11_edge [.ref 1, .int x, .int y] M ML (fun r M1 L1 => ∃ v, r = some (.int v) ∧ EX (e + 3) k_X12_edge [.ref 73, .int x, .int y] M1 L1 (fun r2 M2 L2 => r2 = some (.int v) ∧ J M2)) := by
  obtain ⟨N, E, A, l, h, L, F, B, hs⟩ := hJ
  have hs0 := hs
  obtain ⟨hW, ⟨hS, hL, hF, hB, hR, hc, hr, hw⟩, ⟨mS, mL, mF, mB⟩, hH, hI⟩ := hs0
  refine EX_mono (ok_X11_edge hS hW) (fun r M1 L1 q => ?_)
  rcases Classical.em (edR N E l h x y = 0) with w | w
  · obtain ⟨q0, -, q3, q4⟩ := q.2 w
    have c1 := JC_new hs.2.1 q3 q4
    have m1 := JM_c hs.2.2.1 q4 (by decide)
    have i1 := HI_c ⟨hH, hI⟩ q4 (by decide)
    refine ⟨_, q0, EX_mono (ok_X12_edge m1.1 hW) (fun r2 M2 L2 z => ?_)⟩
    obtain ⟨z0, -, z3, z4, z5⟩ := z.2 w
    exact ⟨z0, JS_mk (edR_y hW w) (JC_m c1 z5 (by decide)) (JM_new m1 z3 z4 z5) (HI_m i1 z5 (by decide) (by decide))⟩
  · obtain ⟨q0, -, q3⟩ := q.1 w
    subst q3
    refine ⟨_, q0, EX_mono (ok_X12_edge mS hW) (fun r2 M2 L2 z => ?_)⟩
    obtain ⟨z0, -, z3⟩ := z.1 w
    subst z3
    exact ⟨z0, JS_J hs⟩

theorem op_cut {d e : Nat} {M : Mm} {ML : Ml} {x : Int32} (hJ : J M) : EX (d + 6) k_X11_cut [.ref 1, .int x] M ML (fun r M1 L1 => ∃ v, r = some (.int v) ∧ EX (e + 3) k_X12_cut [.ref 73, .int x] M1 L1 (fun r2 M2 L2 => r2 = some (.int v) ∧ J M2)) := by
  obtain ⟨N, E, A, l, h, L, F, B, hs⟩ := hJ
  have hs0 := hs
  obtain ⟨hW, ⟨hS, hL, hF, hB, hR, hc, hr, hw⟩, ⟨mS, mL, mF, mB⟩, hH, hI⟩ := hs0
  refine EX_mono (ok_X11_cut hS hW) (fun r M1 L1 q => ?_)
  rcases Bool.eq_false_or_eq_true (inR x E) with w | w
  · obtain ⟨q0, -, q3, q4⟩ := q.2 w
    have c1 := JC_new hs.2.1 q3 q4
    have m1 := JM_c hs.2.2.1 q4 (by decide)
    have i1 := HI_c ⟨hH, hI⟩ q4 (by decide)
    refine ⟨_, q0, EX_mono (ok_X12_cut m1.1 hW) (fun r2 M2 L2 z => ?_)⟩
    obtain ⟨z0, -, z3, z4, z5⟩ := z.2 w
    exact ⟨z0, JS_mk (WN_cut hW (inR_cl (by have := hW.2.2.1; omega) w).2) (JC_m c1 z5 (by decide)) (JM_new m1 z3 z4 z5) (HI_m i1 z5 (by decide) (by decide))⟩
  · obtain ⟨q0, -, q3⟩ := q.1 w
    subst q3
    refine ⟨_, q0, EX_mono (ok_X12_cut mS hW) (fun r2 M2 L2 z => ?_)⟩
    obtain ⟨z0, -, z3⟩ := z.1 w
    subst z3
    exact ⟨z0, JS_J hs⟩

theorem op_read {d e : Nat} {M : Mm} {ML : Ml} (hJ : J M) : EX (d + 6) k_X11_read [.ref 1] M ML (fun r M1 L1 => ∃ v, r = some (.int v) ∧ EX (e + 5) k_X12_read [.ref 73] M1 L1 (fun r2 M2 L2 => r2 = some (.int v) ∧ J M2)) := by
  obtain ⟨N, E, A, l, h, L, F, B, hs⟩ := hJ
  have hs0 := hs
  obtain ⟨hW, ⟨hS, hL, hF, hB, hR, hc, hr, hw⟩, ⟨mS, mL, mF, mB⟩, hH, hI⟩ := hs0
  refine EX_mono (ok_X11_read hB) (fun r M1 L1 q => ?_)
  by_cases w : FV B < 0
  · obtain ⟨q0, -, q4, q5, qW, w1, w2, w3, w4, w5⟩ := q.2 w
    have c1 : JC M1 (rdN B) (rdE B) (rdAr B (rdE B)) (rdl B) (rdh B) [] F [] := ⟨w1, LG_z w5, FS_row hF (q4 15 (by decide)) (q4 16 (by decide)) (q4 17 (by decide)), TS_z q5, w2, Or.inl w3, Or.inl w4, WS_e hw (Fr_e q4 (by decide))⟩
    have m1 := JM_c hs.2.2.1 q4 (by decide)
    have i1 := HI_c ⟨hH, hI⟩ q4 (by decide)
    refine ⟨_, q0, EX_mono (ok_X12_read m1.2.2.2 m1.1) (fun r2 M2 L2 z => ?_)⟩
    obtain ⟨z0, -, z3, z4, z5, z6⟩ := z.2 w
    refine ⟨z0, JS_mk qW (JC_m c1 z3 (by decide)) ⟨z6, LG_z z5, ?_, TS_z z4⟩ (HI_m i1 z3 (by decide) (by decide))⟩
    rw [z3.2 8 (by decide), z3.1 78 (by decide) (by decide), z3.1 79 (by decide) (by decide)]
    exact m1.2.2.1
  · obtain ⟨q0, -, q4, q5⟩ := q.1 w
    have c1 : JC M1 N E A l h L F [] := by
      have e := Fr_e (T := [2, 3, 4, 5, 6, 12, 13, 14, 15, 16, 17, 18, 19, 20, 21]) q4 (by decide)
      refine ⟨NS_row hS (e 2 (by decide)) (e 3 (by decide)) (e 4 (by decide)) (e 5 (by decide)) (e 6 (by decide)), LG_row hL (e 12 (by decide)) (e 13 (by decide)) (e 14 (by decide)), FS_row hF (e 15 (by decide)) (e 16 (by decide)) (e 17 (by decide)), TS_z q5, ?_, hfC_e hc (Fr_e q4 (by decide)), hfR_e hr (Fr_e q4 (by decide)), WS_e hw (Fr_e q4 (by decide))⟩
      exact RG_Fr hR q4 (by decide)
    have m1 := JM_c hs.2.2.1 q4 (by decide)
    have i1 := HI_c ⟨hH, hI⟩ q4 (by decide)
    refine ⟨_, q0, EX_mono (ok_X12_read m1.2.2.2 m1.1) (fun r2 M2 L2 z => ?_)⟩
    obtain ⟨z0, -, z3, z4⟩ := z.1 w
    refine ⟨z0, JS_mk hW (JC_m c1 z3 (by decide)) ⟨NM_Fm m1.1 z3 (by decide) (by decide), ?_, ?_, TS_z z4⟩ (HI_m i1 z3 (by decide) (by decide))⟩
    · rw [z3.2 5 (by decide), z3.1 76 (by decide) (by decide), z3.1 77 (by decide) (by decide)]
      exact m1.2.1
    · rw [z3.2 8 (by decide), z3.1 78 (by decide) (by decide), z3.1 79 (by decide) (by decide)]
      exact m1.2.2.1

theorem op_count {d e : Nat} {M : Mm} {ML : Ml} {y : Int32} (hJ : J M) : EX (d + 1) k_X11_count [.ref 1, .int y] M ML (fun r M1 L1 => ∃ v, r = some (.int v) ∧ EX (e + 2) k_X12_count [.ref 73, .int y] M1 L1 (fun r2 M2 L2 => r2 = some (.int v) ∧ J M2)) := by
  obtain ⟨N, E, A, l, h, L, F, B, hs⟩ := hJ
  have hs0 := hs
  obtain ⟨hW, ⟨hS, hL, hF, hB, hR, hc, hr, hw⟩, ⟨mS, mL, mF, mB⟩, hH, hI⟩ := hs0
  refine EX_mono (ok_X11_count hS.1 hS.2.1 hL.1 hF.1 hB.1 hR.1) (fun r M1 L1 q => ?_)
  obtain ⟨q0, -, q2⟩ := q
  subst q2
  refine ⟨_, q0, EX_mono (ok_X12_count mS hW mL.1 mF.1 mB.1) (fun r2 M2 L2 z => ?_)⟩
  obtain ⟨z0, -, z2⟩ := z
  exact ⟨z0, JS_J (JS_m hs z2 (by decide) (by decide))⟩

theorem op_image {d e : Nat} {M : Mm} {ML : Ml} (hJ : J M) : EX (d + 4) k_X11_image [.ref 1] M ML (fun r M1 L1 => ∃ v, r = some (.int v) ∧ EX (e + 1) k_X12_image [.ref 73] M1 L1 (fun r2 M2 L2 => r2 = some (.int v) ∧ J M2)) := by
  obtain ⟨N, E, A, l, h, L, F, B, hs⟩ := hJ
  have hs0 := hs
  obtain ⟨hW, ⟨hS, hL, hF, hB, hR, hc, hr, hw⟩, ⟨mS, mL, mF, mB⟩, hH, hI⟩ := hs0
  refine EX_mono (ok_X11_image hS hW hL hF) (fun r M1 L1 q => ?_)
  obtain ⟨q0, -, q2, q3, q4⟩ := q
  have e := Fr_e (T := TD) q2 (by decide)
  have c1 := JC_e hs.2.1 (M' := M1) (fun x hx => e x (by revert hx; simp [TC, TD]; omega)) (hfC_e hc (Fr_e q2 (by decide))) (hfR_e hr (Fr_e q2 (by decide))) (WS_e hw (Fr_e q2 (by decide)))
  have m1 := JM_c hs.2.2.1 q2 (by decide)
  have i1 := HR_e hH (Fr_e q2 (by decide))
  refine ⟨_, q0, EX_mono (ok_X12_image m1.1 hW m1.2.1 m1.2.2.1) (fun r2 M2 L2 z => ?_)⟩
  obtain ⟨z0, -, z2, z3, z4⟩ := z
  refine ⟨z0, JS_mk hW (JC_m c1 z2 (by decide)) (JM_e m1 (Fm_e z2 (by decide) (by decide)) (Fm_k z2 (by decide))) ⟨HR_e i1 (Fm_e z2 (by decide) (by decide)), Or.inr ⟨?_, z4, N, E, A, l, h, L, F, hW, ?_, z3⟩⟩⟩
  · rw [z2.1 1 (by decide) (by decide)]
    exact q4
  · unfold KP NS at q3 ⊢
    have e2 := Fm_e (T := [50, 51, 52, 53, 54, 55, 56, 57, 58, 59, 60]) z2 (by decide) (by decide)
    rw [e2 50 (by decide), e2 51 (by decide), e2 52 (by decide), e2 53 (by decide), e2 54 (by decide), e2 55 (by decide), e2 56 (by decide), e2 57 (by decide), e2 58 (by decide), e2 59 (by decide), e2 60 (by decide)]
    exact q3

theorem op_undo {d e : Nat} {M : Mm} {ML : Ml} (hJ : J M) : EX (d + 6) k_X11_undo [.ref 1] M ML (fun r M1 L1 => ∃ v, r = some (.int v) ∧ EX (e + 1) k_X12_undo [.ref 73] M1 L1 (fun r2 M2 L2 => r2 = some (.int v) ∧ J M2)) := by
  obtain ⟨N, E, A, l, h, L, F, B, hs⟩ := hJ
  have hs0 := hs
  obtain ⟨hW, ⟨hS, hL, hF, hB, hR, hc, hr, hw⟩, ⟨mS, mL, mF, mB⟩, hH, hI⟩ := hs0
  have hI' := hI
  rcases hI' with ⟨k1, k2⟩ | ⟨k1, k2, N', E', A', l', h', L', F', kW, kK, kI⟩
  · refine EX_mono (ok_X11_undo_n k1) (fun r M1 L1 q => ?_)
    obtain ⟨q0, -, q2⟩ := q
    subst q2
    refine ⟨_, q0, EX_mono (ok_X12_undo_n k2) (fun r2 M2 L2 z => ?_)⟩
    obtain ⟨z0, -, z2⟩ := z
    subst z2
    exact ⟨z0, JS_J hs⟩
  · refine EX_mono (ok_X11_undo_y kK kW k1) (fun r M1 L1 q => ?_)
    obtain ⟨q0, -, q4, w1, w2, w3, w4, w5, w6⟩ := q
    have c1 : JC M1 N' E' A' l' h' L' F' B := ⟨w1, w5, w6, TS_e hB (congrFun (q4 47 (by decide)) 0) (q4 48 (by decide)), w2, Or.inl w3, Or.inl w4, WS_e hw (Fr_e q4 (by decide))⟩
    have m1 := JM_c hs.2.2.1 q4 (by decide)
    have i1 := HI_c ⟨hH, hI⟩ q4 (by decide)
    have kI1 : IMG M1 N' E' A' l' h' L' F' := by
      unfold IMG at kI ⊢
      rw [q4 101 (by decide)]
      exact kI
    refine ⟨_, q0, EX_mono (ok_X12_undo_y kI1 kW ((congrFun (q4 73 (by decide)) 39).trans k2)) (fun r2 M2 L2 z => ?_)⟩
    obtain ⟨z0, -, z2, z3, z4, z5⟩ := z
    exact ⟨z0, JS_mk kW (JC_m c1 z2 (by decide)) ⟨z3, z4, z5, TS_e m1.2.2.2 (z2.2 12 (by decide)) (z2.1 80 (by decide) (by decide))⟩ (HI_m i1 z2 (by decide) (by decide))⟩

