/-! ===== the other deeds ===== -/
theorem NS_A {M M' : Mm} {N E A A' : Nat} {l h : Nat → Nat} (hS : NS M 2 3 4 5 6 N E A l h) (f : Fr [2, 12, 13, 14] M M') (e : ∀ k, M' 2 k = up2 M 2 2 (nI A') 2 k) : NS M' 2 3 4 5 6 N E A' l h := by
  obtain ⟨h1, h2, h3, h4, h5⟩ := hS
  refine ⟨?_, ?_, ?_, ?_, ?_⟩
  · rw [e, up2_k (by decide)]
    exact h1
  · rw [e, up2_k (by decide)]
    exact h2
  · rw [e, up2_e]
  · rw [f 3 (by decide), f 4 (by decide)]
    exact h4
  · rw [f 5 (by decide), f 6 (by decide)]
    exact h5
theorem NM_A {M M' : Mm} {S : List Nat} {N E A A' : Nat} {l h : Nat → Nat} (hS : NM M N E A l h) (f : Fm S [4, 5] M M') (d : 74 ∉ S ∧ 75 ∉ S) (e : M' 73 4 = nI A') : NM M' N E A' l h := by
  obtain ⟨h1, h2, h3, h4⟩ := hS
  refine ⟨(f.2 0 (by decide)).trans h1, (f.2 1 (by decide)).trans h2, e, ?_⟩
  rw [f.1 74 d.1 (by decide), f.1 75 d.2 (by decide)]
  exact h4
theorem JC_A {M M' : Mm} {N E A A' : Nat} {l h : Nat → Nat} {L L' : List (Nat × Bool)} {F : List (Nat × Nat)} {B : List Int32} (q : JC M N E A l h L F B) (f : Fr [2, 12, 13, 14] M M') (w : NS M' 2 3 4 5 6 N E A' l h) (w2 : LG (M' 12 0) (M' 13) (M' 14) L') : JC M' N E A' l h L' F B := by
  obtain ⟨-, -, h3, h4, h5, h6, h7, h8⟩ := q
  exact ⟨w, w2, FS_row h3 (f 15 (by decide)) (f 16 (by decide)) (f 17 (by decide)), TS_e h4 (congrFun (f 47 (by decide)) 0) (f 48 (by decide)), RG_Fr h5 f (by decide), hfC_e h6 (Fr_e f (by decide)), hfR_e h7 (Fr_e f (by decide)), WS_e h8 (Fr_e f (by decide))⟩
theorem JM_A {M M' : Mm} {N E A A' : Nat} {l h : Nat → Nat} {L L' : List (Nat × Bool)} {F : List (Nat × Nat)} {B : List Int32} (q : JM M N E A l h L F B) (f : Fm [76, 77] [4, 5] M M') (w : NM M' N E A' l h) (w2 : LG (M' 73 5) (M' 76) (M' 77) L') : JM M' N E A' l h L' F B := by
  obtain ⟨-, -, h3, h4⟩ := q
  refine ⟨w, w2, ?_, TS_e h4 (f.2 12 (by decide)) (f.1 80 (by decide) (by decide))⟩
  rw [f.2 8 (by decide), f.1 78 (by decide) (by decide), f.1 79 (by decide) (by decide)]
  exact h3
theorem FS_e {c c' : Int32} {f f' g g' : Nat → Int32} {F : List (Nat × Nat)} (q : FS c f g F) (e1 : c' = c) (e2 : f' = f) (e3 : g' = g) : FS c' f' g' F := by
  rw [e1, e2, e3]
  exact q
theorem LG_e {c c' : Int32} {f f' g g' : Nat → Int32} {F : List (Nat × Bool)} (q : LG c f g F) (e1 : c' = c) (e2 : f' = f) (e3 : g' = g) : LG c' f' g' F := by
  rw [e1, e2, e3]
  exact q

theorem op_fire {d e : Nat} {M : Mm} {ML : Ml} {x : Int32} (hJ : J M) : EX (d + 4) k_X11_fire [.ref 1, .int x] M ML (fun r M1 L1 => ∃ v, r = some (.int v) ∧ EX (e + 5) k_X12_fire [.ref 73, .int x] M1 L1 (fun r2 M2 L2 => r2 = some (.int v) ∧ J M2)) := by
  obtain ⟨N, E, A, l, h, L, F, B, hs⟩ := hJ
  have hs0 := hs
  obtain ⟨hW, ⟨hS, hL, hF, hB, hR, hc, hr, hw⟩, ⟨mS, mL, mF, mB⟩, hH, hI⟩ := hs0
  have hN7 := hW.2.1
  by_cases w : inR x N = true ∧ (endsM E l h (nI A) true).testBit x.toNatClampNeg = true
  · have ex := inR_cl (by omega) w.1
    obtain ⟨M1, x1, x2, x3⟩ := ok_X11_fire_y d M ML hS hW hL ex.2 w.2
    rw [← ex.1] at x1
    refine EX_of x1 ?_
    have f1 : Fr [2, 12, 13, 14] M M1 := Fr_tr (Fr_up (M' := M) (k := 2) (v := nI (A ^^^ tmk E l h x.toNatClampNeg)) (by decide) Fr_rf) (Fr_mono x3 (by decide))
    have c1 := JC_A hs.2.1 f1 (NS_A (A' := (A ^^^ tmk E l h x.toNatClampNeg)) hS f1 (fun k => congrFun (x3 2 (by decide)) k)) x2
    have m1 := JM_c hs.2.2.1 f1 (by decide)
    have i1 := HI_c ⟨hH, hI⟩ f1 (by decide)
    obtain ⟨M2, y1, y2, y3⟩ := ok_X12_fire_y e M1 ML m1.1 hW m1.2.1 ex.2 w.2
    rw [← ex.1] at y1
    refine ⟨_, rfl, EX_of y1 ⟨rfl, ?_⟩⟩
    have f2 : Fm [76, 77] [4, 5] M1 M2 := Fm_tr (Fm_f (M' := M1) (k := 4) (v := nI (A ^^^ tmk E l h x.toNatClampNeg)) (by decide) Fm_rf) (Fm_mono y3 (by decide) (by decide))
    exact JS_mk (by exact ⟨hW.1, hW.2.1, hW.2.2.1, xor_ltE hW.2.2.2.1 (tmk_ltE _), hW.2.2.2.2⟩) (JC_m c1 f2 (by decide)) (JM_A m1 f2 (NM_A m1.1 f2 (by decide) ((y3.2 4 (by decide)).trans up2_e)) y2) (HI_m i1 f2 (by decide) (by decide))
  · have hx : inR x N = true → ∃ v, v < N ∧ x = nI v ∧ (endsM E l h (nI A) true).testBit v = false := fun q => ⟨_, (inR_cl (by omega) q).2, (inR_cl (by omega) q).1, Bool.eq_false_iff.mpr (fun z => w ⟨q, z⟩)⟩
    exact EX_of (ok_X11_fire_n d M ML hS hW hx) ⟨_, rfl, EX_of (ok_X12_fire_n e M ML mS hW hx) ⟨rfl, JS_J hs⟩⟩

theorem op_drown {d e : Nat} {M : Mm} {ML : Ml} {x : Int32} (hJ : J M) : EX (d + 4) k_X11_drown [.ref 1, .int x] M ML (fun r M1 L1 => ∃ v, r = some (.int v) ∧ EX (e + 5) k_X12_drown [.ref 73, .int x] M1 L1 (fun r2 M2 L2 => r2 = some (.int v) ∧ J M2)) := by
  obtain ⟨N, E, A, l, h, L, F, B, hs⟩ := hJ
  have hs0 := hs
  obtain ⟨hW, ⟨hS, hL, hF, hB, hR, hc, hr, hw⟩, ⟨mS, mL, mF, mB⟩, hH, hI⟩ := hs0
  have hN7 := hW.2.1
  by_cases w : inR x N = true ∧ (endsM E l h (nI A) false).testBit x.toNatClampNeg = true
  · have ex := inR_cl (by omega) w.1
    obtain ⟨M1, x1, x2, x3⟩ := ok_X11_drown_y d M ML hS hW hL ex.2 w.2
    rw [← ex.1] at x1
    refine EX_of x1 ?_
    have f1 : Fr [2, 12, 13, 14] M M1 := Fr_tr (Fr_up (M' := M) (k := 2) (v := nI (A ^^^ tmk E l h x.toNatClampNeg)) (by decide) Fr_rf) (Fr_mono x3 (by decide))
    have c1 := JC_A hs.2.1 f1 (NS_A (A' := (A ^^^ tmk E l h x.toNatClampNeg)) hS f1 (fun k => congrFun (x3 2 (by decide)) k)) x2
    have m1 := JM_c hs.2.2.1 f1 (by decide)
    have i1 := HI_c ⟨hH, hI⟩ f1 (by decide)
    obtain ⟨M2, y1, y2, y3⟩ := ok_X12_drown_y e M1 ML m1.1 hW m1.2.1 ex.2 w.2
    rw [← ex.1] at y1
    refine ⟨_, rfl, EX_of y1 ⟨rfl, ?_⟩⟩
    have f2 : Fm [76, 77] [4, 5] M1 M2 := Fm_tr (Fm_f (M' := M1) (k := 4) (v := nI (A ^^^ tmk E l h x.toNatClampNeg)) (by decide) Fm_rf) (Fm_mono y3 (by decide) (by decide))
    exact JS_mk (by exact ⟨hW.1, hW.2.1, hW.2.2.1, xor_ltE hW.2.2.2.1 (tmk_ltE _), hW.2.2.2.2⟩) (JC_m c1 f2 (by decide)) (JM_A m1 f2 (NM_A m1.1 f2 (by decide) ((y3.2 4 (by decide)).trans up2_e)) y2) (HI_m i1 f2 (by decide) (by decide))
  · have hx : inR x N = true → ∃ v, v < N ∧ x = nI v ∧ (endsM E l h (nI A) false).testBit v = false := fun q => ⟨_, (inR_cl (by omega) q).2, (inR_cl (by omega) q).1, Bool.eq_false_iff.mpr (fun z => w ⟨q, z⟩)⟩
    exact EX_of (ok_X11_drown_n d M ML hS hW hx) ⟨_, rfl, EX_of (ok_X12_drown_n e M ML mS hW hx) ⟨rfl, JS_J hs⟩⟩

theorem op_back {d e : Nat} {M : Mm} {ML : Ml} (hJ : J M) : EX (d + 3) k_X11_back [.ref 1] M ML (fun r M1 L1 => ∃ v, r = some (.int v) ∧ EX (e + 3) k_X12_back [.ref 73] M1 L1 (fun r2 M2 L2 => r2 = some (.int v) ∧ J M2)) := by
  obtain ⟨N, E, A, l, h, L, F, B, hs⟩ := hJ
  have hs0 := hs
  obtain ⟨hW, ⟨hS, hL, hF, hB, hR, hc, hr, hw⟩, ⟨mS, mL, mF, mB⟩, hH, hI⟩ := hs0
  by_cases w : L.length = 0
  · have h0 : M 12 0 = 0 := by rw [hL.1, w]; rfl
    have h1 : M 73 5 = 0 := by rw [mL.1, w]; rfl
    exact EX_of (ok_X11_back_n d M ML h0) ⟨_, rfl, EX_of (ok_X12_back_n e M ML h1) ⟨rfl, JS_J hs⟩⟩
  · have hlt : L.length - 1 < L.length := by omega
    obtain ⟨⟨v, b⟩, hl⟩ : ∃ p, L[L.length - 1]? = some p := ⟨_, List.getElem?_eq_getElem hlt⟩
    obtain ⟨M1, x1, x2, x3'⟩ := ok_X11_back_y d M ML hS hW hL hl
    have x3 : Fr [12, 13, 14] (up2 M 2 2 (nI (A ^^^ tmk E l h v))) M1 := Fr_mono x3' (by decide)
    refine EX_of x1 ?_
    have f1 : Fr [2, 12, 13, 14] M M1 := Fr_tr (Fr_up (M' := M) (k := 2) (v := nI (A ^^^ tmk E l h v)) (by decide) Fr_rf) (Fr_mono x3 (by decide))
    have c1 := JC_A hs.2.1 f1 (NS_A (A' := (A ^^^ tmk E l h v)) hS f1 (fun k => congrFun (x3 2 (by decide)) k)) x2
    have m1 := JM_c hs.2.2.1 f1 (by decide)
    have i1 := HI_c ⟨hH, hI⟩ f1 (by decide)
    obtain ⟨M2, y1, y2, y3'⟩ := ok_X12_back_y e M1 ML m1.1 hW m1.2.1 hl
    have y3 : Fm [76, 77] [5] (up2 M1 73 4 (nI (A ^^^ tmk E l h v))) M2 := Fm_mono y3' (by decide) (by decide)
    refine ⟨_, rfl, EX_of y1 ⟨rfl, ?_⟩⟩
    have f2 : Fm [76, 77] [4, 5] M1 M2 := Fm_tr (Fm_f (M' := M1) (k := 4) (v := nI (A ^^^ tmk E l h v)) (by decide) Fm_rf) (Fm_mono y3 (by decide) (by decide))
    exact JS_mk (by exact ⟨hW.1, hW.2.1, hW.2.2.1, xor_ltE hW.2.2.2.1 (tmk_ltE _), hW.2.2.2.2⟩) (JC_m c1 f2 (by decide)) (JM_A m1 f2 (NM_A m1.1 f2 (by decide) ((y3.2 4 (by decide)).trans up2_e)) y2) (HI_m i1 f2 (by decide) (by decide))

theorem op_set {d e : Nat} {M : Mm} {ML : Ml} {x : Int32} (hJ : J M) : EX (d + 2) k_X11_set [.ref 1, .int x] M ML (fun r M1 L1 => ∃ v, r = some (.int v) ∧ EX (e + 3) k_X12_set [.ref 73, .int x] M1 L1 (fun r2 M2 L2 => r2 = some (.int v) ∧ J M2)) := by
  obtain ⟨N, E, A, l, h, L, F, B, hs⟩ := hJ
  have hs0 := hs
  obtain ⟨hW, ⟨hS, hL, hF, hB, hR, hc, hr, hw⟩, ⟨mS, mL, mF, mB⟩, hH, hI⟩ := hs0
  have hE10 := hW.2.2.1
  have h1024 := pow_b hE10
  rcases Bool.eq_false_or_eq_true (inR x (2 ^ E)) with w | w
  · have ex := inR_cl (by omega) w
    have x1 := ok_X11_set d M ML x hS hW
    rw [w] at x1
    refine EX_of x1 ?_
    have x3 : Fr [12, 13, 14] (up2 M 2 2 (nI x.toNatClampNeg)) (up2 (up2 M 2 2 x) 12 0 0) := by rw [← ex.1]; exact Fr_up (by decide) Fr_rf
    have x2 : LG (up2 (up2 M 2 2 x) 12 0 0 12 0) (up2 (up2 M 2 2 x) 12 0 0 13) (up2 (up2 M 2 2 x) 12 0 0 14) [] := LG_z up2_e
    have f1 : Fr [2, 12, 13, 14] M (up2 (up2 M 2 2 x) 12 0 0) := Fr_tr (Fr_up (M' := M) (k := 2) (v := nI x.toNatClampNeg) (by decide) Fr_rf) (Fr_mono x3 (by decide))
    have c1 := JC_A hs.2.1 f1 (NS_A (A' := x.toNatClampNeg) hS f1 (fun k => congrFun (x3 2 (by decide)) k)) x2
    have m1 := JM_c hs.2.2.1 f1 (by decide)
    have i1 := HI_c ⟨hH, hI⟩ f1 (by decide)
    have y1 := ok_X12_set e _ ML x m1.1 hW
    rw [w] at y1
    refine ⟨_, rfl, EX_of y1 ⟨rfl, ?_⟩⟩
    have y3 : Fm [76, 77] [5] (up2 (up2 (up2 M 2 2 x) 12 0 0) 73 4 (nI x.toNatClampNeg)) (up2 (up2 (up2 (up2 M 2 2 x) 12 0 0) 73 4 x) 73 5 0) := by rw [← ex.1]; exact Fm_f (by decide) Fm_rf
    have y2 : LG (up2 (up2 (up2 (up2 M 2 2 x) 12 0 0) 73 4 x) 73 5 0 73 5) (up2 (up2 (up2 (up2 M 2 2 x) 12 0 0) 73 4 x) 73 5 0 76) (up2 (up2 (up2 (up2 M 2 2 x) 12 0 0) 73 4 x) 73 5 0 77) [] := LG_z up2_e
    have f2 : Fm [76, 77] [4, 5] (up2 (up2 M 2 2 x) 12 0 0) (up2 (up2 (up2 (up2 M 2 2 x) 12 0 0) 73 4 x) 73 5 0) := Fm_tr (Fm_f (M' := up2 (up2 M 2 2 x) 12 0 0) (k := 4) (v := nI x.toNatClampNeg) (by decide) Fm_rf) (Fm_mono y3 (by decide) (by decide))
    exact JS_mk (by exact ⟨hW.1, hW.2.1, hW.2.2.1, ex.2, hW.2.2.2.2⟩) (JC_m c1 f2 (by decide)) (JM_A m1 f2 (NM_A m1.1 f2 (by decide) ((y3.2 4 (by decide)).trans up2_e)) y2) (HI_m i1 f2 (by decide) (by decide))
  · have x1 := ok_X11_set d M ML x hS hW
    have y1 := ok_X12_set e M ML x mS hW
    rw [w] at x1 y1
    exact EX_of x1 ⟨_, rfl, EX_of y1 ⟨rfl, JS_J hs⟩⟩

theorem op_thin {d e : Nat} {M : Mm} {ML : Ml} (hJ : J M) : EX (d + 4) k_X11_thin [.ref 1] M ML (fun r M1 L1 => ∃ v, r = some (.int v) ∧ EX (e + 2) k_X12_thin [.ref 73] M1 L1 (fun r2 M2 L2 => r2 = some (.int v) ∧ J M2)) := by
  obtain ⟨N, E, A, l, h, L, F, B, hs⟩ := hJ
  have hs0 := hs
  obtain ⟨hW, ⟨hS, hL, hF, hB, hR, hc, hr, hw⟩, ⟨mS, mL, mF, mB⟩, hH, hI⟩ := hs0
  obtain ⟨M1, x1, x2, x3⟩ := ok_X11_thin d M ML hL
  refine EX_of x1 ?_
  have c1 := JC_A hs.2.1 (Fr_mono x3 (by decide)) (NS_Fr hS x3 (by decide)) x2
  have m1 := JM_c hs.2.2.1 x3 (by decide)
  have i1 := HI_c ⟨hH, hI⟩ x3 (by decide)
  obtain ⟨M2, y1, y2, y3⟩ := ok_X12_thin e M1 ML m1.2.1
  exact ⟨_, rfl, EX_of y1 ⟨rfl, JS_mk hW (JC_m c1 y3 (by decide)) (JM_A m1 (Fm_mono y3 (by decide) (by decide)) (NM_Fm m1.1 y3 (by decide) (by decide)) y2) (HI_m i1 y3 (by decide) (by decide))⟩⟩

theorem rg_ex {x : Int32} {n : Nat} (hn : n < 2 ^ 31) (q : 0 ≤ x ∧ x ≤ nI n) : ∃ k, k ≤ n ∧ x = nI k := wh_ex hn (decide_eq_true q)

theorem op_firer {d e : Nat} {M : Mm} {ML : Ml} {x y : Int32} (hJ : J M) : EX (d + 3) k_X11_firer [.ref 1, .int x, .int y] M ML (fun r M1 L1 => ∃ v, r = some (.int v) ∧ EX (e + 2) k_X12_firer [.ref 73, .int x, .int y] M1 L1 (fun r2 M2 L2 => r2 = some (.int v) ∧ J M2)) := by
  obtain ⟨N, E, A, l, h, L, F, B, hs⟩ := hJ
  have hs0 := hs
  obtain ⟨hW, ⟨hS, hL, hF, hB, hR, hc, hr, hw⟩, ⟨mS, mL, mF, mB⟩, hH, hI⟩ := hs0
  by_cases w : (0 ≤ x ∧ x ≤ 5) ∧ (0 ≤ y ∧ y ≤ 6)
  · obtain ⟨a, ha, rfl⟩ := rg_ex (n := 5) (by decide) w.1
    obtain ⟨b, hb, rfl⟩ := rg_ex (n := 6) (by decide) w.2
    by_cases w4 : F.length = 4
    · exact EX_of (ok_X11_firer_f d M ML hF w4 (by omega) (by omega)) ⟨_, rfl, EX_of (ok_X12_firer_f e M ML mF w4 (by omega) (by omega)) ⟨rfl, JS_J hs⟩⟩
    · have h4 : F.length < 4 := Nat.lt_of_le_of_ne hF.2.1 w4
      obtain ⟨M1, x1, x2, x3⟩ := ok_X11_firer_y d M ML (a := a) (b := b) hF h4 (by omega) (by omega)
      refine EX_of x1 ?_
      have e1 := Fr_e (T := [2, 3, 4, 5, 6, 12, 13, 14, 47, 48]) x3 (by decide)
      have c1 : JC M1 N E A l h L (F ++ [(a, b)]) B := ⟨NS_row hS (e1 2 (by decide)) (e1 3 (by decide)) (e1 4 (by decide)) (e1 5 (by decide)) (e1 6 (by decide)), LG_row hL (e1 12 (by decide)) (e1 13 (by decide)) (e1 14 (by decide)), x2, TS_e hB (congrFun (e1 47 (by decide)) 0) (e1 48 (by decide)), RG_Fr hR x3 (by decide), hfC_e hc (Fr_e x3 (by decide)), hfR_e hr (Fr_e x3 (by decide)), WS_e hw (Fr_e x3 (by decide))⟩
      have m1 := JM_c hs.2.2.1 x3 (by decide)
      have i1 := HI_c ⟨hH, hI⟩ x3 (by decide)
      obtain ⟨M2, y1, y2, y3⟩ := ok_X12_firer_y e M1 ML (a := a) (b := b) m1.2.2.1 h4 (by omega) (by omega)
      exact ⟨_, rfl, EX_of y1 ⟨rfl, JS_mk hW (JC_m c1 y3 (by decide)) ⟨NM_Fm m1.1 y3 (by decide) (by decide), LG_e m1.2.1 (y3.2 5 (by decide)) (y3.1 76 (by decide) (by decide)) (y3.1 77 (by decide) (by decide)), y2, TS_e m1.2.2.2 (y3.2 12 (by decide)) (y3.1 80 (by decide) (by decide))⟩ (HI_m i1 y3 (by decide) (by decide))⟩⟩
  · exact EX_of (ok_X11_firer_n d M ML w) ⟨_, rfl, EX_of (ok_X12_firer_n e M ML w) ⟨rfl, JS_J hs⟩⟩

theorem op_feed {d e : Nat} {M : Mm} {ML : Ml} {x y : Int32} (hJ : J M) : EX (d + 3) k_X11_feed [.ref 1, .int x, .int y] M ML (fun r M1 L1 => ∃ v, r = some (.int v) ∧ EX (e + 2) k_X12_feed [.ref 73, .int x, .int y] M1 L1 (fun r2 M2 L2 => r2 = some (.int v) ∧ J M2)) := by
  obtain ⟨N, E, A, l, h, L, F, B, hs⟩ := hJ
  have hs0 := hs
  obtain ⟨hW, ⟨hS, hL, hF, hB, hR, hc, hr, hw⟩, ⟨mS, mL, mF, mB⟩, hH, hI⟩ := hs0
  by_cases w : 1 ≤ y ∧ y ≤ 4
  · obtain ⟨n, hn, rfl⟩ := rg_ex (n := 4) (by decide) ⟨Int32.le_trans (by decide : (0 : Int32) ≤ 1) w.1, w.2⟩
    have hn1 : 1 ≤ n := nle (a := 1) (by decide) (by omega) w.1
    by_cases w4 : 40 < B.length + n
    · exact EX_of (ok_X11_feed_f d M ML hB w4 hn1 hn) ⟨_, rfl, EX_of (ok_X12_feed_f e M ML mB w4 hn1 hn) ⟨rfl, JS_J hs⟩⟩
    · obtain ⟨M1, x1, x2, x3⟩ := ok_X11_feed_y d M ML (x := x) hB (Nat.not_lt.mp w4) hn1 hn
      refine EX_of x1 ?_
      have e1 := Fr_e (T := [2, 3, 4, 5, 6, 12, 13, 14, 15, 16, 17]) x3 (by decide)
      have c1 : JC M1 N E A l h L F (B ++ feedL x n) := ⟨NS_row hS (e1 2 (by decide)) (e1 3 (by decide)) (e1 4 (by decide)) (e1 5 (by decide)) (e1 6 (by decide)), LG_row hL (e1 12 (by decide)) (e1 13 (by decide)) (e1 14 (by decide)), FS_row hF (e1 15 (by decide)) (e1 16 (by decide)) (e1 17 (by decide)), x2, RG_Fr hR x3 (by decide), hfC_e hc (Fr_e x3 (by decide)), hfR_e hr (Fr_e x3 (by decide)), WS_e hw (Fr_e x3 (by decide))⟩
      have m1 := JM_c hs.2.2.1 x3 (by decide)
      have i1 := HI_c ⟨hH, hI⟩ x3 (by decide)
      obtain ⟨M2, y1, y2, y3⟩ := ok_X12_feed_y e M1 ML (x := x) m1.2.2.2 (Nat.not_lt.mp w4) hn1 hn
      exact ⟨_, rfl, EX_of y1 ⟨rfl, JS_mk hW (JC_m c1 y3 (by decide)) ⟨NM_Fm m1.1 y3 (by decide) (by decide), LG_e m1.2.1 (y3.2 5 (by decide)) (y3.1 76 (by decide) (by decide)) (y3.1 77 (by decide) (by decide)), FS_e m1.2.2.1 (y3.2 8 (by decide)) (y3.1 78 (by decide) (by decide)) (y3.1 79 (by decide) (by decide)), y2⟩ (HI_m i1 y3 (by decide) (by decide))⟩⟩
  · exact EX_of (ok_X11_feed_n d M ML w) ⟨_, rfl, EX_of (ok_X12_feed_n e M ML w) ⟨rfl, JS_J hs⟩⟩

theorem op_wipe {d e : Nat} {M : Mm} {ML : Ml} (hJ : J M) : EX (d + 1) k_X11_wipe [.ref 1] M ML (fun r M1 L1 => ∃ v, r = some (.int v) ∧ EX (e + 1) k_X12_wipe [.ref 73] M1 L1 (fun r2 M2 L2 => r2 = some (.int v) ∧ J M2)) := by
  obtain ⟨N, E, A, l, h, L, F, B, hs⟩ := hJ
  have hs0 := hs
  obtain ⟨hW, ⟨hS, hL, hF, hB, hR, hc, hr, hw⟩, ⟨mS, mL, mF, mB⟩, hH, hI⟩ := hs0
  refine EX_of (ok_X11_wipe d M ML hB) ?_
  have x3 : Fr [47, 48] M (up2 M 47 0 0) := Fr_up (by decide) Fr_rf
  have x2 : TS (up2 M 47 0 0 47 0) (up2 M 47 0 0 48) [] := TS_z up2_e
  have e1 := Fr_e (T := [2, 3, 4, 5, 6, 12, 13, 14, 15, 16, 17]) x3 (by decide)
  have c1 : JC (up2 M 47 0 0) N E A l h L F [] := ⟨NS_row hS (e1 2 (by decide)) (e1 3 (by decide)) (e1 4 (by decide)) (e1 5 (by decide)) (e1 6 (by decide)), LG_row hL (e1 12 (by decide)) (e1 13 (by decide)) (e1 14 (by decide)), FS_row hF (e1 15 (by decide)) (e1 16 (by decide)) (e1 17 (by decide)), x2, RG_Fr hR x3 (by decide), hfC_e hc (Fr_e x3 (by decide)), hfR_e hr (Fr_e x3 (by decide)), WS_e hw (Fr_e x3 (by decide))⟩
  have m1 := JM_c hs.2.2.1 x3 (by decide)
  have i1 := HI_c ⟨hH, hI⟩ x3 (by decide)
  have y3 : Fm [] [12] (up2 M 47 0 0) (up2 (up2 M 47 0 0) 73 12 0) := Fm_f (by decide) Fm_rf
  have y2 : TS (up2 (up2 M 47 0 0) 73 12 0 73 12) (up2 (up2 M 47 0 0) 73 12 0 80) [] := TS_z up2_e
  exact ⟨_, rfl, EX_of (ok_X12_wipe e _ ML m1.2.2.2) ⟨rfl, JS_mk hW (JC_m c1 y3 (by decide)) ⟨NM_Fm m1.1 y3 (by decide) (by decide), LG_e m1.2.1 (y3.2 5 (by decide)) (y3.1 76 (by decide) (by decide)) (y3.1 77 (by decide) (by decide)), FS_e m1.2.2.1 (y3.2 8 (by decide)) (y3.1 78 (by decide) (by decide)) (y3.1 79 (by decide) (by decide)), y2⟩ (HI_m i1 y3 (by decide) (by decide))⟩⟩

theorem op_runs {d e : Nat} {M : Mm} {ML : Ml} {x y z : Int32} (hJ : J M) : EX (d + 6) k_X11_runs [.ref 1, .int x, .int y, .int z] M ML (fun r M1 L1 => ∃ v, r = some (.int v) ∧ EX (e + 5) k_X12_runs [.ref 73, .int x, .int y, .int z] M1 L1 (fun r2 M2 L2 => r2 = some (.int v) ∧ J M2)) := by
  obtain ⟨N, E, A, l, h, L, F, B, hs⟩ := hJ
  have hs0 := hs
  obtain ⟨hW, ⟨hS, hL, hF, hB, hR, hc, hr, hw⟩, ⟨mS, mL, mF, mB⟩, hH, hI⟩ := hs0
  rcases Bool.eq_false_or_eq_true (runOK N F.length x y z) with w | w
  · have w' := w
    unfold runOK at w'
    rw [Bool.and_eq_true, Bool.and_eq_true] at w'
    have h4 := hF.2.1
    obtain ⟨i, hi, rfl⟩ := inR_ex (by omega) w'.1
    obtain ⟨n, hn, rfl⟩ := inR_ex (by decide) w'.2.1
    obtain ⟨⟨k, b⟩, hl⟩ : ∃ p, F[i]? = some p := ⟨_, List.getElem?_eq_getElem hi⟩
    refine EX_mono (ok_X11_runs_y hS hW hF hl (by omega) w'.2.2) (fun r M1 L1 q => ?_)
    obtain ⟨q0, -, q2⟩ := q
    have hs1 := JS_c hs q2 (by decide) (hfC_e hc (Fr_e q2 (by decide))) (hfR_e hr (Fr_e q2 (by decide))) (WS_e hw (Fr_e q2 (by decide)))
    have hn1 := hs1.2.2.1
    refine ⟨_, q0, EX_mono (ok_X12_runs_y hn1.1 hW hn1.2.2.1 hl (by omega) w'.2.2) (fun r2 M2 L2 v => ?_)⟩
    obtain ⟨v0, -, v2⟩ := v
    exact ⟨v0, JS_J (JS_m hs1 v2 (by decide) (by decide))⟩
  · refine EX_mono (ok_X11_runs_n hS hW hF w) (fun r M1 L1 q => ?_)
    obtain ⟨q0, q2, -⟩ := q
    subst q2
    refine ⟨_, q0, EX_mono (ok_X12_runs_n mS hW mF w) (fun r2 M2 L2 v => ?_)⟩
    obtain ⟨v0, v2, -⟩ := v
    subst v2
    exact ⟨v0, JS_J hs⟩

