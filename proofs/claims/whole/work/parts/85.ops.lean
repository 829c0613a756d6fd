/-! ===== the questions: both answer the same and the invariant stays ===== -/
theorem op_of {d e : Nat} {M : Mm} {ML : Ml} {x y : Int32} (hJ : J M) : EX (d + 3) k_X11_of [.ref 1, .int x, .int y] M ML (fun r M1 L1 => ∃ v, r = some (.int v) ∧ EX (e + 3) k_X12_of [.ref 73, .int x, .int y] M1 L1 (fun r2 M2 L2 => r2 = some (.int v) ∧ J M2)) := by
  obtain ⟨N, E, A, l, h, L, F, B, hs⟩ := hJ
  have hs0 := hs
  obtain ⟨hW, ⟨hS, hL, hF, hB, hR, hc, hr, hw⟩, ⟨mS, mL, mF, mB⟩, hH, hI⟩ := hs0
  refine EX_mono (ok_X11_of hS hW hR) (fun r M1 L1 q => ?_)
  obtain ⟨q0, -, q2⟩ := q
  subst q2
  have hs1 := hs
  have hn := hs1.2.2.1
  obtain ⟨nS, nL, nF, nB⟩ := hn
  refine ⟨_, q0, EX_mono (ok_X12_of nS hW) (fun r2 M2 L2 w => ?_)⟩
  obtain ⟨w1, -, w2⟩ := w
  exact ⟨w1, JS_J (JS_m hs1 w2 (by decide) (by decide))⟩

theorem op_arrows {d e : Nat} {M : Mm} {ML : Ml} (hJ : J M) : EX (d + 1) k_X11_arrows [.ref 1] M ML (fun r M1 L1 => ∃ v, r = some (.int v) ∧ EX (e + 1) k_X12_arrows [.ref 73] M1 L1 (fun r2 M2 L2 => r2 = some (.int v) ∧ J M2)) := by
  obtain ⟨N, E, A, l, h, L, F, B, hs⟩ := hJ
  have hs0 := hs
  obtain ⟨hW, ⟨hS, hL, hF, hB, hR, hc, hr, hw⟩, ⟨mS, mL, mF, mB⟩, hH, hI⟩ := hs0
  refine EX_of (ok_X11_arrows d M ML hS hW) ?_
  have hs1 := hs
  have w0 : ∀ q : Option Value, q = q := fun _ => rfl
  have hn := hs1.2.2.1
  obtain ⟨nS, nL, nF, nB⟩ := hn
  exact ⟨_, rfl, EX_of (ok_X12_arrows e _ _ nS hW) ⟨rfl, JS_J hs1⟩⟩

theorem op_ends {d e : Nat} {M : Mm} {ML : Ml} {x y : Int32} (hJ : J M) : EX (d + 3) k_X11_ends [.ref 1, .int x, .int y] M ML (fun r M1 L1 => ∃ v, r = some (.int v) ∧ EX (e + 5) k_X12_ends [.ref 73, .int x, .int y] M1 L1 (fun r2 M2 L2 => r2 = some (.int v) ∧ J M2)) := by
  obtain ⟨N, E, A, l, h, L, F, B, hs⟩ := hJ
  have hs0 := hs
  obtain ⟨hW, ⟨hS, hL, hF, hB, hR, hc, hr, hw⟩, ⟨mS, mL, mF, mB⟩, hH, hI⟩ := hs0
  refine EX_of (ok_X11_ends d M ML x y hS hW) ?_
  have hs1 := hs
  have w0 : ∀ q : Option Value, q = q := fun _ => rfl
  have hn := hs1.2.2.1
  obtain ⟨nS, nL, nF, nB⟩ := hn
  exact ⟨_, rfl, EX_of (ok_X12_ends e _ _ x y nS hW) ⟨rfl, JS_J hs1⟩⟩

theorem op_free {d e : Nat} {M : Mm} {ML : Ml} {x : Int32} (hJ : J M) : EX (d + 2) k_X11_free [.ref 1, .int x] M ML (fun r M1 L1 => ∃ v, r = some (.int v) ∧ EX (e + 4) k_X12_free [.ref 73, .int x] M1 L1 (fun r2 M2 L2 => r2 = some (.int v) ∧ J M2)) := by
  obtain ⟨N, E, A, l, h, L, F, B, hs⟩ := hJ
  have hs0 := hs
  obtain ⟨hW, ⟨hS, hL, hF, hB, hR, hc, hr, hw⟩, ⟨mS, mL, mF, mB⟩, hH, hI⟩ := hs0
  refine EX_of (ok_X11_free d M ML x hS hW) ?_
  have hs1 := hs
  have w0 : ∀ q : Option Value, q = q := fun _ => rfl
  have hn := hs1.2.2.1
  obtain ⟨nS, nL, nF, nB⟩ := hn
  exact ⟨_, rfl, EX_of (ok_X12_free e _ _ x nS hW) ⟨rfl, JS_J hs1⟩⟩

theorem op_log {d e : Nat} {M : Mm} {ML : Ml} {x y : Int32} (hJ : J M) : EX (d + 2) k_X11_log [.ref 1, .int x, .int y] M ML (fun r M1 L1 => ∃ v, r = some (.int v) ∧ EX (e + 2) k_X12_log [.ref 73, .int x, .int y] M1 L1 (fun r2 M2 L2 => r2 = some (.int v) ∧ J M2)) := by
  obtain ⟨N, E, A, l, h, L, F, B, hs⟩ := hJ
  have hs0 := hs
  obtain ⟨hW, ⟨hS, hL, hF, hB, hR, hc, hr, hw⟩, ⟨mS, mL, mF, mB⟩, hH, hI⟩ := hs0
  refine EX_of (ok_X11_log d M ML x y hL) ?_
  have hs1 := hs
  have w0 : ∀ q : Option Value, q = q := fun _ => rfl
  have hn := hs1.2.2.1
  obtain ⟨nS, nL, nF, nB⟩ := hn
  exact ⟨_, rfl, EX_of (ok_X12_log e _ _ x y nL) ⟨rfl, JS_J hs1⟩⟩

theorem op_flow {d e : Nat} {M : Mm} {ML : Ml} {x y : Int32} (hJ : J M) : EX (d + 4) k_X11_flow [.ref 1, .int x, .int y] M ML (fun r M1 L1 => ∃ v, r = some (.long v) ∧ EX (e + 4) k_X12_flow [.ref 73, .int x, .int y] M1 L1 (fun r2 M2 L2 => r2 = some (.long v) ∧ J M2)) := by
  obtain ⟨N, E, A, l, h, L, F, B, hs⟩ := hJ
  have hs0 := hs
  obtain ⟨hW, ⟨hS, hL, hF, hB, hR, hc, hr, hw⟩, ⟨mS, mL, mF, mB⟩, hH, hI⟩ := hs0
  refine EX_mono (ok_X11_flow hS hW hR) (fun r M1 L1 q => ?_)
  obtain ⟨q0, -, q2⟩ := q
  subst q2
  have hs1 := hs
  have hn := hs1.2.2.1
  obtain ⟨nS, nL, nF, nB⟩ := hn
  refine ⟨_, q0, EX_mono (ok_X12_flow nS hW) (fun r2 M2 L2 w => ?_)⟩
  obtain ⟨w1, -, w2⟩ := w
  exact ⟨w1, JS_J (JS_m hs1 w2 (by decide) (by decide))⟩

theorem op_alike {d e : Nat} {M : Mm} {ML : Ml} {x y : Int32} (hJ : J M) : EX (d + 5) k_X11_alike [.ref 1, .int x, .int y] M ML (fun r M1 L1 => ∃ v, r = some (.int v) ∧ EX (e + 6) k_X12_alike [.ref 73, .int x, .int y] M1 L1 (fun r2 M2 L2 => r2 = some (.int v) ∧ J M2)) := by
  obtain ⟨N, E, A, l, h, L, F, B, hs⟩ := hJ
  have hs0 := hs
  obtain ⟨hW, ⟨hS, hL, hF, hB, hR, hc, hr, hw⟩, ⟨mS, mL, mF, mB⟩, hH, hI⟩ := hs0
  refine EX_mono (ok_X11_alike hS hW hR) (fun r M1 L1 q => ?_)
  obtain ⟨q0, -, q2⟩ := q
  subst q2
  have hs1 := hs
  have hn := hs1.2.2.1
  obtain ⟨nS, nL, nF, nB⟩ := hn
  refine ⟨_, q0, EX_mono (ok_X12_alike nS hW) (fun r2 M2 L2 w => ?_)⟩
  obtain ⟨w1, -, w2⟩ := w
  exact ⟨w1, JS_J (JS_m hs1 w2 (by decide) (by decide))⟩

theorem op_many {d e : Nat} {M : Mm} {ML : Ml} {y : Int32} (hJ : J M) : EX (d + 5) k_X11_many [.ref 1, .int y] M ML (fun r M1 L1 => ∃ v, r = some (.int v) ∧ EX (e + 6) k_X12_many [.ref 73, .int y] M1 L1 (fun r2 M2 L2 => r2 = some (.int v) ∧ J M2)) := by
  obtain ⟨N, E, A, l, h, L, F, B, hs⟩ := hJ
  have hs0 := hs
  obtain ⟨hW, ⟨hS, hL, hF, hB, hR, hc, hr, hw⟩, ⟨mS, mL, mF, mB⟩, hH, hI⟩ := hs0
  refine EX_mono (ok_X11_many hS hW hR hc) (fun r M1 L1 q => ?_)
  obtain ⟨q0, q2, q3⟩ := q
  have hs1 := JS_c hs q2 (by decide) q3 (hfR_e hr (Fr_e q2 (by decide))) (WS_e hw (Fr_e q2 (by decide)))
  have hn := hs1.2.2.1
  obtain ⟨nS, nL, nF, nB⟩ := hn
  refine ⟨_, q0, EX_mono (ok_X12_many nS hW) (fun r2 M2 L2 w => ?_)⟩
  obtain ⟨w1, w2⟩ := w
  exact ⟨w1, JS_J (JS_m hs1 w2 (by decide) (by decide))⟩

theorem op_ofClass {d e : Nat} {M : Mm} {ML : Ml} {x y : Int32} (hJ : J M) : EX (d + 5) k_X11_ofClass [.ref 1, .int x, .int y] M ML (fun r M1 L1 => ∃ v, r = some (.int v) ∧ EX (e + 6) k_X12_ofClass [.ref 73, .int x, .int y] M1 L1 (fun r2 M2 L2 => r2 = some (.int v) ∧ J M2)) := by
  obtain ⟨N, E, A, l, h, L, F, B, hs⟩ := hJ
  have hs0 := hs
  obtain ⟨hW, ⟨hS, hL, hF, hB, hR, hc, hr, hw⟩, ⟨mS, mL, mF, mB⟩, hH, hI⟩ := hs0
  refine EX_mono (ok_X11_ofClass hS hW hR hc) (fun r M1 L1 q => ?_)
  obtain ⟨q0, q2, q3⟩ := q
  have hs1 := JS_c hs q2 (by decide) q3 (hfR_e hr (Fr_e q2 (by decide))) (WS_e hw (Fr_e q2 (by decide)))
  have hn := hs1.2.2.1
  obtain ⟨nS, nL, nF, nB⟩ := hn
  refine ⟨_, q0, EX_mono (ok_X12_ofClass nS hW) (fun r2 M2 L2 w => ?_)⟩
  obtain ⟨w1, w2⟩ := w
  exact ⟨w1, JS_J (JS_m hs1 w2 (by decide) (by decide))⟩

theorem op_place {d e : Nat} {M : Mm} {ML : Ml} {x : Int32} (hJ : J M) : EX (d + 5) k_X11_place [.ref 1, .int x] M ML (fun r M1 L1 => ∃ v, r = some (.int v) ∧ EX (e + 6) k_X12_place [.ref 73, .int x] M1 L1 (fun r2 M2 L2 => r2 = some (.int v) ∧ J M2)) := by
  obtain ⟨N, E, A, l, h, L, F, B, hs⟩ := hJ
  have hs0 := hs
  obtain ⟨hW, ⟨hS, hL, hF, hB, hR, hc, hr, hw⟩, ⟨mS, mL, mF, mB⟩, hH, hI⟩ := hs0
  refine EX_mono (ok_X11_place hS hW hR hc) (fun r M1 L1 q => ?_)
  obtain ⟨q0, q2, q3⟩ := q
  have hs1 := JS_c hs q2 (by decide) q3 (hfR_e hr (Fr_e q2 (by decide))) (WS_e hw (Fr_e q2 (by decide)))
  have hn := hs1.2.2.1
  obtain ⟨nS, nL, nF, nB⟩ := hn
  refine ⟨_, q0, EX_mono (ok_X12_place nS hW) (fun r2 M2 L2 w => ?_)⟩
  obtain ⟨w1, w2⟩ := w
  exact ⟨w1, JS_J (JS_m hs1 w2 (by decide) (by decide))⟩

theorem op_rooted {d e : Nat} {M : Mm} {ML : Ml} {x : Int32} (hJ : J M) : EX (d + 5) k_X11_rooted [.ref 1, .int x] M ML (fun r M1 L1 => ∃ v, r = some (.int v) ∧ EX (e + 5) k_X12_rooted [.ref 73, .int x] M1 L1 (fun r2 M2 L2 => r2 = some (.int v) ∧ J M2)) := by
  obtain ⟨N, E, A, l, h, L, F, B, hs⟩ := hJ
  have hs0 := hs
  obtain ⟨hW, ⟨hS, hL, hF, hB, hR, hc, hr, hw⟩, ⟨mS, mL, mF, mB⟩, hH, hI⟩ := hs0
  refine EX_mono (ok_X11_rooted hS hW hR hc) (fun r M1 L1 q => ?_)
  obtain ⟨q0, q2, q3⟩ := q
  have hs1 := JS_c hs q2 (by decide) q3 (hfR_e hr (Fr_e q2 (by decide))) (WS_e hw (Fr_e q2 (by decide)))
  have hn := hs1.2.2.1
  obtain ⟨nS, nL, nF, nB⟩ := hn
  refine ⟨_, q0, EX_mono (ok_X12_rooted nS hW) (fun r2 M2 L2 w => ?_)⟩
  obtain ⟨w1, -, w2⟩ := w
  subst w2
  exact ⟨w1, JS_J hs1⟩

theorem op_tutte {d e : Nat} {M : Mm} {ML : Ml} {x y : Int32} (hJ : J M) : EX (d + 4) k_X11_tutte [.ref 1, .int x, .int y] M ML (fun r M1 L1 => ∃ v, r = some (.int v) ∧ EX (e + 3) k_X12_tutte [.ref 73, .int x, .int y] M1 L1 (fun r2 M2 L2 => r2 = some (.int v) ∧ J M2)) := by
  obtain ⟨N, E, A, l, h, L, F, B, hs⟩ := hJ
  have hs0 := hs
  obtain ⟨hW, ⟨hS, hL, hF, hB, hR, hc, hr, hw⟩, ⟨mS, mL, mF, mB⟩, hH, hI⟩ := hs0
  refine EX_mono (ok_X11_tutte hS hW hr) (fun r M1 L1 q => ?_)
  obtain ⟨q0, -, q2, q3⟩ := q
  have hs1 := JS_c hs q2 (by decide) (hfC_e hc (Fr_e q2 (by decide))) q3 (WS_e hw (Fr_e q2 (by decide)))
  have hn := hs1.2.2.1
  obtain ⟨nS, nL, nF, nB⟩ := hn
  refine ⟨_, q0, EX_mono (ok_X12_tutte nS hW) (fun r2 M2 L2 w => ?_)⟩
  obtain ⟨w1, -, w2⟩ := w
  exact ⟨w1, JS_J (JS_m hs1 w2 (by decide) (by decide))⟩

theorem op_distance {d e : Nat} {M : Mm} {ML : Ml} {x y : Int32} (hJ : J M) : EX (d + 5) k_X11_distance [.ref 1, .int x, .int y] M ML (fun r M1 L1 => ∃ v, r = some (.int v) ∧ EX (e + 5) k_X12_distance [.ref 73, .int x, .int y] M1 L1 (fun r2 M2 L2 => r2 = some (.int v) ∧ J M2)) := by
  obtain ⟨N, E, A, l, h, L, F, B, hs⟩ := hJ
  have hs0 := hs
  obtain ⟨hW, ⟨hS, hL, hF, hB, hR, hc, hr, hw⟩, ⟨mS, mL, mF, mB⟩, hH, hI⟩ := hs0
  refine EX_mono (ok_X11_distance hS hW hw) (fun r M1 L1 q => ?_)
  obtain ⟨q0, -, q2, q3⟩ := q
  have hs1 := JS_c hs q2 (by decide) (hfC_e hc (Fr_e q2 (by decide))) (hfR_e hr (Fr_e q2 (by decide))) q3
  have hn := hs1.2.2.1
  obtain ⟨nS, nL, nF, nB⟩ := hn
  refine ⟨_, q0, EX_mono (ok_X12_distance nS hW) (fun r2 M2 L2 w => ?_)⟩
  obtain ⟨w1, -, w2⟩ := w
  exact ⟨w1, JS_J (JS_m hs1 w2 (by decide) (by decide))⟩

theorem op_step {d e : Nat} {M : Mm} {ML : Ml} {x y : Int32} (hJ : J M) : EX (d + 5) k_X11_step [.ref 1, .int x, .int y] M ML (fun r M1 L1 => ∃ v, r = some (.int v) ∧ EX (e + 5) k_X12_step [.ref 73, .int x, .int y] M1 L1 (fun r2 M2 L2 => r2 = some (.int v) ∧ J M2)) := by
  obtain ⟨N, E, A, l, h, L, F, B, hs⟩ := hJ
  have hs0 := hs
  obtain ⟨hW, ⟨hS, hL, hF, hB, hR, hc, hr, hw⟩, ⟨mS, mL, mF, mB⟩, hH, hI⟩ := hs0
  refine EX_mono (ok_X11_step hS hW hw) (fun r M1 L1 q => ?_)
  obtain ⟨q0, -, q2, q3⟩ := q
  have hs1 := JS_c hs q2 (by decide) (hfC_e hc (Fr_e q2 (by decide))) (hfR_e hr (Fr_e q2 (by decide))) q3
  have hn := hs1.2.2.1
  obtain ⟨nS, nL, nF, nB⟩ := hn
  refine ⟨_, q0, EX_mono (ok_X12_step nS hW) (fun r2 M2 L2 w => ?_)⟩
  obtain ⟨w1, -, w2⟩ := w
  exact ⟨w1, JS_J (JS_m hs1 w2 (by decide) (by decide))⟩

theorem op_far {d e : Nat} {M : Mm} {ML : Ml} {x y : Int32} (hJ : J M) : EX (d + 5) k_X11_far [.ref 1, .int x, .int y] M ML (fun r M1 L1 => ∃ v, r = some (.int v) ∧ EX (e + 5) k_X12_far [.ref 73, .int x, .int y] M1 L1 (fun r2 M2 L2 => r2 = some (.int v) ∧ J M2)) := by
  obtain ⟨N, E, A, l, h, L, F, B, hs⟩ := hJ
  have hs0 := hs
  obtain ⟨hW, ⟨hS, hL, hF, hB, hR, hc, hr, hw⟩, ⟨mS, mL, mF, mB⟩, hH, hI⟩ := hs0
  refine EX_mono (ok_X11_far hS hW hw) (fun r M1 L1 q => ?_)
  obtain ⟨q0, -, q2, q3⟩ := q
  have hs1 := JS_c hs q2 (by decide) (hfC_e hc (Fr_e q2 (by decide))) (hfR_e hr (Fr_e q2 (by decide))) q3
  have hn := hs1.2.2.1
  obtain ⟨nS, nL, nF, nB⟩ := hn
  refine ⟨_, q0, EX_mono (ok_X12_far nS hW) (fun r2 M2 L2 w => ?_)⟩
  obtain ⟨w1, -, w2⟩ := w
  exact ⟨w1, JS_J (JS_m hs1 w2 (by decide) (by decide))⟩

theorem op_trip {d e : Nat} {M : Mm} {ML : Ml} {x : Int32} (hJ : J M) : EX (d + 5) k_X11_trip [.ref 1, .int x] M ML (fun r M1 L1 => ∃ v, r = some (.int v) ∧ EX (e + 5) k_X12_trip [.ref 73, .int x] M1 L1 (fun r2 M2 L2 => r2 = some (.int v) ∧ J M2)) := by
  obtain ⟨N, E, A, l, h, L, F, B, hs⟩ := hJ
  have hs0 := hs
  obtain ⟨hW, ⟨hS, hL, hF, hB, hR, hc, hr, hw⟩, ⟨mS, mL, mF, mB⟩, hH, hI⟩ := hs0
  refine EX_mono (ok_X11_trip hS hW hw) (fun r M1 L1 q => ?_)
  obtain ⟨q0, -, q2, q3⟩ := q
  have hs1 := JS_c hs q2 (by decide) (hfC_e hc (Fr_e q2 (by decide))) (hfR_e hr (Fr_e q2 (by decide))) q3
  have hn := hs1.2.2.1
  obtain ⟨nS, nL, nF, nB⟩ := hn
  refine ⟨_, q0, EX_mono (ok_X12_trip nS hW) (fun r2 M2 L2 w => ?_)⟩
  obtain ⟨w1, -, w2⟩ := w
  exact ⟨w1, JS_J (JS_m hs1 w2 (by decide) (by decide))⟩

theorem op_ways {d e : Nat} {M : Mm} {ML : Ml} {x y : Int32} (hJ : J M) : EX (d + 5) k_X11_ways [.ref 1, .int x, .int y] M ML (fun r M1 L1 => ∃ v, r = some (.long v) ∧ EX (e + 4) k_X12_ways [.ref 73, .int x, .int y] M1 L1 (fun r2 M2 L2 => r2 = some (.long v) ∧ J M2)) := by
  obtain ⟨N, E, A, l, h, L, F, B, hs⟩ := hJ
  have hs0 := hs
  obtain ⟨hW, ⟨hS, hL, hF, hB, hR, hc, hr, hw⟩, ⟨mS, mL, mF, mB⟩, hH, hI⟩ := hs0
  refine EX_mono (ok_X11_ways hS hW hw) (fun r M1 L1 q => ?_)
  obtain ⟨q0, q2, q3⟩ := q
  have hs1 := JS_c hs q2 (by decide) (hfC_e hc (Fr_e q2 (by decide))) (hfR_e hr (Fr_e q2 (by decide))) q3
  have hn := hs1.2.2.1
  obtain ⟨nS, nL, nF, nB⟩ := hn
  refine ⟨_, q0, EX_mono (ok_X12_ways nS hW) (fun r2 M2 L2 w => ?_)⟩
  obtain ⟨w1, w2⟩ := w
  subst w2
  exact ⟨w1, JS_J hs1⟩

theorem op_byWord {d e : Nat} {M : Mm} {ML : Ml} {x : Int32} (hJ : J M) : EX (d + 4) k_X11_byWord [.ref 1, .int x] M ML (fun r M1 L1 => ∃ v, r = some (.int v) ∧ EX (e + 3) k_X12_byWord [.ref 73, .int x] M1 L1 (fun r2 M2 L2 => r2 = some (.int v) ∧ J M2)) := by
  obtain ⟨N, E, A, l, h, L, F, B, hs⟩ := hJ
  have hs0 := hs
  obtain ⟨hW, ⟨hS, hL, hF, hB, hR, hc, hr, hw⟩, ⟨mS, mL, mF, mB⟩, hH, hI⟩ := hs0
  refine EX_mono (ok_X11_byWord hS hW) (fun r M1 L1 q => ?_)
  obtain ⟨q0, -, q2⟩ := q
  have hs1 := JS_c hs q2 (by decide) (hfC_e hc (Fr_e q2 (by decide))) (hfR_e hr (Fr_e q2 (by decide))) (WS_e hw (Fr_e q2 (by decide)))
  have hn := hs1.2.2.1
  obtain ⟨nS, nL, nF, nB⟩ := hn
  refine ⟨_, q0, EX_mono (ok_X12_byWord nS hW) (fun r2 M2 L2 w => ?_)⟩
  obtain ⟨w1, -, w2⟩ := w
  subst w2
  exact ⟨w1, JS_J hs1⟩

theorem op_words {d e : Nat} {M : Mm} {ML : Ml} {x y : Int32} (hJ : J M) : EX (d + 4) k_X11_words [.ref 1, .int x, .int y] M ML (fun r M1 L1 => ∃ v, r = some (.int v) ∧ EX (e + 5) k_X12_words [.ref 73, .int x, .int y] M1 L1 (fun r2 M2 L2 => r2 = some (.int v) ∧ J M2)) := by
  obtain ⟨N, E, A, l, h, L, F, B, hs⟩ := hJ
  have hs0 := hs
  obtain ⟨hW, ⟨hS, hL, hF, hB, hR, hc, hr, hw⟩, ⟨mS, mL, mF, mB⟩, hH, hI⟩ := hs0
  refine EX_mono (ok_X11_words hS hW) (fun r M1 L1 q => ?_)
  obtain ⟨q0, -, q2⟩ := q
  have hs1 := JS_c hs q2 (by decide) (hfC_e hc (Fr_e q2 (by decide))) (hfR_e hr (Fr_e q2 (by decide))) (WS_e hw (Fr_e q2 (by decide)))
  have hn := hs1.2.2.1
  obtain ⟨nS, nL, nF, nB⟩ := hn
  refine ⟨_, q0, EX_mono (ok_X12_words nS hW) (fun r2 M2 L2 w => ?_)⟩
  obtain ⟨w1, -, w2⟩ := w
  exact ⟨w1, JS_J (JS_m hs1 w2 (by decide) (by decide))⟩

theorem op_turn {d e : Nat} {M : Mm} {ML : Ml} {x : Int32} (hJ : J M) : EX (d + 4) k_X11_turn [.ref 1, .int x] M ML (fun r M1 L1 => ∃ v, r = some (.int v) ∧ EX (e + 3) k_X12_turn [.ref 73, .int x] M1 L1 (fun r2 M2 L2 => r2 = some (.int v) ∧ J M2)) := by
  obtain ⟨N, E, A, l, h, L, F, B, hs⟩ := hJ
  have hs0 := hs
  obtain ⟨hW, ⟨hS, hL, hF, hB, hR, hc, hr, hw⟩, ⟨mS, mL, mF, mB⟩, hH, hI⟩ := hs0
  refine EX_mono (ok_X11_turn hS hW) (fun r M1 L1 q => ?_)
  obtain ⟨q0, -, q2⟩ := q
  have hs1 := JS_c hs q2 (by decide) (hfC_e hc (Fr_e q2 (by decide))) (hfR_e hr (Fr_e q2 (by decide))) (WS_e hw (Fr_e q2 (by decide)))
  have hn := hs1.2.2.1
  obtain ⟨nS, nL, nF, nB⟩ := hn
  refine ⟨_, q0, EX_mono (ok_X12_turn nS hW) (fun r2 M2 L2 w => ?_)⟩
  obtain ⟨w1, -, w2⟩ := w
  subst w2
  exact ⟨w1, JS_J hs1⟩

theorem op_conjugate {d e : Nat} {M : Mm} {ML : Ml} {x y : Int32} (hJ : J M) : EX (d + 5) k_X11_conjugate [.ref 1, .int x, .int y] M ML (fun r M1 L1 => ∃ v, r = some (.int v) ∧ EX (e + 6) k_X12_conjugate [.ref 73, .int x, .int y] M1 L1 (fun r2 M2 L2 => r2 = some (.int v) ∧ J M2)) := by
  obtain ⟨N, E, A, l, h, L, F, B, hs⟩ := hJ
  have hs0 := hs
  obtain ⟨hW, ⟨hS, hL, hF, hB, hR, hc, hr, hw⟩, ⟨mS, mL, mF, mB⟩, hH, hI⟩ := hs0
  refine EX_mono (ok_X11_conjugate hS hW hR) (fun r M1 L1 q => ?_)
  obtain ⟨q0, -, q2⟩ := q
  have hs1 := JS_c hs q2 (by decide) (hfC_e hc (Fr_e q2 (by decide))) (hfR_e hr (Fr_e q2 (by decide))) (WS_e hw (Fr_e q2 (by decide)))
  have hn := hs1.2.2.1
  obtain ⟨nS, nL, nF, nB⟩ := hn
  refine ⟨_, q0, EX_mono (ok_X12_conjugate nS hW) (fun r2 M2 L2 w => ?_)⟩
  obtain ⟨w1, -, w2⟩ := w
  exact ⟨w1, JS_J (JS_m hs1 w2 (by decide) (by decide))⟩

theorem op_off {d e : Nat} {M : Mm} {ML : Ml} {x y : Int32} (hJ : J M) : EX (d + 4) k_X11_off [.ref 1, .int x, .int y] M ML (fun r M1 L1 => ∃ v, r = some (.int v) ∧ EX (e + 3) k_X12_off [.ref 73, .int x, .int y] M1 L1 (fun r2 M2 L2 => r2 = some (.int v) ∧ J M2)) := by
  obtain ⟨N, E, A, l, h, L, F, B, hs⟩ := hJ
  have hs0 := hs
  obtain ⟨hW, ⟨hS, hL, hF, hB, hR, hc, hr, hw⟩, ⟨mS, mL, mF, mB⟩, hH, hI⟩ := hs0
  refine EX_mono (ok_X11_off hS hW) (fun r M1 L1 q => ?_)
  obtain ⟨q0, -, q2⟩ := q
  have hs1 := JS_c hs q2 (by decide) (hfC_e hc (Fr_e q2 (by decide))) (hfR_e hr (Fr_e q2 (by decide))) (WS_e hw (Fr_e q2 (by decide)))
  have hn := hs1.2.2.1
  obtain ⟨nS, nL, nF, nB⟩ := hn
  refine ⟨_, q0, EX_mono (ok_X12_off nS hW) (fun r2 M2 L2 w => ?_)⟩
  obtain ⟨w1, -, w2⟩ := w
  subst w2
  exact ⟨w1, JS_J hs1⟩

theorem op_spell {d e : Nat} {M : Mm} {ML : Ml} {x : Int32} (hJ : J M) : EX (d + 3) k_X11_spell [.ref 1, .int x] M ML (fun r M1 L1 => ∃ v, r = some (.int v) ∧ EX (e + 3) k_X12_spell [.ref 73, .int x] M1 L1 (fun r2 M2 L2 => r2 = some (.int v) ∧ J M2)) := by
  obtain ⟨N, E, A, l, h, L, F, B, hs⟩ := hJ
  have hs0 := hs
  obtain ⟨hW, ⟨hS, hL, hF, hB, hR, hc, hr, hw⟩, ⟨mS, mL, mF, mB⟩, hH, hI⟩ := hs0
  refine EX_mono (ok_X11_spell hS hW) (fun r M1 L1 q => ?_)
  obtain ⟨q0, -, q2⟩ := q
  subst q2
  have hs1 := hs
  have hn := hs1.2.2.1
  obtain ⟨nS, nL, nF, nB⟩ := hn
  refine ⟨_, q0, EX_mono (ok_X12_spell nS hW) (fun r2 M2 L2 w => ?_)⟩
  obtain ⟨w1, -, w2⟩ := w
  subst w2
  exact ⟨w1, JS_J hs1⟩

