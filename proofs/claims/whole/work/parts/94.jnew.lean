/-! ===== both objects are new: the invariant holds ===== -/
set_option maxHeartbeats 1000000 in
set_option maxRecDepth 10000 in
theorem J_new {M : Mm} (hZ : ZR 101 M) : J M := by
  have z : ∀ x, 1 ≤ x → x ≤ 101 → x ≠ 49 → x ≠ 35 → ∀ y, ¬ (y = 0 ∧ (x = 2 ∨ x = 7 ∨ x = 50 ∨ x = 73)) → M x y = 0 := fun x h1 h2 h4 h5 y hy => by
    rw [hZ x h1 h2 h4 y]
    unfold iv
    rw [if_neg (fun q => h5 q.1), if_neg hy]
  have n2 : M 2 0 = 4 := hZ 2 (by decide) (by decide) (by decide) 0
  have n73 : M 73 0 = 4 := hZ 73 (by decide) (by decide) (by decide) 0
  refine JS_mk (N := 4) (E := 0) (A := 0) (l := fun _ => 0) (h := fun _ => 0) (L := []) (F := []) (B := []) (WN_new (by decide) (by decide)) ⟨⟨n2, z 2 (by decide) (by decide) (by decide) (by decide) 1 (by decide), z 2 (by decide) (by decide) (by decide) (by decide) 2 (by decide), fun e he => absurd he (Nat.not_lt_zero e), fun v _ => ⟨z 5 (by decide) (by decide) (by decide) (by decide) v (by omega), z 6 (by decide) (by decide) (by decide) (by decide) v (by omega)⟩⟩, LG_z (z 12 (by decide) (by decide) (by decide) (by decide) 0 (by decide)), ?_, TS_z (z 47 (by decide) (by decide) (by decide) (by decide) 0 (by decide)), ⟨z 18 (by decide) (by decide) (by decide) (by decide) 0 (by decide), fun c hc => absurd hc (Nat.not_lt_zero c)⟩, Or.inl (z 24 (by decide) (by decide) (by decide) (by decide) 0 (by decide)), Or.inl (z 31 (by decide) (by decide) (by decide) (by decide) 0 (by decide)), ?_⟩ ⟨⟨n73, z 73 (by decide) (by decide) (by decide) (by decide) 1 (by decide), z 73 (by decide) (by decide) (by decide) (by decide) 4 (by decide), fun e he => absurd he (Nat.not_lt_zero e)⟩, LG_z (z 73 (by decide) (by decide) (by decide) (by decide) 5 (by decide)), ?_, TS_z (z 73 (by decide) (by decide) (by decide) (by decide) 12 (by decide))⟩ ⟨fun i hi => ⟨?_, Or.inl ?_⟩, Or.inl ⟨z 1 (by decide) (by decide) (by decide) (by decide) 15 (by decide), z 73 (by decide) (by decide) (by decide) (by decide) 39 (by decide)⟩⟩
  · rw [z 15 (by decide) (by decide) (by decide) (by decide) 0 (by decide)]
    exact FS_0 _ _
  · have h35 : ∀ a, a < 1024 → M 35 a = -1 := fun a ha => by
      rw [hZ 35 (by decide) (by decide) (by decide) a]
      unfold iv
      rw [if_pos ⟨rfl, ha⟩]
    have h34 : M 34 2 = nI 0 := z 34 (by decide) (by decide) (by decide) (by decide) 2 (by decide)
    refine ⟨[], ?_, h34, by decide, fun k p q => by simp at q⟩
    exact ⟨fun k p q => by simp at q, fun b hb => (h35 b hb).trans rfl⟩
  · rw [z 73 (by decide) (by decide) (by decide) (by decide) 8 (by decide)]
    exact FS_0 _ _
  · rw [z (61 + 2 * i) (by omega) (by omega) (by omega) (by omega) 0 (by omega), z 81 (by decide) (by decide) (by decide) (by decide) i (by omega)]
  · exact z 81 (by decide) (by decide) (by decide) (by decide) i (by omega)

section LQ2
variable {X : Scr}
theorem l_new {pc L st sh sh' M ML i nx k b c z m} (h0 : lk cd_L_law pc = some (.new i, nx, k, b, c, z)) (hm : sh.length + 1 = m) (hs : sh ++ [(k + 4, b, nf k)] = sh') (h1 : LW X (nx, L, .ref m :: st, (sh', clr M m, ML))) : LW X (pc, L, st, (sh, M, ML)) := by
  subst hm hs
  exact LW_lift (fun _ h9 => r_new h0 h9) h1
theorem l_stk {pc L st st' w ins nx a b c z} (h0 : lk cd_L_law pc = some (ins, nx, a, b, c, z)) (h1 : stk ins st = some st') (h2 : LW X (nx, L, st', w)) : LW X (pc, L, st, w) := LW_lift (fun _ h9 => r_stk h0 h1 h9) h2
theorem l_sto {pc L L' st w ins nx a b c z v} (h0 : lk cd_L_law pc = some (ins, nx, a, b, c, z)) (h1 : stv ins v L = some L') (h2 : LW X (nx, L', st, w)) : LW X (pc, L, v :: st, w) := LW_lift (fun _ h9 => r_sto h0 h1 h9) h2
theorem l_calli {pc L st0 sh M ML ins nx k n c z as rest shB PB} (h0 : lk cd_L_law pc = some (ins, nx, k, n, c, z)) (h1 : isI ins = true) (h2 : Nat.blt k 900 = true) (h3 : Nat.ble n st0.length = true) (ha : (st0.take n).reverse = as) (hr : st0.drop n = rest) (h4 : Nat.ble ((rest.map fun v => v.category).sum) 8 = true) (h5 : rcv sh c as = true) (h6 : CE 6 k as sh M ML shB PB) (h7 : ∀ M2 ML2, PB M2 → LW X (nx, L, rest, (shB, M2, ML2))) : LW X (pc, L, st0, (sh, M, ML)) := by
  subst ha hr
  obtain ⟨M2, ML2, hp, hE⟩ := h6
  exact LW_lift (fun _ h9 => r_call h0 h1 h2 h3 (Nat.le_of_ble_eq_true h4) h5 hE h9) (h7 M2 ML2 hp)
end LQ2

set_option maxHeartbeats 2000000 in
set_option maxRecDepth 10000 in
theorem law_start {X : Scr} (hX : X.1 = true) (hL : X.2.1 ≤ 2048) (M : Mm) (ML : Ml) : LW X (0, [(0, .ref 0)], [], ([], M, ML)) := by
  refine l_new (m := 1) rfl rfl rfl ?_
  refine l_stk rfl rfl ?_
  refine l_calli rfl rfl rfl rfl rfl rfl rfl rfl (new_X11 (d := 4) clr_z) (fun M1 L1 z1 => ?_)
  refine l_sto (L' := [(0, .ref 0), (1, .ref 1)]) rfl rfl ?_
  refine l_new (m := 73) rfl rfl rfl ?_
  refine l_stk rfl rfl ?_
  refine l_calli rfl rfl rfl rfl rfl rfl rfl rfl (new_X12_init_73 (d := 5) (ZR_clr z1) clr_z) (fun M2 L2 z2 => ?_)
  refine l_sto (L' := [(0, .ref 0), (1, .ref 1), (2, .ref 73)]) rfl rfl ?_
  refine l_cst (v := .int 0) rfl rfl ?_
  refine l_sto (L' := [(0, .ref 0), (1, .ref 1), (2, .ref 73), (3, .int 0)]) rfl rfl ?_
  exact law_loop hX hL 513 0 rfl M2 L2 (J_new z2)

