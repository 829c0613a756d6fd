/-! ===== the constructor of the class ===== -/
section CQ3
variable {d : Nat} {cd : Cd} {sh2 : List SC} {P : Mm → Prop}
theorem c_stk {pc L st st' w ins nx a b c z} (h0 : lk cd pc = some (ins, nx, a, b, c, z)) (h1 : stk ins st = some st') (h2 : CW d cd sh2 P (nx, L, st', w)) : CW d cd sh2 P (pc, L, st, w) := CW_lift (fun _ h9 => r_stk h0 h1 h9) h2
theorem c_new {pc L st sh sh' M ML i nx k b c z m} (h0 : lk cd pc = some (.new i, nx, k, b, c, z)) (hm : sh.length + 1 = m) (hs : sh ++ [(k + 4, b, nf k)] = sh') (h1 : CW d cd sh2 P (nx, L, .ref m :: st, (sh', clr M m, ML))) : CW d cd sh2 P (pc, L, st, (sh, M, ML)) := by
  subst hm hs
  exact CW_lift (fun _ h9 => r_new h0 h9) h1
theorem c_nwq {pc L st sh sh' M ML i nx a b c z n N m} (h0 : lk cd pc = some (.anewarray i, nx, a, b, c, z)) (h1 : ¬ n < 0) (h2 : n.toNatClampNeg = N) (h3 : Nat.ble N 1000000 = true) (hm : sh.length + 1 = m) (hs : sh ++ [(3, N, List.replicate N (some none))] = sh') (h4 : CW d cd sh2 P (nx, L, .ref m :: st, (sh', M, ML))) : CW d cd sh2 P (pc, L, .int n :: st, (sh, M, ML)) := by
  subst hm hs
  exact CW_lift (fun _ h9 => r_nwq h0 h1 h2 h3 h9) h4
theorem c_asq {pc L st sh sh' M ML i n fs nx a b c z j r n3 f3} (h0 : lk cd pc = some (.aastore, nx, a, b, c, z)) (h1 : sh[i]? = some (3, n, fs)) (h2 : sh[r]? = some (7, n3, f3)) (h3 : j.toNatClampNeg < fs.length) (h4 : vp_in j n) (hs : sh.set i (3, n, fs.set j.toNatClampNeg (some (some (r + 1)))) = sh') (h5 : CW d cd sh2 P (nx, L, st, (sh', M, ML))) : CW d cd sh2 P (pc, L, .ref (r + 1) :: .int j :: .ref (i + 1) :: st, (sh, M, ML)) := by
  subst hs
  exact CW_lift (fun _ h9 => r_asq h0 h1 h2 h3 h4 h9) h5
theorem c_calli {pc L st0 sh M ML ins nx k n c z as rest shB PB} (h0 : lk cd pc = some (ins, nx, k, n, c, z)) (h1 : isI ins = true) (h2 : Nat.blt k 900 = true) (h3 : Nat.ble n st0.length = true) (ha : (st0.take n).reverse = as) (hr : st0.drop n = rest) (h4 : Nat.ble ((rest.map fun v => v.category).sum) 8 = true) (h5 : rcv sh c as = true) (h6 : CE d k as sh M ML shB PB) (h7 : ∀ M2 ML2, PB M2 → CW d cd sh2 P (nx, L, rest, (shB, M2, ML2))) : CW d cd sh2 P (pc, L, st0, (sh, M, ML)) := by
  subst ha hr
  obtain ⟨M2, ML2, hp, hE⟩ := h6
  exact CW_lift (fun _ h9 => r_call h0 h1 h2 h3 (Nat.le_of_ble_eq_true h4) h5 hE h9) (h7 M2 ML2 hp)
end CQ3
theorem ZR_clr {n : Nat} {M : Mm} (h : ZR n M) : ZR n (clr M (n + 1)) := fun x h1 h2 h4 y => by
  rw [clr_ne (by omega)]
  exact h x h1 h2 h4 y
theorem clr_z {M : Mm} {a : Nat} (y : Nat) : clr M a a y = 0 := by rw [clr_eq]
theorem ZR_49 {M : Mm} (h : ZR 48 M) : ZR 49 M := fun x h1 h2 h4 y => h x h1 (by omega) h4 y

set_option maxHeartbeats 4000000 in
set_option maxRecDepth 10000 in
theorem new_X11 {d : Nat} {M : Mm} {ML : Ml} (hA : ∀ y, M 1 y = 0) : CE (d + 2) k_X11_init [.ref 1] [(15, 16, nf 11)] M ML [(15, 16, [some (some 2), some (some 7), some (some 12), some (some 15), some (some 18), some (some 24), some (some 31), some (some 34), some (some 39), some (some 44), some (some 47), some (some 49), some (some 50), some (some 55), some (some 58), none]), (8, 7, [none, none, none, some (some 3), some (some 4), some (some 5), some (some 6)]), (0, 10, []), (0, 10, []), (0, 7, []), (0, 7, []), (8, 7, [none, none, none, some (some 8), some (some 9), some (some 10), some (some 11)]), (0, 10, []), (0, 10, []), (0, 7, []), (0, 7, []), (5, 3, [none, some (some 13), some (some 14)]), (0, 24, []), (0, 24, []), (6, 3, [none, some (some 16), some (some 17)]), (0, 4, []), (0, 4, []), (10, 6, [none, some (some 19), some (some 20), some (some 21), some (some 22), some (some 23)]), (0, 10, []), (0, 10, []), (0, 10, []), (0, 7, []), (0, 7, []), (4, 9, [none, none, none, some (some 25), some (some 26), some (some 27), some (some 28), some (some 29), some (some 30)]), (0, 1024, []), (0, 1024, []), (0, 1024, []), (0, 1024, []), (0, 1024, []), (1, 1024, []), (9, 3, [none, some (some 32), some (some 33)]), (0, 1024, []), (0, 77, []), (13, 5, [some (some 35), some (some 36), none, some (some 37), some (some 38)]), (0, 1024, []), (0, 1024, []), (1, 1024, []), (1, 1024, []), (14, 4, [some (some 40), some (some 41), some (some 42), some (some 43)]), (0, 7, []), (0, 7, []), (0, 7, []), (0, 128, []), (11, 5, [none, none, none, some (some 45), some (some 46)]), (0, 40, []), (0, 7, []), (12, 2, [none, some (some 48)]), (0, 40, []), (3, 6, [some (some 61), some (some 63), some (some 65), some (some 67), some (some 69), some (some 71)]), (8, 7, [none, none, none, some (some 51), some (some 52), some (some 53), some (some 54)]), (0, 10, []), (0, 10, []), (0, 7, []), (0, 7, []), (5, 3, [none, some (some 56), some (some 57)]), (0, 24, []), (0, 24, []), (6, 3, [none, some (some 59), some (some 60)]), (0, 4, []), (0, 4, []), (7, 4, [none, none, none, some (some 62)]), (0, 20, []), (7, 4, [none, none, none, some (some 64)]), (0, 20, []), (7, 4, [none, none, none, some (some 66)]), (0, 20, []), (7, 4, [none, none, none, some (some 68)]), (0, 20, []), (7, 4, [none, none, none, some (some 70)]), (0, 20, []), (7, 4, [none, none, none, some (some 72)]), (0, 20, [])] (ZR 72) := by
  refine CE_in mi_X11_init rfl rfl rfl ⟨rfl, rfl⟩ ?_
  show CW _ cd_X11_init _ _ (0, [(0, .ref 1)], [], (_, M, ML))
  have z1 : ZR 1 M := fun x h1 h2 _ y => by
    have : x = 1 := by omega
    subst this
    rw [hA]
    simp [iv]
  refine c_ld rfl rfl ?_
  refine c_oin rfl (by decide) ?_
  refine c_ld rfl rfl ?_
  refine c_new (m := 2) rfl rfl rfl ?_
  refine c_stk rfl rfl ?_
  refine c_calli rfl rfl rfl rfl rfl rfl rfl rfl (new_X4_init_2 (ZR_clr z1) clr_z) (fun M1 L1 z2 => ?_)
  refine c_putr rfl rfl rfl rfl rfl ?_
  refine c_ld rfl rfl ?_
  refine c_new (m := 7) rfl rfl rfl ?_
  refine c_stk rfl rfl ?_
  refine c_calli rfl rfl rfl rfl rfl rfl rfl rfl (new_X4_init_7 (ZR_clr z2) clr_z) (fun M2 L2 z3 => ?_)
  refine c_putr rfl rfl rfl rfl rfl ?_
  refine c_ld rfl rfl ?_
  refine c_new (m := 12) rfl rfl rfl ?_
  refine c_stk rfl rfl ?_
  refine c_calli rfl rfl rfl rfl rfl rfl rfl rfl (new_X1_init_12 (ZR_clr z3) clr_z) (fun M3 L3 z4 => ?_)
  refine c_putr rfl rfl rfl rfl rfl ?_
  refine c_ld rfl rfl ?_
  refine c_new (m := 15) rfl rfl rfl ?_
  refine c_stk rfl rfl ?_
  refine c_calli rfl rfl rfl rfl rfl rfl rfl rfl (new_X2_init_15 (ZR_clr z4) clr_z) (fun M4 L4 z5 => ?_)
  refine c_putr rfl rfl rfl rfl rfl ?_
  refine c_ld rfl rfl ?_
  refine c_new (m := 18) rfl rfl rfl ?_
  refine c_stk rfl rfl ?_
  refine c_calli rfl rfl rfl rfl rfl rfl rfl rfl (new_X6_init_18 (ZR_clr z5) clr_z) (fun M5 L5 z6 => ?_)
  refine c_putr rfl rfl rfl rfl rfl ?_
  refine c_ld rfl rfl ?_
  refine c_new (m := 24) rfl rfl rfl ?_
  refine c_stk rfl rfl ?_
  refine c_calli rfl rfl rfl rfl rfl rfl rfl rfl (new_X0_init_24 (ZR_clr z6) clr_z) (fun M6 L6 z7 => ?_)
  refine c_putr rfl rfl rfl rfl rfl ?_
  refine c_ld rfl rfl ?_
  refine c_new (m := 31) rfl rfl rfl ?_
  refine c_stk rfl rfl ?_
  refine c_calli rfl rfl rfl rfl rfl rfl rfl rfl (new_X5_init_31 (ZR_clr z7) clr_z) (fun M7 L7 z8 => ?_)
  refine c_putr rfl rfl rfl rfl rfl ?_
  refine c_ld rfl rfl ?_
  refine c_new (m := 34) rfl rfl rfl ?_
  refine c_stk rfl rfl ?_
  refine c_calli rfl rfl rfl rfl rfl rfl rfl rfl (new_X9_34 (ZR_clr z8) clr_z) (fun M8 L8 z9 => ?_)
  refine c_putr rfl rfl rfl rfl rfl ?_
  refine c_ld rfl rfl ?_
  refine c_new (m := 39) rfl rfl rfl ?_
  refine c_stk rfl rfl ?_
  refine c_calli rfl rfl rfl rfl rfl rfl rfl rfl (new_X10_init_39 (ZR_clr z9) clr_z) (fun M9 L9 z10 => ?_)
  refine c_putr rfl rfl rfl rfl rfl ?_
  refine c_ld rfl rfl ?_
  refine c_new (m := 44) rfl rfl rfl ?_
  refine c_stk rfl rfl ?_
  refine c_calli rfl rfl rfl rfl rfl rfl rfl rfl (new_X7_init_44 (ZR_clr z10) clr_z) (fun M10 L10 z11 => ?_)
  refine c_putr rfl rfl rfl rfl rfl ?_
  refine c_ld rfl rfl ?_
  refine c_new (m := 47) rfl rfl rfl ?_
  refine c_stk rfl rfl ?_
  refine c_calli rfl rfl rfl rfl rfl rfl rfl rfl (new_X8_init_47 (ZR_clr z11) clr_z) (fun M11 L11 z12 => ?_)
  refine c_putr rfl rfl rfl rfl rfl ?_
  refine c_ld rfl rfl ?_
  refine c_cst (v := .int 6) rfl rfl ?_
  refine c_nwq (m := 49) (N := 6) rfl (by decide) (by decide) rfl rfl rfl ?_
  have z49 := ZR_49 z12
  refine c_putr rfl rfl rfl rfl rfl ?_
  refine c_ld rfl rfl ?_
  refine c_new (m := 50) rfl rfl rfl ?_
  refine c_stk rfl rfl ?_
  refine c_calli rfl rfl rfl rfl rfl rfl rfl rfl (new_X4_init_50 (ZR_clr z49) clr_z) (fun M12 L12 z13 => ?_)
  refine c_putr rfl rfl rfl rfl rfl ?_
  refine c_ld rfl rfl ?_
  refine c_new (m := 55) rfl rfl rfl ?_
  refine c_stk rfl rfl ?_
  refine c_calli rfl rfl rfl rfl rfl rfl rfl rfl (new_X1_init_55 (ZR_clr z13) clr_z) (fun M13 L13 z14 => ?_)
  refine c_putr rfl rfl rfl rfl rfl ?_
  refine c_ld rfl rfl ?_
  refine c_new (m := 58) rfl rfl rfl ?_
  refine c_stk rfl rfl ?_
  refine c_calli rfl rfl rfl rfl rfl rfl rfl rfl (new_X2_init_58 (ZR_clr z14) clr_z) (fun M14 L14 z15 => ?_)
  refine c_putr rfl rfl rfl rfl rfl ?_
  refine c_cst (v := .int 0) rfl rfl ?_
  refine c_sto (L' := [(0, .ref 1), (1, .int 0)]) rfl rfl ?_
  refine c_ld rfl rfl ?_
  refine c_ld rfl rfl ?_
  refine c_get rfl rfl rfl rfl ?_
  refine c_len rfl rfl rfl ?_
  refine c_cjF rfl rfl (by decide) ?_
  refine c_ld rfl rfl ?_
  refine c_get rfl rfl rfl rfl ?_
  refine c_ld rfl rfl ?_
  refine c_new (m := 61) rfl rfl rfl ?_
  refine c_stk rfl rfl ?_
  refine c_calli rfl rfl rfl rfl rfl rfl rfl rfl (new_X3_init_61 (ZR_clr z15) clr_z) (fun M15 L15 z16 => ?_)
  refine c_asq rfl rfl rfl (by decide) (vp_in_nI (n := 0) (N := 6) (by decide) (by decide)) rfl ?_
  refine c_inc (L' := [(0, .ref 1), (1, .int 1)]) rfl rfl rfl ?_
  refine c_go rfl ?_
  refine c_ld rfl rfl ?_
  refine c_ld rfl rfl ?_
  refine c_get rfl rfl rfl rfl ?_
  refine c_len rfl rfl rfl ?_
  refine c_cjF rfl rfl (by decide) ?_
  refine c_ld rfl rfl ?_
  refine c_get rfl rfl rfl rfl ?_
  refine c_ld rfl rfl ?_
  refine c_new (m := 63) rfl rfl rfl ?_
  refine c_stk rfl rfl ?_
  refine c_calli rfl rfl rfl rfl rfl rfl rfl rfl (new_X3_init_63 (ZR_clr z16) clr_z) (fun M16 L16 z17 => ?_)
  refine c_asq rfl rfl rfl (by decide) (vp_in_nI (n := 1) (N := 6) (by decide) (by decide)) rfl ?_
  refine c_inc (L' := [(0, .ref 1), (1, .int 2)]) rfl rfl rfl ?_
  refine c_go rfl ?_
  refine c_ld rfl rfl ?_
  refine c_ld rfl rfl ?_
  refine c_get rfl rfl rfl rfl ?_
  refine c_len rfl rfl rfl ?_
  refine c_cjF rfl rfl (by decide) ?_
  refine c_ld rfl rfl ?_
  refine c_get rfl rfl rfl rfl ?_
  refine c_ld rfl rfl ?_
  refine c_new (m := 65) rfl rfl rfl ?_
  refine c_stk rfl rfl ?_
  refine c_calli rfl rfl rfl rfl rfl rfl rfl rfl (new_X3_init_65 (ZR_clr z17) clr_z) (fun M17 L17 z18 => ?_)
  refine c_asq rfl rfl rfl (by decide) (vp_in_nI (n := 2) (N := 6) (by decide) (by decide)) rfl ?_
  refine c_inc (L' := [(0, .ref 1), (1, .int 3)]) rfl rfl rfl ?_
  refine c_go rfl ?_
  refine c_ld rfl rfl ?_
  refine c_ld rfl rfl ?_
  refine c_get rfl rfl rfl rfl ?_
  refine c_len rfl rfl rfl ?_
  refine c_cjF rfl rfl (by decide) ?_
  refine c_ld rfl rfl ?_
  refine c_get rfl rfl rfl rfl ?_
  refine c_ld rfl rfl ?_
  refine c_new (m := 67) rfl rfl rfl ?_
  refine c_stk rfl rfl ?_
  refine c_calli rfl rfl rfl rfl rfl rfl rfl rfl (new_X3_init_67 (ZR_clr z18) clr_z) (fun M18 L18 z19 => ?_)
  refine c_asq rfl rfl rfl (by decide) (vp_in_nI (n := 3) (N := 6) (by decide) (by decide)) rfl ?_
  refine c_inc (L' := [(0, .ref 1), (1, .int 4)]) rfl rfl rfl ?_
  refine c_go rfl ?_
  refine c_ld rfl rfl ?_
  refine c_ld rfl rfl ?_
  refine c_get rfl rfl rfl rfl ?_
  refine c_len rfl rfl rfl ?_
  refine c_cjF rfl rfl (by decide) ?_
  refine c_ld rfl rfl ?_
  refine c_get rfl rfl rfl rfl ?_
  refine c_ld rfl rfl ?_
  refine c_new (m := 69) rfl rfl rfl ?_
  refine c_stk rfl rfl ?_
  refine c_calli rfl rfl rfl rfl rfl rfl rfl rfl (new_X3_init_69 (ZR_clr z19) clr_z) (fun M19 L19 z20 => ?_)
  refine c_asq rfl rfl rfl (by decide) (vp_in_nI (n := 4) (N := 6) (by decide) (by decide)) rfl ?_
  refine c_inc (L' := [(0, .ref 1), (1, .int 5)]) rfl rfl rfl ?_
  refine c_go rfl ?_
  refine c_ld rfl rfl ?_
  refine c_ld rfl rfl ?_
  refine c_get rfl rfl rfl rfl ?_
  refine c_len rfl rfl rfl ?_
  refine c_cjF rfl rfl (by decide) ?_
  refine c_ld rfl rfl ?_
  refine c_get rfl rfl rfl rfl ?_
  refine c_ld rfl rfl ?_
  refine c_new (m := 71) rfl rfl rfl ?_
  refine c_stk rfl rfl ?_
  refine c_calli rfl rfl rfl rfl rfl rfl rfl rfl (new_X3_init_71 (ZR_clr z20) clr_z) (fun M20 L20 z21 => ?_)
  refine c_asq rfl rfl rfl (by decide) (vp_in_nI (n := 5) (N := 6) (by decide) (by decide)) rfl ?_
  refine c_inc (L' := [(0, .ref 1), (1, .int 6)]) rfl rfl rfl ?_
  refine c_go rfl ?_
  refine c_ld rfl rfl ?_
  refine c_ld rfl rfl ?_
  refine c_get rfl rfl rfl rfl ?_
  refine c_len rfl rfl rfl ?_
  refine c_cjT rfl rfl (by decide) ?_
  exact c_ret rfl rfl z21 rfl

