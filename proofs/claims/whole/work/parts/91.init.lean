/-! ===== the constructors ===== -/
/-- a constructor's state comes to the shape sh2 with P of the ints -/
def CW (d : Nat) (cd : Cd) (sh2 : List SC) (P : Mm → Prop) (st : St) : Prop := ∃ M2 ML2, P M2 ∧ RR d cd false (none, (sh2, M2, ML2)) st
def CE (d k : Nat) (as : List Value) (sh : List SC) (M : Mm) (ML : Ml) (sh2 : List SC) (P : Mm → Prop) : Prop := ∃ M2 ML2, P M2 ∧ Ex d k as (sh, M, ML) (none, (sh2, M2, ML2))
section CQ
variable {d : Nat} {cd : Cd} {sh2 : List SC} {P : Mm → Prop}
theorem CW_lift {st st' : St} (f : ∀ res, RR d cd false res st' → RR d cd false res st) (h : CW d cd sh2 P st') : CW d cd sh2 P st := by
  obtain ⟨M', ML', hp, hr⟩ := h
  exact ⟨M', ML', hp, f _ hr⟩
theorem c_ld {pc L st w ins nx a b c z v} (h0 : lk cd pc = some (ins, nx, a, b, c, z)) (h1 : ldv ins L = some v) (h2 : CW d cd sh2 P (nx, L, v :: st, w)) : CW d cd sh2 P (pc, L, st, w) := CW_lift (fun _ h9 => r_ld h0 h1 h9) h2
theorem c_cst {pc L st w ins nx a b c z v} (h0 : lk cd pc = some (ins, nx, a, b, c, z)) (h1 : cst ins = some v) (h2 : CW d cd sh2 P (nx, L, v :: st, w)) : CW d cd sh2 P (pc, L, st, w) := CW_lift (fun _ h9 => r_cst h0 h1 h9) h2
theorem c_oin {pc L st w i nx b c z r} (h0 : lk cd pc = some (.invokespecial i, nx, 999, b, c, z)) (h1 : (st.map fun v => v.category).sum ≤ 8) (h2 : CW d cd sh2 P (nx, L, st, w)) : CW d cd sh2 P (pc, L, .ref (r + 1) :: st, w) := CW_lift (fun _ h9 => r_oin h0 h1 h9) h2
theorem c_put {pc L st sh M ML i f n fs nx k b z v} (h0 : lk cd pc = some (.putfield f, nx, k, b, 0, z)) (h1 : sh[i]? = some (b + 4, n, fs)) (h2 : Nat.blt k n = true) (h3 : fs[k]? = some none) (h4 : zf b k = false ∨ v = 0 ∨ v = 1) (h5 : CW d cd sh2 P (nx, L, st, (sh, up2 M (i + 1) k v, ML))) : CW d cd sh2 P (pc, L, .int v :: .ref (i + 1) :: st, (sh, M, ML)) := CW_lift (fun _ h9 => r_put h0 h1 h2 h3 h4 h9) h5
theorem c_putr {pc L st sh sh' M ML i f n fs nx k b z r r0} (h0 : lk cd pc = some (.putfield f, nx, k, b, 1, z)) (h1 : sh[i]? = some (b + 4, n, fs)) (h2 : Nat.blt k n = true) (h3 : fs[k]? = some (some r0)) (h4 : sh.set i (b + 4, n, fs.set k (some (some r))) = sh') (h5 : CW d cd sh2 P (nx, L, st, (sh', M, ML))) : CW d cd sh2 P (pc, L, .ref r :: .ref (i + 1) :: st, (sh, M, ML)) := by
  subst h4
  exact CW_lift (fun _ h9 => r_putr h0 h1 h2 h3 h9) h5
theorem c_nwa {pc L st sh sh' M ML t t' nx a b c z n N m} (h0 : lk cd pc = some (.newarray t, nx, a, b, c, z)) (h1 : nat_ t = some t') (h2 : ¬ n < 0) (h3 : n.toNatClampNeg = N) (h4 : Nat.ble N 1000000 = true) (hm : sh.length + 1 = m) (hs : sh ++ [(t', N, [])] = sh') (h5 : CW d cd sh2 P (nx, L, .ref m :: st, (sh', clr M m, clrL ML m))) : CW d cd sh2 P (pc, L, .int n :: st, (sh, M, ML)) := by
  subst hm hs
  exact CW_lift (fun _ h9 => r_nwa h0 h1 h2 h3 h4 h9) h5
theorem c_ret {pc L sh M ML ins nx a b c z} (h0 : lk cd pc = some (ins, nx, a, b, c, z)) (h1 : retv ins [] = some none) (hp : P M) (hs : sh = sh2) : CW d cd sh2 P (pc, L, [], (sh, M, ML)) := by
  subst hs
  exact ⟨M, ML, hp, r_ret h0 h1 trivial rfl⟩
theorem CE_in {k : Nat} {as : List Value} {sh : List SC} {M : Mm} {ML : Ml} (t : MI) (h : MTl[k]? = some t) (hb : isB (i_r t) = false) (h2 : Nat.ble (lg_sl as).length (i_L t) = true) (h3 : Nat.ble sh.length sh2.length = true ∧ Nat.ble ((sh.map (fun c => c.2.1)).sum) ((sh2.map (fun c => c.2.1)).sum) = true) (h4 : CW d (i_c t) sh2 P (0, lv_args 0 as, [], (sh, M, ML))) : CE (d + 1) k as sh M ML sh2 P := by
  obtain ⟨M', ML', hp, hr⟩ := h4
  exact ⟨M', ML', hp, Ex_in t h h2 ⟨Nat.le_of_ble_eq_true h3.1, Nat.le_of_ble_eq_true h3.2⟩ (hb ▸ hr)⟩
end CQ
/-- what the rows hold when they are new -/
def iv (x y : Nat) : Int32 := if x = 35 ∧ y < 1024 then -1 else if y = 0 ∧ (x = 2 ∨ x = 7 ∨ x = 50 ∨ x = 73) then 4 else 0
def ZR (n : Nat) (M : Mm) : Prop := ∀ x, 1 ≤ x → x ≤ n → x ≠ 49 → ∀ y, M x y = iv x y

set_option maxHeartbeats 2000000 in
set_option maxRecDepth 10000 in
theorem new_X4_init_2 {d : Nat} {M : Mm} {ML : Ml} (hZ : ZR 1 M) (hA : ∀ y, M 2 y = 0) : CE (d + 1) k_X4_init [.ref 2] [(15, 16, [some none, some none, some none, some none, some none, some none, some none, some none, some none, some none, some none, some none, some none, some none, some none, none]), (8, 7, [none, none, none, some none, some none, some none, some none])] M ML [(15, 16, [some none, some none, some none, some none, some none, some none, some none, some none, some none, some none, some none, some none, some none, some none, some none, none]), (8, 7, [none, none, none, some (some 3), some (some 4), some (some 5), some (some 6)]), (0, 10, []), (0, 10, []), (0, 7, []), (0, 7, [])] (ZR 6) := by
  refine CE_in mi_X4_init rfl rfl rfl ⟨rfl, rfl⟩ ?_
  show CW _ cd_X4_init _ _ (0, [(0, .ref 2)], [], (_, M, ML))
  refine c_ld rfl rfl ?_
  refine c_oin rfl (by decide) ?_
  refine c_ld rfl rfl ?_
  refine c_cst (v := .int 4) rfl rfl ?_
  refine c_put rfl rfl rfl rfl (Or.inl rfl) ?_
  refine c_ld rfl rfl ?_
  refine c_cst (v := .int 10) rfl rfl ?_
  refine c_nwa (m := 3) (N := 10) rfl rfl (by decide) (by decide) rfl rfl rfl ?_
  refine c_putr rfl rfl rfl rfl rfl ?_
  refine c_ld rfl rfl ?_
  refine c_cst (v := .int 10) rfl rfl ?_
  refine c_nwa (m := 4) (N := 10) rfl rfl (by decide) (by decide) rfl rfl rfl ?_
  refine c_putr rfl rfl rfl rfl rfl ?_
  refine c_ld rfl rfl ?_
  refine c_cst (v := .int 7) rfl rfl ?_
  refine c_nwa (m := 5) (N := 7) rfl rfl (by decide) (by decide) rfl rfl rfl ?_
  refine c_putr rfl rfl rfl rfl rfl ?_
  refine c_ld rfl rfl ?_
  refine c_cst (v := .int 7) rfl rfl ?_
  refine c_nwa (m := 6) (N := 7) rfl rfl (by decide) (by decide) rfl rfl rfl ?_
  refine c_putr rfl rfl rfl rfl rfl ?_
  refine c_ret rfl rfl ?_ rfl
  intro x h1 h2 h49 y
  rcases Nat.lt_or_ge x 2 with w | w
  · rw [clr_ne (by omega), clr_ne (by omega), clr_ne (by omega), clr_ne (by omega), up2_row (by omega)]
    exact hZ x h1 (by omega) h49 y
  · have hx : x = 2 ∨ x = 3 ∨ x = 4 ∨ x = 5 ∨ x = 6 := by omega
    rcases hx with rfl | rfl | rfl | rfl | rfl
    all_goals simp [clr, up2_at, iv, hA]

set_option maxHeartbeats 2000000 in
set_option maxRecDepth 10000 in
theorem new_X4_init_7 {d : Nat} {M : Mm} {ML : Ml} (hZ : ZR 6 M) (hA : ∀ y, M 7 y = 0) : CE (d + 1) k_X4_init [.ref 7] [(15, 16, [some (some 2), some none, some none, some none, some none, some none, some none, some none, some none, some none, some none, some none, some none, some none, some none, none]), (8, 7, [none, none, none, some (some 3), some (some 4), some (some 5), some (some 6)]), (0, 10, []), (0, 10, []), (0, 7, []), (0, 7, []), (8, 7, [none, none, none, some none, some none, some none, some none])] M ML [(15, 16, [some (some 2), some none, some none, some none, some none, some none, some none, some none, some none, some none, some none, some none, some none, some none, some none, none]), (8, 7, [none, none, none, some (some 3), some (some 4), some (some 5), some (some 6)]), (0, 10, []), (0, 10, []), (0, 7, []), (0, 7, []), (8, 7, [none, none, none, some (some 8), some (some 9), some (some 10), some (some 11)]), (0, 10, []), (0, 10, []), (0, 7, []), (0, 7, [])] (ZR 11) := by
  refine CE_in mi_X4_init rfl rfl rfl ⟨rfl, rfl⟩ ?_
  show CW _ cd_X4_init _ _ (0, [(0, .ref 7)], [], (_, M, ML))
  refine c_ld rfl rfl ?_
  refine c_oin rfl (by decide) ?_
  refine c_ld rfl rfl ?_
  refine c_cst (v := .int 4) rfl rfl ?_
  refine c_put rfl rfl rfl rfl (Or.inl rfl) ?_
  refine c_ld rfl rfl ?_
  refine c_cst (v := .int 10) rfl rfl ?_
  refine c_nwa (m := 8) (N := 10) rfl rfl (by decide) (by decide) rfl rfl rfl ?_
  refine c_putr rfl rfl rfl rfl rfl ?_
  refine c_ld rfl rfl ?_
  refine c_cst (v := .int 10) rfl rfl ?_
  refine c_nwa (m := 9) (N := 10) rfl rfl (by decide) (by decide) rfl rfl rfl ?_
  refine c_putr rfl rfl rfl rfl rfl ?_
  refine c_ld rfl rfl ?_
  refine c_cst (v := .int 7) rfl rfl ?_
  refine c_nwa (m := 10) (N := 7) rfl rfl (by decide) (by decide) rfl rfl rfl ?_
  refine c_putr rfl rfl rfl rfl rfl ?_
  refine c_ld rfl rfl ?_
  refine c_cst (v := .int 7) rfl rfl ?_
  refine c_nwa (m := 11) (N := 7) rfl rfl (by decide) (by decide) rfl rfl rfl ?_
  refine c_putr rfl rfl rfl rfl rfl ?_
  refine c_ret rfl rfl ?_ rfl
  intro x h1 h2 h49 y
  rcases Nat.lt_or_ge x 7 with w | w
  · rw [clr_ne (by omega), clr_ne (by omega), clr_ne (by omega), clr_ne (by omega), up2_row (by omega)]
    exact hZ x h1 (by omega) h49 y
  · have hx : x = 7 ∨ x = 8 ∨ x = 9 ∨ x = 10 ∨ x = 11 := by omega
    rcases hx with rfl | rfl | rfl | rfl | rfl
    all_goals simp [clr, up2_at, iv, hA]

set_option maxHeartbeats 2000000 in
set_option maxRecDepth 10000 in
theorem new_X1_init_12 {d : Nat} {M : Mm} {ML : Ml} (hZ : ZR 11 M) (hA : ∀ y, M 12 y = 0) : CE (d + 1) k_X1_init [.ref 12] [(15, 16, [some (some 2), some (some 7), some none, some none, some none, some none, some none, some none, some none, some none, some none, some none, some none, some none, some none, none]), (8, 7, [none, none, none, some (some 3), some (some 4), some (some 5), some (some 6)]), (0, 10, []), (0, 10, []), (0, 7, []), (0, 7, []), (8, 7, [none, none, none, some (some 8), some (some 9), some (some 10), some (some 11)]), (0, 10, []), (0, 10, []), (0, 7, []), (0, 7, []), (5, 3, [none, some none, some none])] M ML [(15, 16, [some (some 2), some (some 7), some none, some none, some none, some none, some none, some none, some none, some none, some none, some none, some none, some none, some none, none]), (8, 7, [none, none, none, some (some 3), some (some 4), some (some 5), some (some 6)]), (0, 10, []), (0, 10, []), (0, 7, []), (0, 7, []), (8, 7, [none, none, none, some (some 8), some (some 9), some (some 10), some (some 11)]), (0, 10, []), (0, 10, []), (0, 7, []), (0, 7, []), (5, 3, [none, some (some 13), some (some 14)]), (0, 24, []), (0, 24, [])] (ZR 14) := by
  refine CE_in mi_X1_init rfl rfl rfl ⟨rfl, rfl⟩ ?_
  show CW _ cd_X1_init _ _ (0, [(0, .ref 12)], [], (_, M, ML))
  refine c_ld rfl rfl ?_
  refine c_oin rfl (by decide) ?_
  refine c_ld rfl rfl ?_
  refine c_cst (v := .int 24) rfl rfl ?_
  refine c_nwa (m := 13) (N := 24) rfl rfl (by decide) (by decide) rfl rfl rfl ?_
  refine c_putr rfl rfl rfl rfl rfl ?_
  refine c_ld rfl rfl ?_
  refine c_cst (v := .int 24) rfl rfl ?_
  refine c_nwa (m := 14) (N := 24) rfl rfl (by decide) (by decide) rfl rfl rfl ?_
  refine c_putr rfl rfl rfl rfl rfl ?_
  refine c_ret rfl rfl ?_ rfl
  intro x h1 h2 h49 y
  rcases Nat.lt_or_ge x 12 with w | w
  · rw [clr_ne (by omega), clr_ne (by omega)]
    exact hZ x h1 (by omega) h49 y
  · have hx : x = 12 ∨ x = 13 ∨ x = 14 := by omega
    rcases hx with rfl | rfl | rfl
    all_goals simp [clr, up2_at, iv, hA]

set_option maxHeartbeats 2000000 in
set_option maxRecDepth 10000 in
theorem new_X2_init_15 {d : Nat} {M : Mm} {ML : Ml} (hZ : ZR 14 M) (hA : ∀ y, M 15 y = 0) : CE (d + 1) k_X2_init [.ref 15] [(15, 16, [some (some 2), some (some 7), some (some 12), some none, some none, some none, some none, some none, some none, some none, some none, some none, some none, some none, some none, none]), (8, 7, [none, none, none, some (some 3), some (some 4), some (some 5), some (some 6)]), (0, 10, []), (0, 10, []), (0, 7, []), (0, 7, []), (8, 7, [none, none, none, some (some 8), some (some 9), some (some 10), some (some 11)]), (0, 10, []), (0, 10, []), (0, 7, []), (0, 7, []), (5, 3, [none, some (some 13), some (some 14)]), (0, 24, []), (0, 24, []), (6, 3, [none, some none, some none])] M ML [(15, 16, [some (some 2), some (some 7), some (some 12), some none, some none, some none, some none, some none, some none, some none, some none, some none, some none, some none, some none, none]), (8, 7, [none, none, none, some (some 3), some (some 4), some (some 5), some (some 6)]), (0, 10, []), (0, 10, []), (0, 7, []), (0, 7, []), (8, 7, [none, none, none, some (some 8), some (some 9), some (some 10), some (some 11)]), (0, 10, []), (0, 10, []), (0, 7, []), (0, 7, []), (5, 3, [none, some (some 13), some (some 14)]), (0, 24, []), (0, 24, []), (6, 3, [none, some (some 16), some (some 17)]), (0, 4, []), (0, 4, [])] (ZR 17) := by
  refine CE_in mi_X2_init rfl rfl rfl ⟨rfl, rfl⟩ ?_
  show CW _ cd_X2_init _ _ (0, [(0, .ref 15)], [], (_, M, ML))
  refine c_ld rfl rfl ?_
  refine c_oin rfl (by decide) ?_
  refine c_ld rfl rfl ?_
  refine c_cst (v := .int 4) rfl rfl ?_
  refine c_nwa (m := 16) (N := 4) rfl rfl (by decide) (by decide) rfl rfl rfl ?_
  refine c_putr rfl rfl rfl rfl rfl ?_
  refine c_ld rfl rfl ?_
  refine c_cst (v := .int 4) rfl rfl ?_
  refine c_nwa (m := 17) (N := 4) rfl rfl (by decide) (by decide) rfl rfl rfl ?_
  refine c_putr rfl rfl rfl rfl rfl ?_
  refine c_ret rfl rfl ?_ rfl
  intro x h1 h2 h49 y
  rcases Nat.lt_or_ge x 15 with w | w
  · rw [clr_ne (by omega), clr_ne (by omega)]
    exact hZ x h1 (by omega) h49 y
  · have hx : x = 15 ∨ x = 16 ∨ x = 17 := by omega
    rcases hx with rfl | rfl | rfl
    all_goals simp [clr, up2_at, iv, hA]

set_option maxHeartbeats 2000000 in
set_option maxRecDepth 10000 in
theorem new_X6_init_18 {d : Nat} {M : Mm} {ML : Ml} (hZ : ZR 17 M) (hA : ∀ y, M 18 y = 0) : CE (d + 1) k_X6_init [.ref 18] [(15, 16, [some (some 2), some (some 7), some (some 12), some (some 15), some none, some none, some none, some none, some none, some none, some none, some none, some none, some none, some none, none]), (8, 7, [none, none, none, some (some 3), some (some 4), some (some 5), some (some 6)]), (0, 10, []), (0, 10, []), (0, 7, []), (0, 7, []), (8, 7, [none, none, none, some (some 8), some (some 9), some (some 10), some (some 11)]), (0, 10, []), (0, 10, []), (0, 7, []), (0, 7, []), (5, 3, [none, some (some 13), some (some 14)]), (0, 24, []), (0, 24, []), (6, 3, [none, some (some 16), some (some 17)]), (0, 4, []), (0, 4, []), (10, 6, [none, some none, some none, some none, some none, some none])] M ML [(15, 16, [some (some 2), some (some 7), some (some 12), some (some 15), some none, some none, some none, some none, some none, some none, some none, some none, some none, some none, some none, none]), (8, 7, [none, none, none, some (some 3), some (some 4), some (some 5), some (some 6)]), (0, 10, []), (0, 10, []), (0, 7, []), (0, 7, []), (8, 7, [none, none, none, some (some 8), some (some 9), some (some 10), some (some 11)]), (0, 10, []), (0, 10, []), (0, 7, []), (0, 7, []), (5, 3, [none, some (some 13), some (some 14)]), (0, 24, []), (0, 24, []), (6, 3, [none, some (some 16), some (some 17)]), (0, 4, []), (0, 4, []), (10, 6, [none, some (some 19), some (some 20), some (some 21), some (some 22), some (some 23)]), (0, 10, []), (0, 10, []), (0, 10, []), (0, 7, []), (0, 7, [])] (ZR 23) := by
  refine CE_in mi_X6_init rfl rfl rfl ⟨rfl, rfl⟩ ?_
  show CW _ cd_X6_init _ _ (0, [(0, .ref 18)], [], (_, M, ML))
  refine c_ld rfl rfl ?_
  refine c_oin rfl (by decide) ?_
  refine c_ld rfl rfl ?_
  refine c_cst (v := .int 10) rfl rfl ?_
  refine c_nwa (m := 19) (N := 10) rfl rfl (by decide) (by decide) rfl rfl rfl ?_
  refine c_putr rfl rfl rfl rfl rfl ?_
  refine c_ld rfl rfl ?_
  refine c_cst (v := .int 10) rfl rfl ?_
  refine c_nwa (m := 20) (N := 10) rfl rfl (by decide) (by decide) rfl rfl rfl ?_
  refine c_putr rfl rfl rfl rfl rfl ?_
  refine c_ld rfl rfl ?_
  refine c_cst (v := .int 10) rfl rfl ?_
  refine c_nwa (m := 21) (N := 10) rfl rfl (by decide) (by decide) rfl rfl rfl ?_
  refine c_putr rfl rfl rfl rfl rfl ?_
  refine c_ld rfl rfl ?_
  refine c_cst (v := .int 7) rfl rfl ?_
  refine c_nwa (m := 22) (N := 7) rfl rfl (by decide) (by decide) rfl rfl rfl ?_
  refine c_putr rfl rfl rfl rfl rfl ?_
  refine c_ld rfl rfl ?_
  refine c_cst (v := .int 7) rfl rfl ?_
  refine c_nwa (m := 23) (N := 7) rfl rfl (by decide) (by decide) rfl rfl rfl ?_
  refine c_putr rfl rfl rfl rfl rfl ?_
  refine c_ret rfl rfl ?_ rfl
  intro x h1 h2 h49 y
  rcases Nat.lt_or_ge x 18 with w | w
  · rw [clr_ne (by omega), clr_ne (by omega), clr_ne (by omega), clr_ne (by omega), clr_ne (by omega)]
    exact hZ x h1 (by omega) h49 y
  · have hx : x = 18 ∨ x = 19 ∨ x = 20 ∨ x = 21 ∨ x = 22 ∨ x = 23 := by omega
    rcases hx with rfl | rfl | rfl | rfl | rfl | rfl
    all_goals simp [clr, up2_at, iv, hA]

set_option maxHeartbeats 2000000 in
set_option maxRecDepth 10000 in
theorem new_X0_init_24 {d : Nat} {M : Mm} {ML : Ml} (hZ : ZR 23 M) (hA : ∀ y, M 24 y = 0) : CE (d + 1) k_X0_init [.ref 24] [(15, 16, [some (some 2), some (some 7), some (some 12), some (some 15), some (some 18), some none, some none, some none, some none, some none, some none, some none, some none, some none, some none, none]), (8, 7, [none, none, none, some (some 3), some (some 4), some (some 5), some (some 6)]), (0, 10, []), (0, 10, []), (0, 7, []), (0, 7, []), (8, 7, [none, none, none, some (some 8), some (some 9), some (some 10), some (some 11)]), (0, 10, []), (0, 10, []), (0, 7, []), (0, 7, []), (5, 3, [none, some (some 13), some (some 14)]), (0, 24, []), (0, 24, []), (6, 3, [none, some (some 16), some (some 17)]), (0, 4, []), (0, 4, []), (10, 6, [none, some (some 19), some (some 20), some (some 21), some (some 22), some (some 23)]), (0, 10, []), (0, 10, []), (0, 10, []), (0, 7, []), (0, 7, []), (4, 9, [none, none, none, some none, some none, some none, some none, some none, some none])] M ML [(15, 16, [some (some 2), some (some 7), some (some 12), some (some 15), some (some 18), some none, some none, some none, some none, some none, some none, some none, some none, some none, some none, none]), (8, 7, [none, none, none, some (some 3), some (some 4), some (some 5), some (some 6)]), (0, 10, []), (0, 10, []), (0, 7, []), (0, 7, []), (8, 7, [none, none, none, some (some 8), some (some 9), some (some 10), some (some 11)]), (0, 10, []), (0, 10, []), (0, 7, []), (0, 7, []), (5, 3, [none, some (some 13), some (some 14)]), (0, 24, []), (0, 24, []), (6, 3, [none, some (some 16), some (some 17)]), (0, 4, []), (0, 4, []), (10, 6, [none, some (some 19), some (some 20), some (some 21), some (some 22), some (some 23)]), (0, 10, []), (0, 10, []), (0, 10, []), (0, 7, []), (0, 7, []), (4, 9, [none, none, none, some (some 25), some (some 26), some (some 27), some (some 28), some (some 29), some (some 30)]), (0, 1024, []), (0, 1024, []), (0, 1024, []), (0, 1024, []), (0, 1024, []), (1, 1024, [])] (ZR 30) := by
  refine CE_in mi_X0_init rfl rfl rfl ⟨rfl, rfl⟩ ?_
  show CW _ cd_X0_init _ _ (0, [(0, .ref 24)], [], (_, M, ML))
  refine c_ld rfl rfl ?_
  refine c_oin rfl (by decide) ?_
  refine c_ld rfl rfl ?_
  refine c_cst (v := .int 1024) rfl rfl ?_
  refine c_nwa (m := 25) (N := 1024) rfl rfl (by decide) (by decide) rfl rfl rfl ?_
  refine c_putr rfl rfl rfl rfl rfl ?_
  refine c_ld rfl rfl ?_
  refine c_cst (v := .int 1024) rfl rfl ?_
  refine c_nwa (m := 26) (N := 1024) rfl rfl (by decide) (by decide) rfl rfl rfl ?_
  refine c_putr rfl rfl rfl rfl rfl ?_
  refine c_ld rfl rfl ?_
  refine c_cst (v := .int 1024) rfl rfl ?_
  refine c_nwa (m := 27) (N := 1024) rfl rfl (by decide) (by decide) rfl rfl rfl ?_
  refine c_putr rfl rfl rfl rfl rfl ?_
  refine c_ld rfl rfl ?_
  refine c_cst (v := .int 1024) rfl rfl ?_
  refine c_nwa (m := 28) (N := 1024) rfl rfl (by decide) (by decide) rfl rfl rfl ?_
  refine c_putr rfl rfl rfl rfl rfl ?_
  refine c_ld rfl rfl ?_
  refine c_cst (v := .int 1024) rfl rfl ?_
  refine c_nwa (m := 29) (N := 1024) rfl rfl (by decide) (by decide) rfl rfl rfl ?_
  refine c_putr rfl rfl rfl rfl rfl ?_
  refine c_ld rfl rfl ?_
  refine c_cst (v := .int 1024) rfl rfl ?_
  refine c_nwa (m := 30) (N := 1024) rfl rfl (by decide) (by decide) rfl rfl rfl ?_
  refine c_putr rfl rfl rfl rfl rfl ?_
  refine c_ret rfl rfl ?_ rfl
  intro x h1 h2 h49 y
  rcases Nat.lt_or_ge x 24 with w | w
  · rw [clr_ne (by omega), clr_ne (by omega), clr_ne (by omega), clr_ne (by omega), clr_ne (by omega), clr_ne (by omega)]
    exact hZ x h1 (by omega) h49 y
  · have hx : x = 24 ∨ x = 25 ∨ x = 26 ∨ x = 27 ∨ x = 28 ∨ x = 29 ∨ x = 30 := by omega
    rcases hx with rfl | rfl | rfl | rfl | rfl | rfl | rfl
    all_goals simp [clr, up2_at, iv, hA]

set_option maxHeartbeats 2000000 in
set_option maxRecDepth 10000 in
theorem new_X5_init_31 {d : Nat} {M : Mm} {ML : Ml} (hZ : ZR 30 M) (hA : ∀ y, M 31 y = 0) : CE (d + 1) k_X5_init [.ref 31] [(15, 16, [some (some 2), some (some 7), some (some 12), some (some 15), some (some 18), some (some 24), some none, some none, some none, some none, some none, some none, some none, some none, some none, none]), (8, 7, [none, none, none, some (some 3), some (some 4), some (some 5), some (some 6)]), (0, 10, []), (0, 10, []), (0, 7, []), (0, 7, []), (8, 7, [none, none, none, some (some 8), some (some 9), some (some 10), some (some 11)]), (0, 10, []), (0, 10, []), (0, 7, []), (0, 7, []), (5, 3, [none, some (some 13), some (some 14)]), (0, 24, []), (0, 24, []), (6, 3, [none, some (some 16), some (some 17)]), (0, 4, []), (0, 4, []), (10, 6, [none, some (some 19), some (some 20), some (some 21), some (some 22), some (some 23)]), (0, 10, []), (0, 10, []), (0, 10, []), (0, 7, []), (0, 7, []), (4, 9, [none, none, none, some (some 25), some (some 26), some (some 27), some (some 28), some (some 29), some (some 30)]), (0, 1024, []), (0, 1024, []), (0, 1024, []), (0, 1024, []), (0, 1024, []), (1, 1024, []), (9, 3, [none, some none, some none])] M ML [(15, 16, [some (some 2), some (some 7), some (some 12), some (some 15), some (some 18), some (some 24), some none, some none, some none, some none, some none, some none, some none, some none, some none, none]), (8, 7, [none, none, none, some (some 3), some (some 4), some (some 5), some (some 6)]), (0, 10, []), (0, 10, []), (0, 7, []), (0, 7, []), (8, 7, [none, none, none, some (some 8), some (some 9), some (some 10), some (some 11)]), (0, 10, []), (0, 10, []), (0, 7, []), (0, 7, []), (5, 3, [none, some (some 13), some (some 14)]), (0, 24, []), (0, 24, []), (6, 3, [none, some (some 16), some (some 17)]), (0, 4, []), (0, 4, []), (10, 6, [none, some (some 19), some (some 20), some (some 21), some (some 22), some (some 23)]), (0, 10, []), (0, 10, []), (0, 10, []), (0, 7, []), (0, 7, []), (4, 9, [none, none, none, some (some 25), some (some 26), some (some 27), some (some 28), some (some 29), some (some 30)]), (0, 1024, []), (0, 1024, []), (0, 1024, []), (0, 1024, []), (0, 1024, []), (1, 1024, []), (9, 3, [none, some (some 32), some (some 33)]), (0, 1024, []), (0, 77, [])] (ZR 33) := by
  refine CE_in mi_X5_init rfl rfl rfl ⟨rfl, rfl⟩ ?_
  show CW _ cd_X5_init _ _ (0, [(0, .ref 31)], [], (_, M, ML))
  refine c_ld rfl rfl ?_
  refine c_oin rfl (by decide) ?_
  refine c_ld rfl rfl ?_
  refine c_cst (v := .int 1024) rfl rfl ?_
  refine c_nwa (m := 32) (N := 1024) rfl rfl (by decide) (by decide) rfl rfl rfl ?_
  refine c_putr rfl rfl rfl rfl rfl ?_
  refine c_ld rfl rfl ?_
  refine c_cst (v := .int 77) rfl rfl ?_
  refine c_nwa (m := 33) (N := 77) rfl rfl (by decide) (by decide) rfl rfl rfl ?_
  refine c_putr rfl rfl rfl rfl rfl ?_
  refine c_ret rfl rfl ?_ rfl
  intro x h1 h2 h49 y
  rcases Nat.lt_or_ge x 31 with w | w
  · rw [clr_ne (by omega), clr_ne (by omega)]
    exact hZ x h1 (by omega) h49 y
  · have hx : x = 31 ∨ x = 32 ∨ x = 33 := by omega
    rcases hx with rfl | rfl | rfl
    all_goals simp [clr, up2_at, iv, hA]

set_option maxHeartbeats 2000000 in
set_option maxRecDepth 10000 in
theorem new_X10_init_39 {d : Nat} {M : Mm} {ML : Ml} (hZ : ZR 38 M) (hA : ∀ y, M 39 y = 0) : CE (d + 1) k_X10_init [.ref 39] [(15, 16, [some (some 2), some (some 7), some (some 12), some (some 15), some (some 18), some (some 24), some (some 31), some (some 34), some none, some none, some none, some none, some none, some none, some none, none]), (8, 7, [none, none, none, some (some 3), some (some 4), some (some 5), some (some 6)]), (0, 10, []), (0, 10, []), (0, 7, []), (0, 7, []), (8, 7, [none, none, none, some (some 8), some (some 9), some (some 10), some (some 11)]), (0, 10, []), (0, 10, []), (0, 7, []), (0, 7, []), (5, 3, [none, some (some 13), some (some 14)]), (0, 24, []), (0, 24, []), (6, 3, [none, some (some 16), some (some 17)]), (0, 4, []), (0, 4, []), (10, 6, [none, some (some 19), some (some 20), some (some 21), some (some 22), some (some 23)]), (0, 10, []), (0, 10, []), (0, 10, []), (0, 7, []), (0, 7, []), (4, 9, [none, none, none, some (some 25), some (some 26), some (some 27), some (some 28), some (some 29), some (some 30)]), (0, 1024, []), (0, 1024, []), (0, 1024, []), (0, 1024, []), (0, 1024, []), (1, 1024, []), (9, 3, [none, some (some 32), some (some 33)]), (0, 1024, []), (0, 77, []), (13, 5, [some (some 35), some (some 36), none, some (some 37), some (some 38)]), (0, 1024, []), (0, 1024, []), (1, 1024, []), (1, 1024, []), (14, 4, [some none, some none, some none, some none])] M ML [(15, 16, [some (some 2), some (some 7), some (some 12), some (some 15), some (some 18), some (some 24), some (some 31), some (some 34), some none, some none, some none, some none, some none, some none, some none, none]), (8, 7, [none, none, none, some (some 3), some (some 4), some (some 5), some (some 6)]), (0, 10, []), (0, 10, []), (0, 7, []), (0, 7, []), (8, 7, [none, none, none, some (some 8), some (some 9), some (some 10), some (some 11)]), (0, 10, []), (0, 10, []), (0, 7, []), (0, 7, []), (5, 3, [none, some (some 13), some (some 14)]), (0, 24, []), (0, 24, []), (6, 3, [none, some (some 16), some (some 17)]), (0, 4, []), (0, 4, []), (10, 6, [none, some (some 19), some (some 20), some (some 21), some (some 22), some (some 23)]), (0, 10, []), (0, 10, []), (0, 10, []), (0, 7, []), (0, 7, []), (4, 9, [none, none, none, some (some 25), some (some 26), some (some 27), some (some 28), some (some 29), some (some 30)]), (0, 1024, []), (0, 1024, []), (0, 1024, []), (0, 1024, []), (0, 1024, []), (1, 1024, []), (9, 3, [none, some (some 32), some (some 33)]), (0, 1024, []), (0, 77, []), (13, 5, [some (some 35), some (some 36), none, some (some 37), some (some 38)]), (0, 1024, []), (0, 1024, []), (1, 1024, []), (1, 1024, []), (14, 4, [some (some 40), some (some 41), some (some 42), some (some 43)]), (0, 7, []), (0, 7, []), (0, 7, []), (0, 128, [])] (ZR 43) := by
  refine CE_in mi_X10_init rfl rfl rfl ⟨rfl, rfl⟩ ?_
  show CW _ cd_X10_init _ _ (0, [(0, .ref 39)], [], (_, M, ML))
  refine c_ld rfl rfl ?_
  refine c_oin rfl (by decide) ?_
  refine c_ld rfl rfl ?_
  refine c_cst (v := .int 7) rfl rfl ?_
  refine c_nwa (m := 40) (N := 7) rfl rfl (by decide) (by decide) rfl rfl rfl ?_
  refine c_putr rfl rfl rfl rfl rfl ?_
  refine c_ld rfl rfl ?_
  refine c_cst (v := .int 7) rfl rfl ?_
  refine c_nwa (m := 41) (N := 7) rfl rfl (by decide) (by decide) rfl rfl rfl ?_
  refine c_putr rfl rfl rfl rfl rfl ?_
  refine c_ld rfl rfl ?_
  refine c_cst (v := .int 7) rfl rfl ?_
  refine c_nwa (m := 42) (N := 7) rfl rfl (by decide) (by decide) rfl rfl rfl ?_
  refine c_putr rfl rfl rfl rfl rfl ?_
  refine c_ld rfl rfl ?_
  refine c_cst (v := .int 128) rfl rfl ?_
  refine c_nwa (m := 43) (N := 128) rfl rfl (by decide) (by decide) rfl rfl rfl ?_
  refine c_putr rfl rfl rfl rfl rfl ?_
  refine c_ret rfl rfl ?_ rfl
  intro x h1 h2 h49 y
  rcases Nat.lt_or_ge x 39 with w | w
  · rw [clr_ne (by omega), clr_ne (by omega), clr_ne (by omega), clr_ne (by omega)]
    exact hZ x h1 (by omega) h49 y
  · have hx : x = 39 ∨ x = 40 ∨ x = 41 ∨ x = 42 ∨ x = 43 := by omega
    rcases hx with rfl | rfl | rfl | rfl | rfl
    all_goals simp [clr, up2_at, iv, hA]

set_option maxHeartbeats 2000000 in
set_option maxRecDepth 10000 in
theorem new_X7_init_44 {d : Nat} {M : Mm} {ML : Ml} (hZ : ZR 43 M) (hA : ∀ y, M 44 y = 0) : CE (d + 1) k_X7_init [.ref 44] [(15, 16, [some (some 2), some (some 7), some (some 12), some (some 15), some (some 18), some (some 24), some (some 31), some (some 34), some (some 39), some none, some none, some none, some none, some none, some none, none]), (8, 7, [none, none, none, some (some 3), some (some 4), some (some 5), some (some 6)]), (0, 10, []), (0, 10, []), (0, 7, []), (0, 7, []), (8, 7, [none, none, none, some (some 8), some (some 9), some (some 10), some (some 11)]), (0, 10, []), (0, 10, []), (0, 7, []), (0, 7, []), (5, 3, [none, some (some 13), some (some 14)]), (0, 24, []), (0, 24, []), (6, 3, [none, some (some 16), some (some 17)]), (0, 4, []), (0, 4, []), (10, 6, [none, some (some 19), some (some 20), some (some 21), some (some 22), some (some 23)]), (0, 10, []), (0, 10, []), (0, 10, []), (0, 7, []), (0, 7, []), (4, 9, [none, none, none, some (some 25), some (some 26), some (some 27), some (some 28), some (some 29), some (some 30)]), (0, 1024, []), (0, 1024, []), (0, 1024, []), (0, 1024, []), (0, 1024, []), (1, 1024, []), (9, 3, [none, some (some 32), some (some 33)]), (0, 1024, []), (0, 77, []), (13, 5, [some (some 35), some (some 36), none, some (some 37), some (some 38)]), (0, 1024, []), (0, 1024, []), (1, 1024, []), (1, 1024, []), (14, 4, [some (some 40), some (some 41), some (some 42), some (some 43)]), (0, 7, []), (0, 7, []), (0, 7, []), (0, 128, []), (11, 5, [none, none, none, some none, some none])] M ML [(15, 16, [some (some 2), some (some 7), some (some 12), some (some 15), some (some 18), some (some 24), some (some 31), some (some 34), some (some 39), some none, some none, some none, some none, some none, some none, none]), (8, 7, [none, none, none, some (some 3), some (some 4), some (some 5), some (some 6)]), (0, 10, []), (0, 10, []), (0, 7, []), (0, 7, []), (8, 7, [none, none, none, some (some 8), some (some 9), some (some 10), some (some 11)]), (0, 10, []), (0, 10, []), (0, 7, []), (0, 7, []), (5, 3, [none, some (some 13), some (some 14)]), (0, 24, []), (0, 24, []), (6, 3, [none, some (some 16), some (some 17)]), (0, 4, []), (0, 4, []), (10, 6, [none, some (some 19), some (some 20), some (some 21), some (some 22), some (some 23)]), (0, 10, []), (0, 10, []), (0, 10, []), (0, 7, []), (0, 7, []), (4, 9, [none, none, none, some (some 25), some (some 26), some (some 27), some (some 28), some (some 29), some (some 30)]), (0, 1024, []), (0, 1024, []), (0, 1024, []), (0, 1024, []), (0, 1024, []), (1, 1024, []), (9, 3, [none, some (some 32), some (some 33)]), (0, 1024, []), (0, 77, []), (13, 5, [some (some 35), some (some 36), none, some (some 37), some (some 38)]), (0, 1024, []), (0, 1024, []), (1, 1024, []), (1, 1024, []), (14, 4, [some (some 40), some (some 41), some (some 42), some (some 43)]), (0, 7, []), (0, 7, []), (0, 7, []), (0, 128, []), (11, 5, [none, none, none, some (some 45), some (some 46)]), (0, 40, []), (0, 7, [])] (ZR 46) := by
  refine CE_in mi_X7_init rfl rfl rfl ⟨rfl, rfl⟩ ?_
  show CW _ cd_X7_init _ _ (0, [(0, .ref 44)], [], (_, M, ML))
  refine c_ld rfl rfl ?_
  refine c_oin rfl (by decide) ?_
  refine c_ld rfl rfl ?_
  refine c_cst (v := .int 40) rfl rfl ?_
  refine c_nwa (m := 45) (N := 40) rfl rfl (by decide) (by decide) rfl rfl rfl ?_
  refine c_putr rfl rfl rfl rfl rfl ?_
  refine c_ld rfl rfl ?_
  refine c_cst (v := .int 7) rfl rfl ?_
  refine c_nwa (m := 46) (N := 7) rfl rfl (by decide) (by decide) rfl rfl rfl ?_
  refine c_putr rfl rfl rfl rfl rfl ?_
  refine c_ret rfl rfl ?_ rfl
  intro x h1 h2 h49 y
  rcases Nat.lt_or_ge x 44 with w | w
  · rw [clr_ne (by omega), clr_ne (by omega)]
    exact hZ x h1 (by omega) h49 y
  · have hx : x = 44 ∨ x = 45 ∨ x = 46 := by omega
    rcases hx with rfl | rfl | rfl
    all_goals simp [clr, up2_at, iv, hA]

set_option maxHeartbeats 2000000 in
set_option maxRecDepth 10000 in
theorem new_X8_init_47 {d : Nat} {M : Mm} {ML : Ml} (hZ : ZR 46 M) (hA : ∀ y, M 47 y = 0) : CE (d + 1) k_X8_init [.ref 47] [(15, 16, [some (some 2), some (some 7), some (some 12), some (some 15), some (some 18), some (some 24), some (some 31), some (some 34), some (some 39), some (some 44), some none, some none, some none, some none, some none, none]), (8, 7, [none, none, none, some (some 3), some (some 4), some (some 5), some (some 6)]), (0, 10, []), (0, 10, []), (0, 7, []), (0, 7, []), (8, 7, [none, none, none, some (some 8), some (some 9), some (some 10), some (some 11)]), (0, 10, []), (0, 10, []), (0, 7, []), (0, 7, []), (5, 3, [none, some (some 13), some (some 14)]), (0, 24, []), (0, 24, []), (6, 3, [none, some (some 16), some (some 17)]), (0, 4, []), (0, 4, []), (10, 6, [none, some (some 19), some (some 20), some (some 21), some (some 22), some (some 23)]), (0, 10, []), (0, 10, []), (0, 10, []), (0, 7, []), (0, 7, []), (4, 9, [none, none, none, some (some 25), some (some 26), some (some 27), some (some 28), some (some 29), some (some 30)]), (0, 1024, []), (0, 1024, []), (0, 1024, []), (0, 1024, []), (0, 1024, []), (1, 1024, []), (9, 3, [none, some (some 32), some (some 33)]), (0, 1024, []), (0, 77, []), (13, 5, [some (some 35), some (some 36), none, some (some 37), some (some 38)]), (0, 1024, []), (0, 1024, []), (1, 1024, []), (1, 1024, []), (14, 4, [some (some 40), some (some 41), some (some 42), some (some 43)]), (0, 7, []), (0, 7, []), (0, 7, []), (0, 128, []), (11, 5, [none, none, none, some (some 45), some (some 46)]), (0, 40, []), (0, 7, []), (12, 2, [none, some none])] M ML [(15, 16, [some (some 2), some (some 7), some (some 12), some (some 15), some (some 18), some (some 24), some (some 31), some (some 34), some (some 39), some (some 44), some none, some none, some none, some none, some none, none]), (8, 7, [none, none, none, some (some 3), some (some 4), some (some 5), some (some 6)]), (0, 10, []), (0, 10, []), (0, 7, []), (0, 7, []), (8, 7, [none, none, none, some (some 8), some (some 9), some (some 10), some (some 11)]), (0, 10, []), (0, 10, []), (0, 7, []), (0, 7, []), (5, 3, [none, some (some 13), some (some 14)]), (0, 24, []), (0, 24, []), (6, 3, [none, some (some 16), some (some 17)]), (0, 4, []), (0, 4, []), (10, 6, [none, some (some 19), some (some 20), some (some 21), some (some 22), some (some 23)]), (0, 10, []), (0, 10, []), (0, 10, []), (0, 7, []), (0, 7, []), (4, 9, [none, none, none, some (some 25), some (some 26), some (some 27), some (some 28), some (some 29), some (some 30)]), (0, 1024, []), (0, 1024, []), (0, 1024, []), (0, 1024, []), (0, 1024, []), (1, 1024, []), (9, 3, [none, some (some 32), some (some 33)]), (0, 1024, []), (0, 77, []), (13, 5, [some (some 35), some (some 36), none, some (some 37), some (some 38)]), (0, 1024, []), (0, 1024, []), (1, 1024, []), (1, 1024, []), (14, 4, [some (some 40), some (some 41), some (some 42), some (some 43)]), (0, 7, []), (0, 7, []), (0, 7, []), (0, 128, []), (11, 5, [none, none, none, some (some 45), some (some 46)]), (0, 40, []), (0, 7, []), (12, 2, [none, some (some 48)]), (0, 40, [])] (ZR 48) := by
  refine CE_in mi_X8_init rfl rfl rfl ⟨rfl, rfl⟩ ?_
  show CW _ cd_X8_init _ _ (0, [(0, .ref 47)], [], (_, M, ML))
  refine c_ld rfl rfl ?_
  refine c_oin rfl (by decide) ?_
  refine c_ld rfl rfl ?_
  refine c_cst (v := .int 40) rfl rfl ?_
  refine c_nwa (m := 48) (N := 40) rfl rfl (by decide) (by decide) rfl rfl rfl ?_
  refine c_putr rfl rfl rfl rfl rfl ?_
  refine c_ret rfl rfl ?_ rfl
  intro x h1 h2 h49 y
  rcases Nat.lt_or_ge x 47 with w | w
  · rw [clr_ne (by omega)]
    exact hZ x h1 (by omega) h49 y
  · have hx : x = 47 ∨ x = 48 := by omega
    rcases hx with rfl | rfl
    all_goals simp [clr, up2_at, iv, hA]

set_option maxHeartbeats 2000000 in
set_option maxRecDepth 10000 in
theorem new_X4_init_50 {d : Nat} {M : Mm} {ML : Ml} (hZ : ZR 49 M) (hA : ∀ y, M 50 y = 0) : CE (d + 1) k_X4_init [.ref 50] [(15, 16, [some (some 2), some (some 7), some (some 12), some (some 15), some (some 18), some (some 24), some (some 31), some (some 34), some (some 39), some (some 44), some (some 47), some (some 49), some none, some none, some none, none]), (8, 7, [none, none, none, some (some 3), some (some 4), some (some 5), some (some 6)]), (0, 10, []), (0, 10, []), (0, 7, []), (0, 7, []), (8, 7, [none, none, none, some (some 8), some (some 9), some (some 10), some (some 11)]), (0, 10, []), (0, 10, []), (0, 7, []), (0, 7, []), (5, 3, [none, some (some 13), some (some 14)]), (0, 24, []), (0, 24, []), (6, 3, [none, some (some 16), some (some 17)]), (0, 4, []), (0, 4, []), (10, 6, [none, some (some 19), some (some 20), some (some 21), some (some 22), some (some 23)]), (0, 10, []), (0, 10, []), (0, 10, []), (0, 7, []), (0, 7, []), (4, 9, [none, none, none, some (some 25), some (some 26), some (some 27), some (some 28), some (some 29), some (some 30)]), (0, 1024, []), (0, 1024, []), (0, 1024, []), (0, 1024, []), (0, 1024, []), (1, 1024, []), (9, 3, [none, some (some 32), some (some 33)]), (0, 1024, []), (0, 77, []), (13, 5, [some (some 35), some (some 36), none, some (some 37), some (some 38)]), (0, 1024, []), (0, 1024, []), (1, 1024, []), (1, 1024, []), (14, 4, [some (some 40), some (some 41), some (some 42), some (some 43)]), (0, 7, []), (0, 7, []), (0, 7, []), (0, 128, []), (11, 5, [none, none, none, some (some 45), some (some 46)]), (0, 40, []), (0, 7, []), (12, 2, [none, some (some 48)]), (0, 40, []), (3, 6, [some none, some none, some none, some none, some none, some none]), (8, 7, [none, none, none, some none, some none, some none, some none])] M ML [(15, 16, [some (some 2), some (some 7), some (some 12), some (some 15), some (some 18), some (some 24), some (some 31), some (some 34), some (some 39), some (some 44), some (some 47), some (some 49), some none, some none, some none, none]), (8, 7, [none, none, none, some (some 3), some (some 4), some (some 5), some (some 6)]), (0, 10, []), (0, 10, []), (0, 7, []), (0, 7, []), (8, 7, [none, none, none, some (some 8), some (some 9), some (some 10), some (some 11)]), (0, 10, []), (0, 10, []), (0, 7, []), (0, 7, []), (5, 3, [none, some (some 13), some (some 14)]), (0, 24, []), (0, 24, []), (6, 3, [none, some (some 16), some (some 17)]), (0, 4, []), (0, 4, []), (10, 6, [none, some (some 19), some (some 20), some (some 21), some (some 22), some (some 23)]), (0, 10, []), (0, 10, []), (0, 10, []), (0, 7, []), (0, 7, []), (4, 9, [none, none, none, some (some 25), some (some 26), some (some 27), some (some 28), some (some 29), some (some 30)]), (0, 1024, []), (0, 1024, []), (0, 1024, []), (0, 1024, []), (0, 1024, []), (1, 1024, []), (9, 3, [none, some (some 32), some (some 33)]), (0, 1024, []), (0, 77, []), (13, 5, [some (some 35), some (some 36), none, some (some 37), some (some 38)]), (0, 1024, []), (0, 1024, []), (1, 1024, []), (1, 1024, []), (14, 4, [some (some 40), some (some 41), some (some 42), some (some 43)]), (0, 7, []), (0, 7, []), (0, 7, []), (0, 128, []), (11, 5, [none, none, none, some (some 45), some (some 46)]), (0, 40, []), (0, 7, []), (12, 2, [none, some (some 48)]), (0, 40, []), (3, 6, [some none, some none, some none, some none, some none, some none]), (8, 7, [none, none, none, some (some 51), some (some 52), some (some 53), some (some 54)]), (0, 10, []), (0, 10, []), (0, 7, []), (0, 7, [])] (ZR 54) := by
  refine CE_in mi_X4_init rfl rfl rfl ⟨rfl, rfl⟩ ?_
  show CW _ cd_X4_init _ _ (0, [(0, .ref 50)], [], (_, M, ML))
  refine c_ld rfl rfl ?_
  refine c_oin rfl (by decide) ?_
  refine c_ld rfl rfl ?_
  refine c_cst (v := .int 4) rfl rfl ?_
  refine c_put rfl rfl rfl rfl (Or.inl rfl) ?_
  refine c_ld rfl rfl ?_
  refine c_cst (v := .int 10) rfl rfl ?_
  refine c_nwa (m := 51) (N := 10) rfl rfl (by decide) (by decide) rfl rfl rfl ?_
  refine c_putr rfl rfl rfl rfl rfl ?_
  refine c_ld rfl rfl ?_
  refine c_cst (v := .int 10) rfl rfl ?_
  refine c_nwa (m := 52) (N := 10) rfl rfl (by decide) (by decide) rfl rfl rfl ?_
  refine c_putr rfl rfl rfl rfl rfl ?_
  refine c_ld rfl rfl ?_
  refine c_cst (v := .int 7) rfl rfl ?_
  refine c_nwa (m := 53) (N := 7) rfl rfl (by decide) (by decide) rfl rfl rfl ?_
  refine c_putr rfl rfl rfl rfl rfl ?_
  refine c_ld rfl rfl ?_
  refine c_cst (v := .int 7) rfl rfl ?_
  refine c_nwa (m := 54) (N := 7) rfl rfl (by decide) (by decide) rfl rfl rfl ?_
  refine c_putr rfl rfl rfl rfl rfl ?_
  refine c_ret rfl rfl ?_ rfl
  intro x h1 h2 h49 y
  rcases Nat.lt_or_ge x 50 with w | w
  · rw [clr_ne (by omega), clr_ne (by omega), clr_ne (by omega), clr_ne (by omega), up2_row (by omega)]
    exact hZ x h1 (by omega) h49 y
  · have hx : x = 50 ∨ x = 51 ∨ x = 52 ∨ x = 53 ∨ x = 54 := by omega
    rcases hx with rfl | rfl | rfl | rfl | rfl
    all_goals simp [clr, up2_at, iv, hA]

set_option maxHeartbeats 2000000 in
set_option maxRecDepth 10000 in
theorem new_X1_init_55 {d : Nat} {M : Mm} {ML : Ml} (hZ : ZR 54 M) (hA : ∀ y, M 55 y = 0) : CE (d + 1) k_X1_init [.ref 55] [(15, 16, [some (some 2), some (some 7), some (some 12), some (some 15), some (some 18), some (some 24), some (some 31), some (some 34), some (some 39), some (some 44), some (some 47), some (some 49), some (some 50), some none, some none, none]), (8, 7, [none, none, none, some (some 3), some (some 4), some (some 5), some (some 6)]), (0, 10, []), (0, 10, []), (0, 7, []), (0, 7, []), (8, 7, [none, none, none, some (some 8), some (some 9), some (some 10), some (some 11)]), (0, 10, []), (0, 10, []), (0, 7, []), (0, 7, []), (5, 3, [none, some (some 13), some (some 14)]), (0, 24, []), (0, 24, []), (6, 3, [none, some (some 16), some (some 17)]), (0, 4, []), (0, 4, []), (10, 6, [none, some (some 19), some (some 20), some (some 21), some (some 22), some (some 23)]), (0, 10, []), (0, 10, []), (0, 10, []), (0, 7, []), (0, 7, []), (4, 9, [none, none, none, some (some 25), some (some 26), some (some 27), some (some 28), some (some 29), some (some 30)]), (0, 1024, []), (0, 1024, []), (0, 1024, []), (0, 1024, []), (0, 1024, []), (1, 1024, []), (9, 3, [none, some (some 32), some (some 33)]), (0, 1024, []), (0, 77, []), (13, 5, [some (some 35), some (some 36), none, some (some 37), some (some 38)]), (0, 1024, []), (0, 1024, []), (1, 1024, []), (1, 1024, []), (14, 4, [some (some 40), some (some 41), some (some 42), some (some 43)]), (0, 7, []), (0, 7, []), (0, 7, []), (0, 128, []), (11, 5, [none, none, none, some (some 45), some (some 46)]), (0, 40, []), (0, 7, []), (12, 2, [none, some (some 48)]), (0, 40, []), (3, 6, [some none, some none, some none, some none, some none, some none]), (8, 7, [none, none, none, some (some 51), some (some 52), some (some 53), some (some 54)]), (0, 10, []), (0, 10, []), (0, 7, []), (0, 7, []), (5, 3, [none, some none, some none])] M ML [(15, 16, [some (some 2), some (some 7), some (some 12), some (some 15), some (some 18), some (some 24), some (some 31), some (some 34), some (some 39), some (some 44), some (some 47), some (some 49), some (some 50), some none, some none, none]), (8, 7, [none, none, none, some (some 3), some (some 4), some (some 5), some (some 6)]), (0, 10, []), (0, 10, []), (0, 7, []), (0, 7, []), (8, 7, [none, none, none, some (some 8), some (some 9), some (some 10), some (some 11)]), (0, 10, []), (0, 10, []), (0, 7, []), (0, 7, []), (5, 3, [none, some (some 13), some (some 14)]), (0, 24, []), (0, 24, []), (6, 3, [none, some (some 16), some (some 17)]), (0, 4, []), (0, 4, []), (10, 6, [none, some (some 19), some (some 20), some (some 21), some (some 22), some (some 23)]), (0, 10, []), (0, 10, []), (0, 10, []), (0, 7, []), (0, 7, []), (4, 9, [none, none, none, some (some 25), some (some 26), some (some 27), some (some 28), some (some 29), some (some 30)]), (0, 1024, []), (0, 1024, []), (0, 1024, []), (0, 1024, []), (0, 1024, []), (1, 1024, []), (9, 3, [none, some (some 32), some (some 33)]), (0, 1024, []), (0, 77, []), (13, 5, [some (some 35), some (some 36), none, some (some 37), some (some 38)]), (0, 1024, []), (0, 1024, []), (1, 1024, []), (1, 1024, []), (14, 4, [some (some 40), some (some 41), some (some 42), some (some 43)]), (0, 7, []), (0, 7, []), (0, 7, []), (0, 128, []), (11, 5, [none, none, none, some (some 45), some (some 46)]), (0, 40, []), (0, 7, []), (12, 2, [none, some (some 48)]), (0, 40, []), (3, 6, [some none, some none, some none, some none, some none, some none]), (8, 7, [none, none, none, some (some 51), some (some 52), some (some 53), some (some 54)]), (0, 10, []), (0, 10, []), (0, 7, []), (0, 7, []), (5, 3, [none, some (some 56), some (some 57)]), (0, 24, []), (0, 24, [])] (ZR 57) := by
  refine CE_in mi_X1_init rfl rfl rfl ⟨rfl, rfl⟩ ?_
  show CW _ cd_X1_init _ _ (0, [(0, .ref 55)], [], (_, M, ML))
  refine c_ld rfl rfl ?_
  refine c_oin rfl (by decide) ?_
  refine c_ld rfl rfl ?_
  refine c_cst (v := .int 24) rfl rfl ?_
  refine c_nwa (m := 56) (N := 24) rfl rfl (by decide) (by decide) rfl rfl rfl ?_
  refine c_putr rfl rfl rfl rfl rfl ?_
  refine c_ld rfl rfl ?_
  refine c_cst (v := .int 24) rfl rfl ?_
  refine c_nwa (m := 57) (N := 24) rfl rfl (by decide) (by decide) rfl rfl rfl ?_
  refine c_putr rfl rfl rfl rfl rfl ?_
  refine c_ret rfl rfl ?_ rfl
  intro x h1 h2 h49 y
  rcases Nat.lt_or_ge x 55 with w | w
  · rw [clr_ne (by omega), clr_ne (by omega)]
    exact hZ x h1 (by omega) h49 y
  · have hx : x = 55 ∨ x = 56 ∨ x = 57 := by omega
    rcases hx with rfl | rfl | rfl
    all_goals simp [clr, up2_at, iv, hA]

set_option maxHeartbeats 2000000 in
set_option maxRecDepth 10000 in
theorem new_X2_init_58 {d : Nat} {M : Mm} {ML : Ml} (hZ : ZR 57 M) (hA : ∀ y, M 58 y = 0) : CE (d + 1) k_X2_init [.ref 58] [(15, 16, [some (some 2), some (some 7), some (some 12), some (some 15), some (some 18), some (some 24), some (some 31), some (some 34), some (some 39), some (some 44), some (some 47), some (some 49), some (some 50), some (some 55), some none, none]), (8, 7, [none, none, none, some (some 3), some (some 4), some (some 5), some (some 6)]), (0, 10, []), (0, 10, []), (0, 7, []), (0, 7, []), (8, 7, [none, none, none, some (some 8), some (some 9), some (some 10), some (some 11)]), (0, 10, []), (0, 10, []), (0, 7, []), (0, 7, []), (5, 3, [none, some (some 13), some (some 14)]), (0, 24, []), (0, 24, []), (6, 3, [none, some (some 16), some (some 17)]), (0, 4, []), (0, 4, []), (10, 6, [none, some (some 19), some (some 20), some (some 21), some (some 22), some (some 23)]), (0, 10, []), (0, 10, []), (0, 10, []), (0, 7, []), (0, 7, []), (4, 9, [none, none, none, some (some 25), some (some 26), some (some 27), some (some 28), some (some 29), some (some 30)]), (0, 1024, []), (0, 1024, []), (0, 1024, []), (0, 1024, []), (0, 1024, []), (1, 1024, []), (9, 3, [none, some (some 32), some (some 33)]), (0, 1024, []), (0, 77, []), (13, 5, [some (some 35), some (some 36), none, some (some 37), some (some 38)]), (0, 1024, []), (0, 1024, []), (1, 1024, []), (1, 1024, []), (14, 4, [some (some 40), some (some 41), some (some 42), some (some 43)]), (0, 7, []), (0, 7, []), (0, 7, []), (0, 128, []), (11, 5, [none, none, none, some (some 45), some (some 46)]), (0, 40, []), (0, 7, []), (12, 2, [none, some (some 48)]), (0, 40, []), (3, 6, [some none, some none, some none, some none, some none, some none]), (8, 7, [none, none, none, some (some 51), some (some 52), some (some 53), some (some 54)]), (0, 10, []), (0, 10, []), (0, 7, []), (0, 7, []), (5, 3, [none, some (some 56), some (some 57)]), (0, 24, []), (0, 24, []), (6, 3, [none, some none, some none])] M ML [(15, 16, [some (some 2), some (some 7), some (some 12), some (some 15), some (some 18), some (some 24), some (some 31), some (some 34), some (some 39), some (some 44), some (some 47), some (some 49), some (some 50), some (some 55), some none, none]), (8, 7, [none, none, none, some (some 3), some (some 4), some (some 5), some (some 6)]), (0, 10, []), (0, 10, []), (0, 7, []), (0, 7, []), (8, 7, [none, none, none, some (some 8), some (some 9), some (some 10), some (some 11)]), (0, 10, []), (0, 10, []), (0, 7, []), (0, 7, []), (5, 3, [none, some (some 13), some (some 14)]), (0, 24, []), (0, 24, []), (6, 3, [none, some (some 16), some (some 17)]), (0, 4, []), (0, 4, []), (10, 6, [none, some (some 19), some (some 20), some (some 21), some (some 22), some (some 23)]), (0, 10, []), (0, 10, []), (0, 10, []), (0, 7, []), (0, 7, []), (4, 9, [none, none, none, some (some 25), some (some 26), some (some 27), some (some 28), some (some 29), some (some 30)]), (0, 1024, []), (0, 1024, []), (0, 1024, []), (0, 1024, []), (0, 1024, []), (1, 1024, []), (9, 3, [none, some (some 32), some (some 33)]), (0, 1024, []), (0, 77, []), (13, 5, [some (some 35), some (some 36), none, some (some 37), some (some 38)]), (0, 1024, []), (0, 1024, []), (1, 1024, []), (1, 1024, []), (14, 4, [some (some 40), some (some 41), some (some 42), some (some 43)]), (0, 7, []), (0, 7, []), (0, 7, []), (0, 128, []), (11, 5, [none, none, none, some (some 45), some (some 46)]), (0, 40, []), (0, 7, []), (12, 2, [none, some (some 48)]), (0, 40, []), (3, 6, [some none, some none, some none, some none, some none, some none]), (8, 7, [none, none, none, some (some 51), some (some 52), some (some 53), some (some 54)]), (0, 10, []), (0, 10, []), (0, 7, []), (0, 7, []), (5, 3, [none, some (some 56), some (some 57)]), (0, 24, []), (0, 24, []), (6, 3, [none, some (some 59), some (some 60)]), (0, 4, []), (0, 4, [])] (ZR 60) := by
  refine CE_in mi_X2_init rfl rfl rfl ⟨rfl, rfl⟩ ?_
  show CW _ cd_X2_init _ _ (0, [(0, .ref 58)], [], (_, M, ML))
  refine c_ld rfl rfl ?_
  refine c_oin rfl (by decide) ?_
  refine c_ld rfl rfl ?_
  refine c_cst (v := .int 4) rfl rfl ?_
  refine c_nwa (m := 59) (N := 4) rfl rfl (by decide) (by decide) rfl rfl rfl ?_
  refine c_putr rfl rfl rfl rfl rfl ?_
  refine c_ld rfl rfl ?_
  refine c_cst (v := .int 4) rfl rfl ?_
  refine c_nwa (m := 60) (N := 4) rfl rfl (by decide) (by decide) rfl rfl rfl ?_
  refine c_putr rfl rfl rfl rfl rfl ?_
  refine c_ret rfl rfl ?_ rfl
  intro x h1 h2 h49 y
  rcases Nat.lt_or_ge x 58 with w | w
  · rw [clr_ne (by omega), clr_ne (by omega)]
    exact hZ x h1 (by omega) h49 y
  · have hx : x = 58 ∨ x = 59 ∨ x = 60 := by omega
    rcases hx with rfl | rfl | rfl
    all_goals simp [clr, up2_at, iv, hA]

set_option maxHeartbeats 2000000 in
set_option maxRecDepth 10000 in
theorem new_X3_init_61 {d : Nat} {M : Mm} {ML : Ml} (hZ : ZR 60 M) (hA : ∀ y, M 61 y = 0) : CE (d + 1) k_X3_init [.ref 61] [(15, 16, [some (some 2), some (some 7), some (some 12), some (some 15), some (some 18), some (some 24), some (some 31), some (some 34), some (some 39), some (some 44), some (some 47), some (some 49), some (some 50), some (some 55), some (some 58), none]), (8, 7, [none, none, none, some (some 3), some (some 4), some (some 5), some (some 6)]), (0, 10, []), (0, 10, []), (0, 7, []), (0, 7, []), (8, 7, [none, none, none, some (some 8), some (some 9), some (some 10), some (some 11)]), (0, 10, []), (0, 10, []), (0, 7, []), (0, 7, []), (5, 3, [none, some (some 13), some (some 14)]), (0, 24, []), (0, 24, []), (6, 3, [none, some (some 16), some (some 17)]), (0, 4, []), (0, 4, []), (10, 6, [none, some (some 19), some (some 20), some (some 21), some (some 22), some (some 23)]), (0, 10, []), (0, 10, []), (0, 10, []), (0, 7, []), (0, 7, []), (4, 9, [none, none, none, some (some 25), some (some 26), some (some 27), some (some 28), some (some 29), some (some 30)]), (0, 1024, []), (0, 1024, []), (0, 1024, []), (0, 1024, []), (0, 1024, []), (1, 1024, []), (9, 3, [none, some (some 32), some (some 33)]), (0, 1024, []), (0, 77, []), (13, 5, [some (some 35), some (some 36), none, some (some 37), some (some 38)]), (0, 1024, []), (0, 1024, []), (1, 1024, []), (1, 1024, []), (14, 4, [some (some 40), some (some 41), some (some 42), some (some 43)]), (0, 7, []), (0, 7, []), (0, 7, []), (0, 128, []), (11, 5, [none, none, none, some (some 45), some (some 46)]), (0, 40, []), (0, 7, []), (12, 2, [none, some (some 48)]), (0, 40, []), (3, 6, [some none, some none, some none, some none, some none, some none]), (8, 7, [none, none, none, some (some 51), some (some 52), some (some 53), some (some 54)]), (0, 10, []), (0, 10, []), (0, 7, []), (0, 7, []), (5, 3, [none, some (some 56), some (some 57)]), (0, 24, []), (0, 24, []), (6, 3, [none, some (some 59), some (some 60)]), (0, 4, []), (0, 4, []), (7, 4, [none, none, none, some none])] M ML [(15, 16, [some (some 2), some (some 7), some (some 12), some (some 15), some (some 18), some (some 24), some (some 31), some (some 34), some (some 39), some (some 44), some (some 47), some (some 49), some (some 50), some (some 55), some (some 58), none]), (8, 7, [none, none, none, some (some 3), some (some 4), some (some 5), some (some 6)]), (0, 10, []), (0, 10, []), (0, 7, []), (0, 7, []), (8, 7, [none, none, none, some (some 8), some (some 9), some (some 10), some (some 11)]), (0, 10, []), (0, 10, []), (0, 7, []), (0, 7, []), (5, 3, [none, some (some 13), some (some 14)]), (0, 24, []), (0, 24, []), (6, 3, [none, some (some 16), some (some 17)]), (0, 4, []), (0, 4, []), (10, 6, [none, some (some 19), some (some 20), some (some 21), some (some 22), some (some 23)]), (0, 10, []), (0, 10, []), (0, 10, []), (0, 7, []), (0, 7, []), (4, 9, [none, none, none, some (some 25), some (some 26), some (some 27), some (some 28), some (some 29), some (some 30)]), (0, 1024, []), (0, 1024, []), (0, 1024, []), (0, 1024, []), (0, 1024, []), (1, 1024, []), (9, 3, [none, some (some 32), some (some 33)]), (0, 1024, []), (0, 77, []), (13, 5, [some (some 35), some (some 36), none, some (some 37), some (some 38)]), (0, 1024, []), (0, 1024, []), (1, 1024, []), (1, 1024, []), (14, 4, [some (some 40), some (some 41), some (some 42), some (some 43)]), (0, 7, []), (0, 7, []), (0, 7, []), (0, 128, []), (11, 5, [none, none, none, some (some 45), some (some 46)]), (0, 40, []), (0, 7, []), (12, 2, [none, some (some 48)]), (0, 40, []), (3, 6, [some none, some none, some none, some none, some none, some none]), (8, 7, [none, none, none, some (some 51), some (some 52), some (some 53), some (some 54)]), (0, 10, []), (0, 10, []), (0, 7, []), (0, 7, []), (5, 3, [none, some (some 56), some (some 57)]), (0, 24, []), (0, 24, []), (6, 3, [none, some (some 59), some (some 60)]), (0, 4, []), (0, 4, []), (7, 4, [none, none, none, some (some 62)]), (0, 20, [])] (ZR 62) := by
  refine CE_in mi_X3_init rfl rfl rfl ⟨rfl, rfl⟩ ?_
  show CW _ cd_X3_init _ _ (0, [(0, .ref 61)], [], (_, M, ML))
  refine c_ld rfl rfl ?_
  refine c_oin rfl (by decide) ?_
  refine c_ld rfl rfl ?_
  refine c_cst (v := .int 20) rfl rfl ?_
  refine c_nwa (m := 62) (N := 20) rfl rfl (by decide) (by decide) rfl rfl rfl ?_
  refine c_putr rfl rfl rfl rfl rfl ?_
  refine c_ret rfl rfl ?_ rfl
  intro x h1 h2 h49 y
  rcases Nat.lt_or_ge x 61 with w | w
  · rw [clr_ne (by omega)]
    exact hZ x h1 (by omega) h49 y
  · have hx : x = 61 ∨ x = 62 := by omega
    rcases hx with rfl | rfl
    all_goals simp [clr, up2_at, iv, hA]

set_option maxHeartbeats 2000000 in
set_option maxRecDepth 10000 in
theorem new_X3_init_63 {d : Nat} {M : Mm} {ML : Ml} (hZ : ZR 62 M) (hA : ∀ y, M 63 y = 0) : CE (d + 1) k_X3_init [.ref 63] [(15, 16, [some (some 2), some (some 7), some (some 12), some (some 15), some (some 18), some (some 24), some (some 31), some (some 34), some (some 39), some (some 44), some (some 47), some (some 49), some (some 50), some (some 55), some (some 58), none]), (8, 7, [none, none, none, some (some 3), some (some 4), some (some 5), some (some 6)]), (0, 10, []), (0, 10, []), (0, 7, []), (0, 7, []), (8, 7, [none, none, none, some (some 8), some (some 9), some (some 10), some (some 11)]), (0, 10, []), (0, 10, []), (0, 7, []), (0, 7, []), (5, 3, [none, some (some 13), some (some 14)]), (0, 24, []), (0, 24, []), (6, 3, [none, some (some 16), some (some 17)]), (0, 4, []), (0, 4, []), (10, 6, [none, some (some 19), some (some 20), some (some 21), some (some 22), some (some 23)]), (0, 10, []), (0, 10, []), (0, 10, []), (0, 7, []), (0, 7, []), (4, 9, [none, none, none, some (some 25), some (some 26), some (some 27), some (some 28), some (some 29), some (some 30)]), (0, 1024, []), (0, 1024, []), (0, 1024, []), (0, 1024, []), (0, 1024, []), (1, 1024, []), (9, 3, [none, some (some 32), some (some 33)]), (0, 1024, []), (0, 77, []), (13, 5, [some (some 35), some (some 36), none, some (some 37), some (some 38)]), (0, 1024, []), (0, 1024, []), (1, 1024, []), (1, 1024, []), (14, 4, [some (some 40), some (some 41), some (some 42), some (some 43)]), (0, 7, []), (0, 7, []), (0, 7, []), (0, 128, []), (11, 5, [none, none, none, some (some 45), some (some 46)]), (0, 40, []), (0, 7, []), (12, 2, [none, some (some 48)]), (0, 40, []), (3, 6, [some (some 61), some none, some none, some none, some none, some none]), (8, 7, [none, none, none, some (some 51), some (some 52), some (some 53), some (some 54)]), (0, 10, []), (0, 10, []), (0, 7, []), (0, 7, []), (5, 3, [none, some (some 56), some (some 57)]), (0, 24, []), (0, 24, []), (6, 3, [none, some (some 59), some (some 60)]), (0, 4, []), (0, 4, []), (7, 4, [none, none, none, some (some 62)]), (0, 20, []), (7, 4, [none, none, none, some none])] M ML [(15, 16, [some (some 2), some (some 7), some (some 12), some (some 15), some (some 18), some (some 24), some (some 31), some (some 34), some (some 39), some (some 44), some (some 47), some (some 49), some (some 50), some (some 55), some (some 58), none]), (8, 7, [none, none, none, some (some 3), some (some 4), some (some 5), some (some 6)]), (0, 10, []), (0, 10, []), (0, 7, []), (0, 7, []), (8, 7, [none, none, none, some (some 8), some (some 9), some (some 10), some (some 11)]), (0, 10, []), (0, 10, []), (0, 7, []), (0, 7, []), (5, 3, [none, some (some 13), some (some 14)]), (0, 24, []), (0, 24, []), (6, 3, [none, some (some 16), some (some 17)]), (0, 4, []), (0, 4, []), (10, 6, [none, some (some 19), some (some 20), some (some 21), some (some 22), some (some 23)]), (0, 10, []), (0, 10, []), (0, 10, []), (0, 7, []), (0, 7, []), (4, 9, [none, none, none, some (some 25), some (some 26), some (some 27), some (some 28), some (some 29), some (some 30)]), (0, 1024, []), (0, 1024, []), (0, 1024, []), (0, 1024, []), (0, 1024, []), (1, 1024, []), (9, 3, [none, some (some 32), some (some 33)]), (0, 1024, []), (0, 77, []), (13, 5, [some (some 35), some (some 36), none, some (some 37), some (some 38)]), (0, 1024, []), (0, 1024, []), (1, 1024, []), (1, 1024, []), (14, 4, [some (some 40), some (some 41), some (some 42), some (some 43)]), (0, 7, []), (0, 7, []), (0, 7, []), (0, 128, []), (11, 5, [none, none, none, some (some 45), some (some 46)]), (0, 40, []), (0, 7, []), (12, 2, [none, some (some 48)]), (0, 40, []), (3, 6, [some (some 61), some none, some none, some none, some none, some none]), (8, 7, [none, none, none, some (some 51), some (some 52), some (some 53), some (some 54)]), (0, 10, []), (0, 10, []), (0, 7, []), (0, 7, []), (5, 3, [none, some (some 56), some (some 57)]), (0, 24, []), (0, 24, []), (6, 3, [none, some (some 59), some (some 60)]), (0, 4, []), (0, 4, []), (7, 4, [none, none, none, some (some 62)]), (0, 20, []), (7, 4, [none, none, none, some (some 64)]), (0, 20, [])] (ZR 64) := by
  refine CE_in mi_X3_init rfl rfl rfl ⟨rfl, rfl⟩ ?_
  show CW _ cd_X3_init _ _ (0, [(0, .ref 63)], [], (_, M, ML))
  refine c_ld rfl rfl ?_
  refine c_oin rfl (by decide) ?_
  refine c_ld rfl rfl ?_
  refine c_cst (v := .int 20) rfl rfl ?_
  refine c_nwa (m := 64) (N := 20) rfl rfl (by decide) (by decide) rfl rfl rfl ?_
  refine c_putr rfl rfl rfl rfl rfl ?_
  refine c_ret rfl rfl ?_ rfl
  intro x h1 h2 h49 y
  rcases Nat.lt_or_ge x 63 with w | w
  · rw [clr_ne (by omega)]
    exact hZ x h1 (by omega) h49 y
  · have hx : x = 63 ∨ x = 64 := by omega
    rcases hx with rfl | rfl
    all_goals simp [clr, up2_at, iv, hA]

set_option maxHeartbeats 2000000 in
set_option maxRecDepth 10000 in
theorem new_X3_init_65 {d : Nat} {M : Mm} {ML : Ml} (hZ : ZR 64 M) (hA : ∀ y, M 65 y = 0) : CE (d + 1) k_X3_init [.ref 65] [(15, 16, [some (some 2), some (some 7), some (some 12), some (some 15), some (some 18), some (some 24), some (some 31), some (some 34), some (some 39), some (some 44), some (some 47), some (some 49), some (some 50), some (some 55), some (some 58), none]), (8, 7, [none, none, none, some (some 3), some (some 4), some (some 5), some (some 6)]), (0, 10, []), (0, 10, []), (0, 7, []), (0, 7, []), (8, 7, [none, none, none, some (some 8), some (some 9), some (some 10), some (some 11)]), (0, 10, []), (0, 10, []), (0, 7, []), (0, 7, []), (5, 3, [none, some (some 13), some (some 14)]), (0, 24, []), (0, 24, []), (6, 3, [none, some (some 16), some (some 17)]), (0, 4, []), (0, 4, []), (10, 6, [none, some (some 19), some (some 20), some (some 21), some (some 22), some (some 23)]), (0, 10, []), (0, 10, []), (0, 10, []), (0, 7, []), (0, 7, []), (4, 9, [none, none, none, some (some 25), some (some 26), some (some 27), some (some 28), some (some 29), some (some 30)]), (0, 1024, []), (0, 1024, []), (0, 1024, []), (0, 1024, []), (0, 1024, []), (1, 1024, []), (9, 3, [none, some (some 32), some (some 33)]), (0, 1024, []), (0, 77, []), (13, 5, [some (some 35), some (some 36), none, some (some 37), some (some 38)]), (0, 1024, []), (0, 1024, []), (1, 1024, []), (1, 1024, []), (14, 4, [some (some 40), some (some 41), some (some 42), some (some 43)]), (0, 7, []), (0, 7, []), (0, 7, []), (0, 128, []), (11, 5, [none, none, none, some (some 45), some (some 46)]), (0, 40, []), (0, 7, []), (12, 2, [none, some (some 48)]), (0, 40, []), (3, 6, [some (some 61), some (some 63), some none, some none, some none, some none]), (8, 7, [none, none, none, some (some 51), some (some 52), some (some 53), some (some 54)]), (0, 10, []), (0, 10, []), (0, 7, []), (0, 7, []), (5, 3, [none, some (some 56), some (some 57)]), (0, 24, []), (0, 24, []), (6, 3, [none, some (some 59), some (some 60)]), (0, 4, []), (0, 4, []), (7, 4, [none, none, none, some (some 62)]), (0, 20, []), (7, 4, [none, none, none, some (some 64)]), (0, 20, []), (7, 4, [none, none, none, some none])] M ML [(15, 16, [some (some 2), some (some 7), some (some 12), some (some 15), some (some 18), some (some 24), some (some 31), some (some 34), some (some 39), some (some 44), some (some 47), some (some 49), some (some 50), some (some 55), some (some 58), none]), (8, 7, [none, none, none, some (some 3), some (some 4), some (some 5), some (some 6)]), (0, 10, []), (0, 10, []), (0, 7, []), (0, 7, []), (8, 7, [none, none, none, some (some 8), some (some 9), some (some 10), some (some 11)]), (0, 10, []), (0, 10, []), (0, 7, []), (0, 7, []), (5, 3, [none, some (some 13), some (some 14)]), (0, 24, []), (0, 24, []), (6, 3, [none, some (some 16), some (some 17)]), (0, 4, []), (0, 4, []), (10, 6, [none, some (some 19), some (some 20), some (some 21), some (some 22), some (some 23)]), (0, 10, []), (0, 10, []), (0, 10, []), (0, 7, []), (0, 7, []), (4, 9, [none, none, none, some (some 25), some (some 26), some (some 27), some (some 28), some (some 29), some (some 30)]), (0, 1024, []), (0, 1024, []), (0, 1024, []), (0, 1024, []), (0, 1024, []), (1, 1024, []), (9, 3, [none, some (some 32), some (some 33)]), (0, 1024, []), (0, 77, []), (13, 5, [some (some 35), some (some 36), none, some (some 37), some (some 38)]), (0, 1024, []), (0, 1024, []), (1, 1024, []), (1, 1024, []), (14, 4, [some (some 40), some (some 41), some (some 42), some (some 43)]), (0, 7, []), (0, 7, []), (0, 7, []), (0, 128, []), (11, 5, [none, none, none, some (some 45), some (some 46)]), (0, 40, []), (0, 7, []), (12, 2, [none, some (some 48)]), (0, 40, []), (3, 6, [some (some 61), some (some 63), some none, some none, some none, some none]), (8, 7, [none, none, none, some (some 51), some (some 52), some (some 53), some (some 54)]), (0, 10, []), (0, 10, []), (0, 7, []), (0, 7, []), (5, 3, [none, some (some 56), some (some 57)]), (0, 24, []), (0, 24, []), (6, 3, [none, some (some 59), some (some 60)]), (0, 4, []), (0, 4, []), (7, 4, [none, none, none, some (some 62)]), (0, 20, []), (7, 4, [none, none, none, some (some 64)]), (0, 20, []), (7, 4, [none, none, none, some (some 66)]), (0, 20, [])] (ZR 66) := by
  refine CE_in mi_X3_init rfl rfl rfl ⟨rfl, rfl⟩ ?_
  show CW _ cd_X3_init _ _ (0, [(0, .ref 65)], [], (_, M, ML))
  refine c_ld rfl rfl ?_
  refine c_oin rfl (by decide) ?_
  refine c_ld rfl rfl ?_
  refine c_cst (v := .int 20) rfl rfl ?_
  refine c_nwa (m := 66) (N := 20) rfl rfl (by decide) (by decide) rfl rfl rfl ?_
  refine c_putr rfl rfl rfl rfl rfl ?_
  refine c_ret rfl rfl ?_ rfl
  intro x h1 h2 h49 y
  rcases Nat.lt_or_ge x 65 with w | w
  · rw [clr_ne (by omega)]
    exact hZ x h1 (by omega) h49 y
  · have hx : x = 65 ∨ x = 66 := by omega
    rcases hx with rfl | rfl
    all_goals simp [clr, up2_at, iv, hA]

set_option maxHeartbeats 2000000 in
set_option maxRecDepth 10000 in
theorem new_X3_init_67 {d : Nat} {M : Mm} {ML : Ml} (hZ : ZR 66 M) (hA : ∀ y, M 67 y = 0) : CE (d + 1) k_X3_init [.ref 67] [(15, 16, [some (some 2), some (some 7), some (some 12), some (some 15), some (some 18), some (some 24), some (some 31), some (some 34), some (some 39), some (some 44), some (some 47), some (some 49), some (some 50), some (some 55), some (some 58), none]), (8, 7, [none, none, none, some (some 3), some (some 4), some (some 5), some (some 6)]), (0, 10, []), (0, 10, []), (0, 7, []), (0, 7, []), (8, 7, [none, none, none, some (some 8), some (some 9), some (some 10), some (some 11)]), (0, 10, []), (0, 10, []), (0, 7, []), (0, 7, []), (5, 3, [none, some (some 13), some (some 14)]), (0, 24, []), (0, 24, []), (6, 3, [none, some (some 16), some (some 17)]), (0, 4, []), (0, 4, []), (10, 6, [none, some (some 19), some (some 20), some (some 21), some (some 22), some (some 23)]), (0, 10, []), (0, 10, []), (0, 10, []), (0, 7, []), (0, 7, []), (4, 9, [none, none, none, some (some 25), some (some 26), some (some 27), some (some 28), some (some 29), some (some 30)]), (0, 1024, []), (0, 1024, []), (0, 1024, []), (0, 1024, []), (0, 1024, []), (1, 1024, []), (9, 3, [none, some (some 32), some (some 33)]), (0, 1024, []), (0, 77, []), (13, 5, [some (some 35), some (some 36), none, some (some 37), some (some 38)]), (0, 1024, []), (0, 1024, []), (1, 1024, []), (1, 1024, []), (14, 4, [some (some 40), some (some 41), some (some 42), some (some 43)]), (0, 7, []), (0, 7, []), (0, 7, []), (0, 128, []), (11, 5, [none, none, none, some (some 45), some (some 46)]), (0, 40, []), (0, 7, []), (12, 2, [none, some (some 48)]), (0, 40, []), (3, 6, [some (some 61), some (some 63), some (some 65), some none, some none, some none]), (8, 7, [none, none, none, some (some 51), some (some 52), some (some 53), some (some 54)]), (0, 10, []), (0, 10, []), (0, 7, []), (0, 7, []), (5, 3, [none, some (some 56), some (some 57)]), (0, 24, []), (0, 24, []), (6, 3, [none, some (some 59), some (some 60)]), (0, 4, []), (0, 4, []), (7, 4, [none, none, none, some (some 62)]), (0, 20, []), (7, 4, [none, none, none, some (some 64)]), (0, 20, []), (7, 4, [none, none, none, some (some 66)]), (0, 20, []), (7, 4, [none, none, none, some none])] M ML [(15, 16, [some (some 2), some (some 7), some (some 12), some (some 15), some (some 18), some (some 24), some (some 31), some (some 34), some (some 39), some (some 44), some (some 47), some (some 49), some (some 50), some (some 55), some (some 58), none]), (8, 7, [none, none, none, some (some 3), some (some 4), some (some 5), some (some 6)]), (0, 10, []), (0, 10, []), (0, 7, []), (0, 7, []), (8, 7, [none, none, none, some (some 8), some (some 9), some (some 10), some (some 11)]), (0, 10, []), (0, 10, []), (0, 7, []), (0, 7, []), (5, 3, [none, some (some 13), some (some 14)]), (0, 24, []), (0, 24, []), (6, 3, [none, some (some 16), some (some 17)]), (0, 4, []), (0, 4, []), (10, 6, [none, some (some 19), some (some 20), some (some 21), some (some 22), some (some 23)]), (0, 10, []), (0, 10, []), (0, 10, []), (0, 7, []), (0, 7, []), (4, 9, [none, none, none, some (some 25), some (some 26), some (some 27), some (some 28), some (some 29), some (some 30)]), (0, 1024, []), (0, 1024, []), (0, 1024, []), (0, 1024, []), (0, 1024, []), (1, 1024, []), (9, 3, [none, some (some 32), some (some 33)]), (0, 1024, []), (0, 77, []), (13, 5, [some (some 35), some (some 36), none, some (some 37), some (some 38)]), (0, 1024, []), (0, 1024, []), (1, 1024, []), (1, 1024, []), (14, 4, [some (some 40), some (some 41), some (some 42), some (some 43)]), (0, 7, []), (0, 7, []), (0, 7, []), (0, 128, []), (11, 5, [none, none, none, some (some 45), some (some 46)]), (0, 40, []), (0, 7, []), (12, 2, [none, some (some 48)]), (0, 40, []), (3, 6, [some (some 61), some (some 63), some (some 65), some none, some none, some none]), (8, 7, [none, none, none, some (some 51), some (some 52), some (some 53), some (some 54)]), (0, 10, []), (0, 10, []), (0, 7, []), (0, 7, []), (5, 3, [none, some (some 56), some (some 57)]), (0, 24, []), (0, 24, []), (6, 3, [none, some (some 59), some (some 60)]), (0, 4, []), (0, 4, []), (7, 4, [none, none, none, some (some 62)]), (0, 20, []), (7, 4, [none, none, none, some (some 64)]), (0, 20, []), (7, 4, [none, none, none, some (some 66)]), (0, 20, []), (7, 4, [none, none, none, some (some 68)]), (0, 20, [])] (ZR 68) := by
  refine CE_in mi_X3_init rfl rfl rfl ⟨rfl, rfl⟩ ?_
  show CW _ cd_X3_init _ _ (0, [(0, .ref 67)], [], (_, M, ML))
  refine c_ld rfl rfl ?_
  refine c_oin rfl (by decide) ?_
  refine c_ld rfl rfl ?_
  refine c_cst (v := .int 20) rfl rfl ?_
  refine c_nwa (m := 68) (N := 20) rfl rfl (by decide) (by decide) rfl rfl rfl ?_
  refine c_putr rfl rfl rfl rfl rfl ?_
  refine c_ret rfl rfl ?_ rfl
  intro x h1 h2 h49 y
  rcases Nat.lt_or_ge x 67 with w | w
  · rw [clr_ne (by omega)]
    exact hZ x h1 (by omega) h49 y
  · have hx : x = 67 ∨ x = 68 := by omega
    rcases hx with rfl | rfl
    all_goals simp [clr, up2_at, iv, hA]

set_option maxHeartbeats 2000000 in
set_option maxRecDepth 10000 in
theorem new_X3_init_69 {d : Nat} {M : Mm} {ML : Ml} (hZ : ZR 68 M) (hA : ∀ y, M 69 y = 0) : CE (d + 1) k_X3_init [.ref 69] [(15, 16, [some (some 2), some (some 7), some (some 12), some (some 15), some (some 18), some (some 24), some (some 31), some (some 34), some (some 39), some (some 44), some (some 47), some (some 49), some (some 50), some (some 55), some (some 58), none]), (8, 7, [none, none, none, some (some 3), some (some 4), some (some 5), some (some 6)]), (0, 10, []), (0, 10, []), (0, 7, []), (0, 7, []), (8, 7, [none, none, none, some (some 8), some (some 9), some (some 10), some (some 11)]), (0, 10, []), (0, 10, []), (0, 7, []), (0, 7, []), (5, 3, [none, some (some 13), some (some 14)]), (0, 24, []), (0, 24, []), (6, 3, [none, some (some 16), some (some 17)]), (0, 4, []), (0, 4, []), (10, 6, [none, some (some 19), some (some 20), some (some 21), some (some 22), some (some 23)]), (0, 10, []), (0, 10, []), (0, 10, []), (0, 7, []), (0, 7, []), (4, 9, [none, none, none, some (some 25), some (some 26), some (some 27), some (some 28), some (some 29), some (some 30)]), (0, 1024, []), (0, 1024, []), (0, 1024, []), (0, 1024, []), (0, 1024, []), (1, 1024, []), (9, 3, [none, some (some 32), some (some 33)]), (0, 1024, []), (0, 77, []), (13, 5, [some (some 35), some (some 36), none, some (some 37), some (some 38)]), (0, 1024, []), (0, 1024, []), (1, 1024, []), (1, 1024, []), (14, 4, [some (some 40), some (some 41), some (some 42), some (some 43)]), (0, 7, []), (0, 7, []), (0, 7, []), (0, 128, []), (11, 5, [none, none, none, some (some 45), some (some 46)]), (0, 40, []), (0, 7, []), (12, 2, [none, some (some 48)]), (0, 40, []), (3, 6, [some (some 61), some (some 63), some (some 65), some (some 67), some none, some none]), (8, 7, [none, none, none, some (some 51), some (some 52), some (some 53), some (some 54)]), (0, 10, []), (0, 10, []), (0, 7, []), (0, 7, []), (5, 3, [none, some (some 56), some (some 57)]), (0, 24, []), (0, 24, []), (6, 3, [none, some (some 59), some (some 60)]), (0, 4, []), (0, 4, []), (7, 4, [none, none, none, some (some 62)]), (0, 20, []), (7, 4, [none, none, none, some (some 64)]), (0, 20, []), (7, 4, [none, none, none, some (some 66)]), (0, 20, []), (7, 4, [none, none, none, some (some 68)]), (0, 20, []), (7, 4, [none, none, none, some none])] M ML [(15, 16, [some (some 2), some (some 7), some (some 12), some (some 15), some (some 18), some (some 24), some (some 31), some (some 34), some (some 39), some (some 44), some (some 47), some (some 49), some (some 50), some (some 55), some (some 58), none]), (8, 7, [none, none, none, some (some 3), some (some 4), some (some 5), some (some 6)]), (0, 10, []), (0, 10, []), (0, 7, []), (0, 7, []), (8, 7, [none, none, none, some (some 8), some (some 9), some (some 10), some (some 11)]), (0, 10, []), (0, 10, []), (0, 7, []), (0, 7, []), (5, 3, [none, some (some 13), some (some 14)]), (0, 24, []), (0, 24, []), (6, 3, [none, some (some 16), some (some 17)]), (0, 4, []), (0, 4, []), (10, 6, [none, some (some 19), some (some 20), some (some 21), some (some 22), some (some 23)]), (0, 10, []), (0, 10, []), (0, 10, []), (0, 7, []), (0, 7, []), (4, 9, [none, none, none, some (some 25), some (some 26), some (some 27), some (some 28), some (some 29), some (some 30)]), (0, 1024, []), (0, 1024, []), (0, 1024, []), (0, 1024, []), (0, 1024, []), (1, 1024, []), (9, 3, [none, some (some 32), some (some 33)]), (0, 1024, []), (0, 77, []), (13, 5, [some (some 35), some (some 36), none, some (some 37), some (some 38)]), (0, 1024, []), (0, 1024, []), (1, 1024, []), (1, 1024, []), (14, 4, [some (some 40), some (some 41), some (some 42), some (some 43)]), (0, 7, []), (0, 7, []), (0, 7, []), (0, 128, []), (11, 5, [none, none, none, some (some 45), some (some 46)]), (0, 40, []), (0, 7, []), (12, 2, [none, some (some 48)]), (0, 40, []), (3, 6, [some (some 61), some (some 63), some (some 65), some (some 67), some none, some none]), (8, 7, [none, none, none, some (some 51), some (some 52), some (some 53), some (some 54)]), (0, 10, []), (0, 10, []), (0, 7, []), (0, 7, []), (5, 3, [none, some (some 56), some (some 57)]), (0, 24, []), (0, 24, []), (6, 3, [none, some (some 59), some (some 60)]), (0, 4, []), (0, 4, []), (7, 4, [none, none, none, some (some 62)]), (0, 20, []), (7, 4, [none, none, none, some (some 64)]), (0, 20, []), (7, 4, [none, none, none, some (some 66)]), (0, 20, []), (7, 4, [none, none, none, some (some 68)]), (0, 20, []), (7, 4, [none, none, none, some (some 70)]), (0, 20, [])] (ZR 70) := by
  refine CE_in mi_X3_init rfl rfl rfl ⟨rfl, rfl⟩ ?_
  show CW _ cd_X3_init _ _ (0, [(0, .ref 69)], [], (_, M, ML))
  refine c_ld rfl rfl ?_
  refine c_oin rfl (by decide) ?_
  refine c_ld rfl rfl ?_
  refine c_cst (v := .int 20) rfl rfl ?_
  refine c_nwa (m := 70) (N := 20) rfl rfl (by decide) (by decide) rfl rfl rfl ?_
  refine c_putr rfl rfl rfl rfl rfl ?_
  refine c_ret rfl rfl ?_ rfl
  intro x h1 h2 h49 y
  rcases Nat.lt_or_ge x 69 with w | w
  · rw [clr_ne (by omega)]
    exact hZ x h1 (by omega) h49 y
  · have hx : x = 69 ∨ x = 70 := by omega
    rcases hx with rfl | rfl
    all_goals simp [clr, up2_at, iv, hA]

set_option maxHeartbeats 2000000 in
set_option maxRecDepth 10000 in
theorem new_X3_init_71 {d : Nat} {M : Mm} {ML : Ml} (hZ : ZR 70 M) (hA : ∀ y, M 71 y = 0) : CE (d + 1) k_X3_init [.ref 71] [(15, 16, [some (some 2), some (some 7), some (some 12), some (some 15), some (some 18), some (some 24), some (some 31), some (some 34), some (some 39), some (some 44), some (some 47), some (some 49), some (some 50), some (some 55), some (some 58), none]), (8, 7, [none, none, none, some (some 3), some (some 4), some (some 5), some (some 6)]), (0, 10, []), (0, 10, []), (0, 7, []), (0, 7, []), (8, 7, [none, none, none, some (some 8), some (some 9), some (some 10), some (some 11)]), (0, 10, []), (0, 10, []), (0, 7, []), (0, 7, []), (5, 3, [none, some (some 13), some (some 14)]), (0, 24, []), (0, 24, []), (6, 3, [none, some (some 16), some (some 17)]), (0, 4, []), (0, 4, []), (10, 6, [none, some (some 19), some (some 20), some (some 21), some (some 22), some (some 23)]), (0, 10, []), (0, 10, []), (0, 10, []), (0, 7, []), (0, 7, []), (4, 9, [none, none, none, some (some 25), some (some 26), some (some 27), some (some 28), some (some 29), some (some 30)]), (0, 1024, []), (0, 1024, []), (0, 1024, []), (0, 1024, []), (0, 1024, []), (1, 1024, []), (9, 3, [none, some (some 32), some (some 33)]), (0, 1024, []), (0, 77, []), (13, 5, [some (some 35), some (some 36), none, some (some 37), some (some 38)]), (0, 1024, []), (0, 1024, []), (1, 1024, []), (1, 1024, []), (14, 4, [some (some 40), some (some 41), some (some 42), some (some 43)]), (0, 7, []), (0, 7, []), (0, 7, []), (0, 128, []), (11, 5, [none, none, none, some (some 45), some (some 46)]), (0, 40, []), (0, 7, []), (12, 2, [none, some (some 48)]), (0, 40, []), (3, 6, [some (some 61), some (some 63), some (some 65), some (some 67), some (some 69), some none]), (8, 7, [none, none, none, some (some 51), some (some 52), some (some 53), some (some 54)]), (0, 10, []), (0, 10, []), (0, 7, []), (0, 7, []), (5, 3, [none, some (some 56), some (some 57)]), (0, 24, []), (0, 24, []), (6, 3, [none, some (some 59), some (some 60)]), (0, 4, []), (0, 4, []), (7, 4, [none, none, none, some (some 62)]), (0, 20, []), (7, 4, [none, none, none, some (some 64)]), (0, 20, []), (7, 4, [none, none, none, some (some 66)]), (0, 20, []), (7, 4, [none, none, none, some (some 68)]), (0, 20, []), (7, 4, [none, none, none, some (some 70)]), (0, 20, []), (7, 4, [none, none, none, some none])] M ML [(15, 16, [some (some 2), some (some 7), some (some 12), some (some 15), some (some 18), some (some 24), some (some 31), some (some 34), some (some 39), some (some 44), some (some 47), some (some 49), some (some 50), some (some 55), some (some 58), none]), (8, 7, [none, none, none, some (some 3), some (some 4), some (some 5), some (some 6)]), (0, 10, []), (0, 10, []), (0, 7, []), (0, 7, []), (8, 7, [none, none, none, some (some 8), some (some 9), some (some 10), some (some 11)]), (0, 10, []), (0, 10, []), (0, 7, []), (0, 7, []), (5, 3, [none, some (some 13), some (some 14)]), (0, 24, []), (0, 24, []), (6, 3, [none, some (some 16), some (some 17)]), (0, 4, []), (0, 4, []), (10, 6, [none, some (some 19), some (some 20), some (some 21), some (some 22), some (some 23)]), (0, 10, []), (0, 10, []), (0, 10, []), (0, 7, []), (0, 7, []), (4, 9, [none, none, none, some (some 25), some (some 26), some (some 27), some (some 28), some (some 29), some (some 30)]), (0, 1024, []), (0, 1024, []), (0, 1024, []), (0, 1024, []), (0, 1024, []), (1, 1024, []), (9, 3, [none, some (some 32), some (some 33)]), (0, 1024, []), (0, 77, []), (13, 5, [some (some 35), some (some 36), none, some (some 37), some (some 38)]), (0, 1024, []), (0, 1024, []), (1, 1024, []), (1, 1024, []), (14, 4, [some (some 40), some (some 41), some (some 42), some (some 43)]), (0, 7, []), (0, 7, []), (0, 7, []), (0, 128, []), (11, 5, [none, none, none, some (some 45), some (some 46)]), (0, 40, []), (0, 7, []), (12, 2, [none, some (some 48)]), (0, 40, []), (3, 6, [some (some 61), some (some 63), some (some 65), some (some 67), some (some 69), some none]), (8, 7, [none, none, none, some (some 51), some (some 52), some (some 53), some (some 54)]), (0, 10, []), (0, 10, []), (0, 7, []), (0, 7, []), (5, 3, [none, some (some 56), some (some 57)]), (0, 24, []), (0, 24, []), (6, 3, [none, some (some 59), some (some 60)]), (0, 4, []), (0, 4, []), (7, 4, [none, none, none, some (some 62)]), (0, 20, []), (7, 4, [none, none, none, some (some 64)]), (0, 20, []), (7, 4, [none, none, none, some (some 66)]), (0, 20, []), (7, 4, [none, none, none, some (some 68)]), (0, 20, []), (7, 4, [none, none, none, some (some 70)]), (0, 20, []), (7, 4, [none, none, none, some (some 72)]), (0, 20, [])] (ZR 72) := by
  refine CE_in mi_X3_init rfl rfl rfl ⟨rfl, rfl⟩ ?_
  show CW _ cd_X3_init _ _ (0, [(0, .ref 71)], [], (_, M, ML))
  refine c_ld rfl rfl ?_
  refine c_oin rfl (by decide) ?_
  refine c_ld rfl rfl ?_
  refine c_cst (v := .int 20) rfl rfl ?_
  refine c_nwa (m := 72) (N := 20) rfl rfl (by decide) (by decide) rfl rfl rfl ?_
  refine c_putr rfl rfl rfl rfl rfl ?_
  refine c_ret rfl rfl ?_ rfl
  intro x h1 h2 h49 y
  rcases Nat.lt_or_ge x 71 with w | w
  · rw [clr_ne (by omega)]
    exact hZ x h1 (by omega) h49 y
  · have hx : x = 71 ∨ x = 72 := by omega
    rcases hx with rfl | rfl
    all_goals simp [clr, up2_at, iv, hA]

set_option maxHeartbeats 2000000 in
set_option maxRecDepth 10000 in
theorem new_X12_init_73 {d : Nat} {M : Mm} {ML : Ml} (hZ : ZR 72 M) (hA : ∀ y, M 73 y = 0) : CE (d + 1) k_X12_init [.ref 73] [(15, 16, [some (some 2), some (some 7), some (some 12), some (some 15), some (some 18), some (some 24), some (some 31), some (some 34), some (some 39), some (some 44), some (some 47), some (some 49), some (some 50), some (some 55), some (some 58), none]), (8, 7, [none, none, none, some (some 3), some (some 4), some (some 5), some (some 6)]), (0, 10, []), (0, 10, []), (0, 7, []), (0, 7, []), (8, 7, [none, none, none, some (some 8), some (some 9), some (some 10), some (some 11)]), (0, 10, []), (0, 10, []), (0, 7, []), (0, 7, []), (5, 3, [none, some (some 13), some (some 14)]), (0, 24, []), (0, 24, []), (6, 3, [none, some (some 16), some (some 17)]), (0, 4, []), (0, 4, []), (10, 6, [none, some (some 19), some (some 20), some (some 21), some (some 22), some (some 23)]), (0, 10, []), (0, 10, []), (0, 10, []), (0, 7, []), (0, 7, []), (4, 9, [none, none, none, some (some 25), some (some 26), some (some 27), some (some 28), some (some 29), some (some 30)]), (0, 1024, []), (0, 1024, []), (0, 1024, []), (0, 1024, []), (0, 1024, []), (1, 1024, []), (9, 3, [none, some (some 32), some (some 33)]), (0, 1024, []), (0, 77, []), (13, 5, [some (some 35), some (some 36), none, some (some 37), some (some 38)]), (0, 1024, []), (0, 1024, []), (1, 1024, []), (1, 1024, []), (14, 4, [some (some 40), some (some 41), some (some 42), some (some 43)]), (0, 7, []), (0, 7, []), (0, 7, []), (0, 128, []), (11, 5, [none, none, none, some (some 45), some (some 46)]), (0, 40, []), (0, 7, []), (12, 2, [none, some (some 48)]), (0, 40, []), (3, 6, [some (some 61), some (some 63), some (some 65), some (some 67), some (some 69), some (some 71)]), (8, 7, [none, none, none, some (some 51), some (some 52), some (some 53), some (some 54)]), (0, 10, []), (0, 10, []), (0, 7, []), (0, 7, []), (5, 3, [none, some (some 56), some (some 57)]), (0, 24, []), (0, 24, []), (6, 3, [none, some (some 59), some (some 60)]), (0, 4, []), (0, 4, []), (7, 4, [none, none, none, some (some 62)]), (0, 20, []), (7, 4, [none, none, none, some (some 64)]), (0, 20, []), (7, 4, [none, none, none, some (some 66)]), (0, 20, []), (7, 4, [none, none, none, some (some 68)]), (0, 20, []), (7, 4, [none, none, none, some (some 70)]), (0, 20, []), (7, 4, [none, none, none, some (some 72)]), (0, 20, []), (16, 41, [none, none, some none, some none, none, none, some none, some none, none, some none, some none, some none, none, some none, some none, some none, some none, some none, some none, none, some none, none, none, some none, some none, some none, some none, some none, some none, some none, some none, some none, some none, some none, none, none, none, some none, some none, none, some none])] M ML [(15, 16, [some (some 2), some (some 7), some (some 12), some (some 15), some (some 18), some (some 24), some (some 31), some (some 34), some (some 39), some (some 44), some (some 47), some (some 49), some (some 50), some (some 55), some (some 58), none]), (8, 7, [none, none, none, some (some 3), some (some 4), some (some 5), some (some 6)]), (0, 10, []), (0, 10, []), (0, 7, []), (0, 7, []), (8, 7, [none, none, none, some (some 8), some (some 9), some (some 10), some (some 11)]), (0, 10, []), (0, 10, []), (0, 7, []), (0, 7, []), (5, 3, [none, some (some 13), some (some 14)]), (0, 24, []), (0, 24, []), (6, 3, [none, some (some 16), some (some 17)]), (0, 4, []), (0, 4, []), (10, 6, [none, some (some 19), some (some 20), some (some 21), some (some 22), some (some 23)]), (0, 10, []), (0, 10, []), (0, 10, []), (0, 7, []), (0, 7, []), (4, 9, [none, none, none, some (some 25), some (some 26), some (some 27), some (some 28), some (some 29), some (some 30)]), (0, 1024, []), (0, 1024, []), (0, 1024, []), (0, 1024, []), (0, 1024, []), (1, 1024, []), (9, 3, [none, some (some 32), some (some 33)]), (0, 1024, []), (0, 77, []), (13, 5, [some (some 35), some (some 36), none, some (some 37), some (some 38)]), (0, 1024, []), (0, 1024, []), (1, 1024, []), (1, 1024, []), (14, 4, [some (some 40), some (some 41), some (some 42), some (some 43)]), (0, 7, []), (0, 7, []), (0, 7, []), (0, 128, []), (11, 5, [none, none, none, some (some 45), some (some 46)]), (0, 40, []), (0, 7, []), (12, 2, [none, some (some 48)]), (0, 40, []), (3, 6, [some (some 61), some (some 63), some (some 65), some (some 67), some (some 69), some (some 71)]), (8, 7, [none, none, none, some (some 51), some (some 52), some (some 53), some (some 54)]), (0, 10, []), (0, 10, []), (0, 7, []), (0, 7, []), (5, 3, [none, some (some 56), some (some 57)]), (0, 24, []), (0, 24, []), (6, 3, [none, some (some 59), some (some 60)]), (0, 4, []), (0, 4, []), (7, 4, [none, none, none, some (some 62)]), (0, 20, []), (7, 4, [none, none, none, some (some 64)]), (0, 20, []), (7, 4, [none, none, none, some (some 66)]), (0, 20, []), (7, 4, [none, none, none, some (some 68)]), (0, 20, []), (7, 4, [none, none, none, some (some 70)]), (0, 20, []), (7, 4, [none, none, none, some (some 72)]), (0, 20, []), (16, 41, [none, none, some (some 74), some (some 75), none, none, some (some 76), some (some 77), none, some (some 78), some (some 79), some (some 80), none, some (some 81), some (some 82), some (some 83), some (some 84), some (some 85), some (some 86), none, some (some 87), none, none, some (some 88), some (some 89), some (some 90), some (some 91), some (some 92), some (some 93), some (some 94), some (some 95), some (some 96), some (some 97), some (some 98), none, none, none, some (some 99), some (some 100), none, some (some 101)]), (0, 10, []), (0, 10, []), (0, 24, []), (0, 24, []), (0, 4, []), (0, 4, []), (0, 40, []), (0, 6, []), (0, 6, []), (0, 6, []), (0, 120, []), (2, 10, []), (0, 7, []), (0, 7, []), (0, 1024, []), (0, 1024, []), (0, 1024, []), (1, 1024, []), (0, 1024, []), (0, 1024, []), (1, 1024, []), (1, 1024, []), (0, 128, []), (0, 7, []), (0, 40, []), (0, 10, []), (0, 10, []), (0, 81, [])] (ZR 101) := by
  refine CE_in mi_X12_init rfl rfl rfl ⟨rfl, rfl⟩ ?_
  show CW _ cd_X12_init _ _ (0, [(0, .ref 73)], [], (_, M, ML))
  refine c_ld rfl rfl ?_
  refine c_oin rfl (by decide) ?_
  refine c_ld rfl rfl ?_
  refine c_cst (v := .int 4) rfl rfl ?_
  refine c_put rfl rfl rfl rfl (Or.inl rfl) ?_
  refine c_ld rfl rfl ?_
  refine c_cst (v := .int 10) rfl rfl ?_
  refine c_nwa (m := 74) (N := 10) rfl rfl (by decide) (by decide) rfl rfl rfl ?_
  refine c_putr rfl rfl rfl rfl rfl ?_
  refine c_ld rfl rfl ?_
  refine c_cst (v := .int 10) rfl rfl ?_
  refine c_nwa (m := 75) (N := 10) rfl rfl (by decide) (by decide) rfl rfl rfl ?_
  refine c_putr rfl rfl rfl rfl rfl ?_
  refine c_ld rfl rfl ?_
  refine c_cst (v := .int 24) rfl rfl ?_
  refine c_nwa (m := 76) (N := 24) rfl rfl (by decide) (by decide) rfl rfl rfl ?_
  refine c_putr rfl rfl rfl rfl rfl ?_
  refine c_ld rfl rfl ?_
  refine c_cst (v := .int 24) rfl rfl ?_
  refine c_nwa (m := 77) (N := 24) rfl rfl (by decide) (by decide) rfl rfl rfl ?_
  refine c_putr rfl rfl rfl rfl rfl ?_
  refine c_ld rfl rfl ?_
  refine c_cst (v := .int 4) rfl rfl ?_
  refine c_nwa (m := 78) (N := 4) rfl rfl (by decide) (by decide) rfl rfl rfl ?_
  refine c_putr rfl rfl rfl rfl rfl ?_
  refine c_ld rfl rfl ?_
  refine c_cst (v := .int 4) rfl rfl ?_
  refine c_nwa (m := 79) (N := 4) rfl rfl (by decide) (by decide) rfl rfl rfl ?_
  refine c_putr rfl rfl rfl rfl rfl ?_
  refine c_ld rfl rfl ?_
  refine c_cst (v := .int 40) rfl rfl ?_
  refine c_nwa (m := 80) (N := 40) rfl rfl (by decide) (by decide) rfl rfl rfl ?_
  refine c_putr rfl rfl rfl rfl rfl ?_
  refine c_ld rfl rfl ?_
  refine c_cst (v := .int 6) rfl rfl ?_
  refine c_nwa (m := 81) (N := 6) rfl rfl (by decide) (by decide) rfl rfl rfl ?_
  refine c_putr rfl rfl rfl rfl rfl ?_
  refine c_ld rfl rfl ?_
  refine c_cst (v := .int 6) rfl rfl ?_
  refine c_nwa (m := 82) (N := 6) rfl rfl (by decide) (by decide) rfl rfl rfl ?_
  refine c_putr rfl rfl rfl rfl rfl ?_
  refine c_ld rfl rfl ?_
  refine c_cst (v := .int 6) rfl rfl ?_
  refine c_nwa (m := 83) (N := 6) rfl rfl (by decide) (by decide) rfl rfl rfl ?_
  refine c_putr rfl rfl rfl rfl rfl ?_
  refine c_ld rfl rfl ?_
  refine c_cst (v := .int 120) rfl rfl ?_
  refine c_nwa (m := 84) (N := 120) rfl rfl (by decide) (by decide) rfl rfl rfl ?_
  refine c_putr rfl rfl rfl rfl rfl ?_
  refine c_ld rfl rfl ?_
  refine c_cst (v := .int 10) rfl rfl ?_
  refine c_nwa (m := 85) (N := 10) rfl rfl (by decide) (by decide) rfl rfl rfl ?_
  refine c_putr rfl rfl rfl rfl rfl ?_
  refine c_ld rfl rfl ?_
  refine c_cst (v := .int 7) rfl rfl ?_
  refine c_nwa (m := 86) (N := 7) rfl rfl (by decide) (by decide) rfl rfl rfl ?_
  refine c_putr rfl rfl rfl rfl rfl ?_
  refine c_ld rfl rfl ?_
  refine c_cst (v := .int 7) rfl rfl ?_
  refine c_nwa (m := 87) (N := 7) rfl rfl (by decide) (by decide) rfl rfl rfl ?_
  refine c_putr rfl rfl rfl rfl rfl ?_
  refine c_ld rfl rfl ?_
  refine c_cst (v := .int 1024) rfl rfl ?_
  refine c_nwa (m := 88) (N := 1024) rfl rfl (by decide) (by decide) rfl rfl rfl ?_
  refine c_putr rfl rfl rfl rfl rfl ?_
  refine c_ld rfl rfl ?_
  refine c_cst (v := .int 1024) rfl rfl ?_
  refine c_nwa (m := 89) (N := 1024) rfl rfl (by decide) (by decide) rfl rfl rfl ?_
  refine c_putr rfl rfl rfl rfl rfl ?_
  refine c_ld rfl rfl ?_
  refine c_cst (v := .int 1024) rfl rfl ?_
  refine c_nwa (m := 90) (N := 1024) rfl rfl (by decide) (by decide) rfl rfl rfl ?_
  refine c_putr rfl rfl rfl rfl rfl ?_
  refine c_ld rfl rfl ?_
  refine c_cst (v := .int 1024) rfl rfl ?_
  refine c_nwa (m := 91) (N := 1024) rfl rfl (by decide) (by decide) rfl rfl rfl ?_
  refine c_putr rfl rfl rfl rfl rfl ?_
  refine c_ld rfl rfl ?_
  refine c_cst (v := .int 1024) rfl rfl ?_
  refine c_nwa (m := 92) (N := 1024) rfl rfl (by decide) (by decide) rfl rfl rfl ?_
  refine c_putr rfl rfl rfl rfl rfl ?_
  refine c_ld rfl rfl ?_
  refine c_cst (v := .int 1024) rfl rfl ?_
  refine c_nwa (m := 93) (N := 1024) rfl rfl (by decide) (by decide) rfl rfl rfl ?_
  refine c_putr rfl rfl rfl rfl rfl ?_
  refine c_ld rfl rfl ?_
  refine c_cst (v := .int 1024) rfl rfl ?_
  refine c_nwa (m := 94) (N := 1024) rfl rfl (by decide) (by decide) rfl rfl rfl ?_
  refine c_putr rfl rfl rfl rfl rfl ?_
  refine c_ld rfl rfl ?_
  refine c_cst (v := .int 1024) rfl rfl ?_
  refine c_nwa (m := 95) (N := 1024) rfl rfl (by decide) (by decide) rfl rfl rfl ?_
  refine c_putr rfl rfl rfl rfl rfl ?_
  refine c_ld rfl rfl ?_
  refine c_cst (v := .int 128) rfl rfl ?_
  refine c_nwa (m := 96) (N := 128) rfl rfl (by decide) (by decide) rfl rfl rfl ?_
  refine c_putr rfl rfl rfl rfl rfl ?_
  refine c_ld rfl rfl ?_
  refine c_cst (v := .int 7) rfl rfl ?_
  refine c_nwa (m := 97) (N := 7) rfl rfl (by decide) (by decide) rfl rfl rfl ?_
  refine c_putr rfl rfl rfl rfl rfl ?_
  refine c_ld rfl rfl ?_
  refine c_cst (v := .int 40) rfl rfl ?_
  refine c_nwa (m := 98) (N := 40) rfl rfl (by decide) (by decide) rfl rfl rfl ?_
  refine c_putr rfl rfl rfl rfl rfl ?_
  refine c_ld rfl rfl ?_
  refine c_cst (v := .int 10) rfl rfl ?_
  refine c_nwa (m := 99) (N := 10) rfl rfl (by decide) (by decide) rfl rfl rfl ?_
  refine c_putr rfl rfl rfl rfl rfl ?_
  refine c_ld rfl rfl ?_
  refine c_cst (v := .int 10) rfl rfl ?_
  refine c_nwa (m := 100) (N := 10) rfl rfl (by decide) (by decide) rfl rfl rfl ?_
  refine c_putr rfl rfl rfl rfl rfl ?_
  refine c_ld rfl rfl ?_
  refine c_cst (v := .int 81) rfl rfl ?_
  refine c_nwa (m := 101) (N := 81) rfl rfl (by decide) (by decide) rfl rfl rfl ?_
  refine c_putr rfl rfl rfl rfl rfl ?_
  refine c_ret rfl rfl ?_ rfl
  intro x h1 h2 h49 y
  rcases Nat.lt_or_ge x 73 with w | w
  · rw [clr_ne (by omega), clr_ne (by omega), clr_ne (by omega), clr_ne (by omega), clr_ne (by omega), clr_ne (by omega), clr_ne (by omega), clr_ne (by omega), clr_ne (by omega), clr_ne (by omega), clr_ne (by omega), clr_ne (by omega), clr_ne (by omega), clr_ne (by omega), clr_ne (by omega), clr_ne (by omega), clr_ne (by omega), clr_ne (by omega), clr_ne (by omega), clr_ne (by omega), clr_ne (by omega), clr_ne (by omega), clr_ne (by omega), clr_ne (by omega), clr_ne (by omega), clr_ne (by omega), clr_ne (by omega), clr_ne (by omega), up2_row (by omega)]
    exact hZ x h1 (by omega) h49 y
  · have hx : x = 73 ∨ x = 74 ∨ x = 75 ∨ x = 76 ∨ x = 77 ∨ x = 78 ∨ x = 79 ∨ x = 80 ∨ x = 81 ∨ x = 82 ∨ x = 83 ∨ x = 84 ∨ x = 85 ∨ x = 86 ∨ x = 87 ∨ x = 88 ∨ x = 89 ∨ x = 90 ∨ x = 91 ∨ x = 92 ∨ x = 93 ∨ x = 94 ∨ x = 95 ∨ x = 96 ∨ x = 97 ∨ x = 98 ∨ x = 99 ∨ x = 100 ∨ x = 101 := by omega
    rcases hx with rfl | rfl | rfl | rfl | rfl | rfl | rfl | rfl | rfl | rfl | rfl | rfl | rfl | rfl | rfl | rfl | rfl | rfl | rfl | rfl | rfl | rfl | rfl | rfl | rfl | rfl | rfl | rfl | rfl
    all_goals simp [clr, up2_at, iv, hA]

