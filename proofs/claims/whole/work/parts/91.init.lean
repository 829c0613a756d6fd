/-! ===== the constructors ===== -/
/-- a constructor's state comes to the shape sh2 with P of the ints -/
def CW (d : Nat) (cd : Cd) (sh2 : List SC) (P : Mm → Prop) (st : St) : Prop := ∃ M2 ML2, P M2 ∧ RR d cd false (none, (sh2, M2, ML2)) st
def CE (d k : Nat) (as : List Value) (sh : List SC) (M : Mm) (ML : Ml) (sh2 : List SC) (P : Mm → Prop) : Prop := ∃ M2 ML2, P M2 ∧ Ex d k as (sh, M, ML) (none, (sh2, M2, ML2))
section CQ
variable {d : Nat} {cd : Cd} {sh2 : List SC} {P : Mm → Prop}
theorem CW_lift {st st' : St} (f : ∀ res, RR d cd false res st' → RR d cd false res st) (h : CW d cd sh2 P st') : CW d cd sh2 P st := by
  obtain ⟨M', ML', hp, hr⟩ := h
  exact ⟨M', ML', hp, f _ hr⟩
theorem c_ld {pc L st w ins nx a b c z v} (h0 : lk cd pc = some (ins, nx, a, b, c, z)) (h1 : ldv ins L = some v) (h2 : CW d cd sh2 P (nx, L, v :: st, w)) : CW d cd sh2 P (pc, L, st, w) := CW_lift (fun _ h9 => r_ld h0 h1 h9) h2
theorem c_cst {pc L st w ins nx a b c z v} (h0 : lk cd pc = some (ins, nx, a, b, c, z)) (h1 : cst ins = some v) (h2 : CW d cd sh2 P (nx, L, v :: st, w)) : CW d cd sh2 P (pc, L, st, w) := CW_lift (fun _ h9 => r_cst h0 h1 h9) h2
theorem c_oin {pc L st w i nx b c z r} (h0 : lk cd pc = some (.invokespecial i, nx, 999, b, c, z)) (h1 : (st.map fun v => v.category).sum ≤ 8) (h2 : CW d cd sh2 P (nx, L, st, w)) : CW d cd sh2 P (pc, L, .ref (r + 1) :: st, w) := CW_lift (fun _ h9 => r_oin h0 h1 h9) h2
theorem c_put {pc L st sh M ML i f n fs nx k b z v} (h0 : lk cd pc = some (.putfield f, nx, k, b, 0, z)) (h1 : sh[i]? = some (b + 4, n, fs)) (h2 : Nat.blt k n = true) (h3 : fs[k]? = some none) (h4 : zf b k = false ∨ v = 0 ∨ v = 1) (h5 : CW d cd sh2 P (nx, L, st, (sh, up2 M (i + 1) k v, ML))) : CW d cd sh2 P (pc, L, .int v :: .ref (i + 1) :: st, (sh, M, ML)) := CW_lift (fun _ h9 => r_put h0 h1 h2 h3 h4 h9) h5
theorem c_putr {pc L st sh sh' M ML i f n fs nx k b z r r0} (h0 : lk cd pc = some (.putfield f, nx, k, b, 1, z)) (h1 : sh[i]? = some (b + 4, n, fs)) (h2 : Nat.blt k n = true) (h3 : fs[k]? = some (some r0)) (h4 : sh.set i (b + 4, n, fs.set k (some (some r))) = sh') (h5 : CW d cd sh2 P (nx, L, st, (sh', M, ML))) : CW d cd sh2 P (pc, L, .ref r :: .ref (i + 1) :: st, (sh, M, ML)) := by
  subst h4
  exact CW_lift (fun _ h9 => r_putr h0 h1 h2 h3 h9) h5
theorem c_nwa {pc L st sh sh' M ML t t' nx a b c z n N m} (h0 : lk cd pc = some (.newarray t, nx, a, b, c, z)) (h1 : nat_ t = some t') (h2 : ¬ n < 0) (h3 : n.toNatClampNeg = N) (h4 : Nat.ble N 1000000 = true) (hm : sh.length + 1 = m) (hs : sh ++ [(t', N, [])] = sh') (h5 : CW d cd sh2 P (nx, L, .ref m :: st, (sh', clr M m, clrL ML m))) : CW d cd sh2 P (pc, L, .int n :: st, (sh, M, ML)) := by
  subst hm hs
  exact CW_lift (fun _ h9 => r_nwa h0 h1 h2 h3 h4 h9) h5
theorem c_ret {pc L sh M ML ins nx a b c z} (h0 : lk cd pc = some (ins, nx, a, b, c, z)) (h1 : retv ins [] = some none) (hp : P M) (hs : sh = sh2) : CW d cd sh2 P (pc, L, [], (sh, M, ML)) := by
  subst hs
  exact ⟨M, ML, hp, r_ret h0 h1 trivial rfl⟩
theorem CE_in {k : Nat} {as : List Value} {sh : List SC} {M : Mm} {ML : Ml} (t : MI) (h : MTl[k]? = some t) (hb : isB (i_r t) = false) (h2 : Nat.ble (lg_sl as).length (i_L t) = true) (h3 : Nat.ble sh.length sh2.length = true ∧ Nat.ble ((sh.map (fun c => c.2.1)).sum) ((sh2.map (fun c => c.2.1)).sum) = true) (h4 : CW d (i_c t) sh2 P (0, lv_args 0 as, [], (sh, M, ML))) : CE (d + 1) k as sh M ML sh2 P := by
  obtain ⟨M', ML', hp, hr⟩ := h4
  exact ⟨M', ML', hp, Ex_in t h h2 ⟨Nat.le_of_ble_eq_true h3.1, Nat.le_of_ble_eq_true h3.2⟩ (hb ▸ hr)⟩
end CQ
/-- what the rows hold when they are new -/
def iv (x y : Nat) : Int32 := if x = 35 ∧ y < 1024 then -1 else if y = 0 ∧ (x = 2 ∨ x = 7 ∨ x = 50 ∨ x = 73) then 4 else 0
def ZR (n : Nat) (M : Mm) : Prop := ∀ x, 1 ≤ x → x ≤ n → ∀ y, M x y = iv x y

set_option maxHeartbeats 2000000 in
set_option maxRecDepth 10000 in
theorem new_X4_init_2 {d : Nat} {M : Mm} {ML : Ml} (hZ : ZR 1 M) (hA : ∀ y, M 2 y = 0) : CE (d + 1) k_X4_init [.ref 2] [(15, 16, [some none, some none, some none, some none, some none, some none, some none, some none, some none, some none, some none, some none, some none, some none, some none, none]), (8, 7, [none, none, none, some none, some none, some none, some none])] M ML [(15, 16, [some none, some none, some none, some none, some none, some none, some none, some none, some none, some none, some none, some none, some none, some none, some none, none]), (8, 7, [none, none, none, some (some 3), some (some 4), some (some 5), some (some 6)]), (0, 10, []), (0, 10, []), (0, 7, []), (0, 7, [])] (ZR 6) := by
  refine CE_in mi_X4_init rfl rfl rfl ⟨rfl, rfl⟩ ?_
  show CW _ cd_X4_init _ _ (0, [(0, .ref 2)], [], (_, M, ML))
  refine c_ld rfl rfl ?_
  refine c_oin rfl (by decide) ?_
  refine c_ld rfl rfl ?_
  refine c_cst (v := .int 4) rfl rfl ?_
  refine c_put rfl rfl rfl rfl (Or.inl rfl) ?_
  refine c_ld rfl rfl ?_
  refine c_cst (v := .int 10) rfl rfl ?_
  refine c_nwa (m := 3) (N := 10) rfl rfl (by decide) (by decide) rfl rfl rfl ?_
  refine c_putr rfl rfl rfl rfl rfl ?_
  refine c_ld rfl rfl ?_
  refine c_cst (v := .int 10) rfl rfl ?_
  refine c_nwa (m := 4) (N := 10) rfl rfl (by decide) (by decide) rfl rfl rfl ?_
  refine c_putr rfl rfl rfl rfl rfl ?_
  refine c_ld rfl rfl ?_
  refine c_cst (v := .int 7) rfl rfl ?_
  refine c_nwa (m := 5) (N := 7) rfl rfl (by decide) (by decide) rfl rfl rfl ?_
  refine c_putr rfl rfl rfl rfl rfl ?_
  refine c_ld rfl rfl ?_
  refine c_cst (v := .int 7) rfl rfl ?_
  refine c_nwa (m := 6) (N := 7) rfl rfl (by decide) (by decide) rfl rfl rfl ?_
  refine c_putr rfl rfl rfl rfl rfl ?_
  refine c_ret rfl rfl ?_ rfl
  intro x h1 h2 y
  rcases Nat.lt_or_ge x 2 with w | w
  · rw [clr_ne (by omega), clr_ne (by omega), clr_ne (by omega), clr_ne (by omega), up2_row (by omega)]
    exact hZ x h1 (by omega) y
  · have hx : x = 2 ∨ x = 3 ∨ x = 4 ∨ x = 5 ∨ x = 6 := by omega
    rcases hx with rfl | rfl | rfl | rfl | rfl
    all_goals simp [clr, up2_at, iv, hA]

set_option maxHeartbeats 2000000 in
set_option maxRecDepth 10000 in
theorem new_X4_init_7 {d : Nat} {M : Mm} {ML : Ml} (hZ : ZR 6 M) (hA : ∀ y, M 7 y = 0) : CE (d + 1) k_X4_init [.ref 7] [(15, 16, [some (some 2), some none, some none, some none, some none, some none, some none, some none, some none, some none, some none, some none, some none, some none, some none, none]), (8, 7, [none, none, none, some (some 3), some (some 4), some (some 5), some (some 6)]), (0, 10, []), (0, 10, []), (0, 7, []), (0, 7, []), (8, 7, [none, none, none, some none, some none, some none, some none])] M ML [(15, 16, [some (some 2), some none, some none, some none, some none, some none, some none, some none, some none, some none, some none, some none, some none, some none, some none, none]), (8, 7, [none, none, none, some (some 3), some (some 4), some (some 5), some (some 6)]), (0, 10, []), (0, 10, []), (0, 7, []), (0, 7, []), (8, 7, [none, none, none, some (some 8), some (some 9), some (some 10), some (some 11)]), (0, 10, []), (0, 10, []), (0, 7, []), (0, 7, [])] (ZR 11) := by
  refine CE_in mi_X4_init rfl rfl rfl ⟨rfl, rfl⟩ ?_
  show CW _ cd_X4_init _ _ (0, [(0, .ref 7)], [], (_, M, ML))
  refine c_ld rfl rfl ?_
  refine c_oin rfl (by decide) ?_
  refine c_ld rfl rfl ?_
  refine c_cst (v := .int 4) rfl rfl ?_
  refine c_put rfl rfl rfl rfl (Or.inl rfl) ?_
  refine c_ld rfl rfl ?_
  refine c_cst (v := .int 10) rfl rfl ?_
  refine c_nwa (m := 8) (N := 10) rfl rfl (by decide) (by decide) rfl rfl rfl ?_
  refine c_putr rfl rfl rfl rfl rfl ?_
  refine c_ld rfl rfl ?_
  refine c_cst (v := .int 10) rfl rfl ?_
  refine c_nwa (m := 9) (N := 10) rfl rfl (by decide) (by decide) rfl rfl rfl ?_
  refine c_putr rfl rfl rfl rfl rfl ?_
  refine c_ld rfl rfl ?_
  refine c_cst (v := .int 7) rfl rfl ?_
  refine c_nwa (m := 10) (N := 7) rfl rfl (by decide) (by decide) rfl rfl rfl ?_
  refine c_putr rfl rfl rfl rfl rfl ?_
  refine c_ld rfl rfl ?_
  refine c_cst (v := .int 7) rfl rfl ?_
  refine c_nwa (m := 11) (N := 7) rfl rfl (by decide) (by decide) rfl rfl rfl ?_
  refine c_putr rfl rfl rfl rfl rfl ?_
  refine c_ret rfl rfl ?_ rfl
  intro x h1 h2 y
  rcases Nat.lt_or_ge x 7 with w | w
  · rw [clr_ne (by omega), clr_ne (by omega), clr_ne (by omega), clr_ne (by omega), up2_row (by omega)]
    exact hZ x h1 (by omega) y
  · have hx : x = 7 ∨ x = 8 ∨ x = 9 ∨ x = 10 ∨ x = 11 := by omega
    rcases hx with rfl | rfl | rfl | rfl | rfl
    all_goals simp [clr, up2_at, iv, hA]

set_option maxHeartbeats 2000000 in
set_option maxRecDepth 10000 in
theorem new_X1_init_12 {d : Nat} {M : Mm} {ML : Ml} (hZ : ZR 11 M) (hA : ∀ y, M 12 y = 0) : CE (d + 1) k_X1_init [.ref 12] [(15, 16, [some (some 2), some (some 7), some none, some none, some none, some none, some none, some none, some none, some none, some none, some none, some none, some none, some none, none]), (8, 7, [none, none, none, some (some 3), some (some 4), some (some 5), some (some 6)]), (0, 10, []), (0, 10, []), (0, 7, []), (0, 7, []), (8, 7, [none, none, none, some (some 8), some (some 9), some (some 10), some (some 11)]), (0, 10, []), (0, 10, []), (0, 7, []), (0, 7, []), (5, 3, [none, some none, some none])] M ML [(15, 16, [some (some 2), some (some 7), some none, some none, some none, some none, some none, some none, some none, some none, some none, some none, some none, some none, some none, none]), (8, 7, [none, none, none, some (some 3), some (some 4), some (some 5), some (some 6)]), (0, 10, []), (0, 10, []), (0, 7, []), (0, 7, []), (8, 7, [none, none, none, some (some 8), some (some 9), some (some 10), some (some 11)]), (0, 10, []), (0, 10, []), (0, 7, []), (0, 7, []), (5, 3, [none, some (some 13), some (some 14)]), (0, 24, []), (0, 24, [])] (ZR 14) := by
  refine CE_in mi_X1_init rfl rfl rfl ⟨rfl, rfl⟩ ?_
  show CW _ cd_X1_init _ _ (0, [(0, .ref 12)], [], (_, M, ML))
  refine c_ld rfl rfl ?_
  refine c_oin rfl (by decide) ?_
  refine c_ld rfl rfl ?_
  refine c_cst (v := .int 24) rfl rfl ?_
  refine c_nwa (m := 13) (N := 24) rfl rfl (by decide) (by decide) rfl rfl rfl ?_
  refine c_putr rfl rfl rfl rfl rfl ?_
  refine c_ld rfl rfl ?_
  refine c_cst (v := .int 24) rfl rfl ?_
  refine c_nwa (m := 14) (N := 24) rfl rfl (by decide) (by decide) rfl rfl rfl ?_
  refine c_putr rfl rfl rfl rfl rfl ?_
  refine c_ret rfl rfl ?_ rfl
  intro x h1 h2 y
  rcases Nat.lt_or_ge x 12 with w | w
  · rw [clr_ne (by omega), clr_ne (by omega)]
    exact hZ x h1 (by omega) y
  · have hx : x = 12 ∨ x = 13 ∨ x = 14 := by omega
    rcases hx with rfl | rfl | rfl
    all_goals simp [clr, up2_at, iv, hA]

