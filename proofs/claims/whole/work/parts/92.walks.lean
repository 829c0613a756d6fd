/-! ===== the constructor with a loop: Walks ===== -/
section CQ2
variable {d : Nat} {cd : Cd} {sh2 : List SC} {P : Mm → Prop}
theorem c_sto {pc L L' st w ins nx a b c z v} (h0 : lk cd pc = some (ins, nx, a, b, c, z)) (h1 : stv ins v L = some L') (h2 : CW d cd sh2 P (nx, L', st, w)) : CW d cd sh2 P (pc, L, v :: st, w) := CW_lift (fun _ h9 => r_sto h0 h1 h9) h2
theorem c_get {pc L st sh M ML i f n fs nx k b c z r} (h0 : lk cd pc = some (.getfield f, nx, k, b, c, z)) (h1 : sh[i]? = some (b + 4, n, fs)) (h2 : Nat.blt k n = true) (h3 : fs[k]? = some (some (some r))) (h4 : CW d cd sh2 P (nx, L, .ref r :: st, (sh, M, ML))) : CW d cd sh2 P (pc, L, .ref (i + 1) :: st, (sh, M, ML)) := CW_lift (fun _ h9 => r_get h0 h1 h2 h3 h9) h4
theorem c_len {pc L st sh M ML i t n fs nx a b c z} (h0 : lk cd pc = some (.arraylength, nx, a, b, c, z)) (h1 : sh[i]? = some (t, n, fs)) (h2 : Nat.blt t 4 = true) (h3 : CW d cd sh2 P (nx, L, .int (nI n) :: st, (sh, M, ML))) : CW d cd sh2 P (pc, L, .ref (i + 1) :: st, (sh, M, ML)) := CW_lift (fun _ h9 => r_len h0 h1 h2 h9) h3
theorem c_cjT {pc L st st' w ins nx a b c z q} (h0 : lk cd pc = some (ins, nx, a, b, c, z)) (h1 : cj ins st = some (q, st')) (hq : q) (h2 : CW d cd sh2 P (a, L, st', w)) : CW d cd sh2 P (pc, L, st, w) := CW_lift (fun _ h9 => r_cj h0 h1 (fun _ => h9) (fun h => absurd hq h)) h2
theorem c_cjF {pc L st st' w ins nx a b c z q} (h0 : lk cd pc = some (ins, nx, a, b, c, z)) (h1 : cj ins st = some (q, st')) (hq : ¬ q) (h2 : CW d cd sh2 P (nx, L, st', w)) : CW d cd sh2 P (pc, L, st, w) := CW_lift (fun _ h9 => r_cj h0 h1 (fun h => absurd h hq) (fun _ => h9)) h2
theorem c_go {pc L st w i nx a b c z} (h0 : lk cd pc = some (.goto i, nx, a, b, c, z)) (h1 : CW d cd sh2 P (a, L, st, w)) : CW d cd sh2 P (pc, L, st, w) := CW_lift (fun _ h9 => r_go h0 h9) h1
theorem c_inc {pc L L' st w i n nx a b c z x} (h0 : lk cd pc = some (.iinc i n, nx, a, b, c, z)) (h1 : lkL L i = some (.int x)) (h2 : put1 i (.int (x + Int32.ofInt n)) L = L') (h3 : CW d cd sh2 P (nx, L', st, w)) : CW d cd sh2 P (pc, L, st, w) := by
  subst h2
  exact CW_lift (fun _ h9 => r_inc h0 h1 h9) h3
theorem c_iast {pc L st sh M ML i n fs nx a b c z j v k} (h0 : lk cd pc = some (.iastore, nx, a, b, c, z)) (h1 : sh[i]? = some (0, n, fs)) (hj : j = nI k) (hk : k < n) (hn : n < 2 ^ 31) (h5 : CW d cd sh2 P (nx, L, st, (sh, up2 M (i + 1) k v, ML))) : CW d cd sh2 P (pc, L, .int v :: .int j :: .ref (i + 1) :: st, (sh, M, ML)) := by
  subst hj
  refine CW_lift (fun _ h9 => r_ast (MM := (up2 M (i + 1) k v, ML)) h0 h1 ?_ (vp_in_nI hk hn) h9) h5
  show some (up2 M (i + 1) (nI k).toNatClampNeg v, ML) = _
  rw [nI_clamp (by omega)]
end CQ2

def SW38 : List SC := [(15, 16, [some (some 2), some (some 7), some (some 12), some (some 15), some (some 18), some (some 24), some (some 31), some none, some none, some none, some none, some none, some none, some none, some none, none]), (8, 7, [none, none, none, some (some 3), some (some 4), some (some 5), some (some 6)]), (0, 10, []), (0, 10, []), (0, 7, []), (0, 7, []), (8, 7, [none, none, none, some (some 8), some (some 9), some (some 10), some (some 11)]), (0, 10, []), (0, 10, []), (0, 7, []), (0, 7, []), (5, 3, [none, some (some 13), some (some 14)]), (0, 24, []), (0, 24, []), (6, 3, [none, some (some 16), some (some 17)]), (0, 4, []), (0, 4, []), (10, 6, [none, some (some 19), some (some 20), some (some 21), some (some 22), some (some 23)]), (0, 10, []), (0, 10, []), (0, 10, []), (0, 7, []), (0, 7, []), (4, 9, [none, none, none, some (some 25), some (some 26), some (some 27), some (some 28), some (some 29), some (some 30)]), (0, 1024, []), (0, 1024, []), (0, 1024, []), (0, 1024, []), (0, 1024, []), (1, 1024, []), (9, 3, [none, some (some 32), some (some 33)]), (0, 1024, []), (0, 77, []), (13, 5, [some (some 35), some (some 36), none, some (some 37), some (some 38)]), (0, 1024, []), (0, 1024, []), (1, 1024, []), (1, 1024, [])]
def ZL (i : Nat) (M : Mm) : Prop := ∀ x, 1 ≤ x → x ≤ 38 → ∀ y, M x y = if x = 35 then (if y < i then -1 else 0) else iv x y

set_option maxHeartbeats 2000000 in
set_option maxRecDepth 10000 in
theorem new_X9_lp {d : Nat} {ML : Ml} : ∀ i, i ≤ 1024 → ∀ M, ZL i M → CW d cd_X9_init SW38 (ZR 38) (42, [(0, .ref 34), (1, .int (nI i))], [], (SW38, M, ML)) := by
  refine up_ind fun i hi ih => ?_
  intro M hM
  refine c_ld rfl rfl ?_
  refine c_ld rfl rfl ?_
  refine c_get rfl rfl rfl rfl ?_
  refine c_len rfl rfl rfl ?_
  by_cases h : i < 1024
  · refine c_cjF rfl rfl (fun q => absurd (nle (a := 1024) (by decide) (by omega) q) (by omega)) ?_
    refine c_ld rfl rfl ?_
    refine c_get rfl rfl rfl rfl ?_
    refine c_ld rfl rfl ?_
    refine c_cst (v := .int (-1)) rfl rfl ?_
    refine c_iast rfl rfl rfl h (by decide) ?_
    refine c_inc (L' := [(0, .ref 34), (1, .int (nI i + 1))]) rfl rfl rfl ?_
    refine c_go rfl ?_
    rw [nI_1]
    refine ih h _ (fun x h1 h2 y => ?_)
    rw [up2_at]
    have w := hM x h1 h2 y
    by_cases c : x = 35
    · subst c
      rw [if_pos rfl] at w ⊢
      by_cases c2 : y = i
      · rw [if_pos ⟨rfl, c2⟩, if_pos (by omega)]
      · rw [if_neg (fun q => c2 q.2), w]
        by_cases c3 : y < i
        · rw [if_pos c3, if_pos (by omega)]
        · rw [if_neg c3, if_neg (by omega)]
    · rw [if_neg (fun q => c q.1), if_neg c]
      rw [if_neg c] at w
      exact w
  · have h9 : i = 1024 := by omega
    subst h9
    refine c_cjT rfl rfl (nI_le (Nat.le_refl _) (by decide)) ?_
    refine c_ret rfl rfl (fun x h1 h2 _ y => ?_) rfl
    rw [hM x h1 h2 y]
    by_cases c : x = 35
    · rw [if_pos c]
      unfold iv
      by_cases c3 : y < 1024
      · rw [if_pos c3, if_pos ⟨c, c3⟩]
      · rw [if_neg c3, if_neg (fun q => c3 q.2), if_neg (by omega)]
    · rw [if_neg c]

set_option maxHeartbeats 2000000 in
set_option maxRecDepth 10000 in
theorem new_X9_34 {d : Nat} {M : Mm} {ML : Ml} (hZ : ZR 33 M) (hA : ∀ y, M 34 y = 0) : CE (d + 1) k_X9_init [.ref 34] [(15, 16, [some (some 2), some (some 7), some (some 12), some (some 15), some (some 18), some (some 24), some (some 31), some none, some none, some none, some none, some none, some none, some none, some none, none]), (8, 7, [none, none, none, some (some 3), some (some 4), some (some 5), some (some 6)]), (0, 10, []), (0, 10, []), (0, 7, []), (0, 7, []), (8, 7, [none, none, none, some (some 8), some (some 9), some (some 10), some (some 11)]), (0, 10, []), (0, 10, []), (0, 7, []), (0, 7, []), (5, 3, [none, some (some 13), some (some 14)]), (0, 24, []), (0, 24, []), (6, 3, [none, some (some 16), some (some 17)]), (0, 4, []), (0, 4, []), (10, 6, [none, some (some 19), some (some 20), some (some 21), some (some 22), some (some 23)]), (0, 10, []), (0, 10, []), (0, 10, []), (0, 7, []), (0, 7, []), (4, 9, [none, none, none, some (some 25), some (some 26), some (some 27), some (some 28), some (some 29), some (some 30)]), (0, 1024, []), (0, 1024, []), (0, 1024, []), (0, 1024, []), (0, 1024, []), (1, 1024, []), (9, 3, [none, some (some 32), some (some 33)]), (0, 1024, []), (0, 77, []), (13, 5, [some none, some none, none, some none, some none])] M ML SW38 (ZR 38) := by
  refine CE_in mi_X9_init rfl rfl rfl ⟨rfl, rfl⟩ ?_
  show CW _ cd_X9_init _ _ (0, [(0, .ref 34)], [], (_, M, ML))
  refine c_ld rfl rfl ?_
  refine c_oin rfl (by decide) ?_
  refine c_ld rfl rfl ?_
  refine c_cst (v := .int 1024) rfl rfl ?_
  refine c_nwa (m := 35) (N := 1024) rfl rfl (by decide) (by decide) rfl rfl rfl ?_
  refine c_putr rfl rfl rfl rfl rfl ?_
  refine c_ld rfl rfl ?_
  refine c_cst (v := .int 1024) rfl rfl ?_
  refine c_nwa (m := 36) (N := 1024) rfl rfl (by decide) (by decide) rfl rfl rfl ?_
  refine c_putr rfl rfl rfl rfl rfl ?_
  refine c_ld rfl rfl ?_
  refine c_cst (v := .int 1024) rfl rfl ?_
  refine c_nwa (m := 37) (N := 1024) rfl rfl (by decide) (by decide) rfl rfl rfl ?_
  refine c_putr rfl rfl rfl rfl rfl ?_
  refine c_ld rfl rfl ?_
  refine c_cst (v := .int 1024) rfl rfl ?_
  refine c_nwa (m := 38) (N := 1024) rfl rfl (by decide) (by decide) rfl rfl rfl ?_
  refine c_putr rfl rfl rfl rfl rfl ?_
  refine c_cst (v := .int 0) rfl rfl ?_
  refine c_sto (L' := [(0, .ref 34), (1, .int 0)]) rfl rfl ?_
  refine new_X9_lp 0 (Nat.zero_le _) _ (fun x h1 h2 y => ?_)
  rcases Nat.lt_or_ge x 34 with w | w
  · rw [clr_ne (by omega), clr_ne (by omega), clr_ne (by omega), clr_ne (by omega), if_neg (by omega)]
    exact hZ x h1 (by omega) (by omega) y
  · have hx : x = 34 ∨ x = 35 ∨ x = 36 ∨ x = 37 ∨ x = 38 := by omega
    rcases hx with rfl | rfl | rfl | rfl | rfl
    all_goals simp [clr, up2_at, iv, hA]

