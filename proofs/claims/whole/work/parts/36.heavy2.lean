/-! ===== the heaviest: the class ===== -/
def bcV (p : Nat × Int32) : Int32 := if p.1 = 0 then -41 else p.2
theorem bcV_p {e : Nat} {x : Int32} : bcV (2 ^ e, x) = x := if_neg (Nat.pos_iff_ne_zero.mp (Nat.two_pow_pos e))
theorem hk_less {n e : Nat} {w : Nat → Int32} (h4 : -41 < w e) (h : w e < bcV (hv n w e)) : hv n w (e + 1) = hv n w e := by
  by_cases hg : (hv n w e).1 = 0
  · rw [bcV, if_pos hg] at h
    exact absurd (Int32.lt_trans h4 h) (by decide)
  · rw [bcV, if_neg hg] at h
    exact hv_less hg h
theorem hk_same {n e : Nat} {w : Nat → Int32} (h4 : -41 < w e) (hb : n.testBit e = true) (h : ¬ w e < bcV (hv n w e)) (h2 : w e ≤ bcV (hv n w e)) : hv n w (e + 1) = ((hv n w e).1 ||| 2 ^ e, w e) ∧ bcV ((hv n w e).1 ||| 2 ^ e, w e) = w e := by
  by_cases hg : (hv n w e).1 = 0
  · rw [bcV, if_pos hg] at h2
    exact absurd h4 (Int32.not_lt.mpr h2)
  · rw [bcV, if_neg hg] at h h2
    refine ⟨hv_same hb hg h h2, if_neg (fun q => hg ?_)⟩
    exact (Nat.or_eq_zero_iff.mp q).1
theorem hk_more {n e : Nat} {w : Nat → Int32} (hb : n.testBit e = true) (h2 : ¬ w e ≤ bcV (hv n w e)) : hv n w (e + 1) = (2 ^ e, w e) := by
  by_cases hg : (hv n w e).1 = 0
  · exact hv_first hb hg
  · rw [bcV, if_neg hg] at h2
    exact hv_more hb (fun q => h2 (Int32.le_of_lt q)) h2

set_option maxHeartbeats 1000000 in
set_option maxRecDepth 10000 in
theorem ok_X7_weight_3 (d : Nat) (M : Nat → Nat → Int32) (ML : Nat → Nat → Int64) {E : Nat} {l h : Nat → Nat} (hT : ∀ v, v < 7 → M 5 v = nI (tmk E l h v) ∧ tmk E l h v < 2048) {v : Nat} (hv7 : v < 7) : Ex (d + 2) k_X7_weight [.ref 44, .ref 2, .int 3, .int (nI v)] (SH, M, ML) (some (.int (-(M 46 v))), (SH, M, ML)) := by
  refine Ex_in mi_X7_weight rfl rfl ⟨Nat.le_refl _, Nat.le_refl _⟩ ?_
  show RR _ cd_X7_weight false _ (0, [(0, .ref 44), (1, .ref 2), (2, .int 3), (3, .int (nI v))], [], (SH, M, ML))
  refine r_ld rfl rfl ?_
  refine r_cst (v := .int 4) rfl rfl ?_
  refine q_cjT rfl rfl (by decide) ?_
  refine r_ld rfl rfl ?_
  refine r_cst (v := .int 5) rfl rfl ?_
  refine q_cjT rfl rfl (by decide) ?_
  refine r_ld rfl rfl ?_
  refine q_getr rfl rfl rfl rfl rfl ?_
  refine r_ld rfl rfl ?_
  refine q_call (as := [_, _]) (rest := []) rfl rfl rfl rfl rfl rfl rfl rfl (ok_at_n _ _ _ _ rfl rfl rfl rfl (by omega)) ?_
  refine r_una rfl rfl ?_
  refine r_ret rfl rfl (trivial) ?_
  exact rfl

set_option maxHeartbeats 1000000 in
set_option maxRecDepth 10000 in
theorem lp_X7_heaviest_3 (d : Nat) (M : Nat → Nat → Int32) (ML : Nat → Nat → Int64) {E : Nat} {l h : Nat → Nat} (hT : ∀ v, v < 7 → M 5 v = nI (tmk E l h v) ∧ tmk E l h v < 2048) {N n : Nat} (hN : M 2 0 = nI N) (hN7 : N ≤ 7) (hn : n < 2 ^ 31) (hw : ∀ e, e < N → (-41 : Int32) < (fun e => -(M 46 e)) e)  {res : Rt} (hk : res = (some (.int (nI (hv n (fun e => -(M 46 e)) N).1)), (SH, M, ML))) :
    ∀ e, e ≤ N → ∀ (g9 : Int32) (b9 : Int32) (j9 : Int32), g9 = nI (hv n (fun e => -(M 46 e)) e).1 → b9 = bcV (hv n (fun e => -(M 46 e)) e) → j9 = nI e → RR (d + 2) cd_X7_heaviest false res (10, [(0, .ref 44), (1, .ref 2), (2, .int 3), (3, .int ((nI n))), (4, .int g9), (5, .int b9), (6, .int j9)], [], (SH, M, ML)) := by
  refine up_ind fun e he ih => ?_
  intro g9 b9 j9 hv0 hv1 hv2
  subst hv0 hv1 hv2
  refine r_ld rfl rfl ?_
  refine r_ld rfl rfl ?_
  refine q_geti rfl rfl rfl rfl rfl ?_
  refine r_cj rfl rfl (fun h_16 => ?_) (fun h_16 => ?_)
  · have h9 : e = N := by have := nle (by omega) (by omega) (show nI N ≤ nI e by rw [← hN]; exact h_16); omega
    subst h9
    refine r_ld rfl rfl ?_
    refine r_ret rfl rfl (trivial) ?_
    exact hk
  · have hlt : e < N := nnle (by omega) (by omega) (by rw [← hN]; exact h_16)
    have h8 : tb (nI n) (nI e) = n.testBit e := tb_nI hn (by omega)
    refine r_ld rfl rfl ?_
    refine r_ld rfl rfl ?_
    refine r_ld rfl rfl ?_
    refine r_ld rfl rfl ?_
    refine q_call (as := [_, _, _, _]) (rest := []) rfl rfl rfl rfl rfl rfl rfl rfl (ok_X7_weight_3 _ _ _ hT (by omega)) ?_
    refine r_sto (L' := [(0, _), (1, _), (2, _), (3, _), (4, _), (5, _), (6, _), (7, _)]) rfl rfl ?_
    refine r_ld rfl rfl ?_
    refine r_ld rfl rfl ?_
    refine q_cife (as := [_, _]) (rest := []) rfl rfl rfl rfl rfl rfl rfl rfl (ok_X11_isIn ..) rfl (fun h_32 => ?_) (fun h_32 => ?_)
    · refine q_inc (y := _ + 1) rfl rfl rfl ?_
      refine q_norm (L' := [(0, _), (1, _), (2, _), (3, _), (4, _), (5, _), (6, _), (7, _)]) rfl ?_
      refine r_go rfl ?_
      refine q_keep [0, 1, 2, 3, 4, 5, 6] (L' := [(0, _), (1, _), (2, _), (3, _), (4, _), (5, _), (6, _)]) rfl ?_
      first
        | exact ih hlt _ _ _ (congrArg (fun q => nI q.1) (hv_0 (n := n) (w := (fun e => -(M 46 e))) (e := e) (by rw [← h8]; exact h_32)).symm) (congrArg bcV (hv_0 (n := n) (w := (fun e => -(M 46 e))) (e := e) (by rw [← h8]; exact h_32)).symm) (nI_1 e)
        | exact ih hlt _ _ _ (congrArg (fun q => nI q.1) (hk_less (n := n) (w := (fun e => -(M 46 e))) (e := e) (hw e hlt) h_42).symm) (congrArg bcV (hk_less (n := n) (w := (fun e => -(M 46 e))) (e := e) (hw e hlt) h_42).symm) (nI_1 e)
        | exact ih hlt _ _ _ ((or_sh (by omega)).trans (congrArg (fun q => nI q.1) (hk_same (n := n) (w := (fun e => -(M 46 e))) (e := e) (hw e hlt) (by rw [← h8]; exact h_32) h_42 h_49).1.symm)) ((hk_same (n := n) (w := (fun e => -(M 46 e))) (e := e) (hw e hlt) (by rw [← h8]; exact h_32) h_42 h_49).2.symm.trans (congrArg bcV (hk_same (n := n) (w := (fun e => -(M 46 e))) (e := e) (hw e hlt) (by rw [← h8]; exact h_32) h_42 h_49).1.symm)) (nI_1 e)
        | exact ih hlt _ _ _ ((shl1 (by omega)).trans (congrArg (fun q => nI q.1) (hk_more (n := n) (w := (fun e => -(M 46 e))) (e := e) (by rw [← h8]; exact h_32) h_49).symm)) (bcV_p.symm.trans (congrArg bcV (hk_more (n := n) (w := (fun e => -(M 46 e))) (e := e) (by rw [← h8]; exact h_32) h_49).symm)) (nI_1 e)
    · refine r_ld rfl rfl ?_
      refine r_ld rfl rfl ?_
      refine r_cj rfl rfl (fun h_42 => ?_) (fun h_42 => ?_)
      · refine q_inc (y := _ + 1) rfl rfl rfl ?_
        refine q_norm (L' := [(0, _), (1, _), (2, _), (3, _), (4, _), (5, _), (6, _), (7, _)]) rfl ?_
        refine r_go rfl ?_
        refine q_keep [0, 1, 2, 3, 4, 5, 6] (L' := [(0, _), (1, _), (2, _), (3, _), (4, _), (5, _), (6, _)]) rfl ?_
        first
          | exact ih hlt _ _ _ (congrArg (fun q => nI q.1) (hv_0 (n := n) (w := (fun e => -(M 46 e))) (e := e) (by rw [← h8]; exact h_32)).symm) (congrArg bcV (hv_0 (n := n) (w := (fun e => -(M 46 e))) (e := e) (by rw [← h8]; exact h_32)).symm) (nI_1 e)
          | exact ih hlt _ _ _ (congrArg (fun q => nI q.1) (hk_less (n := n) (w := (fun e => -(M 46 e))) (e := e) (hw e hlt) h_42).symm) (congrArg bcV (hk_less (n := n) (w := (fun e => -(M 46 e))) (e := e) (hw e hlt) h_42).symm) (nI_1 e)
          | exact ih hlt _ _ _ ((or_sh (by omega)).trans (congrArg (fun q => nI q.1) (hk_same (n := n) (w := (fun e => -(M 46 e))) (e := e) (hw e hlt) (by rw [← h8]; exact h_32) h_42 h_49).1.symm)) ((hk_same (n := n) (w := (fun e => -(M 46 e))) (e := e) (hw e hlt) (by rw [← h8]; exact h_32) h_42 h_49).2.symm.trans (congrArg bcV (hk_same (n := n) (w := (fun e => -(M 46 e))) (e := e) (hw e hlt) (by rw [← h8]; exact h_32) h_42 h_49).1.symm)) (nI_1 e)
          | exact ih hlt _ _ _ ((shl1 (by omega)).trans (congrArg (fun q => nI q.1) (hk_more (n := n) (w := (fun e => -(M 46 e))) (e := e) (by rw [← h8]; exact h_32) h_49).symm)) (bcV_p.symm.trans (congrArg bcV (hk_more (n := n) (w := (fun e => -(M 46 e))) (e := e) (by rw [← h8]; exact h_32) h_49).symm)) (nI_1 e)
      · refine r_ld rfl rfl ?_
        refine r_ld rfl rfl ?_
        refine r_cj rfl rfl (fun h_49 => ?_) (fun h_49 => ?_)
        · refine r_ld rfl rfl ?_
          refine r_cst (v := .int 1) rfl rfl ?_
          refine r_ld rfl rfl ?_
          refine r_bin rfl rfl ?_
          refine r_bin rfl rfl ?_
          refine r_sto (L' := [(0, _), (1, _), (2, _), (3, _), (4, _), (5, _), (6, _), (7, _)]) rfl rfl ?_
          refine r_ld rfl rfl ?_
          refine r_sto (L' := [(0, _), (1, _), (2, _), (3, _), (4, _), (5, _), (6, _), (7, _)]) rfl rfl ?_
          refine q_inc (y := _ + 1) rfl rfl rfl ?_
          refine q_norm (L' := [(0, _), (1, _), (2, _), (3, _), (4, _), (5, _), (6, _), (7, _)]) rfl ?_
          refine r_go rfl ?_
          refine q_keep [0, 1, 2, 3, 4, 5, 6] (L' := [(0, _), (1, _), (2, _), (3, _), (4, _), (5, _), (6, _)]) rfl ?_
          first
            | exact ih hlt _ _ _ (congrArg (fun q => nI q.1) (hv_0 (n := n) (w := (fun e => -(M 46 e))) (e := e) (by rw [← h8]; exact h_32)).symm) (congrArg bcV (hv_0 (n := n) (w := (fun e => -(M 46 e))) (e := e) (by rw [← h8]; exact h_32)).symm) (nI_1 e)
            | exact ih hlt _ _ _ (congrArg (fun q => nI q.1) (hk_less (n := n) (w := (fun e => -(M 46 e))) (e := e) (hw e hlt) h_42).symm) (congrArg bcV (hk_less (n := n) (w := (fun e => -(M 46 e))) (e := e) (hw e hlt) h_42).symm) (nI_1 e)
            | exact ih hlt _ _ _ ((or_sh (by omega)).trans (congrArg (fun q => nI q.1) (hk_same (n := n) (w := (fun e => -(M 46 e))) (e := e) (hw e hlt) (by rw [← h8]; exact h_32) h_42 h_49).1.symm)) ((hk_same (n := n) (w := (fun e => -(M 46 e))) (e := e) (hw e hlt) (by rw [← h8]; exact h_32) h_42 h_49).2.symm.trans (congrArg bcV (hk_same (n := n) (w := (fun e => -(M 46 e))) (e := e) (hw e hlt) (by rw [← h8]; exact h_32) h_42 h_49).1.symm)) (nI_1 e)
            | exact ih hlt _ _ _ ((shl1 (by omega)).trans (congrArg (fun q => nI q.1) (hk_more (n := n) (w := (fun e => -(M 46 e))) (e := e) (by rw [← h8]; exact h_32) h_49).symm)) (bcV_p.symm.trans (congrArg bcV (hk_more (n := n) (w := (fun e => -(M 46 e))) (e := e) (by rw [← h8]; exact h_32) h_49).symm)) (nI_1 e)
        · refine r_cst (v := .int 1) rfl rfl ?_
          refine r_ld rfl rfl ?_
          refine r_bin rfl rfl ?_
          refine r_go rfl ?_
          refine r_sto (L' := [(0, _), (1, _), (2, _), (3, _), (4, _), (5, _), (6, _), (7, _)]) rfl rfl ?_
          refine r_ld rfl rfl ?_
          refine r_sto (L' := [(0, _), (1, _), (2, _), (3, _), (4, _), (5, _), (6, _), (7, _)]) rfl rfl ?_
          refine q_inc (y := _ + 1) rfl rfl rfl ?_
          refine q_norm (L' := [(0, _), (1, _), (2, _), (3, _), (4, _), (5, _), (6, _), (7, _)]) rfl ?_
          refine r_go rfl ?_
          refine q_keep [0, 1, 2, 3, 4, 5, 6] (L' := [(0, _), (1, _), (2, _), (3, _), (4, _), (5, _), (6, _)]) rfl ?_
          first
            | exact ih hlt _ _ _ (congrArg (fun q => nI q.1) (hv_0 (n := n) (w := (fun e => -(M 46 e))) (e := e) (by rw [← h8]; exact h_32)).symm) (congrArg bcV (hv_0 (n := n) (w := (fun e => -(M 46 e))) (e := e) (by rw [← h8]; exact h_32)).symm) (nI_1 e)
            | exact ih hlt _ _ _ (congrArg (fun q => nI q.1) (hk_less (n := n) (w := (fun e => -(M 46 e))) (e := e) (hw e hlt) h_42).symm) (congrArg bcV (hk_less (n := n) (w := (fun e => -(M 46 e))) (e := e) (hw e hlt) h_42).symm) (nI_1 e)
            | exact ih hlt _ _ _ ((or_sh (by omega)).trans (congrArg (fun q => nI q.1) (hk_same (n := n) (w := (fun e => -(M 46 e))) (e := e) (hw e hlt) (by rw [← h8]; exact h_32) h_42 h_49).1.symm)) ((hk_same (n := n) (w := (fun e => -(M 46 e))) (e := e) (hw e hlt) (by rw [← h8]; exact h_32) h_42 h_49).2.symm.trans (congrArg bcV (hk_same (n := n) (w := (fun e => -(M 46 e))) (e := e) (hw e hlt) (by rw [← h8]; exact h_32) h_42 h_49).1.symm)) (nI_1 e)
            | exact ih hlt _ _ _ ((shl1 (by omega)).trans (congrArg (fun q => nI q.1) (hk_more (n := n) (w := (fun e => -(M 46 e))) (e := e) (by rw [← h8]; exact h_32) h_49).symm)) (bcV_p.symm.trans (congrArg bcV (hk_more (n := n) (w := (fun e => -(M 46 e))) (e := e) (by rw [← h8]; exact h_32) h_49).symm)) (nI_1 e)

set_option maxHeartbeats 1000000 in
set_option maxRecDepth 10000 in
theorem ok_X7_heaviest_3 (d : Nat) (M : Nat → Nat → Int32) (ML : Nat → Nat → Int64) {E : Nat} {l h : Nat → Nat} (hT : ∀ v, v < 7 → M 5 v = nI (tmk E l h v) ∧ tmk E l h v < 2048) {N n : Nat} (hN : M 2 0 = nI N) (hN7 : N ≤ 7) (hn : n < 2 ^ 31) (hw : ∀ e, e < N → (-41 : Int32) < (fun e => -(M 46 e)) e) : Ex (d + 3) k_X7_heaviest [.ref 44, .ref 2, .int 3, .int (nI n)] (SH, M, ML) (some (.int (nI (hv n (fun e => -(M 46 e)) N).1)), (SH, M, ML)) := by
  refine Ex_in mi_X7_heaviest rfl rfl ⟨Nat.le_refl _, Nat.le_refl _⟩ ?_
  show RR _ cd_X7_heaviest false _ (0, [(0, .ref 44), (1, .ref 2), (2, .int 3), (3, .int (nI n))], [], (SH, M, ML))
  refine r_cst (v := .int 0) rfl rfl ?_
  refine r_sto (L' := [(0, _), (1, _), (2, _), (3, _), (4, _)]) rfl rfl ?_
  refine r_cst (v := .int (-41)) rfl rfl ?_
  refine r_sto (L' := [(0, _), (1, _), (2, _), (3, _), (4, _), (5, _)]) rfl rfl ?_
  refine r_cst (v := .int 0) rfl rfl ?_
  refine r_sto (L' := [(0, _), (1, _), (2, _), (3, _), (4, _), (5, _), (6, _)]) rfl rfl ?_
  exact lp_X7_heaviest_3 d M ML hT hN hN7 hn hw rfl 0 (Nat.zero_le _) _ _ _ rfl rfl rfl

set_option maxHeartbeats 1000000 in
set_option maxRecDepth 10000 in
theorem ok_X7_weight_4 (d : Nat) (M : Nat → Nat → Int32) (ML : Nat → Nat → Int64) {E : Nat} {l h : Nat → Nat} (hT : ∀ v, v < 7 → M 5 v = nI (tmk E l h v) ∧ tmk E l h v < 2048) {v : Nat} (hv7 : v < 7) : Ex (d + 2) k_X7_weight [.ref 44, .ref 2, .int 4, .int (nI v)] (SH, M, ML) (some (.int (nI (popc (tmk E l h v)))), (SH, M, ML)) := by
  refine Ex_in mi_X7_weight rfl rfl ⟨Nat.le_refl _, Nat.le_refl _⟩ ?_
  show RR _ cd_X7_weight false _ (0, [(0, .ref 44), (1, .ref 2), (2, .int 4), (3, .int (nI v))], [], (SH, M, ML))
  refine r_ld rfl rfl ?_
  refine r_cst (v := .int 4) rfl rfl ?_
  refine q_cjF rfl rfl (fun q => q rfl) ?_
  refine r_ld rfl rfl ?_
  refine q_getr rfl rfl rfl rfl rfl ?_
  refine r_ld rfl rfl ?_
  refine q_call (as := [_, _]) (rest := []) rfl rfl rfl rfl rfl rfl rfl rfl (ok_at_n _ _ _ _ rfl rfl rfl rfl (by omega)) ?_
  rw [(hT v hv7).1]
  refine q_call (as := [_]) (rest := []) rfl rfl rfl rfl rfl rfl rfl rfl (ok_bitCount _ _ _ (hT v hv7).2) ?_
  refine r_ret rfl rfl (trivial) ?_
  exact rfl

set_option maxHeartbeats 1000000 in
set_option maxRecDepth 10000 in
theorem lp_X7_heaviest_4 (d : Nat) (M : Nat → Nat → Int32) (ML : Nat → Nat → Int64) {E : Nat} {l h : Nat → Nat} (hT : ∀ v, v < 7 → M 5 v = nI (tmk E l h v) ∧ tmk E l h v < 2048) {N n : Nat} (hN : M 2 0 = nI N) (hN7 : N ≤ 7) (hn : n < 2 ^ 31) (hw : ∀ e, e < N → (-41 : Int32) < (fun e => nI (popc (tmk E l h e))) e)  {res : Rt} (hk : res = (some (.int (nI (hv n (fun e => nI (popc (tmk E l h e))) N).1)), (SH, M, ML))) :
    ∀ e, e ≤ N → ∀ (g9 : Int32) (b9 : Int32) (j9 : Int32), g9 = nI (hv n (fun e => nI (popc (tmk E l h e))) e).1 → b9 = bcV (hv n (fun e => nI (popc (tmk E l h e))) e) → j9 = nI e → RR (d + 2) cd_X7_heaviest false res (10, [(0, .ref 44), (1, .ref 2), (2, .int 4), (3, .int ((nI n))), (4, .int g9), (5, .int b9), (6, .int j9)], [], (SH, M, ML)) := by
  refine up_ind fun e he ih => ?_
  intro g9 b9 j9 hv0 hv1 hv2
  subst hv0 hv1 hv2
  refine r_ld rfl rfl ?_
  refine r_ld rfl rfl ?_
  refine q_geti rfl rfl rfl rfl rfl ?_
  refine r_cj rfl rfl (fun h_16 => ?_) (fun h_16 => ?_)
  · have h9 : e = N := by have := nle (by omega) (by omega) (show nI N ≤ nI e by rw [← hN]; exact h_16); omega
    subst h9
    refine r_ld rfl rfl ?_
    refine r_ret rfl rfl (trivial) ?_
    exact hk
  · have hlt : e < N := nnle (by omega) (by omega) (by rw [← hN]; exact h_16)
    have h8 : tb (nI n) (nI e) = n.testBit e := tb_nI hn (by omega)
    refine r_ld rfl rfl ?_
    refine r_ld rfl rfl ?_
    refine r_ld rfl rfl ?_
    refine r_ld rfl rfl ?_
    refine q_call (as := [_, _, _, _]) (rest := []) rfl rfl rfl rfl rfl rfl rfl rfl (ok_X7_weight_4 _ _ _ hT (by omega)) ?_
    refine r_sto (L' := [(0, _), (1, _), (2, _), (3, _), (4, _), (5, _), (6, _), (7, _)]) rfl rfl ?_
    refine r_ld rfl rfl ?_
    refine r_ld rfl rfl ?_
    refine q_cife (as := [_, _]) (rest := []) rfl rfl rfl rfl rfl rfl rfl rfl (ok_X11_isIn ..) rfl (fun h_32 => ?_) (fun h_32 => ?_)
    · refine q_inc (y := _ + 1) rfl rfl rfl ?_
      refine q_norm (L' := [(0, _), (1, _), (2, _), (3, _), (4, _), (5, _), (6, _), (7, _)]) rfl ?_
      refine r_go rfl ?_
      refine q_keep [0, 1, 2, 3, 4, 5, 6] (L' := [(0, _), (1, _), (2, _), (3, _), (4, _), (5, _), (6, _)]) rfl ?_
      first
        | exact ih hlt _ _ _ (congrArg (fun q => nI q.1) (hv_0 (n := n) (w := (fun e => nI (popc (tmk E l h e)))) (e := e) (by rw [← h8]; exact h_32)).symm) (congrArg bcV (hv_0 (n := n) (w := (fun e => nI (popc (tmk E l h e)))) (e := e) (by rw [← h8]; exact h_32)).symm) (nI_1 e)
        | exact ih hlt _ _ _ (congrArg (fun q => nI q.1) (hk_less (n := n) (w := (fun e => nI (popc (tmk E l h e)))) (e := e) (hw e hlt) h_42).symm) (congrArg bcV (hk_less (n := n) (w := (fun e => nI (popc (tmk E l h e)))) (e := e) (hw e hlt) h_42).symm) (nI_1 e)
        | exact ih hlt _ _ _ ((or_sh (by omega)).trans (congrArg (fun q => nI q.1) (hk_same (n := n) (w := (fun e => nI (popc (tmk E l h e)))) (e := e) (hw e hlt) (by rw [← h8]; exact h_32) h_42 h_49).1.symm)) ((hk_same (n := n) (w := (fun e => nI (popc (tmk E l h e)))) (e := e) (hw e hlt) (by rw [← h8]; exact h_32) h_42 h_49).2.symm.trans (congrArg bcV (hk_same (n := n) (w := (fun e => nI (popc (tmk E l h e)))) (e := e) (hw e hlt) (by rw [← h8]; exact h_32) h_42 h_49).1.symm)) (nI_1 e)
        | exact ih hlt _ _ _ ((shl1 (by omega)).trans (congrArg (fun q => nI q.1) (hk_more (n := n) (w := (fun e => nI (popc (tmk E l h e)))) (e := e) (by rw [← h8]; exact h_32) h_49).symm)) (bcV_p.symm.trans (congrArg bcV (hk_more (n := n) (w := (fun e => nI (popc (tmk E l h e)))) (e := e) (by rw [← h8]; exact h_32) h_49).symm)) (nI_1 e)
    · refine r_ld rfl rfl ?_
      refine r_ld rfl rfl ?_
      refine r_cj rfl rfl (fun h_42 => ?_) (fun h_42 => ?_)
      · refine q_inc (y := _ + 1) rfl rfl rfl ?_
        refine q_norm (L' := [(0, _), (1, _), (2, _), (3, _), (4, _), (5, _), (6, _), (7, _)]) rfl ?_
        refine r_go rfl ?_
        refine q_keep [0, 1, 2, 3, 4, 5, 6] (L' := [(0, _), (1, _), (2, _), (3, _), (4, _), (5, _), (6, _)]) rfl ?_
        first
          | exact ih hlt _ _ _ (congrArg (fun q => nI q.1) (hv_0 (n := n) (w := (fun e => nI (popc (tmk E l h e)))) (e := e) (by rw [← h8]; exact h_32)).symm) (congrArg bcV (hv_0 (n := n) (w := (fun e => nI (popc (tmk E l h e)))) (e := e) (by rw [← h8]; exact h_32)).symm) (nI_1 e)
          | exact ih hlt _ _ _ (congrArg (fun q => nI q.1) (hk_less (n := n) (w := (fun e => nI (popc (tmk E l h e)))) (e := e) (hw e hlt) h_42).symm) (congrArg bcV (hk_less (n := n) (w := (fun e => nI (popc (tmk E l h e)))) (e := e) (hw e hlt) h_42).symm) (nI_1 e)
          | exact ih hlt _ _ _ ((or_sh (by omega)).trans (congrArg (fun q => nI q.1) (hk_same (n := n) (w := (fun e => nI (popc (tmk E l h e)))) (e := e) (hw e hlt) (by rw [← h8]; exact h_32) h_42 h_49).1.symm)) ((hk_same (n := n) (w := (fun e => nI (popc (tmk E l h e)))) (e := e) (hw e hlt) (by rw [← h8]; exact h_32) h_42 h_49).2.symm.trans (congrArg bcV (hk_same (n := n) (w := (fun e => nI (popc (tmk E l h e)))) (e := e) (hw e hlt) (by rw [← h8]; exact h_32) h_42 h_49).1.symm)) (nI_1 e)
          | exact ih hlt _ _ _ ((shl1 (by omega)).trans (congrArg (fun q => nI q.1) (hk_more (n := n) (w := (fun e => nI (popc (tmk E l h e)))) (e := e) (by rw [← h8]; exact h_32) h_49).symm)) (bcV_p.symm.trans (congrArg bcV (hk_more (n := n) (w := (fun e => nI (popc (tmk E l h e)))) (e := e) (by rw [← h8]; exact h_32) h_49).symm)) (nI_1 e)
      · refine r_ld rfl rfl ?_
        refine r_ld rfl rfl ?_
        refine r_cj rfl rfl (fun h_49 => ?_) (fun h_49 => ?_)
        · refine r_ld rfl rfl ?_
          refine r_cst (v := .int 1) rfl rfl ?_
          refine r_ld rfl rfl ?_
          refine r_bin rfl rfl ?_
          refine r_bin rfl rfl ?_
          refine r_sto (L' := [(0, _), (1, _), (2, _), (3, _), (4, _), (5, _), (6, _), (7, _)]) rfl rfl ?_
          refine r_ld rfl rfl ?_
          refine r_sto (L' := [(0, _), (1, _), (2, _), (3, _), (4, _), (5, _), (6, _), (7, _)]) rfl rfl ?_
          refine q_inc (y := _ + 1) rfl rfl rfl ?_
          refine q_norm (L' := [(0, _), (1, _), (2, _), (3, _), (4, _), (5, _), (6, _), (7, _)]) rfl ?_
          refine r_go rfl ?_
          refine q_keep [0, 1, 2, 3, 4, 5, 6] (L' := [(0, _), (1, _), (2, _), (3, _), (4, _), (5, _), (6, _)]) rfl ?_
          first
            | exact ih hlt _ _ _ (congrArg (fun q => nI q.1) (hv_0 (n := n) (w := (fun e => nI (popc (tmk E l h e)))) (e := e) (by rw [← h8]; exact h_32)).symm) (congrArg bcV (hv_0 (n := n) (w := (fun e => nI (popc (tmk E l h e)))) (e := e) (by rw [← h8]; exact h_32)).symm) (nI_1 e)
            | exact ih hlt _ _ _ (congrArg (fun q => nI q.1) (hk_less (n := n) (w := (fun e => nI (popc (tmk E l h e)))) (e := e) (hw e hlt) h_42).symm) (congrArg bcV (hk_less (n := n) (w := (fun e => nI (popc (tmk E l h e)))) (e := e) (hw e hlt) h_42).symm) (nI_1 e)
            | exact ih hlt _ _ _ ((or_sh (by omega)).trans (congrArg (fun q => nI q.1) (hk_same (n := n) (w := (fun e => nI (popc (tmk E l h e)))) (e := e) (hw e hlt) (by rw [← h8]; exact h_32) h_42 h_49).1.symm)) ((hk_same (n := n) (w := (fun e => nI (popc (tmk E l h e)))) (e := e) (hw e hlt) (by rw [← h8]; exact h_32) h_42 h_49).2.symm.trans (congrArg bcV (hk_same (n := n) (w := (fun e => nI (popc (tmk E l h e)))) (e := e) (hw e hlt) (by rw [← h8]; exact h_32) h_42 h_49).1.symm)) (nI_1 e)
            | exact ih hlt _ _ _ ((shl1 (by omega)).trans (congrArg (fun q => nI q.1) (hk_more (n := n) (w := (fun e => nI (popc (tmk E l h e)))) (e := e) (by rw [← h8]; exact h_32) h_49).symm)) (bcV_p.symm.trans (congrArg bcV (hk_more (n := n) (w := (fun e => nI (popc (tmk E l h e)))) (e := e) (by rw [← h8]; exact h_32) h_49).symm)) (nI_1 e)
        · refine r_cst (v := .int 1) rfl rfl ?_
          refine r_ld rfl rfl ?_
          refine r_bin rfl rfl ?_
          refine r_go rfl ?_
          refine r_sto (L' := [(0, _), (1, _), (2, _), (3, _), (4, _), (5, _), (6, _), (7, _)]) rfl rfl ?_
          refine r_ld rfl rfl ?_
          refine r_sto (L' := [(0, _), (1, _), (2, _), (3, _), (4, _), (5, _), (6, _), (7, _)]) rfl rfl ?_
          refine q_inc (y := _ + 1) rfl rfl rfl ?_
          refine q_norm (L' := [(0, _), (1, _), (2, _), (3, _), (4, _), (5, _), (6, _), (7, _)]) rfl ?_
          refine r_go rfl ?_
          refine q_keep [0, 1, 2, 3, 4, 5, 6] (L' := [(0, _), (1, _), (2, _), (3, _), (4, _), (5, _), (6, _)]) rfl ?_
          first
            | exact ih hlt _ _ _ (congrArg (fun q => nI q.1) (hv_0 (n := n) (w := (fun e => nI (popc (tmk E l h e)))) (e := e) (by rw [← h8]; exact h_32)).symm) (congrArg bcV (hv_0 (n := n) (w := (fun e => nI (popc (tmk E l h e)))) (e := e) (by rw [← h8]; exact h_32)).symm) (nI_1 e)
            | exact ih hlt _ _ _ (congrArg (fun q => nI q.1) (hk_less (n := n) (w := (fun e => nI (popc (tmk E l h e)))) (e := e) (hw e hlt) h_42).symm) (congrArg bcV (hk_less (n := n) (w := (fun e => nI (popc (tmk E l h e)))) (e := e) (hw e hlt) h_42).symm) (nI_1 e)
            | exact ih hlt _ _ _ ((or_sh (by omega)).trans (congrArg (fun q => nI q.1) (hk_same (n := n) (w := (fun e => nI (popc (tmk E l h e)))) (e := e) (hw e hlt) (by rw [← h8]; exact h_32) h_42 h_49).1.symm)) ((hk_same (n := n) (w := (fun e => nI (popc (tmk E l h e)))) (e := e) (hw e hlt) (by rw [← h8]; exact h_32) h_42 h_49).2.symm.trans (congrArg bcV (hk_same (n := n) (w := (fun e => nI (popc (tmk E l h e)))) (e := e) (hw e hlt) (by rw [← h8]; exact h_32) h_42 h_49).1.symm)) (nI_1 e)
            | exact ih hlt _ _ _ ((shl1 (by omega)).trans (congrArg (fun q => nI q.1) (hk_more (n := n) (w := (fun e => nI (popc (tmk E l h e)))) (e := e) (by rw [← h8]; exact h_32) h_49).symm)) (bcV_p.symm.trans (congrArg bcV (hk_more (n := n) (w := (fun e => nI (popc (tmk E l h e)))) (e := e) (by rw [← h8]; exact h_32) h_49).symm)) (nI_1 e)

set_option maxHeartbeats 1000000 in
set_option maxRecDepth 10000 in
theorem ok_X7_heaviest_4 (d : Nat) (M : Nat → Nat → Int32) (ML : Nat → Nat → Int64) {E : Nat} {l h : Nat → Nat} (hT : ∀ v, v < 7 → M 5 v = nI (tmk E l h v) ∧ tmk E l h v < 2048) {N n : Nat} (hN : M 2 0 = nI N) (hN7 : N ≤ 7) (hn : n < 2 ^ 31) (hw : ∀ e, e < N → (-41 : Int32) < (fun e => nI (popc (tmk E l h e))) e) : Ex (d + 3) k_X7_heaviest [.ref 44, .ref 2, .int 4, .int (nI n)] (SH, M, ML) (some (.int (nI (hv n (fun e => nI (popc (tmk E l h e))) N).1)), (SH, M, ML)) := by
  refine Ex_in mi_X7_heaviest rfl rfl ⟨Nat.le_refl _, Nat.le_refl _⟩ ?_
  show RR _ cd_X7_heaviest false _ (0, [(0, .ref 44), (1, .ref 2), (2, .int 4), (3, .int (nI n))], [], (SH, M, ML))
  refine r_cst (v := .int 0) rfl rfl ?_
  refine r_sto (L' := [(0, _), (1, _), (2, _), (3, _), (4, _)]) rfl rfl ?_
  refine r_cst (v := .int (-41)) rfl rfl ?_
  refine r_sto (L' := [(0, _), (1, _), (2, _), (3, _), (4, _), (5, _)]) rfl rfl ?_
  refine r_cst (v := .int 0) rfl rfl ?_
  refine r_sto (L' := [(0, _), (1, _), (2, _), (3, _), (4, _), (5, _), (6, _)]) rfl rfl ?_
  exact lp_X7_heaviest_4 d M ML hT hN hN7 hn hw rfl 0 (Nat.zero_le _) _ _ _ rfl rfl rfl

set_option maxHeartbeats 1000000 in
set_option maxRecDepth 10000 in
theorem ok_X7_weight_5 (d : Nat) (M : Nat → Nat → Int32) (ML : Nat → Nat → Int64) {E : Nat} {l h : Nat → Nat} (hT : ∀ v, v < 7 → M 5 v = nI (tmk E l h v) ∧ tmk E l h v < 2048) {v : Nat} (hv7 : v < 7) : Ex (d + 2) k_X7_weight [.ref 44, .ref 2, .int 5, .int (nI v)] (SH, M, ML) (some (.int (M 46 v)), (SH, M, ML)) := by
  refine Ex_in mi_X7_weight rfl rfl ⟨Nat.le_refl _, Nat.le_refl _⟩ ?_
  show RR _ cd_X7_weight false _ (0, [(0, .ref 44), (1, .ref 2), (2, .int 5), (3, .int (nI v))], [], (SH, M, ML))
  refine r_ld rfl rfl ?_
  refine r_cst (v := .int 4) rfl rfl ?_
  refine q_cjT rfl rfl (by decide) ?_
  refine r_ld rfl rfl ?_
  refine r_cst (v := .int 5) rfl rfl ?_
  refine q_cjF rfl rfl (fun q => q rfl) ?_
  refine r_ld rfl rfl ?_
  refine q_getr rfl rfl rfl rfl rfl ?_
  refine r_ld rfl rfl ?_
  refine q_call (as := [_, _]) (rest := []) rfl rfl rfl rfl rfl rfl rfl rfl (ok_at_n _ _ _ _ rfl rfl rfl rfl (by omega)) ?_
  refine r_go rfl ?_
  refine r_ret rfl rfl (trivial) ?_
  exact rfl

set_option maxHeartbeats 1000000 in
set_option maxRecDepth 10000 in
theorem lp_X7_heaviest_5 (d : Nat) (M : Nat → Nat → Int32) (ML : Nat → Nat → Int64) {E : Nat} {l h : Nat → Nat} (hT : ∀ v, v < 7 → M 5 v = nI (tmk E l h v) ∧ tmk E l h v < 2048) {N n : Nat} (hN : M 2 0 = nI N) (hN7 : N ≤ 7) (hn : n < 2 ^ 31) (hw : ∀ e, e < N → (-41 : Int32) < (M 46) e)  {res : Rt} (hk : res = (some (.int (nI (hv n (M 46) N).1)), (SH, M, ML))) :
    ∀ e, e ≤ N → ∀ (g9 : Int32) (b9 : Int32) (j9 : Int32), g9 = nI (hv n (M 46) e).1 → b9 = bcV (hv n (M 46) e) → j9 = nI e → RR (d + 2) cd_X7_heaviest false res (10, [(0, .ref 44), (1, .ref 2), (2, .int 5), (3, .int ((nI n))), (4, .int g9), (5, .int b9), (6, .int j9)], [], (SH, M, ML)) := by
  refine up_ind fun e he ih => ?_
  intro g9 b9 j9 hv0 hv1 hv2
  subst hv0 hv1 hv2
  refine r_ld rfl rfl ?_
  refine r_ld rfl rfl ?_
  refine q_geti rfl rfl rfl rfl rfl ?_
  refine r_cj rfl rfl (fun h_16 => ?_) (fun h_16 => ?_)
  · have h9 : e = N := by have := nle (by omega) (by omega) (show nI N ≤ nI e by rw [← hN]; exact h_16); omega
    subst h9
    refine r_ld rfl rfl ?_
    refine r_ret rfl rfl (trivial) ?_
    exact hk
  · have hlt : e < N := nnle (by omega) (by omega) (by rw [← hN]; exact h_16)
    have h8 : tb (nI n) (nI e) = n.testBit e := tb_nI hn (by omega)
    refine r_ld rfl rfl ?_
    refine r_ld rfl rfl ?_
    refine r_ld rfl rfl ?_
    refine r_ld rfl rfl ?_
    refine q_call (as := [_, _, _, _]) (rest := []) rfl rfl rfl rfl rfl rfl rfl rfl (ok_X7_weight_5 _ _ _ hT (by omega)) ?_
    refine r_sto (L' := [(0, _), (1, _), (2, _), (3, _), (4, _), (5, _), (6, _), (7, _)]) rfl rfl ?_
    refine r_ld rfl rfl ?_
    refine r_ld rfl rfl ?_
    refine q_cife (as := [_, _]) (rest := []) rfl rfl rfl rfl rfl rfl rfl rfl (ok_X11_isIn ..) rfl (fun h_32 => ?_) (fun h_32 => ?_)
    · refine q_inc (y := _ + 1) rfl rfl rfl ?_
      refine q_norm (L' := [(0, _), (1, _), (2, _), (3, _), (4, _), (5, _), (6, _), (7, _)]) rfl ?_
      refine r_go rfl ?_
      refine q_keep [0, 1, 2, 3, 4, 5, 6] (L' := [(0, _), (1, _), (2, _), (3, _), (4, _), (5, _), (6, _)]) rfl ?_
      first
        | exact ih hlt _ _ _ (congrArg (fun q => nI q.1) (hv_0 (n := n) (w := (M 46)) (e := e) (by rw [← h8]; exact h_32)).symm) (congrArg bcV (hv_0 (n := n) (w := (M 46)) (e := e) (by rw [← h8]; exact h_32)).symm) (nI_1 e)
        | exact ih hlt _ _ _ (congrArg (fun q => nI q.1) (hk_less (n := n) (w := (M 46)) (e := e) (hw e hlt) h_42).symm) (congrArg bcV (hk_less (n := n) (w := (M 46)) (e := e) (hw e hlt) h_42).symm) (nI_1 e)
        | exact ih hlt _ _ _ ((or_sh (by omega)).trans (congrArg (fun q => nI q.1) (hk_same (n := n) (w := (M 46)) (e := e) (hw e hlt) (by rw [← h8]; exact h_32) h_42 h_49).1.symm)) ((hk_same (n := n) (w := (M 46)) (e := e) (hw e hlt) (by rw [← h8]; exact h_32) h_42 h_49).2.symm.trans (congrArg bcV (hk_same (n := n) (w := (M 46)) (e := e) (hw e hlt) (by rw [← h8]; exact h_32) h_42 h_49).1.symm)) (nI_1 e)
        | exact ih hlt _ _ _ ((shl1 (by omega)).trans (congrArg (fun q => nI q.1) (hk_more (n := n) (w := (M 46)) (e := e) (by rw [← h8]; exact h_32) h_49).symm)) (bcV_p.symm.trans (congrArg bcV (hk_more (n := n) (w := (M 46)) (e := e) (by rw [← h8]; exact h_32) h_49).symm)) (nI_1 e)
    · refine r_ld rfl rfl ?_
      refine r_ld rfl rfl ?_
      refine r_cj rfl rfl (fun h_42 => ?_) (fun h_42 => ?_)
      · refine q_inc (y := _ + 1) rfl rfl rfl ?_
        refine q_norm (L' := [(0, _), (1, _), (2, _), (3, _), (4, _), (5, _), (6, _), (7, _)]) rfl ?_
        refine r_go rfl ?_
        refine q_keep [0, 1, 2, 3, 4, 5, 6] (L' := [(0, _), (1, _), (2, _), (3, _), (4, _), (5, _), (6, _)]) rfl ?_
        first
          | exact ih hlt _ _ _ (congrArg (fun q => nI q.1) (hv_0 (n := n) (w := (M 46)) (e := e) (by rw [← h8]; exact h_32)).symm) (congrArg bcV (hv_0 (n := n) (w := (M 46)) (e := e) (by rw [← h8]; exact h_32)).symm) (nI_1 e)
          | exact ih hlt _ _ _ (congrArg (fun q => nI q.1) (hk_less (n := n) (w := (M 46)) (e := e) (hw e hlt) h_42).symm) (congrArg bcV (hk_less (n := n) (w := (M 46)) (e := e) (hw e hlt) h_42).symm) (nI_1 e)
          | exact ih hlt _ _ _ ((or_sh (by omega)).trans (congrArg (fun q => nI q.1) (hk_same (n := n) (w := (M 46)) (e := e) (hw e hlt) (by rw [← h8]; exact h_32) h_42 h_49).1.symm)) ((hk_same (n := n) (w := (M 46)) (e := e) (hw e hlt) (by rw [← h8]; exact h_32) h_42 h_49).2.symm.trans (congrArg bcV (hk_same (n := n) (w := (M 46)) (e := e) (hw e hlt) (by rw [← h8]; exact h_32) h_42 h_49).1.symm)) (nI_1 e)
          | exact ih hlt _ _ _ ((shl1 (by omega)).trans (congrArg (fun q => nI q.1) (hk_more (n := n) (w := (M 46)) (e := e) (by rw [← h8]; exact h_32) h_49).symm)) (bcV_p.symm.trans (congrArg bcV (hk_more (n := n) (w := (M 46)) (e := e) (by rw [← h8]; exact h_32) h_49).symm)) (nI_1 e)
      · refine r_ld rfl rfl ?_
        refine r_ld rfl rfl ?_
        refine r_cj rfl rfl (fun h_49 => ?_) (fun h_49 => ?_)
        · refine r_ld rfl rfl ?_
          refine r_cst (v := .int 1) rfl rfl ?_
          refine r_ld rfl rfl ?_
          refine r_bin rfl rfl ?_
          refine r_bin rfl rfl ?_
          refine r_sto (L' := [(0, _), (1, _), (2, _), (3, _), (4, _), (5, _), (6, _), (7, _)]) rfl rfl ?_
          refine r_ld rfl rfl ?_
          refine r_sto (L' := [(0, _), (1, _), (2, _), (3, _), (4, _), (5, _), (6, _), (7, _)]) rfl rfl ?_
          refine q_inc (y := _ + 1) rfl rfl rfl ?_
          refine q_norm (L' := [(0, _), (1, _), (2, _), (3, _), (4, _), (5, _), (6, _), (7, _)]) rfl ?_
          refine r_go rfl ?_
          refine q_keep [0, 1, 2, 3, 4, 5, 6] (L' := [(0, _), (1, _), (2, _), (3, _), (4, _), (5, _), (6, _)]) rfl ?_
          first
            | exact ih hlt _ _ _ (congrArg (fun q => nI q.1) (hv_0 (n := n) (w := (M 46)) (e := e) (by rw [← h8]; exact h_32)).symm) (congrArg bcV (hv_0 (n := n) (w := (M 46)) (e := e) (by rw [← h8]; exact h_32)).symm) (nI_1 e)
            | exact ih hlt _ _ _ (congrArg (fun q => nI q.1) (hk_less (n := n) (w := (M 46)) (e := e) (hw e hlt) h_42).symm) (congrArg bcV (hk_less (n := n) (w := (M 46)) (e := e) (hw e hlt) h_42).symm) (nI_1 e)
            | exact ih hlt _ _ _ ((or_sh (by omega)).trans (congrArg (fun q => nI q.1) (hk_same (n := n) (w := (M 46)) (e := e) (hw e hlt) (by rw [← h8]; exact h_32) h_42 h_49).1.symm)) ((hk_same (n := n) (w := (M 46)) (e := e) (hw e hlt) (by rw [← h8]; exact h_32) h_42 h_49).2.symm.trans (congrArg bcV (hk_same (n := n) (w := (M 46)) (e := e) (hw e hlt) (by rw [← h8]; exact h_32) h_42 h_49).1.symm)) (nI_1 e)
            | exact ih hlt _ _ _ ((shl1 (by omega)).trans (congrArg (fun q => nI q.1) (hk_more (n := n) (w := (M 46)) (e := e) (by rw [← h8]; exact h_32) h_49).symm)) (bcV_p.symm.trans (congrArg bcV (hk_more (n := n) (w := (M 46)) (e := e) (by rw [← h8]; exact h_32) h_49).symm)) (nI_1 e)
        · refine r_cst (v := .int 1) rfl rfl ?_
          refine r_ld rfl rfl ?_
          refine r_bin rfl rfl ?_
          refine r_go rfl ?_
          refine r_sto (L' := [(0, _), (1, _), (2, _), (3, _), (4, _), (5, _), (6, _), (7, _)]) rfl rfl ?_
          refine r_ld rfl rfl ?_
          refine r_sto (L' := [(0, _), (1, _), (2, _), (3, _), (4, _), (5, _), (6, _), (7, _)]) rfl rfl ?_
          refine q_inc (y := _ + 1) rfl rfl rfl ?_
          refine q_norm (L' := [(0, _), (1, _), (2, _), (3, _), (4, _), (5, _), (6, _), (7, _)]) rfl ?_
          refine r_go rfl ?_
          refine q_keep [0, 1, 2, 3, 4, 5, 6] (L' := [(0, _), (1, _), (2, _), (3, _), (4, _), (5, _), (6, _)]) rfl ?_
          first
            | exact ih hlt _ _ _ (congrArg (fun q => nI q.1) (hv_0 (n := n) (w := (M 46)) (e := e) (by rw [← h8]; exact h_32)).symm) (congrArg bcV (hv_0 (n := n) (w := (M 46)) (e := e) (by rw [← h8]; exact h_32)).symm) (nI_1 e)
            | exact ih hlt _ _ _ (congrArg (fun q => nI q.1) (hk_less (n := n) (w := (M 46)) (e := e) (hw e hlt) h_42).symm) (congrArg bcV (hk_less (n := n) (w := (M 46)) (e := e) (hw e hlt) h_42).symm) (nI_1 e)
            | exact ih hlt _ _ _ ((or_sh (by omega)).trans (congrArg (fun q => nI q.1) (hk_same (n := n) (w := (M 46)) (e := e) (hw e hlt) (by rw [← h8]; exact h_32) h_42 h_49).1.symm)) ((hk_same (n := n) (w := (M 46)) (e := e) (hw e hlt) (by rw [← h8]; exact h_32) h_42 h_49).2.symm.trans (congrArg bcV (hk_same (n := n) (w := (M 46)) (e := e) (hw e hlt) (by rw [← h8]; exact h_32) h_42 h_49).1.symm)) (nI_1 e)
            | exact ih hlt _ _ _ ((shl1 (by omega)).trans (congrArg (fun q => nI q.1) (hk_more (n := n) (w := (M 46)) (e := e) (by rw [← h8]; exact h_32) h_49).symm)) (bcV_p.symm.trans (congrArg bcV (hk_more (n := n) (w := (M 46)) (e := e) (by rw [← h8]; exact h_32) h_49).symm)) (nI_1 e)

set_option maxHeartbeats 1000000 in
set_option maxRecDepth 10000 in
theorem ok_X7_heaviest_5 (d : Nat) (M : Nat → Nat → Int32) (ML : Nat → Nat → Int64) {E : Nat} {l h : Nat → Nat} (hT : ∀ v, v < 7 → M 5 v = nI (tmk E l h v) ∧ tmk E l h v < 2048) {N n : Nat} (hN : M 2 0 = nI N) (hN7 : N ≤ 7) (hn : n < 2 ^ 31) (hw : ∀ e, e < N → (-41 : Int32) < (M 46) e) : Ex (d + 3) k_X7_heaviest [.ref 44, .ref 2, .int 5, .int (nI n)] (SH, M, ML) (some (.int (nI (hv n (M 46) N).1)), (SH, M, ML)) := by
  refine Ex_in mi_X7_heaviest rfl rfl ⟨Nat.le_refl _, Nat.le_refl _⟩ ?_
  show RR _ cd_X7_heaviest false _ (0, [(0, .ref 44), (1, .ref 2), (2, .int 5), (3, .int (nI n))], [], (SH, M, ML))
  refine r_cst (v := .int 0) rfl rfl ?_
  refine r_sto (L' := [(0, _), (1, _), (2, _), (3, _), (4, _)]) rfl rfl ?_
  refine r_cst (v := .int (-41)) rfl rfl ?_
  refine r_sto (L' := [(0, _), (1, _), (2, _), (3, _), (4, _), (5, _)]) rfl rfl ?_
  refine r_cst (v := .int 0) rfl rfl ?_
  refine r_sto (L' := [(0, _), (1, _), (2, _), (3, _), (4, _), (5, _), (6, _)]) rfl rfl ?_
  exact lp_X7_heaviest_5 d M ML hT hN hN7 hn hw rfl 0 (Nat.zero_le _) _ _ _ rfl rfl rfl

