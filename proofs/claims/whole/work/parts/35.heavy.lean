/-! ===== the heaviest ===== -/
/-- the heaviest of the nodes below e in the mask n (their mask, their weight; 0, 0: none) -/
def hv (n : Nat) (w : Nat → Int32) : Nat → Nat × Int32
  | 0 => (0, 0)
  | e + 1 => if n.testBit e = true ∧ ((hv n w e).1 = 0 ∨ ¬ w e < (hv n w e).2) then (if (hv n w e).1 = 0 ∨ ¬ w e ≤ (hv n w e).2 then (2 ^ e, w e) else ((hv n w e).1 ||| 2 ^ e, w e)) else hv n w e
theorem hv_lt (n : Nat) (w : Nat → Int32) : ∀ e, (hv n w e).1 < 2 ^ e
  | 0 => Nat.one_pos
  | e + 1 => by
    have h := hv_lt n w e
    have h2 : 2 ^ e < 2 ^ (e + 1) := Nat.pow_lt_pow_right (by decide) (by omega)
    unfold hv
    split
    · split
      · exact h2
      · exact Nat.or_lt_two_pow (by omega) h2
    · omega
theorem hv_0 {n e : Nat} {w : Nat → Int32} (h : n.testBit e = false) : hv n w (e + 1) = hv n w e := by
  rw [hv, if_neg (fun q => by rw [h] at q; exact Bool.noConfusion q.1)]
theorem hv_less {n e : Nat} {w : Nat → Int32} (h1 : ¬ (hv n w e).1 = 0) (h2 : w e < (hv n w e).2) : hv n w (e + 1) = hv n w e := by
  rw [hv, if_neg (fun q => q.2.elim h1 (fun r => r h2))]
theorem hv_first {n e : Nat} {w : Nat → Int32} (h : n.testBit e = true) (h1 : (hv n w e).1 = 0) : hv n w (e + 1) = (2 ^ e, w e) := by
  rw [hv, if_pos ⟨h, Or.inl h1⟩, if_pos (Or.inl h1)]
theorem hv_more {n e : Nat} {w : Nat → Int32} (h : n.testBit e = true) (h2 : ¬ w e < (hv n w e).2) (h3 : ¬ w e ≤ (hv n w e).2) : hv n w (e + 1) = (2 ^ e, w e) := by
  rw [hv, if_pos ⟨h, Or.inr h2⟩, if_pos (Or.inr h3)]
theorem hv_same {n e : Nat} {w : Nat → Int32} (h : n.testBit e = true) (h1 : ¬ (hv n w e).1 = 0) (h2 : ¬ w e < (hv n w e).2) (h3 : w e ≤ (hv n w e).2) : hv n w (e + 1) = ((hv n w e).1 ||| 2 ^ e, w e) := by
  rw [hv, if_pos ⟨h, Or.inr h2⟩, if_neg (fun q => q.elim h1 (fun r => r h3))]
theorem hv_z (n : Nat) (w : Nat → Int32) : hv n w 0 = (0, 0) := rfl
theorem or_sh {g e : Nat} (he : e < 31) : nI g ||| (1 : Int32) <<< (nI e &&& 31) = nI (g ||| 2 ^ e) := by rw [shl1 (by omega), orN]

set_option maxHeartbeats 1000000 in
set_option maxRecDepth 10000 in
theorem lp_X12_mostOf_0 (d : Nat) (M : Nat → Nat → Int32) (ML : Nat → Nat → Int64) {N E A n : Nat} {l h : Nat → Nat} (hS : NM M N E A l h) (hW : WN N E A l h) (hn : n < 2 ^ 31) (ht : ∀ e, e < N → tmk E l h e < 2048)  {res : Rt} (hk : res = (some (.int (nI (hv n (fun e => nI (popc (tmk E l h e))) N).1)), (SH, M, ML))) :
    ∀ e, e ≤ N → ∀ (g9 : Int32) (b9 : Int32) (j9 : Int32), g9 = nI (hv n (fun e => nI (popc (tmk E l h e))) e).1 → b9 = (hv n (fun e => nI (popc (tmk E l h e))) e).2 → j9 = nI e → RR (d + 2) cd_X12_mostOf false res (8, [(0, .ref 73), (1, .int ((nI n))), (2, .int 0), (3, .int g9), (4, .int b9), (5, .int j9)], [], (SH, M, ML)) := by
  refine up_ind fun e he ih => ?_
  intro g9 b9 j9 hv0 hv1 hv2
  subst hv0 hv1 hv2
  refine r_ld rfl rfl ?_
  refine r_ld rfl rfl ?_
  refine q_geti rfl rfl rfl rfl rfl ?_
  refine r_cj rfl rfl (fun h_14 => ?_) (fun h_14 => ?_)
  · have hN7 : N ≤ 7 := hW.2.1
    have h9 : e = N := by have := nle (by omega) (by omega) (show nI N ≤ nI e by rw [← hS.1]; exact h_14); omega
    subst h9
    refine r_ld rfl rfl ?_
    refine r_ret rfl rfl (trivial) ?_
    exact hk
  · have hN7 : N ≤ 7 := hW.2.1
    have hlt : e < N := nnle (by omega) (by omega) (by rw [← hS.1]; exact h_14)
    have h8 : tb (nI n) (nI e) = n.testBit e := tb_nI hn (by omega)
    have hgl : (hv n (fun e => nI (popc (tmk E l h e))) e).1 < 2 ^ 31 := Nat.lt_of_lt_of_le (hv_lt n (fun e => nI (popc (tmk E l h e))) e) (Nat.pow_le_pow_right (by decide) (by omega))
    refine r_ld rfl rfl ?_
    refine q_cjF rfl rfl (fun q => q rfl) ?_
    refine r_ld rfl rfl ?_
    refine r_ld rfl rfl ?_
    refine q_call (as := [_, _]) (rest := []) rfl rfl rfl rfl rfl rfl rfl rfl (ok_X12_edgesOf _ _ _ (by omega) hS hW) ?_
    refine q_call (as := [_]) (rest := []) rfl rfl rfl rfl rfl rfl rfl rfl (ok_bitCount _ _ _ (ht e hlt)) ?_
    refine r_go rfl ?_
    refine r_sto (L' := [(0, _), (1, _), (2, _), (3, _), (4, _), (5, _), (6, _)]) rfl rfl ?_
    refine r_ld rfl rfl ?_
    refine r_ld rfl rfl ?_
    refine q_cife (as := [_, _]) (rest := []) rfl rfl rfl rfl rfl rfl rfl rfl (ok_X12_has ..) rfl (fun h_61 => ?_) (fun h_61 => ?_)
    · refine q_inc (y := _ + 1) rfl rfl rfl ?_
      refine q_norm (L' := [(0, _), (1, _), (2, _), (3, _), (4, _), (5, _), (6, _)]) rfl ?_
      refine r_go rfl ?_
      refine q_keep [0, 1, 2, 3, 4, 5] (L' := [(0, _), (1, _), (2, _), (3, _), (4, _), (5, _)]) rfl ?_
      first
        | exact absurd h_68 h_79
        | exact absurd h_79 h_68
        | exact ih hlt _ _ _ (congrArg (fun q => nI q.1) (hv_0 (n := n) (w := (fun e => nI (popc (tmk E l h e)))) (e := e) (by rw [← h8]; exact h_61)).symm) (congrArg (fun q => q.2) (hv_0 (n := n) (w := (fun e => nI (popc (tmk E l h e)))) (e := e) (by rw [← h8]; exact h_61)).symm) (nI_1 e)
        | exact ih hlt _ _ _ (congrArg (fun q => nI q.1) (hv_less (n := n) (w := (fun e => nI (popc (tmk E l h e)))) (e := e) (fun r => h_68 (congrArg nI r)) h_75).symm) (congrArg (fun q => q.2) (hv_less (n := n) (w := (fun e => nI (popc (tmk E l h e)))) (e := e) (fun r => h_68 (congrArg nI r)) h_75).symm) (nI_1 e)
        | exact ih hlt _ _ _ ((shl1 (by omega)).trans (congrArg (fun q => nI q.1) (hv_first (n := n) (w := (fun e => nI (popc (tmk E l h e)))) (e := e) (by rw [← h8]; exact h_61) (neq (b := 0) hgl (by decide) h_68)).symm)) (congrArg (fun q => q.2) (hv_first (n := n) (w := (fun e => nI (popc (tmk E l h e)))) (e := e) (by rw [← h8]; exact h_61) (neq (b := 0) hgl (by decide) h_68)).symm) (nI_1 e)
        | exact ih hlt _ _ _ ((or_sh (by omega)).trans (congrArg (fun q => nI q.1) (hv_same (n := n) (w := (fun e => nI (popc (tmk E l h e)))) (e := e) (by rw [← h8]; exact h_61) (fun r => h_68 (congrArg nI r)) h_75 h_86).symm)) (congrArg (fun q => q.2) (hv_same (n := n) (w := (fun e => nI (popc (tmk E l h e)))) (e := e) (by rw [← h8]; exact h_61) (fun r => h_68 (congrArg nI r)) h_75 h_86).symm) (nI_1 e)
        | exact ih hlt _ _ _ ((shl1 (by omega)).trans (congrArg (fun q => nI q.1) (hv_more (n := n) (w := (fun e => nI (popc (tmk E l h e)))) (e := e) (by rw [← h8]; exact h_61) h_75 h_86).symm)) (congrArg (fun q => q.2) (hv_more (n := n) (w := (fun e => nI (popc (tmk E l h e)))) (e := e) (by rw [← h8]; exact h_61) h_75 h_86).symm) (nI_1 e)
    · refine r_ld rfl rfl ?_
      refine r_cj rfl rfl (fun h_68 => ?_) (fun h_68 => ?_)
      · refine r_ld rfl rfl ?_
        refine r_cj rfl rfl (fun h_79 => ?_) (fun h_79 => ?_)
        · refine r_cst (v := .int 1) rfl rfl ?_
          refine r_ld rfl rfl ?_
          refine r_bin rfl rfl ?_
          refine r_go rfl ?_
          refine r_sto (L' := [(0, _), (1, _), (2, _), (3, _), (4, _), (5, _), (6, _)]) rfl rfl ?_
          refine r_ld rfl rfl ?_
          refine r_sto (L' := [(0, _), (1, _), (2, _), (3, _), (4, _), (5, _), (6, _)]) rfl rfl ?_
          refine q_inc (y := _ + 1) rfl rfl rfl ?_
          refine q_norm (L' := [(0, _), (1, _), (2, _), (3, _), (4, _), (5, _), (6, _)]) rfl ?_
          refine r_go rfl ?_
          refine q_keep [0, 1, 2, 3, 4, 5] (L' := [(0, _), (1, _), (2, _), (3, _), (4, _), (5, _)]) rfl ?_
          first
            | exact absurd h_68 h_79
            | exact absurd h_79 h_68
            | exact ih hlt _ _ _ (congrArg (fun q => nI q.1) (hv_0 (n := n) (w := (fun e => nI (popc (tmk E l h e)))) (e := e) (by rw [← h8]; exact h_61)).symm) (congrArg (fun q => q.2) (hv_0 (n := n) (w := (fun e => nI (popc (tmk E l h e)))) (e := e) (by rw [← h8]; exact h_61)).symm) (nI_1 e)
            | exact ih hlt _ _ _ (congrArg (fun q => nI q.1) (hv_less (n := n) (w := (fun e => nI (popc (tmk E l h e)))) (e := e) (fun r => h_68 (congrArg nI r)) h_75).symm) (congrArg (fun q => q.2) (hv_less (n := n) (w := (fun e => nI (popc (tmk E l h e)))) (e := e) (fun r => h_68 (congrArg nI r)) h_75).symm) (nI_1 e)
            | exact ih hlt _ _ _ ((shl1 (by omega)).trans (congrArg (fun q => nI q.1) (hv_first (n := n) (w := (fun e => nI (popc (tmk E l h e)))) (e := e) (by rw [← h8]; exact h_61) (neq (b := 0) hgl (by decide) h_68)).symm)) (congrArg (fun q => q.2) (hv_first (n := n) (w := (fun e => nI (popc (tmk E l h e)))) (e := e) (by rw [← h8]; exact h_61) (neq (b := 0) hgl (by decide) h_68)).symm) (nI_1 e)
            | exact ih hlt _ _ _ ((or_sh (by omega)).trans (congrArg (fun q => nI q.1) (hv_same (n := n) (w := (fun e => nI (popc (tmk E l h e)))) (e := e) (by rw [← h8]; exact h_61) (fun r => h_68 (congrArg nI r)) h_75 h_86).symm)) (congrArg (fun q => q.2) (hv_same (n := n) (w := (fun e => nI (popc (tmk E l h e)))) (e := e) (by rw [← h8]; exact h_61) (fun r => h_68 (congrArg nI r)) h_75 h_86).symm) (nI_1 e)
            | exact ih hlt _ _ _ ((shl1 (by omega)).trans (congrArg (fun q => nI q.1) (hv_more (n := n) (w := (fun e => nI (popc (tmk E l h e)))) (e := e) (by rw [← h8]; exact h_61) h_75 h_86).symm)) (congrArg (fun q => q.2) (hv_more (n := n) (w := (fun e => nI (popc (tmk E l h e)))) (e := e) (by rw [← h8]; exact h_61) h_75 h_86).symm) (nI_1 e)
        · refine r_ld rfl rfl ?_
          refine r_ld rfl rfl ?_
          refine r_cj rfl rfl (fun h_86 => ?_) (fun h_86 => ?_)
          · refine r_ld rfl rfl ?_
            refine r_cst (v := .int 1) rfl rfl ?_
            refine r_ld rfl rfl ?_
            refine r_bin rfl rfl ?_
            refine r_bin rfl rfl ?_
            refine r_sto (L' := [(0, _), (1, _), (2, _), (3, _), (4, _), (5, _), (6, _)]) rfl rfl ?_
            refine r_ld rfl rfl ?_
            refine r_sto (L' := [(0, _), (1, _), (2, _), (3, _), (4, _), (5, _), (6, _)]) rfl rfl ?_
            refine q_inc (y := _ + 1) rfl rfl rfl ?_
            refine q_norm (L' := [(0, _), (1, _), (2, _), (3, _), (4, _), (5, _), (6, _)]) rfl ?_
            refine r_go rfl ?_
            refine q_keep [0, 1, 2, 3, 4, 5] (L' := [(0, _), (1, _), (2, _), (3, _), (4, _), (5, _)]) rfl ?_
            first
              | exact absurd h_68 h_79
              | exact absurd h_79 h_68
              | exact ih hlt _ _ _ (congrArg (fun q => nI q.1) (hv_0 (n := n) (w := (fun e => nI (popc (tmk E l h e)))) (e := e) (by rw [← h8]; exact h_61)).symm) (congrArg (fun q => q.2) (hv_0 (n := n) (w := (fun e => nI (popc (tmk E l h e)))) (e := e) (by rw [← h8]; exact h_61)).symm) (nI_1 e)
              | exact ih hlt _ _ _ (congrArg (fun q => nI q.1) (hv_less (n := n) (w := (fun e => nI (popc (tmk E l h e)))) (e := e) (fun r => h_68 (congrArg nI r)) h_75).symm) (congrArg (fun q => q.2) (hv_less (n := n) (w := (fun e => nI (popc (tmk E l h e)))) (e := e) (fun r => h_68 (congrArg nI r)) h_75).symm) (nI_1 e)
              | exact ih hlt _ _ _ ((shl1 (by omega)).trans (congrArg (fun q => nI q.1) (hv_first (n := n) (w := (fun e => nI (popc (tmk E l h e)))) (e := e) (by rw [← h8]; exact h_61) (neq (b := 0) hgl (by decide) h_68)).symm)) (congrArg (fun q => q.2) (hv_first (n := n) (w := (fun e => nI (popc (tmk E l h e)))) (e := e) (by rw [← h8]; exact h_61) (neq (b := 0) hgl (by decide) h_68)).symm) (nI_1 e)
              | exact ih hlt _ _ _ ((or_sh (by omega)).trans (congrArg (fun q => nI q.1) (hv_same (n := n) (w := (fun e => nI (popc (tmk E l h e)))) (e := e) (by rw [← h8]; exact h_61) (fun r => h_68 (congrArg nI r)) h_75 h_86).symm)) (congrArg (fun q => q.2) (hv_same (n := n) (w := (fun e => nI (popc (tmk E l h e)))) (e := e) (by rw [← h8]; exact h_61) (fun r => h_68 (congrArg nI r)) h_75 h_86).symm) (nI_1 e)
              | exact ih hlt _ _ _ ((shl1 (by omega)).trans (congrArg (fun q => nI q.1) (hv_more (n := n) (w := (fun e => nI (popc (tmk E l h e)))) (e := e) (by rw [← h8]; exact h_61) h_75 h_86).symm)) (congrArg (fun q => q.2) (hv_more (n := n) (w := (fun e => nI (popc (tmk E l h e)))) (e := e) (by rw [← h8]; exact h_61) h_75 h_86).symm) (nI_1 e)
          · refine r_cst (v := .int 1) rfl rfl ?_
            refine r_ld rfl rfl ?_
            refine r_bin rfl rfl ?_
            refine r_go rfl ?_
            refine r_sto (L' := [(0, _), (1, _), (2, _), (3, _), (4, _), (5, _), (6, _)]) rfl rfl ?_
            refine r_ld rfl rfl ?_
            refine r_sto (L' := [(0, _), (1, _), (2, _), (3, _), (4, _), (5, _), (6, _)]) rfl rfl ?_
            refine q_inc (y := _ + 1) rfl rfl rfl ?_
            refine q_norm (L' := [(0, _), (1, _), (2, _), (3, _), (4, _), (5, _), (6, _)]) rfl ?_
            refine r_go rfl ?_
            refine q_keep [0, 1, 2, 3, 4, 5] (L' := [(0, _), (1, _), (2, _), (3, _), (4, _), (5, _)]) rfl ?_
            first
              | exact absurd h_68 h_79
              | exact absurd h_79 h_68
              | exact ih hlt _ _ _ (congrArg (fun q => nI q.1) (hv_0 (n := n) (w := (fun e => nI (popc (tmk E l h e)))) (e := e) (by rw [← h8]; exact h_61)).symm) (congrArg (fun q => q.2) (hv_0 (n := n) (w := (fun e => nI (popc (tmk E l h e)))) (e := e) (by rw [← h8]; exact h_61)).symm) (nI_1 e)
              | exact ih hlt _ _ _ (congrArg (fun q => nI q.1) (hv_less (n := n) (w := (fun e => nI (popc (tmk E l h e)))) (e := e) (fun r => h_68 (congrArg nI r)) h_75).symm) (congrArg (fun q => q.2) (hv_less (n := n) (w := (fun e => nI (popc (tmk E l h e)))) (e := e) (fun r => h_68 (congrArg nI r)) h_75).symm) (nI_1 e)
              | exact ih hlt _ _ _ ((shl1 (by omega)).trans (congrArg (fun q => nI q.1) (hv_first (n := n) (w := (fun e => nI (popc (tmk E l h e)))) (e := e) (by rw [← h8]; exact h_61) (neq (b := 0) hgl (by decide) h_68)).symm)) (congrArg (fun q => q.2) (hv_first (n := n) (w := (fun e => nI (popc (tmk E l h e)))) (e := e) (by rw [← h8]; exact h_61) (neq (b := 0) hgl (by decide) h_68)).symm) (nI_1 e)
              | exact ih hlt _ _ _ ((or_sh (by omega)).trans (congrArg (fun q => nI q.1) (hv_same (n := n) (w := (fun e => nI (popc (tmk E l h e)))) (e := e) (by rw [← h8]; exact h_61) (fun r => h_68 (congrArg nI r)) h_75 h_86).symm)) (congrArg (fun q => q.2) (hv_same (n := n) (w := (fun e => nI (popc (tmk E l h e)))) (e := e) (by rw [← h8]; exact h_61) (fun r => h_68 (congrArg nI r)) h_75 h_86).symm) (nI_1 e)
              | exact ih hlt _ _ _ ((shl1 (by omega)).trans (congrArg (fun q => nI q.1) (hv_more (n := n) (w := (fun e => nI (popc (tmk E l h e)))) (e := e) (by rw [← h8]; exact h_61) h_75 h_86).symm)) (congrArg (fun q => q.2) (hv_more (n := n) (w := (fun e => nI (popc (tmk E l h e)))) (e := e) (by rw [← h8]; exact h_61) h_75 h_86).symm) (nI_1 e)
      · refine r_ld rfl rfl ?_
        refine r_ld rfl rfl ?_
        refine r_cj rfl rfl (fun h_75 => ?_) (fun h_75 => ?_)
        · refine q_inc (y := _ + 1) rfl rfl rfl ?_
          refine q_norm (L' := [(0, _), (1, _), (2, _), (3, _), (4, _), (5, _), (6, _)]) rfl ?_
          refine r_go rfl ?_
          refine q_keep [0, 1, 2, 3, 4, 5] (L' := [(0, _), (1, _), (2, _), (3, _), (4, _), (5, _)]) rfl ?_
          first
            | exact absurd h_68 h_79
            | exact absurd h_79 h_68
            | exact ih hlt _ _ _ (congrArg (fun q => nI q.1) (hv_0 (n := n) (w := (fun e => nI (popc (tmk E l h e)))) (e := e) (by rw [← h8]; exact h_61)).symm) (congrArg (fun q => q.2) (hv_0 (n := n) (w := (fun e => nI (popc (tmk E l h e)))) (e := e) (by rw [← h8]; exact h_61)).symm) (nI_1 e)
            | exact ih hlt _ _ _ (congrArg (fun q => nI q.1) (hv_less (n := n) (w := (fun e => nI (popc (tmk E l h e)))) (e := e) (fun r => h_68 (congrArg nI r)) h_75).symm) (congrArg (fun q => q.2) (hv_less (n := n) (w := (fun e => nI (popc (tmk E l h e)))) (e := e) (fun r => h_68 (congrArg nI r)) h_75).symm) (nI_1 e)
            | exact ih hlt _ _ _ ((shl1 (by omega)).trans (congrArg (fun q => nI q.1) (hv_first (n := n) (w := (fun e => nI (popc (tmk E l h e)))) (e := e) (by rw [← h8]; exact h_61) (neq (b := 0) hgl (by decide) h_68)).symm)) (congrArg (fun q => q.2) (hv_first (n := n) (w := (fun e => nI (popc (tmk E l h e)))) (e := e) (by rw [← h8]; exact h_61) (neq (b := 0) hgl (by decide) h_68)).symm) (nI_1 e)
            | exact ih hlt _ _ _ ((or_sh (by omega)).trans (congrArg (fun q => nI q.1) (hv_same (n := n) (w := (fun e => nI (popc (tmk E l h e)))) (e := e) (by rw [← h8]; exact h_61) (fun r => h_68 (congrArg nI r)) h_75 h_86).symm)) (congrArg (fun q => q.2) (hv_same (n := n) (w := (fun e => nI (popc (tmk E l h e)))) (e := e) (by rw [← h8]; exact h_61) (fun r => h_68 (congrArg nI r)) h_75 h_86).symm) (nI_1 e)
            | exact ih hlt _ _ _ ((shl1 (by omega)).trans (congrArg (fun q => nI q.1) (hv_more (n := n) (w := (fun e => nI (popc (tmk E l h e)))) (e := e) (by rw [← h8]; exact h_61) h_75 h_86).symm)) (congrArg (fun q => q.2) (hv_more (n := n) (w := (fun e => nI (popc (tmk E l h e)))) (e := e) (by rw [← h8]; exact h_61) h_75 h_86).symm) (nI_1 e)
        · refine r_ld rfl rfl ?_
          refine r_cj rfl rfl (fun h_79 => ?_) (fun h_79 => ?_)
          · refine r_cst (v := .int 1) rfl rfl ?_
            refine r_ld rfl rfl ?_
            refine r_bin rfl rfl ?_
            refine r_go rfl ?_
            refine r_sto (L' := [(0, _), (1, _), (2, _), (3, _), (4, _), (5, _), (6, _)]) rfl rfl ?_
            refine r_ld rfl rfl ?_
            refine r_sto (L' := [(0, _), (1, _), (2, _), (3, _), (4, _), (5, _), (6, _)]) rfl rfl ?_
            refine q_inc (y := _ + 1) rfl rfl rfl ?_
            refine q_norm (L' := [(0, _), (1, _), (2, _), (3, _), (4, _), (5, _), (6, _)]) rfl ?_
            refine r_go rfl ?_
            refine q_keep [0, 1, 2, 3, 4, 5] (L' := [(0, _), (1, _), (2, _), (3, _), (4, _), (5, _)]) rfl ?_
            first
              | exact absurd h_68 h_79
              | exact absurd h_79 h_68
              | exact ih hlt _ _ _ (congrArg (fun q => nI q.1) (hv_0 (n := n) (w := (fun e => nI (popc (tmk E l h e)))) (e := e) (by rw [← h8]; exact h_61)).symm) (congrArg (fun q => q.2) (hv_0 (n := n) (w := (fun e => nI (popc (tmk E l h e)))) (e := e) (by rw [← h8]; exact h_61)).symm) (nI_1 e)
              | exact ih hlt _ _ _ (congrArg (fun q => nI q.1) (hv_less (n := n) (w := (fun e => nI (popc (tmk E l h e)))) (e := e) (fun r => h_68 (congrArg nI r)) h_75).symm) (congrArg (fun q => q.2) (hv_less (n := n) (w := (fun e => nI (popc (tmk E l h e)))) (e := e) (fun r => h_68 (congrArg nI r)) h_75).symm) (nI_1 e)
              | exact ih hlt _ _ _ ((shl1 (by omega)).trans (congrArg (fun q => nI q.1) (hv_first (n := n) (w := (fun e => nI (popc (tmk E l h e)))) (e := e) (by rw [← h8]; exact h_61) (neq (b := 0) hgl (by decide) h_68)).symm)) (congrArg (fun q => q.2) (hv_first (n := n) (w := (fun e => nI (popc (tmk E l h e)))) (e := e) (by rw [← h8]; exact h_61) (neq (b := 0) hgl (by decide) h_68)).symm) (nI_1 e)
              | exact ih hlt _ _ _ ((or_sh (by omega)).trans (congrArg (fun q => nI q.1) (hv_same (n := n) (w := (fun e => nI (popc (tmk E l h e)))) (e := e) (by rw [← h8]; exact h_61) (fun r => h_68 (congrArg nI r)) h_75 h_86).symm)) (congrArg (fun q => q.2) (hv_same (n := n) (w := (fun e => nI (popc (tmk E l h e)))) (e := e) (by rw [← h8]; exact h_61) (fun r => h_68 (congrArg nI r)) h_75 h_86).symm) (nI_1 e)
              | exact ih hlt _ _ _ ((shl1 (by omega)).trans (congrArg (fun q => nI q.1) (hv_more (n := n) (w := (fun e => nI (popc (tmk E l h e)))) (e := e) (by rw [← h8]; exact h_61) h_75 h_86).symm)) (congrArg (fun q => q.2) (hv_more (n := n) (w := (fun e => nI (popc (tmk E l h e)))) (e := e) (by rw [← h8]; exact h_61) h_75 h_86).symm) (nI_1 e)
          · refine r_ld rfl rfl ?_
            refine r_ld rfl rfl ?_
            refine r_cj rfl rfl (fun h_86 => ?_) (fun h_86 => ?_)
            · refine r_ld rfl rfl ?_
              refine r_cst (v := .int 1) rfl rfl ?_
              refine r_ld rfl rfl ?_
              refine r_bin rfl rfl ?_
              refine r_bin rfl rfl ?_
              refine r_sto (L' := [(0, _), (1, _), (2, _), (3, _), (4, _), (5, _), (6, _)]) rfl rfl ?_
              refine r_ld rfl rfl ?_
              refine r_sto (L' := [(0, _), (1, _), (2, _), (3, _), (4, _), (5, _), (6, _)]) rfl rfl ?_
              refine q_inc (y := _ + 1) rfl rfl rfl ?_
              refine q_norm (L' := [(0, _), (1, _), (2, _), (3, _), (4, _), (5, _), (6, _)]) rfl ?_
              refine r_go rfl ?_
              refine q_keep [0, 1, 2, 3, 4, 5] (L' := [(0, _), (1, _), (2, _), (3, _), (4, _), (5, _)]) rfl ?_
              first
                | exact absurd h_68 h_79
                | exact absurd h_79 h_68
                | exact ih hlt _ _ _ (congrArg (fun q => nI q.1) (hv_0 (n := n) (w := (fun e => nI (popc (tmk E l h e)))) (e := e) (by rw [← h8]; exact h_61)).symm) (congrArg (fun q => q.2) (hv_0 (n := n) (w := (fun e => nI (popc (tmk E l h e)))) (e := e) (by rw [← h8]; exact h_61)).symm) (nI_1 e)
                | exact ih hlt _ _ _ (congrArg (fun q => nI q.1) (hv_less (n := n) (w := (fun e => nI (popc (tmk E l h e)))) (e := e) (fun r => h_68 (congrArg nI r)) h_75).symm) (congrArg (fun q => q.2) (hv_less (n := n) (w := (fun e => nI (popc (tmk E l h e)))) (e := e) (fun r => h_68 (congrArg nI r)) h_75).symm) (nI_1 e)
                | exact ih hlt _ _ _ ((shl1 (by omega)).trans (congrArg (fun q => nI q.1) (hv_first (n := n) (w := (fun e => nI (popc (tmk E l h e)))) (e := e) (by rw [← h8]; exact h_61) (neq (b := 0) hgl (by decide) h_68)).symm)) (congrArg (fun q => q.2) (hv_first (n := n) (w := (fun e => nI (popc (tmk E l h e)))) (e := e) (by rw [← h8]; exact h_61) (neq (b := 0) hgl (by decide) h_68)).symm) (nI_1 e)
                | exact ih hlt _ _ _ ((or_sh (by omega)).trans (congrArg (fun q => nI q.1) (hv_same (n := n) (w := (fun e => nI (popc (tmk E l h e)))) (e := e) (by rw [← h8]; exact h_61) (fun r => h_68 (congrArg nI r)) h_75 h_86).symm)) (congrArg (fun q => q.2) (hv_same (n := n) (w := (fun e => nI (popc (tmk E l h e)))) (e := e) (by rw [← h8]; exact h_61) (fun r => h_68 (congrArg nI r)) h_75 h_86).symm) (nI_1 e)
                | exact ih hlt _ _ _ ((shl1 (by omega)).trans (congrArg (fun q => nI q.1) (hv_more (n := n) (w := (fun e => nI (popc (tmk E l h e)))) (e := e) (by rw [← h8]; exact h_61) h_75 h_86).symm)) (congrArg (fun q => q.2) (hv_more (n := n) (w := (fun e => nI (popc (tmk E l h e)))) (e := e) (by rw [← h8]; exact h_61) h_75 h_86).symm) (nI_1 e)
            · refine r_cst (v := .int 1) rfl rfl ?_
              refine r_ld rfl rfl ?_
              refine r_bin rfl rfl ?_
              refine r_go rfl ?_
              refine r_sto (L' := [(0, _), (1, _), (2, _), (3, _), (4, _), (5, _), (6, _)]) rfl rfl ?_
              refine r_ld rfl rfl ?_
              refine r_sto (L' := [(0, _), (1, _), (2, _), (3, _), (4, _), (5, _), (6, _)]) rfl rfl ?_
              refine q_inc (y := _ + 1) rfl rfl rfl ?_
              refine q_norm (L' := [(0, _), (1, _), (2, _), (3, _), (4, _), (5, _), (6, _)]) rfl ?_
              refine r_go rfl ?_
              refine q_keep [0, 1, 2, 3, 4, 5] (L' := [(0, _), (1, _), (2, _), (3, _), (4, _), (5, _)]) rfl ?_
              first
                | exact absurd h_68 h_79
                | exact absurd h_79 h_68
                | exact ih hlt _ _ _ (congrArg (fun q => nI q.1) (hv_0 (n := n) (w := (fun e => nI (popc (tmk E l h e)))) (e := e) (by rw [← h8]; exact h_61)).symm) (congrArg (fun q => q.2) (hv_0 (n := n) (w := (fun e => nI (popc (tmk E l h e)))) (e := e) (by rw [← h8]; exact h_61)).symm) (nI_1 e)
                | exact ih hlt _ _ _ (congrArg (fun q => nI q.1) (hv_less (n := n) (w := (fun e => nI (popc (tmk E l h e)))) (e := e) (fun r => h_68 (congrArg nI r)) h_75).symm) (congrArg (fun q => q.2) (hv_less (n := n) (w := (fun e => nI (popc (tmk E l h e)))) (e := e) (fun r => h_68 (congrArg nI r)) h_75).symm) (nI_1 e)
                | exact ih hlt _ _ _ ((shl1 (by omega)).trans (congrArg (fun q => nI q.1) (hv_first (n := n) (w := (fun e => nI (popc (tmk E l h e)))) (e := e) (by rw [← h8]; exact h_61) (neq (b := 0) hgl (by decide) h_68)).symm)) (congrArg (fun q => q.2) (hv_first (n := n) (w := (fun e => nI (popc (tmk E l h e)))) (e := e) (by rw [← h8]; exact h_61) (neq (b := 0) hgl (by decide) h_68)).symm) (nI_1 e)
                | exact ih hlt _ _ _ ((or_sh (by omega)).trans (congrArg (fun q => nI q.1) (hv_same (n := n) (w := (fun e => nI (popc (tmk E l h e)))) (e := e) (by rw [← h8]; exact h_61) (fun r => h_68 (congrArg nI r)) h_75 h_86).symm)) (congrArg (fun q => q.2) (hv_same (n := n) (w := (fun e => nI (popc (tmk E l h e)))) (e := e) (by rw [← h8]; exact h_61) (fun r => h_68 (congrArg nI r)) h_75 h_86).symm) (nI_1 e)
                | exact ih hlt _ _ _ ((shl1 (by omega)).trans (congrArg (fun q => nI q.1) (hv_more (n := n) (w := (fun e => nI (popc (tmk E l h e)))) (e := e) (by rw [← h8]; exact h_61) h_75 h_86).symm)) (congrArg (fun q => q.2) (hv_more (n := n) (w := (fun e => nI (popc (tmk E l h e)))) (e := e) (by rw [← h8]; exact h_61) h_75 h_86).symm) (nI_1 e)

set_option maxHeartbeats 1000000 in
set_option maxRecDepth 10000 in
theorem ok_X12_mostOf_0 (d : Nat) (M : Nat → Nat → Int32) (ML : Nat → Nat → Int64) {N E A n : Nat} {l h : Nat → Nat} (hS : NM M N E A l h) (hW : WN N E A l h) (hn : n < 2 ^ 31) (ht : ∀ e, e < N → tmk E l h e < 2048) : Ex (d + 3) k_X12_mostOf [.ref 73, .int (nI n), .int 0] (SH, M, ML) (some (.int (nI (hv n (fun e => nI (popc (tmk E l h e))) N).1)), (SH, M, ML)) := by
  refine Ex_in mi_X12_mostOf rfl rfl ⟨Nat.le_refl _, Nat.le_refl _⟩ ?_
  show RR _ cd_X12_mostOf false _ (0, [(0, .ref 73), (1, .int (nI n)), (2, .int 0)], [], (SH, M, ML))
  refine r_cst (v := .int 0) rfl rfl ?_
  refine r_sto (L' := [(0, _), (1, _), (2, _), (3, _)]) rfl rfl ?_
  refine r_cst (v := .int 0) rfl rfl ?_
  refine r_sto (L' := [(0, _), (1, _), (2, _), (3, _), (4, _)]) rfl rfl ?_
  refine r_cst (v := .int 0) rfl rfl ?_
  refine r_sto (L' := [(0, _), (1, _), (2, _), (3, _), (4, _), (5, _)]) rfl rfl ?_
  exact lp_X12_mostOf_0 d M ML hS hW hn ht rfl 0 (Nat.zero_le _) _ _ _ (by rw [hv_z]; rfl) (by rw [hv_z]) rfl

set_option maxHeartbeats 1000000 in
set_option maxRecDepth 10000 in
theorem lp_X12_mostOf_1 (d : Nat) (M : Nat → Nat → Int32) (ML : Nat → Nat → Int64) {N E A n : Nat} {l h : Nat → Nat} (hS : NM M N E A l h) (hW : WN N E A l h) (hn : n < 2 ^ 31) (ht : ∀ e, e < N → tmk E l h e < 2048)  {res : Rt} (hk : res = (some (.int (nI (hv n (M 97) N).1)), (SH, M, ML))) :
    ∀ e, e ≤ N → ∀ (g9 : Int32) (b9 : Int32) (j9 : Int32), g9 = nI (hv n (M 97) e).1 → b9 = (hv n (M 97) e).2 → j9 = nI e → RR (d + 2) cd_X12_mostOf false res (8, [(0, .ref 73), (1, .int ((nI n))), (2, .int 1), (3, .int g9), (4, .int b9), (5, .int j9)], [], (SH, M, ML)) := by
  refine up_ind fun e he ih => ?_
  intro g9 b9 j9 hv0 hv1 hv2
  subst hv0 hv1 hv2
  refine r_ld rfl rfl ?_
  refine r_ld rfl rfl ?_
  refine q_geti rfl rfl rfl rfl rfl ?_
  refine r_cj rfl rfl (fun h_14 => ?_) (fun h_14 => ?_)
  · have hN7 : N ≤ 7 := hW.2.1
    have h9 : e = N := by have := nle (by omega) (by omega) (show nI N ≤ nI e by rw [← hS.1]; exact h_14); omega
    subst h9
    refine r_ld rfl rfl ?_
    refine r_ret rfl rfl (trivial) ?_
    exact hk
  · have hN7 : N ≤ 7 := hW.2.1
    have hlt : e < N := nnle (by omega) (by omega) (by rw [← hS.1]; exact h_14)
    have h8 : tb (nI n) (nI e) = n.testBit e := tb_nI hn (by omega)
    have hgl : (hv n (M 97) e).1 < 2 ^ 31 := Nat.lt_of_lt_of_le (hv_lt n (M 97) e) (Nat.pow_le_pow_right (by decide) (by omega))
    refine r_ld rfl rfl ?_
    refine q_cjT rfl rfl (by decide) ?_
    refine r_ld rfl rfl ?_
    refine r_cst (v := .int 1) rfl rfl ?_
    refine q_cjF rfl rfl (fun q => q rfl) ?_
    refine r_ld rfl rfl ?_
    refine q_getr rfl rfl rfl rfl rfl ?_
    refine r_ld rfl rfl ?_
    refine q_ain rfl rfl rfl (rfl) (by omega) rfl ?_
    refine r_go rfl ?_
    refine r_sto (L' := [(0, _), (1, _), (2, _), (3, _), (4, _), (5, _), (6, _)]) rfl rfl ?_
    refine r_ld rfl rfl ?_
    refine r_ld rfl rfl ?_
    refine q_cife (as := [_, _]) (rest := []) rfl rfl rfl rfl rfl rfl rfl rfl (ok_X12_has ..) rfl (fun h_61 => ?_) (fun h_61 => ?_)
    · refine q_inc (y := _ + 1) rfl rfl rfl ?_
      refine q_norm (L' := [(0, _), (1, _), (2, _), (3, _), (4, _), (5, _), (6, _)]) rfl ?_
      refine r_go rfl ?_
      refine q_keep [0, 1, 2, 3, 4, 5] (L' := [(0, _), (1, _), (2, _), (3, _), (4, _), (5, _)]) rfl ?_
      first
        | exact absurd h_68 h_79
        | exact absurd h_79 h_68
        | exact ih hlt _ _ _ (congrArg (fun q => nI q.1) (hv_0 (n := n) (w := (M 97)) (e := e) (by rw [← h8]; exact h_61)).symm) (congrArg (fun q => q.2) (hv_0 (n := n) (w := (M 97)) (e := e) (by rw [← h8]; exact h_61)).symm) (nI_1 e)
        | exact ih hlt _ _ _ (congrArg (fun q => nI q.1) (hv_less (n := n) (w := (M 97)) (e := e) (fun r => h_68 (congrArg nI r)) h_75).symm) (congrArg (fun q => q.2) (hv_less (n := n) (w := (M 97)) (e := e) (fun r => h_68 (congrArg nI r)) h_75).symm) (nI_1 e)
        | exact ih hlt _ _ _ ((shl1 (by omega)).trans (congrArg (fun q => nI q.1) (hv_first (n := n) (w := (M 97)) (e := e) (by rw [← h8]; exact h_61) (neq (b := 0) hgl (by decide) h_68)).symm)) (congrArg (fun q => q.2) (hv_first (n := n) (w := (M 97)) (e := e) (by rw [← h8]; exact h_61) (neq (b := 0) hgl (by decide) h_68)).symm) (nI_1 e)
        | exact ih hlt _ _ _ ((or_sh (by omega)).trans (congrArg (fun q => nI q.1) (hv_same (n := n) (w := (M 97)) (e := e) (by rw [← h8]; exact h_61) (fun r => h_68 (congrArg nI r)) h_75 h_86).symm)) (congrArg (fun q => q.2) (hv_same (n := n) (w := (M 97)) (e := e) (by rw [← h8]; exact h_61) (fun r => h_68 (congrArg nI r)) h_75 h_86).symm) (nI_1 e)
        | exact ih hlt _ _ _ ((shl1 (by omega)).trans (congrArg (fun q => nI q.1) (hv_more (n := n) (w := (M 97)) (e := e) (by rw [← h8]; exact h_61) h_75 h_86).symm)) (congrArg (fun q => q.2) (hv_more (n := n) (w := (M 97)) (e := e) (by rw [← h8]; exact h_61) h_75 h_86).symm) (nI_1 e)
    · refine r_ld rfl rfl ?_
      refine r_cj rfl rfl (fun h_68 => ?_) (fun h_68 => ?_)
      · refine r_ld rfl rfl ?_
        refine r_cj rfl rfl (fun h_79 => ?_) (fun h_79 => ?_)
        · refine r_cst (v := .int 1) rfl rfl ?_
          refine r_ld rfl rfl ?_
          refine r_bin rfl rfl ?_
          refine r_go rfl ?_
          refine r_sto (L' := [(0, _), (1, _), (2, _), (3, _), (4, _), (5, _), (6, _)]) rfl rfl ?_
          refine r_ld rfl rfl ?_
          refine r_sto (L' := [(0, _), (1, _), (2, _), (3, _), (4, _), (5, _), (6, _)]) rfl rfl ?_
          refine q_inc (y := _ + 1) rfl rfl rfl ?_
          refine q_norm (L' := [(0, _), (1, _), (2, _), (3, _), (4, _), (5, _), (6, _)]) rfl ?_
          refine r_go rfl ?_
          refine q_keep [0, 1, 2, 3, 4, 5] (L' := [(0, _), (1, _), (2, _), (3, _), (4, _), (5, _)]) rfl ?_
          first
            | exact absurd h_68 h_79
            | exact absurd h_79 h_68
            | exact ih hlt _ _ _ (congrArg (fun q => nI q.1) (hv_0 (n := n) (w := (M 97)) (e := e) (by rw [← h8]; exact h_61)).symm) (congrArg (fun q => q.2) (hv_0 (n := n) (w := (M 97)) (e := e) (by rw [← h8]; exact h_61)).symm) (nI_1 e)
            | exact ih hlt _ _ _ (congrArg (fun q => nI q.1) (hv_less (n := n) (w := (M 97)) (e := e) (fun r => h_68 (congrArg nI r)) h_75).symm) (congrArg (fun q => q.2) (hv_less (n := n) (w := (M 97)) (e := e) (fun r => h_68 (congrArg nI r)) h_75).symm) (nI_1 e)
            | exact ih hlt _ _ _ ((shl1 (by omega)).trans (congrArg (fun q => nI q.1) (hv_first (n := n) (w := (M 97)) (e := e) (by rw [← h8]; exact h_61) (neq (b := 0) hgl (by decide) h_68)).symm)) (congrArg (fun q => q.2) (hv_first (n := n) (w := (M 97)) (e := e) (by rw [← h8]; exact h_61) (neq (b := 0) hgl (by decide) h_68)).symm) (nI_1 e)
            | exact ih hlt _ _ _ ((or_sh (by omega)).trans (congrArg (fun q => nI q.1) (hv_same (n := n) (w := (M 97)) (e := e) (by rw [← h8]; exact h_61) (fun r => h_68 (congrArg nI r)) h_75 h_86).symm)) (congrArg (fun q => q.2) (hv_same (n := n) (w := (M 97)) (e := e) (by rw [← h8]; exact h_61) (fun r => h_68 (congrArg nI r)) h_75 h_86).symm) (nI_1 e)
            | exact ih hlt _ _ _ ((shl1 (by omega)).trans (congrArg (fun q => nI q.1) (hv_more (n := n) (w := (M 97)) (e := e) (by rw [← h8]; exact h_61) h_75 h_86).symm)) (congrArg (fun q => q.2) (hv_more (n := n) (w := (M 97)) (e := e) (by rw [← h8]; exact h_61) h_75 h_86).symm) (nI_1 e)
        · refine r_ld rfl rfl ?_
          refine r_ld rfl rfl ?_
          refine r_cj rfl rfl (fun h_86 => ?_) (fun h_86 => ?_)
          · refine r_ld rfl rfl ?_
            refine r_cst (v := .int 1) rfl rfl ?_
            refine r_ld rfl rfl ?_
            refine r_bin rfl rfl ?_
            refine r_bin rfl rfl ?_
            refine r_sto (L' := [(0, _), (1, _), (2, _), (3, _), (4, _), (5, _), (6, _)]) rfl rfl ?_
            refine r_ld rfl rfl ?_
            refine r_sto (L' := [(0, _), (1, _), (2, _), (3, _), (4, _), (5, _), (6, _)]) rfl rfl ?_
            refine q_inc (y := _ + 1) rfl rfl rfl ?_
            refine q_norm (L' := [(0, _), (1, _), (2, _), (3, _), (4, _), (5, _), (6, _)]) rfl ?_
            refine r_go rfl ?_
            refine q_keep [0, 1, 2, 3, 4, 5] (L' := [(0, _), (1, _), (2, _), (3, _), (4, _), (5, _)]) rfl ?_
            first
              | exact absurd h_68 h_79
              | exact absurd h_79 h_68
              | exact ih hlt _ _ _ (congrArg (fun q => nI q.1) (hv_0 (n := n) (w := (M 97)) (e := e) (by rw [← h8]; exact h_61)).symm) (congrArg (fun q => q.2) (hv_0 (n := n) (w := (M 97)) (e := e) (by rw [← h8]; exact h_61)).symm) (nI_1 e)
              | exact ih hlt _ _ _ (congrArg (fun q => nI q.1) (hv_less (n := n) (w := (M 97)) (e := e) (fun r => h_68 (congrArg nI r)) h_75).symm) (congrArg (fun q => q.2) (hv_less (n := n) (w := (M 97)) (e := e) (fun r => h_68 (congrArg nI r)) h_75).symm) (nI_1 e)
              | exact ih hlt _ _ _ ((shl1 (by omega)).trans (congrArg (fun q => nI q.1) (hv_first (n := n) (w := (M 97)) (e := e) (by rw [← h8]; exact h_61) (neq (b := 0) hgl (by decide) h_68)).symm)) (congrArg (fun q => q.2) (hv_first (n := n) (w := (M 97)) (e := e) (by rw [← h8]; exact h_61) (neq (b := 0) hgl (by decide) h_68)).symm) (nI_1 e)
              | exact ih hlt _ _ _ ((or_sh (by omega)).trans (congrArg (fun q => nI q.1) (hv_same (n := n) (w := (M 97)) (e := e) (by rw [← h8]; exact h_61) (fun r => h_68 (congrArg nI r)) h_75 h_86).symm)) (congrArg (fun q => q.2) (hv_same (n := n) (w := (M 97)) (e := e) (by rw [← h8]; exact h_61) (fun r => h_68 (congrArg nI r)) h_75 h_86).symm) (nI_1 e)
              | exact ih hlt _ _ _ ((shl1 (by omega)).trans (congrArg (fun q => nI q.1) (hv_more (n := n) (w := (M 97)) (e := e) (by rw [← h8]; exact h_61) h_75 h_86).symm)) (congrArg (fun q => q.2) (hv_more (n := n) (w := (M 97)) (e := e) (by rw [← h8]; exact h_61) h_75 h_86).symm) (nI_1 e)
          · refine r_cst (v := .int 1) rfl rfl ?_
            refine r_ld rfl rfl ?_
            refine r_bin rfl rfl ?_
            refine r_go rfl ?_
            refine r_sto (L' := [(0, _), (1, _), (2, _), (3, _), (4, _), (5, _), (6, _)]) rfl rfl ?_
            refine r_ld rfl rfl ?_
            refine r_sto (L' := [(0, _), (1, _), (2, _), (3, _), (4, _), (5, _), (6, _)]) rfl rfl ?_
            refine q_inc (y := _ + 1) rfl rfl rfl ?_
            refine q_norm (L' := [(0, _), (1, _), (2, _), (3, _), (4, _), (5, _), (6, _)]) rfl ?_
            refine r_go rfl ?_
            refine q_keep [0, 1, 2, 3, 4, 5] (L' := [(0, _), (1, _), (2, _), (3, _), (4, _), (5, _)]) rfl ?_
            first
              | exact absurd h_68 h_79
              | exact absurd h_79 h_68
              | exact ih hlt _ _ _ (congrArg (fun q => nI q.1) (hv_0 (n := n) (w := (M 97)) (e := e) (by rw [← h8]; exact h_61)).symm) (congrArg (fun q => q.2) (hv_0 (n := n) (w := (M 97)) (e := e) (by rw [← h8]; exact h_61)).symm) (nI_1 e)
              | exact ih hlt _ _ _ (congrArg (fun q => nI q.1) (hv_less (n := n) (w := (M 97)) (e := e) (fun r => h_68 (congrArg nI r)) h_75).symm) (congrArg (fun q => q.2) (hv_less (n := n) (w := (M 97)) (e := e) (fun r => h_68 (congrArg nI r)) h_75).symm) (nI_1 e)
              | exact ih hlt _ _ _ ((shl1 (by omega)).trans (congrArg (fun q => nI q.1) (hv_first (n := n) (w := (M 97)) (e := e) (by rw [← h8]; exact h_61) (neq (b := 0) hgl (by decide) h_68)).symm)) (congrArg (fun q => q.2) (hv_first (n := n) (w := (M 97)) (e := e) (by rw [← h8]; exact h_61) (neq (b := 0) hgl (by decide) h_68)).symm) (nI_1 e)
              | exact ih hlt _ _ _ ((or_sh (by omega)).trans (congrArg (fun q => nI q.1) (hv_same (n := n) (w := (M 97)) (e := e) (by rw [← h8]; exact h_61) (fun r => h_68 (congrArg nI r)) h_75 h_86).symm)) (congrArg (fun q => q.2) (hv_same (n := n) (w := (M 97)) (e := e) (by rw [← h8]; exact h_61) (fun r => h_68 (congrArg nI r)) h_75 h_86).symm) (nI_1 e)
              | exact ih hlt _ _ _ ((shl1 (by omega)).trans (congrArg (fun q => nI q.1) (hv_more (n := n) (w := (M 97)) (e := e) (by rw [← h8]; exact h_61) h_75 h_86).symm)) (congrArg (fun q => q.2) (hv_more (n := n) (w := (M 97)) (e := e) (by rw [← h8]; exact h_61) h_75 h_86).symm) (nI_1 e)
      · refine r_ld rfl rfl ?_
        refine r_ld rfl rfl ?_
        refine r_cj rfl rfl (fun h_75 => ?_) (fun h_75 => ?_)
        · refine q_inc (y := _ + 1) rfl rfl rfl ?_
          refine q_norm (L' := [(0, _), (1, _), (2, _), (3, _), (4, _), (5, _), (6, _)]) rfl ?_
          refine r_go rfl ?_
          refine q_keep [0, 1, 2, 3, 4, 5] (L' := [(0, _), (1, _), (2, _), (3, _), (4, _), (5, _)]) rfl ?_
          first
            | exact absurd h_68 h_79
            | exact absurd h_79 h_68
            | exact ih hlt _ _ _ (congrArg (fun q => nI q.1) (hv_0 (n := n) (w := (M 97)) (e := e) (by rw [← h8]; exact h_61)).symm) (congrArg (fun q => q.2) (hv_0 (n := n) (w := (M 97)) (e := e) (by rw [← h8]; exact h_61)).symm) (nI_1 e)
            | exact ih hlt _ _ _ (congrArg (fun q => nI q.1) (hv_less (n := n) (w := (M 97)) (e := e) (fun r => h_68 (congrArg nI r)) h_75).symm) (congrArg (fun q => q.2) (hv_less (n := n) (w := (M 97)) (e := e) (fun r => h_68 (congrArg nI r)) h_75).symm) (nI_1 e)
            | exact ih hlt _ _ _ ((shl1 (by omega)).trans (congrArg (fun q => nI q.1) (hv_first (n := n) (w := (M 97)) (e := e) (by rw [← h8]; exact h_61) (neq (b := 0) hgl (by decide) h_68)).symm)) (congrArg (fun q => q.2) (hv_first (n := n) (w := (M 97)) (e := e) (by rw [← h8]; exact h_61) (neq (b := 0) hgl (by decide) h_68)).symm) (nI_1 e)
            | exact ih hlt _ _ _ ((or_sh (by omega)).trans (congrArg (fun q => nI q.1) (hv_same (n := n) (w := (M 97)) (e := e) (by rw [← h8]; exact h_61) (fun r => h_68 (congrArg nI r)) h_75 h_86).symm)) (congrArg (fun q => q.2) (hv_same (n := n) (w := (M 97)) (e := e) (by rw [← h8]; exact h_61) (fun r => h_68 (congrArg nI r)) h_75 h_86).symm) (nI_1 e)
            | exact ih hlt _ _ _ ((shl1 (by omega)).trans (congrArg (fun q => nI q.1) (hv_more (n := n) (w := (M 97)) (e := e) (by rw [← h8]; exact h_61) h_75 h_86).symm)) (congrArg (fun q => q.2) (hv_more (n := n) (w := (M 97)) (e := e) (by rw [← h8]; exact h_61) h_75 h_86).symm) (nI_1 e)
        · refine r_ld rfl rfl ?_
          refine r_cj rfl rfl (fun h_79 => ?_) (fun h_79 => ?_)
          · refine r_cst (v := .int 1) rfl rfl ?_
            refine r_ld rfl rfl ?_
            refine r_bin rfl rfl ?_
            refine r_go rfl ?_
            refine r_sto (L' := [(0, _), (1, _), (2, _), (3, _), (4, _), (5, _), (6, _)]) rfl rfl ?_
            refine r_ld rfl rfl ?_
            refine r_sto (L' := [(0, _), (1, _), (2, _), (3, _), (4, _), (5, _), (6, _)]) rfl rfl ?_
            refine q_inc (y := _ + 1) rfl rfl rfl ?_
            refine q_norm (L' := [(0, _), (1, _), (2, _), (3, _), (4, _), (5, _), (6, _)]) rfl ?_
            refine r_go rfl ?_
            refine q_keep [0, 1, 2, 3, 4, 5] (L' := [(0, _), (1, _), (2, _), (3, _), (4, _), (5, _)]) rfl ?_
            first
              | exact absurd h_68 h_79
              | exact absurd h_79 h_68
              | exact ih hlt _ _ _ (congrArg (fun q => nI q.1) (hv_0 (n := n) (w := (M 97)) (e := e) (by rw [← h8]; exact h_61)).symm) (congrArg (fun q => q.2) (hv_0 (n := n) (w := (M 97)) (e := e) (by rw [← h8]; exact h_61)).symm) (nI_1 e)
              | exact ih hlt _ _ _ (congrArg (fun q => nI q.1) (hv_less (n := n) (w := (M 97)) (e := e) (fun r => h_68 (congrArg nI r)) h_75).symm) (congrArg (fun q => q.2) (hv_less (n := n) (w := (M 97)) (e := e) (fun r => h_68 (congrArg nI r)) h_75).symm) (nI_1 e)
              | exact ih hlt _ _ _ ((shl1 (by omega)).trans (congrArg (fun q => nI q.1) (hv_first (n := n) (w := (M 97)) (e := e) (by rw [← h8]; exact h_61) (neq (b := 0) hgl (by decide) h_68)).symm)) (congrArg (fun q => q.2) (hv_first (n := n) (w := (M 97)) (e := e) (by rw [← h8]; exact h_61) (neq (b := 0) hgl (by decide) h_68)).symm) (nI_1 e)
              | exact ih hlt _ _ _ ((or_sh (by omega)).trans (congrArg (fun q => nI q.1) (hv_same (n := n) (w := (M 97)) (e := e) (by rw [← h8]; exact h_61) (fun r => h_68 (congrArg nI r)) h_75 h_86).symm)) (congrArg (fun q => q.2) (hv_same (n := n) (w := (M 97)) (e := e) (by rw [← h8]; exact h_61) (fun r => h_68 (congrArg nI r)) h_75 h_86).symm) (nI_1 e)
              | exact ih hlt _ _ _ ((shl1 (by omega)).trans (congrArg (fun q => nI q.1) (hv_more (n := n) (w := (M 97)) (e := e) (by rw [← h8]; exact h_61) h_75 h_86).symm)) (congrArg (fun q => q.2) (hv_more (n := n) (w := (M 97)) (e := e) (by rw [← h8]; exact h_61) h_75 h_86).symm) (nI_1 e)
          · refine r_ld rfl rfl ?_
            refine r_ld rfl rfl ?_
            refine r_cj rfl rfl (fun h_86 => ?_) (fun h_86 => ?_)
            · refine r_ld rfl rfl ?_
              refine r_cst (v := .int 1) rfl rfl ?_
              refine r_ld rfl rfl ?_
              refine r_bin rfl rfl ?_
              refine r_bin rfl rfl ?_
              refine r_sto (L' := [(0, _), (1, _), (2, _), (3, _), (4, _), (5, _), (6, _)]) rfl rfl ?_
              refine r_ld rfl rfl ?_
              refine r_sto (L' := [(0, _), (1, _), (2, _), (3, _), (4, _), (5, _), (6, _)]) rfl rfl ?_
              refine q_inc (y := _ + 1) rfl rfl rfl ?_
              refine q_norm (L' := [(0, _), (1, _), (2, _), (3, _), (4, _), (5, _), (6, _)]) rfl ?_
              refine r_go rfl ?_
              refine q_keep [0, 1, 2, 3, 4, 5] (L' := [(0, _), (1, _), (2, _), (3, _), (4, _), (5, _)]) rfl ?_
              first
                | exact absurd h_68 h_79
                | exact absurd h_79 h_68
                | exact ih hlt _ _ _ (congrArg (fun q => nI q.1) (hv_0 (n := n) (w := (M 97)) (e := e) (by rw [← h8]; exact h_61)).symm) (congrArg (fun q => q.2) (hv_0 (n := n) (w := (M 97)) (e := e) (by rw [← h8]; exact h_61)).symm) (nI_1 e)
                | exact ih hlt _ _ _ (congrArg (fun q => nI q.1) (hv_less (n := n) (w := (M 97)) (e := e) (fun r => h_68 (congrArg nI r)) h_75).symm) (congrArg (fun q => q.2) (hv_less (n := n) (w := (M 97)) (e := e) (fun r => h_68 (congrArg nI r)) h_75).symm) (nI_1 e)
                | exact ih hlt _ _ _ ((shl1 (by omega)).trans (congrArg (fun q => nI q.1) (hv_first (n := n) (w := (M 97)) (e := e) (by rw [← h8]; exact h_61) (neq (b := 0) hgl (by decide) h_68)).symm)) (congrArg (fun q => q.2) (hv_first (n := n) (w := (M 97)) (e := e) (by rw [← h8]; exact h_61) (neq (b := 0) hgl (by decide) h_68)).symm) (nI_1 e)
                | exact ih hlt _ _ _ ((or_sh (by omega)).trans (congrArg (fun q => nI q.1) (hv_same (n := n) (w := (M 97)) (e := e) (by rw [← h8]; exact h_61) (fun r => h_68 (congrArg nI r)) h_75 h_86).symm)) (congrArg (fun q => q.2) (hv_same (n := n) (w := (M 97)) (e := e) (by rw [← h8]; exact h_61) (fun r => h_68 (congrArg nI r)) h_75 h_86).symm) (nI_1 e)
                | exact ih hlt _ _ _ ((shl1 (by omega)).trans (congrArg (fun q => nI q.1) (hv_more (n := n) (w := (M 97)) (e := e) (by rw [← h8]; exact h_61) h_75 h_86).symm)) (congrArg (fun q => q.2) (hv_more (n := n) (w := (M 97)) (e := e) (by rw [← h8]; exact h_61) h_75 h_86).symm) (nI_1 e)
            · refine r_cst (v := .int 1) rfl rfl ?_
              refine r_ld rfl rfl ?_
              refine r_bin rfl rfl ?_
              refine r_go rfl ?_
              refine r_sto (L' := [(0, _), (1, _), (2, _), (3, _), (4, _), (5, _), (6, _)]) rfl rfl ?_
              refine r_ld rfl rfl ?_
              refine r_sto (L' := [(0, _), (1, _), (2, _), (3, _), (4, _), (5, _), (6, _)]) rfl rfl ?_
              refine q_inc (y := _ + 1) rfl rfl rfl ?_
              refine q_norm (L' := [(0, _), (1, _), (2, _), (3, _), (4, _), (5, _), (6, _)]) rfl ?_
              refine r_go rfl ?_
              refine q_keep [0, 1, 2, 3, 4, 5] (L' := [(0, _), (1, _), (2, _), (3, _), (4, _), (5, _)]) rfl ?_
              first
                | exact absurd h_68 h_79
                | exact absurd h_79 h_68
                | exact ih hlt _ _ _ (congrArg (fun q => nI q.1) (hv_0 (n := n) (w := (M 97)) (e := e) (by rw [← h8]; exact h_61)).symm) (congrArg (fun q => q.2) (hv_0 (n := n) (w := (M 97)) (e := e) (by rw [← h8]; exact h_61)).symm) (nI_1 e)
                | exact ih hlt _ _ _ (congrArg (fun q => nI q.1) (hv_less (n := n) (w := (M 97)) (e := e) (fun r => h_68 (congrArg nI r)) h_75).symm) (congrArg (fun q => q.2) (hv_less (n := n) (w := (M 97)) (e := e) (fun r => h_68 (congrArg nI r)) h_75).symm) (nI_1 e)
                | exact ih hlt _ _ _ ((shl1 (by omega)).trans (congrArg (fun q => nI q.1) (hv_first (n := n) (w := (M 97)) (e := e) (by rw [← h8]; exact h_61) (neq (b := 0) hgl (by decide) h_68)).symm)) (congrArg (fun q => q.2) (hv_first (n := n) (w := (M 97)) (e := e) (by rw [← h8]; exact h_61) (neq (b := 0) hgl (by decide) h_68)).symm) (nI_1 e)
                | exact ih hlt _ _ _ ((or_sh (by omega)).trans (congrArg (fun q => nI q.1) (hv_same (n := n) (w := (M 97)) (e := e) (by rw [← h8]; exact h_61) (fun r => h_68 (congrArg nI r)) h_75 h_86).symm)) (congrArg (fun q => q.2) (hv_same (n := n) (w := (M 97)) (e := e) (by rw [← h8]; exact h_61) (fun r => h_68 (congrArg nI r)) h_75 h_86).symm) (nI_1 e)
                | exact ih hlt _ _ _ ((shl1 (by omega)).trans (congrArg (fun q => nI q.1) (hv_more (n := n) (w := (M 97)) (e := e) (by rw [← h8]; exact h_61) h_75 h_86).symm)) (congrArg (fun q => q.2) (hv_more (n := n) (w := (M 97)) (e := e) (by rw [← h8]; exact h_61) h_75 h_86).symm) (nI_1 e)

set_option maxHeartbeats 1000000 in
set_option maxRecDepth 10000 in
theorem ok_X12_mostOf_1 (d : Nat) (M : Nat → Nat → Int32) (ML : Nat → Nat → Int64) {N E A n : Nat} {l h : Nat → Nat} (hS : NM M N E A l h) (hW : WN N E A l h) (hn : n < 2 ^ 31) (ht : ∀ e, e < N → tmk E l h e < 2048) : Ex (d + 3) k_X12_mostOf [.ref 73, .int (nI n), .int 1] (SH, M, ML) (some (.int (nI (hv n (M 97) N).1)), (SH, M, ML)) := by
  refine Ex_in mi_X12_mostOf rfl rfl ⟨Nat.le_refl _, Nat.le_refl _⟩ ?_
  show RR _ cd_X12_mostOf false _ (0, [(0, .ref 73), (1, .int (nI n)), (2, .int 1)], [], (SH, M, ML))
  refine r_cst (v := .int 0) rfl rfl ?_
  refine r_sto (L' := [(0, _), (1, _), (2, _), (3, _)]) rfl rfl ?_
  refine r_cst (v := .int 0) rfl rfl ?_
  refine r_sto (L' := [(0, _), (1, _), (2, _), (3, _), (4, _)]) rfl rfl ?_
  refine r_cst (v := .int 0) rfl rfl ?_
  refine r_sto (L' := [(0, _), (1, _), (2, _), (3, _), (4, _), (5, _)]) rfl rfl ?_
  exact lp_X12_mostOf_1 d M ML hS hW hn ht rfl 0 (Nat.zero_le _) _ _ _ (by rw [hv_z]; rfl) (by rw [hv_z]) rfl

set_option maxHeartbeats 1000000 in
set_option maxRecDepth 10000 in
theorem lp_X12_mostOf_2 (d : Nat) (M : Nat → Nat → Int32) (ML : Nat → Nat → Int64) {N E A n : Nat} {l h : Nat → Nat} (hS : NM M N E A l h) (hW : WN N E A l h) (hn : n < 2 ^ 31) (ht : ∀ e, e < N → tmk E l h e < 2048)  {res : Rt} (hk : res = (some (.int (nI (hv n (fun e => -(M 97 e)) N).1)), (SH, M, ML))) :
    ∀ e, e ≤ N → ∀ (g9 : Int32) (b9 : Int32) (j9 : Int32), g9 = nI (hv n (fun e => -(M 97 e)) e).1 → b9 = (hv n (fun e => -(M 97 e)) e).2 → j9 = nI e → RR (d + 2) cd_X12_mostOf false res (8, [(0, .ref 73), (1, .int ((nI n))), (2, .int 2), (3, .int g9), (4, .int b9), (5, .int j9)], [], (SH, M, ML)) := by
  refine up_ind fun e he ih => ?_
  intro g9 b9 j9 hv0 hv1 hv2
  subst hv0 hv1 hv2
  refine r_ld rfl rfl ?_
  refine r_ld rfl rfl ?_
  refine q_geti rfl rfl rfl rfl rfl ?_
  refine r_cj rfl rfl (fun h_14 => ?_) (fun h_14 => ?_)
  · have hN7 : N ≤ 7 := hW.2.1
    have h9 : e = N := by have := nle (by omega) (by omega) (show nI N ≤ nI e by rw [← hS.1]; exact h_14); omega
    subst h9
    refine r_ld rfl rfl ?_
    refine r_ret rfl rfl (trivial) ?_
    exact hk
  · have hN7 : N ≤ 7 := hW.2.1
    have hlt : e < N := nnle (by omega) (by omega) (by rw [← hS.1]; exact h_14)
    have h8 : tb (nI n) (nI e) = n.testBit e := tb_nI hn (by omega)
    have hgl : (hv n (fun e => -(M 97 e)) e).1 < 2 ^ 31 := Nat.lt_of_lt_of_le (hv_lt n (fun e => -(M 97 e)) e) (Nat.pow_le_pow_right (by decide) (by omega))
    refine r_ld rfl rfl ?_
    refine q_cjT rfl rfl (by decide) ?_
    refine r_ld rfl rfl ?_
    refine r_cst (v := .int 1) rfl rfl ?_
    refine q_cjT rfl rfl (by decide) ?_
    refine r_ld rfl rfl ?_
    refine q_getr rfl rfl rfl rfl rfl ?_
    refine r_ld rfl rfl ?_
    refine q_ain rfl rfl rfl (rfl) (by omega) rfl ?_
    refine r_una rfl rfl ?_
    refine r_sto (L' := [(0, _), (1, _), (2, _), (3, _), (4, _), (5, _), (6, _)]) rfl rfl ?_
    refine r_ld rfl rfl ?_
    refine r_ld rfl rfl ?_
    refine q_cife (as := [_, _]) (rest := []) rfl rfl rfl rfl rfl rfl rfl rfl (ok_X12_has ..) rfl (fun h_61 => ?_) (fun h_61 => ?_)
    · refine q_inc (y := _ + 1) rfl rfl rfl ?_
      refine q_norm (L' := [(0, _), (1, _), (2, _), (3, _), (4, _), (5, _), (6, _)]) rfl ?_
      refine r_go rfl ?_
      refine q_keep [0, 1, 2, 3, 4, 5] (L' := [(0, _), (1, _), (2, _), (3, _), (4, _), (5, _)]) rfl ?_
      first
        | exact absurd h_68 h_79
        | exact absurd h_79 h_68
        | exact ih hlt _ _ _ (congrArg (fun q => nI q.1) (hv_0 (n := n) (w := (fun e => -(M 97 e))) (e := e) (by rw [← h8]; exact h_61)).symm) (congrArg (fun q => q.2) (hv_0 (n := n) (w := (fun e => -(M 97 e))) (e := e) (by rw [← h8]; exact h_61)).symm) (nI_1 e)
        | exact ih hlt _ _ _ (congrArg (fun q => nI q.1) (hv_less (n := n) (w := (fun e => -(M 97 e))) (e := e) (fun r => h_68 (congrArg nI r)) h_75).symm) (congrArg (fun q => q.2) (hv_less (n := n) (w := (fun e => -(M 97 e))) (e := e) (fun r => h_68 (congrArg nI r)) h_75).symm) (nI_1 e)
        | exact ih hlt _ _ _ ((shl1 (by omega)).trans (congrArg (fun q => nI q.1) (hv_first (n := n) (w := (fun e => -(M 97 e))) (e := e) (by rw [← h8]; exact h_61) (neq (b := 0) hgl (by decide) h_68)).symm)) (congrArg (fun q => q.2) (hv_first (n := n) (w := (fun e => -(M 97 e))) (e := e) (by rw [← h8]; exact h_61) (neq (b := 0) hgl (by decide) h_68)).symm) (nI_1 e)
        | exact ih hlt _ _ _ ((or_sh (by omega)).trans (congrArg (fun q => nI q.1) (hv_same (n := n) (w := (fun e => -(M 97 e))) (e := e) (by rw [← h8]; exact h_61) (fun r => h_68 (congrArg nI r)) h_75 h_86).symm)) (congrArg (fun q => q.2) (hv_same (n := n) (w := (fun e => -(M 97 e))) (e := e) (by rw [← h8]; exact h_61) (fun r => h_68 (congrArg nI r)) h_75 h_86).symm) (nI_1 e)
        | exact ih hlt _ _ _ ((shl1 (by omega)).trans (congrArg (fun q => nI q.1) (hv_more (n := n) (w := (fun e => -(M 97 e))) (e := e) (by rw [← h8]; exact h_61) h_75 h_86).symm)) (congrArg (fun q => q.2) (hv_more (n := n) (w := (fun e => -(M 97 e))) (e := e) (by rw [← h8]; exact h_61) h_75 h_86).symm) (nI_1 e)
    · refine r_ld rfl rfl ?_
      refine r_cj rfl rfl (fun h_68 => ?_) (fun h_68 => ?_)
      · refine r_ld rfl rfl ?_
        refine r_cj rfl rfl (fun h_79 => ?_) (fun h_79 => ?_)
        · refine r_cst (v := .int 1) rfl rfl ?_
          refine r_ld rfl rfl ?_
          refine r_bin rfl rfl ?_
          refine r_go rfl ?_
          refine r_sto (L' := [(0, _), (1, _), (2, _), (3, _), (4, _), (5, _), (6, _)]) rfl rfl ?_
          refine r_ld rfl rfl ?_
          refine r_sto (L' := [(0, _), (1, _), (2, _), (3, _), (4, _), (5, _), (6, _)]) rfl rfl ?_
          refine q_inc (y := _ + 1) rfl rfl rfl ?_
          refine q_norm (L' := [(0, _), (1, _), (2, _), (3, _), (4, _), (5, _), (6, _)]) rfl ?_
          refine r_go rfl ?_
          refine q_keep [0, 1, 2, 3, 4, 5] (L' := [(0, _), (1, _), (2, _), (3, _), (4, _), (5, _)]) rfl ?_
          first
            | exact absurd h_68 h_79
            | exact absurd h_79 h_68
            | exact ih hlt _ _ _ (congrArg (fun q => nI q.1) (hv_0 (n := n) (w := (fun e => -(M 97 e))) (e := e) (by rw [← h8]; exact h_61)).symm) (congrArg (fun q => q.2) (hv_0 (n := n) (w := (fun e => -(M 97 e))) (e := e) (by rw [← h8]; exact h_61)).symm) (nI_1 e)
            | exact ih hlt _ _ _ (congrArg (fun q => nI q.1) (hv_less (n := n) (w := (fun e => -(M 97 e))) (e := e) (fun r => h_68 (congrArg nI r)) h_75).symm) (congrArg (fun q => q.2) (hv_less (n := n) (w := (fun e => -(M 97 e))) (e := e) (fun r => h_68 (congrArg nI r)) h_75).symm) (nI_1 e)
            | exact ih hlt _ _ _ ((shl1 (by omega)).trans (congrArg (fun q => nI q.1) (hv_first (n := n) (w := (fun e => -(M 97 e))) (e := e) (by rw [← h8]; exact h_61) (neq (b := 0) hgl (by decide) h_68)).symm)) (congrArg (fun q => q.2) (hv_first (n := n) (w := (fun e => -(M 97 e))) (e := e) (by rw [← h8]; exact h_61) (neq (b := 0) hgl (by decide) h_68)).symm) (nI_1 e)
            | exact ih hlt _ _ _ ((or_sh (by omega)).trans (congrArg (fun q => nI q.1) (hv_same (n := n) (w := (fun e => -(M 97 e))) (e := e) (by rw [← h8]; exact h_61) (fun r => h_68 (congrArg nI r)) h_75 h_86).symm)) (congrArg (fun q => q.2) (hv_same (n := n) (w := (fun e => -(M 97 e))) (e := e) (by rw [← h8]; exact h_61) (fun r => h_68 (congrArg nI r)) h_75 h_86).symm) (nI_1 e)
            | exact ih hlt _ _ _ ((shl1 (by omega)).trans (congrArg (fun q => nI q.1) (hv_more (n := n) (w := (fun e => -(M 97 e))) (e := e) (by rw [← h8]; exact h_61) h_75 h_86).symm)) (congrArg (fun q => q.2) (hv_more (n := n) (w := (fun e => -(M 97 e))) (e := e) (by rw [← h8]; exact h_61) h_75 h_86).symm) (nI_1 e)
        · refine r_ld rfl rfl ?_
          refine r_ld rfl rfl ?_
          refine r_cj rfl rfl (fun h_86 => ?_) (fun h_86 => ?_)
          · refine r_ld rfl rfl ?_
            refine r_cst (v := .int 1) rfl rfl ?_
            refine r_ld rfl rfl ?_
            refine r_bin rfl rfl ?_
            refine r_bin rfl rfl ?_
            refine r_sto (L' := [(0, _), (1, _), (2, _), (3, _), (4, _), (5, _), (6, _)]) rfl rfl ?_
            refine r_ld rfl rfl ?_
            refine r_sto (L' := [(0, _), (1, _), (2, _), (3, _), (4, _), (5, _), (6, _)]) rfl rfl ?_
            refine q_inc (y := _ + 1) rfl rfl rfl ?_
            refine q_norm (L' := [(0, _), (1, _), (2, _), (3, _), (4, _), (5, _), (6, _)]) rfl ?_
            refine r_go rfl ?_
            refine q_keep [0, 1, 2, 3, 4, 5] (L' := [(0, _), (1, _), (2, _), (3, _), (4, _), (5, _)]) rfl ?_
            first
              | exact absurd h_68 h_79
              | exact absurd h_79 h_68
              | exact ih hlt _ _ _ (congrArg (fun q => nI q.1) (hv_0 (n := n) (w := (fun e => -(M 97 e))) (e := e) (by rw [← h8]; exact h_61)).symm) (congrArg (fun q => q.2) (hv_0 (n := n) (w := (fun e => -(M 97 e))) (e := e) (by rw [← h8]; exact h_61)).symm) (nI_1 e)
              | exact ih hlt _ _ _ (congrArg (fun q => nI q.1) (hv_less (n := n) (w := (fun e => -(M 97 e))) (e := e) (fun r => h_68 (congrArg nI r)) h_75).symm) (congrArg (fun q => q.2) (hv_less (n := n) (w := (fun e => -(M 97 e))) (e := e) (fun r => h_68 (congrArg nI r)) h_75).symm) (nI_1 e)
              | exact ih hlt _ _ _ ((shl1 (by omega)).trans (congrArg (fun q => nI q.1) (hv_first (n := n) (w := (fun e => -(M 97 e))) (e := e) (by rw [← h8]; exact h_61) (neq (b := 0) hgl (by decide) h_68)).symm)) (congrArg (fun q => q.2) (hv_first (n := n) (w := (fun e => -(M 97 e))) (e := e) (by rw [← h8]; exact h_61) (neq (b := 0) hgl (by decide) h_68)).symm) (nI_1 e)
              | exact ih hlt _ _ _ ((or_sh (by omega)).trans (congrArg (fun q => nI q.1) (hv_same (n := n) (w := (fun e => -(M 97 e))) (e := e) (by rw [← h8]; exact h_61) (fun r => h_68 (congrArg nI r)) h_75 h_86).symm)) (congrArg (fun q => q.2) (hv_same (n := n) (w := (fun e => -(M 97 e))) (e := e) (by rw [← h8]; exact h_61) (fun r => h_68 (congrArg nI r)) h_75 h_86).symm) (nI_1 e)
              | exact ih hlt _ _ _ ((shl1 (by omega)).trans (congrArg (fun q => nI q.1) (hv_more (n := n) (w := (fun e => -(M 97 e))) (e := e) (by rw [← h8]; exact h_61) h_75 h_86).symm)) (congrArg (fun q => q.2) (hv_more (n := n) (w := (fun e => -(M 97 e))) (e := e) (by rw [← h8]; exact h_61) h_75 h_86).symm) (nI_1 e)
          · refine r_cst (v := .int 1) rfl rfl ?_
            refine r_ld rfl rfl ?_
            refine r_bin rfl rfl ?_
            refine r_go rfl ?_
            refine r_sto (L' := [(0, _), (1, _), (2, _), (3, _), (4, _), (5, _), (6, _)]) rfl rfl ?_
            refine r_ld rfl rfl ?_
            refine r_sto (L' := [(0, _), (1, _), (2, _), (3, _), (4, _), (5, _), (6, _)]) rfl rfl ?_
            refine q_inc (y := _ + 1) rfl rfl rfl ?_
            refine q_norm (L' := [(0, _), (1, _), (2, _), (3, _), (4, _), (5, _), (6, _)]) rfl ?_
            refine r_go rfl ?_
            refine q_keep [0, 1, 2, 3, 4, 5] (L' := [(0, _), (1, _), (2, _), (3, _), (4, _), (5, _)]) rfl ?_
            first
              | exact absurd h_68 h_79
              | exact absurd h_79 h_68
              | exact ih hlt _ _ _ (congrArg (fun q => nI q.1) (hv_0 (n := n) (w := (fun e => -(M 97 e))) (e := e) (by rw [← h8]; exact h_61)).symm) (congrArg (fun q => q.2) (hv_0 (n := n) (w := (fun e => -(M 97 e))) (e := e) (by rw [← h8]; exact h_61)).symm) (nI_1 e)
              | exact ih hlt _ _ _ (congrArg (fun q => nI q.1) (hv_less (n := n) (w := (fun e => -(M 97 e))) (e := e) (fun r => h_68 (congrArg nI r)) h_75).symm) (congrArg (fun q => q.2) (hv_less (n := n) (w := (fun e => -(M 97 e))) (e := e) (fun r => h_68 (congrArg nI r)) h_75).symm) (nI_1 e)
              | exact ih hlt _ _ _ ((shl1 (by omega)).trans (congrArg (fun q => nI q.1) (hv_first (n := n) (w := (fun e => -(M 97 e))) (e := e) (by rw [← h8]; exact h_61) (neq (b := 0) hgl (by decide) h_68)).symm)) (congrArg (fun q => q.2) (hv_first (n := n) (w := (fun e => -(M 97 e))) (e := e) (by rw [← h8]; exact h_61) (neq (b := 0) hgl (by decide) h_68)).symm) (nI_1 e)
              | exact ih hlt _ _ _ ((or_sh (by omega)).trans (congrArg (fun q => nI q.1) (hv_same (n := n) (w := (fun e => -(M 97 e))) (e := e) (by rw [← h8]; exact h_61) (fun r => h_68 (congrArg nI r)) h_75 h_86).symm)) (congrArg (fun q => q.2) (hv_same (n := n) (w := (fun e => -(M 97 e))) (e := e) (by rw [← h8]; exact h_61) (fun r => h_68 (congrArg nI r)) h_75 h_86).symm) (nI_1 e)
              | exact ih hlt _ _ _ ((shl1 (by omega)).trans (congrArg (fun q => nI q.1) (hv_more (n := n) (w := (fun e => -(M 97 e))) (e := e) (by rw [← h8]; exact h_61) h_75 h_86).symm)) (congrArg (fun q => q.2) (hv_more (n := n) (w := (fun e => -(M 97 e))) (e := e) (by rw [← h8]; exact h_61) h_75 h_86).symm) (nI_1 e)
      · refine r_ld rfl rfl ?_
        refine r_ld rfl rfl ?_
        refine r_cj rfl rfl (fun h_75 => ?_) (fun h_75 => ?_)
        · refine q_inc (y := _ + 1) rfl rfl rfl ?_
          refine q_norm (L' := [(0, _), (1, _), (2, _), (3, _), (4, _), (5, _), (6, _)]) rfl ?_
          refine r_go rfl ?_
          refine q_keep [0, 1, 2, 3, 4, 5] (L' := [(0, _), (1, _), (2, _), (3, _), (4, _), (5, _)]) rfl ?_
          first
            | exact absurd h_68 h_79
            | exact absurd h_79 h_68
            | exact ih hlt _ _ _ (congrArg (fun q => nI q.1) (hv_0 (n := n) (w := (fun e => -(M 97 e))) (e := e) (by rw [← h8]; exact h_61)).symm) (congrArg (fun q => q.2) (hv_0 (n := n) (w := (fun e => -(M 97 e))) (e := e) (by rw [← h8]; exact h_61)).symm) (nI_1 e)
            | exact ih hlt _ _ _ (congrArg (fun q => nI q.1) (hv_less (n := n) (w := (fun e => -(M 97 e))) (e := e) (fun r => h_68 (congrArg nI r)) h_75).symm) (congrArg (fun q => q.2) (hv_less (n := n) (w := (fun e => -(M 97 e))) (e := e) (fun r => h_68 (congrArg nI r)) h_75).symm) (nI_1 e)
            | exact ih hlt _ _ _ ((shl1 (by omega)).trans (congrArg (fun q => nI q.1) (hv_first (n := n) (w := (fun e => -(M 97 e))) (e := e) (by rw [← h8]; exact h_61) (neq (b := 0) hgl (by decide) h_68)).symm)) (congrArg (fun q => q.2) (hv_first (n := n) (w := (fun e => -(M 97 e))) (e := e) (by rw [← h8]; exact h_61) (neq (b := 0) hgl (by decide) h_68)).symm) (nI_1 e)
            | exact ih hlt _ _ _ ((or_sh (by omega)).trans (congrArg (fun q => nI q.1) (hv_same (n := n) (w := (fun e => -(M 97 e))) (e := e) (by rw [← h8]; exact h_61) (fun r => h_68 (congrArg nI r)) h_75 h_86).symm)) (congrArg (fun q => q.2) (hv_same (n := n) (w := (fun e => -(M 97 e))) (e := e) (by rw [← h8]; exact h_61) (fun r => h_68 (congrArg nI r)) h_75 h_86).symm) (nI_1 e)
            | exact ih hlt _ _ _ ((shl1 (by omega)).trans (congrArg (fun q => nI q.1) (hv_more (n := n) (w := (fun e => -(M 97 e))) (e := e) (by rw [← h8]; exact h_61) h_75 h_86).symm)) (congrArg (fun q => q.2) (hv_more (n := n) (w := (fun e => -(M 97 e))) (e := e) (by rw [← h8]; exact h_61) h_75 h_86).symm) (nI_1 e)
        · refine r_ld rfl rfl ?_
          refine r_cj rfl rfl (fun h_79 => ?_) (fun h_79 => ?_)
          · refine r_cst (v := .int 1) rfl rfl ?_
            refine r_ld rfl rfl ?_
            refine r_bin rfl rfl ?_
            refine r_go rfl ?_
            refine r_sto (L' := [(0, _), (1, _), (2, _), (3, _), (4, _), (5, _), (6, _)]) rfl rfl ?_
            refine r_ld rfl rfl ?_
            refine r_sto (L' := [(0, _), (1, _), (2, _), (3, _), (4, _), (5, _), (6, _)]) rfl rfl ?_
            refine q_inc (y := _ + 1) rfl rfl rfl ?_
            refine q_norm (L' := [(0, _), (1, _), (2, _), (3, _), (4, _), (5, _), (6, _)]) rfl ?_
            refine r_go rfl ?_
            refine q_keep [0, 1, 2, 3, 4, 5] (L' := [(0, _), (1, _), (2, _), (3, _), (4, _), (5, _)]) rfl ?_
            first
              | exact absurd h_68 h_79
              | exact absurd h_79 h_68
              | exact ih hlt _ _ _ (congrArg (fun q => nI q.1) (hv_0 (n := n) (w := (fun e => -(M 97 e))) (e := e) (by rw [← h8]; exact h_61)).symm) (congrArg (fun q => q.2) (hv_0 (n := n) (w := (fun e => -(M 97 e))) (e := e) (by rw [← h8]; exact h_61)).symm) (nI_1 e)
              | exact ih hlt _ _ _ (congrArg (fun q => nI q.1) (hv_less (n := n) (w := (fun e => -(M 97 e))) (e := e) (fun r => h_68 (congrArg nI r)) h_75).symm) (congrArg (fun q => q.2) (hv_less (n := n) (w := (fun e => -(M 97 e))) (e := e) (fun r => h_68 (congrArg nI r)) h_75).symm) (nI_1 e)
              | exact ih hlt _ _ _ ((shl1 (by omega)).trans (congrArg (fun q => nI q.1) (hv_first (n := n) (w := (fun e => -(M 97 e))) (e := e) (by rw [← h8]; exact h_61) (neq (b := 0) hgl (by decide) h_68)).symm)) (congrArg (fun q => q.2) (hv_first (n := n) (w := (fun e => -(M 97 e))) (e := e) (by rw [← h8]; exact h_61) (neq (b := 0) hgl (by decide) h_68)).symm) (nI_1 e)
              | exact ih hlt _ _ _ ((or_sh (by omega)).trans (congrArg (fun q => nI q.1) (hv_same (n := n) (w := (fun e => -(M 97 e))) (e := e) (by rw [← h8]; exact h_61) (fun r => h_68 (congrArg nI r)) h_75 h_86).symm)) (congrArg (fun q => q.2) (hv_same (n := n) (w := (fun e => -(M 97 e))) (e := e) (by rw [← h8]; exact h_61) (fun r => h_68 (congrArg nI r)) h_75 h_86).symm) (nI_1 e)
              | exact ih hlt _ _ _ ((shl1 (by omega)).trans (congrArg (fun q => nI q.1) (hv_more (n := n) (w := (fun e => -(M 97 e))) (e := e) (by rw [← h8]; exact h_61) h_75 h_86).symm)) (congrArg (fun q => q.2) (hv_more (n := n) (w := (fun e => -(M 97 e))) (e := e) (by rw [← h8]; exact h_61) h_75 h_86).symm) (nI_1 e)
          · refine r_ld rfl rfl ?_
            refine r_ld rfl rfl ?_
            refine r_cj rfl rfl (fun h_86 => ?_) (fun h_86 => ?_)
            · refine r_ld rfl rfl ?_
              refine r_cst (v := .int 1) rfl rfl ?_
              refine r_ld rfl rfl ?_
              refine r_bin rfl rfl ?_
              refine r_bin rfl rfl ?_
              refine r_sto (L' := [(0, _), (1, _), (2, _), (3, _), (4, _), (5, _), (6, _)]) rfl rfl ?_
              refine r_ld rfl rfl ?_
              refine r_sto (L' := [(0, _), (1, _), (2, _), (3, _), (4, _), (5, _), (6, _)]) rfl rfl ?_
              refine q_inc (y := _ + 1) rfl rfl rfl ?_
              refine q_norm (L' := [(0, _), (1, _), (2, _), (3, _), (4, _), (5, _), (6, _)]) rfl ?_
              refine r_go rfl ?_
              refine q_keep [0, 1, 2, 3, 4, 5] (L' := [(0, _), (1, _), (2, _), (3, _), (4, _), (5, _)]) rfl ?_
              first
                | exact absurd h_68 h_79
                | exact absurd h_79 h_68
                | exact ih hlt _ _ _ (congrArg (fun q => nI q.1) (hv_0 (n := n) (w := (fun e => -(M 97 e))) (e := e) (by rw [← h8]; exact h_61)).symm) (congrArg (fun q => q.2) (hv_0 (n := n) (w := (fun e => -(M 97 e))) (e := e) (by rw [← h8]; exact h_61)).symm) (nI_1 e)
                | exact ih hlt _ _ _ (congrArg (fun q => nI q.1) (hv_less (n := n) (w := (fun e => -(M 97 e))) (e := e) (fun r => h_68 (congrArg nI r)) h_75).symm) (congrArg (fun q => q.2) (hv_less (n := n) (w := (fun e => -(M 97 e))) (e := e) (fun r => h_68 (congrArg nI r)) h_75).symm) (nI_1 e)
                | exact ih hlt _ _ _ ((shl1 (by omega)).trans (congrArg (fun q => nI q.1) (hv_first (n := n) (w := (fun e => -(M 97 e))) (e := e) (by rw [← h8]; exact h_61) (neq (b := 0) hgl (by decide) h_68)).symm)) (congrArg (fun q => q.2) (hv_first (n := n) (w := (fun e => -(M 97 e))) (e := e) (by rw [← h8]; exact h_61) (neq (b := 0) hgl (by decide) h_68)).symm) (nI_1 e)
                | exact ih hlt _ _ _ ((or_sh (by omega)).trans (congrArg (fun q => nI q.1) (hv_same (n := n) (w := (fun e => -(M 97 e))) (e := e) (by rw [← h8]; exact h_61) (fun r => h_68 (congrArg nI r)) h_75 h_86).symm)) (congrArg (fun q => q.2) (hv_same (n := n) (w := (fun e => -(M 97 e))) (e := e) (by rw [← h8]; exact h_61) (fun r => h_68 (congrArg nI r)) h_75 h_86).symm) (nI_1 e)
                | exact ih hlt _ _ _ ((shl1 (by omega)).trans (congrArg (fun q => nI q.1) (hv_more (n := n) (w := (fun e => -(M 97 e))) (e := e) (by rw [← h8]; exact h_61) h_75 h_86).symm)) (congrArg (fun q => q.2) (hv_more (n := n) (w := (fun e => -(M 97 e))) (e := e) (by rw [← h8]; exact h_61) h_75 h_86).symm) (nI_1 e)
            · refine r_cst (v := .int 1) rfl rfl ?_
              refine r_ld rfl rfl ?_
              refine r_bin rfl rfl ?_
              refine r_go rfl ?_
              refine r_sto (L' := [(0, _), (1, _), (2, _), (3, _), (4, _), (5, _), (6, _)]) rfl rfl ?_
              refine r_ld rfl rfl ?_
              refine r_sto (L' := [(0, _), (1, _), (2, _), (3, _), (4, _), (5, _), (6, _)]) rfl rfl ?_
              refine q_inc (y := _ + 1) rfl rfl rfl ?_
              refine q_norm (L' := [(0, _), (1, _), (2, _), (3, _), (4, _), (5, _), (6, _)]) rfl ?_
              refine r_go rfl ?_
              refine q_keep [0, 1, 2, 3, 4, 5] (L' := [(0, _), (1, _), (2, _), (3, _), (4, _), (5, _)]) rfl ?_
              first
                | exact absurd h_68 h_79
                | exact absurd h_79 h_68
                | exact ih hlt _ _ _ (congrArg (fun q => nI q.1) (hv_0 (n := n) (w := (fun e => -(M 97 e))) (e := e) (by rw [← h8]; exact h_61)).symm) (congrArg (fun q => q.2) (hv_0 (n := n) (w := (fun e => -(M 97 e))) (e := e) (by rw [← h8]; exact h_61)).symm) (nI_1 e)
                | exact ih hlt _ _ _ (congrArg (fun q => nI q.1) (hv_less (n := n) (w := (fun e => -(M 97 e))) (e := e) (fun r => h_68 (congrArg nI r)) h_75).symm) (congrArg (fun q => q.2) (hv_less (n := n) (w := (fun e => -(M 97 e))) (e := e) (fun r => h_68 (congrArg nI r)) h_75).symm) (nI_1 e)
                | exact ih hlt _ _ _ ((shl1 (by omega)).trans (congrArg (fun q => nI q.1) (hv_first (n := n) (w := (fun e => -(M 97 e))) (e := e) (by rw [← h8]; exact h_61) (neq (b := 0) hgl (by decide) h_68)).symm)) (congrArg (fun q => q.2) (hv_first (n := n) (w := (fun e => -(M 97 e))) (e := e) (by rw [← h8]; exact h_61) (neq (b := 0) hgl (by decide) h_68)).symm) (nI_1 e)
                | exact ih hlt _ _ _ ((or_sh (by omega)).trans (congrArg (fun q => nI q.1) (hv_same (n := n) (w := (fun e => -(M 97 e))) (e := e) (by rw [← h8]; exact h_61) (fun r => h_68 (congrArg nI r)) h_75 h_86).symm)) (congrArg (fun q => q.2) (hv_same (n := n) (w := (fun e => -(M 97 e))) (e := e) (by rw [← h8]; exact h_61) (fun r => h_68 (congrArg nI r)) h_75 h_86).symm) (nI_1 e)
                | exact ih hlt _ _ _ ((shl1 (by omega)).trans (congrArg (fun q => nI q.1) (hv_more (n := n) (w := (fun e => -(M 97 e))) (e := e) (by rw [← h8]; exact h_61) h_75 h_86).symm)) (congrArg (fun q => q.2) (hv_more (n := n) (w := (fun e => -(M 97 e))) (e := e) (by rw [← h8]; exact h_61) h_75 h_86).symm) (nI_1 e)

set_option maxHeartbeats 1000000 in
set_option maxRecDepth 10000 in
theorem ok_X12_mostOf_2 (d : Nat) (M : Nat → Nat → Int32) (ML : Nat → Nat → Int64) {N E A n : Nat} {l h : Nat → Nat} (hS : NM M N E A l h) (hW : WN N E A l h) (hn : n < 2 ^ 31) (ht : ∀ e, e < N → tmk E l h e < 2048) : Ex (d + 3) k_X12_mostOf [.ref 73, .int (nI n), .int 2] (SH, M, ML) (some (.int (nI (hv n (fun e => -(M 97 e)) N).1)), (SH, M, ML)) := by
  refine Ex_in mi_X12_mostOf rfl rfl ⟨Nat.le_refl _, Nat.le_refl _⟩ ?_
  show RR _ cd_X12_mostOf false _ (0, [(0, .ref 73), (1, .int (nI n)), (2, .int 2)], [], (SH, M, ML))
  refine r_cst (v := .int 0) rfl rfl ?_
  refine r_sto (L' := [(0, _), (1, _), (2, _), (3, _)]) rfl rfl ?_
  refine r_cst (v := .int 0) rfl rfl ?_
  refine r_sto (L' := [(0, _), (1, _), (2, _), (3, _), (4, _)]) rfl rfl ?_
  refine r_cst (v := .int 0) rfl rfl ?_
  refine r_sto (L' := [(0, _), (1, _), (2, _), (3, _), (4, _), (5, _)]) rfl rfl ?_
  exact lp_X12_mostOf_2 d M ML hS hW hn ht rfl 0 (Nat.zero_le _) _ _ _ (by rw [hv_z]; rfl) (by rw [hv_z]) rfl

