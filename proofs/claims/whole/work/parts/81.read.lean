/-! ===== read of the class ===== -/
def byB (B : List Int32) (i : Nat) : Int32 := B.getD i 0
def dgB (B : List Int32) (i : Nat) : Int32 := if i < B.length then byB B i - 48 else -1
def rdN (B : List Int32) : Nat := (dgB B 0).toNatClampNeg
def rdF (B : List Int32) (e : Nat) : Nat := (dgB B (3 * e + 2)).toNatClampNeg
def rdT (B : List Int32) (e : Nat) : Nat := (dgB B (3 * e + 3)).toNatClampNeg
def rdl (B : List Int32) (e : Nat) : Nat := min (rdF B e) (rdT B e)
def rdh (B : List Int32) (e : Nat) : Nat := max (rdF B e) (rdT B e)
def rdAr (B : List Int32) : Nat → Nat
  | 0 => 0
  | E + 1 => rdAr B E ||| (if rdF B E < rdT B E then 0 else 2 ^ E)
abbrev goP (B : List Int32) (e : Nat) : Prop := 3 * e + 1 < B.length ∧ (byB B (3 * e + 1) = 59 ∧ e < 10) ∧ inR (dgB B (3 * e + 2)) (rdN B) = true ∧ inR (dgB B (3 * e + 3)) (rdN B) = true ∧ ¬ dgB B (3 * e + 3) = dgB B (3 * e + 2) ∧ ¬ fa_first (pE (rdl B) (rdh B) (rdF B e) (rdT B e)) e < e
def rdE (B : List Int32) : Nat := fa_first (fun e => decide (¬ goP B e)) 11
def rdV (B : List Int32) (E : Nat) : Int32 := if B.length ≤ 3 * E + 1 then -1 else if ¬ (byB B (3 * E + 1) = 59 ∧ E < 10) then nI (3 * E + 1) else if inR (dgB B (3 * E + 2)) (rdN B) = false then nI (3 * E + 2) else nI (3 * E + 3)
def FV (B : List Int32) : Int32 := if wh1 (dgB B 0) = true then rdV B (rdE B) else 0
theorem TS_by {c : Int32} {f : Nat → Int32} {B : List Int32} (h : TS c f B) {i : Nat} (hi : i < B.length) : f i = byB B i ∧ ∃ j, j < 256 ∧ byB B i = nI j := by
  have q : B[i]? = some (byB B i) := by
    unfold byB
    rw [List.getD_eq_getElem?_getD, List.getElem?_eq_getElem hi]
    rfl
  have w := h.2.2 i _ q
  exact ⟨w.2, w.1⟩
theorem inR_cl {v : Int32} {n : Nat} (hn : n < 2 ^ 31) (h : inR v n = true) : v = nI v.toNatClampNeg ∧ v.toNatClampNeg < n := by
  obtain ⟨k, hk, rfl⟩ := inR_ex hn h
  rw [nI_clamp (by omega)]
  exact ⟨rfl, hk⟩
theorem rdN_w {B : List Int32} (h : wh1 (dgB B 0) = true) : dgB B 0 = nI (rdN B) ∧ 1 ≤ rdN B ∧ rdN B ≤ 7 := by
  obtain ⟨k, h1, h7, e⟩ := wh1_ex h
  unfold rdN
  rw [e, nI_clamp (by omega)]
  exact ⟨rfl, h1, h7⟩
theorem rd_go {B : List Int32} (hN : rdN B ≤ 7) {e : Nat} (h : goP B e) : dgB B (3 * e + 2) = nI (rdF B e) ∧ dgB B (3 * e + 3) = nI (rdT B e) ∧ rdF B e < rdN B ∧ rdT B e < rdN B ∧ rdF B e ≠ rdT B e := by
  obtain ⟨-, -, h1, h2, h3, -⟩ := h
  have a := inR_cl (by omega) h1
  have b := inR_cl (by omega) h2
  exact ⟨a.1, b.1, a.2, b.2, fun w => h3 (b.1.trans ((congrArg nI w.symm).trans a.1.symm))⟩
theorem WN_rd {B : List Int32} (h1 : 1 ≤ rdN B) (h7 : rdN B ≤ 7) : ∀ E, E ≤ 10 → (∀ e, e < E → goP B e) → WN (rdN B) E (rdAr B E) (rdl B) (rdh B)
  | 0, _, _ => WN_new h1 h7
  | E + 1, hE, hg => by
    obtain ⟨-, -, -, a4, a5⟩ := WN_rd h1 h7 E (by omega) (fun e he => hg e (by omega))
    refine ⟨h1, h7, hE, ?_, fun e he => ?_⟩
    · refine Nat.or_lt_two_pow (Nat.lt_of_lt_of_le a4 (p2 (Nat.le_succ E))) ?_
      split
      · exact Nat.two_pow_pos _
      · exact Nat.pow_lt_pow_right (by decide) (Nat.lt_succ_self E)
    · have w := rd_go h7 (hg e he)
      unfold rdl rdh
      omega
theorem rdE_eq {B : List Int32} {E : Nat} (hE : E ≤ 10) (hg : ∀ e, e < E → goP B e) (hn : ¬ goP B E) : rdE B = E := ff_eq (by omega) (decide_eq_true hn) (fun i hi => decide_eq_false (fun q => q (hg i hi)))
theorem FV_at {B : List Int32} {E : Nat} (hw : wh1 (dgB B 0) = true) (hE : E ≤ 10) (hg : ∀ e, e < E → goP B e) (hn : ¬ goP B E) : FV B = rdV B E := by
  unfold FV
  rw [if_pos hw, rdE_eq hE hg hn]
theorem FV_bad {B : List Int32} (hw : wh1 (dgB B 0) = false) : FV B = 0 := by
  unfold FV
  rw [hw]
  rfl
theorem FV_end {B : List Int32} {E : Nat} (hw : wh1 (dgB B 0) = true) (hE : E ≤ 10) (hg : ∀ e, e < E → goP B e) (hl : B.length ≤ 3 * E + 1) : FV B = -1 ∧ rdE B = E := by
  have hn : ¬ goP B E := fun q => absurd q.1 (by omega)
  rw [FV_at hw hE hg hn, rdE_eq hE hg hn]
  unfold rdV
  exact ⟨if_pos hl, rfl⟩
theorem FV_1 {B : List Int32} {E : Nat} (hw : wh1 (dgB B 0) = true) (hE : E ≤ 10) (hg : ∀ e, e < E → goP B e) (hl : 3 * E + 1 < B.length) (hb : ¬ (byB B (3 * E + 1) = 59 ∧ E < 10)) : FV B = nI (3 * E + 1) := by
  rw [FV_at hw hE hg (fun q => hb q.2.1)]
  unfold rdV
  rw [if_neg (by omega), if_pos hb]
theorem FV_2 {B : List Int32} {E : Nat} (hw : wh1 (dgB B 0) = true) (hE : E ≤ 10) (hg : ∀ e, e < E → goP B e) (hl : 3 * E + 1 < B.length) (hb : byB B (3 * E + 1) = 59 ∧ E < 10) (h2 : inR (dgB B (3 * E + 2)) (rdN B) = false) : FV B = nI (3 * E + 2) := by
  rw [FV_at hw hE hg (fun q => Bool.noConfusion (h2.symm.trans q.2.2.1))]
  unfold rdV
  rw [if_neg (by omega), if_neg (fun w => w hb), if_pos h2]
theorem FV_3 {B : List Int32} {E : Nat} (hw : wh1 (dgB B 0) = true) (hE : E ≤ 10) (hg : ∀ e, e < E → goP B e) (hl : 3 * E + 1 < B.length) (hb : byB B (3 * E + 1) = 59 ∧ E < 10) (h2 : inR (dgB B (3 * E + 2)) (rdN B) = true) (hn : ¬ goP B E) : FV B = nI (3 * E + 3) := by
  rw [FV_at hw hE hg hn]
  unfold rdV
  rw [if_neg (by omega), if_neg (fun w => w hb), if_neg (fun w => Bool.noConfusion (w.symm.trans h2))]
theorem rdl_s (B : List Int32) (E : Nat) : (fun e => if e = E then min (rdF B E) (rdT B E) else rdl B e) = rdl B := by
  funext e
  by_cases q : e = E
  · rw [if_pos q, q]
    rfl
  · rw [if_neg q]
theorem rdh_s (B : List Int32) (E : Nat) : (fun e => if e = E then max (rdF B E) (rdT B E) else rdh B e) = rdh B := by
  funext e
  by_cases q : e = E
  · rw [if_pos q, q]
    rfl
  · rw [if_neg q]
theorem FV_dec {B : List Int32} {x : Int32} {v : Nat} (e : FV B = nI v) (hv : v < 2 ^ 31) (q : FV B < 0) : False := ne_m1 hv (e ▸ q)

set_option maxHeartbeats 1000000 in
set_option maxRecDepth 10000 in
theorem ok_X8_digitAt {d : Nat} {M : Mm} {ML : Ml} {B : List Int32} (hB : TS (M 47 0) (M 48) B) {i : Nat} (hi : i < 2 ^ 31) : EX (d + 2) k_X8_digitAt [.ref 47, .int (nI i)] M ML (fun r M2 L2 => r = some (.int (dgB B i)) ∧ L2 = ML ∧ M2 = M) := by
  refine EX_in mi_X8_digitAt rfl rfl ?_
  show WP _ cd_X8_digitAt false _ (0, [(0, .ref 47), (1, .int (nI i))], [], (SH, M, ML))
  have h40 := hB.2.1
  refine w_ld rfl rfl ?_
  refine w_ld rfl rfl ?_
  refine w_getv rfl rfl rfl rfl rfl (hB.1) ?_
  refine w_cj rfl rfl (fun h_5 => ?_) (fun h_5 => ?_)
  · refine w_cst (v := .int (-1)) rfl rfl ?_
    refine w_ret rfl rfl (trivial) ?_
    refine ⟨?_, rfl, rfl⟩
    unfold dgB
    first
      | rw [if_pos (nnle (by omega) (by omega) h_5)]
      | rw [if_neg (Nat.not_lt.mpr (nle (by omega) (by omega) h_5))]
  · refine w_ld rfl rfl ?_
    refine w_getr rfl rfl rfl rfl rfl ?_
    refine w_ld rfl rfl ?_
    refine w_call (as := [_, _]) (rest := []) rfl rfl rfl rfl rfl rfl rfl rfl (ok_at_v _ _ _ rfl rfl rfl (rfl) (by have := nnle (by omega) (by omega) h_5; omega) ((TS_by hB (nnle (by omega) (by omega) h_5)).1)) ?_
    refine w_cst (v := .int 48) rfl rfl ?_
    refine w_bin rfl rfl ?_
    refine w_go rfl ?_
    refine w_ret rfl rfl (trivial) ?_
    refine ⟨?_, rfl, rfl⟩
    unfold dgB
    first
      | rw [if_pos (nnle (by omega) (by omega) h_5)]
      | rw [if_neg (Nat.not_lt.mpr (nle (by omega) (by omega) h_5))]

set_option maxHeartbeats 1000000 in
set_option maxRecDepth 10000 in
theorem lp_X8_drawInto_26 {d : Nat} {M : Mm} {ML : Ml} {B : List Int32} (hB : TS (M 47 0) (M 48) B) (hw : wh1 (dgB B 0) = true) : ∀ E, E ≤ 10 → ∀ M', Fr [7, 8, 9, 10, 11] M M' → NS M' 7 8 9 10 11 (rdN B) E (rdAr B E) (rdl B) (rdh B) → (∀ e, e < E → goP B e) → WP (d + 3) cd_X8_drawInto false (fun r M2 L2 => r = some (.int (FV B)) ∧ L2 = ML ∧ Fr [7, 8, 9, 10, 11] M M2 ∧ (FV B < 0 → wh1 (dgB B 0) = true ∧ (∀ e, e < rdE B → goP B e) ∧ rdE B ≤ 10 ∧ NS M2 7 8 9 10 11 (rdN B) (rdE B) (rdAr B (rdE B)) (rdl B) (rdh B))) (26, [(0, .ref 47), (1, .ref 7), (2, .int (dgB B 0)), (3, .int (nI (3 * E + 1)))], [], (SH, M', ML)) := by
  have h40 := hB.2.1
  obtain ⟨hNw, hN1, hN7⟩ := rdN_w hw
  refine up_ind fun E hE ih => ?_
  intro M' hF hS hg
  have hsm : 3 * E + 3 < 2 ^ 31 := by omega
  have hW := WN_rd hN1 hN7 E hE hg
  have hB' : TS (M' 47 0) (M' 48) B := by rw [hF 47 (by decide), hF 48 (by decide)]; exact hB
  refine w_ld rfl rfl ?_
  refine w_ld rfl rfl ?_
  refine w_getv rfl rfl rfl rfl rfl (hB'.1) ?_
  refine w_cj rfl rfl (fun h_31 => ?_) (fun h_31 => ?_)
  · refine w_cst (v := .int (-1)) rfl rfl ?_
    refine w_ret rfl rfl (trivial) ?_
    have hv := FV_end hw hE hg (nle (by omega) (by omega) h_31)
    refine ⟨by rw [hv.1], rfl, hF, fun _ => ?_⟩
    rw [hv.2]
    exact ⟨hw, hg, hE, hS⟩
  · have hlen : 3 * E + 1 < B.length := nnle (by omega) (by omega) h_31
    have hby := TS_by hB' hlen
    refine w_ld rfl rfl ?_
    refine w_getr rfl rfl rfl rfl rfl ?_
    refine w_ld rfl rfl ?_
    refine w_call (as := [_, _]) (rest := []) rfl rfl rfl rfl rfl rfl rfl rfl (ok_at_v _ _ _ rfl rfl rfl (rfl) (by omega) (hby.1)) ?_
    refine w_cst (v := .int 59) rfl rfl ?_
    refine w_cj rfl rfl (fun h_44 => ?_) (fun h_44 => ?_)
    · refine w_ld rfl rfl ?_
      refine w_ret rfl rfl (trivial) ?_
      rw [show nI (3 * E + 1) = nI (3 * E + 1) from rfl]
      first
        | exact (fun (hv : FV B = nI (3 * E + 1)) => ⟨congrArg (fun q => some (Value.int q)) hv.symm, rfl, hF, fun q => (FV_dec (x := 0) hv (Nat.lt_of_succ_lt (Nat.lt_of_succ_lt hsm)) q).elim⟩) (FV_1 hw hE hg hlen (fun w => h_44 w.1))
        | exact (fun (hv : FV B = nI (3 * E + 1)) => ⟨congrArg (fun q => some (Value.int q)) hv.symm, rfl, hF, fun q => (FV_dec (x := 0) hv (Nat.lt_of_succ_lt (Nat.lt_of_succ_lt hsm)) q).elim⟩) (FV_1 hw hE hg hlen (fun w => h_53 (nI_lt w.2 (by decide))))
    · refine w_ld rfl rfl ?_
      refine w_getv rfl rfl rfl rfl rfl (hS.2.1) ?_
      refine w_cst (v := .int 10) rfl rfl ?_
      refine w_cj rfl rfl (fun h_53 => ?_) (fun h_53 => ?_)
      · have h59 : byB B (3 * E + 1) = 59 ∧ E < 10 := ⟨Classical.not_not.mp h_44, nlt (by omega) (by decide) h_53⟩
        refine w_ld rfl rfl ?_
        refine w_ld rfl rfl ?_
        refine w_cst (v := .int 1) rfl rfl ?_
        refine w_bin rfl rfl ?_
        rw [show nI (3 * E + 1) + 1 = nI (3 * E + 2) from nI_1 _]
        refine w_call (as := [_, _]) (rest := []) rfl rfl rfl rfl rfl rfl rfl rfl (EX_ex (ok_X8_digitAt hB' (by omega))) ?_
        refine w_sto (L' := [(0, _), (1, _), (2, _), (3, _), (4, _)]) rfl rfl ?_
        refine w_ld rfl rfl ?_
        refine w_ld rfl rfl ?_
        refine w_cifn (as := [_, _]) (rest := []) rfl rfl rfl rfl rfl rfl rfl rfl (ok_X4_hasNode_7 _ _ _ _ hS.1) rfl (fun h_70 => ?_) (fun h_70 => ?_)
        · refine w_ld rfl rfl ?_
          refine w_ld rfl rfl ?_
          refine w_cst (v := .int 2) rfl rfl ?_
          refine w_bin rfl rfl ?_
          rw [show nI (3 * E + 1) + 2 = nI (3 * E + 3) from nI_add (3 * E + 1) 2]
          refine w_call (as := [_, _]) (rest := []) rfl rfl rfl rfl rfl rfl rfl rfl (EX_ex (ok_X8_digitAt hB' (by omega))) ?_
          refine w_sto (L' := [(0, _), (1, _), (2, _), (3, _), (4, _), (5, _)]) rfl rfl ?_
          refine w_ld rfl rfl ?_
          refine w_ld rfl rfl ?_
          refine w_cife (as := [_, _]) (rest := []) rfl rfl rfl rfl rfl rfl rfl rfl (ok_X4_hasNode_7 _ _ _ _ hS.1) rfl (fun h_92 => ?_) (fun h_92 => ?_)
          · refine w_ld rfl rfl ?_
            refine w_cst (v := .int 2) rfl rfl ?_
            refine w_bin rfl rfl ?_
            refine w_ret rfl rfl (trivial) ?_
            rw [show nI (3 * E + 1) + 2 = nI (3 * E + 3) from nI_add (3 * E + 1) 2]
            first
              | exact (fun (hv : FV B = nI (3 * E + 3)) => ⟨congrArg (fun q => some (Value.int q)) hv.symm, rfl, hF, fun q => (FV_dec (x := 0) hv hsm q).elim⟩) (FV_3 hw hE hg hlen h59 h_70 (fun w => w.2.2.2.2.2 (Classical.byContradiction fun y => h_113 ((fstI_neg (Nat.lt_of_le_of_lt hE (by decide))).mpr y))))
              | exact (fun (hv : FV B = nI (3 * E + 3)) => ⟨congrArg (fun q => some (Value.int q)) hv.symm, rfl, hF, fun q => (FV_dec (x := 0) hv hsm q).elim⟩) (FV_3 hw hE hg hlen h59 h_70 (fun w => w.2.2.2.2.1 h_102))
              | exact (fun (hv : FV B = nI (3 * E + 3)) => ⟨congrArg (fun q => some (Value.int q)) hv.symm, rfl, hF, fun q => (FV_dec (x := 0) hv hsm q).elim⟩) (FV_3 hw hE hg hlen h59 h_70 (fun w => Bool.noConfusion (h_92.symm.trans w.2.2.2.1)))
          · refine w_ld rfl rfl ?_
            refine w_ld rfl rfl ?_
            refine w_cj rfl rfl (fun h_102 => ?_) (fun h_102 => ?_)
            · refine w_ld rfl rfl ?_
              refine w_cst (v := .int 2) rfl rfl ?_
              refine w_bin rfl rfl ?_
              refine w_ret rfl rfl (trivial) ?_
              rw [show nI (3 * E + 1) + 2 = nI (3 * E + 3) from nI_add (3 * E + 1) 2]
              first
                | exact (fun (hv : FV B = nI (3 * E + 3)) => ⟨congrArg (fun q => some (Value.int q)) hv.symm, rfl, hF, fun q => (FV_dec (x := 0) hv hsm q).elim⟩) (FV_3 hw hE hg hlen h59 h_70 (fun w => w.2.2.2.2.2 (Classical.byContradiction fun y => h_113 ((fstI_neg (Nat.lt_of_le_of_lt hE (by decide))).mpr y))))
                | exact (fun (hv : FV B = nI (3 * E + 3)) => ⟨congrArg (fun q => some (Value.int q)) hv.symm, rfl, hF, fun q => (FV_dec (x := 0) hv hsm q).elim⟩) (FV_3 hw hE hg hlen h59 h_70 (fun w => w.2.2.2.2.1 h_102))
                | exact (fun (hv : FV B = nI (3 * E + 3)) => ⟨congrArg (fun q => some (Value.int q)) hv.symm, rfl, hF, fun q => (FV_dec (x := 0) hv hsm q).elim⟩) (FV_3 hw hE hg hlen h59 h_70 (fun w => Bool.noConfusion (h_92.symm.trans w.2.2.2.1)))
            · have e1 := inR_cl (by omega) h_70
              have e2 := inR_cl (by omega) h_92
              have e1a : dgB B (3 * E + 2) = nI (rdF B E) := e1.1
              have e2a : dgB B (3 * E + 3) = nI (rdT B E) := e2.1
              have e1b : rdF B E < rdN B := e1.2
              have e2b : rdT B E < rdN B := e2.2
              rw [e1a, e2a]
              refine w_ld rfl rfl ?_
              refine w_ld rfl rfl ?_
              refine w_ld rfl rfl ?_
              refine w_call (as := [_, _, _]) (rest := []) rfl rfl rfl rfl rfl rfl rfl rfl (ok_X4_between_7 _ _ _ hS hE (by omega) (by omega) (WN_b hW)) ?_
              refine w_cj rfl rfl (fun h_113 => ?_) (fun h_113 => ?_)
              · have hgo : goP B E := ⟨hlen, h59, h_70, h_92, h_102, fun w => (fstI_neg (by omega)).mp h_113 w⟩
                obtain ⟨M3, hE125, hS3, hF3⟩ := ok_X4_join_7 (d + 0) M' ML (i := rdF B E) (j := rdT B E) hS h59.2 (by omega) (by omega) (WN_b hW)
                rw [rdl_s, rdh_s] at hS3
                refine w_ld rfl rfl ?_
                refine w_ld rfl rfl ?_
                refine w_ld rfl rfl ?_
                refine w_callv (as := [_, _, _]) (rest := []) rfl rfl rfl rfl rfl rfl rfl rfl hE125 ?_
                refine w_inc (y := _ + 3) rfl rfl rfl ?_
                refine w_norm (L' := [(0, _), (1, _), (2, _), (3, _), (4, _), (5, _)]) rfl ?_
                refine w_go rfl ?_
                refine w_keep [0, 1, 2, 3] (L' := [(0, _), (1, _), (2, _), (3, _)]) rfl ?_
                rw [show nI (3 * E + 1) + 3 = nI (3 * (E + 1) + 1) from nI_add (3 * E + 1) 3]
                refine ih h59.2 M3 (Fr_tr hF (Fr_mono hF3 (by decide))) hS3 (fun e he => ?_)
                rcases Nat.lt_or_ge e E with w | w
                · exact hg e w
                · have : e = E := by omega
                  exact this ▸ hgo
              · refine w_ld rfl rfl ?_
                refine w_cst (v := .int 2) rfl rfl ?_
                refine w_bin rfl rfl ?_
                refine w_ret rfl rfl (trivial) ?_
                rw [show nI (3 * E + 1) + 2 = nI (3 * E + 3) from nI_add (3 * E + 1) 2]
                first
                  | exact (fun (hv : FV B = nI (3 * E + 3)) => ⟨congrArg (fun q => some (Value.int q)) hv.symm, rfl, hF, fun q => (FV_dec (x := 0) hv hsm q).elim⟩) (FV_3 hw hE hg hlen h59 h_70 (fun w => w.2.2.2.2.2 (Classical.byContradiction fun y => h_113 ((fstI_neg (Nat.lt_of_le_of_lt hE (by decide))).mpr y))))
                  | exact (fun (hv : FV B = nI (3 * E + 3)) => ⟨congrArg (fun q => some (Value.int q)) hv.symm, rfl, hF, fun q => (FV_dec (x := 0) hv hsm q).elim⟩) (FV_3 hw hE hg hlen h59 h_70 (fun w => w.2.2.2.2.1 h_102))
                  | exact (fun (hv : FV B = nI (3 * E + 3)) => ⟨congrArg (fun q => some (Value.int q)) hv.symm, rfl, hF, fun q => (FV_dec (x := 0) hv hsm q).elim⟩) (FV_3 hw hE hg hlen h59 h_70 (fun w => Bool.noConfusion (h_92.symm.trans w.2.2.2.1)))
        · refine w_ld rfl rfl ?_
          refine w_cst (v := .int 1) rfl rfl ?_
          refine w_bin rfl rfl ?_
          refine w_ret rfl rfl (trivial) ?_
          rw [show nI (3 * E + 1) + 1 = nI (3 * E + 2) from nI_1 _]
          first
            | exact (fun (hv : FV B = nI (3 * E + 2)) => ⟨congrArg (fun q => some (Value.int q)) hv.symm, rfl, hF, fun q => (FV_dec (x := 0) hv (Nat.lt_of_succ_lt hsm) q).elim⟩) (FV_2 hw hE hg hlen h59 h_70)
      · refine w_ld rfl rfl ?_
        refine w_ret rfl rfl (trivial) ?_
        rw [show nI (3 * E + 1) = nI (3 * E + 1) from rfl]
        first
          | exact (fun (hv : FV B = nI (3 * E + 1)) => ⟨congrArg (fun q => some (Value.int q)) hv.symm, rfl, hF, fun q => (FV_dec (x := 0) hv (Nat.lt_of_succ_lt (Nat.lt_of_succ_lt hsm)) q).elim⟩) (FV_1 hw hE hg hlen (fun w => h_44 w.1))
          | exact (fun (hv : FV B = nI (3 * E + 1)) => ⟨congrArg (fun q => some (Value.int q)) hv.symm, rfl, hF, fun q => (FV_dec (x := 0) hv (Nat.lt_of_succ_lt (Nat.lt_of_succ_lt hsm)) q).elim⟩) (FV_1 hw hE hg hlen (fun w => h_53 (nI_lt w.2 (by decide))))

set_option maxHeartbeats 1000000 in
set_option maxRecDepth 10000 in
theorem ok_X8_drawInto {d : Nat} {M : Mm} {ML : Ml} {B : List Int32} (hB : TS (M 47 0) (M 48) B) : EX (d + 4) k_X8_drawInto [.ref 47, .ref 7] M ML (fun r M2 L2 => r = some (.int (FV B)) ∧ L2 = ML ∧ Fr [7, 8, 9, 10, 11] M M2 ∧ (FV B < 0 → wh1 (dgB B 0) = true ∧ (∀ e, e < rdE B → goP B e) ∧ rdE B ≤ 10 ∧ NS M2 7 8 9 10 11 (rdN B) (rdE B) (rdAr B (rdE B)) (rdl B) (rdh B))) := by
  refine EX_in mi_X8_drawInto rfl rfl ?_
  show WP _ cd_X8_drawInto false _ (0, [(0, .ref 47), (1, .ref 7)], [], (SH, M, ML))
  refine w_ld rfl rfl ?_
  refine w_cst (v := .int 0) rfl rfl ?_
  refine w_call (as := [_, _]) (rest := []) rfl rfl rfl rfl rfl rfl rfl rfl (EX_ex (ok_X8_digitAt (i := 0) hB (by decide))) ?_
  refine w_sto (L' := [(0, _), (1, _), (2, _)]) rfl rfl ?_
  refine w_ld rfl rfl ?_
  refine w_cst (v := .int 1) rfl rfl ?_
  refine w_cj rfl rfl (fun h_8 => ?_) (fun h_8 => ?_)
  · refine w_cst (v := .int 0) rfl rfl ?_
    refine w_ret rfl rfl (trivial) ?_
    first
      | exact (fun (hv : FV B = 0) => ⟨congrArg (fun q => some (Value.int q)) hv.symm, rfl, Fr_rf, fun q => (FV_dec (x := 0) (v := 0) hv (by decide) q).elim⟩) (FV_bad (decide_eq_false (fun w => h_14 w.2)))
      | exact (fun (hv : FV B = 0) => ⟨congrArg (fun q => some (Value.int q)) hv.symm, rfl, Fr_rf, fun q => (FV_dec (x := 0) (v := 0) hv (by decide) q).elim⟩) (FV_bad (decide_eq_false (fun w => nlt_le.mpr w.1 h_8)))
  · refine w_ld rfl rfl ?_
    refine w_cst (v := .int 7) rfl rfl ?_
    refine w_cj rfl rfl (fun h_14 => ?_) (fun h_14 => ?_)
    · have hw : wh1 (dgB B 0) = true := decide_eq_true ⟨nlt_le.mp h_8, h_14⟩
      obtain ⟨hNw, hN1, hN7⟩ := rdN_w hw
      obtain ⟨M3, hE21, hS3, hF3⟩ := ok_X4_clear_7 (d + 0) M ML (rdN B) (rdl B) (rdh B)
      refine w_ld rfl rfl ?_
      refine w_ld rfl rfl ?_
      rw [hNw]
      refine w_callv (as := [_, _]) (rest := []) rfl rfl rfl rfl rfl rfl rfl rfl hE21 ?_
      refine w_cst (v := .int 1) rfl rfl ?_
      refine w_sto (L' := [(0, _), (1, _), (2, _), (3, _)]) rfl rfl ?_
      have hq := lp_X8_drawInto_26 (d := d) (ML := ML) hB hw 0 (by decide) M3 (Fr_mono hF3 (by decide)) hS3 (fun e he => absurd he (Nat.not_lt_zero e))
      rw [hNw] at hq
      exact hq
    · refine w_cst (v := .int 0) rfl rfl ?_
      refine w_ret rfl rfl (trivial) ?_
      first
        | exact (fun (hv : FV B = 0) => ⟨congrArg (fun q => some (Value.int q)) hv.symm, rfl, Fr_rf, fun q => (FV_dec (x := 0) (v := 0) hv (by decide) q).elim⟩) (FV_bad (decide_eq_false (fun w => h_14 w.2)))
        | exact (fun (hv : FV B = 0) => ⟨congrArg (fun q => some (Value.int q)) hv.symm, rfl, Fr_rf, fun q => (FV_dec (x := 0) (v := 0) hv (by decide) q).elim⟩) (FV_bad (decide_eq_false (fun w => nlt_le.mpr w.1 h_8)))

set_option maxHeartbeats 1000000 in
set_option maxRecDepth 10000 in
theorem ok_X11_read {d : Nat} {M : Mm} {ML : Ml} {B : List Int32} (hB : TS (M 47 0) (M 48) B) : EX (d + 6) k_X11_read [.ref 1] M ML (fun r M2 L2 => (¬ FV B < 0 → r = some (.int (-1000 - FV B)) ∧ L2 = ML ∧ Fr [7, 8, 9, 10, 11, 47] M M2 ∧ M2 47 0 = 0) ∧ (FV B < 0 → r = some (.int (nI (rdE B))) ∧ L2 = ML ∧ Fr [2, 3, 4, 5, 6, 7, 8, 9, 10, 11, 12, 18, 19, 20, 21, 22, 23, 24, 31, 47] M M2 ∧ M2 47 0 = 0 ∧ WN (rdN B) (rdE B) (rdAr B (rdE B)) (rdl B) (rdh B) ∧ NW M2 (rdN B) (rdE B) (rdAr B (rdE B)) (rdl B) (rdh B))) := by
  refine EX_in mi_X11_read rfl rfl ?_
  show WP _ cd_X11_read false _ (0, [(0, .ref 1)], [], (SH, M, ML))
  refine w_ld rfl rfl ?_
  refine w_getr rfl rfl rfl rfl rfl ?_
  refine w_ld rfl rfl ?_
  refine w_getr rfl rfl rfl rfl rfl ?_
  obtain ⟨_, M3, ML, ⟨rfl, rfl, hF3, hX⟩, hE8⟩ := ok_X8_drawInto (d := d + 1) (ML := ML) hB
  refine w_call (as := [_, _]) (rest := []) rfl rfl rfl rfl rfl rfl rfl rfl hE8 ?_
  refine w_sto (L' := [(0, _), (1, _)]) rfl rfl ?_
  refine w_ld rfl rfl ?_
  refine w_getr rfl rfl rfl rfl rfl ?_
  refine w_cst (v := .int 0) rfl rfl ?_
  refine w_put rfl rfl rfl rfl rfl (Or.inl rfl) ?_
  refine w_ld rfl rfl ?_
  refine w_cj rfl rfl (fun h_21 => ?_) (fun h_21 => ?_)
  · obtain ⟨hw, hg, hE, hS3⟩ := hX h_21
    obtain ⟨hNw, hN1, hN7⟩ := rdN_w hw
    have hW := WN_rd hN1 hN7 _ hE hg
    refine w_ld rfl rfl ?_
    refine w_getr rfl rfl rfl rfl rfl ?_
    refine w_ld rfl rfl ?_
    refine w_getr rfl rfl rfl rfl rfl ?_
    have hS4 := NS_row (M' := up2 M3 47 0 0) hS3 (up2_row (by decide)) (up2_row (by decide)) (up2_row (by decide)) (up2_row (by decide)) (up2_row (by decide))
    obtain ⟨M5, hE38, hS5, hF5⟩ := ok_X4_copy_2_7 (d + 2) (up2 M3 47 0 0) ML hS4 hE (WN_b hW)
    refine w_callv (as := [_, _]) (rest := []) rfl rfl rfl rfl rfl rfl rfl rfl hE38 ?_
    refine w_ld rfl rfl ?_
    obtain ⟨_, M6, ML, ⟨rfl, rfl, hF6, hN6⟩, hE42⟩ := ok_X11_renew (d := d) (ML := ML) hS5 hW
    refine w_callv (as := [_]) (rest := []) rfl rfl rfl rfl rfl rfl rfl rfl hE42 ?_
    refine w_ld rfl rfl ?_
    refine w_getr rfl rfl rfl rfl rfl ?_
    refine w_getv rfl rfl rfl rfl rfl (hN6.1.2.1) ?_
    refine w_ret rfl rfl (trivial) ?_
    refine ⟨fun q => absurd h_21 q, fun _ => ⟨rfl, rfl, Fr_tr (Fr_up (by decide) (Fr_mono hF3 (by decide))) (Fr_tr (Fr_mono hF5 (by decide)) (Fr_mono hF6 (by decide))), ?_, hW, hN6⟩⟩
    rw [hF6 47 (by decide), hF5 47 (by decide), up2_e]
  · refine w_cst (v := .int (-1000)) rfl rfl ?_
    refine w_ld rfl rfl ?_
    refine w_bin rfl rfl ?_
    refine w_ret rfl rfl (trivial) ?_
    exact ⟨fun _ => ⟨rfl, rfl, Fr_up (by decide) (Fr_mono hF3 (by decide)), up2_e⟩, fun q => absurd q h_21⟩

