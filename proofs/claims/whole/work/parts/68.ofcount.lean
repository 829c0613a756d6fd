/-! ===== of, count, judge ===== -/
theorem swD {pc t : Nat} {d lo hi : Int} {offs : Array Int} {x : Int32} (h : x.toInt < lo ∨ hi < x.toInt) (ht : ((pc : Int) + d).toNat = t) : swT pc (.tableswitch d lo hi offs) x = some t := by
  show some ((pc : Int) + (if x.toInt < lo ∨ hi < x.toInt then d else offs.getD (x.toInt - lo).toNat 0)).toNat = some t
  rw [if_pos h, ht]
theorem wh_out {y : Int32} {n : Nat} (hn : n < 2 ^ 31) (q : wh y n = false) : y.toInt < 0 ∨ (n : Int) < y.toInt := by
  have h1 := of_decide_eq_false q
  rw [Int32.le_iff_toInt_le, Int32.le_iff_toInt_le, nI_toInt hn, Int32.toInt_zero] at h1
  omega
def ofA (l h : Nat → Nat) (E A : Nat) (x y : Int32) : Int32 := bif inR x E && wh y 3 then (if y = 0 then nI (l x.toNatClampNeg) else if y = 1 then nI (h x.toNatClampNeg) else if y = 2 then b2i (isCh l h x.toNatClampNeg) else (nI A >>> (x &&& 31)) &&& 1) else -1

set_option maxHeartbeats 1000000 in
set_option maxRecDepth 10000 in
theorem ok_X11_of_0 {d : Nat} {M : Mm} {ML : Ml} {N E A : Nat} {l h : Nat → Nat} (hS : NS M 2 3 4 5 6 N E A l h) (hW : WN N E A l h) (hR : RG M E l h) {c : Nat} (hc : c < E) : EX (d + 3) k_X11_of [.ref 1, .int (nI c), .int 0] M ML (fun r M2 L2 => r = some (.int (ofA l h E A (nI c) 0)) ∧ L2 = ML ∧ M2 = M) := by
  refine EX_in mi_X11_of rfl rfl ?_
  show WP _ cd_X11_of false _ (0, [(0, .ref 1), (1, .int (nI c)), (2, .int 0)], [], (SH, M, ML))
  have hE10 := hW.2.2.1
  refine w_ld rfl rfl ?_
  refine w_getr rfl rfl rfl rfl rfl ?_
  refine w_ld rfl rfl ?_
  refine w_cifn (as := [_, _]) (rest := []) rfl rfl rfl rfl rfl rfl rfl rfl (ok_X4_hasEdge _ _ _ _ hS.2.1) rfl (fun h_5 => ?_) (fun h_5 => ?_)
  · refine w_ld rfl rfl ?_
    refine w_sw rfl rfl ?_
    refine w_ld rfl rfl ?_
    refine w_getr rfl rfl rfl rfl rfl ?_
    refine w_getr rfl rfl rfl rfl rfl ?_
    refine w_ld rfl rfl ?_
    refine w_call (as := [_, _]) (rest := []) rfl rfl rfl rfl rfl rfl rfl rfl (ok_at_v _ _ _ rfl rfl rfl (rfl) (by omega) ((hS.2.2.2.1 c hc).1)) ?_
    refine w_ret rfl rfl (trivial) ?_
    refine ⟨?_, rfl, rfl⟩
    unfold ofA
    rw [inR_nI (by omega) hc, nI_clamp (by omega)]
    exact rfl
  · rw [inR_nI (by omega) hc] at h_5
    exact Bool.noConfusion h_5

set_option maxHeartbeats 1000000 in
set_option maxRecDepth 10000 in
theorem ok_X11_of_1 {d : Nat} {M : Mm} {ML : Ml} {N E A : Nat} {l h : Nat → Nat} (hS : NS M 2 3 4 5 6 N E A l h) (hW : WN N E A l h) (hR : RG M E l h) {c : Nat} (hc : c < E) : EX (d + 3) k_X11_of [.ref 1, .int (nI c), .int 1] M ML (fun r M2 L2 => r = some (.int (ofA l h E A (nI c) 1)) ∧ L2 = ML ∧ M2 = M) := by
  refine EX_in mi_X11_of rfl rfl ?_
  show WP _ cd_X11_of false _ (0, [(0, .ref 1), (1, .int (nI c)), (2, .int 1)], [], (SH, M, ML))
  have hE10 := hW.2.2.1
  refine w_ld rfl rfl ?_
  refine w_getr rfl rfl rfl rfl rfl ?_
  refine w_ld rfl rfl ?_
  refine w_cifn (as := [_, _]) (rest := []) rfl rfl rfl rfl rfl rfl rfl rfl (ok_X4_hasEdge _ _ _ _ hS.2.1) rfl (fun h_5 => ?_) (fun h_5 => ?_)
  · refine w_ld rfl rfl ?_
    refine w_sw rfl rfl ?_
    refine w_ld rfl rfl ?_
    refine w_getr rfl rfl rfl rfl rfl ?_
    refine w_getr rfl rfl rfl rfl rfl ?_
    refine w_ld rfl rfl ?_
    refine w_call (as := [_, _]) (rest := []) rfl rfl rfl rfl rfl rfl rfl rfl (ok_at_v _ _ _ rfl rfl rfl (rfl) (by omega) ((hS.2.2.2.1 c hc).2)) ?_
    refine w_ret rfl rfl (trivial) ?_
    refine ⟨?_, rfl, rfl⟩
    unfold ofA
    rw [inR_nI (by omega) hc, nI_clamp (by omega)]
    exact rfl
  · rw [inR_nI (by omega) hc] at h_5
    exact Bool.noConfusion h_5

set_option maxHeartbeats 1000000 in
set_option maxRecDepth 10000 in
theorem ok_X11_of_3 {d : Nat} {M : Mm} {ML : Ml} {N E A : Nat} {l h : Nat → Nat} (hS : NS M 2 3 4 5 6 N E A l h) (hW : WN N E A l h) (hR : RG M E l h) {c : Nat} (hc : c < E) : EX (d + 3) k_X11_of [.ref 1, .int (nI c), .int 3] M ML (fun r M2 L2 => r = some (.int (ofA l h E A (nI c) 3)) ∧ L2 = ML ∧ M2 = M) := by
  refine EX_in mi_X11_of rfl rfl ?_
  show WP _ cd_X11_of false _ (0, [(0, .ref 1), (1, .int (nI c)), (2, .int 3)], [], (SH, M, ML))
  have hE10 := hW.2.2.1
  refine w_ld rfl rfl ?_
  refine w_getr rfl rfl rfl rfl rfl ?_
  refine w_ld rfl rfl ?_
  refine w_cifn (as := [_, _]) (rest := []) rfl rfl rfl rfl rfl rfl rfl rfl (ok_X4_hasEdge _ _ _ _ hS.2.1) rfl (fun h_5 => ?_) (fun h_5 => ?_)
  · refine w_ld rfl rfl ?_
    refine w_sw rfl rfl ?_
    refine w_ld rfl rfl ?_
    refine w_getr rfl rfl rfl rfl rfl ?_
    refine w_getv rfl rfl rfl rfl rfl (hS.2.2.1) ?_
    refine w_ld rfl rfl ?_
    refine w_bin rfl rfl ?_
    refine w_cst (v := .int 1) rfl rfl ?_
    refine w_bin rfl rfl ?_
    refine w_ret rfl rfl (trivial) ?_
    refine ⟨?_, rfl, rfl⟩
    unfold ofA
    rw [inR_nI (by omega) hc, nI_clamp (by omega)]
    exact rfl
  · rw [inR_nI (by omega) hc] at h_5
    exact Bool.noConfusion h_5

set_option maxHeartbeats 1000000 in
set_option maxRecDepth 10000 in
theorem ok_X11_of_2 {d : Nat} {M : Mm} {ML : Ml} {N E A : Nat} {l h : Nat → Nat} (hS : NS M 2 3 4 5 6 N E A l h) (hW : WN N E A l h) (hR : RG M E l h) {c : Nat} (hc : c < E) : EX (d + 3) k_X11_of [.ref 1, .int (nI c), .int 2] M ML (fun r M2 L2 => r = some (.int (ofA l h E A (nI c) 2)) ∧ L2 = ML ∧ M2 = M) := by
  refine EX_in mi_X11_of rfl rfl ?_
  show WP _ cd_X11_of false _ (0, [(0, .ref 1), (1, .int (nI c)), (2, .int 2)], [], (SH, M, ML))
  have hE10 := hW.2.2.1
  refine w_ld rfl rfl ?_
  refine w_getr rfl rfl rfl rfl rfl ?_
  refine w_ld rfl rfl ?_
  refine w_cifn (as := [_, _]) (rest := []) rfl rfl rfl rfl rfl rfl rfl rfl (ok_X4_hasEdge _ _ _ _ hS.2.1) rfl (fun h_5 => ?_) (fun h_5 => ?_)
  · refine w_ld rfl rfl ?_
    refine w_sw rfl rfl ?_
    refine w_ld rfl rfl ?_
    refine w_getr rfl rfl rfl rfl rfl ?_
    refine w_ld rfl rfl ?_
    cases hch : isCh l h c with
    | true =>
      have hcl := cc_lt hc hch
      have hcE := cc_le l h E
      refine w_call (as := [_, _]) (rest := []) rfl rfl rfl rfl rfl rfl rfl rfl (EX_ex (ok_X6_chordOf_y hE10 hR hc hch)) ?_
      refine w_cjF rfl rfl (ne_m1 (by omega)) ?_
      refine w_cst (v := .int 1) rfl rfl ?_
      refine w_go rfl ?_
      refine w_ret rfl rfl (trivial) ?_
      refine ⟨?_, rfl, rfl⟩
      unfold ofA
      rw [inR_nI (by omega) hc, nI_clamp (by omega), show (2 : Int32) = nI 2 from rfl]
      show some (Value.int 1) = some (Value.int (b2i (isCh l h c)))
      rw [hch]
      exact rfl
    | false =>
      refine w_call (as := [_, _]) (rest := []) rfl rfl rfl rfl rfl rfl rfl rfl (EX_ex (ok_X6_chordOf_n hE10 hR (fun c2 hc2 hch2 w => by
      rw [← neq (by omega) (by omega) w, hch] at hch2
      exact Bool.noConfusion hch2))) ?_
      refine w_cjT rfl rfl (by decide) ?_
      refine w_cst (v := .int 0) rfl rfl ?_
      refine w_ret rfl rfl (trivial) ?_
      refine ⟨?_, rfl, rfl⟩
      unfold ofA
      rw [inR_nI (by omega) hc, nI_clamp (by omega), show (2 : Int32) = nI 2 from rfl]
      show some (Value.int 0) = some (Value.int (b2i (isCh l h c)))
      rw [hch]
      exact rfl
  · rw [inR_nI (by omega) hc] at h_5
    exact Bool.noConfusion h_5

set_option maxHeartbeats 1000000 in
set_option maxRecDepth 10000 in
theorem ok_X11_of_n {d : Nat} {M : Mm} {ML : Ml} {N E A : Nat} {l h : Nat → Nat} (hS : NS M 2 3 4 5 6 N E A l h) (hW : WN N E A l h) {x y : Int32} (hq : (inR x E && wh y 3) = false) : EX (d + 3) k_X11_of [.ref 1, .int x, .int y] M ML (fun r M2 L2 => r = some (.int (-1)) ∧ L2 = ML ∧ M2 = M) := by
  refine EX_in mi_X11_of rfl rfl ?_
  show WP _ cd_X11_of false _ (0, [(0, .ref 1), (1, .int x), (2, .int y)], [], (SH, M, ML))
  have hE10 := hW.2.2.1
  refine w_ld rfl rfl ?_
  refine w_getr rfl rfl rfl rfl rfl ?_
  refine w_ld rfl rfl ?_
  refine w_cifn (as := [_, _]) (rest := []) rfl rfl rfl rfl rfl rfl rfl rfl (ok_X4_hasEdge _ _ _ _ hS.2.1) rfl (fun h_5 => ?_) (fun h_5 => ?_)
  · have hy : wh y 3 = false := by rw [h_5, Bool.true_and] at hq; exact hq
    refine w_ld rfl rfl ?_
    refine w_sw rfl (swD (wh_out (n := 3) (by decide) hy) rfl) ?_
    refine w_cst (v := .int (-1)) rfl rfl ?_
    refine w_ret rfl rfl (trivial) ?_
    exact ⟨rfl, rfl, rfl⟩
  · refine w_cst (v := .int (-1)) rfl rfl ?_
    refine w_ret rfl rfl (trivial) ?_
    exact ⟨rfl, rfl, rfl⟩

theorem ok_X11_of {d : Nat} {M : Mm} {ML : Ml} {N E A : Nat} {l h : Nat → Nat} (hS : NS M 2 3 4 5 6 N E A l h) (hW : WN N E A l h) (hR : RG M E l h) {x y : Int32} : EX (d + 3) k_X11_of [.ref 1, .int x, .int y] M ML (fun r M2 L2 => r = some (.int (ofA l h E A x y)) ∧ L2 = ML ∧ M2 = M) := by
  cases hq : inR x E && wh y 3 with
  | false =>
    refine EX_mono (ok_X11_of_n hS hW hq) (fun r M2 L2 q => ⟨?_, q.2⟩)
    unfold ofA
    rw [hq]
    exact q.1
  | true =>
    rw [Bool.and_eq_true] at hq
    obtain ⟨c, hc, rfl⟩ := inR_ex (by have := hW.2.2.1; omega) hq.1
    obtain ⟨j, hj, rfl⟩ := wh_ex (by decide) hq.2
    match j, hj with
    | 0, _ => exact ok_X11_of_0 hS hW hR hc
    | 1, _ => exact ok_X11_of_1 hS hW hR hc
    | 2, _ => exact ok_X11_of_2 hS hW hR hc
    | 3, _ => exact ok_X11_of_3 hS hW hR hc

set_option maxHeartbeats 1000000 in
set_option maxRecDepth 10000 in
theorem ok_X12_of {d : Nat} {M : Mm} {ML : Ml} {N E A : Nat} {l h : Nat → Nat} (hS : NM M N E A l h) (hW : WN N E A l h) {x y : Int32} : EX (d + 3) k_X12_of [.ref 73, .int x, .int y] M ML (fun r M2 L2 => r = some (.int (ofA l h E A x y)) ∧ L2 = ML ∧ Fm [85, 86] [19] M M2) := by
  refine EX_in mi_X12_of rfl rfl ?_
  show WP _ cd_X12_of false _ (0, [(0, .ref 73), (1, .int x), (2, .int y)], [], (SH, M, ML))
  have hE10 := hW.2.2.1
  refine w_ld rfl rfl ?_
  refine w_ld rfl rfl ?_
  refine w_cife (as := [_, _]) (rest := []) rfl rfl rfl rfl rfl rfl rfl rfl (ok_X12_isEdge _ _ _ _ hS.2.1 (by omega)) rfl (fun h_2 => ?_) (fun h_2 => ?_)
  · refine w_cst (v := .int (-1)) rfl rfl ?_
    refine w_ret rfl rfl (trivial) ?_
    refine ⟨?_, rfl, Fm_rf⟩
    unfold ofA
    first
      | (rw [h_2]; rfl)
      | (rw [h_2, show wh y 3 = false from h_11]; rfl)
  · refine w_ld rfl rfl ?_
    refine w_cst (v := .int 0) rfl rfl ?_
    refine w_cst (v := .int 3) rfl rfl ?_
    refine w_cifn (as := [_, _, _]) (rest := []) rfl rfl rfl rfl rfl rfl rfl rfl (ok_X12_in ..) rfl (fun h_11 => ?_) (fun h_11 => ?_)
    · obtain ⟨c, hc, rfl⟩ := inR_ex (by omega) h_2
      refine w_ld rfl rfl ?_
      obtain ⟨_, M3, L3, ⟨rfl, rfl, hF, hT⟩, hE20⟩ := ok_X12_layTree (d := d + 1) (ML := ML) hS hW
      refine w_callv (as := [_]) (rest := []) rfl rfl rfl rfl rfl rfl rfl rfl hE20 ?_
      have hS3 := NM_Fm hS hF (by decide) (by decide)
      refine w_ld rfl rfl ?_
      refine w_cj rfl rfl (fun h_24 => ?_) (fun h_24 => ?_)
      · refine w_ld rfl rfl ?_
        refine w_cst (v := .int 1) rfl rfl ?_
        refine w_cj rfl rfl (fun h_38 => ?_) (fun h_38 => ?_)
        · refine w_ld rfl rfl ?_
          refine w_cst (v := .int 2) rfl rfl ?_
          refine w_cj rfl rfl (fun h_52 => ?_) (fun h_52 => ?_)
          · refine w_ld rfl rfl ?_
            refine w_getv rfl rfl rfl rfl rfl (hS3.2.2.1) ?_
            refine w_ld rfl rfl ?_
            refine w_bin rfl rfl ?_
            refine w_cst (v := .int 1) rfl rfl ?_
            refine w_bin rfl rfl ?_
            refine w_ret rfl rfl (trivial) ?_
            refine ⟨?_, rfl, hF⟩
            unfold ofA
            rw [h_2, show wh y 3 = true from h_11, nI_clamp (by omega)]
            show _ = some (Value.int (if y = 0 then _ else if y = 1 then _ else if y = 2 then _ else _))
            first
              | rw [if_pos (Classical.not_not.mp h_24)]
              | rw [if_neg h_24, if_pos (Classical.not_not.mp h_38)]
              | (rw [if_neg h_24, if_neg h_38, if_pos (Classical.not_not.mp h_52), hct h_61]; rfl)
              | exact (fun (hch : isCh l h c = false) => by
                  rw [if_neg h_24, if_neg h_38, if_pos (Classical.not_not.mp h_52), hch]
                  rfl) (hcf (fun w => w h_61))
              | rw [if_neg h_24, if_neg h_38, if_neg h_52]
          · refine w_ld rfl rfl ?_
            refine w_getr rfl rfl rfl rfl rfl ?_
            refine w_ld rfl rfl ?_
            refine w_abv rfl rfl rfl (rfl) (by omega) rfl (hT.1 c hc) ?_
            refine w_cj rfl rfl (fun h_61 => ?_) (fun h_61 => ?_)
            · refine w_cst (v := .int 0) rfl rfl ?_
              refine w_go rfl ?_
              refine w_ret rfl rfl (trivial) ?_
              refine ⟨?_, rfl, hF⟩
              unfold ofA
              rw [h_2, show wh y 3 = true from h_11, nI_clamp (by omega)]
              show _ = some (Value.int (if y = 0 then _ else if y = 1 then _ else if y = 2 then _ else _))
              first
                | rw [if_pos (Classical.not_not.mp h_24)]
                | rw [if_neg h_24, if_pos (Classical.not_not.mp h_38)]
                | (rw [if_neg h_24, if_neg h_38, if_pos (Classical.not_not.mp h_52), hct h_61]; rfl)
                | exact (fun (hch : isCh l h c = false) => by
                    rw [if_neg h_24, if_neg h_38, if_pos (Classical.not_not.mp h_52), hch]
                    rfl) (hcf (fun w => w h_61))
                | rw [if_neg h_24, if_neg h_38, if_neg h_52]
            · refine w_cst (v := .int 1) rfl rfl ?_
              refine w_go rfl ?_
              refine w_ret rfl rfl (trivial) ?_
              refine ⟨?_, rfl, hF⟩
              unfold ofA
              rw [h_2, show wh y 3 = true from h_11, nI_clamp (by omega)]
              show _ = some (Value.int (if y = 0 then _ else if y = 1 then _ else if y = 2 then _ else _))
              first
                | rw [if_pos (Classical.not_not.mp h_24)]
                | rw [if_neg h_24, if_pos (Classical.not_not.mp h_38)]
                | (rw [if_neg h_24, if_neg h_38, if_pos (Classical.not_not.mp h_52), hct h_61]; rfl)
                | exact (fun (hch : isCh l h c = false) => by
                    rw [if_neg h_24, if_neg h_38, if_pos (Classical.not_not.mp h_52), hch]
                    rfl) (hcf (fun w => w h_61))
                | rw [if_neg h_24, if_neg h_38, if_neg h_52]
        · refine w_ld rfl rfl ?_
          refine w_getr rfl rfl rfl rfl rfl ?_
          refine w_ld rfl rfl ?_
          refine w_aiv rfl rfl rfl (rfl) (by omega) rfl ((hS3.2.2.2 c hc).2) ?_
          refine w_go rfl ?_
          refine w_ret rfl rfl (trivial) ?_
          refine ⟨?_, rfl, hF⟩
          unfold ofA
          rw [h_2, show wh y 3 = true from h_11, nI_clamp (by omega)]
          show _ = some (Value.int (if y = 0 then _ else if y = 1 then _ else if y = 2 then _ else _))
          first
            | rw [if_pos (Classical.not_not.mp h_24)]
            | rw [if_neg h_24, if_pos (Classical.not_not.mp h_38)]
            | (rw [if_neg h_24, if_neg h_38, if_pos (Classical.not_not.mp h_52), hct h_61]; rfl)
            | exact (fun (hch : isCh l h c = false) => by
                rw [if_neg h_24, if_neg h_38, if_pos (Classical.not_not.mp h_52), hch]
                rfl) (hcf (fun w => w h_61))
            | rw [if_neg h_24, if_neg h_38, if_neg h_52]
      · refine w_ld rfl rfl ?_
        refine w_getr rfl rfl rfl rfl rfl ?_
        refine w_ld rfl rfl ?_
        refine w_aiv rfl rfl rfl (rfl) (by omega) rfl ((hS3.2.2.2 c hc).1) ?_
        refine w_go rfl ?_
        refine w_ret rfl rfl (trivial) ?_
        refine ⟨?_, rfl, hF⟩
        unfold ofA
        rw [h_2, show wh y 3 = true from h_11, nI_clamp (by omega)]
        show _ = some (Value.int (if y = 0 then _ else if y = 1 then _ else if y = 2 then _ else _))
        first
          | rw [if_pos (Classical.not_not.mp h_24)]
          | rw [if_neg h_24, if_pos (Classical.not_not.mp h_38)]
          | (rw [if_neg h_24, if_neg h_38, if_pos (Classical.not_not.mp h_52), hct h_61]; rfl)
          | exact (fun (hch : isCh l h c = false) => by
              rw [if_neg h_24, if_neg h_38, if_pos (Classical.not_not.mp h_52), hch]
              rfl) (hcf (fun w => w h_61))
          | rw [if_neg h_24, if_neg h_38, if_neg h_52]
    · refine w_cst (v := .int (-1)) rfl rfl ?_
      refine w_ret rfl rfl (trivial) ?_
      refine ⟨?_, rfl, Fm_rf⟩
      unfold ofA
      first
        | (rw [h_2]; rfl)
        | (rw [h_2, show wh y 3 = false from h_11]; rfl)

def cntA (N E dn fn tn cn : Nat) (y : Int32) : Int32 := if y = 0 then nI N else if y = 1 then nI E else if y = 2 then nI dn else if y = 3 then nI fn else if y = 4 then nI tn else if y = 5 then nI cn else -1

set_option maxHeartbeats 1000000 in
set_option maxRecDepth 10000 in
theorem ok_X11_count_0 {d : Nat} {M : Mm} {ML : Ml} {N E dn fn tn cn : Nat} (h0 : M 2 0 = nI N) (h1 : M 2 1 = nI E) (h2 : M 12 0 = nI dn) (h3 : M 15 0 = nI fn) (h4 : M 47 0 = nI tn) (h5 : M 18 0 = nI cn) : EX (d + 1) k_X11_count [.ref 1, .int 0] M ML (fun r M2 L2 => r = some (.int (cntA N E dn fn tn cn 0)) ∧ L2 = ML ∧ M2 = M) := by
  refine EX_in mi_X11_count rfl rfl ?_
  show WP _ cd_X11_count false _ (0, [(0, .ref 1), (1, .int 0)], [], (SH, M, ML))
  refine w_ld rfl rfl ?_
  refine w_sw rfl rfl ?_
  refine w_ld rfl rfl ?_
  refine w_getr rfl rfl rfl rfl rfl ?_
  refine w_getv rfl rfl rfl rfl rfl (h0) ?_
  refine w_ret rfl rfl (trivial) ?_
  exact ⟨rfl, rfl, rfl⟩

set_option maxHeartbeats 1000000 in
set_option maxRecDepth 10000 in
theorem ok_X11_count_1 {d : Nat} {M : Mm} {ML : Ml} {N E dn fn tn cn : Nat} (h0 : M 2 0 = nI N) (h1 : M 2 1 = nI E) (h2 : M 12 0 = nI dn) (h3 : M 15 0 = nI fn) (h4 : M 47 0 = nI tn) (h5 : M 18 0 = nI cn) : EX (d + 1) k_X11_count [.ref 1, .int 1] M ML (fun r M2 L2 => r = some (.int (cntA N E dn fn tn cn 1)) ∧ L2 = ML ∧ M2 = M) := by
  refine EX_in mi_X11_count rfl rfl ?_
  show WP _ cd_X11_count false _ (0, [(0, .ref 1), (1, .int 1)], [], (SH, M, ML))
  refine w_ld rfl rfl ?_
  refine w_sw rfl rfl ?_
  refine w_ld rfl rfl ?_
  refine w_getr rfl rfl rfl rfl rfl ?_
  refine w_getv rfl rfl rfl rfl rfl (h1) ?_
  refine w_ret rfl rfl (trivial) ?_
  exact ⟨rfl, rfl, rfl⟩

set_option maxHeartbeats 1000000 in
set_option maxRecDepth 10000 in
theorem ok_X11_count_2 {d : Nat} {M : Mm} {ML : Ml} {N E dn fn tn cn : Nat} (h0 : M 2 0 = nI N) (h1 : M 2 1 = nI E) (h2 : M 12 0 = nI dn) (h3 : M 15 0 = nI fn) (h4 : M 47 0 = nI tn) (h5 : M 18 0 = nI cn) : EX (d + 1) k_X11_count [.ref 1, .int 2] M ML (fun r M2 L2 => r = some (.int (cntA N E dn fn tn cn 2)) ∧ L2 = ML ∧ M2 = M) := by
  refine EX_in mi_X11_count rfl rfl ?_
  show WP _ cd_X11_count false _ (0, [(0, .ref 1), (1, .int 2)], [], (SH, M, ML))
  refine w_ld rfl rfl ?_
  refine w_sw rfl rfl ?_
  refine w_ld rfl rfl ?_
  refine w_getr rfl rfl rfl rfl rfl ?_
  refine w_getv rfl rfl rfl rfl rfl (h2) ?_
  refine w_ret rfl rfl (trivial) ?_
  exact ⟨rfl, rfl, rfl⟩

set_option maxHeartbeats 1000000 in
set_option maxRecDepth 10000 in
theorem ok_X11_count_3 {d : Nat} {M : Mm} {ML : Ml} {N E dn fn tn cn : Nat} (h0 : M 2 0 = nI N) (h1 : M 2 1 = nI E) (h2 : M 12 0 = nI dn) (h3 : M 15 0 = nI fn) (h4 : M 47 0 = nI tn) (h5 : M 18 0 = nI cn) : EX (d + 1) k_X11_count [.ref 1, .int 3] M ML (fun r M2 L2 => r = some (.int (cntA N E dn fn tn cn 3)) ∧ L2 = ML ∧ M2 = M) := by
  refine EX_in mi_X11_count rfl rfl ?_
  show WP _ cd_X11_count false _ (0, [(0, .ref 1), (1, .int 3)], [], (SH, M, ML))
  refine w_ld rfl rfl ?_
  refine w_sw rfl rfl ?_
  refine w_ld rfl rfl ?_
  refine w_getr rfl rfl rfl rfl rfl ?_
  refine w_getv rfl rfl rfl rfl rfl (h3) ?_
  refine w_ret rfl rfl (trivial) ?_
  exact ⟨rfl, rfl, rfl⟩

set_option maxHeartbeats 1000000 in
set_option maxRecDepth 10000 in
theorem ok_X11_count_4 {d : Nat} {M : Mm} {ML : Ml} {N E dn fn tn cn : Nat} (h0 : M 2 0 = nI N) (h1 : M 2 1 = nI E) (h2 : M 12 0 = nI dn) (h3 : M 15 0 = nI fn) (h4 : M 47 0 = nI tn) (h5 : M 18 0 = nI cn) : EX (d + 1) k_X11_count [.ref 1, .int 4] M ML (fun r M2 L2 => r = some (.int (cntA N E dn fn tn cn 4)) ∧ L2 = ML ∧ M2 = M) := by
  refine EX_in mi_X11_count rfl rfl ?_
  show WP _ cd_X11_count false _ (0, [(0, .ref 1), (1, .int 4)], [], (SH, M, ML))
  refine w_ld rfl rfl ?_
  refine w_sw rfl rfl ?_
  refine w_ld rfl rfl ?_
  refine w_getr rfl rfl rfl rfl rfl ?_
  refine w_getv rfl rfl rfl rfl rfl (h4) ?_
  refine w_ret rfl rfl (trivial) ?_
  exact ⟨rfl, rfl, rfl⟩

set_option maxHeartbeats 1000000 in
set_option maxRecDepth 10000 in
theorem ok_X11_count_5 {d : Nat} {M : Mm} {ML : Ml} {N E dn fn tn cn : Nat} (h0 : M 2 0 = nI N) (h1 : M 2 1 = nI E) (h2 : M 12 0 = nI dn) (h3 : M 15 0 = nI fn) (h4 : M 47 0 = nI tn) (h5 : M 18 0 = nI cn) : EX (d + 1) k_X11_count [.ref 1, .int 5] M ML (fun r M2 L2 => r = some (.int (cntA N E dn fn tn cn 5)) ∧ L2 = ML ∧ M2 = M) := by
  refine EX_in mi_X11_count rfl rfl ?_
  show WP _ cd_X11_count false _ (0, [(0, .ref 1), (1, .int 5)], [], (SH, M, ML))
  refine w_ld rfl rfl ?_
  refine w_sw rfl rfl ?_
  refine w_ld rfl rfl ?_
  refine w_getr rfl rfl rfl rfl rfl ?_
  refine w_getv rfl rfl rfl rfl rfl (h5) ?_
  refine w_ret rfl rfl (trivial) ?_
  exact ⟨rfl, rfl, rfl⟩

set_option maxHeartbeats 1000000 in
set_option maxRecDepth 10000 in
theorem ok_X11_count_n {d : Nat} {M : Mm} {ML : Ml} {y : Int32} (hy : wh y 5 = false) : EX (d + 1) k_X11_count [.ref 1, .int y] M ML (fun r M2 L2 => r = some (.int (-1)) ∧ L2 = ML ∧ M2 = M) := by
  refine EX_in mi_X11_count rfl rfl ?_
  show WP _ cd_X11_count false _ (0, [(0, .ref 1), (1, .int y)], [], (SH, M, ML))
  refine w_ld rfl rfl ?_
  refine w_sw rfl (swD (wh_out (n := 5) (by decide) hy) rfl) ?_
  refine w_cst (v := .int (-1)) rfl rfl ?_
  refine w_ret rfl rfl (trivial) ?_
  exact ⟨rfl, rfl, rfl⟩

theorem ok_X11_count {d : Nat} {M : Mm} {ML : Ml} {N E dn fn tn cn : Nat} (h0 : M 2 0 = nI N) (h1 : M 2 1 = nI E) (h2 : M 12 0 = nI dn) (h3 : M 15 0 = nI fn) (h4 : M 47 0 = nI tn) (h5 : M 18 0 = nI cn) {y : Int32} : EX (d + 1) k_X11_count [.ref 1, .int y] M ML (fun r M2 L2 => r = some (.int (cntA N E dn fn tn cn y)) ∧ L2 = ML ∧ M2 = M) := by
  cases hq : wh y 5 with
  | false =>
    refine EX_mono (ok_X11_count_n  hq) (fun r M2 L2 q => ⟨?_, q.2⟩)
    unfold cntA
    rw [if_neg, if_neg, if_neg, if_neg, if_neg, if_neg]
    · exact q.1
    all_goals (intro w; rw [w] at hq; exact absurd hq (by decide))
  | true =>
    obtain ⟨j, hj, rfl⟩ := wh_ex (by decide) hq
    match j, hj with
    | 0, _ => exact ok_X11_count_0 h0 h1 h2 h3 h4 h5
    | 1, _ => exact ok_X11_count_1 h0 h1 h2 h3 h4 h5
    | 2, _ => exact ok_X11_count_2 h0 h1 h2 h3 h4 h5
    | 3, _ => exact ok_X11_count_3 h0 h1 h2 h3 h4 h5
    | 4, _ => exact ok_X11_count_4 h0 h1 h2 h3 h4 h5
    | 5, _ => exact ok_X11_count_5 h0 h1 h2 h3 h4 h5

set_option maxHeartbeats 1000000 in
set_option maxRecDepth 10000 in
theorem ok_X12_count_0 {d : Nat} {M : Mm} {ML : Ml} {N E A : Nat} {l h : Nat → Nat} (hS : NM M N E A l h) (hW : WN N E A l h) {dn fn tn : Nat} (h2 : M 73 5 = nI dn) (h3 : M 73 8 = nI fn) (h4 : M 73 12 = nI tn) : EX (d + 2) k_X12_count [.ref 73, .int 0] M ML (fun r M2 L2 => r = some (.int (cntA N E dn fn tn (cc l h E) 0)) ∧ L2 = ML ∧ Fm [85, 86] [19] M M2) := by
  refine EX_in mi_X12_count rfl rfl ?_
  show WP _ cd_X12_count false _ (0, [(0, .ref 73), (1, .int 0)], [], (SH, M, ML))
  refine w_ld rfl rfl ?_
  refine w_sw rfl rfl ?_
  refine w_ld rfl rfl ?_
  refine w_getv rfl rfl rfl rfl rfl (hS.1) ?_
  refine w_ret rfl rfl (trivial) ?_
  exact ⟨rfl, rfl, Fm_rf⟩

set_option maxHeartbeats 1000000 in
set_option maxRecDepth 10000 in
theorem ok_X12_count_1 {d : Nat} {M : Mm} {ML : Ml} {N E A : Nat} {l h : Nat → Nat} (hS : NM M N E A l h) (hW : WN N E A l h) {dn fn tn : Nat} (h2 : M 73 5 = nI dn) (h3 : M 73 8 = nI fn) (h4 : M 73 12 = nI tn) : EX (d + 2) k_X12_count [.ref 73, .int 1] M ML (fun r M2 L2 => r = some (.int (cntA N E dn fn tn (cc l h E) 1)) ∧ L2 = ML ∧ Fm [85, 86] [19] M M2) := by
  refine EX_in mi_X12_count rfl rfl ?_
  show WP _ cd_X12_count false _ (0, [(0, .ref 73), (1, .int 1)], [], (SH, M, ML))
  refine w_ld rfl rfl ?_
  refine w_sw rfl rfl ?_
  refine w_ld rfl rfl ?_
  refine w_getv rfl rfl rfl rfl rfl (hS.2.1) ?_
  refine w_ret rfl rfl (trivial) ?_
  exact ⟨rfl, rfl, Fm_rf⟩

set_option maxHeartbeats 1000000 in
set_option maxRecDepth 10000 in
theorem ok_X12_count_2 {d : Nat} {M : Mm} {ML : Ml} {N E A : Nat} {l h : Nat → Nat} (hS : NM M N E A l h) (hW : WN N E A l h) {dn fn tn : Nat} (h2 : M 73 5 = nI dn) (h3 : M 73 8 = nI fn) (h4 : M 73 12 = nI tn) : EX (d + 2) k_X12_count [.ref 73, .int 2] M ML (fun r M2 L2 => r = some (.int (cntA N E dn fn tn (cc l h E) 2)) ∧ L2 = ML ∧ Fm [85, 86] [19] M M2) := by
  refine EX_in mi_X12_count rfl rfl ?_
  show WP _ cd_X12_count false _ (0, [(0, .ref 73), (1, .int 2)], [], (SH, M, ML))
  refine w_ld rfl rfl ?_
  refine w_sw rfl rfl ?_
  refine w_ld rfl rfl ?_
  refine w_getv rfl rfl rfl rfl rfl (h2) ?_
  refine w_ret rfl rfl (trivial) ?_
  exact ⟨rfl, rfl, Fm_rf⟩

set_option maxHeartbeats 1000000 in
set_option maxRecDepth 10000 in
theorem ok_X12_count_3 {d : Nat} {M : Mm} {ML : Ml} {N E A : Nat} {l h : Nat → Nat} (hS : NM M N E A l h) (hW : WN N E A l h) {dn fn tn : Nat} (h2 : M 73 5 = nI dn) (h3 : M 73 8 = nI fn) (h4 : M 73 12 = nI tn) : EX (d + 2) k_X12_count [.ref 73, .int 3] M ML (fun r M2 L2 => r = some (.int (cntA N E dn fn tn (cc l h E) 3)) ∧ L2 = ML ∧ Fm [85, 86] [19] M M2) := by
  refine EX_in mi_X12_count rfl rfl ?_
  show WP _ cd_X12_count false _ (0, [(0, .ref 73), (1, .int 3)], [], (SH, M, ML))
  refine w_ld rfl rfl ?_
  refine w_sw rfl rfl ?_
  refine w_ld rfl rfl ?_
  refine w_getv rfl rfl rfl rfl rfl (h3) ?_
  refine w_ret rfl rfl (trivial) ?_
  exact ⟨rfl, rfl, Fm_rf⟩

set_option maxHeartbeats 1000000 in
set_option maxRecDepth 10000 in
theorem ok_X12_count_4 {d : Nat} {M : Mm} {ML : Ml} {N E A : Nat} {l h : Nat → Nat} (hS : NM M N E A l h) (hW : WN N E A l h) {dn fn tn : Nat} (h2 : M 73 5 = nI dn) (h3 : M 73 8 = nI fn) (h4 : M 73 12 = nI tn) : EX (d + 2) k_X12_count [.ref 73, .int 4] M ML (fun r M2 L2 => r = some (.int (cntA N E dn fn tn (cc l h E) 4)) ∧ L2 = ML ∧ Fm [85, 86] [19] M M2) := by
  refine EX_in mi_X12_count rfl rfl ?_
  show WP _ cd_X12_count false _ (0, [(0, .ref 73), (1, .int 4)], [], (SH, M, ML))
  refine w_ld rfl rfl ?_
  refine w_sw rfl rfl ?_
  refine w_ld rfl rfl ?_
  refine w_getv rfl rfl rfl rfl rfl (h4) ?_
  refine w_ret rfl rfl (trivial) ?_
  exact ⟨rfl, rfl, Fm_rf⟩

set_option maxHeartbeats 1000000 in
set_option maxRecDepth 10000 in
theorem ok_X12_count_5 {d : Nat} {M : Mm} {ML : Ml} {N E A : Nat} {l h : Nat → Nat} (hS : NM M N E A l h) (hW : WN N E A l h) {dn fn tn : Nat} (h2 : M 73 5 = nI dn) (h3 : M 73 8 = nI fn) (h4 : M 73 12 = nI tn) : EX (d + 2) k_X12_count [.ref 73, .int 5] M ML (fun r M2 L2 => r = some (.int (cntA N E dn fn tn (cc l h E) 5)) ∧ L2 = ML ∧ Fm [85, 86] [19] M M2) := by
  refine EX_in mi_X12_count rfl rfl ?_
  show WP _ cd_X12_count false _ (0, [(0, .ref 73), (1, .int 5)], [], (SH, M, ML))
  refine w_ld rfl rfl ?_
  refine w_sw rfl rfl ?_
  refine w_ld rfl rfl ?_
  obtain ⟨_, M3, L3, ⟨rfl, rfl, hF, hT⟩, hE66⟩ := ok_X12_layTree (d := d) (ML := ML) hS hW
  refine w_callv (as := [_]) (rest := []) rfl rfl rfl rfl rfl rfl rfl rfl hE66 ?_
  refine w_ld rfl rfl ?_
  refine w_getv rfl rfl rfl rfl rfl (hT.2) ?_
  refine w_ret rfl rfl (trivial) ?_
  exact ⟨rfl, rfl, hF⟩

set_option maxHeartbeats 1000000 in
set_option maxRecDepth 10000 in
theorem ok_X12_count_n {d : Nat} {M : Mm} {ML : Ml} {y : Int32} (hy : wh y 5 = false) : EX (d + 2) k_X12_count [.ref 73, .int y] M ML (fun r M2 L2 => r = some (.int (-1)) ∧ L2 = ML ∧ Fm [85, 86] [19] M M2) := by
  refine EX_in mi_X12_count rfl rfl ?_
  show WP _ cd_X12_count false _ (0, [(0, .ref 73), (1, .int y)], [], (SH, M, ML))
  refine w_ld rfl rfl ?_
  refine w_sw rfl (swD (wh_out (n := 5) (by decide) hy) rfl) ?_
  refine w_cst (v := .int (-1)) rfl rfl ?_
  refine w_ret rfl rfl (trivial) ?_
  exact ⟨rfl, rfl, Fm_rf⟩

theorem ok_X12_count {d : Nat} {M : Mm} {ML : Ml} {N E A : Nat} {l h : Nat → Nat} (hS : NM M N E A l h) (hW : WN N E A l h) {dn fn tn : Nat} (h2 : M 73 5 = nI dn) (h3 : M 73 8 = nI fn) (h4 : M 73 12 = nI tn) {y : Int32} : EX (d + 2) k_X12_count [.ref 73, .int y] M ML (fun r M2 L2 => r = some (.int (cntA N E dn fn tn (cc l h E) y)) ∧ L2 = ML ∧ Fm [85, 86] [19] M M2) := by
  cases hq : wh y 5 with
  | false =>
    refine EX_mono (ok_X12_count_n  hq) (fun r M2 L2 q => ⟨?_, q.2⟩)
    unfold cntA
    rw [if_neg, if_neg, if_neg, if_neg, if_neg, if_neg]
    · exact q.1
    all_goals (intro w; rw [w] at hq; exact absurd hq (by decide))
  | true =>
    obtain ⟨j, hj, rfl⟩ := wh_ex (by decide) hq
    match j, hj with
    | 0, _ => exact ok_X12_count_0 hS hW h2 h3 h4
    | 1, _ => exact ok_X12_count_1 hS hW h2 h3 h4
    | 2, _ => exact ok_X12_count_2 hS hW h2 h3 h4
    | 3, _ => exact ok_X12_count_3 hS hW h2 h3 h4
    | 4, _ => exact ok_X12_count_4 hS hW h2 h3 h4
    | 5, _ => exact ok_X12_count_5 hS hW h2 h3 h4

