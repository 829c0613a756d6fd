/-! ===== keys, alike, conjugate of the reference ===== -/
theorem flw_b {N E A : Nat} {l h : Nat → Nat} (hW : WN N E A l h) {a c : Nat} (ha : a < 2 ^ E) (hc : c < E) (hch : isCh l h c = true) : -12 ≤ flw l h E (nI a) c ∧ flw l h E (nI a) c ≤ 12 := by
  obtain ⟨L, hL1, hL2⟩ := P_ex c (h c) (l c) (of_decide_eq_true hch).symm
  have h1 := ring_ok hW hc hL1 hL2 a ha
  have h2 := popc_le (mkP L ||| 2 ^ c)
  have h3 : popc ((a ^^^ wyP h (h c) L) &&& (mkP L ||| 2 ^ c)) ≤ popc (mkP L ||| 2 ^ c) := by
    rw [popc_ct, popc_ct]
    refine fb_ct_sub fun k _ q => ?_
    rw [Nat.testBit_and, Bool.and_eq_true] at q
    exact q.2
  omega
/-- the reference's key -/
def krN (l h : Nat → Nat) (E a : Nat) : Nat → Nat
  | 0 => 0
  | e + 1 => if isCh l h e = true then 32 * krN l h E a e + (flw l h E (nI a) e + 16).toNat else krN l h E a e
theorem krN_y {l h : Nat → Nat} {E a e : Nat} (q : isCh l h e = true) : krN l h E a (e + 1) = 32 * krN l h E a e + (flw l h E (nI a) e + 16).toNat := if_pos q
theorem krN_n {l h : Nat → Nat} {E a e : Nat} (q : isCh l h e = false) : krN l h E a (e + 1) = krN l h E a e := if_neg (by rw [q]; exact Bool.noConfusion)
theorem krN_lt {N E A : Nat} {l h : Nat → Nat} (hW : WN N E A l h) {a : Nat} (ha : a < 2 ^ E) : ∀ e, e ≤ E → krN l h E a e < 32 ^ e
  | 0, _ => Nat.one_pos
  | e + 1, he => by
    have ih := krN_lt hW ha e (by omega)
    rw [Nat.pow_succ]
    cases q : isCh l h e with
    | true =>
      rw [krN_y q]
      have := flw_b hW ha (show e < E by omega) q
      omega
    | false =>
      rw [krN_n q]
      omega
theorem kr_62 {N E A : Nat} {l h : Nat → Nat} (hW : WN N E A l h) {a e : Nat} (ha : a < 2 ^ E) (he : e ≤ E) : krN l h E a e < 2 ^ 50 := by
  have h1 := krN_lt hW ha e he
  have h2 : 32 ^ e ≤ 32 ^ 10 := Nat.pow_le_pow_right (by decide) (by have := hW.2.2.1; omega)
  have h3 : (32 : Nat) ^ 10 = 2 ^ 50 := by decide
  omega
theorem krN_eq {N E A : Nat} {l h : Nat → Nat} (hW : WN N E A l h) {a b : Nat} (ha : a < 2 ^ E) (hb : b < 2 ^ E) : ∀ e, e ≤ E → (krN l h E a e = krN l h E b e ↔ ∀ c, c < e → isCh l h c = true → flw l h E (nI a) c = flw l h E (nI b) c)
  | 0, _ => ⟨fun _ c hc => absurd hc (Nat.not_lt_zero c), fun _ => rfl⟩
  | e + 1, he => by
    have ih := krN_eq hW ha hb e (by omega)
    cases q : isCh l h e with
    | true =>
      rw [krN_y q, krN_y q]
      have b1 := flw_b hW ha (show e < E by omega) q
      have b2 := flw_b hW hb (show e < E by omega) q
      constructor
      · intro w c hc hch
        have e1 : krN l h E a e = krN l h E b e := by omega
        rcases Nat.lt_or_ge c e with y | y
        · exact ih.mp e1 c y hch
        · have : c = e := by omega
          subst this
          omega
      · intro w
        rw [ih.mpr (fun c hc hch => w c (by omega) hch), w e (by omega) q]
    | false =>
      rw [krN_n q, krN_n q]
      refine ih.trans ⟨fun w c hc hch => ?_, fun w c hc hch => w c (by omega) hch⟩
      have : c ≠ e := fun y => by rw [y, q] at hch; exact Bool.noConfusion hch
      exact w c (by omega) hch
theorem eqF_kr {N E A : Nat} {l h : Nat → Nat} (hW : WN N E A l h) {a b : Nat} (ha : a < 2 ^ E) (hb : b < 2 ^ E) : eqF l h E (nI a) (nI b) = decide (krN l h E a E = krN l h E b E) := decide_eq_decide.mpr (krN_eq hW ha hb E (Nat.le_refl _)).symm
theorem lN_ofI (n : Nat) : lN n = Int64.ofInt (n : Int) := rfl
theorem key_I {k : Nat} {f : Int} (h1 : -12 ≤ f) (h2 : f ≤ 12) : Int64.ofInt 32 * lN k + (Int32.ofInt f).toInt64 + Int64.ofInt 16 = lN (32 * k + (f + 16).toNat) := by
  have e1 : (Int32.ofInt f).toInt64 = Int64.ofInt f := Int64.toInt_inj.mp (by
    rw [Int32.toInt_toInt64, fb_ofI (by omega) (by omega), Int64.toInt_ofInt, fb_bmodL (by omega) (by omega)])
  rw [e1, lN_ofI, lN_ofI, ← Int64.ofInt_mul, ← Int64.ofInt_add, ← Int64.ofInt_add]
  exact congrArg Int64.ofInt (by omega)

set_option maxHeartbeats 1000000 in
set_option maxRecDepth 10000 in
theorem lp_X12_keyOf_5 {d : Nat} {M : Mm} {ML : Ml} {N E A : Nat} {l h : Nat → Nat} (hS : NM M N E A l h) (hW : WN N E A l h) (hT : ∀ e, e < E → M 85 e = b2i (isCh l h e)) {a : Nat} (ha : a < 2 ^ E) : ∀ e, e ≤ E → ∀ M', Fm [87] [] M M' → WP (d + 3) cd_X12_keyOf false (fun r M2 L2 => r = some (.long (lN (krN l h E a E))) ∧ L2 = ML ∧ Fm [87] [] M M2) (5, [(0, .ref 73), (1, .int (nI a)), (2, .long (lN (krN l h E a e))), (4, .int (nI e))], [], (SH, M', ML)) := by
  have hN7 := hW.2.1
  have hE10 := hW.2.2.1
  refine up_ind fun e he ih => ?_
  intro M' hF
  have hS' := NM_Fm hS hF (by decide) (by decide)
  have h85 : ∀ e, e < E → M' 85 e = b2i (isCh l h e) := fun e he => by rw [hF.1 85 (by decide) (by decide)]; exact hT e he
  refine w_ld rfl rfl ?_
  refine w_ld rfl rfl ?_
  refine w_getv rfl rfl rfl rfl rfl (hS'.2.1) ?_
  refine w_cj rfl rfl (fun h_11 => ?_) (fun h_11 => ?_)
  · have h9 : e = E := by have := nle (by omega) (by omega) h_11; omega
    subst h9
    refine w_ld rfl rfl ?_
    refine w_ret rfl rfl (trivial) ?_
    exact ⟨rfl, rfl, hF⟩
  · have hlt : e < E := nnle (by omega) (by omega) h_11
    refine w_ld rfl rfl ?_
    refine w_getr rfl rfl rfl rfl rfl ?_
    refine w_ld rfl rfl ?_
    refine w_abv rfl rfl rfl (rfl) (by omega) rfl (h85 e hlt) ?_
    refine w_cj rfl rfl (fun h_21 => ?_) (fun h_21 => ?_)
    · refine w_ld rfl rfl ?_
      refine w_sto (L' := [(0, _), (1, _), (2, _), (4, _)]) rfl rfl ?_
      refine w_inc (y := _ + 1) rfl rfl rfl ?_
      refine w_norm (L' := [(0, _), (1, _), (2, _), (4, _)]) rfl ?_
      refine w_go rfl ?_
      rw [nI_1]
      first
        | exact ih hlt M3 (Fm_tr hF hF2)
        | exact (fun (hcn : isCh l h e = false) => by
            have hp := ih hlt M' hF
            rw [krN_n hcn] at hp
            exact hp) (hcf (fun w => w h_21))
    · have hch := hct h_21
      refine w_ldl rfl ?_
      refine w_ld rfl rfl ?_
      refine w_bin rfl rfl ?_
      refine w_ld rfl rfl ?_
      refine w_ld rfl rfl ?_
      refine w_ld rfl rfl ?_
      obtain ⟨_, M3, L3, ⟨rfl, rfl, hF2⟩, hE33⟩ := ok_X12_flowOf (d := d) (ML := ML) (x := nI a) hS' hW h85 hlt hch
      refine w_call (as := [_, _, _]) (rest := [_]) rfl rfl rfl rfl rfl rfl rfl rfl hE33 ?_
      refine w_una rfl rfl ?_
      refine w_bin rfl rfl ?_
      refine w_ldl rfl ?_
      refine w_bin rfl rfl ?_
      rw [show flI l h E (nI a) e = Int32.ofInt (flw l h E (nI a) e) from rfl, key_I (flw_b hW ha hlt hch).1 (flw_b hW ha hlt hch).2, ← krN_y hch]
      refine w_go rfl ?_
      refine w_sto (L' := [(0, _), (1, _), (2, _), (4, _)]) rfl rfl ?_
      refine w_inc (y := _ + 1) rfl rfl rfl ?_
      refine w_norm (L' := [(0, _), (1, _), (2, _), (4, _)]) rfl ?_
      refine w_go rfl ?_
      rw [nI_1]
      first
        | exact ih hlt M3 (Fm_tr hF hF2)
        | exact (fun (hcn : isCh l h e = false) => by
            have hp := ih hlt M' hF
            rw [krN_n hcn] at hp
            exact hp) (hcf (fun w => w h_21))

set_option maxHeartbeats 1000000 in
set_option maxRecDepth 10000 in
theorem ok_X12_keyOf {d : Nat} {M : Mm} {ML : Ml} {N E A : Nat} {l h : Nat → Nat} (hS : NM M N E A l h) (hW : WN N E A l h) (hT : ∀ e, e < E → M 85 e = b2i (isCh l h e)) {a : Nat} (ha : a < 2 ^ E) : EX (d + 4) k_X12_keyOf [.ref 73, .int (nI a)] M ML (fun r M2 L2 => r = some (.long (lN (krN l h E a E))) ∧ L2 = ML ∧ Fm [87] [] M M2) := by
  refine EX_in mi_X12_keyOf rfl rfl ?_
  show WP _ cd_X12_keyOf false _ (0, [(0, .ref 73), (1, .int (nI a))], [], (SH, M, ML))
  refine w_cst (v := .long 0) rfl rfl ?_
  refine w_sto (L' := [(0, _), (1, _), (2, _)]) rfl rfl ?_
  refine w_cst (v := .int 0) rfl rfl ?_
  refine w_sto (L' := [(0, _), (1, _), (2, _), (4, _)]) rfl rfl ?_
  exact lp_X12_keyOf_5 hS hW hT ha 0 (Nat.zero_le _) M Fm_rf

theorem TR_Fm {M M' : Mm} {S F : List Nat} {E : Nat} {l h : Nat → Nat} (q : TR M E l h) (f : Fm S F M M') (hd : 85 ∉ S) (hf : 19 ∉ F) : TR M' E l h := by
  unfold TR
  rw [f.1 85 hd (by decide), f.2 19 hf]
  exact q
theorem cmp_50 {a b : Nat} (ha : a < 2 ^ 50) (hb : b < 2 ^ 50) : lg_cmp (lN a) (lN b) = 0 ↔ a = b := (lg_cmp_eq _ _).trans (fb_lN_inj (by omega) (by omega))

set_option maxHeartbeats 1000000 in
set_option maxRecDepth 10000 in
theorem ok_X12_areAlike {d : Nat} {M : Mm} {ML : Ml} {N E A : Nat} {l h : Nat → Nat} (hS : NM M N E A l h) (hW : WN N E A l h) {a b : Nat} (ha : a < 2 ^ E) (hb : b < 2 ^ E) : EX (d + 5) k_X12_areAlike [.ref 73, .int (nI a), .int (nI b)] M ML (fun r M2 L2 => r = some (.int (b2i (alB l h E (nI a) (nI b)))) ∧ L2 = ML ∧ Fm [85, 86, 87] [19] M M2) := by
  refine EX_in mi_X12_areAlike rfl rfl ?_
  show WP _ cd_X12_areAlike true _ (0, [(0, .ref 73), (1, .int (nI a)), (2, .int (nI b))], [], (SH, M, ML))
  refine w_ld rfl rfl ?_
  obtain ⟨_, M3, L3, ⟨rfl, rfl, hF, hT⟩, hE1⟩ := ok_X12_layTree (d := d + 3) (ML := ML) hS hW
  refine w_callv (as := [_]) (rest := []) rfl rfl rfl rfl rfl rfl rfl rfl hE1 ?_
  have hS3 := NM_Fm hS hF (by decide) (by decide)
  refine w_ld rfl rfl ?_
  refine w_ld rfl rfl ?_
  refine w_cife (as := [_, _]) (rest := []) rfl rfl rfl rfl rfl rfl rfl rfl (ok_X12_isFree _ _ _ hS3 hW) rfl (fun h_6 => ?_) (fun h_6 => ?_)
  · refine w_cst (v := .int 0) rfl rfl ?_
    refine w_ret rfl rfl (by first | exact rb1 | exact rb0) ?_
    first
      | (refine ⟨?_, rfl, Fm_tr (Fm_tr (Fm_mono hF (by decide) (by decide)) (Fm_mono hF4 (by decide) (by decide))) (Fm_mono hF5 (by decide) (by decide))⟩
         unfold alB
         rw [eqF_kr hW ha hb, h_6, h_14]
         first
           | (rw [decide_eq_true ((cmp_50 (kr_62 hW ha (Nat.le_refl _)) (kr_62 hW hb (Nat.le_refl _))).mp (Classical.not_not.mp h_31))]; rfl)
           | (rw [decide_eq_false (fun w => h_31 ((cmp_50 (kr_62 hW ha (Nat.le_refl _)) (kr_62 hW hb (Nat.le_refl _))).mpr w))]; rfl))
      | (refine ⟨?_, rfl, Fm_mono hF (by decide) (by decide)⟩
         unfold alB
         first
           | (rw [h_6, Bool.false_and, Bool.and_false]; rfl)
           | (rw [h_14, Bool.and_false, Bool.and_false]; rfl))
  · refine w_ld rfl rfl ?_
    refine w_ld rfl rfl ?_
    refine w_cife (as := [_, _]) (rest := []) rfl rfl rfl rfl rfl rfl rfl rfl (ok_X12_isFree _ _ _ hS3 hW) rfl (fun h_14 => ?_) (fun h_14 => ?_)
    · refine w_cst (v := .int 0) rfl rfl ?_
      refine w_ret rfl rfl (by first | exact rb1 | exact rb0) ?_
      first
        | (refine ⟨?_, rfl, Fm_tr (Fm_tr (Fm_mono hF (by decide) (by decide)) (Fm_mono hF4 (by decide) (by decide))) (Fm_mono hF5 (by decide) (by decide))⟩
           unfold alB
           rw [eqF_kr hW ha hb, h_6, h_14]
           first
             | (rw [decide_eq_true ((cmp_50 (kr_62 hW ha (Nat.le_refl _)) (kr_62 hW hb (Nat.le_refl _))).mp (Classical.not_not.mp h_31))]; rfl)
             | (rw [decide_eq_false (fun w => h_31 ((cmp_50 (kr_62 hW ha (Nat.le_refl _)) (kr_62 hW hb (Nat.le_refl _))).mpr w))]; rfl))
        | (refine ⟨?_, rfl, Fm_mono hF (by decide) (by decide)⟩
           unfold alB
           first
             | (rw [h_6, Bool.false_and, Bool.and_false]; rfl)
             | (rw [h_14, Bool.and_false, Bool.and_false]; rfl))
    · refine w_ld rfl rfl ?_
      refine w_ld rfl rfl ?_
      obtain ⟨_, M4, L4, ⟨rfl, rfl, hF4⟩, hE22⟩ := ok_X12_keyOf (d := d) (ML := L3) hS3 hW hT.1 ha
      refine w_call (as := [_, _]) (rest := []) rfl rfl rfl rfl rfl rfl rfl rfl hE22 ?_
      have hS4 := NM_Fm hS3 hF4 (by decide) (by decide)
      have hT4 := TR_Fm hT hF4 (by decide) (by decide)
      refine w_ld rfl rfl ?_
      refine w_ld rfl rfl ?_
      obtain ⟨_, M5, L5, ⟨rfl, rfl, hF5⟩, hE27⟩ := ok_X12_keyOf (d := d) (ML := L4) hS4 hW hT4.1 hb
      refine w_call (as := [_, _]) (rest := [_]) rfl rfl rfl rfl rfl rfl rfl rfl hE27 ?_
      refine w_bin rfl rfl ?_
      refine w_cj rfl rfl (fun h_31 => ?_) (fun h_31 => ?_)
      · refine w_cst (v := .int 0) rfl rfl ?_
        refine w_ret rfl rfl (by first | exact rb1 | exact rb0) ?_
        first
          | (refine ⟨?_, rfl, Fm_tr (Fm_tr (Fm_mono hF (by decide) (by decide)) (Fm_mono hF4 (by decide) (by decide))) (Fm_mono hF5 (by decide) (by decide))⟩
             unfold alB
             rw [eqF_kr hW ha hb, h_6, h_14]
             first
               | (rw [decide_eq_true ((cmp_50 (kr_62 hW ha (Nat.le_refl _)) (kr_62 hW hb (Nat.le_refl _))).mp (Classical.not_not.mp h_31))]; rfl)
               | (rw [decide_eq_false (fun w => h_31 ((cmp_50 (kr_62 hW ha (Nat.le_refl _)) (kr_62 hW hb (Nat.le_refl _))).mpr w))]; rfl))
          | (refine ⟨?_, rfl, Fm_mono hF (by decide) (by decide)⟩
             unfold alB
             first
               | (rw [h_6, Bool.false_and, Bool.and_false]; rfl)
               | (rw [h_14, Bool.and_false, Bool.and_false]; rfl))
      · refine w_cst (v := .int 1) rfl rfl ?_
        refine w_go rfl ?_
        refine w_ret rfl rfl (by first | exact rb1 | exact rb0) ?_
        first
          | (refine ⟨?_, rfl, Fm_tr (Fm_tr (Fm_mono hF (by decide) (by decide)) (Fm_mono hF4 (by decide) (by decide))) (Fm_mono hF5 (by decide) (by decide))⟩
             unfold alB
             rw [eqF_kr hW ha hb, h_6, h_14]
             first
               | (rw [decide_eq_true ((cmp_50 (kr_62 hW ha (Nat.le_refl _)) (kr_62 hW hb (Nat.le_refl _))).mp (Classical.not_not.mp h_31))]; rfl)
               | (rw [decide_eq_false (fun w => h_31 ((cmp_50 (kr_62 hW ha (Nat.le_refl _)) (kr_62 hW hb (Nat.le_refl _))).mpr w))]; rfl))
          | (refine ⟨?_, rfl, Fm_mono hF (by decide) (by decide)⟩
             unfold alB
             first
               | (rw [h_6, Bool.false_and, Bool.and_false]; rfl)
               | (rw [h_14, Bool.and_false, Bool.and_false]; rfl))

set_option maxHeartbeats 1000000 in
set_option maxRecDepth 10000 in
theorem ok_X12_alike {d : Nat} {M : Mm} {ML : Ml} {N E A : Nat} {l h : Nat → Nat} (hS : NM M N E A l h) (hW : WN N E A l h) {x y : Int32} : EX (d + 6) k_X12_alike [.ref 73, .int x, .int y] M ML (fun r M2 L2 => r = some (.int (alikeA l h E x y)) ∧ L2 = ML ∧ Fm [85, 86, 87] [19] M M2) := by
  refine EX_in mi_X12_alike rfl rfl ?_
  show WP _ cd_X12_alike false _ (0, [(0, .ref 73), (1, .int x), (2, .int y)], [], (SH, M, ML))
  have hN7 := hW.2.1
  have hE10 := hW.2.2.1
  have h1024 := pow_b hE10
  refine w_ld rfl rfl ?_
  refine w_ld rfl rfl ?_
  refine w_cife (as := [_, _]) (rest := []) rfl rfl rfl rfl rfl rfl rfl rfl (ok_X12_isArrowing _ _ _ _ hS.2.1 hW.2.2.1) rfl (fun h_2 => ?_) (fun h_2 => ?_)
  · refine w_cst (v := .int (-1)) rfl rfl ?_
    refine w_go rfl ?_
    refine w_ret rfl rfl (trivial) ?_
    first
      | (refine ⟨?_, rfl, hF⟩
         unfold alikeA
         rw [h_2, h_10, h_23]
         rfl)
      | (refine ⟨?_, rfl, Fm_rf⟩
         unfold alikeA
         first
           | (rw [h_2]; rfl)
           | (rw [h_2, h_10]; rfl))
  · refine w_ld rfl rfl ?_
    refine w_ld rfl rfl ?_
    refine w_cifn (as := [_, _]) (rest := []) rfl rfl rfl rfl rfl rfl rfl rfl (ok_X12_isArrowing _ _ _ _ hS.2.1 hW.2.2.1) rfl (fun h_10 => ?_) (fun h_10 => ?_)
    · obtain ⟨a, ha, rfl⟩ := inR_ex (by omega) h_2
      obtain ⟨b, hb, rfl⟩ := inR_ex (by omega) h_10
      refine w_ld rfl rfl ?_
      refine w_ld rfl rfl ?_
      refine w_ld rfl rfl ?_
      obtain ⟨_, M3, L3, ⟨rfl, rfl, hF⟩, hE23⟩ := ok_X12_areAlike (d := d) (ML := ML) hS hW ha hb
      refine w_cife (as := [_, _, _]) (rest := []) rfl rfl rfl rfl rfl rfl rfl rfl hE23 rfl (fun h_23 => ?_) (fun h_23 => ?_)
      · refine w_cst (v := .int 0) rfl rfl ?_
        refine w_ret rfl rfl (trivial) ?_
        first
          | (refine ⟨?_, rfl, hF⟩
             unfold alikeA
             rw [h_2, h_10, h_23]
             rfl)
          | (refine ⟨?_, rfl, Fm_rf⟩
             unfold alikeA
             first
               | (rw [h_2]; rfl)
               | (rw [h_2, h_10]; rfl))
      · refine w_cst (v := .int 1) rfl rfl ?_
        refine w_go rfl ?_
        refine w_ret rfl rfl (trivial) ?_
        first
          | (refine ⟨?_, rfl, hF⟩
             unfold alikeA
             rw [h_2, h_10, h_23]
             rfl)
          | (refine ⟨?_, rfl, Fm_rf⟩
             unfold alikeA
             first
               | (rw [h_2]; rfl)
               | (rw [h_2, h_10]; rfl))
    · refine w_cst (v := .int (-1)) rfl rfl ?_
      refine w_go rfl ?_
      refine w_ret rfl rfl (trivial) ?_
      first
        | (refine ⟨?_, rfl, hF⟩
           unfold alikeA
           rw [h_2, h_10, h_23]
           rfl)
        | (refine ⟨?_, rfl, Fm_rf⟩
           unfold alikeA
           first
             | (rw [h_2]; rfl)
             | (rw [h_2, h_10]; rfl))

set_option maxHeartbeats 1000000 in
set_option maxRecDepth 10000 in
theorem ok_X12_conjugate {d : Nat} {M : Mm} {ML : Ml} {N E A : Nat} {l h : Nat → Nat} (hS : NM M N E A l h) (hW : WN N E A l h) {x y : Int32} : EX (d + 6) k_X12_conjugate [.ref 73, .int x, .int y] M ML (fun r M2 L2 => r = some (.int (conjA l h N E x y)) ∧ L2 = ML ∧ Fm [85, 86, 87] [19] M M2) := by
  refine EX_in mi_X12_conjugate rfl rfl ?_
  show WP _ cd_X12_conjugate false _ (0, [(0, .ref 73), (1, .int x), (2, .int y)], [], (SH, M, ML))
  refine w_ld rfl rfl ?_
  refine w_ld rfl rfl ?_
  refine w_cife (as := [_, _]) (rest := []) rfl rfl rfl rfl rfl rfl rfl rfl (EX_ex (ok_X12_isWord hS.1 hW.1 hW.2.1)) rfl (fun h_2 => ?_) (fun h_2 => ?_)
  · refine w_cst (v := .int (-1)) rfl rfl ?_
    refine w_go rfl ?_
    refine w_ret rfl rfl (trivial) ?_
    first
      | (refine ⟨?_, rfl, hF⟩
         unfold conjA
         rw [h_2, h_10, nI_clamp ha, nI_clamp hb, h_31]
         rfl)
      | (refine ⟨?_, rfl, Fm_rf⟩
         unfold conjA
         first
           | (rw [h_2]; rfl)
           | (rw [h_2, h_10]; rfl))
  · refine w_ld rfl rfl ?_
    refine w_ld rfl rfl ?_
    refine w_cifn (as := [_, _]) (rest := []) rfl rfl rfl rfl rfl rfl rfl rfl (EX_ex (ok_X12_isWord hS.1 hW.1 hW.2.1)) rfl (fun h_10 => ?_) (fun h_10 => ?_)
    · obtain ⟨a, ha, rfl, hB1⟩ := wdB_ex h_2
      obtain ⟨b, hb, rfl, hB2⟩ := wdB_ex h_10
      refine w_ld rfl rfl ?_
      refine w_ld rfl rfl ?_
      refine w_ld rfl rfl ?_
      refine w_call (as := [_, _]) (rest := [_]) rfl rfl rfl rfl rfl rfl rfl rfl (EX_ex (ok_X12_arrowsOf hS hW hB1)) ?_
      refine w_ld rfl rfl ?_
      refine w_ld rfl rfl ?_
      refine w_call (as := [_, _]) (rest := [_, _]) rfl rfl rfl rfl rfl rfl rfl rfl (EX_ex (ok_X12_arrowsOf hS hW hB2)) ?_
      obtain ⟨_, M3, L3, ⟨rfl, rfl, hF⟩, hE31⟩ := ok_X12_areAlike (d := d) (ML := ML) hS hW arW_lt arW_lt
      refine w_cife (as := [_, _, _]) (rest := []) rfl rfl rfl rfl rfl rfl rfl rfl hE31 rfl (fun h_31 => ?_) (fun h_31 => ?_)
      · refine w_cst (v := .int 0) rfl rfl ?_
        refine w_ret rfl rfl (trivial) ?_
        first
          | (refine ⟨?_, rfl, hF⟩
             unfold conjA
             rw [h_2, h_10, nI_clamp ha, nI_clamp hb, h_31]
             rfl)
          | (refine ⟨?_, rfl, Fm_rf⟩
             unfold conjA
             first
               | (rw [h_2]; rfl)
               | (rw [h_2, h_10]; rfl))
      · refine w_cst (v := .int 1) rfl rfl ?_
        refine w_go rfl ?_
        refine w_ret rfl rfl (trivial) ?_
        first
          | (refine ⟨?_, rfl, hF⟩
             unfold conjA
             rw [h_2, h_10, nI_clamp ha, nI_clamp hb, h_31]
             rfl)
          | (refine ⟨?_, rfl, Fm_rf⟩
             unfold conjA
             first
               | (rw [h_2]; rfl)
               | (rw [h_2, h_10]; rfl))
    · refine w_cst (v := .int (-1)) rfl rfl ?_
      refine w_go rfl ?_
      refine w_ret rfl rfl (trivial) ?_
      first
        | (refine ⟨?_, rfl, hF⟩
           unfold conjA
           rw [h_2, h_10, nI_clamp ha, nI_clamp hb, h_31]
           rfl)
        | (refine ⟨?_, rfl, Fm_rf⟩
           unfold conjA
           first
             | (rw [h_2]; rfl)
             | (rw [h_2, h_10]; rfl))

set_option maxHeartbeats 1000000 in
set_option maxRecDepth 10000 in
theorem ok_X12_flow {d : Nat} {M : Mm} {ML : Ml} {N E A : Nat} {l h : Nat → Nat} (hS : NM M N E A l h) (hW : WN N E A l h) {x y : Int32} : EX (d + 4) k_X12_flow [.ref 73, .int x, .int y] M ML (fun r M2 L2 => r = some (.long (flowA l h E x y)) ∧ L2 = ML ∧ Fm [85, 86, 87] [19] M M2) := by
  refine EX_in mi_X12_flow rfl rfl ?_
  show WP _ cd_X12_flow false _ (0, [(0, .ref 73), (1, .int x), (2, .int y)], [], (SH, M, ML))
  have hN7 := hW.2.1
  have hE10 := hW.2.2.1
  refine w_ld rfl rfl ?_
  refine w_ld rfl rfl ?_
  refine w_cife (as := [_, _]) (rest := []) rfl rfl rfl rfl rfl rfl rfl rfl (ok_X12_isArrowing _ _ _ _ hS.2.1 hW.2.2.1) rfl (fun h_2 => ?_) (fun h_2 => ?_)
  · refine w_ldl rfl ?_
    refine w_ret rfl rfl (trivial) ?_
    refine ⟨?_, rfl, Fm_rf⟩
    unfold flowA chB
    first
      | (rw [h_2]; rfl)
      | (rw [h_10, Bool.false_and, Bool.and_false]; rfl)
  · refine w_ld rfl rfl ?_
    refine w_ld rfl rfl ?_
    refine w_cifn (as := [_, _]) (rest := []) rfl rfl rfl rfl rfl rfl rfl rfl (ok_X12_isEdge _ _ _ _ hS.2.1 (by omega)) rfl (fun h_10 => ?_) (fun h_10 => ?_)
    · obtain ⟨c, hc, rfl⟩ := inR_ex (by omega) h_10
      refine w_ld rfl rfl ?_
      obtain ⟨_, M3, L3, ⟨rfl, rfl, hF, hT⟩, hE21⟩ := ok_X12_layTree (d := d + 2) (ML := ML) hS hW
      refine w_callv (as := [_]) (rest := []) rfl rfl rfl rfl rfl rfl rfl rfl hE21 ?_
      have hS3 := NM_Fm hS hF (by decide) (by decide)
      refine w_ld rfl rfl ?_
      refine w_getr rfl rfl rfl rfl rfl ?_
      refine w_ld rfl rfl ?_
      refine w_abv rfl rfl rfl (rfl) (by omega) rfl (hT.1 c hc) ?_
      refine w_cj rfl rfl (fun h_30 => ?_) (fun h_30 => ?_)
      · refine w_ldl rfl ?_
        refine w_ret rfl rfl (trivial) ?_
        first
          | (refine ⟨?_, rfl, Fm_tr (Fm_mono hF (by decide) (by decide)) (Fm_mono hF4 (by decide) (by decide))⟩
             unfold flowA chB
             rw [h_2, h_10, nI_clamp (by omega), hch]
             rfl)
          | exact (fun (hch : isCh l h c = false) => ⟨by
              unfold flowA chB
              rw [h_10, nI_clamp (by omega), hch, Bool.and_false, Bool.and_false]
              rfl, rfl, Fm_mono hF (by decide) (by decide)⟩) (hcf (fun w => w h_30))
      · have hch := hct h_30
        refine w_ld rfl rfl ?_
        refine w_ld rfl rfl ?_
        refine w_ld rfl rfl ?_
        obtain ⟨_, M4, L4, ⟨rfl, rfl, hF4⟩, hE36⟩ := ok_X12_flowOf (d := d) (ML := L3) (x := x) hS3 hW hT.1 hc hch
        refine w_call (as := [_, _, _]) (rest := []) rfl rfl rfl rfl rfl rfl rfl rfl hE36 ?_
        refine w_una rfl rfl ?_
        refine w_go rfl ?_
        refine w_ret rfl rfl (trivial) ?_
        first
          | (refine ⟨?_, rfl, Fm_tr (Fm_mono hF (by decide) (by decide)) (Fm_mono hF4 (by decide) (by decide))⟩
             unfold flowA chB
             rw [h_2, h_10, nI_clamp (by omega), hch]
             rfl)
          | exact (fun (hch : isCh l h c = false) => ⟨by
              unfold flowA chB
              rw [h_10, nI_clamp (by omega), hch, Bool.and_false, Bool.and_false]
              rfl, rfl, Fm_mono hF (by decide) (by decide)⟩) (hcf (fun w => w h_30))
    · refine w_ldl rfl ?_
      refine w_ret rfl rfl (trivial) ?_
      refine ⟨?_, rfl, Fm_rf⟩
      unfold flowA chB
      first
        | (rw [h_2]; rfl)
        | (rw [h_10, Bool.false_and, Bool.and_false]; rfl)

