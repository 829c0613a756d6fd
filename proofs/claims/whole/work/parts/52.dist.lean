/-! ===== distance, step, far, trip of the class ===== -/
theorem srch_Iv {N E : Nat} {l h : Nat → Nat} {s : Bool} {a : Nat} (ha : a < 2 ^ E) : Iv (gF E l h s) (tF E l h) N a (2 ^ E) (2 ^ E) 0 (srch N E l h s a) := bfs_Iv (fun _ _ hx _ => tF_lt hx) ha (2 ^ E)
theorem srch_d {N E : Nat} {l h : Nat → Nat} {s : Bool} {a : Nat} (ha : a < 2 ^ E) (hE : E ≤ 10) {b d : Nat} (q : dl (srch N E l h s a) b = some d) : b < 2 ^ E ∧ d < 1024 := by
  have h1 := Iv_d (srch_Iv ha) q
  have h2 := Iv_len (srch_Iv (N := N) (l := l) (h := h) (s := s) ha)
  have h3 := pow_b hE
  exact ⟨h1.1, by omega⟩
theorem dI_eq {x : Option Nat} {d : Nat} (h : ∀ d, x = some d → d < 2 ^ 31) (hd : d < 2 ^ 31) : dI x = nI d ↔ x = some d := by
  cases x with
  | none => exact ⟨fun q => absurd (show (-1 : Int32) < 0 by decide) (by rw [show (-1 : Int32) = nI d from q]; exact ne_m1 hd), fun q => by cases q⟩
  | some e => exact ⟨fun q => congrArg some (neq (h e rfl) hd q), fun q => by rw [Option.some.inj q]; rfl⟩
/-- a distance told -/
def dA : Option Nat → Int32
  | some d => nI d
  | none => -2
def distA (N E : Nat) (l h : Nat → Nat) (x y : Int32) : Int32 := bif inR x (2 ^ E) && inR y (2 ^ E) then dA (dl (srch N E l h false y.toNatClampNeg) x.toNatClampNeg) else -1
/-- the node by which it comes nearer -/
def stpP (E : Nat) (l h : Nat → Nat) (L : BL) (x d v : Nat) : Bool := gF E l h true x v && decide (dl L (tF E l h x v) = some d)
def stpA (N E : Nat) (l h : Nat → Nat) (L : BL) (x : Nat) : Int32 := match dl L x with
  | some (d + 1) => if fa_first (stpP E l h L x d) N < N then nI (fa_first (stpP E l h L x d) N) else -2
  | _ => -2
def stepA (N E : Nat) (l h : Nat → Nat) (x y : Int32) : Int32 := bif inR x (2 ^ E) && inR y (2 ^ E) then stpA N E l h (srch N E l h false y.toNatClampNeg) x.toNatClampNeg else -1
/-- the fewest behind one firing -/
def mrg : Option Nat → Option Nat → Option Nat
  | some d, some m => if d < m then some d else some m
  | some d, none => some d
  | none, o => o
def trO (E : Nat) (l h : Nat → Nat) (L : BL) (x : Nat) : Nat → Option Nat
  | 0 => none
  | v + 1 => if gF E l h true x v = true then mrg (dl L (tF E l h x v)) (trO E l h L x v) else trO E l h L x v
def tripA (N E : Nat) (l h : Nat → Nat) (x : Int32) : Int32 := bif inR x (2 ^ E) then (match trO E l h (srch N E l h false x.toNatClampNeg) x.toNatClampNeg N with
  | some m => nI (m + 1)
  | none => -2) else -1
theorem trO_lt {E : Nat} {l h : Nat → Nat} {L : BL} {x : Nat} (hd : ∀ b d, dl L b = some d → d < 1024) : ∀ v m, trO E l h L x v = some m → m < 1024
  | 0, m, q => by cases q
  | v + 1, m, q => by
    have ih := trO_lt (E := E) (l := l) (h := h) (x := x) hd v
    unfold trO at q
    split at q
    · unfold mrg at q
      split at q
      · rename_i d m0 h1 h2
        have := ih _ h2
        have := hd _ _ h1
        split at q <;> (have := Option.some.inj q; omega)
      · rename_i d h1 h2
        have := hd _ _ h1
        have := Option.some.inj q
        omega
      · exact ih _ q
    · exact ih _ q
/-- how far it goes, to which -/
def farP (L : BL) (m b : Nat) : Prop := dl L b = some m ∧ (∀ c d, dl L c = some d → d ≤ m) ∧ ∀ c, dl L c = some m → b ≤ c
theorem farP_one {L : BL} {m b m2 b2 : Nat} (h : farP L m b) (h2 : farP L m2 b2) : m = m2 ∧ b = b2 := by
  have e : m = m2 := Nat.le_antisymm (h2.2.1 _ _ h.1) (h.2.1 _ _ h2.1)
  subst e
  exact ⟨rfl, Nat.le_antisymm (h.2.2 _ h2.1) (h2.2.2 _ h.1)⟩
noncomputable def farV (L : BL) : Nat × Nat := Classical.epsilon (fun p : Nat × Nat => farP L p.1 p.2)
theorem farV_of {L : BL} {m b : Nat} (q : farP L m b) : farV L = (m, b) := by
  have h1 : farP L (farV L).1 (farV L).2 := Classical.epsilon_spec (p := fun p : Nat × Nat => farP L p.1 p.2) ⟨(m, b), q⟩
  obtain ⟨e1, e2⟩ := farP_one h1 q
  exact Prod.ext e1 e2
noncomputable def farA (N E : Nat) (l h : Nat → Nat) (x y : Int32) : Int32 := bif inR x (2 ^ E) && wh y 1 then (if y = 0 then nI (farV (srch N E l h true x.toNatClampNeg)).1 else nI (farV (srch N E l h true x.toNatClampNeg)).2) else -1
/-- the least of those that are m far, among the first e -/
def lsA (L : BL) (m : Nat) : Nat → Nat
  | 0 => 1024
  | e + 1 => match L[e]? with
    | some p => if p.2 = m then min (lsA L m e) p.1 else lsA L m e
    | none => lsA L m e
theorem lsA_s {L : BL} {m e : Nat} {p : Nat × Nat} (h : L[e]? = some p) : lsA L m (e + 1) = if p.2 = m then min (lsA L m e) p.1 else lsA L m e := by
  rw [lsA, h]
theorem lsA_le (L : BL) (m : Nat) : ∀ e, lsA L m e ≤ 1024
  | 0 => Nat.le_refl _
  | e + 1 => by
    have ih := lsA_le L m e
    unfold lsA
    split
    · split
      · omega
      · exact ih
    · exact ih
theorem lsA_ok {L : BL} {m : Nat} (hlt : ∀ (k : Nat) (p : Nat × Nat), L[k]? = some p → p.1 < 1024) : ∀ e, (lsA L m e = 1024 ∨ ∃ (k : Nat) (p : Nat × Nat), L[k]? = some p ∧ p.2 = m ∧ p.1 = lsA L m e) ∧ ∀ (k : Nat) (p : Nat × Nat), k < e → L[k]? = some p → p.2 = m → lsA L m e ≤ p.1
  | 0 => ⟨Or.inl rfl, fun k p hk => absurd hk (Nat.not_lt_zero k)⟩
  | e + 1 => by
    obtain ⟨h1, h2⟩ := lsA_ok hlt e
    cases hp : L[e]? with
    | none =>
      have e1 : lsA L m (e + 1) = lsA L m e := by rw [lsA, hp]
      rw [e1]
      refine ⟨h1, fun k p hk hq => ?_⟩
      rcases Nat.lt_or_ge k e with w | w
      · exact h2 k p w hq
      · have : k = e := by omega
        subst this
        rw [hp] at hq
        cases hq
    | some p =>
      rw [lsA_s hp]
      by_cases c : p.2 = m
      · rw [if_pos c]
        have hpl := hlt e p hp
        constructor
        · right
          rcases Nat.lt_or_ge (lsA L m e) p.1 with w | w
          · rcases h1 with q | ⟨k, r, q1, q2, q3⟩
            · omega
            · exact ⟨k, r, q1, q2, by omega⟩
          · exact ⟨e, p, hp, c, by omega⟩
        · intro k r hk hr hm
          rcases Nat.lt_or_ge k e with w | w
          · have := h2 k r w hr hm
            omega
          · have : k = e := by omega
            subst this
            rw [hp] at hr
            rw [← Option.some.inj hr]
            omega
      · rw [if_neg c]
        refine ⟨h1, fun k r hk hr hm => ?_⟩
        rcases Nat.lt_or_ge k e with w | w
        · exact h2 k r w hr hm
        · have : k = e := by omega
          subst this
          rw [hp] at hr
          rw [← Option.some.inj hr] at hm
          exact absurd hm c
theorem far_class {g : Nat → Nat → Bool} {t : Nat → Nat → Nat} {N a n i v : Nat} {L : BL} (h : Iv g t N a n i v L) (hn : n ≤ 1024) {q : Nat × Nat} (hq : L[L.length - 1]? = some q) : farP L q.2 (lsA L q.2 L.length) := by
  have hlt : ∀ (k : Nat) (p : Nat × Nat), L[k]? = some p → p.1 < 1024 := fun k p hp => Nat.lt_of_lt_of_le (h.2.1 k p hp).1 hn
  obtain ⟨h1, h2⟩ := lsA_ok (m := q.2) hlt L.length
  have hql := (List.getElem?_eq_some_iff.mp hq).1
  have hl := h2 _ q hql hq rfl
  have hq1 := hlt _ _ hq
  refine ⟨?_, fun c d hc => ?_, fun c hc => ?_⟩
  · rcases h1 with w | ⟨k, p, w1, w2, w3⟩
    · omega
    · rw [← w3, ← w2]
      exact (h.2.1 k p w1).2.2.2
  · obtain ⟨k, hk⟩ := dl_mem hc
    have hkl := (List.getElem?_eq_some_iff.mp hk).1
    rcases Nat.lt_or_ge k (L.length - 1) with w | w
    · exact (h.2.2.1 k _ _ _ w hk hq).2
    · have : k = L.length - 1 := by omega
      subst this
      rw [hq] at hk
      rw [Option.some.inj hk]
      exact Nat.le_refl _
  · obtain ⟨k, hk⟩ := dl_mem hc
    exact h2 k _ (List.getElem?_eq_some_iff.mp hk).1 hk rfl
theorem WS_of {M : Mm} {N E : Nat} {l h : Nat → Nat} {s : Bool} {a : Nat} (ha : a < 2 ^ E) (hE : E ≤ 10) (hB : BQ M 35 36 1024 (srch N E l h s a)) (hs : M 34 2 = nI (srch N E l h s a).length) : WS M := by
  have hI := srch_Iv (N := N) (l := l) (h := h) (s := s) ha
  have h1 := Iv_len hI
  have h2 := pow_b hE
  exact ⟨_, hB, hs, by omega, fun k p hp => Nat.lt_of_lt_of_le (hI.2.1 k p hp).1 h2⟩

set_option maxHeartbeats 1000000 in
set_option maxRecDepth 10000 in
theorem lp_X9_nodeTowards_10 {d : Nat} {M : Mm} {ML : Ml} {N E A : Nat} {l h : Nat → Nat} (hS : NS M 2 3 4 5 6 N E A l h) (hW : WN N E A l h) {L : BL} (hB : BQ M 35 36 1024 L) (hd : ∀ b d, dl L b = some d → d < 1024) {x : Nat} (hx : x < 2 ^ E) {d9 : Nat} (hd9 : d9 < 1024) : ∀ e, e ≤ N → (∀ j, j < e → stpP E l h L x d9 j = false) → WP (d + 2) cd_X9_nodeTowards false (fun r M2 L2 => r = some (.int (fstI (stpP E l h L x d9) N)) ∧ L2 = ML ∧ M2 = M) (10, [(0, .ref 34), (1, .ref 2), (2, .int (nI x)), (3, .int (nI d9)), (4, .int (nI (endsM E l h (nI x) true))), (5, .int (nI e))], [], (SH, M, ML)) := by
  have hN7 := hW.2.1
  have hE10 := hW.2.2.1
  have h1024 := pow_b hE10
  have hev : endsM E l h (nI x) true < 2 ^ 31 := endsM_b
  refine up_ind fun e he ih => ?_
  intro hj
  refine w_ld rfl rfl ?_
  refine w_ld rfl rfl ?_
  refine w_getv rfl rfl rfl rfl rfl (hS.1) ?_
  refine w_cj rfl rfl (fun h_16 => ?_) (fun h_16 => ?_)
  · have h9 : e = N := by have := nle (by omega) (by omega) h_16; omega
    subst h9
    refine w_cst (v := .int (-1)) rfl rfl ?_
    refine w_ret rfl rfl (trivial) ?_
    exact ⟨by rw [fstI_no hj], rfl, rfl⟩
  · have hlt : e < N := nnle (by omega) (by omega) h_16
    refine w_ld rfl rfl ?_
    refine w_ld rfl rfl ?_
    refine w_cife (as := [_, _]) (rest := []) rfl rfl rfl rfl rfl rfl rfl rfl (ok_X11_isIn _ _ _ _ _) rfl (fun h_23 => ?_) (fun h_23 => ?_)
    · have hno : stpP E l h L x d9 e = false := by
        unfold stpP
        first
          | (rw [show gF E l h true x e = false from by rw [← ends_bit (by omega), ← tb_nI hev (by omega)]; exact h_23]
             rfl)
          | (rw [decide_eq_false (fun q => h_44 ((dI_eq (fun d w => by have := hd _ _ w; omega) (by omega)).mpr q)), Bool.and_false])
      refine w_inc (y := _ + 1) rfl rfl rfl ?_
      refine w_norm (L' := [(0, _), (1, _), (2, _), (3, _), (4, _), (5, _)]) rfl ?_
      refine w_go rfl ?_
      rw [nI_1]
      refine ih hlt (fun j hq => ?_)
      rcases Nat.lt_or_ge j e with w | w
      · exact hj j w
      · have : j = e := by omega
        subst this
        exact hno
    · refine w_ld rfl rfl ?_
      refine w_getr rfl rfl rfl rfl rfl ?_
      refine w_ld rfl rfl ?_
      refine w_ld rfl rfl ?_
      refine w_ld rfl rfl ?_
      refine w_call (as := [_, _, _]) (rest := [_]) rfl rfl rfl rfl rfl rfl rfl rfl (ok_X4_turned _ _ _ _ (by omega)) ?_
      rw [(hS.2.2.2.2 e (by omega)).1, xorN]
      have hv : M 35 (x ^^^ tmk E l h e) = dI (dl L (tF E l h x e)) := hB.2 _ (Nat.lt_of_lt_of_le (tF_lt (l := l) (h := h) (v := e) hx) h1024)
      refine w_call (as := [_, _]) (rest := []) rfl rfl rfl rfl rfl rfl rfl rfl (ok_at_v _ _ _ rfl rfl rfl (rfl) (Nat.lt_of_lt_of_le (tF_lt (l := l) (h := h) (v := e) hx) h1024) (hv)) ?_
      refine w_ld rfl rfl ?_
      refine w_cj rfl rfl (fun h_44 => ?_) (fun h_44 => ?_)
      · have hno : stpP E l h L x d9 e = false := by
          unfold stpP
          first
            | (rw [show gF E l h true x e = false from by rw [← ends_bit (by omega), ← tb_nI hev (by omega)]; exact h_23]
               rfl)
            | (rw [decide_eq_false (fun q => h_44 ((dI_eq (fun d w => by have := hd _ _ w; omega) (by omega)).mpr q)), Bool.and_false])
        refine w_inc (y := _ + 1) rfl rfl rfl ?_
        refine w_norm (L' := [(0, _), (1, _), (2, _), (3, _), (4, _), (5, _)]) rfl ?_
        refine w_go rfl ?_
        rw [nI_1]
        refine ih hlt (fun j hq => ?_)
        rcases Nat.lt_or_ge j e with w | w
        · exact hj j w
        · have : j = e := by omega
          subst this
          exact hno
      · refine w_ld rfl rfl ?_
        refine w_ret rfl rfl (trivial) ?_
        refine ⟨?_, rfl, rfl⟩
        have hyes : stpP E l h L x d9 e = true := by
          unfold stpP
          rw [show gF E l h true x e = true from by rw [← ends_bit (by omega), ← tb_nI hev (by omega)]; exact h_23, Bool.true_and]
          exact decide_eq_true ((dI_eq (fun d w => by have := hd _ _ w; omega) (by omega)).mp (Classical.not_not.mp h_44))
        rw [fstI_yes hlt hyes hj]

set_option maxHeartbeats 1000000 in
set_option maxRecDepth 10000 in
theorem ok_X9_nodeTowards {d : Nat} {M : Mm} {ML : Ml} {N E A : Nat} {l h : Nat → Nat} (hS : NS M 2 3 4 5 6 N E A l h) (hW : WN N E A l h) {L : BL} (hB : BQ M 35 36 1024 L) (hd : ∀ b d, dl L b = some d → d < 1024) {x : Nat} (hx : x < 2 ^ E) {d9 : Nat} (hd9 : d9 < 1024) : EX (d + 3) k_X9_nodeTowards [.ref 34, .ref 2, .int (nI x), .int (nI d9)] M ML (fun r M2 L2 => r = some (.int (fstI (stpP E l h L x d9) N)) ∧ L2 = ML ∧ M2 = M) := by
  refine EX_in mi_X9_nodeTowards rfl rfl ?_
  show WP _ cd_X9_nodeTowards false _ (0, [(0, .ref 34), (1, .ref 2), (2, .int (nI x)), (3, .int (nI d9))], [], (SH, M, ML))
  refine w_ld rfl rfl ?_
  refine w_ld rfl rfl ?_
  refine w_call (as := [_, _]) (rest := []) rfl rfl rfl rfl rfl rfl rfl rfl (ok_sources _ _ _ _ hS hW) ?_
  refine w_sto (L' := [(0, _), (1, _), (2, _), (3, _), (4, _)]) rfl rfl ?_
  refine w_cst (v := .int 0) rfl rfl ?_
  refine w_sto (L' := [(0, _), (1, _), (2, _), (3, _), (4, _), (5, _)]) rfl rfl ?_
  exact lp_X9_nodeTowards_10 hS hW hB hd hx hd9 0 (Nat.zero_le _) (fun j hj => absurd hj (Nat.not_lt_zero j))

set_option maxHeartbeats 1000000 in
set_option maxRecDepth 10000 in
theorem lp_X9_fewest_12 {d : Nat} {M : Mm} {ML : Ml} {N E A : Nat} {l h : Nat → Nat} (hS : NS M 2 3 4 5 6 N E A l h) (hW : WN N E A l h) {L : BL} (hB : BQ M 35 36 1024 L) (hd : ∀ b d, dl L b = some d → d < 1024) {x : Nat} (hx : x < 2 ^ E) : ∀ e, e ≤ N → WP (d + 2) cd_X9_fewestBehindOne false (fun r M2 L2 => r = some (.int (dI (trO E l h L x N))) ∧ L2 = ML ∧ M2 = M) (12, [(0, .ref 34), (1, .ref 2), (2, .int (nI x)), (3, .int (nI (endsM E l h (nI x) true))), (4, .int (dI (trO E l h L x e))), (5, .int (nI e))], [], (SH, M, ML)) := by
  have hN7 := hW.2.1
  have hE10 := hW.2.2.1
  have h1024 := pow_b hE10
  have hev : endsM E l h (nI x) true < 2 ^ 31 := endsM_b
  refine up_ind fun e he ih => ?_
  have hm := trO_lt (E := E) (l := l) (h := h) (x := x) hd e
  refine w_ld rfl rfl ?_
  refine w_ld rfl rfl ?_
  refine w_getv rfl rfl rfl rfl rfl (hS.1) ?_
  refine w_cj rfl rfl (fun h_18 => ?_) (fun h_18 => ?_)
  · have h9 : e = N := by have := nle (by omega) (by omega) h_18; omega
    subst h9
    refine w_ld rfl rfl ?_
    refine w_ret rfl rfl (trivial) ?_
    exact ⟨rfl, rfl, rfl⟩
  · have hlt : e < N := nnle (by omega) (by omega) h_18
    refine w_ld rfl rfl ?_
    refine w_ld rfl rfl ?_
    refine w_cife (as := [_, _]) (rest := []) rfl rfl rfl rfl rfl rfl rfl rfl (ok_X11_isIn _ _ _ _ _) rfl (fun h_24 => ?_) (fun h_24 => ?_)
    · refine w_cst (v := .int (-1)) rfl rfl ?_
      refine w_sto (L' := [(0, _), (1, _), (2, _), (3, _), (4, _), (5, _), (6, _)]) rfl rfl ?_
      refine w_ld rfl rfl ?_
      refine w_cjT rfl rfl (by decide) ?_
      refine w_inc (y := _ + 1) rfl rfl rfl ?_
      refine w_norm (L' := [(0, _), (1, _), (2, _), (3, _), (4, _), (5, _), (6, _)]) rfl ?_
      refine w_go rfl ?_
      refine w_keep [0, 1, 2, 3, 4, 5] (L' := [(0, _), (1, _), (2, _), (3, _), (4, _), (5, _)]) rfl ?_
      rw [nI_1]
      have hp := ih hlt
      first
        | (have hg : ¬ gF E l h true x e = true := fun w => by rw [← ends_bit (by omega), ← tb_nI hev (by omega), h_24] at w; exact Bool.noConfusion w
           rw [trO, if_neg hg] at hp
           exact hp)
        | (have hg : gF E l h true x e = true := by rw [← ends_bit (by omega), ← tb_nI hev (by omega)]; exact h_24
           rw [trO, if_pos hg] at hp
           cases h1 : dl L (tF E l h x e) with
           | none =>
             rw [h1] at hp
             try rw [h1] at h_52
             first
               | exact hp
               | exact absurd (show dI none < 0 by decide) h_52
           | some d9 =>
             have hd1 := hd _ _ h1
             cases h2 : trO E l h L x e with
             | none =>
               rw [h1, h2] at hp
               first
                 | exact hp
                 | (rw [h1] at h_52; exact absurd h_52 (ne_m1 (by omega)))
                 | (rw [h2] at h_57; exact absurd (show dI none < 0 by decide) h_57)
             | some m =>
               have hm1 := hm _ h2
               rw [h1, h2] at hp
               try rw [h1] at h_52
               try rw [h2] at h_57
               try rw [h1, h2] at h_64
               first
                 | exact absurd h_52 (ne_m1 (by omega))
                 | exact absurd h_57 (ne_m1 (by omega))
                 | (rw [show mrg (some d9) (some m) = some m from if_neg (Nat.not_lt.mpr (nle (by omega) (by omega) h_64))] at hp
                    exact hp)
                 | (rw [show mrg (some d9) (some m) = some d9 from if_pos (nnle (by omega) (by omega) h_64)] at hp
                    exact hp))
    · refine w_ld rfl rfl ?_
      refine w_getr rfl rfl rfl rfl rfl ?_
      refine w_ld rfl rfl ?_
      refine w_ld rfl rfl ?_
      refine w_ld rfl rfl ?_
      refine w_call (as := [_, _, _]) (rest := [_]) rfl rfl rfl rfl rfl rfl rfl rfl (ok_X4_turned _ _ _ _ (by omega)) ?_
      rw [(hS.2.2.2.2 e (by omega)).1, xorN]
      have hv : M 35 (x ^^^ tmk E l h e) = dI (dl L (tF E l h x e)) := hB.2 _ (Nat.lt_of_lt_of_le (tF_lt (l := l) (h := h) (v := e) hx) h1024)
      refine w_call (as := [_, _]) (rest := []) rfl rfl rfl rfl rfl rfl rfl rfl (ok_at_v _ _ _ rfl rfl rfl (rfl) (Nat.lt_of_lt_of_le (tF_lt (l := l) (h := h) (v := e) hx) h1024) (hv)) ?_
      refine w_go rfl ?_
      refine w_sto (L' := [(0, _), (1, _), (2, _), (3, _), (4, _), (5, _), (6, _)]) rfl rfl ?_
      refine w_ld rfl rfl ?_
      refine w_cj rfl rfl (fun h_52 => ?_) (fun h_52 => ?_)
      · refine w_inc (y := _ + 1) rfl rfl rfl ?_
        refine w_norm (L' := [(0, _), (1, _), (2, _), (3, _), (4, _), (5, _), (6, _)]) rfl ?_
        refine w_go rfl ?_
        refine w_keep [0, 1, 2, 3, 4, 5] (L' := [(0, _), (1, _), (2, _), (3, _), (4, _), (5, _)]) rfl ?_
        rw [nI_1]
        have hp := ih hlt
        first
          | (have hg : ¬ gF E l h true x e = true := fun w => by rw [← ends_bit (by omega), ← tb_nI hev (by omega), h_24] at w; exact Bool.noConfusion w
             rw [trO, if_neg hg] at hp
             exact hp)
          | (have hg : gF E l h true x e = true := by rw [← ends_bit (by omega), ← tb_nI hev (by omega)]; exact h_24
             rw [trO, if_pos hg] at hp
             cases h1 : dl L (tF E l h x e) with
             | none =>
               rw [h1] at hp
               try rw [h1] at h_52
               first
                 | exact hp
                 | exact absurd (show dI none < 0 by decide) h_52
             | some d9 =>
               have hd1 := hd _ _ h1
               cases h2 : trO E l h L x e with
               | none =>
                 rw [h1, h2] at hp
                 first
                   | exact hp
                   | (rw [h1] at h_52; exact absurd h_52 (ne_m1 (by omega)))
                   | (rw [h2] at h_57; exact absurd (show dI none < 0 by decide) h_57)
               | some m =>
                 have hm1 := hm _ h2
                 rw [h1, h2] at hp
                 try rw [h1] at h_52
                 try rw [h2] at h_57
                 try rw [h1, h2] at h_64
                 first
                   | exact absurd h_52 (ne_m1 (by omega))
                   | exact absurd h_57 (ne_m1 (by omega))
                   | (rw [show mrg (some d9) (some m) = some m from if_neg (Nat.not_lt.mpr (nle (by omega) (by omega) h_64))] at hp
                      exact hp)
                   | (rw [show mrg (some d9) (some m) = some d9 from if_pos (nnle (by omega) (by omega) h_64)] at hp
                      exact hp))
      · refine w_ld rfl rfl ?_
        refine w_cj rfl rfl (fun h_57 => ?_) (fun h_57 => ?_)
        · refine w_ld rfl rfl ?_
          refine w_sto (L' := [(0, _), (1, _), (2, _), (3, _), (4, _), (5, _), (6, _)]) rfl rfl ?_
          refine w_inc (y := _ + 1) rfl rfl rfl ?_
          refine w_norm (L' := [(0, _), (1, _), (2, _), (3, _), (4, _), (5, _), (6, _)]) rfl ?_
          refine w_go rfl ?_
          refine w_keep [0, 1, 2, 3, 4, 5] (L' := [(0, _), (1, _), (2, _), (3, _), (4, _), (5, _)]) rfl ?_
          rw [nI_1]
          have hp := ih hlt
          first
            | (have hg : ¬ gF E l h true x e = true := fun w => by rw [← ends_bit (by omega), ← tb_nI hev (by omega), h_24] at w; exact Bool.noConfusion w
               rw [trO, if_neg hg] at hp
               exact hp)
            | (have hg : gF E l h true x e = true := by rw [← ends_bit (by omega), ← tb_nI hev (by omega)]; exact h_24
               rw [trO, if_pos hg] at hp
               cases h1 : dl L (tF E l h x e) with
               | none =>
                 rw [h1] at hp
                 try rw [h1] at h_52
                 first
                   | exact hp
                   | exact absurd (show dI none < 0 by decide) h_52
               | some d9 =>
                 have hd1 := hd _ _ h1
                 cases h2 : trO E l h L x e with
                 | none =>
                   rw [h1, h2] at hp
                   first
                     | exact hp
                     | (rw [h1] at h_52; exact absurd h_52 (ne_m1 (by omega)))
                     | (rw [h2] at h_57; exact absurd (show dI none < 0 by decide) h_57)
                 | some m =>
                   have hm1 := hm _ h2
                   rw [h1, h2] at hp
                   try rw [h1] at h_52
                   try rw [h2] at h_57
                   try rw [h1, h2] at h_64
                   first
                     | exact absurd h_52 (ne_m1 (by omega))
                     | exact absurd h_57 (ne_m1 (by omega))
                     | (rw [show mrg (some d9) (some m) = some m from if_neg (Nat.not_lt.mpr (nle (by omega) (by omega) h_64))] at hp
                        exact hp)
                     | (rw [show mrg (some d9) (some m) = some d9 from if_pos (nnle (by omega) (by omega) h_64)] at hp
                        exact hp))
        · refine w_ld rfl rfl ?_
          refine w_ld rfl rfl ?_
          refine w_cj rfl rfl (fun h_64 => ?_) (fun h_64 => ?_)
          · refine w_inc (y := _ + 1) rfl rfl rfl ?_
            refine w_norm (L' := [(0, _), (1, _), (2, _), (3, _), (4, _), (5, _), (6, _)]) rfl ?_
            refine w_go rfl ?_
            refine w_keep [0, 1, 2, 3, 4, 5] (L' := [(0, _), (1, _), (2, _), (3, _), (4, _), (5, _)]) rfl ?_
            rw [nI_1]
            have hp := ih hlt
            first
              | (have hg : ¬ gF E l h true x e = true := fun w => by rw [← ends_bit (by omega), ← tb_nI hev (by omega), h_24] at w; exact Bool.noConfusion w
                 rw [trO, if_neg hg] at hp
                 exact hp)
              | (have hg : gF E l h true x e = true := by rw [← ends_bit (by omega), ← tb_nI hev (by omega)]; exact h_24
                 rw [trO, if_pos hg] at hp
                 cases h1 : dl L (tF E l h x e) with
                 | none =>
                   rw [h1] at hp
                   try rw [h1] at h_52
                   first
                     | exact hp
                     | exact absurd (show dI none < 0 by decide) h_52
                 | some d9 =>
                   have hd1 := hd _ _ h1
                   cases h2 : trO E l h L x e with
                   | none =>
                     rw [h1, h2] at hp
                     first
                       | exact hp
                       | (rw [h1] at h_52; exact absurd h_52 (ne_m1 (by omega)))
                       | (rw [h2] at h_57; exact absurd (show dI none < 0 by decide) h_57)
                   | some m =>
                     have hm1 := hm _ h2
                     rw [h1, h2] at hp
                     try rw [h1] at h_52
                     try rw [h2] at h_57
                     try rw [h1, h2] at h_64
                     first
                       | exact absurd h_52 (ne_m1 (by omega))
                       | exact absurd h_57 (ne_m1 (by omega))
                       | (rw [show mrg (some d9) (some m) = some m from if_neg (Nat.not_lt.mpr (nle (by omega) (by omega) h_64))] at hp
                          exact hp)
                       | (rw [show mrg (some d9) (some m) = some d9 from if_pos (nnle (by omega) (by omega) h_64)] at hp
                          exact hp))
          · refine w_ld rfl rfl ?_
            refine w_sto (L' := [(0, _), (1, _), (2, _), (3, _), (4, _), (5, _), (6, _)]) rfl rfl ?_
            refine w_inc (y := _ + 1) rfl rfl rfl ?_
            refine w_norm (L' := [(0, _), (1, _), (2, _), (3, _), (4, _), (5, _), (6, _)]) rfl ?_
            refine w_go rfl ?_
            refine w_keep [0, 1, 2, 3, 4, 5] (L' := [(0, _), (1, _), (2, _), (3, _), (4, _), (5, _)]) rfl ?_
            rw [nI_1]
            have hp := ih hlt
            first
              | (have hg : ¬ gF E l h true x e = true := fun w => by rw [← ends_bit (by omega), ← tb_nI hev (by omega), h_24] at w; exact Bool.noConfusion w
                 rw [trO, if_neg hg] at hp
                 exact hp)
              | (have hg : gF E l h true x e = true := by rw [← ends_bit (by omega), ← tb_nI hev (by omega)]; exact h_24
                 rw [trO, if_pos hg] at hp
                 cases h1 : dl L (tF E l h x e) with
                 | none =>
                   rw [h1] at hp
                   try rw [h1] at h_52
                   first
                     | exact hp
                     | exact absurd (show dI none < 0 by decide) h_52
                 | some d9 =>
                   have hd1 := hd _ _ h1
                   cases h2 : trO E l h L x e with
                   | none =>
                     rw [h1, h2] at hp
                     first
                       | exact hp
                       | (rw [h1] at h_52; exact absurd h_52 (ne_m1 (by omega)))
                       | (rw [h2] at h_57; exact absurd (show dI none < 0 by decide) h_57)
                   | some m =>
                     have hm1 := hm _ h2
                     rw [h1, h2] at hp
                     try rw [h1] at h_52
                     try rw [h2] at h_57
                     try rw [h1, h2] at h_64
                     first
                       | exact absurd h_52 (ne_m1 (by omega))
                       | exact absurd h_57 (ne_m1 (by omega))
                       | (rw [show mrg (some d9) (some m) = some m from if_neg (Nat.not_lt.mpr (nle (by omega) (by omega) h_64))] at hp
                          exact hp)
                       | (rw [show mrg (some d9) (some m) = some d9 from if_pos (nnle (by omega) (by omega) h_64)] at hp
                          exact hp))

set_option maxHeartbeats 1000000 in
set_option maxRecDepth 10000 in
theorem ok_X9_fewestBehindOne {d : Nat} {M : Mm} {ML : Ml} {N E A : Nat} {l h : Nat → Nat} (hS : NS M 2 3 4 5 6 N E A l h) (hW : WN N E A l h) {L : BL} (hB : BQ M 35 36 1024 L) (hd : ∀ b d, dl L b = some d → d < 1024) {x : Nat} (hx : x < 2 ^ E) : EX (d + 3) k_X9_fewestBehindOne [.ref 34, .ref 2, .int (nI x)] M ML (fun r M2 L2 => r = some (.int (dI (trO E l h L x N))) ∧ L2 = ML ∧ M2 = M) := by
  refine EX_in mi_X9_fewestBehindOne rfl rfl ?_
  show WP _ cd_X9_fewestBehindOne false _ (0, [(0, .ref 34), (1, .ref 2), (2, .int (nI x))], [], (SH, M, ML))
  refine w_ld rfl rfl ?_
  refine w_ld rfl rfl ?_
  refine w_call (as := [_, _]) (rest := []) rfl rfl rfl rfl rfl rfl rfl rfl (ok_sources _ _ _ _ hS hW) ?_
  refine w_sto (L' := [(0, _), (1, _), (2, _), (3, _)]) rfl rfl ?_
  refine w_cst (v := .int (-1)) rfl rfl ?_
  refine w_sto (L' := [(0, _), (1, _), (2, _), (3, _), (4, _)]) rfl rfl ?_
  refine w_cst (v := .int 0) rfl rfl ?_
  refine w_sto (L' := [(0, _), (1, _), (2, _), (3, _), (4, _), (5, _)]) rfl rfl ?_
  exact lp_X9_fewest_12 hS hW hB hd hx 0 (Nat.zero_le _)

set_option maxHeartbeats 1000000 in
set_option maxRecDepth 10000 in
theorem ok_X9_greatest {d : Nat} {M : Mm} {ML : Ml} {L : BL} (hB : BQ M 35 36 1024 L) (hs : M 34 2 = nI L.length) (hl : L.length ≤ 1024) {q : Nat × Nat} (hq : L[L.length - 1]? = some q) (hq1 : q.1 < 1024) (hq2 : dl L q.1 = some q.2) : EX (d + 2) k_X9_greatest [.ref 34] M ML (fun r M2 L2 => r = some (.int (nI q.2)) ∧ L2 = ML ∧ M2 = M) := by
  refine EX_in mi_X9_greatest rfl rfl ?_
  show WP _ cd_X9_greatest false _ (0, [(0, .ref 34)], [], (SH, M, ML))
  have hq0 : 1 ≤ L.length := by have := (List.getElem?_eq_some_iff.mp hq).1; omega
  refine w_ld rfl rfl ?_
  refine w_getr rfl rfl rfl rfl rfl ?_
  refine w_ld rfl rfl ?_
  refine w_getr rfl rfl rfl rfl rfl ?_
  refine w_ld rfl rfl ?_
  refine w_getv rfl rfl rfl rfl rfl (hs) ?_
  refine w_cst (v := .int 1) rfl rfl ?_
  refine w_bin rfl rfl ?_
  refine w_call (as := [_, _]) (rest := [_]) rfl rfl rfl rfl rfl rfl rfl rfl (ok_at_v _ _ _ rfl rfl rfl (by rw [show (1 : Int32) = nI 1 from rfl, pk_sub hq0]) (by omega) (hB.1 _ _ hq)) ?_
  refine w_call (as := [_, _]) (rest := []) rfl rfl rfl rfl rfl rfl rfl rfl (ok_at_v _ _ _ rfl rfl rfl (rfl) (by omega) (Eq.trans (hB.2 _ hq1) (show dI (dl L q.1) = nI q.2 from by rw [hq2]; rfl))) ?_
  refine w_ret rfl rfl (trivial) ?_
  exact ⟨rfl, rfl, rfl⟩

set_option maxHeartbeats 1000000 in
set_option maxRecDepth 10000 in
theorem lp_X9_leastAt_6 {d : Nat} {M : Mm} {ML : Ml} {L : BL} (hB : BQ M 35 36 1024 L) (hs : M 34 2 = nI L.length) (hl : L.length ≤ 1024) (hp9 : ∀ (k : Nat) (p : Nat × Nat), L[k]? = some p → p.1 < 1024 ∧ p.2 < 1024 ∧ dl L p.1 = some p.2) {m : Nat} (hm : m < 1024) : ∀ e, e ≤ L.length → WP (d + 1) cd_X9_leastAt false (fun r M2 L2 => r = some (.int (nI (lsA L m L.length))) ∧ L2 = ML ∧ M2 = M) (6, [(0, .ref 34), (1, .int (nI m)), (2, .int (nI (lsA L m e))), (3, .int (nI e))], [], (SH, M, ML)) := by
  refine up_ind fun e he ih => ?_
  have hle := lsA_le L m e
  refine w_ld rfl rfl ?_
  refine w_ld rfl rfl ?_
  refine w_getv rfl rfl rfl rfl rfl (hs) ?_
  refine w_cj rfl rfl (fun h_11 => ?_) (fun h_11 => ?_)
  · have h9 : e = L.length := by have := nle (by omega) (by omega) h_11; omega
    subst h9
    refine w_ld rfl rfl ?_
    refine w_ret rfl rfl (trivial) ?_
    exact ⟨rfl, rfl, rfl⟩
  · have hlt : e < L.length := nnle (by omega) (by omega) h_11
    have ⟨p, hp⟩ : ∃ p, L[e]? = some p := ⟨_, List.getElem?_eq_getElem hlt⟩
    have hpe := hp9 e p hp
    have hst := lsA_s (m := m) hp
    refine w_ld rfl rfl ?_
    refine w_getr rfl rfl rfl rfl rfl ?_
    refine w_ld rfl rfl ?_
    refine w_getr rfl rfl rfl rfl rfl ?_
    refine w_ld rfl rfl ?_
    refine w_call (as := [_, _]) (rest := [_]) rfl rfl rfl rfl rfl rfl rfl rfl (ok_at_v _ _ _ rfl rfl rfl (rfl) (by omega) (hB.1 e p hp)) ?_
    refine w_call (as := [_, _]) (rest := []) rfl rfl rfl rfl rfl rfl rfl rfl (ok_at_v _ _ _ rfl rfl rfl (rfl) (hpe.1) (Eq.trans (hB.2 _ hpe.1) (show dI (dl L p.1) = nI p.2 from by rw [hpe.2.2]; rfl))) ?_
    refine w_ld rfl rfl ?_
    refine w_cj rfl rfl (fun h_30 => ?_) (fun h_30 => ?_)
    · refine w_inc (y := _ + 1) rfl rfl rfl ?_
      refine w_norm (L' := [(0, _), (1, _), (2, _), (3, _)]) rfl ?_
      refine w_go rfl ?_
      rw [nI_1]
      have hp := ih hlt
      rw [hst] at hp
      first
        | (rw [if_neg (fun w => h_30 (by rw [w]))] at hp
           exact hp)
        | (rw [if_pos (neq (by omega) (by omega) (Classical.not_not.mp h_30))] at hp
           exact hp)
    · refine w_ld rfl rfl ?_
      refine w_ld rfl rfl ?_
      refine w_getr rfl rfl rfl rfl rfl ?_
      refine w_ld rfl rfl ?_
      refine w_call (as := [_, _]) (rest := [_]) rfl rfl rfl rfl rfl rfl rfl rfl (ok_at_v _ _ _ rfl rfl rfl (rfl) (by omega) (hB.1 e p hp)) ?_
      refine w_mm rfl rfl (Nat.le_of_ble_eq_true rfl) ?_
      rw [minI (by omega) (by omega)]
      refine w_sto (L' := [(0, _), (1, _), (2, _), (3, _)]) rfl rfl ?_
      refine w_inc (y := _ + 1) rfl rfl rfl ?_
      refine w_norm (L' := [(0, _), (1, _), (2, _), (3, _)]) rfl ?_
      refine w_go rfl ?_
      rw [nI_1]
      have hp := ih hlt
      rw [hst] at hp
      first
        | (rw [if_neg (fun w => h_30 (by rw [w]))] at hp
           exact hp)
        | (rw [if_pos (neq (by omega) (by omega) (Classical.not_not.mp h_30))] at hp
           exact hp)

set_option maxHeartbeats 1000000 in
set_option maxRecDepth 10000 in
theorem ok_X9_leastAt {d : Nat} {M : Mm} {ML : Ml} {L : BL} (hB : BQ M 35 36 1024 L) (hs : M 34 2 = nI L.length) (hl : L.length ≤ 1024) (hp9 : ∀ (k : Nat) (p : Nat × Nat), L[k]? = some p → p.1 < 1024 ∧ p.2 < 1024 ∧ dl L p.1 = some p.2) {m : Nat} (hm : m < 1024) : EX (d + 2) k_X9_leastAt [.ref 34, .int (nI m)] M ML (fun r M2 L2 => r = some (.int (nI (lsA L m L.length))) ∧ L2 = ML ∧ M2 = M) := by
  refine EX_in mi_X9_leastAt rfl rfl ?_
  show WP _ cd_X9_leastAt false _ (0, [(0, .ref 34), (1, .int (nI m))], [], (SH, M, ML))
  refine w_cst (v := .int 1024) rfl rfl ?_
  refine w_sto (L' := [(0, _), (1, _), (2, _)]) rfl rfl ?_
  refine w_cst (v := .int 0) rfl rfl ?_
  refine w_sto (L' := [(0, _), (1, _), (2, _), (3, _)]) rfl rfl ?_
  exact lp_X9_leastAt_6 hB hs hl hp9 hm 0 (Nat.zero_le _)

set_option maxHeartbeats 1000000 in
set_option maxRecDepth 10000 in
theorem ok_X11_distance {d : Nat} {M : Mm} {ML : Ml} {N E A : Nat} {l h : Nat → Nat} (hS : NS M 2 3 4 5 6 N E A l h) (hW : WN N E A l h) (hw : WS M) {x y : Int32} : EX (d + 5) k_X11_distance [.ref 1, .int x, .int y] M ML (fun r M2 L2 => r = some (.int (distA N E l h x y)) ∧ L2 = ML ∧ Fr [34, 35, 36] M M2 ∧ WS M2) := by
  refine EX_in mi_X11_distance rfl rfl ?_
  show WP _ cd_X11_distance false _ (0, [(0, .ref 1), (1, .int x), (2, .int y)], [], (SH, M, ML))
  have hE10 := hW.2.2.1
  have h1024 := pow_b hE10
  refine w_ld rfl rfl ?_
  refine w_getr rfl rfl rfl rfl rfl ?_
  refine w_ld rfl rfl ?_
  refine w_cife (as := [_, _]) (rest := []) rfl rfl rfl rfl rfl rfl rfl rfl (ok_X4_hasArrowing _ _ _ _ hS.2.1 hW.2.2.1) rfl (fun h_5 => ?_) (fun h_5 => ?_)
  · refine w_cst (v := .int (-1)) rfl rfl ?_
    refine w_ret rfl rfl (trivial) ?_
    refine ⟨?_, rfl, Fr_rf, hw⟩
    unfold distA
    first
      | (rw [h_5]; rfl)
      | (rw [h_5, h_16]; rfl)
  · refine w_ld rfl rfl ?_
    refine w_getr rfl rfl rfl rfl rfl ?_
    refine w_ld rfl rfl ?_
    refine w_cifn (as := [_, _]) (rest := []) rfl rfl rfl rfl rfl rfl rfl rfl (ok_X4_hasArrowing _ _ _ _ hS.2.1 hW.2.2.1) rfl (fun h_16 => ?_) (fun h_16 => ?_)
    · obtain ⟨a, ha, rfl⟩ := inR_ex (by omega) h_5
      obtain ⟨b, hb, rfl⟩ := inR_ex (by omega) h_16
      have hd := fun c d q => (srch_d (N := N) (l := l) (h := h) (s := false) hb hE10 (b := c) (d := d) q).2
      refine w_ld rfl rfl ?_
      refine w_getr rfl rfl rfl rfl rfl ?_
      refine w_ld rfl rfl ?_
      refine w_getr rfl rfl rfl rfl rfl ?_
      refine w_ld rfl rfl ?_
      obtain ⟨_, M3, L3, ⟨rfl, rfl, hF, hB, hs⟩, hE33⟩ := ok_X9_searchBack (d := d) (ML := ML) (M := M) hS hW hb hw
      refine w_callv (as := [_, _, _]) (rest := []) rfl rfl rfl rfl rfl rfl rfl rfl hE33 ?_
      refine w_ld rfl rfl ?_
      refine w_getr rfl rfl rfl rfl rfl ?_
      refine w_getr rfl rfl rfl rfl rfl ?_
      refine w_ld rfl rfl ?_
      refine w_call (as := [_, _]) (rest := []) rfl rfl rfl rfl rfl rfl rfl rfl (ok_at_v _ _ _ rfl rfl rfl (rfl) (by omega) (hB.2 _ (by omega))) ?_
      refine w_sto (L' := [(0, _), (1, _), (2, _), (3, _)]) rfl rfl ?_
      refine w_ld rfl rfl ?_
      refine w_cj rfl rfl (fun h_49 => ?_) (fun h_49 => ?_)
      · refine w_ld rfl rfl ?_
        refine w_ret rfl rfl (trivial) ?_
        refine ⟨?_, rfl, hF, WS_of hb hE10 hB hs⟩
        unfold distA
        rw [h_5, h_16, nI_clamp (by omega), nI_clamp (by omega)]
        cases hq : dl (srch N E l h false b) a with
        | none => first | rfl | (rw [hq] at h_49; exact absurd h_49 (by decide))
        | some d => first | rfl | (rw [hq] at h_49; have := hd _ _ hq; exact absurd (nI_pos' (by omega)) h_49)
      · refine w_cst (v := .int (-2)) rfl rfl ?_
        refine w_go rfl ?_
        refine w_ret rfl rfl (trivial) ?_
        refine ⟨?_, rfl, hF, WS_of hb hE10 hB hs⟩
        unfold distA
        rw [h_5, h_16, nI_clamp (by omega), nI_clamp (by omega)]
        cases hq : dl (srch N E l h false b) a with
        | none => first | rfl | (rw [hq] at h_49; exact absurd h_49 (by decide))
        | some d => first | rfl | (rw [hq] at h_49; have := hd _ _ hq; exact absurd (nI_pos' (by omega)) h_49)
    · refine w_cst (v := .int (-1)) rfl rfl ?_
      refine w_ret rfl rfl (trivial) ?_
      refine ⟨?_, rfl, Fr_rf, hw⟩
      unfold distA
      first
        | (rw [h_5]; rfl)
        | (rw [h_5, h_16]; rfl)

set_option maxHeartbeats 1000000 in
set_option maxRecDepth 10000 in
theorem ok_X11_step {d : Nat} {M : Mm} {ML : Ml} {N E A : Nat} {l h : Nat → Nat} (hS : NS M 2 3 4 5 6 N E A l h) (hW : WN N E A l h) (hw : WS M) {x y : Int32} : EX (d + 5) k_X11_step [.ref 1, .int x, .int y] M ML (fun r M2 L2 => r = some (.int (stepA N E l h x y)) ∧ L2 = ML ∧ Fr [34, 35, 36] M M2 ∧ WS M2) := by
  refine EX_in mi_X11_step rfl rfl ?_
  show WP _ cd_X11_step false _ (0, [(0, .ref 1), (1, .int x), (2, .int y)], [], (SH, M, ML))
  have hE10 := hW.2.2.1
  have h1024 := pow_b hE10
  refine w_ld rfl rfl ?_
  refine w_getr rfl rfl rfl rfl rfl ?_
  refine w_ld rfl rfl ?_
  refine w_cife (as := [_, _]) (rest := []) rfl rfl rfl rfl rfl rfl rfl rfl (ok_X4_hasArrowing _ _ _ _ hS.2.1 hW.2.2.1) rfl (fun h_5 => ?_) (fun h_5 => ?_)
  · refine w_cst (v := .int (-1)) rfl rfl ?_
    refine w_ret rfl rfl (trivial) ?_
    refine ⟨?_, rfl, Fr_rf, hw⟩
    unfold stepA
    first
      | (rw [h_5]; rfl)
      | (rw [h_5, h_16]; rfl)
  · refine w_ld rfl rfl ?_
    refine w_getr rfl rfl rfl rfl rfl ?_
    refine w_ld rfl rfl ?_
    refine w_cifn (as := [_, _]) (rest := []) rfl rfl rfl rfl rfl rfl rfl rfl (ok_X4_hasArrowing _ _ _ _ hS.2.1 hW.2.2.1) rfl (fun h_16 => ?_) (fun h_16 => ?_)
    · obtain ⟨a, ha, rfl⟩ := inR_ex (by omega) h_5
      obtain ⟨b, hb, rfl⟩ := inR_ex (by omega) h_16
      have hd := fun c d q => (srch_d (N := N) (l := l) (h := h) (s := false) hb hE10 (b := c) (d := d) q).2
      refine w_ld rfl rfl ?_
      refine w_getr rfl rfl rfl rfl rfl ?_
      refine w_ld rfl rfl ?_
      refine w_getr rfl rfl rfl rfl rfl ?_
      refine w_ld rfl rfl ?_
      obtain ⟨_, M3, L3, ⟨rfl, rfl, hF, hB, hs⟩, hE33⟩ := ok_X9_searchBack (d := d) (ML := ML) (M := M) hS hW hb hw
      refine w_callv (as := [_, _, _]) (rest := []) rfl rfl rfl rfl rfl rfl rfl rfl hE33 ?_
      refine w_ld rfl rfl ?_
      refine w_getr rfl rfl rfl rfl rfl ?_
      refine w_getr rfl rfl rfl rfl rfl ?_
      refine w_ld rfl rfl ?_
      refine w_call (as := [_, _]) (rest := []) rfl rfl rfl rfl rfl rfl rfl rfl (ok_at_v _ _ _ rfl rfl rfl (rfl) (by omega) (hB.2 _ (by omega))) ?_
      refine w_sto (L' := [(0, _), (1, _), (2, _), (3, _)]) rfl rfl ?_
      refine w_ld rfl rfl ?_
      refine w_cj rfl rfl (fun h_49 => ?_) (fun h_49 => ?_)
      · obtain ⟨d1, hq, hd1⟩ : ∃ d1, dl (srch N E l h false b) a = some (d1 + 1) ∧ d1 < 1024 := by
          cases hq : dl (srch N E l h false b) a with
          | none => rw [hq] at h_49; exact absurd h_49 (by decide)
          | some d =>
            rw [hq] at h_49
            cases d with
            | zero => exact absurd h_49 (by decide)
            | succ d => exact ⟨d, rfl, by have := hd _ _ hq; omega⟩
        refine w_ld rfl rfl ?_
        refine w_getr rfl rfl rfl rfl rfl ?_
        refine w_ld rfl rfl ?_
        refine w_getr rfl rfl rfl rfl rfl ?_
        refine w_ld rfl rfl ?_
        refine w_ld rfl rfl ?_
        refine w_cst (v := .int 1) rfl rfl ?_
        refine w_bin rfl rfl ?_
        rw [show dI (dl (srch N E l h false b) a) - 1 = nI d1 from by rw [hq]; exact nI_s1 d1]
        refine w_call (as := [_, _, _, _]) (rest := []) rfl rfl rfl rfl rfl rfl rfl rfl (EX_ex (ok_X9_nodeTowards (NS_Fr hS hF (by decide)) hW hB hd ha hd1)) ?_
        refine w_sto (L' := [(0, _), (1, _), (2, _), (3, _), (4, _)]) rfl rfl ?_
        refine w_ld rfl rfl ?_
        refine w_cj rfl rfl (fun h_74 => ?_) (fun h_74 => ?_)
        · refine w_ld rfl rfl ?_
          refine w_ret rfl rfl (trivial) ?_
          refine ⟨?_, rfl, hF, WS_of hb hE10 hB hs⟩
          unfold stepA stpA
          rw [h_5, h_16, nI_clamp (by omega), nI_clamp (by omega), hq]
          have h7 := hW.2.1
          unfold fstI at h_74
          try unfold fstI
          show _ = some (Value.int (if _ then _ else _))
          by_cases c : fa_first (stpP E l h (srch N E l h false b) a d1) N < N
          · rw [if_pos c] at h_74
            rw [if_pos c]
            first
              | rfl
              | (rw [if_pos c])
              | exact absurd (nI_pos' (by omega)) h_74
          · rw [if_neg c] at h_74
            first
              | exact absurd h_74 (by decide)
              | rw [if_neg c]
        · refine w_cst (v := .int (-2)) rfl rfl ?_
          refine w_go rfl ?_
          refine w_ret rfl rfl (trivial) ?_
          refine ⟨?_, rfl, hF, WS_of hb hE10 hB hs⟩
          unfold stepA stpA
          rw [h_5, h_16, nI_clamp (by omega), nI_clamp (by omega), hq]
          have h7 := hW.2.1
          unfold fstI at h_74
          try unfold fstI
          show _ = some (Value.int (if _ then _ else _))
          by_cases c : fa_first (stpP E l h (srch N E l h false b) a d1) N < N
          · rw [if_pos c] at h_74
            rw [if_pos c]
            first
              | rfl
              | (rw [if_pos c])
              | exact absurd (nI_pos' (by omega)) h_74
          · rw [if_neg c] at h_74
            first
              | exact absurd h_74 (by decide)
              | rw [if_neg c]
      · refine w_cst (v := .int (-2)) rfl rfl ?_
        refine w_ret rfl rfl (trivial) ?_
        refine ⟨?_, rfl, hF, WS_of hb hE10 hB hs⟩
        unfold stepA stpA
        rw [h_5, h_16, nI_clamp (by omega), nI_clamp (by omega)]
        cases hq : dl (srch N E l h false b) a with
        | none => rfl
        | some d =>
          cases d with
          | zero => rfl
          | succ d => rw [hq] at h_49; have := hd _ _ hq; exact absurd (nI_lt (a := 0) (b := d + 1) (by omega) (by omega)) h_49
    · refine w_cst (v := .int (-1)) rfl rfl ?_
      refine w_ret rfl rfl (trivial) ?_
      refine ⟨?_, rfl, Fr_rf, hw⟩
      unfold stepA
      first
        | (rw [h_5]; rfl)
        | (rw [h_5, h_16]; rfl)

set_option maxHeartbeats 1000000 in
set_option maxRecDepth 10000 in
theorem ok_X11_far {d : Nat} {M : Mm} {ML : Ml} {N E A : Nat} {l h : Nat → Nat} (hS : NS M 2 3 4 5 6 N E A l h) (hW : WN N E A l h) (hw : WS M) {x y : Int32} : EX (d + 5) k_X11_far [.ref 1, .int x, .int y] M ML (fun r M2 L2 => r = some (.int (farA N E l h x y)) ∧ L2 = ML ∧ Fr [34, 35, 36] M M2 ∧ WS M2) := by
  refine EX_in mi_X11_far rfl rfl ?_
  show WP _ cd_X11_far false _ (0, [(0, .ref 1), (1, .int x), (2, .int y)], [], (SH, M, ML))
  have hE10 := hW.2.2.1
  have h1024 := pow_b hE10
  refine w_ld rfl rfl ?_
  refine w_getr rfl rfl rfl rfl rfl ?_
  refine w_ld rfl rfl ?_
  refine w_cife (as := [_, _]) (rest := []) rfl rfl rfl rfl rfl rfl rfl rfl (ok_X4_hasArrowing _ _ _ _ hS.2.1 hW.2.2.1) rfl (fun h_5 => ?_) (fun h_5 => ?_)
  · refine w_cst (v := .int (-1)) rfl rfl ?_
    refine w_ret rfl rfl (trivial) ?_
    refine ⟨?_, rfl, Fr_rf, hw⟩
    unfold farA
    first
      | (rw [h_5]; rfl)
      | (rw [h_5, wh_no1 h_12]; rfl)
      | (rw [h_5, wh_no2 (n := 1) (nle_lt.mp h_17)]; rfl)
  · refine w_ld rfl rfl ?_
    refine w_cj rfl rfl (fun h_12 => ?_) (fun h_12 => ?_)
    · refine w_cst (v := .int (-1)) rfl rfl ?_
      refine w_ret rfl rfl (trivial) ?_
      refine ⟨?_, rfl, Fr_rf, hw⟩
      unfold farA
      first
        | (rw [h_5]; rfl)
        | (rw [h_5, wh_no1 h_12]; rfl)
        | (rw [h_5, wh_no2 (n := 1) (nle_lt.mp h_17)]; rfl)
    · refine w_ld rfl rfl ?_
      refine w_cst (v := .int 1) rfl rfl ?_
      refine w_cj rfl rfl (fun h_17 => ?_) (fun h_17 => ?_)
      · obtain ⟨a, ha, rfl⟩ := inR_ex (by omega) h_5
        have hI := srch_Iv (N := N) (l := l) (h := h) (s := true) ha
        have hlen' := Iv_len hI
        have hlen : (srch N E l h true a).length ≤ 1024 := by omega
        have hd := fun c d q => (srch_d (N := N) (l := l) (h := h) (s := true) ha hE10 (b := c) (d := d) q)
        have hp9 : ∀ (k : Nat) (p : Nat × Nat), (srch N E l h true a)[k]? = some p → p.1 < 1024 ∧ p.2 < 1024 ∧ dl (srch N E l h true a) p.1 = some p.2 := fun k p hp => by
          have h1 := hI.2.1 k p hp
          exact ⟨by omega, (hd _ _ h1.2.2.2).2, h1.2.2.2⟩
        obtain ⟨k0, hk0⟩ := dl_mem hI.1
        have hl0 := (List.getElem?_eq_some_iff.mp hk0).1
        have ⟨q, hq⟩ : ∃ q, (srch N E l h true a)[(srch N E l h true a).length - 1]? = some q := ⟨_, List.getElem?_eq_getElem (by omega)⟩
        have hq9 := hp9 _ q hq
        have hfar := farV_of (far_class hI h1024 hq)
        refine w_ld rfl rfl ?_
        refine w_getr rfl rfl rfl rfl rfl ?_
        refine w_ld rfl rfl ?_
        refine w_getr rfl rfl rfl rfl rfl ?_
        refine w_ld rfl rfl ?_
        obtain ⟨_, M3, L3, ⟨rfl, rfl, hF, hB, hs⟩, hE31⟩ := ok_X9_searchOn (d := d) (ML := ML) (M := M) hS hW ha hw
        refine w_callv (as := [_, _, _]) (rest := []) rfl rfl rfl rfl rfl rfl rfl rfl hE31 ?_
        refine w_ld rfl rfl ?_
        refine w_getr rfl rfl rfl rfl rfl ?_
        refine w_call (as := [_]) (rest := []) rfl rfl rfl rfl rfl rfl rfl rfl (EX_ex (ok_X9_greatest hB hs hlen hq hq9.1 hq9.2.2)) ?_
        refine w_sto (L' := [(0, _), (1, _), (2, _), (3, _)]) rfl rfl ?_
        refine w_ld rfl rfl ?_
        refine w_cj rfl rfl (fun h_43 => ?_) (fun h_43 => ?_)
        · refine w_ld rfl rfl ?_
          refine w_getr rfl rfl rfl rfl rfl ?_
          refine w_ld rfl rfl ?_
          refine w_call (as := [_, _]) (rest := []) rfl rfl rfl rfl rfl rfl rfl rfl (EX_ex (ok_X9_leastAt hB hs hlen hp9 hq9.2.1)) ?_
          refine w_ret rfl rfl (trivial) ?_
          refine ⟨?_, rfl, hF, WS_of ha hE10 hB hs⟩
          unfold farA
          rw [h_5, wh_yes (n := 1) h_12 h_17, nI_clamp (by omega), hfar]
          show _ = some (Value.int (if y = 0 then _ else _))
          first
            | rw [if_pos (Classical.not_not.mp h_43)]
            | rw [if_neg h_43]
        · refine w_ld rfl rfl ?_
          refine w_go rfl ?_
          refine w_ret rfl rfl (trivial) ?_
          refine ⟨?_, rfl, hF, WS_of ha hE10 hB hs⟩
          unfold farA
          rw [h_5, wh_yes (n := 1) h_12 h_17, nI_clamp (by omega), hfar]
          show _ = some (Value.int (if y = 0 then _ else _))
          first
            | rw [if_pos (Classical.not_not.mp h_43)]
            | rw [if_neg h_43]
      · refine w_cst (v := .int (-1)) rfl rfl ?_
        refine w_ret rfl rfl (trivial) ?_
        refine ⟨?_, rfl, Fr_rf, hw⟩
        unfold farA
        first
          | (rw [h_5]; rfl)
          | (rw [h_5, wh_no1 h_12]; rfl)
          | (rw [h_5, wh_no2 (n := 1) (nle_lt.mp h_17)]; rfl)

set_option maxHeartbeats 1000000 in
set_option maxRecDepth 10000 in
theorem ok_X11_trip {d : Nat} {M : Mm} {ML : Ml} {N E A : Nat} {l h : Nat → Nat} (hS : NS M 2 3 4 5 6 N E A l h) (hW : WN N E A l h) (hw : WS M) {x : Int32} : EX (d + 5) k_X11_trip [.ref 1, .int x] M ML (fun r M2 L2 => r = some (.int (tripA N E l h x)) ∧ L2 = ML ∧ Fr [34, 35, 36] M M2 ∧ WS M2) := by
  refine EX_in mi_X11_trip rfl rfl ?_
  show WP _ cd_X11_trip false _ (0, [(0, .ref 1), (1, .int x)], [], (SH, M, ML))
  have hE10 := hW.2.2.1
  have h1024 := pow_b hE10
  refine w_ld rfl rfl ?_
  refine w_getr rfl rfl rfl rfl rfl ?_
  refine w_ld rfl rfl ?_
  refine w_cifn (as := [_, _]) (rest := []) rfl rfl rfl rfl rfl rfl rfl rfl (ok_X4_hasArrowing _ _ _ _ hS.2.1 hW.2.2.1) rfl (fun h_5 => ?_) (fun h_5 => ?_)
  · obtain ⟨a, ha, rfl⟩ := inR_ex (by omega) h_5
    have hd := fun c d q => (srch_d (N := N) (l := l) (h := h) (s := false) ha hE10 (b := c) (d := d) q).2
    have hm := trO_lt (E := E) (l := l) (h := h) (x := a) hd N
    refine w_ld rfl rfl ?_
    refine w_getr rfl rfl rfl rfl rfl ?_
    refine w_ld rfl rfl ?_
    refine w_getr rfl rfl rfl rfl rfl ?_
    refine w_ld rfl rfl ?_
    obtain ⟨_, M3, L3, ⟨rfl, rfl, hF, hB, hs⟩, hE22⟩ := ok_X9_searchBack (d := d) (ML := ML) (M := M) hS hW ha hw
    refine w_callv (as := [_, _, _]) (rest := []) rfl rfl rfl rfl rfl rfl rfl rfl hE22 ?_
    refine w_ld rfl rfl ?_
    refine w_getr rfl rfl rfl rfl rfl ?_
    refine w_ld rfl rfl ?_
    refine w_getr rfl rfl rfl rfl rfl ?_
    refine w_ld rfl rfl ?_
    refine w_call (as := [_, _, _]) (rest := []) rfl rfl rfl rfl rfl rfl rfl rfl (EX_ex (ok_X9_fewestBehindOne (NS_Fr hS hF (by decide)) hW hB hd ha)) ?_
    refine w_sto (L' := [(0, _), (1, _), (2, _)]) rfl rfl ?_
    refine w_ld rfl rfl ?_
    refine w_cj rfl rfl (fun h_39 => ?_) (fun h_39 => ?_)
    · refine w_ld rfl rfl ?_
      refine w_cst (v := .int 1) rfl rfl ?_
      refine w_bin rfl rfl ?_
      refine w_ret rfl rfl (trivial) ?_
      refine ⟨?_, rfl, hF, WS_of ha hE10 hB hs⟩
      unfold tripA
      rw [h_5, nI_clamp (by omega)]
      cases hq : trO E l h (srch N E l h false a) a N with
      | none => first | rfl | (rw [hq] at h_39; exact absurd h_39 (by decide))
      | some m => first | exact congrArg (fun q => some (Value.int q)) (nI_1 m) | (rw [hq] at h_39; have := hm _ hq; exact absurd (nI_pos' (by omega)) h_39)
    · refine w_cst (v := .int (-2)) rfl rfl ?_
      refine w_go rfl ?_
      refine w_ret rfl rfl (trivial) ?_
      refine ⟨?_, rfl, hF, WS_of ha hE10 hB hs⟩
      unfold tripA
      rw [h_5, nI_clamp (by omega)]
      cases hq : trO E l h (srch N E l h false a) a N with
      | none => first | rfl | (rw [hq] at h_39; exact absurd h_39 (by decide))
      | some m => first | exact congrArg (fun q => some (Value.int q)) (nI_1 m) | (rw [hq] at h_39; have := hm _ hq; exact absurd (nI_pos' (by omega)) h_39)
  · refine w_cst (v := .int (-1)) rfl rfl ?_
    refine w_ret rfl rfl (trivial) ?_
    refine ⟨?_, rfl, Fr_rf, hw⟩
    unfold tripA
    rw [h_5]
    exact rfl

