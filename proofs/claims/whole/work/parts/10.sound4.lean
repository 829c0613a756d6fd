def PcE (dC : Nat → ClassId) (dI : Nat → Nat → Nat) (Y : YC) (b base : Nat) (args : List Value) (w : Wd) : Array Value → State → Prop :=
  va_Pc (args.map (cvV b base)) (fun U => U.heap.size = base + w.1.length ∧ va_P (dC, dI) ICl (wsW Y b base w) U.heap ∧ va_K (dC, dI) ICl (tysY Y) U ∧ (∀ q ∈ NSTl, va_Nw (.methodLinkNest q.1 q.2.1 q.2.2.1 q.2.2.2) U) ∧ va_AO "ArrowTurner$Holder" U)
def QcE (dC : Nat → ClassId) (dI : Nat → Nat → Nat) (Y : YC) (b base : Nat) (r : Option Value) (w w1 : Wd) : Array Value → State → Outcome → State → Prop := fun _ st oc t =>
  oc = .returned (r.map (cvV b base)) ∧ va_P (dC, dI) ICl (wsW Y b base w1) t.heap ∧ va_F (va_A (wsW Y b base w) (base + w.1.length)) st t
def EOK (l : Launch) (dC : Nat → ClassId) (dI : Nat → Nat → Nat) (Y : YC) (b base k : Nat) (args : List Value) (w : Wd) (r : Option Value) (w1 : Wd) : Prop :=
  ∃ t, MTl[k]? = some t ∧ (w.1.length ≤ w1.1.length ∧ sl w ≤ sl w1) ∧ Met l (i_y t) (WSm t) { frames := i_f t, cells := w1.1.length - w.1.length, slots := sl w1 - sl w, locals := i_l t } (PcE dC dI Y b base args w) (QcE dC dI Y b base r w w1) (w1.1.length - w.1.length) (sl w1 - sl w) (va_A (wsW Y b base w) (base + w.1.length))
theorem PcE_blind {dC : Nat → ClassId} {dI : Nat → Nat → Nat} {Y : YC} {b base : Nat} {args : List Value} {w : Wd} : FrameBlind (PcE dC dI Y b base args w) := by
  intro a U g mk h
  obtain ⟨h0, h1, h2, h3, h4, h5⟩ := h
  exact ⟨h0, h1, h2, va_K.moved (u := U) (U := U.calling g mk a) (Vm.Alike.refl U.vm) h3, fun q hq => va_Nw.same (u := U) (U := U.calling g mk a) rfl rfl (h4 q hq), va_AO.moved (u := U) (U := U.calling g mk a) (Vm.Alike.refl U.vm) h5⟩
section SD
variable {p : Program} {l : Launch} {e : Env} {R : Room} {s : State} {m : MethodId} {args : Array Value} {below : List Frame} {meth : Method} {c : Code} {Q : State → Prop} {dC : Nat → ClassId} {dI : Nat → Nat → Nat} {Y : YC} {b base : Nat} {X : Scr} {o : Nat} {ini : Bool} {cc : ByteArray} {nL : Nat} {cd : Cd} {A : Nat → Prop} {n0 s0 : Nat} {w1 : Wd}
theorem new_q {w : Wd} {q : Nat} {ce : va_E} {H1 : Heap} (hP1 : va_P (dC, dI) ICl (wsW Y b base w ++ [(q, ce)]) H1) (hD1 : va_D A (wsW Y b base w ++ [(q, ce)])) (hA : ∀ q, A q → base ≤ q) (hz : H1.size ≤ base + w.1.length + 1) : q = base + w.1.length := by
  have hq : (wsW Y b base w ++ [(q, ce)])[w.1.length]? = some (q, ce) := by
    rw [List.getElem?_append_right (by rw [wsW_len]; exact Nat.le_refl _), wsW_len, Nat.sub_self]; rfl
  have h1 := (hP1 _ _ hq).lt
  have h2 := hA _ (hD1.2 _ _ hq)
  dsimp only at h1 h2
  by_cases h : q < base + w.1.length
  · exfalso
    have hi : q - base < w.1.length := by omega
    have hi2 : (wsW Y b base w ++ [(q, ce)])[q - base]? = some (base + (q - base), cvE Y b base w.2.1 w.2.2 (q - base + 1) (w.1.getD (q - base) (0, 0, []))) := by
      rw [List.getElem?_append_left (by rw [wsW_len]; exact hi), wsW_at, if_pos hi]
    have h3 := hD1.1 _ _ _ _ hi2 hq (by show base + (q - base) = q; omega)
    omega
  · omega
theorem W_sz {w : Wd} {H : Heap} {locs : List Loc} {slots : Nat} {g : JFrame} (hsz : s.heap.size = base + n0) (hn : n0 ≤ w.1.length) (hP : va_P (dC, dI) ICl (wsW Y b base w) H) (hS : va_S A s.heap H locs)
    (kk : H.size = base + w.1.length → W p l e R s m args below meth c H locs (w.1.length - n0) slots Q g) : W p l e R s m args below meth c H locs (w.1.length - n0) slots Q g := by
  intro T hT X
  refine kk ?_ T hT X
  have h1 := X.heapSize
  rw [hT, hsz] at h1
  have h2 := hS.1
  rw [hsz] at h2
  by_cases h0 : w.1.length = 0
  · omega
  · have h3 : (wsW Y b base w)[w.1.length - 1]? = some (base + (w.1.length - 1), cvE Y b base w.2.1 w.2.2 (w.1.length - 1 + 1) (w.1.getD (w.1.length - 1) (0, 0, []))) := by
      rw [wsW_at, if_pos (by omega)]
    have h4 := (hP _ _ h3).lt
    dsimp only at h4
    omega
set_option maxHeartbeats 2000000 in
theorem s_new (C : Ctx p R s m args meth c dC dI Y b base X o ini cc nL cd A n0 s0 w1) : RU_new cd nf (PW p l e R s m args below meth c Q dC dI Y b base nL A n0 s0 w1) := by
  intro pc L st sh M ML i nx k b' c' z hk h2
  obtain ⟨hg, hP⟩ := h2
  obtain ⟨hx, hb, hml, hown, hts, hK, hA, hAb, hN, hO, hini, ⟨fr, lo, rk, hchk, hfr, hlo⟩, hcl, hsl, hsz, hX⟩ := C
  obtain ⟨hD, hJ⟩ := chk_at hchk hk
  obtain ⟨hdg, rfl⟩ := chk_dec hD rfl
  obtain ⟨hJ1, hJ2⟩ := (Bool.and_eq_true _ _).mp (show ((CLl o).elem (i, k) && Nat.blt k 13 && Nat.beq b' (NN k)) = true from hJ)
  obtain ⟨hJ1, hJ3⟩ := (Bool.and_eq_true _ _).mp hJ1
  have hc13 := blt_lt hJ3
  have hbN := Nat.eq_of_beq_eq_true hJ2
  subst hbN
  have hw := CL_ok o (i, k) (el2 hJ1)
  obtain ⟨hins, hini2⟩ := IN_ok k hc13
  have hg1 : sh.length + 1 ≤ w1.1.length := by
    have := hg.1
    simpa using this
  have hg2 : sl (sh, M, ML) + NN k ≤ sl w1 := by
    have := hg.2
    rwa [show sl (pc + ilen (.new i), L, Value.ref (sh.length + 1) :: st, sh ++ [(k + 4, NN k, nf k)], clr M (sh.length + 1), ML).2.2.2 = sl (sh, M, ML) + NN k from sl_push] at this
  refine ⟨⟨by show sh.length ≤ _; omega, by show sl (sh, M, ML) ≤ _; omega⟩, fun H locs ls hn hs hP' hS hl => ?_⟩
  have hn : n0 ≤ sh.length := hn
  have hs : s0 ≤ sl (sh, M, ML) := hs
  show W p l e R s m args below meth c H locs (sh.length - n0) (sl (sh, M, ML) - s0) Q (F0 m pc ls (st.map (cvV b base)))
  refine va_new (D := (dC, dI)) (A := A) (ci := k) (C := cn k) (T := TT k) (N := NN k) hx hb hts (fun w hw => WSg_in (US_ok k hc13 w hw).1 (US_ok k hc13 w hw).2) (tyT k) (ty_ok k hc13) hown (hts _ (WSg_in hw rfl)) (hts _ (WSg_in hins rfl)) (hts _ (WSg_in hini2 rfl)) hK hP' (wsW_D hAb) hS hA (IC_ok k hc13) (fs := (List.range (NN k)).map (fun j => cvF b base (clr M (sh.length + 1)) (sh.length + 1) j ((nf k).getD j none))) (fun j hj => ?_) (by omega) (by omega) hdg (fun q H1 hP1 hD1 hS1 => ?_)
  · obtain ⟨h1, -, h3⟩ := (nf_ok k hc13).2 j hj
    have e1 : vp_V ((List.range (NN k)).map (fun j => cvF b base (clr M (sh.length + 1)) (sh.length + 1) j ((nf k).getD j none))) j = cvF b base (clr M (sh.length + 1)) (sh.length + 1) j ((nf k).getD j none) := by
      unfold vp_V
      rw [List.getD_eq_getElem?_getD, List.getElem?_map, List.getElem?_range hj]
      rfl
    rw [e1, List.getD_eq_getElem?_getD, h1]
    generalize tyT k j = ty at h3
    cases ty <;> simp [kd] at h3 <;> simp [kd, cvF, clr, defaultValue, va_rf]
  · intro T hT X
    have hz : H1.size ≤ base + sh.length + 1 := by
      have h1 := X.heapSize
      rw [hT, hsz.1] at h1
      omega
    have hq := new_q (w := (sh, M, ML)) hP1 hD1 hsz.2 hz
    dsimp only at hq
    subst hq
    have hset : wsW Y b base (sh ++ [(k + 4, NN k, nf k)], clr M (sh.length + 1), ML) = wsW Y b base (sh, M, ML) ++ [(base + sh.length, .inr (k, (List.range (NN k)).map (fun j => cvF b base (clr M (sh.length + 1)) (sh.length + 1) j ((nf k).getD j none))))] := by
      rw [wsW_push (w := (sh, M, ML)) (w' := (sh ++ [(k + 4, NN k, nf k)], clr M (sh.length + 1), ML)) rfl (fun j hj => cvE_M (clr_ne (by have : j < sh.length := hj; omega)) rfl _)]
      rfl
    have hP2 : va_P (dC, dI) ICl (wsW Y b base (sh ++ [(k + 4, NN k, nf k)], clr M (sh.length + 1), ML)) H1 := by rw [hset]; exact hP1
    have e1 : (sh ++ [(k + 4, NN k, nf k)]).length - n0 = sh.length - n0 + 1 := by simp; omega
    have e2 : sl (sh ++ [(k + 4, NN k, nf k)], clr M (sh.length + 1), ML) - s0 = sl (sh, M, ML) - s0 + NN k := by rw [sl_push (M := M) (ML := ML)]; omega
    have h3 := hP H1 locs ls (by show n0 ≤ (sh ++ [(k + 4, NN k, nf k)]).length; simp; omega) (by show s0 ≤ sl (sh ++ [(k + 4, NN k, nf k)], clr M (sh.length + 1), ML); rw [sl_push (M := M) (ML := ML)]; omega) hP2 hS1 hl
    have h4 : W p l e R s m args below meth c H1 locs (sh.length - n0 + 1) (sl (sh, M, ML) - s0 + NN k) Q (F0 m (pc + 3) ls (.ref (base + sh.length) :: st.map (cvV b base))) := by
      rw [← e1, ← e2]
      exact h3
    exact h4 T hT X
set_option maxHeartbeats 2000000 in
theorem s_nwa (C : Ctx p R s m args meth c dC dI Y b base X o ini cc nL cd A n0 s0 w1) : RU_nwa cd (PW p l e R s m args below meth c Q dC dI Y b base nL A n0 s0 w1) := by
  intro pc L st sh M ML t t' nx a' b' c' z n N hk hv hneg hNe hNb h2
  obtain ⟨hg, hP⟩ := h2
  obtain ⟨hx, hb, hml, hown, hts, hK, hA, hAb, hN, hO, hini, ⟨fr, lo, rk, hchk, hfr, hlo⟩, hcl, hsl, hsz, hX⟩ := C
  obtain ⟨hD, hJ⟩ := chk_at hchk hk
  have hN6 := Nat.le_of_ble_eq_true hNb
  have hg1 : sh.length + 1 ≤ w1.1.length := by
    have := hg.1
    simpa using this
  have hg2 : sl (sh, M, ML) + N ≤ sl w1 := by
    have := hg.2
    rwa [show sl (nx, L, Value.ref (sh.length + 1) :: st, sh ++ [(t', N, [])], clr M (sh.length + 1), clrL ML (sh.length + 1)).2.2.2 = sl (sh, M, ML) + N from sl_push] at this
  unfold nat_ at hv
  split at hv
  · cases hv
    obtain ⟨hdg, rfl⟩ := chk_dec hD rfl
    refine ⟨⟨by show sh.length ≤ _; omega, by show sl (sh, M, ML) ≤ _; omega⟩, fun H locs ls hn hs hP' hS hl => ?_⟩
    have hn : n0 ≤ sh.length := hn
    have hs : s0 ≤ sl (sh, M, ML) := hs
    show W p l e R s m args below meth c H locs (sh.length - n0) (sl (sh, M, ML) - s0) Q (F0 m pc ls (.int n :: st.map (cvV b base)))
    refine va_newa (D := (dC, dI)) (A := A) (atype := .int) (ty := .int) (a0 := (N, .inl (fun _ => 0))) hx hb (hts _ (WSg_in AC_int rfl)) rfl hK hP' (wsW_D hAb) hS hA (fun cA => rfl) hneg hNe (by show N * 4 ≤ 536870912; omega) (by omega) (by omega) hdg (fun q cA H1 hK1 hP1 hD1 hS1 => ?_)
    intro T hT X
    have hcA : cA = Y.1 := by
      have h1 : s.vm.findClass ("[" ++ (FieldType.int).toString) = some cA := (hK1.2 4 (cA, .int) rfl).2
      have h2 : s.vm.findClass ("[" ++ (FieldType.int).toString) = some (Y.1) := (hK1.2 0 (Y.1, .int) rfl).2
      exact Option.some.inj (h1.symm.trans h2)
    subst hcA
    have hz : H1.size ≤ base + sh.length + 1 := by
      have h1 := X.heapSize
      rw [hT, hsz.1] at h1
      omega
    have hq := new_q (w := (sh, M, ML)) hP1 hD1 hsz.2 hz
    dsimp only at hq
    subst hq
    have hset : wsW Y b base (sh ++ [(0, N, [])], clr M (sh.length + 1), clrL ML (sh.length + 1)) = wsW Y b base (sh, M, ML) ++ [(base + sh.length, .inl (Y.1, (N, .inl (fun _ => 0))))] := by
      rw [wsW_push (w := (sh, M, ML)) (w' := (sh ++ [(0, N, [])], clr M (sh.length + 1), clrL ML (sh.length + 1))) rfl (fun j hj => cvE_M (clr_ne (by have : j < sh.length := hj; omega)) (clrL_ne (by have : j < sh.length := hj; omega)) _)]
      simp only [cvE, clr_eq, clrL_eq]
    have hP2 : va_P (dC, dI) ICl (wsW Y b base (sh ++ [(0, N, [])], clr M (sh.length + 1), clrL ML (sh.length + 1))) H1 := by rw [hset]; exact hP1
    have e1 : (sh ++ [((0 : Nat), N, ([] : List (Option (Option Nat))))]).length - n0 = sh.length - n0 + 1 := by simp; omega
    have e2 : sl (sh ++ [(0, N, [])], clr M (sh.length + 1), clrL ML (sh.length + 1)) - s0 = sl (sh, M, ML) - s0 + N := by rw [sl_push (M := M) (ML := ML)]; omega
    have h3 := hP H1 locs ls (by show n0 ≤ (sh ++ [((0 : Nat), N, ([] : List (Option (Option Nat))))]).length; simp; omega) (by show s0 ≤ sl (sh ++ [(0, N, [])], clr M (sh.length + 1), clrL ML (sh.length + 1)); rw [sl_push (M := M) (ML := ML)]; omega) hP2 hS1 hl
    have h4 : W p l e R s m args below meth c H1 locs (sh.length - n0 + 1) (sl (sh, M, ML) - s0 + N) Q (F0 m (pc + 2) ls (.ref (base + sh.length) :: st.map (cvV b base))) := by
      rw [← e1, ← e2]
      exact h3
    exact h4 T hT X
  · cases hv
    obtain ⟨hdg, rfl⟩ := chk_dec hD rfl
    refine ⟨⟨by show sh.length ≤ _; omega, by show sl (sh, M, ML) ≤ _; omega⟩, fun H locs ls hn hs hP' hS hl => ?_⟩
    have hn : n0 ≤ sh.length := hn
    have hs : s0 ≤ sl (sh, M, ML) := hs
    show W p l e R s m args below meth c H locs (sh.length - n0) (sl (sh, M, ML) - s0) Q (F0 m pc ls (.int n :: st.map (cvV b base)))
    refine va_newa (D := (dC, dI)) (A := A) (atype := .long) (ty := .long) (a0 := (N, .inr (.inl (fun _ => 0)))) hx hb (hts _ (WSg_in AC_long rfl)) rfl hK hP' (wsW_D hAb) hS hA (fun cA => rfl) hneg hNe (by show N * 8 ≤ 536870912; omega) (by omega) (by omega) hdg (fun q cA H1 hK1 hP1 hD1 hS1 => ?_)
    intro T hT X
    have hcA : cA = Y.2.1 := by
      have h1 : s.vm.findClass ("[" ++ (FieldType.long).toString) = some cA := (hK1.2 4 (cA, .long) rfl).2
      have h2 : s.vm.findClass ("[" ++ (FieldType.long).toString) = some (Y.2.1) := (hK1.2 1 (Y.2.1, .long) rfl).2
      exact Option.some.inj (h1.symm.trans h2)
    subst hcA
    have hz : H1.size ≤ base + sh.length + 1 := by
      have h1 := X.heapSize
      rw [hT, hsz.1] at h1
      omega
    have hq := new_q (w := (sh, M, ML)) hP1 hD1 hsz.2 hz
    dsimp only at hq
    subst hq
    have hset : wsW Y b base (sh ++ [(1, N, [])], clr M (sh.length + 1), clrL ML (sh.length + 1)) = wsW Y b base (sh, M, ML) ++ [(base + sh.length, .inl (Y.2.1, (N, .inr (.inl (fun _ => 0)))))] := by
      rw [wsW_push (w := (sh, M, ML)) (w' := (sh ++ [(1, N, [])], clr M (sh.length + 1), clrL ML (sh.length + 1))) rfl (fun j hj => cvE_M (clr_ne (by have : j < sh.length := hj; omega)) (clrL_ne (by have : j < sh.length := hj; omega)) _)]
      simp only [cvE, clr_eq, clrL_eq]
    have hP2 : va_P (dC, dI) ICl (wsW Y b base (sh ++ [(1, N, [])], clr M (sh.length + 1), clrL ML (sh.length + 1))) H1 := by rw [hset]; exact hP1
    have e1 : (sh ++ [((1 : Nat), N, ([] : List (Option (Option Nat))))]).length - n0 = sh.length - n0 + 1 := by simp; omega
    have e2 : sl (sh ++ [(1, N, [])], clr M (sh.length + 1), clrL ML (sh.length + 1)) - s0 = sl (sh, M, ML) - s0 + N := by rw [sl_push (M := M) (ML := ML)]; omega
    have h3 := hP H1 locs ls (by show n0 ≤ (sh ++ [((1 : Nat), N, ([] : List (Option (Option Nat))))]).length; simp; omega) (by show s0 ≤ sl (sh ++ [(1, N, [])], clr M (sh.length + 1), clrL ML (sh.length + 1)); rw [sl_push (M := M) (ML := ML)]; omega) hP2 hS1 hl
    have h4 : W p l e R s m args below meth c H1 locs (sh.length - n0 + 1) (sl (sh, M, ML) - s0 + N) Q (F0 m (pc + 2) ls (.ref (base + sh.length) :: st.map (cvV b base))) := by
      rw [← e1, ← e2]
      exact h3
    exact h4 T hT X
  · cases hv
    obtain ⟨hdg, rfl⟩ := chk_dec hD rfl
    refine ⟨⟨by show sh.length ≤ _; omega, by show sl (sh, M, ML) ≤ _; omega⟩, fun H locs ls hn hs hP' hS hl => ?_⟩
    have hn : n0 ≤ sh.length := hn
    have hs : s0 ≤ sl (sh, M, ML) := hs
    show W p l e R s m args below meth c H locs (sh.length - n0) (sl (sh, M, ML) - s0) Q (F0 m pc ls (.int n :: st.map (cvV b base)))
    refine va_newa (D := (dC, dI)) (A := A) (atype := .boolean) (ty := .boolean) (a0 := (N, .inl (fun _ => 0))) hx hb (hts _ (WSg_in AC_boolean rfl)) rfl hK hP' (wsW_D hAb) hS hA (fun cA => rfl) hneg hNe (by show N * 1 ≤ 536870912; omega) (by omega) (by omega) hdg (fun q cA H1 hK1 hP1 hD1 hS1 => ?_)
    intro T hT X
    have hcA : cA = Y.2.2.1 := by
      have h1 : s.vm.findClass ("[" ++ (FieldType.boolean).toString) = some cA := (hK1.2 4 (cA, .boolean) rfl).2
      have h2 : s.vm.findClass ("[" ++ (FieldType.boolean).toString) = some (Y.2.2.1) := (hK1.2 2 (Y.2.2.1, .boolean) rfl).2
      exact Option.some.inj (h1.symm.trans h2)
    subst hcA
    have hz : H1.size ≤ base + sh.length + 1 := by
      have h1 := X.heapSize
      rw [hT, hsz.1] at h1
      omega
    have hq := new_q (w := (sh, M, ML)) hP1 hD1 hsz.2 hz
    dsimp only at hq
    subst hq
    have hset : wsW Y b base (sh ++ [(2, N, [])], clr M (sh.length + 1), clrL ML (sh.length + 1)) = wsW Y b base (sh, M, ML) ++ [(base + sh.length, .inl (Y.2.2.1, (N, .inl (fun _ => 0))))] := by
      rw [wsW_push (w := (sh, M, ML)) (w' := (sh ++ [(2, N, [])], clr M (sh.length + 1), clrL ML (sh.length + 1))) rfl (fun j hj => cvE_M (clr_ne (by have : j < sh.length := hj; omega)) (clrL_ne (by have : j < sh.length := hj; omega)) _)]
      simp only [cvE, clr_eq, clrL_eq]
    have hP2 : va_P (dC, dI) ICl (wsW Y b base (sh ++ [(2, N, [])], clr M (sh.length + 1), clrL ML (sh.length + 1))) H1 := by rw [hset]; exact hP1
    have e1 : (sh ++ [((2 : Nat), N, ([] : List (Option (Option Nat))))]).length - n0 = sh.length - n0 + 1 := by simp; omega
    have e2 : sl (sh ++ [(2, N, [])], clr M (sh.length + 1), clrL ML (sh.length + 1)) - s0 = sl (sh, M, ML) - s0 + N := by rw [sl_push (M := M) (ML := ML)]; omega
    have h3 := hP H1 locs ls (by show n0 ≤ (sh ++ [((2 : Nat), N, ([] : List (Option (Option Nat))))]).length; simp; omega) (by show s0 ≤ sl (sh ++ [(2, N, [])], clr M (sh.length + 1), clrL ML (sh.length + 1)); rw [sl_push (M := M) (ML := ML)]; omega) hP2 hS1 hl
    have h4 : W p l e R s m args below meth c H1 locs (sh.length - n0 + 1) (sl (sh, M, ML) - s0 + N) Q (F0 m (pc + 2) ls (.ref (base + sh.length) :: st.map (cvV b base))) := by
      rw [← e1, ← e2]
      exact h3
    exact h4 T hT X
  · cases hv
set_option maxHeartbeats 2000000 in
theorem s_nwq (C : Ctx p R s m args meth c dC dI Y b base X o ini cc nL cd A n0 s0 w1) : RU_nwq cd (PW p l e R s m args below meth c Q dC dI Y b base nL A n0 s0 w1) := by
  intro pc L st sh M ML i nx a' b' c' z n N hk hneg hNe hNb h2
  obtain ⟨hg, hP⟩ := h2
  obtain ⟨hx, hb, hml, hown, hts, hK, hA, hAb, hN, hO, hini, ⟨fr, lo, rk, hchk, hfr, hlo⟩, hcl, hsl, hsz, hX⟩ := C
  obtain ⟨hD, hJ⟩ := chk_at hchk hk
  have hN6 := Nat.le_of_ble_eq_true hNb
  have hg1 : sh.length + 1 ≤ w1.1.length := by
    have := hg.1
    simpa using this
  have hg2 : sl (sh, M, ML) + N ≤ sl w1 := by
    have := hg.2
    rwa [show sl (nx, L, Value.ref (sh.length + 1) :: st, sh ++ [(3, N, List.replicate N (some none))], M, ML).2.2.2 = sl (sh, M, ML) + N from sl_push] at this
  obtain ⟨hdg, rfl⟩ := chk_dec hD rfl
  have hw := CL_ok o (i, 3) (el2 hJ)
  refine ⟨⟨by show sh.length ≤ _; omega, by show sl (sh, M, ML) ≤ _; omega⟩, fun H locs ls hn hs hP' hS hl => ?_⟩
  have hn : n0 ≤ sh.length := hn
  have hs : s0 ≤ sl (sh, M, ML) := hs
  show W p l e R s m args below meth c H locs (sh.length - n0) (sl (sh, M, ML) - s0) Q (F0 m pc ls (.int n :: st.map (cvV b base)))
  refine va_newq (D := (dC, dI)) (A := A) (C := "ArrowTurner$Holder") hx hb hown (hts _ (WSg_in hw rfl)) hO hK hP' (wsW_D hAb) hS hA hneg hNe (by omega) (by omega) (by omega) hdg (fun q cA H1 hK1 hP1 hD1 hS1 => ?_)
  intro T hT X
  have hcA : cA = Y.2.2.2 := by
    obtain ⟨-, -, -, -, -, h1⟩ := (hK1.2 4 (cA, .object "ArrowTurner$Holder") rfl).2
    obtain ⟨-, -, -, -, -, h2⟩ := (hK1.2 3 (Y.2.2.2, .object "ArrowTurner$Holder") rfl).2
    exact Option.some.inj (h1.symm.trans h2)
  subst hcA
  have hz : H1.size ≤ base + sh.length + 1 := by
    have h1 := X.heapSize
    rw [hT, hsz.1] at h1
    omega
  have hq := new_q (w := (sh, M, ML)) hP1 hD1 hsz.2 hz
  dsimp only at hq
  subst hq
  have hset : wsW Y b base (sh ++ [(3, N, List.replicate N (some none))], M, ML) = wsW Y b base (sh, M, ML) ++ [(base + sh.length, .inl (Y.2.2.2, N, .inr (.inr (.inr (.inr (fun _ => none))))))] := by
    rw [wsW_push (w := (sh, M, ML)) (w' := (sh ++ [(3, N, List.replicate N (some none))], M, ML)) rfl (fun j hj => rfl)]
    have e9 : (fun j => (((List.replicate N (some (none : Option Nat))).getD j none).join).map (cvA b base)) = fun _ => none := by
      funext j
      rw [List.getD_eq_getElem?_getD, List.getElem?_replicate]
      split <;> rfl
    show _ ++ [(base + sh.length, Sum.inl (Y.2.2.2, N, Sum.inr (Sum.inr (Sum.inr (Sum.inr (fun j => (((List.replicate N (some (none : Option Nat))).getD j none).join).map (cvA b base)))))))] = _
    rw [e9]
  have hP2 : va_P (dC, dI) ICl (wsW Y b base (sh ++ [(3, N, List.replicate N (some none))], M, ML)) H1 := by rw [hset]; exact hP1
  have e1 : (sh ++ [((3 : Nat), N, List.replicate N (some (none : Option Nat)))]).length - n0 = sh.length - n0 + 1 := by simp; omega
  have e2 : sl (sh ++ [(3, N, List.replicate N (some none))], M, ML) - s0 = sl (sh, M, ML) - s0 + N := by rw [sl_push (M := M) (ML := ML)]; omega
  have h3 := hP H1 locs ls (by show n0 ≤ (sh ++ [((3 : Nat), N, List.replicate N (some (none : Option Nat)))]).length; simp; omega) (by show s0 ≤ sl (sh ++ [(3, N, List.replicate N (some none))], M, ML); rw [sl_push (M := M) (ML := ML)]; omega) hP2 hS1 hl
  have h4 : W p l e R s m args below meth c H1 locs (sh.length - n0 + 1) (sl (sh, M, ML) - s0 + N) Q (F0 m (pc + 3) ls (.ref (base + sh.length) :: st.map (cvV b base))) := by
    rw [← e1, ← e2]
    exact h3
  exact h4 T hT X
theorem lsw_nn {pc : Nat} {d : Int} {x : Int} : ∀ (l : List (Int × Int)), 0 ≤ (pc : Int) + d → (∀ q ∈ l, 0 ≤ (pc : Int) + q.2) → 0 ≤ (pc : Int) + Op.lookupswitch.offset l d x
  | [], h, _ => h
  | (a, v) :: t, h, hl => by
    rw [Op.lookupswitch.offset_cons]
    split
    · exact hl _ List.mem_cons_self
    · exact lsw_nn t h (fun q hq => hl q (List.mem_cons_of_mem _ hq))
set_option maxHeartbeats 2000000 in
theorem s_sw (C : Ctx p R s m args meth c dC dI Y b base X o ini cc nL cd A n0 s0 w1) : RU_sw cd (PW p l e R s m args below meth c Q dC dI Y b base nL A n0 s0 w1) := by
  intro pc L st w ins nx a' b' c' z x t hk hv h2
  obtain ⟨hg, hP⟩ := h2
  obtain ⟨hx, hb, hml, hown, hts, hK, hA, hAb, hN, hO, hini, ⟨fr, lo, rk, hchk, hfr, hlo⟩, hcl, hsl, hsz, hX⟩ := C
  obtain ⟨hD, hJ⟩ := chk_at hchk hk
  unfold swT at hv
  split at hv
  · rename_i d lo9 hi9 offs
    cases hv
    have hdg := chk_decS hD rfl
    obtain ⟨hJ1, hJ2⟩ := (Bool.and_eq_true _ _).mp (show (decide (hi9 - lo9 < (offs.size : Int)) && decide (0 ≤ (pc : Int) + d) && offs.toList.all (fun x => decide (0 ≤ (pc : Int) + x))) = true from hJ)
    obtain ⟨hJ1, hJ3⟩ := (Bool.and_eq_true _ _).mp hJ1
    have hJ1 := of_decide_eq_true hJ1
    have hJ3 := of_decide_eq_true hJ3
    refine ⟨hg, fun H locs ls hn hs hP' hS hl => ?_⟩
    have h3 := hP H locs ls hn hs hP' hS hl
    by_cases h : x.toInt < lo9 ∨ hi9 < x.toInt
    · rw [if_pos h] at h3
      exact lv_tableOut hx hb hdg h (by rw [Int.toNat_of_nonneg hJ3]) h3
    · rw [if_neg h] at h3
      have hix : (x.toInt - lo9).toNat < offs.size := by omega
      have hof : offs[(x.toInt - lo9).toNat]? = some (offs.getD (x.toInt - lo9).toNat 0) := by
        simp [hix]
      have hnn : 0 ≤ (pc : Int) + offs.getD (x.toInt - lo9).toNat 0 := by
        have := List.all_eq_true.mp hJ2 (offs.getD (x.toInt - lo9).toNat 0) (by
          have h5 := Array.mem_of_getElem? hof
          exact Array.mem_toList_iff.mpr h5)
        exact of_decide_eq_true this
      exact lv_tableIn hx hb hdg (by omega) (by omega) hof (by rw [Int.toNat_of_nonneg hnn]) h3
  · rename_i d ps
    cases hv
    have hdg := chk_decS hD rfl
    obtain ⟨hJ1, hJ2⟩ := (Bool.and_eq_true _ _).mp (show (decide (0 ≤ (pc : Int) + d) && ps.toList.all (fun x => decide (0 ≤ (pc : Int) + x.2)) && (ps.toList.zip (ps.toList.drop 1)).all (fun (a, next) => a.1 < next.1)) = true from hJ)
    obtain ⟨hJ1, hJ3⟩ := (Bool.and_eq_true _ _).mp hJ1
    have hJ1 := of_decide_eq_true hJ1
    have hnn : 0 ≤ (pc : Int) + Op.lookupswitch.offset ps.toList d x.toInt := lsw_nn ps.toList hJ1 (fun q hq => of_decide_eq_true (List.all_eq_true.mp hJ3 q hq))
    exact ⟨hg, fun H locs ls hn hs hP' hS hl => lv_lookup hx hb hdg hJ2 rfl (by rw [Int.toNat_of_nonneg hnn]) (hP H locs ls hn hs hP' hS hl)⟩
  · cases hv
end SD
