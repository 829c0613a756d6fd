section SD
variable {p : Program} {l : Launch} {e : Env} {R : Room} {s : State} {m : MethodId} {args : Array Value} {below : List Frame} {meth : Method} {c : Code} {Q : State → Prop} {dC : Nat → ClassId} {dI : Nat → Nat → Nat} {Y : YC} {b base : Nat} {X : Scr} {o : Nat} {ini : Bool} {cc : ByteArray} {nL : Nat} {cd : Cd} {A : Nat → Prop} {n0 s0 : Nat} {w1 : Wd}
set_option maxHeartbeats 2000000 in
theorem s_bin (C : Ctx p R s m args meth c dC dI Y b base X o ini cc nL cd A n0 s0 w1) : RU_bin cd (PW p l e R s m args below meth c Q dC dI Y b base nL A n0 s0 w1) := by
  intro pc L st w ins nx a' b' c' z x y v hk hv h2
  obtain ⟨hg, hP⟩ := h2
  obtain ⟨hx, hb, hml, hown, hts, hK, hA, hAb, hN, hO, hini, ⟨fr, lo, rk, hchk, hfr, hlo⟩, hcl, hsl, hsz, hX⟩ := C
  have hD := (chk_at hchk hk).1
  unfold bin at hv
  split at hv
  · cases hv
    obtain ⟨hdg, rfl⟩ := chk_dec hD rfl
    exact ⟨hg, fun H locs ls hn hs hP' hS hl => lv_iadd hx hb hdg (hP H locs ls hn hs hP' hS hl)⟩
  · cases hv
    obtain ⟨hdg, rfl⟩ := chk_dec hD rfl
    exact ⟨hg, fun H locs ls hn hs hP' hS hl => lv_isub hx hb hdg (hP H locs ls hn hs hP' hS hl)⟩
  · cases hv
    obtain ⟨hdg, rfl⟩ := chk_dec hD rfl
    exact ⟨hg, fun H locs ls hn hs hP' hS hl => lv_imul hx hb hdg (hP H locs ls hn hs hP' hS hl)⟩
  · cases hv
    obtain ⟨hdg, rfl⟩ := chk_dec hD rfl
    exact ⟨hg, fun H locs ls hn hs hP' hS hl => lv_iand hx hb hdg (hP H locs ls hn hs hP' hS hl)⟩
  · cases hv
    obtain ⟨hdg, rfl⟩ := chk_dec hD rfl
    exact ⟨hg, fun H locs ls hn hs hP' hS hl => lv_ior hx hb hdg (hP H locs ls hn hs hP' hS hl)⟩
  · cases hv
    obtain ⟨hdg, rfl⟩ := chk_dec hD rfl
    exact ⟨hg, fun H locs ls hn hs hP' hS hl => lv_ixor hx hb hdg (hP H locs ls hn hs hP' hS hl)⟩
  · cases hv
    obtain ⟨hdg, rfl⟩ := chk_dec hD rfl
    exact ⟨hg, fun H locs ls hn hs hP' hS hl => lv_ishl hx hb hdg (hP H locs ls hn hs hP' hS hl)⟩
  · cases hv
    obtain ⟨hdg, rfl⟩ := chk_dec hD rfl
    exact ⟨hg, fun H locs ls hn hs hP' hS hl => lv_ishr hx hb hdg (hP H locs ls hn hs hP' hS hl)⟩
  · cases hv
    obtain ⟨hdg, rfl⟩ := chk_dec hD rfl
    exact ⟨hg, fun H locs ls hn hs hP' hS hl => lv_iushr hx hb hdg rfl (hP H locs ls hn hs hP' hS hl)⟩
  · cases hv
    obtain ⟨hdg, rfl⟩ := chk_dec hD rfl
    exact ⟨hg, fun H locs ls hn hs hP' hS hl => lv_ladd hx hb hdg (hP H locs ls hn hs hP' hS hl)⟩
  · cases hv
    obtain ⟨hdg, rfl⟩ := chk_dec hD rfl
    exact ⟨hg, fun H locs ls hn hs hP' hS hl => lv_lmul hx hb hdg (hP H locs ls hn hs hP' hS hl)⟩
  · cases hv
    obtain ⟨hdg, rfl⟩ := chk_dec hD rfl
    exact ⟨hg, fun H locs ls hn hs hP' hS hl => lv_lor hx hb hdg (hP H locs ls hn hs hP' hS hl)⟩
  · cases hv
    obtain ⟨hdg, rfl⟩ := chk_dec hD rfl
    exact ⟨hg, fun H locs ls hn hs hP' hS hl => lv_lshl hx hb hdg rfl (hP H locs ls hn hs hP' hS hl)⟩
  · cases hv
    obtain ⟨hdg, rfl⟩ := chk_dec hD rfl
    exact ⟨hg, fun H locs ls hn hs hP' hS hl => W.lcmp hx hb hdg (hP H locs ls hn hs hP' hS hl)⟩
  · cases hv
set_option maxHeartbeats 2000000 in
theorem s_div (C : Ctx p R s m args meth c dC dI Y b base X o ini cc nL cd A n0 s0 w1) : RU_div cd (PW p l e R s m args below meth c Q dC dI Y b base nL A n0 s0 w1) := by
  intro pc L st w ins nx a' b' c' z x y v hk hv hne h2
  obtain ⟨hg, hP⟩ := h2
  obtain ⟨hx, hb, hml, hown, hts, hK, hA, hAb, hN, hO, hini, ⟨fr, lo, rk, hchk, hfr, hlo⟩, hcl, hsl, hsz, hX⟩ := C
  have hD := (chk_at hchk hk).1
  unfold div at hv
  split at hv
  · cases hv
    obtain ⟨hdg, rfl⟩ := chk_dec hD rfl
    exact ⟨hg, fun H locs ls hn hs hP' hS hl => lv_idiv hx hb hdg hne (hP H locs ls hn hs hP' hS hl)⟩
  · cases hv
    obtain ⟨hdg, rfl⟩ := chk_dec hD rfl
    exact ⟨hg, fun H locs ls hn hs hP' hS hl => lv_irem hx hb hdg hne (hP H locs ls hn hs hP' hS hl)⟩
  · cases hv
set_option maxHeartbeats 2000000 in
theorem s_una (C : Ctx p R s m args meth c dC dI Y b base X o ini cc nL cd A n0 s0 w1) : RU_una cd (PW p l e R s m args below meth c Q dC dI Y b base nL A n0 s0 w1) := by
  intro pc L st w ins nx a' b' c' z x v hk hv h2
  obtain ⟨hg, hP⟩ := h2
  obtain ⟨hx, hb, hml, hown, hts, hK, hA, hAb, hN, hO, hini, ⟨fr, lo, rk, hchk, hfr, hlo⟩, hcl, hsl, hsz, hX⟩ := C
  have hD := (chk_at hchk hk).1
  unfold una at hv
  split at hv
  · cases hv
    obtain ⟨hdg, rfl⟩ := chk_dec hD rfl
    exact ⟨hg, fun H locs ls hn hs hP' hS hl => lv_ineg hx hb hdg (hP H locs ls hn hs hP' hS hl)⟩
  · cases hv
    obtain ⟨hdg, rfl⟩ := chk_dec hD rfl
    exact ⟨hg, fun H locs ls hn hs hP' hS hl => lv_i2l hx hb hdg rfl (hP H locs ls hn hs hP' hS hl)⟩
  · cases hv
    obtain ⟨hdg, rfl⟩ := chk_dec hD rfl
    exact ⟨hg, fun H locs ls hn hs hP' hS hl => lv_l2i hx hb hdg rfl (hP H locs ls hn hs hP' hS hl)⟩
  · cases hv
set_option maxHeartbeats 2000000 in
theorem s_cj (C : Ctx p R s m args meth c dC dI Y b base X o ini cc nL cd A n0 s0 w1) : RU_cj cd (PW p l e R s m args below meth c Q dC dI Y b base nL A n0 s0 w1) := by
  intro pc L st st' w ins nx a' b' c' z q hk hv ht hf
  have hg : w.1.length ≤ w1.1.length ∧ sl w ≤ sl w1 := by
    by_cases hq : q
    · exact (ht hq).1
    · exact (hf hq).1
  obtain ⟨hx, hb, hml, hown, hts, hK, hA, hAb, hN, hO, hini, ⟨fr, lo, rk, hchk, hfr, hlo⟩, hcl, hsl, hsz, hX⟩ := C
  obtain ⟨hD, hJ⟩ := chk_at hchk hk
  unfold cj at hv
  split at hv
  · cases hv
    obtain ⟨hdg, rfl⟩ := chk_dec hD rfl
    exact ⟨hg, fun H locs ls hn hs hP' hS hl => lv_icmp_eq hx hb hdg (of_decide_eq_true hJ) (fun h9 => (ht h9).2 H locs ls hn hs hP' hS hl) (fun h9 => (hf h9).2 H locs ls hn hs hP' hS hl)⟩
  · cases hv
    obtain ⟨hdg, rfl⟩ := chk_dec hD rfl
    exact ⟨hg, fun H locs ls hn hs hP' hS hl => lv_icmp_ne hx hb hdg (of_decide_eq_true hJ) (fun h9 => (ht h9).2 H locs ls hn hs hP' hS hl) (fun h9 => (hf (fun h8 => h8 h9)).2 H locs ls hn hs hP' hS hl)⟩
  · cases hv
    obtain ⟨hdg, rfl⟩ := chk_dec hD rfl
    exact ⟨hg, fun H locs ls hn hs hP' hS hl => lv_icmp_lt hx hb hdg (of_decide_eq_true hJ) (fun h9 => (ht h9).2 H locs ls hn hs hP' hS hl) (fun h9 => (hf h9).2 H locs ls hn hs hP' hS hl)⟩
  · cases hv
    obtain ⟨hdg, rfl⟩ := chk_dec hD rfl
    exact ⟨hg, fun H locs ls hn hs hP' hS hl => lv_icmp_ge hx hb hdg (of_decide_eq_true hJ) (fun h9 => (ht h9).2 H locs ls hn hs hP' hS hl) (fun h9 => (hf h9).2 H locs ls hn hs hP' hS hl)⟩
  · cases hv
    obtain ⟨hdg, rfl⟩ := chk_dec hD rfl
    exact ⟨hg, fun H locs ls hn hs hP' hS hl => lv_icmp_gt hx hb hdg (of_decide_eq_true hJ) (fun h9 => (ht h9).2 H locs ls hn hs hP' hS hl) (fun h9 => (hf h9).2 H locs ls hn hs hP' hS hl)⟩
  · cases hv
    obtain ⟨hdg, rfl⟩ := chk_dec hD rfl
    exact ⟨hg, fun H locs ls hn hs hP' hS hl => lv_icmp_le hx hb hdg (of_decide_eq_true hJ) (fun h9 => (ht h9).2 H locs ls hn hs hP' hS hl) (fun h9 => (hf h9).2 H locs ls hn hs hP' hS hl)⟩
  · cases hv
    obtain ⟨hdg, rfl⟩ := chk_dec hD rfl
    exact ⟨hg, fun H locs ls hn hs hP' hS hl => lv_if_eq hx hb hdg (of_decide_eq_true hJ) (fun h9 => (ht h9).2 H locs ls hn hs hP' hS hl) (fun h9 => (hf h9).2 H locs ls hn hs hP' hS hl)⟩
  · cases hv
    obtain ⟨hdg, rfl⟩ := chk_dec hD rfl
    exact ⟨hg, fun H locs ls hn hs hP' hS hl => lv_if_ne hx hb hdg (of_decide_eq_true hJ) (fun h9 => (ht h9).2 H locs ls hn hs hP' hS hl) (fun h9 => (hf (fun h8 => h8 h9)).2 H locs ls hn hs hP' hS hl)⟩
  · cases hv
    obtain ⟨hdg, rfl⟩ := chk_dec hD rfl
    exact ⟨hg, fun H locs ls hn hs hP' hS hl => lv_if_lt hx hb hdg (of_decide_eq_true hJ) (fun h9 => (ht h9).2 H locs ls hn hs hP' hS hl) (fun h9 => (hf h9).2 H locs ls hn hs hP' hS hl)⟩
  · cases hv
    obtain ⟨hdg, rfl⟩ := chk_dec hD rfl
    exact ⟨hg, fun H locs ls hn hs hP' hS hl => lv_if_ge hx hb hdg (of_decide_eq_true hJ) (fun h9 => (ht h9).2 H locs ls hn hs hP' hS hl) (fun h9 => (hf h9).2 H locs ls hn hs hP' hS hl)⟩
  · cases hv
    obtain ⟨hdg, rfl⟩ := chk_dec hD rfl
    exact ⟨hg, fun H locs ls hn hs hP' hS hl => lv_if_gt hx hb hdg (of_decide_eq_true hJ) (fun h9 => (ht h9).2 H locs ls hn hs hP' hS hl) (fun h9 => (hf h9).2 H locs ls hn hs hP' hS hl)⟩
  · cases hv
    obtain ⟨hdg, rfl⟩ := chk_dec hD rfl
    exact ⟨hg, fun H locs ls hn hs hP' hS hl => lv_if_le hx hb hdg (of_decide_eq_true hJ) (fun h9 => (ht h9).2 H locs ls hn hs hP' hS hl) (fun h9 => (hf h9).2 H locs ls hn hs hP' hS hl)⟩
  · cases hv
set_option maxHeartbeats 2000000 in
theorem s_nlj (C : Ctx p R s m args meth c dC dI Y b base X o ini cc nL cd A n0 s0 w1) : RU_nlj cd (PW p l e R s m args below meth c Q dC dI Y b base nL A n0 s0 w1) := by
  intro pc L st w ins nx a' b' c' z v t hk hv h2
  obtain ⟨hg, hP⟩ := h2
  obtain ⟨hx, hb, hml, hown, hts, hK, hA, hAb, hN, hO, hini, ⟨fr, lo, rk, hchk, hfr, hlo⟩, hcl, hsl, hsz, hX⟩ := C
  obtain ⟨hD, hJ⟩ := chk_at hchk hk
  unfold nlj at hv
  split at hv
  · cases hv
    obtain ⟨hdg, rfl⟩ := chk_dec hD rfl
    exact ⟨hg, fun H locs ls hn hs hP' hS hl => lv_ifnullN hx hb hdg (of_decide_eq_true hJ) (hP H locs ls hn hs hP' hS hl)⟩
  · cases hv
    obtain ⟨hdg, rfl⟩ := chk_dec hD rfl
    exact ⟨hg, fun H locs ls hn hs hP' hS hl => lv_ifnull hx hb hdg (hP H locs ls hn hs hP' hS hl)⟩
  · cases hv
    obtain ⟨hdg, rfl⟩ := chk_dec hD rfl
    exact ⟨hg, fun H locs ls hn hs hP' hS hl => lv_ifnonnullN hx hb hdg (hP H locs ls hn hs hP' hS hl)⟩
  · cases hv
    obtain ⟨hdg, rfl⟩ := chk_dec hD rfl
    exact ⟨hg, fun H locs ls hn hs hP' hS hl => lv_ifnonnull hx hb hdg (of_decide_eq_true hJ) (hP H locs ls hn hs hP' hS hl)⟩
  · cases hv
set_option maxHeartbeats 2000000 in
theorem s_go (C : Ctx p R s m args meth c dC dI Y b base X o ini cc nL cd A n0 s0 w1) : RU_go cd (PW p l e R s m args below meth c Q dC dI Y b base nL A n0 s0 w1) := by
  intro pc L st w off nx a' b' c' z hk h2
  obtain ⟨hg, hP⟩ := h2
  obtain ⟨hx, hb, hml, hown, hts, hK, hA, hAb, hN, hO, hini, ⟨fr, lo, rk, hchk, hfr, hlo⟩, hcl, hsl, hsz, hX⟩ := C
  obtain ⟨hD, hJ⟩ := chk_at hchk hk
  obtain ⟨hdg, rfl⟩ := chk_dec hD rfl
  exact ⟨hg, fun H locs ls hn hs hP' hS hl => lv_goto hx hb hdg (of_decide_eq_true hJ) (hP H locs ls hn hs hP' hS hl)⟩
set_option maxHeartbeats 2000000 in
theorem s_stk (C : Ctx p R s m args meth c dC dI Y b base X o ini cc nL cd A n0 s0 w1) : RU_stk cd (PW p l e R s m args below meth c Q dC dI Y b base nL A n0 s0 w1) := by
  intro pc L st st' w ins nx a' b' c' z hk hv h2
  obtain ⟨hg, hP⟩ := h2
  obtain ⟨hx, hb, hml, hown, hts, hK, hA, hAb, hN, hO, hini, ⟨fr, lo, rk, hchk, hfr, hlo⟩, hcl, hsl, hsz, hX⟩ := C
  have hD := (chk_at hchk hk).1
  unfold stk at hv
  split at hv
  · cases hv
    obtain ⟨hdg, rfl⟩ := chk_dec hD rfl
    exact ⟨hg, fun H locs ls hn hs hP' hS hl => lv_dup hx hb hdg rfl (hP H locs ls hn hs hP' hS hl)⟩
  · cases hv
    obtain ⟨hdg, rfl⟩ := chk_dec hD rfl
    exact ⟨hg, fun H locs ls hn hs hP' hS hl => lv_dup hx hb hdg rfl (hP H locs ls hn hs hP' hS hl)⟩
  · cases hv
    obtain ⟨hdg, rfl⟩ := chk_dec hD rfl
    exact ⟨hg, fun H locs ls hn hs hP' hS hl => lv_dup2_11 hx hb hdg rfl rfl (hP H locs ls hn hs hP' hS hl)⟩
  · cases hv
    obtain ⟨hdg, rfl⟩ := chk_dec hD rfl
    exact ⟨hg, fun H locs ls hn hs hP' hS hl => lv_dup2_11 hx hb hdg rfl rfl (hP H locs ls hn hs hP' hS hl)⟩
  · cases hv
    obtain ⟨hdg, rfl⟩ := chk_dec hD rfl
    exact ⟨hg, fun H locs ls hn hs hP' hS hl => lv_pop hx hb hdg rfl (hP H locs ls hn hs hP' hS hl)⟩
  · cases hv
    obtain ⟨hdg, rfl⟩ := chk_dec hD rfl
    exact ⟨hg, fun H locs ls hn hs hP' hS hl => lv_pop hx hb hdg rfl (hP H locs ls hn hs hP' hS hl)⟩
  · cases hv
set_option maxHeartbeats 2000000 in
theorem s_get (C : Ctx p R s m args meth c dC dI Y b base X o ini cc nL cd A n0 s0 w1) : RU_get cd (PW p l e R s m args below meth c Q dC dI Y b base nL A n0 s0 w1) := by
  intro pc L st sh M ML i f t n fs nx k b' c' z hk hsh hkn hft h2
  obtain ⟨hg, hP⟩ := h2
  obtain ⟨hx, hb, hml, hown, hts, hK, hA, hAb, hN, hO, hini, ⟨fr, lo, rk, hchk, hfr, hlo⟩, hcl, hsl, hsz, hX⟩ := C
  obtain ⟨hD, hJ⟩ := chk_at hchk hk
  obtain ⟨hdg, rfl⟩ := chk_dec hD rfl
  obtain ⟨hw, hkN, hc13⟩ := FL_ok o (f, k, b') (el3 hJ)
  have hkn := blt_lt hkn
  refine ⟨hg, fun H locs ls hn hs hP' hS hl => ?_⟩
  have hws := wsW_get (Y := Y) (b := b) (base := base) (w := (sh, M, ML)) hsh
  have hf9 : ((List.range n).map (fun j => cvF b base M (i + 1) j (fs.getD j none)))[k]? = some (cvF b base M (i + 1) k t) := by
    rw [List.getElem?_map, List.getElem?_range hkn]
    have : fs.getD k none = t := by rw [List.getD_eq_getElem?_getD, hft]; rfl
    rw [← this]; rfl
  have hP2 := hP H locs ls hn hs hP' hS hl
  rw [show ((fvl M (i + 1) k t :: st).map (cvV b base)) = cvF b base M (i + 1) k t :: st.map (cvV b base) from by rw [List.map_cons, cvV_fvl]] at hP2
  exact va_get (D := (dC, dI)) (ci := b') (C := cn b') (T := TT b') (N := NN b') hx hb hts (fun w hw => WSg_in (US_ok b' hc13 w hw).1 (US_ok b' hc13 w hw).2) hown hK hP' i hws (IC_ok b' hc13) k hkN (hts _ (WSg_in hw rfl)) (fun _ h9 => h9) hf9 hdg hP2
theorem fs_set {b base : Nat} {M : Nat → Nat → Int32} {a n k : Nat} {fs : List (Option (Option Nat))} {v : Int32} (hkn : k < n) (hft : fs[k]? = some none) :
    (List.range n).map (fun j => cvF b base (up2 M a k v) a j (fs.getD j none)) = ((List.range n).map (fun j => cvF b base M a j (fs.getD j none))).set k (.int v) := by
  apply List.ext_getElem?
  intro j
  by_cases hj : j = k
  · subst hj
    rw [List.getElem?_set_self (by simpa using hkn), List.getElem?_map, List.getElem?_range hkn]
    have : fs.getD j none = none := by rw [List.getD_eq_getElem?_getD, hft]; rfl
    simp only [Option.map_some, this, cvF, up2, if_pos]
  · rw [List.getElem?_set_ne (Ne.symm hj), List.getElem?_map, List.getElem?_map]
    by_cases hjn : j < n
    · rw [List.getElem?_range hjn]
      simp only [Option.map_some]
      cases fs.getD j none with
      | none => simp only [cvF, up2, if_pos, if_neg hj]
      | some r => rfl
    · rw [List.getElem?_eq_none (by simpa using hjn)]
      rfl
theorem fs_setr {b base : Nat} {M : Nat → Nat → Int32} {a n k r : Nat} {fs : List (Option (Option Nat))} {r0 : Option Nat} (hkn : k < n) (hft : fs[k]? = some (some r0)) :
    (List.range n).map (fun j => cvF b base M a j ((fs.set k (some (some r))).getD j none)) = ((List.range n).map (fun j => cvF b base M a j (fs.getD j none))).set k (.ref (cvA b base r)) := by
  apply List.ext_getElem?
  intro j
  by_cases hj : j = k
  · subst hj
    rw [List.getElem?_set_self (by simpa using hkn), List.getElem?_map, List.getElem?_range hkn]
    have hlt : j < fs.length := (List.getElem?_eq_some_iff.mp hft).1
    have : (fs.set j (some (some r))).getD j none = some (some r) := by rw [List.getD_eq_getElem?_getD, List.getElem?_set_self hlt]; rfl
    simp only [Option.map_some, this, cvF]
    rfl
  · rw [List.getElem?_set_ne (Ne.symm hj), List.getElem?_map, List.getElem?_map]
    by_cases hjn : j < n
    · rw [List.getElem?_range hjn]
      have : (fs.set k (some (some r))).getD j none = fs.getD j none := by rw [List.getD_eq_getElem?_getD, List.getD_eq_getElem?_getD, List.getElem?_set_ne (Ne.symm hj)]
      simp only [Option.map_some, this]
    · rw [List.getElem?_eq_none (by simpa using hjn)]
      rfl
set_option maxHeartbeats 2000000 in
theorem s_put (C : Ctx p R s m args meth c dC dI Y b base X o ini cc nL cd A n0 s0 w1) : RU_put cd zf (PW p l e R s m args below meth c Q dC dI Y b base nL A n0 s0 w1) := by
  intro pc L st sh M ML i f n fs nx k b' z v hk hsh hkn hft hbz h2
  obtain ⟨hg, hP⟩ := h2
  obtain ⟨hx, hb, hml, hown, hts, hK, hA, hAb, hN, hO, hini, ⟨fr, lo, rk, hchk, hfr, hlo⟩, hcl, hsl, hsz, hX⟩ := C
  obtain ⟨hD, hJ⟩ := chk_at hchk hk
  obtain ⟨hdg, rfl⟩ := chk_dec hD rfl
  obtain ⟨hJ1, hJ2⟩ := (Bool.and_eq_true _ _).mp (show ((FLl o).elem (f, k, b') && (decide (((TT b') k).2.2.2 = false) && Nat.blt (kd (tyT b' k)) 2)) = true from hJ)
  obtain ⟨hJ2, hJ3⟩ := (Bool.and_eq_true _ _).mp hJ2
  have hfin := of_decide_eq_true hJ2
  have hkd := blt_lt hJ3
  obtain ⟨hw, hkN, hc13⟩ := FL_ok o (f, k, b') (el3 hJ1)
  have hkn := blt_lt hkn
  refine ⟨hg, fun H locs ls hn hs hP' hS hl => ?_⟩
  have hws := wsW_get (Y := Y) (b := b) (base := base) (w := (sh, M, ML)) hsh
  have hzf := ((nf_ok b' hc13).2 k hkN).2.1
  have hty : narrow (tyT b' k) (.int v) = .int v ∧ fits (tyT b' k) (.int v) = true := by
    generalize tyT b' k = ty at hkd hzf
    cases ty <;> simp [kd] at hkd hzf
    · exact ⟨rfl, rfl⟩
    · rw [hzf] at hbz
      rcases hbz with h | h | h
      · cases h
      · subst h; exact ⟨by decide, by decide⟩
      · subst h; exact ⟨by decide, by decide⟩
  have hset : wsW Y b base (sh, up2 M (i + 1) k v, ML) = (wsW Y b base (sh, M, ML)).set i (base + i, .inr (b', ((List.range n).map (fun j => cvF b base M (i + 1) j (fs.getD j none))).set k (.int v))) := by
    rw [wsW_set (w := (sh, M, ML)) (w' := (sh, up2 M (i + 1) k v, ML)) (i := i) rfl hsh (fun j hj => cvE_M (up2_ne (by omega)) rfl _)]
    rw [← fs_set hkn hft]
    rfl
  refine va_put (D := (dC, dI)) (A := A) (ci := b') (C := cn b') (T := TT b') (N := NN b') hx hb hts (fun w hw => WSg_in (US_ok b' hc13 w hw).1 (US_ok b' hc13 w hw).2) (tyT b') (ty_ok b' hc13) (nm_ok b' hc13) hown hK hP' (wsW_D hAb) hS i hws (IC_ok b' hc13) k hkN (hts _ (WSg_in hw rfl)) (fun _ h9 => h9) hfin (ty_ok b' hc13 k hkN) hty.1 hty.2 (by simpa using hkn) hdg (fun H1 locs1 hP1 hD1 hS1 => ?_)
  have hP2 : va_P (dC, dI) ICl (wsW Y b base (sh, up2 M (i + 1) k v, ML)) H1 := by rw [hset]; exact hP1
  exact hP H1 locs1 ls hn hs hP2 hS1 hl
end SD
