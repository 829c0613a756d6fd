section SD
variable {p : Program} {l : Launch} {e : Env} {R : Room} {s : State} {m : MethodId} {args : Array Value} {below : List Frame} {meth : Method} {c : Code} {Q : State → Prop} {dC : Nat → ClassId} {dI : Nat → Nat → Nat} {Y : YC} {b base : Nat} {X : Scr} {o : Nat} {ini : Bool} {cc : ByteArray} {nL : Nat} {cd : Cd} {A : Nat → Prop} {n0 s0 : Nat} {w1 : Wd}
theorem sl_set {sh : List SC} {i t n : Nat} {fs fs' : List (Option (Option Nat))} {M M' : Nat → Nat → Int32} {ML ML' : Nat → Nat → Int64} (h : sh[i]? = some (t, n, fs)) : sl (sh.set i (t, n, fs'), M', ML') = sl (sh, M, ML) := by
  show ((sh.set i (t, n, fs')).map (fun c => c.2.1)).sum = (sh.map (fun c => c.2.1)).sum
  have e1 : (sh.set i (t, n, fs')).map (fun c : SC => c.2.1) = sh.map (fun c : SC => c.2.1) := by
    apply List.ext_getElem?
    intro j
    rw [List.getElem?_map, List.getElem?_map]
    by_cases hj : j = i
    · subst hj
      rw [List.getElem?_set_self (List.getElem?_eq_some_iff.mp h).1, h]
      rfl
    · rw [List.getElem?_set_ne (Ne.symm hj)]
  rw [e1]
theorem sl_push {sh : List SC} {t n : Nat} {fs : List (Option (Option Nat))} {M M' : Nat → Nat → Int32} {ML ML' : Nat → Nat → Int64} : sl (sh ++ [(t, n, fs)], M', ML') = sl (sh, M, ML) + n := by
  show ((sh ++ [(t, n, fs)]).map (fun c : SC => c.2.1)).sum = (sh.map (fun c : SC => c.2.1)).sum + n
  simp
set_option maxHeartbeats 2000000 in
theorem s_putr (C : Ctx p R s m args meth c dC dI Y b base X o ini cc nL cd A n0 s0 w1) : RU_putr cd (PW p l e R s m args below meth c Q dC dI Y b base nL A n0 s0 w1) := by
  intro pc L st sh M ML i f n fs nx k b' z r r0 hk hsh hkn hft h2
  obtain ⟨hg, hP⟩ := h2
  obtain ⟨hx, hb, hml, hown, hts, hK, hA, hAb, hN, hO, hini, ⟨fr, lo, rk, hchk, hfr, hlo⟩, hcl, hsl, hsz, hX⟩ := C
  obtain ⟨hD, hJ⟩ := chk_at hchk hk
  obtain ⟨hdg, rfl⟩ := chk_dec hD rfl
  obtain ⟨hJ1, hJ2⟩ := (Bool.and_eq_true _ _).mp (show ((FLl o).elem (f, k, b') && (ini && decide (((TT b') k).2.2.2 = true) && decide (((TT b') k).1 = cn o) && Nat.beq (kd (tyT b' k)) 2)) = true from hJ)
  obtain ⟨hJ2, hJ3⟩ := (Bool.and_eq_true _ _).mp hJ2
  obtain ⟨hJ2, hJ4⟩ := (Bool.and_eq_true _ _).mp hJ2
  obtain ⟨hJ2, hJ5⟩ := (Bool.and_eq_true _ _).mp hJ2
  have hfin := of_decide_eq_true hJ5
  have hdecl := of_decide_eq_true hJ4
  have hkd := Nat.eq_of_beq_eq_true hJ3
  obtain ⟨hw, hkN, hc13⟩ := FL_ok o (f, k, b') (el3 hJ1)
  have hkn := blt_lt hkn
  have hsl9 : sl (sh.set i (b' + 4, n, fs.set k (some (some r))), M, ML) = sl (sh, M, ML) := sl_set hsh
  have hlen9 : (sh.set i (b' + 4, n, fs.set k (some (some r)))).length = sh.length := by simp
  refine ⟨⟨by have := hg.1; rw [show (pc + ilen (.putfield f), L, st, sh.set i (b' + 4, n, fs.set k (some (some r))), M, ML).2.2.2.1.length = sh.length from hlen9] at this; exact this, by have := hg.2; rw [show sl (pc + ilen (.putfield f), L, st, sh.set i (b' + 4, n, fs.set k (some (some r))), M, ML).2.2.2 = sl (sh, M, ML) from hsl9] at this; exact this⟩, fun H locs ls hn hs hP' hS hl => ?_⟩
  have hws := wsW_get (Y := Y) (b := b) (base := base) (w := (sh, M, ML)) hsh
  have hty : narrow (tyT b' k) (.ref (cvA b base r)) = .ref (cvA b base r) ∧ fits (tyT b' k) (.ref (cvA b base r)) = true := by
    generalize tyT b' k = ty at hkd
    cases ty <;> simp [kd] at hkd
    · exact ⟨rfl, rfl⟩
    · exact ⟨rfl, rfl⟩
  have hil : i < sh.length := (List.getElem?_eq_some_iff.mp hsh).1
  have hset : wsW Y b base (sh.set i (b' + 4, n, fs.set k (some (some r))), M, ML) = (wsW Y b base (sh, M, ML)).set i (base + i, .inr (b', ((List.range n).map (fun j => cvF b base M (i + 1) j (fs.getD j none))).set k (.ref (cvA b base r)))) := by
    rw [wsW_set (w := (sh, M, ML)) (w' := (sh.set i (b' + 4, n, fs.set k (some (some r))), M, ML)) (i := i) (sc := (b' + 4, n, fs.set k (some (some r)))) (by simp) (List.getElem?_set_self hil) (fun j hj => by
      have : (sh.set i (b' + 4, n, fs.set k (some (some r)))).getD j (0, 0, []) = sh.getD j (0, 0, []) := by rw [List.getD_eq_getElem?_getD, List.getD_eq_getElem?_getD, List.getElem?_set_ne (Ne.symm hj)]
      simp only [this])]
    rw [← fs_setr hkn hft]
    rfl
  refine va_putF (D := (dC, dI)) (A := A) (ci := b') (C := cn b') (T := TT b') (N := NN b') hx hb hts (fun w hw => WSg_in (US_ok b' hc13 w hw).1 (US_ok b' hc13 w hw).2) (tyT b') (ty_ok b' hc13) (nm_ok b' hc13) hown hK hP' (wsW_D hAb) hS i hws (IC_ok b' hc13) k hkN (hts _ (WSg_in hw rfl)) (fun _ h9 => h9) hfin (hini hJ2) hdecl (ty_ok b' hc13 k hkN) hty.1 hty.2 (by simpa using hkn) hdg (fun H1 locs1 hP1 hD1 hS1 => ?_)
  have hP2 : va_P (dC, dI) ICl (wsW Y b base (sh.set i (b' + 4, n, fs.set k (some (some r))), M, ML)) H1 := by rw [hset]; exact hP1
  have h3 := hP H1 locs1 ls (by rw [show (pc + ilen (.putfield f), L, st, sh.set i (b' + 4, n, fs.set k (some (some r))), M, ML).2.2.2.1.length = sh.length from hlen9]; exact hn) (by rw [show sl (pc + ilen (.putfield f), L, st, sh.set i (b' + 4, n, fs.set k (some (some r))), M, ML).2.2.2 = sl (sh, M, ML) from hsl9]; exact hs) hP2 hS1 hl
  rw [show (pc + ilen (.putfield f), L, st, sh.set i (b' + 4, n, fs.set k (some (some r))), M, ML).2.2.2.1.length = sh.length from hlen9, show sl (pc + ilen (.putfield f), L, st, sh.set i (b' + 4, n, fs.set k (some (some r))), M, ML).2.2.2 = sl (sh, M, ML) from hsl9] at h3
  exact h3
set_option maxHeartbeats 2000000 in
theorem s_ald (C : Ctx p R s m args meth c dC dI Y b base X o ini cc nL cd A n0 s0 w1) : RU_ald cd (PW p l e R s m args below meth c Q dC dI Y b base nL A n0 s0 w1) := by
  intro pc L st sh M ML i ins t n fs nx a' b' c' z j v hk hsh hv hin h2
  obtain ⟨hg, hP⟩ := h2
  obtain ⟨hx, hb, hml, hown, hts, hK, hA, hAb, hN, hO, hini, ⟨fr, lo, rk, hchk, hfr, hlo⟩, hcl, hsl, hsz, hX⟩ := C
  obtain ⟨hD, hJ⟩ := chk_at hchk hk
  have hws := wsW_get (Y := Y) (b := b) (base := base) (w := (sh, M, ML)) hsh
  unfold aldv at hv
  split at hv
  · cases hv
    obtain ⟨hdg, rfl⟩ := chk_dec hD rfl
    exact ⟨hg, fun H locs ls hn hs hP' hS hl => va_iald (D := (dC, dI)) hx hb hK hP' i 0 hws rfl hin hdg (hP H locs ls hn hs hP' hS hl)⟩
  · cases hv
    obtain ⟨hdg, rfl⟩ := chk_dec hD rfl
    exact ⟨hg, fun H locs ls hn hs hP' hS hl => va_lald (D := (dC, dI)) hx hb hK hP' i 1 hws rfl hin hdg (hP H locs ls hn hs hP' hS hl)⟩
  · cases hv
    obtain ⟨hdg, rfl⟩ := chk_dec hD rfl
    exact ⟨hg, fun H locs ls hn hs hP' hS hl => va_zald (D := (dC, dI)) hx hb hK hP' i 2 hws rfl hin hdg (hP H locs ls hn hs hP' hS hl)⟩
  · cases hv
set_option maxHeartbeats 2000000 in
theorem s_alq (C : Ctx p R s m args meth c dC dI Y b base X o ini cc nL cd A n0 s0 w1) : RU_alq cd (PW p l e R s m args below meth c Q dC dI Y b base nL A n0 s0 w1) := by
  intro pc L st sh M ML i n fs nx a' b' c' z j v hk hsh hv hin h2
  obtain ⟨hg, hP⟩ := h2
  obtain ⟨hx, hb, hml, hown, hts, hK, hA, hAb, hN, hO, hini, ⟨fr, lo, rk, hchk, hfr, hlo⟩, hcl, hsl, hsz, hX⟩ := C
  obtain ⟨hD, hJ⟩ := chk_at hchk hk
  obtain ⟨hdg, rfl⟩ := chk_dec hD rfl
  have hws := wsW_get (Y := Y) (b := b) (base := base) (w := (sh, M, ML)) hsh
  subst hv
  refine ⟨hg, fun H locs ls hn hs hP' hS hl => ?_⟩
  have h3 := hP H locs ls hn hs hP' hS hl
  rw [show ((va_rf (fs.getD j.toNatClampNeg none).join :: st).map (cvV b base)) = va_rf ((fs.getD j.toNatClampNeg none).join.map (cvA b base)) :: st.map (cvV b base) from by
    rw [List.map_cons]
    cases (fs.getD j.toNatClampNeg none).join <;> rfl] at h3
  exact va_aldq (D := (dC, dI)) hx hb hK hP' i 3 hws rfl hin hdg h3
set_option maxHeartbeats 2000000 in
theorem s_scr (C : Ctx p R s m args meth c dC dI Y b base X o ini cc nL cd A n0 s0 w1) : RU_scr X cd (PW p l e R s m args below meth c Q dC dI Y b base nL A n0 s0 w1) := by
  intro pc L st w nx a' b' c' z j hk hX1 hin h2
  obtain ⟨hg, hP⟩ := h2
  obtain ⟨hx, hb, hml, hown, hts, hK, hA, hAb, hN, hO, hini, ⟨fr, lo, rk, hchk, hfr, hlo⟩, hcl, hsl, hsz, hX⟩ := C
  obtain ⟨hD, hJ⟩ := chk_at hchk hk
  obtain ⟨hdg, rfl⟩ := chk_dec hD rfl
  obtain ⟨hX2, hbl, hbA⟩ := hX hX1
  exact ⟨hg, fun H locs ls hn hs hP' hS hl => va_sld hx hb hX2 hbl hbA hS hin hdg (hP H locs ls hn hs hP' hS hl)⟩
set_option maxHeartbeats 2000000 in
theorem s_scl (C : Ctx p R s m args meth c dC dI Y b base X o ini cc nL cd A n0 s0 w1) : RU_scl X cd (PW p l e R s m args below meth c Q dC dI Y b base nL A n0 s0 w1) := by
  intro pc L st w nx a' b' c' z hk hX1 h2
  obtain ⟨hg, hP⟩ := h2
  obtain ⟨hx, hb, hml, hown, hts, hK, hA, hAb, hN, hO, hini, ⟨fr, lo, rk, hchk, hfr, hlo⟩, hcl, hsl, hsz, hX⟩ := C
  obtain ⟨hD, hJ⟩ := chk_at hchk hk
  obtain ⟨hdg, rfl⟩ := chk_dec hD rfl
  obtain ⟨hX2, hbl, hbA⟩ := hX hX1
  exact ⟨hg, fun H locs ls hn hs hP' hS hl => va_slen hx hb hX2 hbl hbA hS hdg (hP H locs ls hn hs hP' hS hl)⟩
set_option maxHeartbeats 2000000 in
theorem s_ast (C : Ctx p R s m args meth c dC dI Y b base X o ini cc nL cd A n0 s0 w1) : RU_ast cd (PW p l e R s m args below meth c Q dC dI Y b base nL A n0 s0 w1) := by
  intro pc L st sh M ML i ins t n fs nx a' b' c' z j v MM hk hsh hv hin h2
  obtain ⟨hg, hP⟩ := h2
  obtain ⟨hx, hb, hml, hown, hts, hK, hA, hAb, hN, hO, hini, ⟨fr, lo, rk, hchk, hfr, hlo⟩, hcl, hsl, hsz, hX⟩ := C
  obtain ⟨hD, hJ⟩ := chk_at hchk hk
  have hws := wsW_get (Y := Y) (b := b) (base := base) (w := (sh, M, ML)) hsh
  unfold astv at hv
  split at hv
  · rename_i x9
    cases hv
    obtain ⟨hdg, rfl⟩ := chk_dec hD rfl
    have hset : wsW Y b base (sh, up2 M (i + 1) j.toNatClampNeg x9, ML) = (wsW Y b base (sh, M, ML)).set i (base + i, .inl (Y.1, n, .inl (upd (M (i + 1)) j.toNatClampNeg x9))) := by
      rw [wsW_set (w := (sh, M, ML)) (w' := (sh, up2 M (i + 1) j.toNatClampNeg x9, ML)) (i := i) rfl hsh (fun j hj => cvE_M (up2_ne (by omega)) rfl _)]
      simp only [cvE, up2_eq]
    refine ⟨hg, fun H locs ls hn hs hP' hS hl => ?_⟩
    refine va_iast (D := (dC, dI)) (A := A) hx hb hK hP' (wsW_D hAb) hS i 0 hws rfl hin hdg (fun H1 locs1 hP1 hD1 hS1 => ?_)
    have hP2 : va_P (dC, dI) ICl (wsW Y b base (sh, up2 M (i + 1) j.toNatClampNeg x9, ML)) H1 := by rw [hset]; exact hP1
    exact hP H1 locs1 ls hn hs hP2 hS1 hl
  · rename_i x9
    cases hv
    obtain ⟨hdg, rfl⟩ := chk_dec hD rfl
    have hset : wsW Y b base (sh, up2 M (i + 1) j.toNatClampNeg (vp_nar .boolean x9), ML) = (wsW Y b base (sh, M, ML)).set i (base + i, .inl (Y.2.2.1, n, .inl (upd (M (i + 1)) j.toNatClampNeg (vp_nar .boolean x9)))) := by
      rw [wsW_set (w := (sh, M, ML)) (w' := (sh, up2 M (i + 1) j.toNatClampNeg (vp_nar .boolean x9), ML)) (i := i) rfl hsh (fun j hj => cvE_M (up2_ne (by omega)) rfl _)]
      simp only [cvE, up2_eq]
    refine ⟨hg, fun H locs ls hn hs hP' hS hl => ?_⟩
    refine va_zast (D := (dC, dI)) (A := A) hx hb hK hP' (wsW_D hAb) hS i 2 hws rfl hin hdg (fun H1 locs1 hP1 hD1 hS1 => ?_)
    have hP2 : va_P (dC, dI) ICl (wsW Y b base (sh, up2 M (i + 1) j.toNatClampNeg (vp_nar .boolean x9), ML)) H1 := by rw [hset]; exact hP1
    exact hP H1 locs1 ls hn hs hP2 hS1 hl
  · rename_i x9
    cases hv
    obtain ⟨hdg, rfl⟩ := chk_dec hD rfl
    have hset : wsW Y b base (sh, M, up2L ML (i + 1) j.toNatClampNeg x9) = (wsW Y b base (sh, M, ML)).set i (base + i, .inl (Y.2.1, n, .inr (.inl (vp_updL (ML (i + 1)) j.toNatClampNeg x9)))) := by
      rw [wsW_set (w := (sh, M, ML)) (w' := (sh, M, up2L ML (i + 1) j.toNatClampNeg x9)) (i := i) rfl hsh (fun j hj => cvE_M rfl (up2L_ne (by omega)) _)]
      simp only [cvE, up2L_eq]
    refine ⟨hg, fun H locs ls hn hs hP' hS hl => ?_⟩
    refine va_last (D := (dC, dI)) (A := A) hx hb hK hP' (wsW_D hAb) hS i 1 hws rfl hin hdg (fun H1 locs1 hP1 hD1 hS1 => ?_)
    have hP2 : va_P (dC, dI) ICl (wsW Y b base (sh, M, up2L ML (i + 1) j.toNatClampNeg x9)) H1 := by rw [hset]; exact hP1
    exact hP H1 locs1 ls hn hs hP2 hS1 hl
  · cases hv
set_option maxHeartbeats 2000000 in
theorem s_asq (C : Ctx p R s m args meth c dC dI Y b base X o ini cc nL cd A n0 s0 w1) : RU_asq cd (PW p l e R s m args below meth c Q dC dI Y b base nL A n0 s0 w1) := by
  intro pc L st sh M ML i n fs nx a' b' c' z j r n3 f3 hk hsh hr hjl hin h2
  obtain ⟨hg, hP⟩ := h2
  obtain ⟨hx, hb, hml, hown, hts, hK, hA, hAb, hN, hO, hini, ⟨fr, lo, rk, hchk, hfr, hlo⟩, hcl, hsl, hsz, hX⟩ := C
  obtain ⟨hD, hJ⟩ := chk_at hchk hk
  obtain ⟨hdg, rfl⟩ := chk_dec hD rfl
  have hws := wsW_get (Y := Y) (b := b) (base := base) (w := (sh, M, ML)) hsh
  have hwr := wsW_get (Y := Y) (b := b) (base := base) (w := (sh, M, ML)) hr
  have hil : i < sh.length := (List.getElem?_eq_some_iff.mp hsh).1
  have hset : wsW Y b base (sh.set i (3, n, fs.set j.toNatClampNeg (some (some (r + 1)))), M, ML) = (wsW Y b base (sh, M, ML)).set i (base + i, .inl (Y.2.2.2, n, .inr (.inr (.inr (.inr (va_up (fun j => ((fs.getD j none).join).map (cvA b base)) j.toNatClampNeg (some (base + r)))))))) := by
    rw [wsW_set (w := (sh, M, ML)) (w' := (sh.set i (3, n, fs.set j.toNatClampNeg (some (some (r + 1)))), M, ML)) (i := i) (sc := (3, n, fs.set j.toNatClampNeg (some (some (r + 1))))) (by simp) (List.getElem?_set_self hil) (fun j2 hj => by
      have : (sh.set i (3, n, fs.set j.toNatClampNeg (some (some (r + 1))))).getD j2 (0, 0, []) = sh.getD j2 (0, 0, []) := by rw [List.getD_eq_getElem?_getD, List.getD_eq_getElem?_getD, List.getElem?_set_ne (Ne.symm hj)]
      simp only [this])]
    simp only [cvE]
    congr 9
    funext j2
    by_cases hj2 : j2 = j.toNatClampNeg
    · subst hj2
      rw [List.getD_eq_getElem?_getD, List.getElem?_set_self hjl]
      simp [va_up, cvA]
    · rw [List.getD_eq_getElem?_getD, List.getElem?_set_ne (Ne.symm hj2), ← List.getD_eq_getElem?_getD]
      simp [va_up, hj2]
  have hsl9 : sl (sh.set i (3, n, fs.set j.toNatClampNeg (some (some (r + 1)))), M, ML) = sl (sh, M, ML) := sl_set hsh
  have hlen9 : (sh.set i (3, n, fs.set j.toNatClampNeg (some (some (r + 1))))).length = sh.length := by simp
  refine ⟨⟨by have := hg.1; rw [show (pc + ilen .aastore, L, st, sh.set i (3, n, fs.set j.toNatClampNeg (some (some (r + 1)))), M, ML).2.2.2.1.length = sh.length from hlen9] at this; exact this, by have := hg.2; rw [show sl (pc + ilen .aastore, L, st, sh.set i (3, n, fs.set j.toNatClampNeg (some (some (r + 1)))), M, ML).2.2.2 = sl (sh, M, ML) from hsl9] at this; exact this⟩, fun H locs ls hn hs hP' hS hl => ?_⟩
  refine va_astq (D := (dC, dI)) (A := A) hx hb hK hP' (wsW_D hAb) hS i 3 r 3 (r := (cn 3, TT 3, NN 3)) hws rfl hwr rfl hin hdg (fun H1 locs1 hP1 hD1 hS1 => ?_)
  have hP2 : va_P (dC, dI) ICl (wsW Y b base (sh.set i (3, n, fs.set j.toNatClampNeg (some (some (r + 1)))), M, ML)) H1 := by rw [hset]; exact hP1
  have h3 := hP H1 locs1 ls (by rw [show (pc + ilen .aastore, L, st, sh.set i (3, n, fs.set j.toNatClampNeg (some (some (r + 1)))), M, ML).2.2.2.1.length = sh.length from hlen9]; exact hn) (by rw [show sl (pc + ilen .aastore, L, st, sh.set i (3, n, fs.set j.toNatClampNeg (some (some (r + 1)))), M, ML).2.2.2 = sl (sh, M, ML) from hsl9]; exact hs) hP2 hS1 hl
  rw [show (pc + ilen .aastore, L, st, sh.set i (3, n, fs.set j.toNatClampNeg (some (some (r + 1)))), M, ML).2.2.2.1.length = sh.length from hlen9, show sl (pc + ilen .aastore, L, st, sh.set i (3, n, fs.set j.toNatClampNeg (some (some (r + 1)))), M, ML).2.2.2 = sl (sh, M, ML) from hsl9] at h3
  exact h3
set_option maxHeartbeats 2000000 in
theorem s_len (C : Ctx p R s m args meth c dC dI Y b base X o ini cc nL cd A n0 s0 w1) : RU_len cd (PW p l e R s m args below meth c Q dC dI Y b base nL A n0 s0 w1) := by
  intro pc L st sh M ML i t n fs nx a' b' c' z hk hsh ht h2
  obtain ⟨hg, hP⟩ := h2
  obtain ⟨hx, hb, hml, hown, hts, hK, hA, hAb, hN, hO, hini, ⟨fr, lo, rk, hchk, hfr, hlo⟩, hcl, hsl, hsz, hX⟩ := C
  obtain ⟨hD, hJ⟩ := chk_at hchk hk
  obtain ⟨hdg, rfl⟩ := chk_dec hD rfl
  have hws := wsW_get (Y := Y) (b := b) (base := base) (w := (sh, M, ML)) hsh
  have ht := blt_lt ht
  refine ⟨hg, fun H locs ls hn hs hP' hS hl => ?_⟩
  have h3 := hP H locs ls hn hs hP' hS hl
  match t, ht, hws with
  | 0, _, hws => exact va_alen (D := (dC, dI)) hx hb hK hP' i 0 hws rfl rfl hdg h3
  | 1, _, hws => exact va_alen (D := (dC, dI)) hx hb hK hP' i 1 hws rfl rfl hdg h3
  | 2, _, hws => exact va_alen (D := (dC, dI)) hx hb hK hP' i 2 hws rfl rfl hdg h3
  | 3, _, hws => exact va_alen (D := (dC, dI)) hx hb hK hP' i 3 hws rfl rfl hdg h3
set_option maxHeartbeats 2000000 in
theorem s_oin (C : Ctx p R s m args meth c dC dI Y b base X o ini cc nL cd A n0 s0 w1) : RU_oin cd (PW p l e R s m args below meth c Q dC dI Y b base nL A n0 s0 w1) := by
  intro pc L st w i nx b' c' z r hk hcat h2
  obtain ⟨hg, hP⟩ := h2
  obtain ⟨hx, hb, hml, hown, hts, hK, hA, hAb, hN, hO, hini, ⟨fr, lo, rk, hchk, hfr, hlo⟩, hcl, hsl, hsz, hX⟩ := C
  obtain ⟨hD, hJ⟩ := chk_at hchk hk
  obtain ⟨hdg, rfl⟩ := chk_dec hD rfl
  obtain ⟨hJ1, hJ2⟩ := (Bool.and_eq_true _ _).mp (show (Nat.blt 0 fr && Nat.ble 20 lo && (OLl o).elem i) = true from hJ)
  obtain ⟨hJ1, hJ3⟩ := (Bool.and_eq_true _ _).mp hJ1
  have h1 := blt_lt hJ1
  have h3 := Nat.le_of_ble_eq_true hJ3
  have hw := OL_ok o i (el1 hJ2)
  have hcat2 : ((st.map (cvV b base)).map fun v => v.category).sum = (st.map fun v => v.category).sum := by
    rw [List.map_map]
    congr 1
    exact List.map_congr_left (fun v _ => cvV_cat b base v)
  refine ⟨hg, fun H locs ls hn hs hP' hS hl => ?_⟩
  exact W.objInit hx hb hown (hts _ (WSg_in hw rfl)) (hts _ (WSg_in OB_in rfl)) (hts _ (WSg_in OB_code rfl)) rfl (hl.1.trans hml.symm) rfl hdg (by omega) (by rw [hcat2]; show 2 * 0 + _ + 12 ≤ _; omega) (hP H locs ls hn hs hP' hS hl)
set_option maxHeartbeats 2000000 in
theorem s_mm (C : Ctx p R s m args meth c dC dI Y b base X o ini cc nL cd A n0 s0 w1) : RU_mm cd (PW p l e R s m args below meth c Q dC dI Y b base nL A n0 s0 w1) := by
  intro pc L st w i nx k b' c' z x y v hk hv hcat h2
  obtain ⟨hg, hP⟩ := h2
  obtain ⟨hx, hb, hml, hown, hts, hK, hA, hAb, hN, hO, hini, ⟨fr, lo, rk, hchk, hfr, hlo⟩, hcl, hsl, hsz, hX⟩ := C
  obtain ⟨hD, hJ⟩ := chk_at hchk hk
  obtain ⟨hdg, rfl⟩ := chk_dec hD rfl
  have hk9 : 900 < k := by
    unfold mmx at hv
    split at hv
    · omega
    · omega
    · cases hv
  have hkb : Nat.blt 900 k = true := Nat.ble_eq_true_of_le hk9
  have hJ' : (bif Nat.blt 900 k then Nat.blt 0 fr && Nat.ble 21 lo && (MXl o).elem (i, k) else chkI o fr lo i k b' c' 0) = true := hJ
  rw [hkb, cond_true] at hJ'
  obtain ⟨hJ1, hJ2⟩ := (Bool.and_eq_true _ _).mp hJ'
  obtain ⟨hJ1, hJ3⟩ := (Bool.and_eq_true _ _).mp hJ1
  have h1 := blt_lt hJ1
  have h3 := Nat.le_of_ble_eq_true hJ3
  have hcat2 : ((st.map (cvV b base)).map fun v => v.category).sum = (st.map fun v => v.category).sum := by
    rw [List.map_map]
    congr 1
    exact List.map_congr_left (fun v _ => cvV_cat b base v)
  have hgl := hg.1
  have hgs := hg.2
  rcases MX_ok o (i, k) (el2 hJ2) with ⟨rfl, hw⟩ | ⟨rfl, hw⟩
  · cases hv
    exact ⟨hg, fun H locs ls hn hs hP' hS hl => va_mmax hx hb (hml.trans hl.1.symm) hown (hts _ (WSg_in hw rfl)) (hts _ (WSg_in MM_max.1 rfl)) (hts _ (WSg_in MM_max.2.1 rfl)) (hts _ (WSg_in MM_max.2.2 rfl)) (by omega) (by rw [hcat2]; omega) (Nat.le_trans (Nat.sub_le_sub_right hgl n0) hcl) (Nat.le_trans (Nat.sub_le_sub_right hgs s0) hsl) hdg (hP H locs ls hn hs hP' hS hl)⟩
  · cases hv
    exact ⟨hg, fun H locs ls hn hs hP' hS hl => va_mmin hx hb (hml.trans hl.1.symm) hown (hts _ (WSg_in hw rfl)) (hts _ (WSg_in MM_min.1 rfl)) (hts _ (WSg_in MM_min.2.1 rfl)) (hts _ (WSg_in MM_min.2.2 rfl)) (by omega) (by rw [hcat2]; omega) (Nat.le_trans (Nat.sub_le_sub_right hgl n0) hcl) (Nat.le_trans (Nat.sub_le_sub_right hgs s0) hsl) hdg (hP H locs ls hn hs hP' hS hl)⟩
theorem s_sub : RU_sub (PW p l e R s m args below meth c Q dC dI Y b base nL A n0 s0 w1) := by
  intro pc L L' st w hsub h2
  obtain ⟨hg, hP⟩ := h2
  refine ⟨hg, fun H locs ls hn hs hP' hS hl => hP H locs ls hn hs hP' hS (lv_weak hl fun q hq => ?_)⟩
  obtain ⟨x, hx, rfl⟩ := List.mem_map.mp hq
  exact List.mem_map.mpr ⟨x, hsub x hx, rfl⟩
end SD
