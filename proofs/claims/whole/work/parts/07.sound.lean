/-! ===== every rule of the small machine is a step of the machine ===== -/
def Ctx (p : Program) (R : Room) (s : State) (m : MethodId) (args : Array Value) (meth : Method) (c : Code) (dC : Nat → ClassId) (dI : Nat → Nat → Nat) (Y : YC) (b base : Nat) (X : Scr) (o : Nat) (ini : Bool) (cc : ByteArray) (nL : Nat) (cd : Cd) (A : Nat → Prop) (n0 s0 : Nat) (w1 : Wd) : Prop :=
  p.tables.exec = Jvm.exec ∧ c.code = cc ∧ c.maxLocals = nL ∧ s.vm.findClass (cn o) = some m.cls ∧ (∀ w ∈ WSg, w.before args s = true) ∧ va_K (dC, dI) ICl (tysY Y) s ∧ (∀ q, s.heap.size ≤ q → A q) ∧ (∀ i, A (base + i)) ∧
  (∀ q ∈ NSTl, va_Nw (.methodLinkNest q.1 q.2.1 q.2.2.1 q.2.2.2) s) ∧ va_AO "ArrowTurner$Holder" s ∧ (ini = true → meth.name = "<init>") ∧ (∃ fr lo rk, chk o ini rk cc nL fr lo cd = true ∧ fr ≤ R.frames ∧ lo ≤ R.locals) ∧ w1.1.length - n0 ≤ R.cells ∧ sl w1 - s0 ≤ R.slots ∧ (s.heap.size = base + n0 ∧ ∀ q, A q → base ≤ q) ∧
  (X.1 = true → va_X b X.2.1 X.2.2 s s.heap ∧ b < s.heap.size ∧ ¬ A b)
def PW (p : Program) (l : Launch) (e : Env) (R : Room) (s : State) (m : MethodId) (args : Array Value) (below : List Frame) (meth : Method) (c : Code) (Q : State → Prop) (dC : Nat → ClassId) (dI : Nat → Nat → Nat) (Y : YC) (b base nL : Nat) (A : Nat → Prop) (n0 s0 : Nat) (w1 : Wd) (st : St) : Prop :=
  (st.2.2.2.1.length ≤ w1.1.length ∧ sl st.2.2.2 ≤ sl w1) ∧ ∀ (H : Heap) (locs : List Loc) (ls : Array Slot), n0 ≤ st.2.2.2.1.length → s0 ≤ sl st.2.2.2 → va_P (dC, dI) ICl (wsW Y b base st.2.2.2) H → va_S A s.heap H locs → lv_has ls nL (cvL b base st.2.1) →
    W p l e R s m args below meth c H locs (st.2.2.2.1.length - n0) (sl st.2.2.2 - s0) Q (F0 m st.1 ls (st.2.2.1.map (cvV b base)))
theorem chk_at {o : Nat} {ini : Bool} {cc : ByteArray} {rk nL fr lo : Nat} {cd : Cd} {pc : Nat} {e : Ent} (h : chk o ini rk cc nL fr lo cd = true) (hk : lk cd pc = some e) : chkD cc pc e = true ∧ chkJ o ini rk nL fr lo pc e = true := by
  have h1 := List.all_eq_true.mp h _ (lk_mem hk)
  exact (Bool.and_eq_true _ _).mp h1
theorem chk_dec {cc : ByteArray} {pc : Nat} {ins : Instr} {nx : Nat} {r : Nat × Nat × Nat × Int} (h : chkD cc pc (ins, nx, r) = true) (hs : isSw ins = false) : decode cc pc = .ok (ins, ilen ins) ∧ nx = pc + ilen ins := by
  unfold chkD at h
  dsimp only at h
  rw [hs, cond_false, Bool.and_eq_true, decide_eq_true_eq] at h
  exact ⟨h.1, Nat.eq_of_beq_eq_true h.2⟩
theorem chk_decS {cc : ByteArray} {pc : Nat} {ins : Instr} {nx : Nat} {r : Nat × Nat × Nat × Int} (h : chkD cc pc (ins, nx, r) = true) (hs : isSw ins = true) : decode cc pc = .ok (ins, nx - pc) := by
  unfold chkD at h
  dsimp only at h
  rw [hs, cond_true, decide_eq_true_eq] at h
  exact h
theorem el3 {l : List (Nat × Nat × Nat)} {q : Nat × Nat × Nat} (h : l.elem q = true) : q ∈ l := by simpa using h
theorem el2 {l : List (Nat × Nat)} {q : Nat × Nat} (h : l.elem q = true) : q ∈ l := by simpa using h
theorem eli {l : List (Nat × Int)} {q : Nat × Int} (h : l.elem q = true) : q ∈ l := by simpa using h
theorem el1 {l : List Nat} {q : Nat} (h : l.elem q = true) : q ∈ l := by simpa using h
theorem blt_lt {a b : Nat} (h : Nat.blt a b = true) : a < b := Nat.le_of_ble_eq_true h
section SD
variable {p : Program} {l : Launch} {e : Env} {R : Room} {s : State} {m : MethodId} {args : Array Value} {below : List Frame} {meth : Method} {c : Code} {Q : State → Prop} {dC : Nat → ClassId} {dI : Nat → Nat → Nat} {Y : YC} {b base : Nat} {X : Scr} {o : Nat} {ini : Bool} {cc : ByteArray} {nL : Nat} {cd : Cd} {A : Nat → Prop} {n0 s0 : Nat} {w1 : Wd}
set_option maxHeartbeats 2000000 in
theorem s_ld (C : Ctx p R s m args meth c dC dI Y b base X o ini cc nL cd A n0 s0 w1) : RU_ld cd (PW p l e R s m args below meth c Q dC dI Y b base nL A n0 s0 w1) := by
  intro pc L st w ins nx a' b' c' z v hk hv h2
  obtain ⟨hg, hP⟩ := h2
  obtain ⟨hx, hb, hml, hown, hts, hK, hA, hAb, hN, hO, hini, ⟨fr, lo, rk, hchk, hfr, hlo⟩, hcl, hsl, hsz, hX⟩ := C
  have hD := (chk_at hchk hk).1
  unfold ldv at hv
  split at hv
  · split at hv
    · cases hv
      obtain ⟨hdg, rfl⟩ := chk_dec hD rfl
      rename_i hl0
      exact ⟨hg, fun H locs ls hn hs hP' hS hl => lv_iload_n hx hb hdg rfl (lv_val hl hl0) (hP H locs ls hn hs hP' hS hl)⟩
    · cases hv
  · split at hv
    · cases hv
      obtain ⟨hdg, rfl⟩ := chk_dec hD rfl
      rename_i hl0
      exact ⟨hg, fun H locs ls hn hs hP' hS hl => lv_iload hx hb hdg (lv_val hl hl0) (hP H locs ls hn hs hP' hS hl)⟩
    · cases hv
  · split at hv
    · cases hv
      obtain ⟨hdg, rfl⟩ := chk_dec hD rfl
      rename_i hl0
      exact ⟨hg, fun H locs ls hn hs hP' hS hl => lv_lload_n hx hb hdg rfl (lv_val hl hl0) (hP H locs ls hn hs hP' hS hl)⟩
    · cases hv
  · split at hv
    · cases hv
      obtain ⟨hdg, rfl⟩ := chk_dec hD rfl
      rename_i hl0
      exact ⟨hg, fun H locs ls hn hs hP' hS hl => lv_lload hx hb hdg (lv_val hl hl0) (hP H locs ls hn hs hP' hS hl)⟩
    · cases hv
  · split at hv
    · cases hv
      obtain ⟨hdg, rfl⟩ := chk_dec hD rfl
      rename_i hl0
      exact ⟨hg, fun H locs ls hn hs hP' hS hl => lv_aload_n hx hb hdg rfl (lv_val hl hl0) (hP H locs ls hn hs hP' hS hl)⟩
    · cases hv
      obtain ⟨hdg, rfl⟩ := chk_dec hD rfl
      rename_i hl0
      exact ⟨hg, fun H locs ls hn hs hP' hS hl => lv_aload_nN hx hb hdg rfl (lv_val hl hl0) (hP H locs ls hn hs hP' hS hl)⟩
    · cases hv
  · split at hv
    · cases hv
      obtain ⟨hdg, rfl⟩ := chk_dec hD rfl
      rename_i hl0
      exact ⟨hg, fun H locs ls hn hs hP' hS hl => lv_aload hx hb hdg (lv_val hl hl0) (hP H locs ls hn hs hP' hS hl)⟩
    · cases hv
      obtain ⟨hdg, rfl⟩ := chk_dec hD rfl
      rename_i hl0
      exact ⟨hg, fun H locs ls hn hs hP' hS hl => lv_aloadN hx hb hdg (lv_val hl hl0) (hP H locs ls hn hs hP' hS hl)⟩
    · cases hv
  · cases hv
set_option maxHeartbeats 2000000 in
theorem s_cst (C : Ctx p R s m args meth c dC dI Y b base X o ini cc nL cd A n0 s0 w1) : RU_cst cd (PW p l e R s m args below meth c Q dC dI Y b base nL A n0 s0 w1) := by
  intro pc L st w ins nx a' b' c' z v hk hv h2
  obtain ⟨hg, hP⟩ := h2
  obtain ⟨hx, hb, hml, hown, hts, hK, hA, hAb, hN, hO, hini, ⟨fr, lo, rk, hchk, hfr, hlo⟩, hcl, hsl, hsz, hX⟩ := C
  have hD := (chk_at hchk hk).1
  unfold cst at hv
  split at hv
  · cases hv
    obtain ⟨hdg, rfl⟩ := chk_dec hD rfl
    exact ⟨hg, fun H locs ls hn hs hP' hS hl => lv_iconst hx hb hdg rfl (hP H locs ls hn hs hP' hS hl)⟩
  · cases hv
    obtain ⟨hdg, rfl⟩ := chk_dec hD rfl
    exact ⟨hg, fun H locs ls hn hs hP' hS hl => lv_bipush hx hb hdg rfl (hP H locs ls hn hs hP' hS hl)⟩
  · cases hv
    obtain ⟨hdg, rfl⟩ := chk_dec hD rfl
    exact ⟨hg, fun H locs ls hn hs hP' hS hl => lv_sipush hx hb hdg rfl (hP H locs ls hn hs hP' hS hl)⟩
  · cases hv
    obtain ⟨hdg, rfl⟩ := chk_dec hD rfl
    exact ⟨hg, fun H locs ls hn hs hP' hS hl => lv_lconst hx hb hdg rfl (hP H locs ls hn hs hP' hS hl)⟩
  · cases hv
    obtain ⟨hdg, rfl⟩ := chk_dec hD rfl
    exact ⟨hg, fun H locs ls hn hs hP' hS hl => lv_null hx hb hdg (hP H locs ls hn hs hP' hS hl)⟩
  · cases hv
theorem s_ldc (C : Ctx p R s m args meth c dC dI Y b base X o ini cc nL cd A n0 s0 w1) : RU_ldc cd (PW p l e R s m args below meth c Q dC dI Y b base nL A n0 s0 w1) := by
  intro pc L st w i nx a' b' c' z hk h2
  obtain ⟨hg, hP⟩ := h2
  obtain ⟨hx, hb, hml, hown, hts, hK, hA, hAb, hN, hO, hini, ⟨fr, lo, rk, hchk, hfr, hlo⟩, hcl, hsl, hsz, hX⟩ := C
  rcases hk with hk | hk
  · obtain ⟨hD, hJ⟩ := chk_at hchk hk
    obtain ⟨hdg, rfl⟩ := chk_dec hD rfl
    have hw := KL_ok o (i, z) (eli hJ)
    exact ⟨hg, fun H locs ls hn hs hP' hS hl => lv_ldc hx hb hown (hts _ (WSg_in hw rfl)) hdg (hP H locs ls hn hs hP' hS hl)⟩
  · obtain ⟨hD, hJ⟩ := chk_at hchk hk
    obtain ⟨hdg, rfl⟩ := chk_dec hD rfl
    have hw := KL_ok o (i, z) (eli hJ)
    exact ⟨hg, fun H locs ls hn hs hP' hS hl => lv_ldcw hx hb hown (hts _ (WSg_in hw rfl)) hdg (hP H locs ls hn hs hP' hS hl)⟩
theorem s_ldl (C : Ctx p R s m args meth c dC dI Y b base X o ini cc nL cd A n0 s0 w1) : RU_ldl cd (PW p l e R s m args below meth c Q dC dI Y b base nL A n0 s0 w1) := by
  intro pc L st w i nx a' b' c' z hk h2
  obtain ⟨hg, hP⟩ := h2
  obtain ⟨hx, hb, hml, hown, hts, hK, hA, hAb, hN, hO, hini, ⟨fr, lo, rk, hchk, hfr, hlo⟩, hcl, hsl, hsz, hX⟩ := C
  obtain ⟨hD, hJ⟩ := chk_at hchk hk
  obtain ⟨hdg, rfl⟩ := chk_dec hD rfl
  have hw := KK_ok o (i, z) (eli hJ)
  exact ⟨hg, fun H locs ls hn hs hP' hS hl => lv_ldc2 hx hb hown (hts _ (WSg_in hw rfl)) hdg (hP H locs ls hn hs hP' hS hl)⟩
set_option maxHeartbeats 2000000 in
theorem s_sto (C : Ctx p R s m args meth c dC dI Y b base X o ini cc nL cd A n0 s0 w1) : RU_sto cd (PW p l e R s m args below meth c Q dC dI Y b base nL A n0 s0 w1) := by
  intro pc L L' st w ins nx a' b' c' z v hk hv h2
  obtain ⟨hg, hP⟩ := h2
  obtain ⟨hx, hb, hml, hown, hts, hK, hA, hAb, hN, hO, hini, ⟨fr, lo, rk, hchk, hfr, hlo⟩, hcl, hsl, hsz, hX⟩ := C
  obtain ⟨hD, hJ⟩ := chk_at hchk hk
  unfold stv at hv
  split at hv
  · cases hv
    obtain ⟨hdg, rfl⟩ := chk_dec hD rfl
    exact ⟨hg, fun H locs ls hn hs hP' hS hl => lv_istore_n hx hb hdg rfl hl (blt_lt hJ) rfl (fun ls' hl' => hP H locs ls' hn hs hP' hS (lv_weak hl' put1_in))⟩
  · cases hv
    obtain ⟨hdg, rfl⟩ := chk_dec hD rfl
    exact ⟨hg, fun H locs ls hn hs hP' hS hl => lv_istore hx hb hdg hl (blt_lt hJ) rfl (fun ls' hl' => hP H locs ls' hn hs hP' hS (lv_weak hl' put1_in))⟩
  · cases hv
    obtain ⟨hdg, rfl⟩ := chk_dec hD rfl
    exact ⟨hg, fun H locs ls hn hs hP' hS hl => lv_lstore_n hx hb hdg rfl hl (blt_lt hJ) rfl (fun ls' hl' => hP H locs ls' hn hs hP' hS (lv_weak hl' put2_in))⟩
  · cases hv
    obtain ⟨hdg, rfl⟩ := chk_dec hD rfl
    exact ⟨hg, fun H locs ls hn hs hP' hS hl => lv_lstore hx hb hdg hl (blt_lt hJ) rfl (fun ls' hl' => hP H locs ls' hn hs hP' hS (lv_weak hl' put2_in))⟩
  · cases hv
    obtain ⟨hdg, rfl⟩ := chk_dec hD rfl
    exact ⟨hg, fun H locs ls hn hs hP' hS hl => lv_astore_n hx hb hdg rfl hl (blt_lt hJ) rfl (fun ls' hl' => hP H locs ls' hn hs hP' hS (lv_weak hl' put1_in))⟩
  · cases hv
    obtain ⟨hdg, rfl⟩ := chk_dec hD rfl
    exact ⟨hg, fun H locs ls hn hs hP' hS hl => lv_astore_nN hx hb hdg rfl hl (blt_lt hJ) rfl (fun ls' hl' => hP H locs ls' hn hs hP' hS (lv_weak hl' put1_in))⟩
  · cases hv
    obtain ⟨hdg, rfl⟩ := chk_dec hD rfl
    exact ⟨hg, fun H locs ls hn hs hP' hS hl => lv_astore hx hb hdg hl (blt_lt hJ) rfl (fun ls' hl' => hP H locs ls' hn hs hP' hS (lv_weak hl' put1_in))⟩
  · cases hv
    obtain ⟨hdg, rfl⟩ := chk_dec hD rfl
    exact ⟨hg, fun H locs ls hn hs hP' hS hl => lv_astoreN hx hb hdg hl (blt_lt hJ) rfl (fun ls' hl' => hP H locs ls' hn hs hP' hS (lv_weak hl' put1_in))⟩
  · cases hv
theorem s_inc (C : Ctx p R s m args meth c dC dI Y b base X o ini cc nL cd A n0 s0 w1) : RU_inc cd (PW p l e R s m args below meth c Q dC dI Y b base nL A n0 s0 w1) := by
  intro pc L st w i n nx a' b' c' z x hk hv h2
  obtain ⟨hg, hP⟩ := h2
  obtain ⟨hx, hb, hml, hown, hts, hK, hA, hAb, hN, hO, hini, ⟨fr, lo, rk, hchk, hfr, hlo⟩, hcl, hsl, hsz, hX⟩ := C
  obtain ⟨hD, hJ⟩ := chk_at hchk hk
  obtain ⟨hdg, rfl⟩ := chk_dec hD rfl
  refine ⟨hg, fun H locs ls hn hs hP' hS hl => ?_⟩
  have hm : (i, Value.int x) ∈ cvL b base L := List.mem_map.mpr ⟨(i, .int x), lkL_mem hv, rfl⟩
  obtain ⟨k, hk'⟩ := List.getElem?_of_mem hm
  exact lv_iinc hx hb hdg hl hk' rfl (blt_lt hJ) rfl (fun ls' hl' => hP H locs ls' hn hs hP' hS (lv_weak hl' put1_in))
end SD
