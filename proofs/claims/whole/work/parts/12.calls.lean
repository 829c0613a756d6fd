theorem lg_len (b base : Nat) (vs : List Value) : (lg_sl (vs.map (cvV b base))).length = (lg_sl vs).length := by
  induction vs with
  | nil => rfl
  | cons v t ih =>
    have e1 : lg_sl ((v :: t).map (cvV b base)) = (if (cvV b base v).category = 2 then [Slot.val (cvV b base v), Slot.second] else [Slot.val (cvV b base v)]) ++ lg_sl (t.map (cvV b base)) := rfl
    have e2 : lg_sl (v :: t) = (if v.category = 2 then [Slot.val v, Slot.second] else [Slot.val v]) ++ lg_sl t := rfl
    rw [e1, e2, List.length_append, List.length_append, ih, cvV_cat]
    split <;> rfl
theorem lv_args_cv (b base : Nat) : ∀ (vs : List Value) (i : Nat), lv_args i (vs.map (cvV b base)) = cvL b base (lv_args i vs)
  | [], _ => rfl
  | v :: t, i => by
    show (i, cvV b base v) :: lv_args (if (cvV b base v).category = 2 then i + 2 else i + 1) (t.map (cvV b base)) = (i, cvV b base v) :: cvL b base (lv_args (if v.category = 2 then i + 2 else i + 1) t)
    rw [cvV_cat, lv_args_cv b base t]
theorem rk_1 {r : Option FieldType} (h : rkT r = 1) : r = some .int := by
  unfold rkT at h
  split at h <;> first | rfl | cases h
theorem rk_2 {r : Option FieldType} (h : rkT r = 2) : r = some .boolean := by
  unfold rkT at h
  split at h <;> first | rfl | cases h
theorem rk_3 {r : Option FieldType} (h : rkT r = 3) : r = some .long := by
  unfold rkT at h
  split at h <;> first | rfl | cases h
theorem rk_4 {r : Option FieldType} (h : rkT r = 4) : ∃ n, r = some (.object n) := by
  unfold rkT at h
  split at h <;> first | exact ⟨_, rfl⟩ | cases h
theorem rk_0 {r : Option FieldType} (h : rkT r = 0) : r = none := by
  unfold rkT at h
  split at h <;> first | rfl | cases h
set_option maxHeartbeats 4000000 in
/-- what the small machine says of a method, the machine does -/
theorem Ex_ok (l : Launch) (dC : Nat → ClassId) (dI : Nat → Nat → Nat) (Y : YC) (b base : Nat) : ∀ (d k : Nat) (as : List Value) (w : Wd) (r : Option Value) (w2 : Wd), Ex d k as w (r, w2) → EOK l dC dI Y b base k as w r w2
  | 0, _, _, _, _, _, h => h.elim
  | d + 1, k, as, w, r, w2, ⟨t, ht, hlen, hgr, hRs⟩ => by
    refine ⟨t, ht, hgr, ?_⟩
    have hmt := MT_ok ht
    obtain ⟨hpl, hcls, hcode, hinit, hstat, hinst, hsel, hmh, hpd, hctor, hchk⟩ := hmt
    refine Met.ofW (cc := i_b t) (maxL := i_L t) (ret := i_r t) (ws' := WSg) hpl rfl ?_
    intro p e s m args below meth c s₁ B hml hv
    obtain ⟨hargs, hsz, hP, hK, hN, hO⟩ := hv
    subst hargs
    have hx := B.exec
    have hb := B.bytes
    have hr := B.returns
    have hts := atoms_spec (ws := WSm t) B.pre
    have hown : s.vm.findClass (i_y t).cls = some m.cls := findClass_of_methodNamed B.named
    have hlocks := B.notSynchronized
    have hname : (i_y t).name = "<init>" → meth.name = "<init>" := fun h => by rw [← h]; exact (name_of_methodNamed B.named B.method).1
    have C : Ctx p ({ frames := i_f t, cells := w2.1.length - w.1.length, slots := sl w2 - sl w, locals := i_l t }) s m (as.map (cvV b base)).toArray meth c dC dI Y b base X0 (i_o t) (Nat.beq (i_k t) 2) (i_b t) (i_L t) (i_c t) (va_A (wsW Y b base w) (base + w.1.length)) w.1.length (sl w) w2 :=
      ⟨hx, hb, hml, by rw [hcls]; exact hown, fun w hw => hts w (List.mem_cons_of_mem _ hw), hK, fun q hq => Or.inr (by rw [← hsz]; exact hq), fun i => by
        by_cases h : i < w.1.length
        · exact Or.inl ⟨i, _, by rw [wsW_at, if_pos h]⟩
        · exact Or.inr (by omega), hN, hO, fun h => hname (hctor (Nat.eq_of_beq_eq_true h)).1, ⟨_, _, _, hchk, Nat.le_refl _, Nat.le_refl _⟩, Nat.le_refl _, Nat.le_refl _, ⟨hsz, fun q hq => by
        rcases hq with ⟨k9, e9, h9⟩ | h9
        · rw [wsW_at] at h9
          split at h9
          · cases h9; exact Nat.le_add_right _ _
          · cases h9
        · omega⟩, fun h => by cases h⟩
    have hret : RU_ret (i_c t) (isB (i_r t)) (r, w2) (PW p l e ({ frames := i_f t, cells := w2.1.length - w.1.length, slots := sl w2 - sl w, locals := i_l t }) s m (as.map (cvV b base)).toArray below meth c (MQ below (QcE dC dI Y b base r w w2) (as.map (cvV b base)).toArray s (w2.1.length - w.1.length) (sl w2 - sl w) (va_A (wsW Y b base w) (base + w.1.length))) dC dI Y b base (i_L t) (va_A (wsW Y b base w) (base + w.1.length)) w.1.length (sl w) w2) := by
      intro pc L st w9 ins nx a' b' c' z r9 hk hv hbv hres
      cases hres
      obtain ⟨hD, hJ⟩ := chk_at hchk hk
      refine ⟨⟨Nat.le_refl _, Nat.le_refl _⟩, fun H locs ls hn hs hP' hS hl => ?_⟩
      have hq : ∀ t9 : State, t9.heap = H → s.WarmedH t9.vm → QcE dC dI Y b base r w w2 (as.map (cvV b base)).toArray s (.returned (r.map (cvV b base))) t9 := fun t9 ht9 hW => ⟨rfl, by rw [ht9]; exact hP', hS.F ht9⟩
      unfold retv at hv
      split at hv
      · rename_i x
        cases hv
        obtain ⟨hdg, -⟩ := chk_dec hD rfl
        rcases (Bool.or_eq_true _ _).mp (show (Nat.beq (rkT (i_r t)) 1 || Nat.beq (rkT (i_r t)) 2) = true from hJ) with h | h
        · have hrt := rk_1 (Nat.eq_of_beq_eq_true h)
          exact W.iret hx hb (hr.trans hrt) hq hS.2.2 hdg
        · have hrt := rk_2 (Nat.eq_of_beq_eq_true h)
          rw [hrt] at hbv
          have hbx : x = 0 ∨ x = 1 := hbv
          exact W.zret hx hb (hr.trans hrt) (by rcases hbx with rfl | rfl <;> decide) hq hS.2.2 hdg
      · cases hv
        obtain ⟨hdg, -⟩ := chk_dec hD rfl
        have hrt := rk_3 (Nat.eq_of_beq_eq_true hJ)
        exact W.lret hx hb (hr.trans hrt) hq hS.2.2 hdg
      · cases hv
        obtain ⟨hdg, -⟩ := chk_dec hD rfl
        obtain ⟨cl9, hrt⟩ := rk_4 (Nat.eq_of_beq_eq_true hJ)
        exact W.aret hx hb (hr.trans hrt) (Or.inl ⟨_, rfl⟩) (Or.inr ⟨_, rfl⟩) hq hS.2.2 hdg
      · cases hv
        obtain ⟨hdg, -⟩ := chk_dec hD rfl
        obtain ⟨cl9, hrt⟩ := rk_4 (Nat.eq_of_beq_eq_true hJ)
        exact W.aret hx hb (hr.trans hrt) (Or.inl ⟨_, rfl⟩) (Or.inl rfl) hq hS.2.2 hdg
      · cases hv
        obtain ⟨hdg, -⟩ := chk_dec hD rfl
        have hrt := rk_0 (Nat.eq_of_beq_eq_true hJ)
        exact W.vret hx hb (hr.trans hrt) hq hS.2.2 hdg
      · cases hv
    have hall := hRs _ (s_all (l := l) (e := e) (below := below) C (Ex_ok l dC dI Y b base d) hret)
    have hl := lv_entry (as.map (cvV b base)) (n := i_L t) (by rw [lg_len]; exact Nat.le_of_ble_eq_true hlen)
    rw [lg_entry_eq]
    rw [lv_args_cv] at hl
    have h9 := hall.2 s.heap [] _ (Nat.le_refl _) (Nat.le_refl _) hP va_S.rf hl
    dsimp only at h9
    rw [Nat.sub_self, Nat.sub_self] at h9
    exact h9
