/-! ===== the small machine's world as cells of the heap ===== -/
def X0 : Scr := (false, 0, fun _ => 0)
def isB : Option FieldType → Bool
  | some .boolean => true
  | _ => false
def WSg : List Cond := lw_tbl.filter goodWord
def WSm (t : MI) : List Cond := Cond.code (i_y t) (i_b t) (i_L t) (i_r t) :: WSg
def cvA (b base : Nat) : Nat → Nat
  | 0 => b
  | i + 1 => base + i
def cvV (b base : Nat) : Value → Value
  | .ref i => .ref (cvA b base i)
  | v => v
def cvF (b base : Nat) (M : Nat → Nat → Int32) (a k : Nat) : Option (Option Nat) → Value
  | none => .int (M a k)
  | some r => va_rf (r.map (cvA b base))
theorem cvV_fvl (b base : Nat) (M : Nat → Nat → Int32) (a k : Nat) (t : Option (Option Nat)) : cvV b base (fvl M a k t) = cvF b base M a k t := by
  cases t with
  | none => rfl
  | some r => cases r <;> rfl
abbrev YC : Type := ClassId × ClassId × ClassId × ClassId
def cvE (Y : YC) (b base : Nat) (M : Nat → Nat → Int32) (ML : Nat → Nat → Int64) (a : Nat) : SC → va_E
  | (0, n, _) => .inl (Y.1, n, .inl (M a))
  | (1, n, _) => .inl (Y.2.1, n, .inr (.inl (ML a)))
  | (2, n, _) => .inl (Y.2.2.1, n, .inl (M a))
  | (3, n, fs) => .inl (Y.2.2.2, n, .inr (.inr (.inr (.inr (fun j => ((fs.getD j none).join).map (cvA b base))))))
  | (c + 4, n, fs) => .inr (c, (List.range n).map (fun k => cvF b base M a k (fs.getD k none)))
def wsW (Y : YC) (b base : Nat) (w : Wd) : va_W := (List.range w.1.length).map (fun i => (base + i, cvE Y b base w.2.1 w.2.2 (i + 1) (w.1.getD i (0, 0, []))))
def tysY (Y : YC) : List (ClassId × FieldType) := [(Y.1, .int), (Y.2.1, .long), (Y.2.2.1, .boolean), (Y.2.2.2, .object "ArrowTurner$Holder")]
def sl (w : Wd) : Nat := (w.1.map (fun c => c.2.1)).sum
def Ex : Nat → Cal
  | 0 => fun _ _ _ _ => False
  | d + 1 => fun k args w res => ∃ t : MI, MTl[k]? = some t ∧ Nat.ble (lg_sl args).length (i_L t) = true ∧ (w.1.length ≤ res.2.1.length ∧ sl w ≤ sl res.2) ∧ Rs X0 (i_c t) (Ex d) (isB (i_r t)) res nf zf (0, lv_args 0 args, [], w)
theorem wsW_len (Y : YC) (b base : Nat) (w : Wd) : (wsW Y b base w).length = w.1.length := by simp [wsW]
theorem wsW_at (Y : YC) (b base : Nat) (w : Wd) (i : Nat) : (wsW Y b base w)[i]? = if i < w.1.length then some (base + i, cvE Y b base w.2.1 w.2.2 (i + 1) (w.1.getD i (0, 0, []))) else none := by
  by_cases h : i < w.1.length
  · rw [if_pos h]
    simp [wsW, h]
  · rw [if_neg h]
    exact List.getElem?_eq_none (by rw [wsW_len]; omega)
theorem wsW_get {Y : YC} {b base : Nat} {w : Wd} {i : Nat} {sc : SC} (h : w.1[i]? = some sc) : (wsW Y b base w)[i]? = some (base + i, cvE Y b base w.2.1 w.2.2 (i + 1) sc) := by
  have hl : i < w.1.length := (List.getElem?_eq_some_iff.mp h).1
  have hg : w.1.getD i (0, 0, []) = sc := by rw [List.getD_eq_getElem?_getD, h]; rfl
  rw [wsW_at, if_pos hl, hg]
theorem wsW_set {Y : YC} {b base : Nat} {w w' : Wd} {i : Nat} {sc : SC} (hl : w'.1.length = w.1.length) (hi : w'.1[i]? = some sc)
    (ho : ∀ j, j ≠ i → cvE Y b base w'.2.1 w'.2.2 (j + 1) (w'.1.getD j (0, 0, [])) = cvE Y b base w.2.1 w.2.2 (j + 1) (w.1.getD j (0, 0, []))) :
    wsW Y b base w' = (wsW Y b base w).set i (base + i, cvE Y b base w'.2.1 w'.2.2 (i + 1) sc) := by
  have hil : i < w.1.length := by rw [← hl]; exact (List.getElem?_eq_some_iff.mp hi).1
  apply List.ext_getElem?
  intro j
  by_cases hj : j = i
  · subst hj
    rw [wsW_get hi, List.getElem?_set_self (by rw [wsW_len]; exact hil)]
  · rw [List.getElem?_set_ne (Ne.symm hj), wsW_at, wsW_at, hl]
    by_cases h : j < w.1.length
    · rw [if_pos h, if_pos h, ho j hj]
    · rw [if_neg h, if_neg h]
theorem wsW_push {Y : YC} {b base : Nat} {w w' : Wd} {sc : SC} (h : w'.1 = w.1 ++ [sc])
    (ho : ∀ j, j < w.1.length → cvE Y b base w'.2.1 w'.2.2 (j + 1) (w.1.getD j (0, 0, [])) = cvE Y b base w.2.1 w.2.2 (j + 1) (w.1.getD j (0, 0, []))) :
    wsW Y b base w' = wsW Y b base w ++ [(base + w.1.length, cvE Y b base w'.2.1 w'.2.2 (w.1.length + 1) sc)] := by
  apply List.ext_getElem?
  intro j
  rw [wsW_at, h, List.length_append, List.length_singleton]
  by_cases h1 : j < w.1.length
  · rw [if_pos (by omega), List.getElem?_append_left (by rw [wsW_len]; exact h1), wsW_at, if_pos h1]
    have hg : (w.1 ++ [sc]).getD j (0, 0, []) = w.1.getD j (0, 0, []) := by
      rw [List.getD_eq_getElem?_getD, List.getD_eq_getElem?_getD, List.getElem?_append_left h1]
    rw [hg, ho j h1]
  · rw [List.getElem?_append_right (by rw [wsW_len]; omega), wsW_len]
    by_cases h2 : j = w.1.length
    · subst h2
      rw [if_pos (by omega), Nat.sub_self]
      have hg : (w.1 ++ [sc]).getD w.1.length (0, 0, []) = sc := by
        rw [List.getD_eq_getElem?_getD, List.getElem?_append_right (Nat.le_refl _), Nat.sub_self]; rfl
      rw [hg]; rfl
    · rw [if_neg (by omega)]
      have : j - w.1.length ≠ 0 := by omega
      cases hk : j - w.1.length with
      | zero => omega
      | succ n => rfl
theorem cvE_M {Y : YC} {b base : Nat} {M M' : Nat → Nat → Int32} {ML ML' : Nat → Nat → Int64} {a : Nat} (h1 : M' a = M a) (h2 : ML' a = ML a) (sc : SC) : cvE Y b base M' ML' a sc = cvE Y b base M ML a sc := by
  obtain ⟨t, n, fs⟩ := sc
  match t with
  | 0 => simp only [cvE, h1]
  | 1 => simp only [cvE, h2]
  | 2 => simp only [cvE, h1]
  | 3 => rfl
  | c + 4 =>
    simp only [cvE]
    congr 2
    apply List.map_congr_left
    intro k _
    cases fs.getD k none with
    | none => simp only [cvF, h1]
    | some r => rfl
theorem up2_ne {M : Nat → Nat → Int32} {a k a' : Nat} {v : Int32} (h : a' ≠ a) : up2 M a k v a' = M a' := by
  funext y; simp [up2, h]
theorem up2_eq {M : Nat → Nat → Int32} {a k : Nat} {v : Int32} : up2 M a k v a = upd (M a) k v := by
  funext y; simp [up2, upd]
theorem up2L_ne {M : Nat → Nat → Int64} {a k a' : Nat} {v : Int64} (h : a' ≠ a) : up2L M a k v a' = M a' := by
  funext y; simp [up2L, h]
theorem up2L_eq {M : Nat → Nat → Int64} {a k : Nat} {v : Int64} : up2L M a k v a = vp_updL (M a) k v := by
  funext y; simp [up2L, vp_updL]
theorem clr_ne {M : Nat → Nat → Int32} {a a' : Nat} (h : a' ≠ a) : clr M a a' = M a' := by
  funext y; simp [clr, h]
theorem clr_eq {M : Nat → Nat → Int32} {a : Nat} : clr M a a = fun _ => 0 := by
  funext y; simp [clr]
theorem clrL_ne {M : Nat → Nat → Int64} {a a' : Nat} (h : a' ≠ a) : clrL M a a' = M a' := by
  funext y; simp [clrL, h]
theorem clrL_eq {M : Nat → Nat → Int64} {a : Nat} : clrL M a a = fun _ => 0 := by
  funext y; simp [clrL]
theorem mem_insL {i : Nat} {v : Value} {L : List (Nat × Value)} {q : Nat × Value} (h : q ∈ insL i v L) : q = (i, v) ∨ q ∈ L := by
  induction L with
  | nil => exact Or.inl (by simpa [insL] using h)
  | cons x t ih =>
    obtain ⟨j, u⟩ := x
    unfold insL at h
    cases hb : Nat.blt i j with
    | true =>
      rw [hb, cond_true] at h
      rcases List.mem_cons.mp h with h | h
      · exact Or.inl h
      · exact Or.inr h
    | false =>
      rw [hb, cond_false] at h
      rcases List.mem_cons.mp h with h | h
      · exact Or.inr (List.mem_cons.mpr (Or.inl h))
      · rcases ih h with h | h
        · exact Or.inl h
        · exact Or.inr (List.mem_cons_of_mem _ h)
theorem lkL_mem {L : List (Nat × Value)} {i : Nat} {v : Value} (h : lkL L i = some v) : (i, v) ∈ L := by
  induction L with
  | nil => cases h
  | cons x t ih =>
    obtain ⟨j, u⟩ := x
    unfold lkL at h
    cases hb : Nat.beq j i with
    | true =>
      rw [hb, cond_true] at h
      cases h
      rw [Nat.eq_of_beq_eq_true hb]
      exact List.mem_cons_self
    | false =>
      rw [hb, cond_false] at h
      exact List.mem_cons_of_mem _ (ih h)
theorem lk_mem {cd : Cd} {pc : Nat} {e : Ent} (h : lk cd pc = some e) : (pc, e) ∈ cd := by
  induction cd with
  | nil => cases h
  | cons x t ih =>
    obtain ⟨j, u⟩ := x
    unfold lk at h
    cases hb : Nat.beq j pc with
    | true =>
      rw [hb, cond_true] at h
      cases h
      rw [Nat.eq_of_beq_eq_true hb]
      exact List.mem_cons_self
    | false =>
      rw [hb, cond_false] at h
      exact List.mem_cons_of_mem _ (ih h)
def cvL (b base : Nat) (L : List (Nat × Value)) : List (Nat × Value) := L.map (fun q => (q.1, cvV b base q.2))
theorem cvV_cat (b base : Nat) (v : Value) : (cvV b base v).category = v.category := by cases v <;> rfl
theorem lv_weak {ls : Array Slot} {n : Nat} {l l' : List (Nat × Value)} (h : lv_has ls n l) (hs : ∀ q ∈ l', q ∈ l) : lv_has ls n l' := ⟨h.1, h.2.1, fun q hq => h.2.2 q (hs q hq)⟩
theorem lv_val {b base : Nat} {ls : Array Slot} {n i : Nat} {L : List (Nat × Value)} {v : Value} (h : lv_has ls n (cvL b base L)) (hk : lkL L i = some v) : ls[i]? = some (.val (cvV b base v)) :=
  h.2.2 (i, cvV b base v) (List.mem_map.mpr ⟨(i, v), lkL_mem hk, rfl⟩)
theorem put1_in {b base i : Nat} {v : Value} {L : List (Nat × Value)} : ∀ q ∈ cvL b base (put1 i v L), q ∈ (i, cvV b base v) :: (cvL b base L).filter (fun q => !(q.1 == i) && !(q.1 + 1 == i && q.2.category == 2)) := by
  intro q hq
  obtain ⟨x, hx, rfl⟩ := List.mem_map.mp hq
  rcases mem_insL hx with h | h
  · rw [h]; exact List.mem_cons_self
  · obtain ⟨h1, h2⟩ := List.mem_filter.mp h
    refine List.mem_cons_of_mem _ (List.mem_filter.mpr ⟨List.mem_map.mpr ⟨x, h1, rfl⟩, ?_⟩)
    simpa only [cvV_cat] using h2
theorem put2_in {b base i : Nat} {v : Value} {L : List (Nat × Value)} : ∀ q ∈ cvL b base (put2 i v L), q ∈ (i, cvV b base v) :: (cvL b base L).filter (fun q => !(q.1 == i) && (!(q.1 == i + 1) && !(q.1 + 1 == i && q.2.category == 2))) := by
  intro q hq
  obtain ⟨x, hx, rfl⟩ := List.mem_map.mp hq
  rcases mem_insL hx with h | h
  · rw [h]; exact List.mem_cons_self
  · obtain ⟨h1, h2⟩ := List.mem_filter.mp h
    refine List.mem_cons_of_mem _ (List.mem_filter.mpr ⟨List.mem_map.mpr ⟨x, h1, rfl⟩, ?_⟩)
    simpa only [cvV_cat] using h2
theorem wsW_D {Y : YC} {b base : Nat} {w : Wd} {A : Nat → Prop} (h : ∀ i, A (base + i)) : va_D A (wsW Y b base w) := by
  refine ⟨fun i j p q hi hj hpq => ?_, fun k q hk => ?_⟩
  · rw [wsW_at] at hi hj
    by_cases h1 : i < w.1.length
    · by_cases h2 : j < w.1.length
      · rw [if_pos h1] at hi
        rw [if_pos h2] at hj
        cases hi
        cases hj
        have : base + i = base + j := hpq
        omega
      · rw [if_neg h2] at hj
        cases hj
    · rw [if_neg h1] at hi
      cases hi
  · rw [wsW_at] at hk
    by_cases h1 : k < w.1.length
    · rw [if_pos h1] at hk
      cases hk
      exact h k
    · rw [if_neg h1] at hk
      cases hk
theorem WSg_in {w : Cond} (h : w ∈ lw_tbl) (hg : goodWord w = true) : w ∈ WSg := List.mem_filter.mpr ⟨h, hg⟩
theorem WSm_good (t : MI) (h : Cond.code (i_y t) (i_b t) (i_L t) (i_r t) ∈ lw_tbl) : ∀ w ∈ WSm t, w ∈ WSg ∧ goodWord w = true := by
  intro w hw
  rcases List.mem_cons.mp hw with rfl | hw
  · exact ⟨WSg_in h rfl, rfl⟩
  · exact ⟨hw, (List.mem_filter.mp hw).2⟩
