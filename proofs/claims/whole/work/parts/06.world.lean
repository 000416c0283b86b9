/-! the small machine is the machine: the world, the locals, one step -/
theorem mm_w_in {i : Nat} {w : Cond} (h : mm_w i w = true) : w ∈ lw_tbl ∧ mm_okW w = true := by
  unfold mm_w at h
  simp only [Bool.and_eq_true, decide_eq_true_eq] at h
  exact ⟨List.mem_of_getElem? h.1, h.2⟩
theorem mm_okW_tab {w : Cond} (h : mm_okW w = true) : w.onTables = true := by
  unfold mm_okW at h
  rcases (Bool.or_eq_true _ _).mp h with h | h
  · exact ((Bool.and_eq_true _ _).mp h).1
  · split at h <;> first | rfl | cases h
theorem mm_warm {w : Cond} (hw : mm_okW w = true) {A A' : Array Value} {s U : State} (hW : s.WarmedH U.vm) (h : w.before A s = true) : w.before A' U = true := by
  unfold mm_okW at hw
  rcases (Bool.or_eq_true _ _).mp hw with h1 | h1
  · exact word_at hW (Or.inl h1) h
  · split at h1
    · exact va_Nw.use rfl (va_Nw.warmF hW (va_Nw.of rfl h))
    · exact va_Nw.use rfl (va_Nw.warmM hW (va_Nw.of rfl h))
    · exact va_Nw.use rfl (va_Nw.warmD hW (va_Nw.of rfl h))
    · exact va_Nw.use rfl (va_Nw.warmC hW (va_Nw.of rfl h))
    · cases h1
def mm_rv (ad : Nat → Nat) : Value → Value
  | .ref k => .ref (ad k)
  | v => v
def mm_T (U : State) : Prop := ∀ w ∈ lw_tbl, mm_okW w = true → w.before #[] U = true
theorem mm_T.at {U : State} (hT : mm_T U) {i : Nat} {w : Cond} (h : mm_w i w = true) (args : Array Value) : w.before args U = true :=
  va_tabs (mm_okW_tab (mm_w_in h).2) rfl (hT _ (mm_w_in h).1 (mm_w_in h).2)
theorem mm_T.warm {s U : State} (hT : mm_T s) (hW : s.WarmedH U.vm) : mm_T U := fun w h1 h2 => mm_warm h2 hW (hT w h1 h2)
theorem mm_T.same {s U : State} (hT : mm_T s) (hv : s.vm = U.vm) : mm_T U := fun w h1 h2 => va_tabs (mm_okW_tab h2) hv (hT w h1 h2)
theorem mm_fnd_mem : ∀ (cl : List mm_En) (pc : Nat) (e : Instr × List Nat × Value), mm_fnd cl pc = some e → (pc, e) ∈ cl
  | [], _, _, h => by cases h
  | a :: r, pc, e, h => by
    unfold mm_fnd at h
    cases hb : Nat.beq a.1 pc with
    | true =>
      rw [hb] at h
      cases h
      have := Nat.eq_of_beq_eq_true hb
      subst this
      exact List.mem_cons_self
    | false =>
      rw [hb] at h
      exact List.mem_cons_of_mem _ (mm_fnd_mem r pc e h)
/-! places -/
def mm_nf (ci : Nat) : Nat := match mm_cls[ci]? with
  | some q => q.2.2
  | none => 0
theorem mm_cl_lt {q : Nat} (h : mm_cl q < 12) : q < 83 := by
  rcases Nat.lt_or_ge q 83 with h1 | h1
  · exact h1
  · unfold mm_cl at h
    rw [List.getD_eq_getElem?_getD, List.getElem?_eq_none (by exact h1)] at h
    exact absurd h (by decide)
theorem mm_len_lt {q : Nat} (h : 0 < mm_len q) : q < 83 := by
  rcases Nat.lt_or_ge q 83 with h1 | h1
  · exact h1
  · unfold mm_len at h
    rw [List.getD_eq_getElem?_getD, List.getElem?_eq_none (by exact h1)] at h
    exact absurd h (by decide)
theorem mm_len_at0 : ∀ q, q < 83 → 0 < mm_len q → mm_cl q = 12 ∧ ¬ (q = 1 ∨ q = 65 ∨ q = 74) ∧ q ≠ 31 := by decide +kernel
theorem mm_len_at {q : Nat} (h : 0 < mm_len q) : q < 83 ∧ mm_cl q = 12 ∧ ¬ (q = 1 ∨ q = 65 ∨ q = 74) ∧ q ≠ 31 := ⟨mm_len_lt h, mm_len_at0 q (mm_len_lt h) h⟩
def mm_fs (ad : Nat → Nat) (q : Nat) (σ : mm_Sg) : List Value := (List.range (mm_nf (mm_cl q))).map (fun k => mm_rv ad (mm_fv (mm_cl q) k q σ))
def mm_cell (ad : Nat → Nat) (cI cK cS : ClassId) (q : Nat) (σ : mm_Sg) : va_E :=
  if mm_cl q < 12 then .inr (mm_cl q, mm_fs ad q σ)
  else if q = 1 ∨ q = 65 ∨ q = 74 then .inl (cK, 8, .inr (.inr (.inr (.inr (fun j => some (ad (mm_el q j)))))))
  else if q = 31 then .inl (cS, 8, .inr (.inr (.inr (.inr (fun j => some (ad (mm_el q j)))))))
  else .inl (cI, mm_len q, .inl (σ q))
def mm_cells (ad : Nat → Nat) (cI cK cS : ClassId) (σ : mm_Sg) : va_W := (List.range 83).map (fun q => (ad q, mm_cell ad cI cK cS q σ))
theorem mm_at {ad : Nat → Nat} {cI cK cS : ClassId} {σ : mm_Sg} {q : Nat} (h : q < 83) : (mm_cells ad cI cK cS σ)[q]? = some (ad q, mm_cell ad cI cK cS q σ) := by
  unfold mm_cells
  rw [List.getElem?_map, List.getElem?_range h]
  rfl
theorem mm_set {ad : Nat → Nat} {cI cK cS : ClassId} {σ σ' : mm_Sg} {q : Nat} {e : va_E} (he : mm_cell ad cI cK cS q σ' = e) (ho : ∀ a, a ≠ q → mm_cell ad cI cK cS a σ' = mm_cell ad cI cK cS a σ) : (mm_cells ad cI cK cS σ).set q (ad q, e) = mm_cells ad cI cK cS σ' := by
  subst he
  apply List.ext_getElem?
  intro j
  rw [List.getElem?_set]
  by_cases hj : q = j
  · subst hj
    rw [if_pos rfl]
    by_cases h : q < 83
    · rw [mm_at h, if_pos (by unfold mm_cells; simpa using h)]
    · rw [if_neg (by unfold mm_cells; simpa using h), List.getElem?_eq_none (by unfold mm_cells; simpa using Nat.not_lt.mp h)]
  · rw [if_neg hj]
    by_cases h : j < 83
    · rw [mm_at h, mm_at h, ho j (fun e => hj e.symm)]
    · rw [List.getElem?_eq_none (by unfold mm_cells; simpa using Nat.not_lt.mp h), List.getElem?_eq_none (by unfold mm_cells; simpa using Nat.not_lt.mp h)]
theorem mm_obj {ad : Nat → Nat} {cI cK cS : ClassId} {σ : mm_Sg} {q ci : Nat} (h : mm_cl q = ci) (hc : ci < 12) : (mm_cells ad cI cK cS σ)[q]? = some (ad q, .inr (ci, mm_fs ad q σ)) := by
  subst h
  rw [mm_at (mm_cl_lt hc)]
  unfold mm_cell
  rw [if_pos hc]
theorem mm_row {ad : Nat → Nat} {cI cK cS : ClassId} {σ : mm_Sg} {q : Nat} (h : 0 < mm_len q) : (mm_cells ad cI cK cS σ)[q]? = some (ad q, .inl (cI, mm_len q, .inl (σ q))) := by
  obtain ⟨h1, h2, h3, h4⟩ := mm_len_at h
  rw [mm_at h1]
  unfold mm_cell
  rw [if_neg (by rw [h2]; decide), if_neg h3, if_neg h4]
theorem mm_u_o {σ : mm_Sg} {q k : Nat} {x : Int32} {a : Nat} (h : a ≠ q) : mm_u σ q k x a = σ a := by
  funext j
  unfold mm_u
  rw [if_neg h]
theorem mm_u_s {σ : mm_Sg} {q k : Nat} {x : Int32} : mm_u σ q k x q = upd (σ q) k x := by
  funext j
  unfold mm_u upd
  rw [if_pos rfl]
theorem mm_cell_o {ad : Nat → Nat} {cI cK cS : ClassId} {σ σ' : mm_Sg} {a : Nat} (h : σ' a = σ a) : mm_cell ad cI cK cS a σ' = mm_cell ad cI cK cS a σ := by
  have e : mm_fs ad a σ' = mm_fs ad a σ := by
    unfold mm_fs
    apply List.map_congr_left
    intro k _
    unfold mm_fv
    rw [h]
  unfold mm_cell
  rw [e, h]
theorem mm_set_row {ad : Nat → Nat} {cI cK cS : ClassId} {σ σ' : mm_Sg} {q : Nat} (h : 0 < mm_len q) (ho : ∀ a, a ≠ q → σ' a = σ a) : (mm_cells ad cI cK cS σ).set q (ad q, .inl (cI, mm_len q, .inl (σ' q))) = mm_cells ad cI cK cS σ' := by
  obtain ⟨h1, h2, h3, h4⟩ := mm_len_at h
  refine mm_set ?_ (fun a ha => mm_cell_o (ho a ha))
  unfold mm_cell
  rw [if_neg (by rw [h2]; decide), if_neg h3, if_neg h4]
theorem mm_rf_q {ci k q : Nat} (h : mm_rf ci k 0 = none) : mm_rf ci k q = none := by
  unfold mm_rf at h ⊢
  split at h <;> first | rfl | cases h
theorem mm_set_obj {ad : Nat → Nat} {cI cK cS : ClassId} {σ : mm_Sg} {q ci k : Nat} {y : Int32} (h : mm_cl q = ci) (hc : ci < 12) (hr : mm_rf ci k 0 = none) : (mm_cells ad cI cK cS σ).set q (ad q, .inr (ci, (mm_fs ad q σ).set k (.int y))) = mm_cells ad cI cK cS (mm_u σ q k y) := by
  subst h
  refine mm_set ?_ (fun a ha => mm_cell_o (mm_u_o ha))
  unfold mm_cell
  rw [if_pos hc]
  congr 2
  unfold mm_fs
  apply List.ext_getElem?
  intro j
  rw [List.getElem?_set, List.getElem?_map, List.getElem?_map, List.length_map, List.length_range]
  by_cases hj : k = j
  · subst hj
    rw [if_pos rfl]
    by_cases hk : k < mm_nf (mm_cl q)
    · rw [List.getElem?_range hk, if_pos hk]
      show some (mm_rv ad (mm_fv (mm_cl q) k q (mm_u σ q k y))) = _
      unfold mm_fv
      rw [mm_rf_q hr, mm_u_s]
      simp [upd, mm_rv]
    · rw [if_neg hk, List.getElem?_eq_none (by simpa using Nat.not_lt.mp hk)]
      rfl
  · rw [if_neg hj]
    by_cases hk : j < mm_nf (mm_cl q)
    · rw [List.getElem?_range hk]
      show some (mm_rv ad (mm_fv (mm_cl q) j q (mm_u σ q k y))) = some (mm_rv ad (mm_fv (mm_cl q) j q σ))
      unfold mm_fv
      rw [mm_u_s]
      have : upd (σ q) k y j = σ q j := by unfold upd; rw [if_neg (fun e => hj e.symm)]
      rw [this]
    · rw [List.getElem?_eq_none (by simpa using Nat.not_lt.mp hk)]
      rfl
theorem mm_cls_lt {ci : Nat} {q : vw_C} (h : mm_cls[ci]? = some q) : ci < 12 := (List.getElem?_eq_some_iff.mp h).1
theorem mm_fs_at {ad : Nat → Nat} {σ : mm_Sg} {q k : Nat} {r : vw_C} (h : mm_cls[mm_cl q]? = some r) (hk : k < r.2.2) : (mm_fs ad q σ)[k]? = some (mm_rv ad (mm_fv (mm_cl q) k q σ)) := by
  have e : mm_nf (mm_cl q) = r.2.2 := by unfold mm_nf; rw [h]
  unfold mm_fs
  rw [List.getElem?_map, List.getElem?_range (by rw [e]; exact hk)]
  rfl
theorem mm_fs_len {ad : Nat → Nat} {σ : mm_Sg} {q k : Nat} {r : vw_C} (h : mm_cls[mm_cl q]? = some r) (hk : k < r.2.2) : k < (mm_fs ad q σ).length := by
  have e : mm_nf (mm_cl q) = r.2.2 := by unfold mm_nf; rw [h]
  unfold mm_fs
  simp only [List.length_map, List.length_range]
  rw [e]
  exact hk
/-- the fields' types, the words of a class -/
theorem mm_ty (ci : Nat) (q : vw_C) (h : mm_cls[ci]? = some q) : (∀ w ∈ u_ws q.1 q.2.1 q.2.2, w ∈ lw_tbl ∧ mm_okW w = true) ∧ ∃ ty : Nat → FieldType, (∀ k, k < q.2.2 → parseFieldDescriptor (q.2.1 k).2.2.1 = some (ty k)) ∧ (∀ a, a < q.2.2 → ∀ b, b < q.2.2 → a ≠ b → (q.2.1 a).2.1 ≠ (q.2.1 b).2.1) ∧ ∀ k, k < q.2.2 → mm_rf ci k 0 = none → ty k = .int ∨ (ty k = .boolean ∧ mm_fz ci k = true) := by
  have hw : ∀ ws : List Cond, ws.all (fun w => decide (w ∈ lw_tbl) && mm_okW w) = true → ∀ w ∈ ws, w ∈ lw_tbl ∧ mm_okW w = true := by
    intro ws h w hw
    have h1 := List.all_eq_true.mp h w hw
    simp only [Bool.and_eq_true, decide_eq_true_eq] at h1
    exact h1
  match ci, h with
  | 0, h => cases h; exact ⟨(fun w hw => by cases hw), tyX0, tyX0_ok, nmX0, by decide +kernel⟩
  | 1, h => cases h; exact ⟨(hw _ mm_ws_1), tyX1, tyX1_ok, nmX1, by decide +kernel⟩
  | 2, h => cases h; exact ⟨(fun w hw => by cases hw), tyX2, tyX2_ok, nmX2, by decide +kernel⟩
  | 3, h => cases h; exact ⟨(fun w hw => by cases hw), tyX3, tyX3_ok, nmX3, by decide +kernel⟩
  | 4, h => cases h; exact ⟨(fun w hw => by cases hw), tyX4, tyX4_ok, nmX4, by decide +kernel⟩
  | 5, h => cases h; exact ⟨(fun w hw => by cases hw), tyX5, tyX5_ok, nmX5, by decide +kernel⟩
  | 6, h => cases h; exact ⟨(fun w hw => by cases hw), tyX6, tyX6_ok, nmX6, by decide +kernel⟩
  | 7, h => cases h; exact ⟨(fun w hw => by cases hw), tyX7, tyX7_ok, nmX7, by decide +kernel⟩
  | 8, h => cases h; exact ⟨(hw _ mm_ws_8), tyX8, tyX8_ok, nmX8, by decide +kernel⟩
  | 9, h => cases h; exact ⟨(fun w hw => by cases hw), tyX9, tyX9_ok, nmX9, by decide +kernel⟩
  | 10, h => cases h; exact ⟨(hw _ mm_ws_10), tyX10, tyX10_ok, nmX10, by decide +kernel⟩
  | 11, h => cases h; exact ⟨(hw _ mm_ws_11), tyX11, tyX11_ok, nmX11, by decide +kernel⟩
  | n + 12, h => exact absurd (mm_cls_lt h) (by omega)
/-! locals -/
def mm_L (ad : Nat → Nat) (ls : Array Slot) (nL : Nat) (lv : List Value) : Prop := ls.size = nL ∧ lv.length = nL ∧ lv_wf ls ∧ ∀ (i : Nat) (v : Value), lv[i]? = some v → v ≠ .null → ls[i]? = some (.val (mm_rv ad v))
theorem mm_cat (ad : Nat → Nat) (v : Value) : (mm_rv ad v).category = v.category := by cases v <;> rfl
theorem mm_ssr (ad : Nat → Nat) (st : List Value) : ((st.map (mm_rv ad)).map fun v => v.category).sum = mm_ss st := by
  unfold mm_ss
  rw [List.map_map]
  congr 1
  exact List.map_congr_left (fun v _ => mm_cat ad v)
def mm_asc (ad : Nat → Nat) (lv : List Value) : List (Nat × Value) := (List.range lv.length).filterMap (fun i => match lv[i]? with
  | some v => if v = .null then none else some (i, mm_rv ad v)
  | none => none)
theorem mm_asc_mem {ad : Nat → Nat} {lv : List Value} {q : Nat × Value} : q ∈ mm_asc ad lv ↔ ∃ v, lv[q.1]? = some v ∧ v ≠ .null ∧ q.2 = mm_rv ad v := by
  unfold mm_asc
  rw [List.mem_filterMap]
  constructor
  · rintro ⟨i, -, hi⟩
    cases h : lv[i]? with
    | none => rw [h] at hi; cases hi
    | some v =>
      rw [h] at hi
      by_cases hn : v = .null
      · simp [hn] at hi
      · simp only [if_neg hn] at hi
        cases hi
        exact ⟨v, h, hn, rfl⟩
  · rintro ⟨v, h1, h2, h3⟩
    refine ⟨q.1, List.mem_range.mpr (List.getElem?_eq_some_iff.mp h1).1, ?_⟩
    rw [h1]
    simp only [if_neg h2]
    rw [← h3]
theorem mm_L.has {ad : Nat → Nat} {ls : Array Slot} {nL : Nat} {lv : List Value} (h : mm_L ad ls nL lv) : lv_has ls nL (mm_asc ad lv) := by
  refine ⟨h.1, h.2.2.1, fun q hq => ?_⟩
  obtain ⟨v, h1, h2, h3⟩ := mm_asc_mem.mp hq
  rw [h3]
  exact h.2.2.2 _ _ h1 h2
theorem mm_L.at {ad : Nat → Nat} {ls : Array Slot} {nL : Nat} {lv : List Value} (h : mm_L ad ls nL lv) {i : Nat} {v : Value} (hv : lv[i]? = some v) (hn : v ≠ .null) : ls[i]? = some (.val (mm_rv ad v)) := h.2.2.2 i v hv hn
theorem mm_cat2 {v : Value} (h : v.category = 2) : (∃ y, v = .long y) ∨ ∃ y, v = .double y := by
  cases v <;> first | exact Or.inl ⟨_, rfl⟩ | exact Or.inr ⟨_, rfl⟩ | (simp [Value.category] at h)
theorem mm_pl_f {lv : List Value} {i j : Nat} {w : Value} (h : mm_pl lv i = false) (hj : lv[j]? = some w) (e : j + 1 = i) : w.category = 1 := by
  subst e
  unfold mm_pl at h
  rcases lv_cat w with q | q
  · exact q
  · rcases mm_cat2 q with ⟨y, rfl⟩ | ⟨y, rfl⟩ <;> simp [hj] at h
theorem mm_L.set1 {ad : Nat → Nat} {ls ls' : Array Slot} {nL : Nat} {lv : List Value} {i : Nat} {v : Value} (h : mm_L ad ls nL lv) (hp : mm_pl lv i = false) (h' : lv_has ls' nL ((i, mm_rv ad v) :: (mm_asc ad lv).filter (fun q => !(q.1 == i) && !(q.1 + 1 == i && q.2.category == 2)))) : mm_L ad ls' nL (lv.set i v) := by
  refine ⟨h'.1, by simpa using h.2.1, h'.2.1, fun j w hj hn => ?_⟩
  rw [List.getElem?_set] at hj
  by_cases e : i = j
  · subst e
    rw [if_pos rfl] at hj
    split at hj
    · cases hj
      exact h'.2.2 _ List.mem_cons_self
    · cases hj
  · rw [if_neg e] at hj
    refine h'.2.2 (j, mm_rv ad w) (List.mem_cons_of_mem _ (List.mem_filter.mpr ⟨mm_asc_mem.mpr ⟨w, hj, hn, rfl⟩, ?_⟩))
    have e1 : (j == i) = false := by simpa using fun q : j = i => e q.symm
    by_cases e2 : j + 1 = i
    · have := mm_pl_f hp hj e2
      simp [e1, mm_cat, this]
    · simp [e1, e2]
theorem mm_L.set2 {ad : Nat → Nat} {ls ls' : Array Slot} {nL : Nat} {lv : List Value} {i : Nat} {v : Value} (h : mm_L ad ls nL lv) (hp : mm_pl lv i = false) (h' : lv_has ls' nL ((i, mm_rv ad v) :: (mm_asc ad lv).filter (fun q => !(q.1 == i) && (!(q.1 == i + 1) && !(q.1 + 1 == i && q.2.category == 2))))) : mm_L ad ls' nL ((lv.set i v).set (i + 1) .null) := by
  refine ⟨h'.1, by simpa using h.2.1, h'.2.1, fun j w hj hn => ?_⟩
  rw [List.getElem?_set] at hj
  by_cases e0 : i + 1 = j
  · subst e0
    rw [if_pos rfl] at hj
    split at hj
    · cases hj
      exact absurd rfl hn
    · cases hj
  rw [if_neg e0, List.getElem?_set] at hj
  by_cases e : i = j
  · subst e
    rw [if_pos rfl] at hj
    split at hj
    · cases hj
      exact h'.2.2 _ List.mem_cons_self
    · cases hj
  · rw [if_neg e] at hj
    refine h'.2.2 (j, mm_rv ad w) (List.mem_cons_of_mem _ (List.mem_filter.mpr ⟨mm_asc_mem.mpr ⟨w, hj, hn, rfl⟩, ?_⟩))
    have e1 : (j == i) = false := by simpa using fun q : j = i => e q.symm
    have e3 : (j == i + 1) = false := by simpa using fun q : j = i + 1 => e0 q.symm
    by_cases e2 : j + 1 = i
    · have := mm_pl_f hp hj e2
      simp [e1, e3, mm_cat, this]
    · simp [e1, e2, e3]
