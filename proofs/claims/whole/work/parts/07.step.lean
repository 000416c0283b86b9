/-! one step -/
abbrev mm_tys (cI cK cS : ClassId) : List (ClassId × FieldType) := [(cI, .int), (cK, .object RX4), (cS, .object RX8)]
def mm_WW (p : Program) (l : Launch) (e : Env) (R : Room) (s : State) (m : MethodId) (args : Array Value) (below : List Frame) (meth : Method) (c : Code) (cells slots : Nat) (Q : State → Prop) (ad : Nat → Nat) (G : va_G) (cI cK cS : ClassId) (A : Nat → Prop) (H0 : Heap) (nL : Nat) (S : mm_St) : Prop :=
  ∀ (ls : Array Slot) (H : Heap) (locs : List Loc), mm_L ad ls nL S.2.1 → va_P G mm_cls (mm_cells ad cI cK cS S.2.2.2) H → va_S A H0 H locs → W p l e R s m args below meth c H locs cells slots Q (F0 m S.1 ls (S.2.2.1.map (mm_rv ad)))
def mm_Fr (p : Program) (s : State) (m : MethodId) (c : Code) (ad : Nat → Nat) (G : va_G) (cI cK cS : ClassId) (A : Nat → Prop) (M : mm_Me) : Prop :=
  p.tables.exec = Jvm.exec ∧ c.code = mm_by M ∧ c.maxLocals = mm_nL M ∧ s.vm.findClass (mm_y M).cls = some m.cls ∧ va_K G mm_cls (mm_tys cI cK cS) s ∧ mm_T s ∧ ∀ σ, va_D A (mm_cells ad cI cK cS σ)
theorem mm_k1 {i k : Nat} (h : decide ([i] = [k]) = true) : k = i := by
  have := of_decide_eq_true h
  cases this
  rfl
theorem mm_tsw_spec (a : Int32) (d : Nat) : ∀ (ts : List Nat) (lo : Nat), (∃ j t, ts[j]? = some t ∧ a = nI (lo + j) ∧ mm_tsw a d lo ts = t) ∨ ((∀ j, j < ts.length → a ≠ nI (lo + j)) ∧ mm_tsw a d lo ts = d)
  | [], lo => Or.inr ⟨fun j h => absurd h (Nat.not_lt_zero j), rfl⟩
  | t :: r, lo => by
    unfold mm_tsw
    by_cases h : a = nI lo
    · rw [if_pos h]
      exact Or.inl ⟨0, t, rfl, h, rfl⟩
    · rw [if_neg h]
      rcases mm_tsw_spec a d r (lo + 1) with ⟨j, u, h1, h2, h3⟩ | ⟨h1, h2⟩
      · exact Or.inl ⟨j + 1, u, h1, by rw [h2]; congr 1; omega, h3⟩
      · refine Or.inr ⟨fun j hj => ?_, h2⟩
        cases j with
        | zero => exact h
        | succ j =>
          have := h1 j (by simpa using hj)
          rw [show lo + (j + 1) = lo + 1 + j by omega]
          exact this
theorem mm_lsw_spec (a : Int32) (pc d : Int) (t : Nat) (hd : pc + d = (t : Int)) : ∀ (ps : List (Int × Int)) (ts : List Nat), ps.flatMap (fun a => [a.1, pc + a.2]) = ts.map (fun (t : Nat) => (t : Int)) → (∀ t ∈ ts, t < 100000) → pc + Op.lookupswitch.offset ps d a.toInt = (mm_lsw a t ts : Int)
  | [], ts, h, _ => by
    cases ts with
    | nil => simpa [Op.lookupswitch.offset, mm_lsw] using hd
    | cons u r => simp at h
  | q :: ps, ts, h, hs => by
    obtain ⟨k, o⟩ := q
    match ts, h, hs with
    | [], h, _ => simp at h
    | [u], h, _ =>
      have := congrArg List.length h
      simp at this
    | u :: w :: r, h, hs =>
      simp only [List.flatMap_cons, List.map_cons, List.cons_append, List.nil_append] at h
      injection h with h1 h2
      injection h2 with h2 h3
      have hu : u < 100000 := hs u List.mem_cons_self
      have ht : (nI u).toInt = k := by rw [nI_toInt (by omega), h1]
      unfold mm_lsw
      by_cases e : a = nI u
      · rw [if_pos e, Op.lookupswitch.offset_cons, if_pos (by rw [e, ht])]
        exact h2
      · rw [if_neg e, lv_osw e ht]
        exact mm_lsw_spec a pc d t hd ps r h3 (fun t ht => hs t (List.mem_cons_of_mem _ (List.mem_cons_of_mem _ ht)))
theorem mm_set_cp {ad : Nat → Nat} {cI cK cS : ClassId} {σ : mm_Sg} {a0 sp a dp n : Nat} (h : 0 < mm_len a) : (mm_cells ad cI cK cS σ).set a (ad a, .inl (cI, mm_len a, .inl (va_cpy (σ a0) (σ a) sp dp n))) = mm_cells ad cI cK cS (mm_cp σ a0 sp a dp n) := by
  have e := mm_set_row (ad := ad) (cI := cI) (cK := cK) (cS := cS) (σ := σ) (σ' := mm_cp σ a0 sp a dp n) h (fun b hb => by unfold mm_cp; rw [if_neg hb])
  rwa [show mm_cp σ a0 sp a dp n a = va_cpy (σ a0) (σ a) sp dp n by unfold mm_cp; rw [if_pos rfl]] at e
section MMstep
variable {p : Program} {l : Launch} {e : Env} {R : Room} {s : State} {m : MethodId} {args : Array Value} {below : List Frame} {meth : Method} {c : Code} {cells slots : Nat} {Q : State → Prop} {ad : Nat → Nat} {G : va_G} {cI cK cS : ClassId} {A : Nat → Prop} {H0 : Heap}
set_option maxHeartbeats 8000000 in
set_option maxRecDepth 20000 in
theorem mm_step {M : mm_Me} (hM : (mm_code M).all (mm_eok M) = true) (F : mm_Fr p s m c ad G cI cK cS A M) (hR : 38 * mm_lv M ≤ R.locals ∧ mm_lv M ≤ R.frames ∧ cells ≤ R.cells ∧ slots ≤ R.slots) {S S' : mm_St} {cs : List Prop} (h : mm_stp (mm_code M) S = some (S', cs)) (hc : mm_all cs)
    (K : mm_WW p l e R s m args below meth c cells slots Q ad G cI cK cS A H0 (mm_nL M) S') : mm_WW p l e R s m args below meth c cells slots Q ad G cI cK cS A H0 (mm_nL M) S := by
  obtain ⟨pc, lv, st, σ⟩ := S
  obtain ⟨hx, hb, hml, hown, hK, hT, hD⟩ := F
  unfold mm_stp at h
  dsimp only at h
  cases hf : mm_fnd (mm_code M) pc with
  | none => rw [hf] at h; cases h
  | some q =>
  obtain ⟨i, x, v⟩ := q
  rw [hf] at h
  dsimp only at h
  have hok : mm_eok M (pc, i, x, v) = true := by
    exact List.all_eq_true.mp hM _ (mm_fnd_mem _ _ _ hf)
  unfold mm_eok at hok
  simp only [Bool.and_eq_true, decide_eq_true_eq] at hok
  obtain ⟨hdec, hi⟩ := hok
  have wd : ∀ {i : Nat} {w : Cond}, mm_w i w = true → w.before args s = true := fun h => hT.at h args
  cases i
  case iconst n =>
    dsimp only [mm_ex] at h
    cases h
    have e9 := of_decide_eq_true (show decide (v = _) = true from hi)
    subst e9
    exact fun ls H locs hL hP hS => lv_iconst hx hb hdec rfl (K ls H locs hL hP hS)
  case bipush n =>
    dsimp only [mm_ex] at h
    cases h
    have e9 := of_decide_eq_true (show decide (v = _) = true from hi)
    subst e9
    exact fun ls H locs hL hP hS => lv_bipush hx hb hdec rfl (K ls H locs hL hP hS)
  case sipush n =>
    dsimp only [mm_ex] at h
    cases h
    have e9 := of_decide_eq_true (show decide (v = _) = true from hi)
    subst e9
    exact fun ls H locs hL hP hS => lv_sipush hx hb hdec rfl (K ls H locs hL hP hS)
  case lconst n =>
    dsimp only [mm_ex] at h
    cases h
    have e9 := of_decide_eq_true (show decide (v = _) = true from hi)
    subst e9
    exact fun ls H locs hL hP hS => lv_lconst hx hb hdec rfl (K ls H locs hL hP hS)
  case ldc n =>
    dsimp only [mm_ex] at h
    cases h
    dsimp only [mm_iok] at hi
    split at hi
    · exact fun ls H locs hL hP hS => lv_ldc hx hb hown (wd hi) hdec (K ls H locs hL hP hS)
    · cases hi
  case ldc_w n =>
    dsimp only [mm_ex] at h
    cases h
    dsimp only [mm_iok] at hi
    split at hi
    · exact fun ls H locs hL hP hS => lv_ldcw hx hb hown (wd hi) hdec (K ls H locs hL hP hS)
    · cases hi
  case ldc2_w n =>
    dsimp only [mm_ex] at h
    cases h
    dsimp only [mm_iok] at hi
    split at hi
    · exact fun ls H locs hL hP hS => lv_ldc2 hx hb hown (wd hi) hdec (K ls H locs hL hP hS)
    · cases hi
  case iload_n k =>
    dsimp only [mm_ex] at h
    split at h
    · split at h
      · rename_i heq
        cases h
        exact fun ls H locs hL hP hS => lv_iload_n hx hb hdec (mm_k1 hi) (hL.at heq (fun q => nomatch q)) (K ls H locs hL hP hS)
      · cases h
    · cases h
  case iload k =>
    dsimp only [mm_ex] at h
    split at h
    · split at h
      · rename_i heq
        cases h
        have e9 := mm_k1 hi
        subst e9
        exact fun ls H locs hL hP hS => lv_iload hx hb hdec (hL.at heq (fun q => nomatch q)) (K ls H locs hL hP hS)
      · cases h
    · cases h
  case lload_n k =>
    dsimp only [mm_ex] at h
    split at h
    · split at h
      · rename_i heq
        cases h
        exact fun ls H locs hL hP hS => lv_lload_n hx hb hdec (mm_k1 hi) (hL.at heq (fun q => nomatch q)) (K ls H locs hL hP hS)
      · cases h
    · cases h
  case lload k =>
    dsimp only [mm_ex] at h
    split at h
    · split at h
      · rename_i heq
        cases h
        have e9 := mm_k1 hi
        subst e9
        exact fun ls H locs hL hP hS => lv_lload hx hb hdec (hL.at heq (fun q => nomatch q)) (K ls H locs hL hP hS)
      · cases h
    · cases h
  case aload_n k =>
    dsimp only [mm_ex] at h
    split at h
    · split at h
      · rename_i heq
        cases h
        exact fun ls H locs hL hP hS => lv_aload_n hx hb hdec (mm_k1 hi) (hL.at heq (fun q => nomatch q)) (K ls H locs hL hP hS)
      · cases h
    · cases h
  case aload k =>
    dsimp only [mm_ex] at h
    split at h
    · split at h
      · rename_i heq
        cases h
        have e9 := mm_k1 hi
        subst e9
        exact fun ls H locs hL hP hS => lv_aload hx hb hdec (hL.at heq (fun q => nomatch q)) (K ls H locs hL hP hS)
      · cases h
    · cases h
  case istore_n k =>
    dsimp only [mm_ex] at h
    split at h
    · rename_i i9 y9 r9
      cases hb2 : (Nat.blt i9 lv.length && !(mm_pl lv i9)) with
      | false => rw [hb2] at h; cases h
      | true =>
        rw [hb2] at h
        cases h
        simp only [Bool.and_eq_true, Bool.not_eq_true'] at hb2
        intro ls H locs hL hP hS
        exact lv_istore_n hx hb hdec (mm_k1 hi) hL.has (by have h2 : lv.length = mm_nL M := hL.2.1; have h3 := Nat.blt_eq.mp hb2.1; omega) rfl (fun ls' h' => K ls' H locs (hL.set1 hb2.2 h') hP hS)
    · cases h
  case istore k =>
    dsimp only [mm_ex] at h
    split at h
    · rename_i i9 y9 r9
      cases hb2 : (Nat.blt i9 lv.length && !(mm_pl lv i9)) with
      | false => rw [hb2] at h; cases h
      | true =>
        rw [hb2] at h
        cases h
        simp only [Bool.and_eq_true, Bool.not_eq_true'] at hb2
        have e9 := mm_k1 hi
        subst e9
        intro ls H locs hL hP hS
        exact lv_istore hx hb hdec hL.has (by have h2 : lv.length = mm_nL M := hL.2.1; have h3 := Nat.blt_eq.mp hb2.1; omega) rfl (fun ls' h' => K ls' H locs (hL.set1 hb2.2 h') hP hS)
    · cases h
  case astore_n k =>
    dsimp only [mm_ex] at h
    split at h
    · rename_i i9 y9 r9
      cases hb2 : (Nat.blt i9 lv.length && !(mm_pl lv i9)) with
      | false => rw [hb2] at h; cases h
      | true =>
        rw [hb2] at h
        cases h
        simp only [Bool.and_eq_true, Bool.not_eq_true'] at hb2
        intro ls H locs hL hP hS
        exact lv_astore_n hx hb hdec (mm_k1 hi) hL.has (by have h2 : lv.length = mm_nL M := hL.2.1; have h3 := Nat.blt_eq.mp hb2.1; omega) rfl (fun ls' h' => K ls' H locs (hL.set1 hb2.2 h') hP hS)
    · cases h
  case astore k =>
    dsimp only [mm_ex] at h
    split at h
    · rename_i i9 y9 r9
      cases hb2 : (Nat.blt i9 lv.length && !(mm_pl lv i9)) with
      | false => rw [hb2] at h; cases h
      | true =>
        rw [hb2] at h
        cases h
        simp only [Bool.and_eq_true, Bool.not_eq_true'] at hb2
        have e9 := mm_k1 hi
        subst e9
        intro ls H locs hL hP hS
        exact lv_astore hx hb hdec hL.has (by have h2 : lv.length = mm_nL M := hL.2.1; have h3 := Nat.blt_eq.mp hb2.1; omega) rfl (fun ls' h' => K ls' H locs (hL.set1 hb2.2 h') hP hS)
    · cases h
  case lstore_n k =>
    dsimp only [mm_ex] at h
    split at h
    · rename_i i9 y9 r9
      cases hb2 : (Nat.blt (i9 + 1) lv.length && !(mm_pl lv i9)) with
      | false => rw [hb2] at h; cases h
      | true =>
        rw [hb2] at h
        cases h
        simp only [Bool.and_eq_true, Bool.not_eq_true'] at hb2
        have e9 := mm_k1 hi
        skip
        intro ls H locs hL hP hS
        exact lv_lstore_n hx hb hdec e9 hL.has (by have h2 : lv.length = mm_nL M := hL.2.1; have h3 := Nat.blt_eq.mp hb2.1; omega) rfl (fun ls' h' => K ls' H locs (hL.set2 hb2.2 h') hP hS)
    · cases h
  case lstore k =>
    dsimp only [mm_ex] at h
    split at h
    · rename_i i9 y9 r9
      cases hb2 : (Nat.blt (i9 + 1) lv.length && !(mm_pl lv i9)) with
      | false => rw [hb2] at h; cases h
      | true =>
        rw [hb2] at h
        cases h
        simp only [Bool.and_eq_true, Bool.not_eq_true'] at hb2
        have e9 := mm_k1 hi
        subst e9
        intro ls H locs hL hP hS
        exact lv_lstore hx hb hdec hL.has (by have h2 : lv.length = mm_nL M := hL.2.1; have h3 := Nat.blt_eq.mp hb2.1; omega) rfl (fun ls' h' => K ls' H locs (hL.set2 hb2.2 h') hP hS)
    · cases h
  case iinc k n =>
    dsimp only [mm_ex] at h
    split at h
    · split at h
      · rename_i i9 c9 _ y9 heq
        cases hb2 : (!(mm_pl lv i9)) with
        | false => rw [hb2] at h; cases h
        | true =>
          rw [hb2] at h
          cases h
          simp only [Bool.not_eq_true'] at hb2
          dsimp only [mm_iok] at hi
          have hi := (Bool.and_eq_true _ _).mp hi
          have e9 := mm_k1 hi.1
          have e8 := of_decide_eq_true hi.2
          subst e9
          cases e8
          intro ls H locs hL hP hS
          obtain ⟨k9, hk9⟩ := List.getElem?_of_mem (mm_asc_mem.mpr ⟨_, heq, (fun q => nomatch q), rfl⟩ : (k, mm_rv ad (.int y9)) ∈ mm_asc ad lv)
          exact lv_iinc hx hb hdec hL.has hk9 rfl (by have h2 : lv.length = mm_nL M := hL.2.1; have h3 := (List.getElem?_eq_some_iff.mp heq).1; omega) rfl (fun ls' h' => K ls' H locs (hL.set1 hb2 h') hP hS)
      · cases h
    · cases h
  case iadd =>
    dsimp only [mm_ex] at h
    split at h
    · cases h
      exact fun ls H locs hL hP hS => lv_iadd hx hb hdec (K ls H locs hL hP hS)
    · cases h
  case isub =>
    dsimp only [mm_ex] at h
    split at h
    · cases h
      exact fun ls H locs hL hP hS => lv_isub hx hb hdec (K ls H locs hL hP hS)
    · cases h
  case imul =>
    dsimp only [mm_ex] at h
    split at h
    · cases h
      exact fun ls H locs hL hP hS => lv_imul hx hb hdec (K ls H locs hL hP hS)
    · cases h
  case iand =>
    dsimp only [mm_ex] at h
    split at h
    · cases h
      exact fun ls H locs hL hP hS => lv_iand hx hb hdec (K ls H locs hL hP hS)
    · cases h
  case ior =>
    dsimp only [mm_ex] at h
    split at h
    · cases h
      exact fun ls H locs hL hP hS => lv_ior hx hb hdec (K ls H locs hL hP hS)
    · cases h
  case ixor =>
    dsimp only [mm_ex] at h
    split at h
    · cases h
      exact fun ls H locs hL hP hS => lv_ixor hx hb hdec (K ls H locs hL hP hS)
    · cases h
  case ishl =>
    dsimp only [mm_ex] at h
    split at h
    · cases h
      exact fun ls H locs hL hP hS => lv_ishl hx hb hdec (K ls H locs hL hP hS)
    · cases h
  case ishr =>
    dsimp only [mm_ex] at h
    split at h
    · cases h
      exact fun ls H locs hL hP hS => lv_ishr hx hb hdec (K ls H locs hL hP hS)
    · cases h
  case ladd =>
    dsimp only [mm_ex] at h
    split at h
    · cases h
      exact fun ls H locs hL hP hS => lv_ladd hx hb hdec (K ls H locs hL hP hS)
    · cases h
  case lsub =>
    dsimp only [mm_ex] at h
    split at h
    · cases h
      exact fun ls H locs hL hP hS => lv_lsub hx hb hdec (K ls H locs hL hP hS)
    · cases h
  case lmul =>
    dsimp only [mm_ex] at h
    split at h
    · cases h
      exact fun ls H locs hL hP hS => lv_lmul hx hb hdec (K ls H locs hL hP hS)
    · cases h
  case iushr =>
    dsimp only [mm_ex] at h
    split at h
    · cases h
      exact fun ls H locs hL hP hS => lv_iushr hx hb hdec rfl (K ls H locs hL hP hS)
    · cases h
  case i2l =>
    dsimp only [mm_ex] at h
    split at h
    · cases h
      exact fun ls H locs hL hP hS => lv_i2l hx hb hdec rfl (K ls H locs hL hP hS)
    · cases h
  case i2b =>
    dsimp only [mm_ex] at h
    split at h
    · cases h
      exact fun ls H locs hL hP hS => lv_i2b hx hb hdec rfl (K ls H locs hL hP hS)
    · cases h
  case i2s =>
    dsimp only [mm_ex] at h
    split at h
    · cases h
      exact fun ls H locs hL hP hS => lv_i2s hx hb hdec rfl (K ls H locs hL hP hS)
    · cases h
  case idiv =>
    dsimp only [mm_ex] at h
    split at h
    · cases h
      exact fun ls H locs hL hP hS => lv_idiv hx hb hdec hc.1 (K ls H locs hL hP hS)
    · cases h
  case irem =>
    dsimp only [mm_ex] at h
    split at h
    · cases h
      exact fun ls H locs hL hP hS => lv_irem hx hb hdec hc.1 (K ls H locs hL hP hS)
    · cases h
  case ldiv =>
    dsimp only [mm_ex] at h
    split at h
    · cases h
      exact fun ls H locs hL hP hS => lv_ldiv hx hb hdec hc.1 (K ls H locs hL hP hS)
    · cases h
  case lrem =>
    dsimp only [mm_ex] at h
    split at h
    · cases h
      exact fun ls H locs hL hP hS => lv_lrem hx hb hdec hc.1 (K ls H locs hL hP hS)
    · cases h
  case lcmp =>
    dsimp only [mm_ex] at h
    split at h
    · cases h
      exact fun ls H locs hL hP hS => W.lcmp hx hb hdec (K ls H locs hL hP hS)
    · cases h
  case dup =>
    dsimp only [mm_ex] at h
    split at h
    · cases h
      exact fun ls H locs hL hP hS => lv_dup (va := .int _) hx hb hdec rfl (K ls H locs hL hP hS)
    · cases h
      exact fun ls H locs hL hP hS => lv_dup (va := .ref _) hx hb hdec rfl (K ls H locs hL hP hS)
    · cases h
  case dup2 =>
    dsimp only [mm_ex] at h
    split at h
    · cases h
      exact fun ls H locs hL hP hS => lv_dup2_11 (va := .int _) (vb := .int _) hx hb hdec rfl rfl (K ls H locs hL hP hS)
    · cases h
      exact fun ls H locs hL hP hS => lv_dup2_11 (va := .int _) (vb := .ref _) hx hb hdec rfl rfl (K ls H locs hL hP hS)
    · cases h
  case goto o =>
    dsimp only [mm_ex] at h
    split at h
    · cases h
      exact fun ls H locs hL hP hS => lv_goto hx hb hdec (of_decide_eq_true hi) (K ls H locs hL hP hS)
    · cases h
  case ifCond cd o =>
    cases cd
    case eq =>
      dsimp only [mm_ex] at h
      split at h
      · cases h
        intro ls H locs hL hP hS
        have K9 := K ls H locs hL hP hS
        dsimp only at K9
        exact lv_if_eq hx hb hdec (of_decide_eq_true hi) (fun q => by rw [if_pos q] at K9; exact K9) (fun q => by rw [if_neg q] at K9; exact K9)
      · cases h
    case ne =>
      dsimp only [mm_ex] at h
      split at h
      · cases h
        intro ls H locs hL hP hS
        have K9 := K ls H locs hL hP hS
        dsimp only at K9
        exact lv_if_ne hx hb hdec (of_decide_eq_true hi) (fun q => by rw [if_pos q] at K9; exact K9) (fun q => by rw [if_neg (fun n => n q)] at K9; exact K9)
      · cases h
    case lt =>
      dsimp only [mm_ex] at h
      split at h
      · cases h
        intro ls H locs hL hP hS
        have K9 := K ls H locs hL hP hS
        dsimp only at K9
        exact lv_if_lt hx hb hdec (of_decide_eq_true hi) (fun q => by rw [if_pos q] at K9; exact K9) (fun q => by rw [if_neg q] at K9; exact K9)
      · cases h
    case ge =>
      dsimp only [mm_ex] at h
      split at h
      · cases h
        intro ls H locs hL hP hS
        have K9 := K ls H locs hL hP hS
        dsimp only at K9
        exact lv_if_ge hx hb hdec (of_decide_eq_true hi) (fun q => by rw [if_pos q] at K9; exact K9) (fun q => by rw [if_neg q] at K9; exact K9)
      · cases h
    case gt =>
      dsimp only [mm_ex] at h
      split at h
      · cases h
        intro ls H locs hL hP hS
        have K9 := K ls H locs hL hP hS
        dsimp only at K9
        exact lv_if_gt hx hb hdec (of_decide_eq_true hi) (fun q => by rw [if_pos q] at K9; exact K9) (fun q => by rw [if_neg q] at K9; exact K9)
      · cases h
    case le =>
      dsimp only [mm_ex] at h
      split at h
      · cases h
        intro ls H locs hL hP hS
        have K9 := K ls H locs hL hP hS
        dsimp only at K9
        exact lv_if_le hx hb hdec (of_decide_eq_true hi) (fun q => by rw [if_pos q] at K9; exact K9) (fun q => by rw [if_neg q] at K9; exact K9)
      · cases h
  case if_icmp cd o =>
    cases cd
    case eq =>
      dsimp only [mm_ex] at h
      split at h
      · cases h
        intro ls H locs hL hP hS
        have K9 := K ls H locs hL hP hS
        dsimp only at K9
        exact lv_icmp_eq hx hb hdec (of_decide_eq_true hi) (fun q => by rw [if_pos q] at K9; exact K9) (fun q => by rw [if_neg q] at K9; exact K9)
      · cases h
    case ne =>
      dsimp only [mm_ex] at h
      split at h
      · cases h
        intro ls H locs hL hP hS
        have K9 := K ls H locs hL hP hS
        dsimp only at K9
        exact lv_icmp_ne hx hb hdec (of_decide_eq_true hi) (fun q => by rw [if_pos q] at K9; exact K9) (fun q => by rw [if_neg (fun n => n q)] at K9; exact K9)
      · cases h
    case lt =>
      dsimp only [mm_ex] at h
      split at h
      · cases h
        intro ls H locs hL hP hS
        have K9 := K ls H locs hL hP hS
        dsimp only at K9
        exact lv_icmp_lt hx hb hdec (of_decide_eq_true hi) (fun q => by rw [if_pos q] at K9; exact K9) (fun q => by rw [if_neg q] at K9; exact K9)
      · cases h
    case ge =>
      dsimp only [mm_ex] at h
      split at h
      · cases h
        intro ls H locs hL hP hS
        have K9 := K ls H locs hL hP hS
        dsimp only at K9
        exact lv_icmp_ge hx hb hdec (of_decide_eq_true hi) (fun q => by rw [if_pos q] at K9; exact K9) (fun q => by rw [if_neg q] at K9; exact K9)
      · cases h
    case gt =>
      dsimp only [mm_ex] at h
      split at h
      · cases h
        intro ls H locs hL hP hS
        have K9 := K ls H locs hL hP hS
        dsimp only at K9
        exact lv_icmp_gt hx hb hdec (of_decide_eq_true hi) (fun q => by rw [if_pos q] at K9; exact K9) (fun q => by rw [if_neg q] at K9; exact K9)
      · cases h
    case le =>
      dsimp only [mm_ex] at h
      split at h
      · cases h
        intro ls H locs hL hP hS
        have K9 := K ls H locs hL hP hS
        dsimp only at K9
        exact lv_icmp_le hx hb hdec (of_decide_eq_true hi) (fun q => by rw [if_pos q] at K9; exact K9) (fun q => by rw [if_neg q] at K9; exact K9)
      · cases h
  case tableswitch d lo hi9 offs =>
    dsimp only [mm_ex] at h
    split at h
    · rename_i ln9 l9 t9 ts a9 r9
      cases h
      dsimp only [mm_iok] at hi
      simp only [Bool.and_eq_true, decide_eq_true_eq] at hi
      obtain ⟨⟨⟨⟨g1, g2⟩, g3⟩, g4⟩, g5⟩ := hi
      subst g1
      intro ls H locs hL hP hS
      have K9 := K ls H locs hL hP hS
      dsimp only at K9
      rcases mm_tsw_spec a9 t9 ts l9 with ⟨j, u, q1, q2, q3⟩ | ⟨q1, q2⟩
      · rw [q3] at K9
        have hj : j < ts.length := (List.getElem?_eq_some_iff.mp q1).1
        have ha : a9.toInt = (l9 : Int) + j := by rw [q2, nI_toInt (by omega)]; omega
        have g6 := congrArg (fun z => z[j]?) g4
        simp only [List.getElem?_map, q1, Option.map_some, Array.getElem?_toList] at g6
        cases ho : offs[j]? with
        | none => rw [ho] at g6; cases g6
        | some o =>
          rw [ho] at g6
          exact lv_tableIn (off := o) hx hb hdec (by omega) (by omega) (by rw [ha, show ((l9 : Int) + j - l9).toNat = j by omega]; exact ho) (Option.some.inj g6) K9
      · rw [q2] at K9
        refine lv_tableOut hx hb hdec ?_ g2 K9
        rcases Int.lt_or_le a9.toInt l9 with w1 | w1
        · exact Or.inl w1
        · rcases Int.lt_or_le hi9 a9.toInt with w2 | w2
          · exact Or.inr w2
          · refine absurd ?_ (q1 (a9.toInt - l9).toNat (by omega))
            apply Int32.toInt_inj.mp
            rw [nI_toInt (by omega)]
            omega
    · cases h
  case lookupswitch d ps =>
    dsimp only [mm_ex] at h
    split at h
    · rename_i ln9 t9 ts a9 r9
      cases h
      dsimp only [mm_iok] at hi
      simp only [Bool.and_eq_true, decide_eq_true_eq] at hi
      obtain ⟨⟨⟨g1, g2⟩, g3⟩, g4⟩ := hi
      intro ls H locs hL hP hS
      have K9 := K ls H locs hL hP hS
      dsimp only at K9
      exact lv_lookup hx hb hdec g3 rfl (mm_lsw_spec a9 pc d t9 g1 ps.toList ts g2 (fun u hu => of_decide_eq_true (List.all_eq_true.mp g4 u hu))) K9
    · cases h
  case getfield n =>
    dsimp only [mm_ex] at h
    split at h
    · rename_i wl ci k9 nest q9 r9
      cases h
      obtain ⟨hq, hc2⟩ := hc
      cases hcl : mm_cls[ci]? with
      | none => simp [mm_iok, mm_fok, hcl] at hi
      | some r0 =>
        obtain ⟨C, T, N⟩ := r0
        simp only [mm_iok, mm_fok, hcl, Bool.and_eq_true, decide_eq_true_eq, Bool.true_or, Bool.false_or] at hi
        obtain ⟨⟨hk, hfin⟩, hlink⟩ := hi
        obtain ⟨hw9, ty, hty, hnm, hty2⟩ := mm_ty ci _ hcl
        have hts : ∀ w ∈ u_ws C T N, w.before args s = true := fun w hw => va_tabs (mm_okW_tab (hw9 w hw).2) rfl (hT w (hw9 w hw).1 (hw9 w hw).2)
        subst hq
        intro ls H locs hL hP hS
        split at hlink
        · exact va_get hx hb hts (fun w hw => hw) hown hK hP q9 (mm_obj rfl (mm_cls_lt hcl)) hcl k9 hk (wd hlink) (fun _ h => h) (mm_fs_at hcl hk) hdec (K ls H locs hL hP hS)
        · exact va_getN hx hb hts (fun w hw => hw) hown hK hP q9 (mm_obj rfl (mm_cls_lt hcl)) hcl k9 hk (wd hlink) (fun _ h => h) (mm_fs_at hcl hk) hdec (K ls H locs hL hP hS)
    · cases h
  case putfield n =>
    dsimp only [mm_ex] at h
    split at h
    · rename_i wl ci k9 nest y9 q9 r9
      cases hrf : mm_rf ci k9 0 with
      | some z => rw [hrf] at h; cases h
      | none =>
      rw [hrf] at h
      dsimp only at h
      have hcc : mm_cl q9 = ci ∧ (mm_fz ci k9 = true → y9 = 0 ∨ y9 = 1) := by
        cases hz : mm_fz ci k9 with
        | true =>
          rw [hz] at h
          cases h
          exact ⟨hc.1, fun _ => hc.2.1⟩
        | false =>
          rw [hz] at h
          cases h
          exact ⟨hc.1, fun z => by cases z⟩
      have hS9 : S' = (pc + 3, lv, r9, mm_u σ q9 k9 y9) := by
        cases hz : mm_fz ci k9 <;> (rw [hz] at h; cases h; rfl)
      subst hS9
      obtain ⟨hq, hz9⟩ := hcc
      cases hcl : mm_cls[ci]? with
      | none => simp [mm_iok, mm_fok, hcl] at hi
      | some r0 =>
        obtain ⟨C, T, N⟩ := r0
        simp only [mm_iok, mm_fok, hcl, Bool.and_eq_true, decide_eq_true_eq, Bool.true_or, Bool.false_or] at hi
        obtain ⟨⟨hk, hfin⟩, hlink⟩ := hi
        obtain ⟨hw9, ty, hty, hnm, hty2⟩ := mm_ty ci _ hcl
        have hts : ∀ w ∈ u_ws C T N, w.before args s = true := fun w hw => va_tabs (mm_okW_tab (hw9 w hw).2) rfl (hT w (hw9 w hw).1 (hw9 w hw).2)
        have hn9 : narrow (ty k9) (.int y9) = .int y9 ∧ fits (ty k9) (.int y9) = true := by
          rcases hty2 k9 hk hrf with e8 | ⟨e8, e7⟩
          · rw [e8]; exact ⟨rfl, rfl⟩
          · rw [e8]
            rcases hz9 e7 with e6 | e6 <;> (subst e6; exact ⟨by decide, by decide⟩)
        subst hq
        intro ls H locs hL hP hS
        split at hlink
        · exact va_put (v := .int y9) hx hb hts (fun w hw => hw) ty hty hnm hown hK hP (hD σ) hS q9 (mm_obj rfl (mm_cls_lt hcl)) hcl k9 hk (wd hlink) (fun _ h => h) hfin (hty k9 hk) hn9.1 hn9.2 (mm_fs_len hcl hk) hdec (fun H1 locs1 hP1 _ hS1 => K ls H1 locs1 hL (by rw [← mm_set_obj rfl (mm_cls_lt hcl) hrf]; exact hP1) hS1)
        · exact va_putN (v := .int y9) hx hb hts (fun w hw => hw) ty hty hnm hown hK hP (hD σ) hS q9 (mm_obj rfl (mm_cls_lt hcl)) hcl k9 hk (wd hlink) (fun _ h => h) hfin (hty k9 hk) hn9.1 hn9.2 (mm_fs_len hcl hk) hdec (fun H1 locs1 hP1 _ hS1 => K ls H1 locs1 hL (by rw [← mm_set_obj rfl (mm_cls_lt hcl) hrf]; exact hP1) hS1)
    · cases h
  case iaload =>
    dsimp only [mm_ex] at h
    split at h
    · rename_i j9 q9 r9
      cases h
      have hlen : 0 < mm_len q9 := Nat.lt_of_le_of_lt (Nat.zero_le _) (Nat.not_le.mp fun q => hc.1 (Or.inr q))
      exact fun ls H locs hL hP hS => va_iald hx hb hK hP q9 0 (mm_row hlen) rfl hc.1 hdec (K ls H locs hL hP hS)
    · cases h
  case iastore =>
    dsimp only [mm_ex] at h
    split at h
    · rename_i y9 j9 q9 r9
      cases h
      have hlen : 0 < mm_len q9 := Nat.lt_of_le_of_lt (Nat.zero_le _) (Nat.not_le.mp fun q => hc.1 (Or.inr q))
      exact fun ls H locs hL hP hS => va_iast hx hb hK hP (hD σ) hS q9 0 (mm_row hlen) rfl hc.1 hdec (fun H1 locs1 hP1 _ hS1 => K ls H1 locs1 hL (by rw [← mm_set_row hlen (fun a ha => mm_u_o ha), mm_u_s]; exact hP1) hS1)
    · cases h
  case aaload =>
    dsimp only [mm_ex] at h
    split at h
    · rename_i j9 q9 r9
      cases h
      obtain ⟨hv, hq, -⟩ := hc
      intro ls H locs hL hP hS
      rcases hq with rfl | rfl | rfl | rfl
      · exact va_aldq (n := 8) (f := fun j => some (ad (mm_el 1 j))) hx hb hK hP 1 1 (mm_at (by decide)) rfl hv hdec (K ls H locs hL hP hS)
      · exact va_aldq (n := 8) (f := fun j => some (ad (mm_el 31 j))) hx hb hK hP 31 2 (mm_at (by decide)) rfl hv hdec (K ls H locs hL hP hS)
      · exact va_aldq (n := 8) (f := fun j => some (ad (mm_el 65 j))) hx hb hK hP 65 1 (mm_at (by decide)) rfl hv hdec (K ls H locs hL hP hS)
      · exact va_aldq (n := 8) (f := fun j => some (ad (mm_el 74 j))) hx hb hK hP 74 1 (mm_at (by decide)) rfl hv hdec (K ls H locs hL hP hS)
    · cases h
  case arraylength =>
    dsimp only [mm_ex] at h
    split at h
    · rename_i q9 r9
      cases h
      exact fun ls H locs hL hP hS => va_alen hx hb hK hP q9 0 (mm_row hc.1) rfl rfl hdec (K ls H locs hL hP hS)
    · cases h
  case invokestatic n =>
    dsimp only [mm_ex] at h
    obtain ⟨w1, w2, w3, w4, w5⟩ := mm_mwords
    obtain ⟨w6, w7, w8⟩ := mm_awords
    split at h
    · rename_i wl b9 a9 r9
      cases hs : Nat.ble (mm_ss r9) 8 with
      | false => rw [hs] at h; cases h
      | true =>
        rw [hs] at h
        cases h
        dsimp only [mm_iok] at hi
        simp only [Bool.and_eq_true, decide_eq_true_eq] at hi
        have hs2 := Nat.le_of_ble_eq_true hs
        exact fun ls H locs hL hP hS => va_mmin hx hb (by rw [hml, hL.1]) hown (wd hi.1) (wd w1) (wd w3) (wd w2) (by omega) (by rw [mm_ssr]; omega) hR.2.2.1 hR.2.2.2 hdec (K ls H locs hL hP hS)
    · rename_i wl b9 a9 r9
      cases hs : Nat.ble (mm_ss r9) 8 with
      | false => rw [hs] at h; cases h
      | true =>
        rw [hs] at h
        cases h
        dsimp only [mm_iok] at hi
        simp only [Bool.and_eq_true, decide_eq_true_eq] at hi
        have hs2 := Nat.le_of_ble_eq_true hs
        exact fun ls H locs hL hP hS => va_mmax hx hb (by rw [hml, hL.1]) hown (wd hi.1) (wd w4) (wd w3) (wd w5) (by omega) (by rw [mm_ssr]; omega) hR.2.2.1 hR.2.2.2 hdec (K ls H locs hL hP hS)
    · rename_i wl n9 dp9 a9 sp9 a8 r9
      cases hs : Nat.ble (mm_ss r9) 8 with
      | false => rw [hs] at h; cases h
      | true =>
        rw [hs] at h
        cases h
        dsimp only [mm_iok] at hi
        simp only [Bool.and_eq_true, decide_eq_true_eq] at hi
        have hs2 := Nat.le_of_ble_eq_true hs
        obtain ⟨c1, c2, c3, c4, c5, c6, c7, -⟩ := hc
        have hnf : nativeFrameWords "java/lang/System" "arraycopy" 5 = 7 := by decide
        exact fun ls H locs hL hP hS => va_copyi hx hb (by rw [hml, hL.1]) hown (wd hi.1) (wd w6) (wd w7) (wd w8) hK hP (hD σ) hS a8 a9 0 0 (mm_row c6) (mm_row c7) rfl rfl rfl c1 c2 c3 c4 c5 (fun _ _ => rfl) (by omega) (by rw [mm_ssr, hnf]; omega) hdec (fun H1 locs1 hP1 _ hS1 => K ls H1 locs1 hL (by show va_P G mm_cls (mm_cells ad cI cK cS (mm_cp σ a8 sp9.toNatClampNeg a9 dp9.toNatClampNeg n9.toNatClampNeg)) H1; rw [← mm_set_cp c7]; exact hP1) hS1)
    · cases h
  all_goals exact absurd (show (none : Option (mm_St × List Prop)) = some (S', cs) from h) (fun q => nomatch q)
end MMstep
