/-! calls, ends, and the whole method -/
def mm_Wd (ad : Nat → Nat) (G : va_G) (cI cK cS : ClassId) (σ : mm_Sg) (U : State) : Prop := va_P G mm_cls (mm_cells ad cI cK cS σ) U.heap ∧ va_K G mm_cls (mm_tys cI cK cS) U ∧ mm_T U
def mm_A (ad : Nat → Nat) : Nat → Prop := fun q => ∃ k, k < 83 ∧ q = ad k
def mm_Q (ad : Nat → Nat) (G : va_G) (cI cK cS : ClassId) (R : Option Value × mm_Sg) : Array Value → State → Outcome → State → Prop := fun _ st oc t => oc = .returned (R.1.map (mm_rv ad)) ∧ mm_Wd ad G cI cK cS R.2 t ∧ va_F (mm_A ad) st t
def mm_rm (lv : Nat) : Room := { frames := lv, cells := 0, slots := 0, locals := 38 * lv }
abbrev mm_ws (M : mm_Me) : List Cond := [Cond.code (mm_y M) (mm_by M) (mm_nL M) (mm_rt M)]
def mm_Mt (l : Launch) (ad : Nat → Nat) (G : va_G) (cI cK cS : ClassId) (M : mm_Me) (as : List Value) (σ : mm_Sg) (R : Option Value × mm_Sg) : Prop :=
  Met l (mm_y M) (mm_ws M) (mm_rm (mm_lv M)) (va_Pc (as.map (mm_rv ad)) (mm_Wd ad G cI cK cS σ)) (mm_Q ad G cI cK cS R) 0 0 (mm_A ad)
theorem mm_blind {av : List Value} {ad : Nat → Nat} {G : va_G} {cI cK cS : ClassId} {σ : mm_Sg} : FrameBlind (va_Pc av (mm_Wd ad G cI cK cS σ)) := fun a U g mk q =>
  ⟨q.1, q.2.1, va_K.moved (u := U) (U := U.calling g mk a) (Vm.Alike.refl U.vm) q.2.2.1, mm_T.same (s := U) (U := U.calling g mk a) q.2.2.2 rfl⟩
theorem mm_D {ad : Nat → Nat} {cI cK cS : ClassId} (hinj : ∀ i j, i < 83 → j < 83 → ad i = ad j → i = j) (σ : mm_Sg) : va_D (mm_A ad) (mm_cells ad cI cK cS σ) := by
  have hlt : ∀ (k : Nat) (q : Nat × va_E), (mm_cells ad cI cK cS σ)[k]? = some q → k < 83 ∧ q.1 = ad k := by
    intro k q h
    have h1 : k < 83 := by
      have := (List.getElem?_eq_some_iff.mp h).1
      unfold mm_cells at this
      simpa using this
    rw [mm_at h1] at h
    cases h
    exact ⟨h1, rfl⟩
  refine ⟨fun i j p q hi hj e => ?_, fun k q hk => ⟨k, hlt k q hk⟩⟩
  obtain ⟨a1, a2⟩ := hlt i p hi
  obtain ⟨b1, b2⟩ := hlt j q hj
  exact hinj i j a1 b1 (by rw [← a2, ← b2, e])
section MMcalls
variable {p : Program} {l : Launch} {e : Env} {R : Room} {s : State} {m : MethodId} {args : Array Value} {below : List Frame} {meth : Method} {c : Code} {cells slots : Nat} {Q : State → Prop} {ad : Nat → Nat} {G : va_G} {cI cK cS : ClassId} {A : Nat → Prop} {H0 H : Heap} {locs : List Loc}
theorem mm_calls {pc : Nat} {ls : Array Slot} {rest st0 : List Value} {a : Array Value} {free : Addr → Prop} {X : Option Value × mm_Sg} (hr : va_Run p l e R s m args below meth c H locs cells slots 0 0 (F0 m pc ls st0) rest (mm_Q ad G cI cK cS X a) free) (hS : va_S A H0 H locs) (hA : ∀ q, mm_A ad q → A q) (hf : ∀ q, free q → A q)
    (kk : ∀ (t : State) (H1 : Heap) (locs1 : List Loc), t.heap = H1 → s.vm.Alike t.vm → mm_Wd ad G cI cK cS X.2 t → va_S A H0 H1 locs1 → W p l e R s m args below meth c H1 locs1 cells slots Q (F0 m (pc + 3) ls ((X.1.map (mm_rv ad)).toList ++ rest))) : W p l e R s m args below meth c H locs cells slots Q (F0 m pc ls st0) := by
  intro T hT X0
  obtain ⟨v, st₀, t, T', L, h0, X', hL, e1, e2, ⟨hv, hb, hz, hk⟩, st⟩ := hr T hT X0
  have hv : v = X.1.map (mm_rv ad) := by cases hv; rfl
  subst hv
  rw [h0] at hz hk
  obtain ⟨t2, a1, b1⟩ := kk t T'.heap (locs ++ L) e1.symm (by rw [← e2]; exact X'.warmed.alike) hb
    ⟨Nat.le_trans hS.1 (by rw [e1]; exact hz), fun q h1 h2 => by rw [e1, hk q (Nat.lt_of_lt_of_le h1 hS.1) (fun z => h2 (hA q z))]; exact hS.2.1 q h1 h2, fun q hq => by
      rcases List.mem_append.mp hq with h | h
      · exact hS.2.2 q h
      · exact hf _ (hL q h)⟩ T' rfl X'
  exact ⟨t2, st t2 a1, b1⟩
/-- super.m() of a method that stands higher up than the class that is named -/
theorem mm_runSU6 {x y : MethodName} {bytes cc : ByteArray} {maxL nL n index : Nat} {ret : Option FieldType} {ws : List Cond} {rm : Room} {Pc : Array Value → State → Prop} {Qc : Array Value → State → Outcome → State → Prop} {free : Addr → Prop} {Ts : List Cond} {own C : String} {cC : ClassId} {b : Addr} {As rest : List Value} {g : JFrame}
    (hat : ClassAt s C cC) (S : CallFix p m c cc nL s args Ts own) (hM : Met l y ws rm Pc Qc 0 0 free) (hrc : rm.cells = 0) (hrs : rm.slots = 0) (hfr : rm.frames + 1 ≤ R.frames) (hlo : 8 + (maxL + 11) + rm.locals ≤ R.locals) (hws : ∀ w ∈ ws, ∀ (a' : Array Value) (U : State), s.WarmedH U.vm → w.before a' U = true) (hcw : Cond.code y bytes maxL ret ∈ ws)
    (hini : (Cond.initialized y.cls).before args s = true) (hcode : (Cond.code y bytes maxL ret).before args s = true) (hlink : (Cond.methodLink own index x).before args s = true) (hyx : y = ⟨y.cls, x.name, x.desc⟩) (hsame : (Cond.sameMethod x.cls y.cls x.name x.desc).before args s = true) (hsup : (Cond.superclass own x.cls).before args s = true) (hsup2 : (Cond.superclass x.cls y.cls).before args s = true)
    (hinst : (Cond.instanceMethod y).before args s = true) (hno : x.name ≠ "<init>") (hlen : ∀ sig, parseMethodDescriptor y.desc = some sig → n = sig.parameters.length) (hp : PreV s H C b Pc As)
    (hg : g.method = m) (hn : As.length = n) (hsize : g.locals.size = nL) (hstack : g.stack = As.reverse ++ .ref b :: rest) (hW : 2 * g.monitorRoom + (rest.map fun v => v.category).sum ≤ 8) (hdg : decode cc g.pc = .ok (.invokespecial index, 3)) (hf : cells + 0 ≤ R.cells ∧ slots + 0 ≤ R.slots) :
    va_Run p l e R s m args below meth c H locs cells slots 0 0 g rest (Qc (Value.ref b :: As).toArray) (free) := by
  have hK : Back l R p e below s args y 3 8 (PreOf R 0 0 Pc) (PostOf Qc 0 0 free) := back_of (bytes := bytes) (maxL := maxL) (ret := ret) hM hp.1 hrc hrs hfr hlo hws hcw (fun a' U hW => word_at hW (Or.inl (by first | rfl | simp [Cond.onTables, Cond.keeps, Cond.steady])) hini)
  obtain ⟨hx, hb, hml, ho, -⟩ := S
  obtain ⟨-, ⟨cellB, hcB, hoB, hclB⟩, hPc⟩ := hp
  obtain ⟨hfc, kB, hkB, -⟩ := hat
  cases hfc.symm.trans hclB
  obtain ⟨mk, methM, hnamed, hmethM, hstM, habM⟩ := Cond.instanceMethod_spec hinst
  obtain ⟨methM', cM, hmethM', -, -, -, -, -, -, hsigM⟩ := Cond.code_spec hnamed hcode
  cases hmethM.symm.trans hmethM'
  obtain ⟨ps, dk, kp, hps, hdk, hkp, hsuper, -, -, hnid⟩ := Cond.superclass_spec ho hsup
  obtain ⟨ps2, dk2, kp2, hps2, hdk2, hkp2, hsuper2, -, -, -⟩ := Cond.superclass_spec hps hsup2
  have hn2 : s.methodNamed? ⟨y.cls, x.name, x.desc⟩ = some mk := hyx ▸ hnamed
  have hpm : ps2 = mk.cls := Option.some.inj (hps2.symm.trans (findClass_of_methodNamed hnamed))
  have hlt : ps < s.vm.classes.size := (Array.getElem?_eq_some_iff.mp hdk2).1
  have hsub : s.vm.isSubclass ps mk.cls = true := by
    rw [← hpm]
    obtain ⟨z, hz⟩ : ∃ z, s.vm.classes.size = z + 1 := Nat.exists_eq_succ_of_ne_zero (Nat.ne_of_gt (Nat.lt_of_le_of_lt (Nat.zero_le _) hlt))
    simp [Vm.isSubclass, Vm.isSubclassAux, hz, hdk2, hsuper2]
  intro T hT X
  obtain ⟨vm₁, X₁, hstep₁⟩ := X.invokespecialUp hx ho hlink hsame hn2 hmethM hstM habM hno hdk hnid hps hsuper hsub (a := b) (cell := cellB) (by rw [hT]; exact hcB)
    (fun z h => by rw [h] at hoB; cases hoB) hkB (g := g) hg (argsL := As) (rest := rest) (hn.trans (hlen _ hsigM)) hstack (by rw [hb]; exact hdg)
  obtain ⟨v, B, X', hpost, hsteps⟩ := hK m meth c ⟨T.setVm vm₁, locs, cells, slots⟩ { g with stack := rest } (.invokespecial index) mk (Value.ref b :: As).toArray X₁ hg (hsize.trans hml.symm) (by rw [hb]; exact hdg) hW (X₁.named hnamed) ⟨hf.1, hf.2, hPc (T.setVm vm₁) hT X₁.warmed⟩
  obtain ⟨g', mk', t, L, e1, e2, hq, h1, hL, h2, h3⟩ := hpost
  obtain ⟨U', l2, c2, s2⟩ := B
  dsimp only [Pt.U, Pt.locs, Pt.cells, Pt.slots] at X' e1 e2 h1 h2 h3 hsteps
  subst h1; subst h2; subst h3
  exact ⟨v, (T.setVm vm₁).calling g' mk' (Value.ref b :: As).toArray, t, U', L, hT, X', hL, e1, e2, hq, fun target h => hstep₁ _ (by rw [doInvoke_state]; exact hsteps.trans h)⟩
theorem mm_facts {M : mm_Me} (hM : mm_good M = true) {s : State} (hT : mm_T s) (args : Array Value) : (Cond.code (mm_y M) (mm_by M) (mm_nL M) (mm_rt M)).before args s = true ∧ (∀ w ∈ mm_ws M, ∀ (a' : Array Value) (U : State), s.WarmedH U.vm → w.before a' U = true) ∧ (Cond.initialized (mm_y M).cls).before args s = true ∧ ((mm_xs M).getD 3 0 = 1 → (Cond.static (mm_y M)).before args s = true) ∧ ((mm_xs M).getD 3 0 = 0 → (Cond.instanceMethod (mm_y M)).before args s = true) ∧ plainName (mm_y M).cls = true ∧ mm_nL M ≤ 19 ∧ (∀ sig, parseMethodDescriptor (mm_y M).desc = some sig → (mm_xs M).getD 4 0 = sig.parameters.length) ∧ ((mm_y M).cls ≠ "java/lang/invoke/MethodHandle" ∧ (mm_y M).cls ≠ "java/lang/invoke/VarHandle") := by
  unfold mm_good at hM
  have h := ((Bool.and_eq_true _ _).mp hM).1
  unfold mm_mok at h
  split at h
  · rename_i wc wi wk st np hxs
    simp only [Bool.and_eq_true, decide_eq_true_eq] at h
    obtain ⟨⟨⟨⟨⟨⟨⟨h1, h2⟩, h3⟩, h4⟩, h5⟩, h6⟩, h7⟩, h8⟩ := h
    rw [hxs]
    refine ⟨hT.at h1 args, fun w hw a' U hW => ?_, hT.at h2 args, fun e9 => ?_, fun e9 => ?_, h4, h5, fun sig hs => ?_, h7⟩
    · rw [List.mem_singleton.mp hw]
      exact mm_warm (mm_w_in h1).2 hW (hT.at h1 args)
    · have e9 : st = 1 := e9
      subst e9
      exact hT.at h3 args
    · have e9 : st = 0 := e9
      subst e9
      exact hT.at h3 args
    · rw [hs] at h6
      exact (Option.some.inj h6).symm
  · cases h
set_option maxHeartbeats 4000000 in
/-- a call of a method that keeps its contract -/
theorem mm_callsnd {M M' : mm_Me} {as rest lv st : List Value} {σ σ' : mm_Sg} {r : Option Value} {pc : Nat} (hM : (mm_code M).all (mm_eok M) = true) (hM' : mm_good M' = true) (F : mm_Fr p s m c ad G cI cK cS A M) (hR : 38 * mm_lv M ≤ R.locals ∧ mm_lv M ≤ R.frames ∧ cells ≤ R.cells ∧ slots ≤ R.slots) (hA : ∀ q, mm_A ad q → A q)
    (hMt : mm_Mt l ad G cI cK cS M' as σ (r, σ')) (hcall : mm_call M (pc, lv, st, σ) M' as rest) (K : mm_WW p l e R s m args below meth c cells slots Q ad G cI cK cS A H0 (mm_nL M) (pc + 3, lv, r.toList ++ rest, σ')) : mm_WW p l e R s m args below meth c cells slots Q ad G cI cK cS A H0 (mm_nL M) (pc, lv, st, σ) := by
  obtain ⟨i, x, v, hf, hisc, htg, hst, hlen, hss, hsl, hrc⟩ := hcall
  obtain ⟨hx, hb, hml, hown, hK, hT, hD⟩ := F
  dsimp only at hf hst
  have hok : mm_eok M (pc, i, x, v) = true := by
    exact List.all_eq_true.mp hM _ (mm_fnd_mem _ _ _ hf)
  unfold mm_eok at hok
  simp only [Bool.and_eq_true, decide_eq_true_eq] at hok
  obtain ⟨hdec, hi⟩ := hok
  obtain ⟨f1, f2, f3, f4, f5, f6, f7, f8, f9⟩ := mm_facts hM' hT args
  have wd : ∀ {i : Nat} {w : Cond}, mm_w i w = true → w.before args s = true := fun h => hT.at h args
  intro ls H locs hL hP hS
  subst hst
  have hpre : ∀ U : State, U.heap = H → s.WarmedH U.vm → va_Pc (as.map (mm_rv ad)) (mm_Wd ad G cI cK cS σ) (as.map (mm_rv ad)).toArray U := fun U hU hW => ⟨rfl, by rw [hU]; exact hP, va_K.moved hW.alike hK, hT.warm hW⟩
  have CF : CallFix p m c (mm_by M) (mm_nL M) s args [] (mm_y M).cls := ⟨hx, hb, hml, hown, fun _ h => by cases h⟩
  have hW8 : 2 * (F0 m pc ls ((as.reverse ++ rest).map (mm_rv ad))).monitorRoom + ((rest.map (mm_rv ad)).map fun v => v.category).sum ≤ 8 := lv_room (by rw [mm_ssr]; exact hss)
  have hcs : cells + 0 ≤ R.cells ∧ slots + 0 ≤ R.slots := ⟨hR.2.2.1, hR.2.2.2⟩
  have fin : va_Run p l e R s m args below meth c H locs cells slots 0 0 (F0 m pc ls ((as.reverse ++ rest).map (mm_rv ad))) (rest.map (mm_rv ad)) (mm_Q ad G cI cK cS (r, σ') (as.map (mm_rv ad)).toArray) (mm_A ad) → W p l e R s m args below meth c H locs cells slots Q (F0 m pc ls ((as.reverse ++ rest).map (mm_rv ad))) := by
    intro hr
    refine mm_calls hr hS hA hA (fun t H1 locs1 e1 e2 hWd hS1 => ?_)
    have := K ls H1 locs1 hL (by rw [← e1]; exact hWd.1) hS1
    cases r with
    | none => exact this
    | some y => exact this
  have room : mm_lv M' < mm_lv M → (mm_rm (mm_lv M')).frames + 1 ≤ R.frames ∧ 8 + (mm_nL M' + 11) + (mm_rm (mm_lv M')).locals ≤ R.locals := by
    intro h
    show mm_lv M' + 1 ≤ R.frames ∧ 8 + (mm_nL M' + 11) + 38 * mm_lv M' ≤ R.locals
    omega
  have hrs : ∀ a9 : List Value, ((a9.reverse ++ rest).map (mm_rv ad)) = (a9.map (mm_rv ad)).reverse ++ rest.map (mm_rv ad) := fun a9 => by rw [List.map_append, List.map_reverse]
  -- the receiver
  have recv : ∀ (ci q : Nat) (qc : vw_C), mm_cls[ci]? = some qc → mm_cl q = ci → ∃ cell : Cell, H[ad q]? = some cell ∧ cell.vm.isStatics = false ∧ s.vm.findClass qc.1 = some cell.cls := by
    intro ci q qc h1 h2
    exact va_recv hK hP h1 (mm_obj h2 (mm_cls_lt h1))
  apply fin
  cases i with
  | invokestatic n =>
    have hk : mm_cok M n x = true ∧ x.headD 9 < 2 := by
      dsimp only [mm_iok] at hi
      split at hi
      · simp [mm_tg] at htg
      · simp [mm_tg] at htg
      · simp [mm_tg] at htg
      · simpa using hi
    obtain ⟨hk, hlt⟩ := hk
    unfold mm_cok at hk
    split at hk
    · rename_i wl n9 t9
      have htg : mm_tab[t9]? = some M' := htg
      rw [htg] at hk
      simp only [mm_lk, Bool.and_eq_true, decide_eq_true_eq] at hk
      obtain ⟨⟨⟨k1, k2⟩, k3⟩, k4⟩ := hk
      have r9 := room k4
      exact va_runS (As := as.map (mm_rv ad)) CF hMt ⟨⟨rfl, rfl, r9.1, r9.2, f2, List.mem_singleton.mpr rfl, f1, f3, f9, f8, wd k1⟩, f4 k2⟩ ⟨mm_blind, hpre⟩ rfl (by rw [List.length_map, hlen, k3]; rfl) hL.1 (hrs as) hW8 hdec hcs
    · rename_i wl n9 t9
      have htg : mm_tab[t9]? = some M' := htg
      rw [htg] at hk
      simp only [mm_lk, Bool.and_eq_true, decide_eq_true_eq] at hk
      obtain ⟨⟨⟨k1, k2⟩, k3⟩, k4⟩ := hk
      have r9 := room k4
      exact va_runSN (As := as.map (mm_rv ad)) (host := mm_host) CF hMt ⟨⟨⟨rfl, rfl, r9.1, r9.2, f2, List.mem_singleton.mpr rfl⟩, f1, f3, f9, f8, wd k1⟩, f4 k2, trivial⟩ ⟨mm_blind, hpre⟩ rfl (by rw [List.length_map, hlen, k3]; rfl) hL.1 (hrs as) hW8 hdec hcs
    · simp at hlt
    · simp at hlt
    · simp at hlt
    · simp at hlt
    · simp at hlt
    · cases hk
  | invokevirtual n =>
    dsimp only [mm_iok] at hi
    simp only [Bool.and_eq_true, decide_eq_true_eq] at hi
    obtain ⟨⟨hk, hge⟩, hlt⟩ := hi
    unfold mm_cok at hk
    split at hk
    · simp at hge
    · simp at hge
    · rename_i wl n9 t9 ws9 ci9
      have htg : mm_tab[t9]? = some M' := htg
      rw [htg] at hk
      obtain ⟨q9, hq1, hq2⟩ := (show ∃ q, as.head? = some (.ref q) ∧ mm_cl q = ci9 from hrc)
      cases hcl : mm_cls[ci9]? with
      | none => simp [hcl] at hk
      | some qc =>
        simp only [hcl, mm_lk, Bool.and_eq_true, decide_eq_true_eq] at hk
        obtain ⟨⟨⟨⟨k1, k2⟩, k3⟩, k4⟩, k5⟩ := hk
        have r9 := room k4
        obtain ⟨as9, rfl⟩ : ∃ as9, as = .ref q9 :: as9 := by
          cases as with
          | nil => cases hq1
          | cons a as9 => cases hq1; exact ⟨as9, rfl⟩
        exact va_runV (C := qc.1) (b := ad q9) (As := as9.map (mm_rv ad)) CF hMt ⟨⟨rfl, rfl, r9.1, r9.2, f2, List.mem_singleton.mpr rfl, f1, f3, f9, f8, wd k1⟩, f5 k2, wd k5⟩ ⟨mm_blind, recv ci9 q9 qc hcl hq2, hpre⟩ rfl (by have := hlen; simp at this; rw [List.length_map]; omega) hL.1 (by rw [hrs]; simp [mm_rv]) hW8 hdec hcs
    · rename_i wl n9 t9 ws9 ci9
      have htg : mm_tab[t9]? = some M' := htg
      rw [htg] at hk
      obtain ⟨q9, hq1, hq2⟩ := (show ∃ q, as.head? = some (.ref q) ∧ mm_cl q = ci9 from hrc)
      cases hcl : mm_cls[ci9]? with
      | none => simp [hcl] at hk
      | some qc =>
        simp only [hcl, mm_lk, Bool.and_eq_true, decide_eq_true_eq] at hk
        obtain ⟨⟨⟨⟨k1, k2⟩, k3⟩, k4⟩, k5⟩ := hk
        have r9 := room k4
        obtain ⟨as9, rfl⟩ : ∃ as9, as = .ref q9 :: as9 := by
          cases as with
          | nil => cases hq1
          | cons a as9 => cases hq1; exact ⟨as9, rfl⟩
        exact va_runVN (C := qc.1) (b := ad q9) (As := as9.map (mm_rv ad)) (host := mm_host) CF hMt ⟨⟨⟨rfl, rfl, r9.1, r9.2, f2, List.mem_singleton.mpr rfl⟩, f1, f3, f9, f8, wd k1⟩, f5 k2, wd k5⟩ ⟨mm_blind, recv ci9 q9 qc hcl hq2, hpre⟩ rfl (by have := hlen; simp at this; rw [List.length_map]; omega) hL.1 (by rw [hrs]; simp [mm_rv]) hW8 hdec hcs
    · rename_i wl n9 t9
      obtain ⟨q9, hq1, hq2⟩ := (show ∃ q, as.head? = some (.ref q) ∧ mm_cl q < 12 from hrc)
      obtain ⟨as9, rfl⟩ : ∃ as9, as = .ref q9 :: as9 := by
        cases as with
        | nil => cases hq1
        | cons a as9 => cases hq1; exact ⟨as9, rfl⟩
      cases hvt : mm_vt[t9]? with
      | none => simp [hvt] at hk
      | some vt =>
        obtain ⟨v0, rows⟩ := vt
        simp only [hvt] at hk
        split at hk
        · rename_i xm wsm wi rows9 heq
          cases heq
          cases hxm : mm_tab[xm]? with
          | none => simp [hxm] at hk
          | some M0 =>
            simp only [hxm, mm_lk, Bool.and_eq_true, decide_eq_true_eq] at hk
            obtain ⟨⟨⟨⟨k1, k2⟩, k3⟩, k4⟩, k5⟩ := hk
            have k6 := List.all_eq_true.mp k5 (mm_cl q9) (List.mem_range.mpr hq2)
            have htg : (match rows[mm_cl q9]? with
              | some (m :: _) => mm_tab[m]?
              | _ => none) = some M' := by
              have h9 := htg
              simp only [mm_tg, hvt] at h9
              exact h9
            obtain ⟨qc, hcl⟩ : ∃ qc, mm_cls[mm_cl q9]? = some qc := ⟨_, List.getElem?_eq_getElem hq2⟩
            rw [hcl] at k6
            split at k6
            · rename_i m9 ws9 q8 h8 h7
              cases h7
              rw [h8] at htg
              dsimp only at htg
              rw [htg] at k6
              simp only [Bool.and_eq_true, decide_eq_true_eq] at k6
              obtain ⟨⟨j1, j2⟩, j3⟩ := k6
              have r9 := room j3
              have hM0 : mm_good M0 = true := mm_chk _ (List.mem_of_getElem? hxm)
              obtain ⟨u1, u2, u3, u4, u5, u6, u7, u8, u9⟩ := mm_facts hM0 hT args
              exact va_runU (x := mm_y M0) (y := mm_y M') (C := qc.1) (owner := (mm_y M0).cls) (b := ad q9) (As := as9.map (mm_rv ad)) CF hMt ⟨⟨rfl, rfl, r9.1, r9.2, f2, List.mem_singleton.mpr rfl⟩, f1, f3, u9, u8, wd k1, wd k2, va_Decl.of (wd k3) u1, wd j1, f5 j2⟩ ⟨mm_blind, recv _ q9 qc hcl rfl, hpre⟩ rfl (by have := hlen; simp at this; rw [List.length_map]; omega) hL.1 (by rw [hrs]; simp [mm_rv]) hW8 hdec hcs
            · rename_i h8 h7
              first | (rw [h7] at htg; cases htg) | (simp_all)
            · rename_i h8
              rw [h8] at htg
              cases htg
            · cases k6
        · cases hk
    · simp at hlt
    · simp at hlt
    · cases hk
  | invokespecial n =>
    dsimp only [mm_iok] at hi
    simp only [Bool.and_eq_true, decide_eq_true_eq] at hi
    obtain ⟨hk, hge⟩ := hi
    unfold mm_cok at hk
    split at hk
    · simp at hge
    · simp at hge
    · simp at hge
    · simp at hge
    · simp at hge
    · rename_i wl n9 t9 wsm wsp
      have htg : mm_tab[t9]? = some M' := htg
      rw [htg] at hk
      obtain ⟨q9, hq1, hq2⟩ := (show ∃ q, as.head? = some (.ref q) ∧ mm_cl q < 12 from hrc)
      obtain ⟨as9, rfl⟩ : ∃ as9, as = .ref q9 :: as9 := by
        cases as with
        | nil => cases hq1
        | cons a as9 => cases hq1; exact ⟨as9, rfl⟩
      simp only [mm_lk, Bool.and_eq_true, decide_eq_true_eq] at hk
      obtain ⟨⟨⟨⟨⟨⟨k1, k2⟩, k3⟩, k4⟩, k5⟩, k6⟩, k7⟩ := hk
      have r9 := room k4
      obtain ⟨qc, hcl⟩ : ∃ qc, mm_cls[mm_cl q9]? = some qc := ⟨_, List.getElem?_eq_getElem hq2⟩
      exact va_runSU (C := qc.1) (b := ad q9) (As := as9.map (mm_rv ad)) (hK.1 _ _ hcl).2 CF hMt ⟨⟨rfl, rfl, r9.1, r9.2, f2, List.mem_singleton.mpr rfl⟩, wd k1, wd k5, wd k6, f5 k2, f3, f1, k7, f8⟩ ⟨mm_blind, recv _ q9 qc hcl rfl, hpre⟩ rfl (by have := hlen; simp at this; rw [List.length_map]; omega) hL.1 (by rw [hrs]; simp [mm_rv]) hW8 hdec hcs
    · rename_i wl n9 t9 wsm wsp wsq wdc
      have htg : mm_tab[t9]? = some M' := htg
      rw [htg] at hk
      obtain ⟨q9, hq1, hq2⟩ := (show ∃ q, as.head? = some (.ref q) ∧ mm_cl q < 12 from hrc)
      obtain ⟨as9, rfl⟩ : ∃ as9, as = .ref q9 :: as9 := by
        cases as with
        | nil => cases hq1
        | cons a as9 => cases hq1; exact ⟨as9, rfl⟩
      simp only [mm_lk, Bool.and_eq_true, decide_eq_true_eq] at hk
      obtain ⟨⟨⟨⟨⟨⟨⟨⟨k1, k2⟩, k3⟩, k4⟩, k5⟩, k6⟩, k7⟩, k8⟩, k9⟩ := hk
      have r9 := room k4
      obtain ⟨qc, hcl⟩ : ∃ qc, mm_cls[mm_cl q9]? = some qc := ⟨_, List.getElem?_eq_getElem hq2⟩
      exact mm_runSU6 (x := ⟨RX2, (mm_y M').name, (mm_y M').desc⟩) (C := qc.1) (b := ad q9) (As := as9.map (mm_rv ad)) (hK.1 _ _ hcl).2 CF hMt rfl rfl r9.1 r9.2 f2 (List.mem_singleton.mpr rfl) f3 f1 (wd k1) rfl (wd k5) (wd k6) (wd k7) (f5 k2) k9 f8 ⟨mm_blind, recv _ q9 qc hcl rfl, hpre⟩ rfl (by have := hlen; simp at this; rw [List.length_map]; omega) hL.1 (by rw [hrs]; simp [mm_rv]) hW8 hdec hcs
    · cases hk
  | _ => cases hisc
end MMcalls
