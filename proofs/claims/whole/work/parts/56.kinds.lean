/-! constructors: what they need, two rows that name the array classes -/
def mm_E (cI cK cS : ClassId) (G : va_G) (U : State) : Prop := va_K G mm_cls (mm_tys cI cK cS) U ∧ mm_T U ∧ (Cond.arrayClass .int).before #[] U = true ∧ va_AO RX4 U ∧ va_AO RX8 U
theorem mm_E.warm {cI cK cS : ClassId} {G : va_G} {s U : State} (h : mm_E cI cK cS G s) (hW : s.WarmedH U.vm) : mm_E cI cK cS G U := ⟨va_K.moved hW.alike h.1, h.2.1.warm hW, word_at hW (Or.inr ⟨_, rfl⟩) h.2.2.1, h.2.2.2.1.moved hW.alike, h.2.2.2.2.moved hW.alike⟩
theorem mm_E.blind {cI cK cS : ClassId} {G : va_G} {U : State} {g : JFrame} {mk : MethodId} {a : Array Value} (h : mm_E cI cK cS G U) : mm_E cI cK cS G (U.calling g mk a) := h.warm (State.WarmedH.refl U)
theorem xi_ts {s : State} (hT : mm_T s) (ci : Nat) (q : vw_C) (h : mm_cls[ci]? = some q) (args : Array Value) : ∀ w ∈ u_ws q.1 q.2.1 q.2.2, w.before args s = true := fun w hw => by
  have h1 := (mm_ty ci q h).1 w hw
  exact hT.mem h1.1 h1.2 args
theorem xi_cg (cA : ClassId) {n : Nat} {f g : Nat → Option Nat} (h : ∀ j, j < n → f j = g j) : vp_cell cA (n, .inr (.inr (.inr (.inr f)))) = vp_cell cA (n, .inr (.inr (.inr (.inr g)))) := by
  rw [vp_cell_q, vp_cell_q]
  unfold arrV
  congr 2
  funext j
  show va_rf (f j.val) = va_rf (g j.val)
  rw [h j.val j.isLt]
theorem xi_P_cg {D : va_G} {cl : List vw_C} {ws : va_W} {H : Heap} {k q n : Nat} {cA : ClassId} {f g : Nat → Option Nat} (hP : va_P D cl ws H) (hk : ws[k]? = some (q, .inl (cA, n, .inr (.inr (.inr (.inr f)))))) (h : ∀ j, j < n → f j = g j) : va_P D cl (ws.set k (q, .inl (cA, n, .inr (.inr (.inr (.inr g)))))) H := fun i x hx => by
  rw [List.getElem?_set] at hx
  by_cases e : k = i
  · subst e
    rw [if_pos rfl] at hx
    split at hx
    · cases hx
      have h1 := hP k _ hk
      show H[q]? = some (vp_cell _ _)
      rw [← xi_cg cA h]
      exact h1
    · cases hx
  · rw [if_neg e] at hx
    exact hP i x hx
section XI
variable {p : Program} {l : Launch} {e : Env} {R : Room} {s : State} {m : MethodId} {args : Array Value} {below : List Frame} {meth : Method} {c : Code} {H : Heap} {locs : List Loc} {cells slots : Nat} {Q : State → Prop} {A : Nat → Prop} {H0 : Heap} {pc : Nat} {ls : Array Slot} {rest : List Value}
theorem xi_newI {cc : ByteArray} {D : va_G} {cl : List vw_C} {tys : List (ClassId × FieldType)} {ws : va_W} {cI : ClassId} (hx : p.tables.exec = Jvm.exec) (hb : c.code = cc) (hN : (Cond.arrayClass .int).before args s = true) (hK : va_K D cl tys s) (t0 : Nat) (ht : tys[t0]? = some (cI, .int)) (hP : va_P D cl ws H) (hD : va_D A ws) (hS : va_S A H0 H locs) (hA : ∀ q, H0.size ≤ q → A q)
    {n : Int32} {N' : Nat} (hn : ¬ n < 0) (hN' : n.toNatClampNeg = N') (hbytes : N' * componentBytes .int ≤ 536870912) (hcells : cells + 1 ≤ R.cells) (hslots : slots + N' ≤ R.slots) (hdg : decode cc pc = .ok (.newarray .int, 2))
    (kk : ∀ (q : Nat) (H1 : Heap), va_P D cl (ws ++ [(q, .inl (cI, N', .inl (fun _ => 0)))]) H1 → va_D A (ws ++ [(q, .inl (cI, N', .inl (fun _ => 0)))]) → va_S A H0 H1 locs → W p l e R s m args below meth c H1 locs (cells + 1) (slots + N') Q (F0 m (pc + 2) ls (.ref q :: rest))) : W p l e R s m args below meth c H locs cells slots Q (F0 m pc ls (.int n :: rest)) := by
  refine va_newa (atype := .int) (a0 := (N', .inl (fun _ => 0))) hx hb hN rfl hK hP hD hS hA (fun cA => rfl) hn hN' hbytes hcells hslots hdg (fun q cA H1 hK1 hP1 hD1 hS1 => ?_)
  have e9 : cA = cI := by
    have h1 := (hK1.2 tys.length (cA, .int) (by rw [List.getElem?_append_right (Nat.le_refl _), Nat.sub_self]; rfl)).2
    have h2 := (hK.2 t0 _ ht).2
    exact Option.some.inj (h1.symm.trans h2)
  subst e9
  exact kk q H1 hP1 hD1 hS1
theorem xi_newQ {cc : ByteArray} {D : va_G} {cl : List vw_C} {tys : List (ClassId × FieldType)} {ws : va_W} {cK : ClassId} {own C : String} {index : Nat} (hx : p.tables.exec = Jvm.exec) (hb : c.code = cc) (hown : s.vm.findClass own = some m.cls) (hlink : (Cond.classLink own index C).before args s = true) (hO : va_AO C s) (hK : va_K D cl tys s) (t0 : Nat) (ht : tys[t0]? = some (cK, .object C)) (hP : va_P D cl ws H) (hD : va_D A ws) (hS : va_S A H0 H locs) (hA : ∀ q, H0.size ≤ q → A q)
    {n : Int32} {N' : Nat} (hn : ¬ n < 0) (hN' : n.toNatClampNeg = N') (hbytes : N' * 4 ≤ 536870912) (hcells : cells + 1 ≤ R.cells) (hslots : slots + N' ≤ R.slots) (hdg : decode cc pc = .ok (.anewarray index, 3))
    (kk : ∀ (q : Nat) (H1 : Heap), va_P D cl (ws ++ [(q, .inl (cK, N', .inr (.inr (.inr (.inr (fun _ => none))))))]) H1 → va_D A (ws ++ [(q, .inl (cK, N', .inr (.inr (.inr (.inr (fun _ => none))))))]) → va_S A H0 H1 locs → W p l e R s m args below meth c H1 locs (cells + 1) (slots + N') Q (F0 m (pc + 3) ls (.ref q :: rest))) : W p l e R s m args below meth c H locs cells slots Q (F0 m pc ls (.int n :: rest)) := by
  refine va_newq hx hb hown hlink hO hK hP hD hS hA hn hN' hbytes hcells hslots hdg (fun q cA H1 hK1 hP1 hD1 hS1 => ?_)
  have e9 : cA = cK := by
    obtain ⟨-, -, -, -, -, h1⟩ := (hK1.2 tys.length (cA, .object C) (by rw [List.getElem?_append_right (Nat.le_refl _), Nat.sub_self]; rfl)).2
    obtain ⟨-, -, -, -, -, h2⟩ := (hK.2 t0 _ ht).2
    exact Option.some.inj (h1.symm.trans h2)
  subst e9
  exact kk q H1 hP1 hD1 hS1
end XI
/-! the kinds -/
def ki_Met (l : Launch) (y : MethodName) (b : ByteArray) (fr lo : Nat) (h0 : Nat) : Prop := Met l y [Cond.code y b 1 none] { frames := fr, cells := 0, slots := 0, locals := lo } (va_Pc [.ref h0] mm_T) (va_Qv (fun _ : Unit => True) (fun _ _ => True) (fun _ => False)) 0 0 (fun _ => False)
theorem ki_blind {av : List Value} : FrameBlind (va_Pc av mm_T) := fun a U g mk q => ⟨q.1, mm_T.same (s := U) (U := U.calling g mk a) q.2 rfl⟩
def ki_ok (ws : List Cond) : Bool := ws.all (fun w => decide (w ∈ lw_tbl) && mm_okW w)
abbrev xi_objW (own : String) (n : Nat) : List Cond := [Cond.methodLink own n objectInit, Cond.instanceMethod objectInit, Cond.code objectInit ⟨#[0xb1]⟩ 1 none]
def yX4_init : MethodName := ⟨RX4, "<init>", "()V"⟩
theorem d_X4_init_0 : decode prog_6_method_1_code 0 = .ok (.aload_n 0, 1) := by decide +kernel
theorem d_X4_init_1 : decode prog_6_method_1_code 1 = .ok (.invokespecial 1, 3) := by decide +kernel
theorem d_X4_init_4 : decode prog_6_method_1_code 4 = .ok (.return_, 1) := by decide +kernel
set_option maxRecDepth 20000 in
theorem kw_4 : ki_ok (xi_objW RX4 1) = true := by decide +kernel
set_option maxHeartbeats 4000000 in
theorem c_X4_init (l : Launch) (h0 : Nat) : ki_Met l yX4_init prog_6_method_1_code 1 12 h0 := by
  refine Met.ofW (cc := prog_6_method_1_code) (maxL := 1) (ret := none) (by decide) rfl ?_
  intro p e s m args below meth c s₁ B hml hv
  obtain ⟨rfl, hT⟩ := hv
  have hx := B.exec
  have hb := B.bytes
  have hr := B.returns
  have hown : s.vm.findClass RX4 = some m.cls := findClass_of_methodNamed B.named
  have hlocks := B.notSynchronized
  have hS : va_S (fun _ => False) s.heap s.heap [] := va_S.rf
  have hl := lv_entry ([.ref h0]) (n := 1) (Nat.le_of_ble_eq_true rfl)
  rw [lg_entry_eq]
  generalize (lg_sl ([.ref h0]) ++ List.replicate (1 - (lg_sl ([.ref h0])).length) Slot.unset).toArray = ls at hl ⊢
  have hl : lv_has ls 1 [(0, .ref h0)] := hl
  have ws := hT.all kw_4 #[.ref h0]
  refine lv_aload_n hx hb d_X4_init_0 rfl (lv_at hl 0 rfl) ?_
  refine W.objInit hx hb hown (ws _ (List.mem_of_getElem? (i := 0) rfl)) (ws _ (List.mem_of_getElem? (i := 1) rfl)) (ws _ (List.mem_of_getElem? (i := 2) rfl)) rfl (by rw [hml]; exact hl.1) rfl d_X4_init_1 (Nat.le_of_ble_eq_true rfl) (Nat.le_of_ble_eq_true rfl) ?_
  refine W.eq (g2 := F0 m 4 ls []) rfl ?_
  exact W.vret hx hb hr (fun t ht hW => ⟨⟨(), rfl, trivial, trivial⟩, hS.F ht⟩) hS.2.2 d_X4_init_4
def yX0_init : MethodName := ⟨RX0, "<init>", "()V"⟩
theorem d_X0_init_0 : decode prog_2_method_1_code 0 = .ok (.aload_n 0, 1) := by decide +kernel
theorem d_X0_init_1 : decode prog_2_method_1_code 1 = .ok (.invokespecial 1, 3) := by decide +kernel
theorem d_X0_init_4 : decode prog_2_method_1_code 4 = .ok (.return_, 1) := by decide +kernel
abbrev kl_0 : List Cond := [Cond.code yX4_init prog_6_method_1_code 1 none, Cond.initialized RX4, Cond.methodLinkNest RX0 1 yX4_init mm_host, Cond.instanceMethod yX4_init]
set_option maxRecDepth 20000 in
theorem kw_0 : ki_ok kl_0 = true := by decide +kernel
set_option maxHeartbeats 4000000 in
theorem c_X0_init (l : Launch) (h0 : Nat) : ki_Met l yX0_init prog_2_method_1_code 2 32 h0 := by
  refine Met.ofW (cc := prog_2_method_1_code) (maxL := 1) (ret := none) (by decide) rfl ?_
  intro p e s m args below meth c s₁ B hml hv
  obtain ⟨rfl, hT⟩ := hv
  have hx := B.exec
  have hb := B.bytes
  have hr := B.returns
  have hown : s.vm.findClass RX0 = some m.cls := findClass_of_methodNamed B.named
  have hlocks := B.notSynchronized
  have hS : va_S (fun _ => False) s.heap s.heap [] := va_S.rf
  have hl := lv_entry ([.ref h0]) (n := 1) (Nat.le_of_ble_eq_true rfl)
  rw [lg_entry_eq]
  generalize (lg_sl ([.ref h0]) ++ List.replicate (1 - (lg_sl ([.ref h0])).length) Slot.unset).toArray = ls at hl ⊢
  have hl : lv_has ls 1 [(0, .ref h0)] := hl
  have ws := hT.all kw_0 #[.ref h0]
  refine lv_aload_n hx hb d_X0_init_0 rfl (lv_at hl 0 rfl) ?_
  have hws : ∀ w ∈ [Cond.code yX4_init prog_6_method_1_code 1 none], ∀ (a' : Array Value) (U : State), s.WarmedH U.vm → w.before a' U = true := fun w hw a' U hW => hT.warmAll hW kw_0 a' w (by rw [List.mem_singleton.mp hw]; exact List.mem_of_getElem? (i := 0) rfl)
  refine va_callv (va_runIN (host := mm_host) (bytes := prog_6_method_1_code) (maxL := 1) (As := []) (rest := []) (Ts := []) (nL := 1) ⟨hx, hb, hml, hown, fun _ h => by cases h⟩ (c_X4_init l h0) ⟨⟨⟨rfl, rfl, Nat.le_of_ble_eq_true rfl, Nat.le_of_ble_eq_true rfl, hws, List.mem_singleton.mpr rfl⟩, ws _ (List.mem_of_getElem? (i := 0) rfl), ws _ (List.mem_of_getElem? (i := 1) rfl), ⟨by decide, by decide⟩, fun sig h => by cases h; rfl, ws _ (List.mem_of_getElem? (i := 2) rfl)⟩, rfl, ws _ (List.mem_of_getElem? (i := 3) rfl)⟩ ⟨ki_blind, fun U hU hW => ⟨rfl, hT.warm hW⟩⟩ rfl rfl hl.1 rfl (lv_room (Nat.le_of_ble_eq_true rfl)) d_X0_init_1 ⟨Nat.le_of_ble_eq_true rfl, Nat.le_of_ble_eq_true rfl⟩) hS (fun q _ h => h.elim) (fun q h => h.elim) (fun u t H1 locs1 ht hal _ _ hz1 hk1 hS1 => ?_)
  exact W.vret hx hb hr (fun t ht hW => ⟨⟨(), rfl, trivial, trivial⟩, hS1.F ht⟩) hS1.2.2 d_X0_init_4
def yX3_init : MethodName := ⟨RX3, "<init>", "()V"⟩
theorem d_X3_init_0 : decode prog_5_method_1_code 0 = .ok (.aload_n 0, 1) := by decide +kernel
theorem d_X3_init_1 : decode prog_5_method_1_code 1 = .ok (.invokespecial 1, 3) := by decide +kernel
theorem d_X3_init_4 : decode prog_5_method_1_code 4 = .ok (.return_, 1) := by decide +kernel
abbrev kl_3 : List Cond := [Cond.code yX4_init prog_6_method_1_code 1 none, Cond.initialized RX4, Cond.methodLinkNest RX3 1 yX4_init mm_host, Cond.instanceMethod yX4_init]
set_option maxRecDepth 20000 in
theorem kw_3 : ki_ok kl_3 = true := by decide +kernel
set_option maxHeartbeats 4000000 in
theorem c_X3_init (l : Launch) (h0 : Nat) : ki_Met l yX3_init prog_5_method_1_code 2 32 h0 := by
  refine Met.ofW (cc := prog_5_method_1_code) (maxL := 1) (ret := none) (by decide) rfl ?_
  intro p e s m args below meth c s₁ B hml hv
  obtain ⟨rfl, hT⟩ := hv
  have hx := B.exec
  have hb := B.bytes
  have hr := B.returns
  have hown : s.vm.findClass RX3 = some m.cls := findClass_of_methodNamed B.named
  have hlocks := B.notSynchronized
  have hS : va_S (fun _ => False) s.heap s.heap [] := va_S.rf
  have hl := lv_entry ([.ref h0]) (n := 1) (Nat.le_of_ble_eq_true rfl)
  rw [lg_entry_eq]
  generalize (lg_sl ([.ref h0]) ++ List.replicate (1 - (lg_sl ([.ref h0])).length) Slot.unset).toArray = ls at hl ⊢
  have hl : lv_has ls 1 [(0, .ref h0)] := hl
  have ws := hT.all kw_3 #[.ref h0]
  refine lv_aload_n hx hb d_X3_init_0 rfl (lv_at hl 0 rfl) ?_
  have hws : ∀ w ∈ [Cond.code yX4_init prog_6_method_1_code 1 none], ∀ (a' : Array Value) (U : State), s.WarmedH U.vm → w.before a' U = true := fun w hw a' U hW => hT.warmAll hW kw_3 a' w (by rw [List.mem_singleton.mp hw]; exact List.mem_of_getElem? (i := 0) rfl)
  refine va_callv (va_runIN (host := mm_host) (bytes := prog_6_method_1_code) (maxL := 1) (As := []) (rest := []) (Ts := []) (nL := 1) ⟨hx, hb, hml, hown, fun _ h => by cases h⟩ (c_X4_init l h0) ⟨⟨⟨rfl, rfl, Nat.le_of_ble_eq_true rfl, Nat.le_of_ble_eq_true rfl, hws, List.mem_singleton.mpr rfl⟩, ws _ (List.mem_of_getElem? (i := 0) rfl), ws _ (List.mem_of_getElem? (i := 1) rfl), ⟨by decide, by decide⟩, fun sig h => by cases h; rfl, ws _ (List.mem_of_getElem? (i := 2) rfl)⟩, rfl, ws _ (List.mem_of_getElem? (i := 3) rfl)⟩ ⟨ki_blind, fun U hU hW => ⟨rfl, hT.warm hW⟩⟩ rfl rfl hl.1 rfl (lv_room (Nat.le_of_ble_eq_true rfl)) d_X3_init_1 ⟨Nat.le_of_ble_eq_true rfl, Nat.le_of_ble_eq_true rfl⟩) hS (fun q _ h => h.elim) (fun q h => h.elim) (fun u t H1 locs1 ht hal _ _ hz1 hk1 hS1 => ?_)
  exact W.vret hx hb hr (fun t ht hW => ⟨⟨(), rfl, trivial, trivial⟩, hS1.F ht⟩) hS1.2.2 d_X3_init_4
def yX6_init : MethodName := ⟨RX6, "<init>", "()V"⟩
theorem d_X6_init_0 : decode prog_8_method_1_code 0 = .ok (.aload_n 0, 1) := by decide +kernel
theorem d_X6_init_1 : decode prog_8_method_1_code 1 = .ok (.invokespecial 1, 3) := by decide +kernel
theorem d_X6_init_4 : decode prog_8_method_1_code 4 = .ok (.return_, 1) := by decide +kernel
abbrev kl_6 : List Cond := [Cond.code yX4_init prog_6_method_1_code 1 none, Cond.initialized RX4, Cond.methodLinkNest RX6 1 yX4_init mm_host, Cond.instanceMethod yX4_init]
set_option maxRecDepth 20000 in
theorem kw_6 : ki_ok kl_6 = true := by decide +kernel
set_option maxHeartbeats 4000000 in
theorem c_X6_init (l : Launch) (h0 : Nat) : ki_Met l yX6_init prog_8_method_1_code 2 32 h0 := by
  refine Met.ofW (cc := prog_8_method_1_code) (maxL := 1) (ret := none) (by decide) rfl ?_
  intro p e s m args below meth c s₁ B hml hv
  obtain ⟨rfl, hT⟩ := hv
  have hx := B.exec
  have hb := B.bytes
  have hr := B.returns
  have hown : s.vm.findClass RX6 = some m.cls := findClass_of_methodNamed B.named
  have hlocks := B.notSynchronized
  have hS : va_S (fun _ => False) s.heap s.heap [] := va_S.rf
  have hl := lv_entry ([.ref h0]) (n := 1) (Nat.le_of_ble_eq_true rfl)
  rw [lg_entry_eq]
  generalize (lg_sl ([.ref h0]) ++ List.replicate (1 - (lg_sl ([.ref h0])).length) Slot.unset).toArray = ls at hl ⊢
  have hl : lv_has ls 1 [(0, .ref h0)] := hl
  have ws := hT.all kw_6 #[.ref h0]
  refine lv_aload_n hx hb d_X6_init_0 rfl (lv_at hl 0 rfl) ?_
  have hws : ∀ w ∈ [Cond.code yX4_init prog_6_method_1_code 1 none], ∀ (a' : Array Value) (U : State), s.WarmedH U.vm → w.before a' U = true := fun w hw a' U hW => hT.warmAll hW kw_6 a' w (by rw [List.mem_singleton.mp hw]; exact List.mem_of_getElem? (i := 0) rfl)
  refine va_callv (va_runIN (host := mm_host) (bytes := prog_6_method_1_code) (maxL := 1) (As := []) (rest := []) (Ts := []) (nL := 1) ⟨hx, hb, hml, hown, fun _ h => by cases h⟩ (c_X4_init l h0) ⟨⟨⟨rfl, rfl, Nat.le_of_ble_eq_true rfl, Nat.le_of_ble_eq_true rfl, hws, List.mem_singleton.mpr rfl⟩, ws _ (List.mem_of_getElem? (i := 0) rfl), ws _ (List.mem_of_getElem? (i := 1) rfl), ⟨by decide, by decide⟩, fun sig h => by cases h; rfl, ws _ (List.mem_of_getElem? (i := 2) rfl)⟩, rfl, ws _ (List.mem_of_getElem? (i := 3) rfl)⟩ ⟨ki_blind, fun U hU hW => ⟨rfl, hT.warm hW⟩⟩ rfl rfl hl.1 rfl (lv_room (Nat.le_of_ble_eq_true rfl)) d_X6_init_1 ⟨Nat.le_of_ble_eq_true rfl, Nat.le_of_ble_eq_true rfl⟩) hS (fun q _ h => h.elim) (fun q h => h.elim) (fun u t H1 locs1 ht hal _ _ hz1 hk1 hS1 => ?_)
  exact W.vret hx hb hr (fun t ht hW => ⟨⟨(), rfl, trivial, trivial⟩, hS1.F ht⟩) hS1.2.2 d_X6_init_4
def yX2_init : MethodName := ⟨RX2, "<init>", "()V"⟩
theorem d_X2_init_0 : decode prog_4_method_1_code 0 = .ok (.aload_n 0, 1) := by decide +kernel
theorem d_X2_init_1 : decode prog_4_method_1_code 1 = .ok (.invokespecial 1, 3) := by decide +kernel
theorem d_X2_init_4 : decode prog_4_method_1_code 4 = .ok (.return_, 1) := by decide +kernel
abbrev kl_2 : List Cond := [Cond.code yX0_init prog_2_method_1_code 1 none, Cond.initialized RX0, Cond.methodLinkNest RX2 1 yX0_init mm_host, Cond.instanceMethod yX0_init]
set_option maxRecDepth 20000 in
theorem kw_2 : ki_ok kl_2 = true := by decide +kernel
set_option maxHeartbeats 4000000 in
theorem c_X2_init (l : Launch) (h0 : Nat) : ki_Met l yX2_init prog_4_method_1_code 3 52 h0 := by
  refine Met.ofW (cc := prog_4_method_1_code) (maxL := 1) (ret := none) (by decide) rfl ?_
  intro p e s m args below meth c s₁ B hml hv
  obtain ⟨rfl, hT⟩ := hv
  have hx := B.exec
  have hb := B.bytes
  have hr := B.returns
  have hown : s.vm.findClass RX2 = some m.cls := findClass_of_methodNamed B.named
  have hlocks := B.notSynchronized
  have hS : va_S (fun _ => False) s.heap s.heap [] := va_S.rf
  have hl := lv_entry ([.ref h0]) (n := 1) (Nat.le_of_ble_eq_true rfl)
  rw [lg_entry_eq]
  generalize (lg_sl ([.ref h0]) ++ List.replicate (1 - (lg_sl ([.ref h0])).length) Slot.unset).toArray = ls at hl ⊢
  have hl : lv_has ls 1 [(0, .ref h0)] := hl
  have ws := hT.all kw_2 #[.ref h0]
  refine lv_aload_n hx hb d_X2_init_0 rfl (lv_at hl 0 rfl) ?_
  have hws : ∀ w ∈ [Cond.code yX0_init prog_2_method_1_code 1 none], ∀ (a' : Array Value) (U : State), s.WarmedH U.vm → w.before a' U = true := fun w hw a' U hW => hT.warmAll hW kw_2 a' w (by rw [List.mem_singleton.mp hw]; exact List.mem_of_getElem? (i := 0) rfl)
  refine va_callv (va_runIN (host := mm_host) (bytes := prog_2_method_1_code) (maxL := 1) (As := []) (rest := []) (Ts := []) (nL := 1) ⟨hx, hb, hml, hown, fun _ h => by cases h⟩ (c_X0_init l h0) ⟨⟨⟨rfl, rfl, Nat.le_of_ble_eq_true rfl, Nat.le_of_ble_eq_true rfl, hws, List.mem_singleton.mpr rfl⟩, ws _ (List.mem_of_getElem? (i := 0) rfl), ws _ (List.mem_of_getElem? (i := 1) rfl), ⟨by decide, by decide⟩, fun sig h => by cases h; rfl, ws _ (List.mem_of_getElem? (i := 2) rfl)⟩, rfl, ws _ (List.mem_of_getElem? (i := 3) rfl)⟩ ⟨ki_blind, fun U hU hW => ⟨rfl, hT.warm hW⟩⟩ rfl rfl hl.1 rfl (lv_room (Nat.le_of_ble_eq_true rfl)) d_X2_init_1 ⟨Nat.le_of_ble_eq_true rfl, Nat.le_of_ble_eq_true rfl⟩) hS (fun q _ h => h.elim) (fun q h => h.elim) (fun u t H1 locs1 ht hal _ _ hz1 hk1 hS1 => ?_)
  exact W.vret hx hb hr (fun t ht hW => ⟨⟨(), rfl, trivial, trivial⟩, hS1.F ht⟩) hS1.2.2 d_X2_init_4
def yX5_init : MethodName := ⟨RX5, "<init>", "()V"⟩
theorem d_X5_init_0 : decode prog_7_method_1_code 0 = .ok (.aload_n 0, 1) := by decide +kernel
theorem d_X5_init_1 : decode prog_7_method_1_code 1 = .ok (.invokespecial 1, 3) := by decide +kernel
theorem d_X5_init_4 : decode prog_7_method_1_code 4 = .ok (.return_, 1) := by decide +kernel
abbrev kl_5 : List Cond := [Cond.code yX3_init prog_5_method_1_code 1 none, Cond.initialized RX3, Cond.methodLinkNest RX5 1 yX3_init mm_host, Cond.instanceMethod yX3_init]
set_option maxRecDepth 20000 in
theorem kw_5 : ki_ok kl_5 = true := by decide +kernel
set_option maxHeartbeats 4000000 in
theorem c_X5_init (l : Launch) (h0 : Nat) : ki_Met l yX5_init prog_7_method_1_code 3 52 h0 := by
  refine Met.ofW (cc := prog_7_method_1_code) (maxL := 1) (ret := none) (by decide) rfl ?_
  intro p e s m args below meth c s₁ B hml hv
  obtain ⟨rfl, hT⟩ := hv
  have hx := B.exec
  have hb := B.bytes
  have hr := B.returns
  have hown : s.vm.findClass RX5 = some m.cls := findClass_of_methodNamed B.named
  have hlocks := B.notSynchronized
  have hS : va_S (fun _ => False) s.heap s.heap [] := va_S.rf
  have hl := lv_entry ([.ref h0]) (n := 1) (Nat.le_of_ble_eq_true rfl)
  rw [lg_entry_eq]
  generalize (lg_sl ([.ref h0]) ++ List.replicate (1 - (lg_sl ([.ref h0])).length) Slot.unset).toArray = ls at hl ⊢
  have hl : lv_has ls 1 [(0, .ref h0)] := hl
  have ws := hT.all kw_5 #[.ref h0]
  refine lv_aload_n hx hb d_X5_init_0 rfl (lv_at hl 0 rfl) ?_
  have hws : ∀ w ∈ [Cond.code yX3_init prog_5_method_1_code 1 none], ∀ (a' : Array Value) (U : State), s.WarmedH U.vm → w.before a' U = true := fun w hw a' U hW => hT.warmAll hW kw_5 a' w (by rw [List.mem_singleton.mp hw]; exact List.mem_of_getElem? (i := 0) rfl)
  refine va_callv (va_runIN (host := mm_host) (bytes := prog_5_method_1_code) (maxL := 1) (As := []) (rest := []) (Ts := []) (nL := 1) ⟨hx, hb, hml, hown, fun _ h => by cases h⟩ (c_X3_init l h0) ⟨⟨⟨rfl, rfl, Nat.le_of_ble_eq_true rfl, Nat.le_of_ble_eq_true rfl, hws, List.mem_singleton.mpr rfl⟩, ws _ (List.mem_of_getElem? (i := 0) rfl), ws _ (List.mem_of_getElem? (i := 1) rfl), ⟨by decide, by decide⟩, fun sig h => by cases h; rfl, ws _ (List.mem_of_getElem? (i := 2) rfl)⟩, rfl, ws _ (List.mem_of_getElem? (i := 3) rfl)⟩ ⟨ki_blind, fun U hU hW => ⟨rfl, hT.warm hW⟩⟩ rfl rfl hl.1 rfl (lv_room (Nat.le_of_ble_eq_true rfl)) d_X5_init_1 ⟨Nat.le_of_ble_eq_true rfl, Nat.le_of_ble_eq_true rfl⟩) hS (fun q _ h => h.elim) (fun q h => h.elim) (fun u t H1 locs1 ht hal _ _ hz1 hk1 hS1 => ?_)
  exact W.vret hx hb hr (fun t ht hW => ⟨⟨(), rfl, trivial, trivial⟩, hS1.F ht⟩) hS1.2.2 d_X5_init_4
def yX7_init : MethodName := ⟨RX7, "<init>", "()V"⟩
theorem d_X7_init_0 : decode prog_9_method_1_code 0 = .ok (.aload_n 0, 1) := by decide +kernel
theorem d_X7_init_1 : decode prog_9_method_1_code 1 = .ok (.invokespecial 1, 3) := by decide +kernel
theorem d_X7_init_4 : decode prog_9_method_1_code 4 = .ok (.return_, 1) := by decide +kernel
abbrev kl_7 : List Cond := [Cond.code yX6_init prog_8_method_1_code 1 none, Cond.initialized RX6, Cond.methodLinkNest RX7 1 yX6_init mm_host, Cond.instanceMethod yX6_init]
set_option maxRecDepth 20000 in
theorem kw_7 : ki_ok kl_7 = true := by decide +kernel
set_option maxHeartbeats 4000000 in
theorem c_X7_init (l : Launch) (h0 : Nat) : ki_Met l yX7_init prog_9_method_1_code 3 52 h0 := by
  refine Met.ofW (cc := prog_9_method_1_code) (maxL := 1) (ret := none) (by decide) rfl ?_
  intro p e s m args below meth c s₁ B hml hv
  obtain ⟨rfl, hT⟩ := hv
  have hx := B.exec
  have hb := B.bytes
  have hr := B.returns
  have hown : s.vm.findClass RX7 = some m.cls := findClass_of_methodNamed B.named
  have hlocks := B.notSynchronized
  have hS : va_S (fun _ => False) s.heap s.heap [] := va_S.rf
  have hl := lv_entry ([.ref h0]) (n := 1) (Nat.le_of_ble_eq_true rfl)
  rw [lg_entry_eq]
  generalize (lg_sl ([.ref h0]) ++ List.replicate (1 - (lg_sl ([.ref h0])).length) Slot.unset).toArray = ls at hl ⊢
  have hl : lv_has ls 1 [(0, .ref h0)] := hl
  have ws := hT.all kw_7 #[.ref h0]
  refine lv_aload_n hx hb d_X7_init_0 rfl (lv_at hl 0 rfl) ?_
  have hws : ∀ w ∈ [Cond.code yX6_init prog_8_method_1_code 1 none], ∀ (a' : Array Value) (U : State), s.WarmedH U.vm → w.before a' U = true := fun w hw a' U hW => hT.warmAll hW kw_7 a' w (by rw [List.mem_singleton.mp hw]; exact List.mem_of_getElem? (i := 0) rfl)
  refine va_callv (va_runIN (host := mm_host) (bytes := prog_8_method_1_code) (maxL := 1) (As := []) (rest := []) (Ts := []) (nL := 1) ⟨hx, hb, hml, hown, fun _ h => by cases h⟩ (c_X6_init l h0) ⟨⟨⟨rfl, rfl, Nat.le_of_ble_eq_true rfl, Nat.le_of_ble_eq_true rfl, hws, List.mem_singleton.mpr rfl⟩, ws _ (List.mem_of_getElem? (i := 0) rfl), ws _ (List.mem_of_getElem? (i := 1) rfl), ⟨by decide, by decide⟩, fun sig h => by cases h; rfl, ws _ (List.mem_of_getElem? (i := 2) rfl)⟩, rfl, ws _ (List.mem_of_getElem? (i := 3) rfl)⟩ ⟨ki_blind, fun U hU hW => ⟨rfl, hT.warm hW⟩⟩ rfl rfl hl.1 rfl (lv_room (Nat.le_of_ble_eq_true rfl)) d_X7_init_1 ⟨Nat.le_of_ble_eq_true rfl, Nat.le_of_ble_eq_true rfl⟩) hS (fun q _ h => h.elim) (fun q h => h.elim) (fun u t H1 locs1 ht hal _ _ hz1 hk1 hS1 => ?_)
  exact W.vret hx hb hr (fun t ht hW => ⟨⟨(), rfl, trivial, trivial⟩, hS1.F ht⟩) hS1.2.2 d_X7_init_4
def yX9_init : MethodName := ⟨RX9, "<init>", "()V"⟩
theorem d_X9_init_0 : decode prog_11_method_1_code 0 = .ok (.aload_n 0, 1) := by decide +kernel
theorem d_X9_init_1 : decode prog_11_method_1_code 1 = .ok (.invokespecial 1, 3) := by decide +kernel
theorem d_X9_init_4 : decode prog_11_method_1_code 4 = .ok (.return_, 1) := by decide +kernel
abbrev kl_9 : List Cond := [Cond.code yX2_init prog_4_method_1_code 1 none, Cond.initialized RX2, Cond.methodLinkNest RX9 1 yX2_init mm_host, Cond.instanceMethod yX2_init]
set_option maxRecDepth 20000 in
theorem kw_9 : ki_ok kl_9 = true := by decide +kernel
set_option maxHeartbeats 4000000 in
theorem c_X9_init (l : Launch) (h0 : Nat) : ki_Met l yX9_init prog_11_method_1_code 4 72 h0 := by
  refine Met.ofW (cc := prog_11_method_1_code) (maxL := 1) (ret := none) (by decide) rfl ?_
  intro p e s m args below meth c s₁ B hml hv
  obtain ⟨rfl, hT⟩ := hv
  have hx := B.exec
  have hb := B.bytes
  have hr := B.returns
  have hown : s.vm.findClass RX9 = some m.cls := findClass_of_methodNamed B.named
  have hlocks := B.notSynchronized
  have hS : va_S (fun _ => False) s.heap s.heap [] := va_S.rf
  have hl := lv_entry ([.ref h0]) (n := 1) (Nat.le_of_ble_eq_true rfl)
  rw [lg_entry_eq]
  generalize (lg_sl ([.ref h0]) ++ List.replicate (1 - (lg_sl ([.ref h0])).length) Slot.unset).toArray = ls at hl ⊢
  have hl : lv_has ls 1 [(0, .ref h0)] := hl
  have ws := hT.all kw_9 #[.ref h0]
  refine lv_aload_n hx hb d_X9_init_0 rfl (lv_at hl 0 rfl) ?_
  have hws : ∀ w ∈ [Cond.code yX2_init prog_4_method_1_code 1 none], ∀ (a' : Array Value) (U : State), s.WarmedH U.vm → w.before a' U = true := fun w hw a' U hW => hT.warmAll hW kw_9 a' w (by rw [List.mem_singleton.mp hw]; exact List.mem_of_getElem? (i := 0) rfl)
  refine va_callv (va_runIN (host := mm_host) (bytes := prog_4_method_1_code) (maxL := 1) (As := []) (rest := []) (Ts := []) (nL := 1) ⟨hx, hb, hml, hown, fun _ h => by cases h⟩ (c_X2_init l h0) ⟨⟨⟨rfl, rfl, Nat.le_of_ble_eq_true rfl, Nat.le_of_ble_eq_true rfl, hws, List.mem_singleton.mpr rfl⟩, ws _ (List.mem_of_getElem? (i := 0) rfl), ws _ (List.mem_of_getElem? (i := 1) rfl), ⟨by decide, by decide⟩, fun sig h => by cases h; rfl, ws _ (List.mem_of_getElem? (i := 2) rfl)⟩, rfl, ws _ (List.mem_of_getElem? (i := 3) rfl)⟩ ⟨ki_blind, fun U hU hW => ⟨rfl, hT.warm hW⟩⟩ rfl rfl hl.1 rfl (lv_room (Nat.le_of_ble_eq_true rfl)) d_X9_init_1 ⟨Nat.le_of_ble_eq_true rfl, Nat.le_of_ble_eq_true rfl⟩) hS (fun q _ h => h.elim) (fun q h => h.elim) (fun u t H1 locs1 ht hal _ _ hz1 hk1 hS1 => ?_)
  exact W.vret hx hb hr (fun t ht hW => ⟨⟨(), rfl, trivial, trivial⟩, hS1.F ht⟩) hS1.2.2 d_X9_init_4
