/-! THE CLAIM OUT OF ONE WALK OF THE LAW'S BODY: the skeleton's head (a starting text of the kit's, with this claim's numbers) -/
def R_law : String := "BeansOnTheOtherSideLaw"
def lw_P (b : Addr) (xs : List Int32) (args : Array Value) (s : State) : Prop := args = #[.ref b] ∧ s.IntsAt b xs ∧ xs.length ≤ 3072 ∧ (Jvm.Cond.and given_1 narrow_1).before args s = true
def lw_Q (_ : Array Value) (s : State) (o : Outcome) (t : State) : Prop := o = .returned (some (.int 1)) ∧ Framed s o t [] 601024 7293034
def lw_Z (below : List Frame) (a : Array Value) (s : State) : State → Prop := fun t => ∃ o, t.status = .running ∧ Ended t below o ∧ lw_Q a s o t
/-- the law's own end, with 1 on the stack, nothing written that was there before, its room as the claim has it -/
theorem lw_ret {p : Program} {l : Launch} {e : Env} {s : State} {m : MethodId} {below : List Frame} {meth : Method} {c : Code} {b : Nat} (hx : p.tables.exec = Jvm.exec) (hb : c.code = code) (hr : meth.sig.returnType = ret) (hlocks : meth.locks = false) {pc : Nat} {H : Heap} {ls : Array Slot} (hdg : decode code pc = .ok (.ireturn, 1)) : W p l e room_1 s m #[Value.ref b] below meth c H [] 601024 7293034 (lw_Z below #[Value.ref b] s) (F0 m pc ls [.int 1]) := by
  intro T hT X
  obtain ⟨fs, hret, hrun, hended, hW, hframe⟩ := X.leave (v := some (.int 1)) (hlocks := hlocks) (fun h => by rw [hr] at h; cases h)
  have hmeth' : T.vm.method? m = some meth := X.method'
  refine ⟨T.setFrames fs, ?_, .returned (some (.int 1)), hrun, hended, rfl, ⟨_, rfl⟩, hW, hframe⟩
  jvm_step X.here [X.here.top, hx, hb, hdg, hmeth', hr, ret, narrow_b1]
  (try refine ⟨rfl, ?_⟩); (try refine ⟨rfl, ?_⟩)
  first | (intro acts; rw [hret _ acts rfl rfl rfl]) | rw [hret _ _ rfl rfl rfl]
  exact Steps.refl _
/-- what holds at the law's entry: the machine, the code, the tables' words (any of lw_tbl by 'hts w (by decide +kernel)'), the script of L ints xs at the cell b, what the Statement gives of the start (any of its parts by flat_of_before) -/
def lw_At (p : Program) (s : State) (m : MethodId) (meth : Method) (c : Code) (b L : Nat) (xs : Nat → Int32) : Prop :=
  p.tables.exec = Jvm.exec ∧ c.code = code ∧ meth.sig.returnType = ret ∧ c.maxLocals = 8 ∧ s.vm.findClass R_law = some m.cls ∧ (∀ w ∈ lw_tbl, w.before #[Value.ref b] s = true) ∧ va_X b L xs s s.heap ∧ b < s.heap.size ∧ meth.locks = false ∧ (Jvm.Cond.and given_1 narrow_1).before #[Value.ref b] s = true
/-! what a method that answers answers -/
theorem mm_intR : ∀ (n : Nat) (M : mm_Me) (S : mm_St) (v : Value) (σ' : mm_Sg), mm_rt M = some .int → mm_Run n M S (some v, σ') → ∃ y : Int32, v = .int y
  | 0, _, _, _, _, _, h => h.elim
  | n + 1, M, S, v, σ', hr, h => by
    rcases h with ⟨S', cs, h1, h2, h3⟩ | ⟨M', as, rest, r, σ9, h1, h2, h3⟩ | ⟨i, x, v9, h1, h2⟩
    · exact mm_intR n M S' v σ' hr h3
    · exact mm_intR n M _ v σ' hr h3
    · unfold mm_rr at h2
      rw [hr] at h2
      split at h2
      · obtain ⟨ty, y, -, -, hX, -⟩ := h2
        cases hX
        exact ⟨y, rfl⟩
      · obtain ⟨y, hty, -⟩ := h2
        cases hty
      · obtain ⟨C, q, hty, -⟩ := h2
        cases hty
      · obtain ⟨hty, -⟩ := h2
        cases hty
      · exact h2.elim
theorem mm_longR : ∀ (n : Nat) (M : mm_Me) (S : mm_St) (v : Value) (σ' : mm_Sg), mm_rt M = some .long → (mm_code M).all (fun e => decide (e.2.1 ≠ .ireturn)) = true → mm_Run n M S (some v, σ') → ∃ y : Int64, v = .long y
  | 0, _, _, _, _, _, _, h => h.elim
  | n + 1, M, S, v, σ', hr, hni, h => by
    rcases h with ⟨S', cs, h1, h2, h3⟩ | ⟨M', as, rest, r, σ9, h1, h2, h3⟩ | ⟨i, x, v9, h1, h2⟩
    · exact mm_longR n M S' v σ' hr hni h3
    · exact mm_longR n M _ v σ' hr hni h3
    · unfold mm_rr at h2
      rw [hr] at h2
      split at h2
      · have h9 := of_decide_eq_true (List.all_eq_true.mp hni _ (mm_fnd_mem _ _ _ h1))
        exact absurd rfl h9
      · obtain ⟨y, -, -, hX⟩ := h2
        cases hX
        exact ⟨y, rfl⟩
      · obtain ⟨C, q, hty, -⟩ := h2
        cases hty
      · obtain ⟨hty, -⟩ := h2
        cases hty
      · exact h2.elim
/-! the law's own setting -/
def lw_C (p : Program) (l : Launch) (s : State) (m : MethodId) (meth : Method) (c : Code) (b L : Nat) (xs : Nat → Int32) (ad : Nat → Nat) (G : va_G) (cI cK cS cJ : ClassId) (qo a1 a2 a3 : Nat) : Prop :=
  lw_At p s m meth c b L xs ∧ L ≤ 3072 ∧ l.stackTraces = false ∧ va_K G mm_cls (mm_tys cI cK cS) s ∧ va_K G mm_cls [(cJ, .long)] s ∧ mm_T s ∧ xq_Z s.heap.size a1 a2 a3 s ∧ (∀ k, k < 83 → s.heap.size ≤ ad k) ∧ (∀ i j, i < 83 → j < 83 → ad i = ad j → i = j) ∧ (∀ k, k < 83 → ad k ≠ qo) ∧ s.heap.size ≤ qo
abbrev lw_lv (b : Nat) (ad : Nat → Nat) (qo i : Nat) : List (Nat × Value) := [(4, .int (nI i)), (0, .ref b), (1, .ref (ad 0)), (2, .ref (ad 51)), (3, .ref qo)]
abbrev lw_W (p : Program) (l : Launch) (e : Env) (s : State) (m : MethodId) (b : Nat) (below : List Frame) (meth : Method) (c : Code) (H : Heap) (locs : List Loc) (cells slots : Nat) (g : JFrame) : Prop := W p l e room_1 s m #[Value.ref b] below meth c H locs cells slots (lw_Z below #[Value.ref b] s) g
/-- at this place, with so much room used, the law comes to its end -/
def lw_Nx (p : Program) (l : Launch) (e : Env) (s : State) (m : MethodId) (b : Nat) (below : List Frame) (meth : Method) (c : Code) (ad : Nat → Nat) (G : va_G) (cI cK cS cJ : ClassId) (qo cells slots pc i : Nat) : Prop :=
  ∀ (σ : mm_Sg) (fo : Nat → Int64) (H : Heap) (locs : List Loc) (ls : Array Slot), Inv σ → va_P G mm_cls (mm_cells ad cI cK cS σ) H → va_P G mm_cls [(qo, .inl (cJ, 1, .inr (.inl fo)))] H → va_S (fun q : Nat => s.heap.size ≤ q) s.heap H locs → lv_has ls 8 (lw_lv b ad qo i) → lw_W p l e s m b below meth c H locs cells slots (F0 m pc ls [])
section LWG
variable {p : Program} {l : Launch} {e : Env} {s : State} {m : MethodId} {below : List Frame} {meth : Method} {c : Code} {b L : Nat} {xs : Nat → Int32} {ad : Nat → Nat} {G : va_G} {cI cK cS cJ : ClassId} {qo a1 a2 a3 : Nat} {H : Heap} {locs : List Loc} {cells slots : Nat} {ls : Array Slot}
theorem lw_mm {pc : Nat} {rest st0 : List Value} {a : Array Value} {free : Addr → Prop} {X : Option Value × mm_Sg} {A : Nat → Prop} {R : Room} {args : Array Value} {Q : State → Prop} {H0 : Heap} (hr : va_Run p l e R s m args below meth c H locs cells slots 0 0 (F0 m pc ls st0) rest (mm_Q ad G cI cK cS X a) free) (hS : va_S A H0 H locs) (hA : ∀ q, mm_A ad q → A q) (hf : ∀ q, free q → A q)
    (kk : ∀ (t : State) (H1 : Heap) (locs1 : List Loc), t.heap = H1 → s.vm.Alike t.vm → mm_Wd ad G cI cK cS X.2 t → va_S A H0 H1 locs1 → (∀ q : Nat, q < H.size → ¬ mm_A ad q → H1[q]? = H[q]?) → W p l e R s m args below meth c H1 locs1 cells slots Q (F0 m (pc + 3) ls ((X.1.map (mm_rv ad)).toList ++ rest))) : W p l e R s m args below meth c H locs cells slots Q (F0 m pc ls st0) := by
  intro T hT X0
  obtain ⟨v, st₀, t, T', L9, h0, X', hL, e1, e2, ⟨hv, hb, hz, hk⟩, st⟩ := hr T hT X0
  have hv : v = X.1.map (mm_rv ad) := by cases hv; rfl
  subst hv
  rw [h0] at hz hk
  obtain ⟨t2, b1, b2⟩ := kk t T'.heap (locs ++ L9) e1.symm (by rw [← e2]; exact X'.warmed.alike) hb
    ⟨Nat.le_trans hS.1 (by rw [e1]; exact hz), fun q h1 h2 => by rw [e1, hk q (Nat.lt_of_lt_of_le h1 hS.1) (fun z => h2 (hA q z))]; exact hS.2.1 q h1 h2, fun q hq => by
      rcases List.mem_append.mp hq with h | h
      · exact hS.2.2 q h
      · exact hf _ (hL q h)⟩ (fun q h1 h2 => by rw [e1]; exact hk q h1 h2) T' rfl X'
  exact ⟨t2, st t2 b1, b2⟩
theorem lw_mA (C0 : lw_C p l s m meth c b L xs ad G cI cK cS cJ qo a1 a2 a3) : ∀ q, mm_A ad q → s.heap.size ≤ q := fun q h => by
  obtain ⟨k, hk, rfl⟩ := h
  exact C0.2.2.2.2.2.2.2.1 k hk
theorem lw_keepO {e9 : va_E} {H1 : Heap} (hPo : va_P G mm_cls [(qo, e9)] H) (hk : ∀ q : Nat, q < H.size → ¬ mm_A ad q → H1[q]? = H[q]?) (hqo : ∀ k, k < 83 → ad k ≠ qo) : va_P G mm_cls [(qo, e9)] H1 := hPo.kept (fun k9 q9 hq9 => by
  have h1 := (List.getElem?_eq_some_iff.mp hq9).1
  have h2 := (hPo k9 q9 hq9).lt
  simp at h1
  subst h1
  cases hq9
  exact hk qo h2 (fun z => by
    obtain ⟨k, hk, e⟩ := z
    exact hqo k hk e.symm))
set_option maxHeartbeats 2000000 in
/-- the law calls a method of the class, or of the Model -/
theorem lw_call (C0 : lw_C p l s m meth c b L xs ad G cI cK cS cJ qo a1 a2 a3) {q ci idx pc wl ws : Nat} {qc : vw_C} (hcl : mm_cls[ci]? = some qc) (hq : mm_cl q = ci) {M : mm_Me} (hM : M ∈ mm_tab) {as : List Value} {v : Value} {σ σ' : mm_Sg} (hev : mm_Ev M (.ref q :: as) σ (some v) σ') (hsl : (mm_slots (.ref q :: as)).length ≤ mm_nL M) (hlen : as.length = (mm_xs M).getD 4 0) (hst : (mm_xs M).getD 3 0 = 0) (hlv : mm_lv M ≤ 9)
    (hlink : mm_w wl (.methodLink R_law idx (mm_y M)) = true) (hsel : mm_w ws (.selects qc.1 (mm_y M) (mm_y M)) = true) (hd : decode code pc = .ok (.invokevirtual idx, 3)) {fo : Nat → Int64} (hP : va_P G mm_cls (mm_cells ad cI cK cS σ) H) (hPo : va_P G mm_cls [(qo, .inl (cJ, 1, .inr (.inl fo)))] H) (hS : va_S (fun q : Nat => s.heap.size ≤ q) s.heap H locs) (hls : ls.size = 8) {rest st0 : List Value} (hst0 : st0 = (as.map (mm_rv ad)).reverse ++ .ref (ad q) :: rest) (hss : (rest.map fun v => v.category).sum ≤ 8) (hcs : cells ≤ room_1.cells ∧ slots ≤ room_1.slots)
    (kk : ∀ (H1 : Heap) (locs1 : List Loc), va_P G mm_cls (mm_cells ad cI cK cS σ') H1 → va_P G mm_cls [(qo, .inl (cJ, 1, .inr (.inl fo)))] H1 → va_S (fun q : Nat => s.heap.size ≤ q) s.heap H1 locs1 → lw_W p l e s m b below meth c H1 locs1 cells slots (F0 m (pc + 3) ls (mm_rv ad v :: rest))) : lw_W p l e s m b below meth c H locs cells slots (F0 m pc ls st0) := by
  obtain ⟨⟨hx, hb, hr, hml, hown, hts, hX, hbl, hlocks, hgv⟩, hL, hl, hK, hKo, hT, hZ, had, hinj, hqo, hzo⟩ := id C0
  subst hst0
  have hg := mm_chk M hM
  obtain ⟨f1, f2, f3, f4, f5, f6, f7, f8, f9⟩ := mm_facts hg hT #[Value.ref b]
  have hMt : mm_Mt l ad G cI cK cS M (.ref q :: as) σ (some v, σ') := mm_contract hM hinj hsl hev
  have hA := lw_mA C0
  have hnl : mm_nL M ≤ 19 := f7
  refine lw_mm (va_runV (C := qc.1) (b := ad q) (As := as.map (mm_rv ad)) (rest := rest) (Ts := []) ⟨hx, hb, hml, hown, fun _ h => by cases h⟩ hMt ⟨⟨rfl, rfl, ?_, ?_, f2, List.mem_singleton.mpr rfl, f1, f3, f9, f8, hT.at hlink _⟩, f5 hst, hT.at hsel _⟩ ⟨mm_blind, va_recv hK hP hcl (mm_obj hq (mm_cls_lt hcl)), fun U hU hW => ⟨rfl, by rw [hU]; exact hP, va_K.moved hW.alike hK, hT.warm hW⟩⟩ rfl (by rw [List.length_map, hlen]) hls rfl (lv_room hss) hd ⟨hcs.1, hcs.2⟩) hS hA hA (fun t H1 locs1 e1 e2 hWd hS1 hk1 => ?_)
  · show mm_lv M + 1 ≤ 10
    omega
  · show 8 + (mm_nL M + 11) + 38 * mm_lv M ≤ 380
    omega
  · exact kk H1 locs1 (by rw [← e1]; exact hWd.1) (lw_keepO hPo hk1 hqo) hS1
/-- an argument out of the script -/
def lw_Da (pc k : Nat) : Bool := decide (decode code pc = .ok (.aload_n 0, 1)) && decide (decode code (pc + 1) = .ok (.iload 4, 2)) && decide (decode code (pc + 3) = .ok (.iconst k, 1)) && decide (decode code (pc + 4) = .ok (.iadd, 1)) && decide (decode code (pc + 5) = .ok (.iaload, 1))
theorem lw_arg (C0 : lw_C p l s m meth c b L xs ad G cI cK cS cJ qo a1 a2 a3) {pc k i : Nat} (hD : lw_Da pc k = true) (hi : i + 6 ≤ L) (hk : k ≤ 5) (hS : va_S (fun q : Nat => s.heap.size ≤ q) s.heap H locs) {lv : List (Nat × Value)} (hl : lv_has ls 8 lv) {p0 p4 : Nat} (h0 : lv[p0]? = some (0, .ref b)) (h4 : lv[p4]? = some (4, .int (nI i))) {st : List Value}
    (kk : lw_W p l e s m b below meth c H locs cells slots (F0 m (pc + 6) ls (.int (xs (i + k)) :: st))) : lw_W p l e s m b below meth c H locs cells slots (F0 m pc ls st) := by
  obtain ⟨⟨hx, hb, hr, hml, hown, hts, hX, hbl, hlocks, hgv⟩, hL, -⟩ := id C0
  unfold lw_Da at hD
  simp only [Bool.and_eq_true, decide_eq_true_eq] at hD
  obtain ⟨⟨⟨⟨d0, d1⟩, d3⟩, d4⟩, d5⟩ := hD
  refine lv_aload_n hx hb d0 rfl (lv_at hl p0 h0) ?_
  refine lv_iload hx hb d1 (lv_at hl p4 h4) ?_
  refine lv_iconst (v := nI k) hx hb d3 rfl ?_
  refine lv_iadd hx hb d4 ?_
  rw [nI_add]
  refine va_sld hx hb hX hbl (Nat.not_le.mpr hbl) hS (v_in (i := i + k) (N := L) (by omega) (by omega)) d5 ?_
  rw [nI_clamp (by omega)]
  exact kk
def lw_Dn (pc n : Nat) : Bool := (List.range n).all (fun k => lw_Da (pc + 6 * k) (k + 1))
def lw_as (xs : Nat → Int32) (i n : Nat) : List Value := (List.range n).map (fun k => .int (xs (i + (k + 1))))
theorem lw_as_s (xs : Nat → Int32) (i n : Nat) : lw_as xs i (n + 1) = lw_as xs i n ++ [.int (xs (i + (n + 1)))] := by
  unfold lw_as
  rw [List.range_succ, List.map_append]
  rfl
theorem lw_argn (C0 : lw_C p l s m meth c b L xs ad G cI cK cS cJ qo a1 a2 a3) {pc i : Nat} (hi : i + 6 ≤ L) (hS : va_S (fun q : Nat => s.heap.size ≤ q) s.heap H locs) {lv : List (Nat × Value)} (hl : lv_has ls 8 lv) {p0 p4 : Nat} (h0 : lv[p0]? = some (0, .ref b)) (h4 : lv[p4]? = some (4, .int (nI i))) {st : List Value} : ∀ n : Nat, n ≤ 5 → lw_Dn pc n = true →
    lw_W p l e s m b below meth c H locs cells slots (F0 m (pc + 6 * n) ls ((lw_as xs i n).reverse ++ st)) → lw_W p l e s m b below meth c H locs cells slots (F0 m pc ls st)
  | 0, _, _, kk => kk
  | n + 1, hn, hD, kk => by
    have hD2 : lw_Dn pc n = true := List.all_eq_true.mpr (fun k hk => List.all_eq_true.mp hD k (List.mem_range.mpr (by have := List.mem_range.mp hk; omega)))
    have hDn : lw_Da (pc + 6 * n) (n + 1) = true := List.all_eq_true.mp hD n (List.mem_range.mpr (Nat.lt_succ_self n))
    refine lw_argn C0 hi hS hl h0 h4 n (by omega) hD2 ?_
    refine lw_arg C0 hDn hi (by omega) hS hl h0 h4 ?_
    rw [lw_as_s, List.reverse_append] at kk
    rw [show pc + 6 * n + 6 = pc + 6 * (n + 1) by omega]
    exact kk
theorem lw_as_map (ad : Nat → Nat) (xs : Nat → Int32) (i n : Nat) : (lw_as xs i n).map (mm_rv ad) = lw_as xs i n := by
  unfold lw_as
  rw [List.map_map]
  rfl
theorem lw_as_slots (xs : Nat → Int32) (i : Nat) : ∀ n, (mm_slots (lw_as xs i n)).length = n := by
  have h : ∀ (l : List Nat), (mm_slots (l.map (fun k => Value.int (xs (i + (k + 1)))))).length = l.length := by
    intro l
    induction l with
    | nil => rfl
    | cons a r ih =>
      show (mm_slots (r.map _)).length + 1 = r.length + 1
      rw [ih]
  intro n
  unfold lw_as
  rw [h, List.length_range]
theorem lw_as_len (xs : Nat → Int32) (i n : Nat) : (lw_as xs i n).length = n := by unfold lw_as; simp
/-- what a program checks of a case that asks both for an int -/
def lw_ck (pc n : Nat) (X M : mm_Me) (ix im lx sx lm sm : Nat) (off : Int) : Bool := decide (n ≤ 5) && decide (decode code pc = .ok (.aload_n 1, 1)) && lw_Dn (pc + 1) n && decide (decode code (pc + 1 + 6 * n) = .ok (.invokevirtual ix, 3)) && decide (decode code (pc + 1 + 6 * n + 3) = .ok (.aload_n 2, 1)) && lw_Dn (pc + 1 + 6 * n + 3 + 1) n && decide (decode code (pc + 1 + 6 * n + 3 + 1 + 6 * n) = .ok (.invokevirtual im, 3)) &&
  mm_w lx (.methodLink R_law ix (mm_y X)) && mm_w sx (.selects RX10 (mm_y X) (mm_y X)) && mm_w lm (.methodLink R_law im (mm_y M)) && mm_w sm (.selects RX11 (mm_y M) (mm_y M)) && decide (n + 1 ≤ mm_nL X) && decide (n + 1 ≤ mm_nL M) && decide ((mm_xs X).getD 4 0 = n) && decide ((mm_xs M).getD 4 0 = n) && decide ((mm_xs X).getD 3 0 = 0) && decide ((mm_xs M).getD 3 0 = 0) && decide (mm_lv X ≤ 9) && decide (mm_lv M ≤ 9)
def lw_ckI (pc n : Nat) (X M : mm_Me) (ix im lx sx lm sm : Nat) (off : Int) : Bool := lw_ck pc n X M ix im lx sx lm sm off && decide (mm_rt X = some .int) && decide (decode code (pc + 1 + 6 * n + 3 + 1 + 6 * n + 3) = .ok (.if_icmp .eq off, 3)) && decide (((pc + 1 + 6 * n + 3 + 1 + 6 * n + 3 : Nat) : Int) + off = ((1579 : Nat) : Int))
def lw_ckL (pc n : Nat) (X M : mm_Me) (ix im lx sx lm sm : Nat) (off : Int) : Bool := lw_ck pc n X M ix im lx sx lm sm off && decide (mm_rt X = some .long) && (mm_code X).all (fun e => decide (e.2.1 ≠ .ireturn)) && decide (decode code (pc + 1 + 6 * n + 3 + 1 + 6 * n + 3) = .ok (.lcmp, 1)) && decide (decode code (pc + 1 + 6 * n + 3 + 1 + 6 * n + 3 + 1) = .ok (.ifCond .eq off, 3)) && decide (((pc + 1 + 6 * n + 3 + 1 + 6 * n + 3 + 1 : Nat) : Int) + off = ((1579 : Nat) : Int))
set_option maxHeartbeats 2000000 in
theorem lw_both (C0 : lw_C p l s m meth c b L xs ad G cI cK cS cJ qo a1 a2 a3) {pc n ix im lx sx lm sm i : Nat} {off : Int} {X M : mm_Me} (hX : X ∈ mm_tab) (hM : M ∈ mm_tab) (hck : lw_ck pc n X M ix im lx sx lm sm off = true) (hi : i + 6 ≤ L) (hcs : cells ≤ room_1.cells ∧ slots ≤ room_1.slots) {σ : mm_Sg} (hF : FQ X M (lw_as xs i n) σ) {fo : Nat → Int64} (hP : va_P G mm_cls (mm_cells ad cI cK cS σ) H) (hPo : va_P G mm_cls [(qo, .inl (cJ, 1, .inr (.inl fo)))] H) (hS : va_S (fun q : Nat => s.heap.size ≤ q) s.heap H locs) (hl : lv_has ls 8 (lw_lv b ad qo i))
    (kk : ∀ (v : Value) (σ1 σ2 : mm_Sg) (H1 : Heap) (locs1 : List Loc), mm_Ev X (.ref 0 :: lw_as xs i n) σ (some v) σ1 → Inv σ2 → va_P G mm_cls (mm_cells ad cI cK cS σ2) H1 → va_P G mm_cls [(qo, .inl (cJ, 1, .inr (.inl fo)))] H1 → va_S (fun q : Nat => s.heap.size ≤ q) s.heap H1 locs1 → lw_W p l e s m b below meth c H1 locs1 cells slots (F0 m (pc + 1 + 6 * n + 3 + 1 + 6 * n + 3) ls [mm_rv ad v, mm_rv ad v])) : lw_W p l e s m b below meth c H locs cells slots (F0 m pc ls []) := by
  obtain ⟨⟨hx, hb, -⟩, -⟩ := id C0
  unfold lw_ck at hck
  simp only [Bool.and_eq_true, decide_eq_true_eq] at hck
  obtain ⟨⟨⟨⟨⟨⟨⟨⟨⟨⟨⟨⟨⟨⟨⟨⟨⟨⟨hn, d0⟩, dx⟩, d1⟩, d2⟩, dm⟩, d3⟩, w1⟩, w2⟩, w3⟩, w4⟩, n1⟩, n2⟩, y1⟩, y2⟩, z1⟩, z2⟩, v1⟩, v2⟩ := hck
  obtain ⟨v, σ1, σ2, g1, g2, hI2⟩ := hF
  have slen : ∀ q : Nat, (mm_slots (.ref q :: lw_as xs i n)).length = n + 1 := fun q => by
    show (mm_slots (lw_as xs i n)).length + 1 = n + 1
    rw [lw_as_slots]
  have cat : (mm_rv ad v).category ≤ 2 := by rw [mm_cat]; rcases lv_cat v with h | h <;> omega
  refine lv_aload_n hx hb d0 rfl (lv_at hl 2 rfl) ?_
  refine lw_argn C0 hi hS hl (p0 := 1) (p4 := 0) rfl rfl n hn dx ?_
  refine lw_call C0 (q := 0) (ci := 10) rfl rfl hX g1 (by rw [slen]; exact n1) (by rw [lw_as_len, y1]) z1 v1 w1 w2 d1 hP hPo hS hl.1 (rest := []) (by rw [lw_as_map]) (Nat.zero_le _) hcs (fun H1 locs1 hP1 hPo1 hS1 => ?_)
  refine lv_aload_n hx hb d2 rfl (lv_at hl 3 rfl) ?_
  refine lw_argn C0 hi hS1 hl (p0 := 1) (p4 := 0) rfl rfl n hn dm ?_
  refine lw_call C0 (q := 51) (ci := 11) rfl rfl hM g2 (by rw [slen]; exact n2) (by rw [lw_as_len, y2]) z2 v2 w3 w4 d3 hP1 hPo1 hS1 hl.1 (rest := [mm_rv ad v]) (by rw [lw_as_map]) (by show (mm_rv ad v).category + 0 ≤ 8; omega) hcs (fun H2 locs2 hP2 hPo2 hS2 => ?_)
  exact kk v σ1 σ2 H2 locs2 g1 hI2 hP2 hPo2 hS2
theorem lw_caseI (C0 : lw_C p l s m meth c b L xs ad G cI cK cS cJ qo a1 a2 a3) {pc n ix im lx sx lm sm i : Nat} {off : Int} {X M : mm_Me} (hX : X ∈ mm_tab) (hM : M ∈ mm_tab) (hck : lw_ckI pc n X M ix im lx sx lm sm off = true) (hi : i + 6 ≤ L) (hcs : cells ≤ room_1.cells ∧ slots ≤ room_1.slots) (hF : ∀ σ, Inv σ → FQ X M (lw_as xs i n) σ)
    (kk : lw_Nx p l e s m b below meth c ad G cI cK cS cJ qo cells slots 1579 i) : lw_Nx p l e s m b below meth c ad G cI cK cS cJ qo cells slots pc i := by
  intro σ fo H locs ls hI hP hPo hS hl
  obtain ⟨⟨hx, hb, -⟩, -⟩ := id C0
  unfold lw_ckI at hck
  simp only [Bool.and_eq_true, decide_eq_true_eq] at hck
  obtain ⟨⟨⟨hck, hrt⟩, d9⟩, ht⟩ := hck
  refine lw_both C0 hX hM hck hi hcs (hF σ hI) hP hPo hS hl (fun v σ1 σ2 H1 locs1 g1 hI2 hP1 hPo1 hS1 => ?_)
  obtain ⟨n9, g9⟩ := g1
  obtain ⟨y, rfl⟩ := mm_intR n9 X _ v σ1 hrt g9
  exact lv_icmp_eq (tgt := 1579) hx hb d9 ht (fun _ => kk σ2 fo H1 locs1 ls hI2 hP1 hPo1 hS1 hl) (fun z => absurd rfl z)
theorem lw_caseL (C0 : lw_C p l s m meth c b L xs ad G cI cK cS cJ qo a1 a2 a3) {pc n ix im lx sx lm sm i : Nat} {off : Int} {X M : mm_Me} (hX : X ∈ mm_tab) (hM : M ∈ mm_tab) (hck : lw_ckL pc n X M ix im lx sx lm sm off = true) (hi : i + 6 ≤ L) (hcs : cells ≤ room_1.cells ∧ slots ≤ room_1.slots) (hF : ∀ σ, Inv σ → FQ X M (lw_as xs i n) σ)
    (kk : lw_Nx p l e s m b below meth c ad G cI cK cS cJ qo cells slots 1579 i) : lw_Nx p l e s m b below meth c ad G cI cK cS cJ qo cells slots pc i := by
  intro σ fo H locs ls hI hP hPo hS hl
  obtain ⟨⟨hx, hb, -⟩, -⟩ := id C0
  unfold lw_ckL at hck
  simp only [Bool.and_eq_true] at hck
  obtain ⟨⟨⟨⟨⟨hck, hrt⟩, hni⟩, d8⟩, d9⟩, ht⟩ := hck
  have hrt := of_decide_eq_true hrt
  have d8 := of_decide_eq_true d8
  have d9 := of_decide_eq_true d9
  have ht := of_decide_eq_true ht
  refine lw_both C0 hX hM hck hi hcs (hF σ hI) hP hPo hS hl (fun v σ1 σ2 H1 locs1 g1 hI2 hP1 hPo1 hS1 => ?_)
  obtain ⟨n9, g9⟩ := g1
  obtain ⟨y, rfl⟩ := mm_longR n9 X _ v σ1 hrt hni g9
  refine W.lcmp hx hb d8 ?_
  have e0 : lg_cmp y y = 0 := by
    unfold lg_cmp
    rw [if_neg (by simp), if_pos rfl]
  rw [e0]
  exact lv_if_eq (tgt := 1579) hx hb d9 ht (fun _ => kk σ2 fo H1 locs1 ls hI2 hP1 hPo1 hS1 hl) (fun z => absurd rfl z)
theorem lw_more {pc i k n : Nat} (h1 : cells ≤ k) (h2 : slots ≤ n) (kk : lw_Nx p l e s m b below meth c ad G cI cK cS cJ qo k n pc i) : lw_Nx p l e s m b below meth c ad G cI cK cS cJ qo cells slots pc i := fun σ fo H locs ls hI hP hPo hS hl => W.widen h1 h2 (kk σ fo H locs ls hI hP hPo hS hl)
end LWG
