/-! methods that throw and catch: the small machine over their plain parts, the kit over the rest -/
def mm_c_X10_toss : List mm_En := [
  (0, .aload_n 0, [0], .null),
  (1, .iconst 1, [], .int 1),
  (2, .iload_n 1, [1], .null),
  (3, .invokevirtual 39, [2, 254, 3, 98, 0, 10], .null),
  (6, .istore_n 2, [2], .null),
  (7, .iload_n 2, [2], .null),
  (8, .ifCond .eq 5, [13], .null),
  (11, .iload_n 2, [2], .null),
  (12, .ireturn, [], .null),
  (13, .aload_n 0, [0], .null),
  (14, .getfield 10, [225, 10, 0, 0], .null),
  (17, .aload_n 0, [0], .null),
  (18, .getfield 24, [228, 10, 3, 0], .null),
  (21, .iload_n 1, [1], .null),
  (22, .aaload, [], .null),
  (23, .getfield 109, [203, 8, 1, 1], .null),
  (26, .invokevirtual 269, [2, 727, 2, 7, 345, 1], .null),
  (29, .astore_n 3, [3], .null),
  (30, .aload_n 0, [0], .null),
  (31, .getfield 24, [228, 10, 3, 0], .null),
  (34, .iload_n 1, [1], .null),
  (35, .aaload, [], .null),
  (36, .getfield 111, [205, 8, 2, 1], .null),
  (39, .istore 4, [4], .null),
  (41, .aload_n 3, [3], .null),
  (42, .iload 4, [4], .null),
  (47, .goto 12, [59], .null),
  (52, .aload_n 3, [3], .null),
  (53, .iload 4, [4], .null),
  (55, .invokevirtual 281, [4, 843, 2, 4], .null),
  (58, .ireturn, [], .null),
  (59, .bipush (-15), [], .int (-15)),
  (61, .ireturn, [], .null)]
def yX10_toss : MethodName := ⟨RX10, "toss", "(I)I"⟩
abbrev mm_m_X10_toss : mm_Me := (yX10_toss, prog_1_method_40_code, 6, (some (.int)), 8, mm_c_X10_toss, [760, 44, 758, 0, 1])
set_option maxRecDepth 20000 in
theorem mm_ke_X10_toss : (mm_code mm_m_X10_toss).all (mm_eok mm_m_X10_toss) = true := by decide +kernel
def mm_c_X10_element : List mm_En := [
  (0, .iload_n 1, [1], .null),
  (1, .invokestatic 103, [0, 258, 1, 97], .null),
  (4, .ifCond .ne 13, [17], .null),
  (17, .aload_n 0, [0], .null),
  (18, .getfield 24, [228, 10, 3, 0], .null),
  (21, .iload_n 1, [1], .null),
  (22, .aaload, [], .null),
  (23, .astore_n 3, [3], .null),
  (24, .aload_n 3, [3], .null),
  (25, .getfield 232, [201, 8, 0, 1], .null),
  (28, .iconst 2, [], .int 2),
  (29, .if_icmp .ne 11, [40], .null),
  (32, .aload_n 3, [3], .null),
  (33, .iload_n 2, [2], .null),
  (34, .invokevirtual 239, [2, 709, 2, 45, 270, 8], .null),
  (37, .ifCond .ne 13, [50], .null),
  (50, .aload_n 3, [3], .null),
  (51, .iload_n 2, [2], .null),
  (52, .invokevirtual 58, [2, 264, 2, 47, 266, 8], .null),
  (55, .i2l, [], .null),
  (56, .lreturn, [], .null)]
def yX10_element : MethodName := ⟨RX10, "element", "(II)J"⟩
abbrev mm_m_X10_element : mm_Me := (yX10_element, prog_1_method_37_code, 4, (some (Jvm.ClassFile.FieldType.long)), 8, mm_c_X10_element, [869, 44, 867, 0, 2])
set_option maxRecDepth 20000 in
theorem mm_ke_X10_element : (mm_code mm_m_X10_element).all (mm_eok mm_m_X10_element) = true := by decide +kernel
def yX4_failBy : MethodName := ⟨RX4, "failBy", "(I)V"⟩
def yX6_failBy : MethodName := ⟨RX6, "failBy", "(I)V"⟩
def RL : String := "BeansOnTheOtherSideLaw"
def yL_element : MethodName := ⟨RL, "element", "(LBeansOnTheOtherSide;II[J)I"⟩
section MMpart
variable {p : Program} {l : Launch} {e : Env} {R : Room} {s : State} {m : MethodId} {args : Array Value} {below : List Frame} {meth : Method} {c : Code} {cells slots : Nat} {Q : State → Prop} {ad : Nat → Nat} {G : va_G} {cI cK cS : ClassId} {A : Nat → Prop} {H0 : Heap}
theorem mm_blkW {M : mm_Me} (hM : (mm_code M).all (mm_eok M) = true) (F : mm_Fr p s m c ad G cI cK cS A M) (hR : 38 * mm_lv M ≤ R.locals ∧ mm_lv M ≤ R.frames ∧ cells ≤ R.cells ∧ slots ≤ R.slots) : ∀ (k : Nat) {S S' : mm_St} {P : List Prop}, mm_stps (mm_code M) k S = some (S', P) → mm_all P → mm_WW p l e R s m args below meth c cells slots Q ad G cI cK cS A H0 (mm_nL M) S' → mm_WW p l e R s m args below meth c cells slots Q ad G cI cK cS A H0 (mm_nL M) S
  | 0, S, S', P, h, _, g => by
    cases h
    exact g
  | k + 1, S, S', P, h, hP, g => by
    unfold mm_stps at h
    cases h1 : mm_stp (mm_code M) S with
    | none => rw [h1] at h; cases h
    | some a =>
      obtain ⟨S1, c1⟩ := a
      rw [h1] at h
      dsimp only at h
      cases h2 : mm_stps (mm_code M) k S1 with
      | none => rw [h2] at h; cases h
      | some b =>
        obtain ⟨S2, d⟩ := b
        rw [h2] at h
        cases h
        have hsp : ∀ (a b : List Prop), mm_all (a ++ b) → mm_all a ∧ mm_all b := by
          intro a
          induction a with
          | nil => exact fun b h => ⟨trivial, h⟩
          | cons p r ih => exact fun b h => ⟨⟨h.1, (ih b h.2).1⟩, (ih b h.2).2⟩
        obtain ⟨hc, hd⟩ := hsp c1 d hP
        exact mm_step hM F hR h1 hc (mm_blkW hM F hR k h2 hd g)
theorem mm_clW {M M' : mm_Me} (hM : (mm_code M).all (mm_eok M) = true) (F : mm_Fr p s m c ad G cI cK cS A M) (hR : 38 * mm_lv M ≤ R.locals ∧ mm_lv M ≤ R.frames ∧ cells ≤ R.cells ∧ slots ≤ R.slots) (hA : ∀ q, mm_A ad q → A q) (hinj : ∀ i j, i < 83 → j < 83 → ad i = ad j → i = j)
    {as rest lv st : List Value} {σ σ' : mm_Sg} {r : Option Value} {pc : Nat} (h : mm_Ev M' as σ r σ') (hcall : mm_call M (pc, lv, st, σ) M' as rest) (K : mm_WW p l e R s m args below meth c cells slots Q ad G cI cK cS A H0 (mm_nL M) (pc + 3, lv, r.toList ++ rest, σ')) : mm_WW p l e R s m args below meth c cells slots Q ad G cI cK cS A H0 (mm_nL M) (pc, lv, st, σ) := by
  have hM' : M' ∈ mm_tab := by
    obtain ⟨i, x, v, -, -, htg, -⟩ := hcall
    exact mm_tgmem htg
  have hsl : (mm_slots as).length ≤ mm_nL M' := by
    obtain ⟨i, x, v, -, -, -, -, -, -, hsl, -⟩ := hcall
    exact hsl
  exact mm_callsnd hM (mm_chk M' hM') F hR hA (mm_contract hM' hinj hsl h) hcall K
end MMpart
/-! words, and what a throw needs of the world -/
theorem mm_T.mem {U : State} (hT : mm_T U) {w : Cond} (h1 : w ∈ lw_tbl) (h2 : mm_okW w = true) (args : Array Value) : w.before args U = true := va_tabs (mm_okW_tab h2) rfl (hT w h1 h2)
theorem mm_T.all {U : State} (hT : mm_T U) {ws : List Cond} (h : ws.all (fun w => decide (w ∈ lw_tbl) && mm_okW w) = true) (args : Array Value) : ∀ w ∈ ws, w.before args U = true := fun w hw => by
  have h1 := List.all_eq_true.mp h w hw
  simp only [Bool.and_eq_true, decide_eq_true_eq] at h1
  exact hT.mem h1.1 h1.2 args
theorem mm_T.warmAll {s U : State} (hT : mm_T s) (hW : s.WarmedH U.vm) {ws : List Cond} (h : ws.all (fun w => decide (w ∈ lw_tbl) && mm_okW w) = true) (args : Array Value) : ∀ w ∈ ws, w.before args U = true := (hT.warm hW).all h args
abbrev xISE : String := "java/lang/IllegalStateException"
abbrev xIAE : String := "java/lang/IllegalArgumentException"
abbrev xNM : List String := ["java/lang/RuntimeException", "java/lang/Exception"]
def xq_Z (z0 a1 a2 a3 : Nat) (U : State) : Prop := vx_Zq Bundle.tN "UNASSIGNED_STACK" Bundle.steD (fun q => z0 ≤ q) U U.heap ∧ vx_Zq Bundle.tN "SUPPRESSED_SENTINEL" Bundle.listD (fun q => z0 ≤ q) U U.heap ∧ vk_R RX4 9 "a failure" a1 U ∧ vk_R RX10 247 "no such shelf" a2 U ∧ vk_R RX10 254 "no such place of a row" a3 U ∧ va_Nc xISE xIAE U ∧ z0 ≤ U.heap.size
theorem xq_Z.to {z0 a1 a2 a3 : Nat} {s U : State} (h : xq_Z z0 a1 a2 a3 s) (hW : s.WarmedH U.vm) (hz : s.heap.size ≤ U.heap.size) (hk : ∀ q : Nat, q < s.heap.size → ¬ z0 ≤ q → U.heap[q]? = s.heap[q]?) : xq_Z z0 a1 a2 a3 U := by
  obtain ⟨h1, h2, h3, h4, h5, h6, h7⟩ := h
  exact ⟨vx_Zq.moved hW.alike (h1.kept hk), vx_Zq.moved hW.alike (h2.kept hk), h3.warm hW, h4.warm hW, h5.warm hW, h6.moved hW.alike, Nat.le_trans h7 hz⟩
theorem xq_Z.S {z0 a1 a2 a3 : Nat} {s U : State} {A : Nat → Prop} {H : Heap} {locs : List Loc} (h : xq_Z z0 a1 a2 a3 s) (hW : s.WarmedH U.vm) (hU : U.heap = H) (hS : va_S A s.heap H locs) (hA : ∀ q, A q → z0 ≤ q) : xq_Z z0 a1 a2 a3 U := h.to hW (by rw [hU]; exact hS.1) (fun q h1 h2 => by rw [hU]; exact hS.2.1 q h1 (fun z => h2 (hA q z)))
theorem xq_Z.blind {z0 a1 a2 a3 : Nat} {U : State} {g : JFrame} {mk : MethodId} {a : Array Value} (h : xq_Z z0 a1 a2 a3 U) : xq_Z z0 a1 a2 a3 (U.calling g mk a) := h.to (State.WarmedH.refl U) (Nat.le_refl _) (fun _ _ _ => rfl)
set_option maxRecDepth 20000 in
theorem xw_4 : (Cond.classLink RX4 7 xISE :: Cond.initialized xISE :: vx_atS RX4 11 xISE xNM).all (fun w => decide (w ∈ lw_tbl) && mm_okW w) = true := by decide +kernel
set_option maxRecDepth 20000 in
theorem xw_a : (Cond.classLink RX10 245 xIAE :: Cond.initialized xIAE :: vx_atS RX10 249 xIAE xNM).all (fun w => decide (w ∈ lw_tbl) && mm_okW w) = true := by decide +kernel
set_option maxRecDepth 20000 in
theorem xw_s : (Cond.classLink RX10 252 xISE :: Cond.initialized xISE :: vx_atS RX10 256 xISE xNM).all (fun w => decide (w ∈ lw_tbl) && mm_okW w) = true := by decide +kernel
theorem xg_of {ws : List Cond} (h : ws.all (fun w => decide (w ∈ lw_tbl) && mm_okW w) = true) : ∀ w ∈ ws, vx_ot w = true := fun w hw => by
  have h1 := List.all_eq_true.mp h w hw
  simp only [Bool.and_eq_true, decide_eq_true_eq] at h1
  unfold vx_ot
  rw [mm_okW_tab h1.2]
  rfl
/-! failBy -/
def fb_Met (l : Launch) (y : MethodName) (b : ByteArray) (h0 : Nat) (f : Int32) (z0 a1 a2 a3 sz : Nat) (P : Prop) : Prop := vx_Met l y [Cond.code y b 2 none] { frames := 6, cells := 1, slots := 6, locals := 120 } (va_Pc [.ref h0, .int f] (fun U => U.heap.size = sz ∧ mm_T U ∧ xq_Z z0 a1 a2 a3 U)) (va_Qv (fun _ : Unit => P) (fun _ _ => True) (fun q => sz ≤ q)) (vx_X (fun _ : Unit => ¬ P) (fun E _ _ => E = xISE) (fun q => sz ≤ q)) 1 6 (fun q => sz ≤ q)
theorem d4f_0 : decode prog_6_method_6_code 0 = .ok (.iload_n 1, 1) := by decide +kernel
theorem d4f_1 : decode prog_6_method_6_code 1 = .ok (.ifCond .eq 13, 3) := by decide +kernel
theorem d4f_4 : decode prog_6_method_6_code 4 = .ok (.new 7, 3) := by decide +kernel
theorem d4f_7 : decode prog_6_method_6_code 7 = .ok (.dup, 1) := by decide +kernel
theorem d4f_8 : decode prog_6_method_6_code 8 = .ok (.ldc 9, 2) := by decide +kernel
theorem d4f_10 : decode prog_6_method_6_code 10 = .ok (.invokespecial 11, 3) := by decide +kernel
theorem d4f_13 : decode prog_6_method_6_code 13 = .ok (.athrow, 1) := by decide +kernel
theorem d4f_14 : decode prog_6_method_6_code 14 = .ok (.return_, 1) := by decide +kernel
theorem d6f_0 : decode prog_8_method_5_code 0 = .ok (.return_, 1) := by decide +kernel
set_option maxHeartbeats 4000000 in
theorem c_failBy4 (l : Launch) (hl : l.stackTraces = false) (h0 : Nat) (f : Int32) (z0 a1 a2 a3 sz : Nat) : fb_Met l yX4_failBy prog_6_method_6_code h0 f z0 a1 a2 a3 sz (f = 0) := by
  refine vx_ofW (cc := prog_6_method_6_code) (maxL := 2) (ret := none) (by decide) rfl ?_
  intro p e s m args below meth c s₁ B hml htab hv
  obtain ⟨rfl, hsz, hT, hZ⟩ := hv
  have hx := B.exec
  have hb := B.bytes
  have hr := B.returns
  have hown : s.vm.findClass RX4 = some m.cls := findClass_of_methodNamed B.named
  have hlocks := B.notSynchronized
  subst hsz
  have hS : va_S (fun q => s.heap.size ≤ q) s.heap s.heap [] := va_S.rf
  have hl2 := lv_entry ([.ref h0, .int f]) (n := 2) (Nat.le_of_ble_eq_true rfl)
  rw [lg_entry_eq]
  generalize (lg_sl ([.ref h0, .int f]) ++ List.replicate (2 - (lg_sl ([.ref h0, .int f])).length) Slot.unset).toArray = ls at hl2 ⊢
  have hl2 : lv_has ls 2 [(0, .ref h0), (1, .int f)] := hl2
  refine lv_iload_n hx hb d4f_0 rfl (lv_at hl2 1 rfl) ?_
  refine lv_if_eq (tgt := 14) hx hb d4f_1 (by decide) (fun c_1 => ?_) (fun c_1 => ?_)
  · refine vx_ret (W.widen (k := 1) (n := 6) (by omega) (by omega) ?_)
    exact W.vret hx hb hr (fun t ht hW => ⟨⟨(), rfl, c_1, trivial⟩, hS.F ht⟩) hS.2.2 d4f_14
  · have hw := hT.all xw_4
    exact vx_throwS hx hb hl (names := xNM) (text := "a failure") hown (by decide) (by decide) (hw _ _ List.mem_cons_self) (hw _ _ (List.mem_cons_of_mem _ List.mem_cons_self)) hZ.2.2.1 (fun w hw2 => hw _ w (List.mem_cons_of_mem _ (List.mem_cons_of_mem _ hw2))) (xg_of xw_4) (hZ.1.narrow (fun q h => Nat.le_trans hZ.2.2.2.2.2.2 h)) (hZ.2.1.narrow (fun q h => Nat.le_trans hZ.2.2.2.2.2.2 h)) hS (by rw [hml]; exact hl2.1) d4f_4 d4f_7 d4f_8 d4f_10 d4f_13 (fun x hx => absurd (htab x hx) id) (Nat.le_of_ble_eq_true rfl) (Nat.le_of_ble_eq_true rfl) (Nat.le_of_ble_eq_true rfl) (Nat.le_of_ble_eq_true rfl) hlocks (fun t _ h1 h2 => ⟨(), c_1, rfl, h1, fun q h _ => h2 q h⟩) hS.2.2 (by omega) (by omega)
set_option maxHeartbeats 4000000 in
theorem c_failBy6 (l : Launch) (h0 : Nat) (f : Int32) (z0 a1 a2 a3 sz : Nat) : fb_Met l yX6_failBy prog_8_method_5_code h0 f z0 a1 a2 a3 sz True := by
  refine vx_ofW (cc := prog_8_method_5_code) (maxL := 2) (ret := none) (by decide) rfl ?_
  intro p e s m args below meth c s₁ B hml htab hv
  obtain ⟨rfl, hsz, hT, hZ⟩ := hv
  have hx := B.exec
  have hb := B.bytes
  have hr := B.returns
  have hlocks := B.notSynchronized
  subst hsz
  have hS : va_S (fun q => s.heap.size ≤ q) s.heap s.heap [] := va_S.rf
  have hl2 := lv_entry ([.ref h0, .int f]) (n := 2) (Nat.le_of_ble_eq_true rfl)
  rw [lg_entry_eq]
  generalize (lg_sl ([.ref h0, .int f]) ++ List.replicate (2 - (lg_sl ([.ref h0, .int f])).length) Slot.unset).toArray = ls at hl2 ⊢
  refine vx_ret (W.widen (k := 1) (n := 6) (by omega) (by omega) ?_)
  exact W.vret hx hb hr (fun t ht hW => ⟨⟨(), rfl, trivial, trivial⟩, hS.F ht⟩) hS.2.2 d6f_0
