/-! toss, of the class -/
def x_toss (σ : mm_Sg) (k f : Nat) : Int32 := if k = 3 ∨ k = 7 ∨ f = 0 then -15 else f_D4 σ (2 + k) (nI f)
def xA (ad : Nat → Nat) (sz : Nat) : Nat → Prop := fun q => mm_A ad q ∨ sz ≤ q
theorem fb_blind {av : List Value} {z0 a1 a2 a3 sz : Nat} : FrameBlind (va_Pc av (fun U => U.heap.size = sz ∧ mm_T U ∧ xq_Z z0 a1 a2 a3 U)) := fun a U g mk q =>
  ⟨q.1, q.2.1, mm_T.same (s := U) (U := U.calling g mk a) q.2.2.1 rfl, xq_Z.blind q.2.2.2⟩
def fb_ws (C : String) (y : MethodName) (b : ByteArray) : List Cond := [Cond.code y b 2 none, Cond.initialized y.cls, Cond.methodLink RX10 278 yX4_failBy, Cond.sameMethod RX4 RX4 "failBy" "(I)V", Cond.instanceMethod yX4_failBy, Cond.code yX4_failBy prog_6_method_6_code 2 none, Cond.selects C yX4_failBy y, Cond.instanceMethod y]
def fb_ok (C : String) (y : MethodName) (b : ByteArray) : Bool := (fb_ws C y b).all (fun w => decide (w ∈ lw_tbl) && mm_okW w)
set_option maxRecDepth 20000 in
theorem fb_w0 : fb_ok RX0 yX4_failBy prog_6_method_6_code = true := by decide +kernel
set_option maxRecDepth 20000 in
theorem fb_w2 : fb_ok RX2 yX4_failBy prog_6_method_6_code = true := by decide +kernel
set_option maxRecDepth 20000 in
theorem fb_w3 : fb_ok RX3 yX4_failBy prog_6_method_6_code = true := by decide +kernel
set_option maxRecDepth 20000 in
theorem fb_w4 : fb_ok RX4 yX4_failBy prog_6_method_6_code = true := by decide +kernel
set_option maxRecDepth 20000 in
theorem fb_w5 : fb_ok RX5 yX4_failBy prog_6_method_6_code = true := by decide +kernel
set_option maxRecDepth 20000 in
theorem fb_w6 : fb_ok RX6 yX6_failBy prog_8_method_5_code = true := by decide +kernel
set_option maxRecDepth 20000 in
theorem fb_w7 : fb_ok RX7 yX6_failBy prog_8_method_5_code = true := by decide +kernel
set_option maxRecDepth 20000 in
theorem fb_w9 : fb_ok RX9 yX4_failBy prog_6_method_6_code = true := by decide +kernel
theorem fb_kind (l : Launch) (hl : l.stackTraces = false) (k f h0 z0 a1 a2 a3 sz : Nat) (hk : k < 8) (hf : f < 10) : ∃ (y : MethodName) (b : ByteArray) (P : Prop) (qc : vw_C), mm_cls[mm_cl (2 + k)]? = some qc ∧ fb_Met l y b h0 (nI f) z0 a1 a2 a3 sz P ∧ fb_ok qc.1 y b = true ∧ (P ↔ (k = 3 ∨ k = 7 ∨ f = 0)) := by
  have e : (nI f = (0 : Int32)) ↔ f = 0 := nI_eq (b := 0) (by omega) (by decide)
  have p4 : ∀ k, ¬ k = 3 → ¬ k = 7 → ((nI f = (0 : Int32)) ↔ (k = 3 ∨ k = 7 ∨ f = 0)) := fun k h3 h7 => by rw [e]; omega
  rcases (show k = 0 ∨ k = 1 ∨ k = 2 ∨ k = 3 ∨ k = 4 ∨ k = 5 ∨ k = 6 ∨ k = 7 by omega) with rfl | rfl | rfl | rfl | rfl | rfl | rfl | rfl
  · exact ⟨_, _, _, _, rfl, c_failBy4 l hl h0 (nI f) z0 a1 a2 a3 sz, fb_w4, p4 _ (by decide) (by decide)⟩
  · exact ⟨_, _, _, _, rfl, c_failBy4 l hl h0 (nI f) z0 a1 a2 a3 sz, fb_w3, p4 _ (by decide) (by decide)⟩
  · exact ⟨_, _, _, _, rfl, c_failBy4 l hl h0 (nI f) z0 a1 a2 a3 sz, fb_w0, p4 _ (by decide) (by decide)⟩
  · exact ⟨_, _, _, _, rfl, c_failBy6 l h0 (nI f) z0 a1 a2 a3 sz, fb_w6, ⟨fun _ => Or.inl rfl, fun _ => trivial⟩⟩
  · exact ⟨_, _, _, _, rfl, c_failBy4 l hl h0 (nI f) z0 a1 a2 a3 sz, fb_w2, p4 _ (by decide) (by decide)⟩
  · exact ⟨_, _, _, _, rfl, c_failBy4 l hl h0 (nI f) z0 a1 a2 a3 sz, fb_w5, p4 _ (by decide) (by decide)⟩
  · exact ⟨_, _, _, _, rfl, c_failBy4 l hl h0 (nI f) z0 a1 a2 a3 sz, fb_w9, p4 _ (by decide) (by decide)⟩
  · exact ⟨_, _, _, _, rfl, c_failBy6 l h0 (nI f) z0 a1 a2 a3 sz, fb_w7, ⟨fun _ => Or.inr (Or.inl rfl), fun _ => trivial⟩⟩
theorem dt_12 : decode prog_1_method_40_code 12 = .ok (.ireturn, 1) := by decide +kernel
theorem dt_44 : decode prog_1_method_40_code 44 = .ok (.invokevirtual 278, 3) := by decide +kernel
theorem dt_50 : decode prog_1_method_40_code 50 = .ok (.astore 5, 2) := by decide +kernel
theorem dt_58 : decode prog_1_method_40_code 58 = .ok (.ireturn, 1) := by decide +kernel
theorem dt_61 : decode prog_1_method_40_code 61 = .ok (.ireturn, 1) := by decide +kernel
set_option maxRecDepth 20000 in
theorem tw_ok : ([Cond.classLink RX10 252 xISE, Cond.castable xISE xISE] : List Cond).all (fun w => decide (w ∈ lw_tbl) && mm_okW w) = true := by decide +kernel
abbrev tossW : Cond := Cond.codeWith yX10_toss prog_1_method_40_code 6 (some .int) [(41, 47, 50, 252)]
set_option maxHeartbeats 4000000 in
set_option maxRecDepth 20000 in
theorem c_toss (l : Launch) (hl : l.stackTraces = false) {ad : Nat → Nat} {G : va_G} {cI cK cS : ClassId} (hinj : ∀ i j, i < 83 → j < 83 → ad i = ad j → i = j) {σ : mm_Sg} (z0 a1 a2 a3 sz : Nat) (hz : ∀ k, k < 83 → z0 ≤ ad k) (x1 v : Int32)
    (hv : (∃ d k f, d < 8 ∧ x1 = nI d ∧ k < 8 ∧ f < 10 ∧ σ (32 + 2 * d) 1 = nI k ∧ σ (32 + 2 * d) 2 = nI f ∧ f_X10_refusalUnless σ 0 1 x1 = 0 ∧ v = x_toss σ k f) ∨ (¬ v = 0 ∧ f_X10_refusalUnless σ 0 1 x1 = v)) :
    vx_Met l yX10_toss [tossW] { frames := 8, cells := 1, slots := 6, locals := 304 } (va_Pc [.ref (ad 0), .int x1] (fun U => mm_Wd ad G cI cK cS σ U ∧ xq_Z z0 a1 a2 a3 U ∧ U.heap.size = sz)) (va_Qi (fun r (_ : Unit) => r = v) (fun _ t => mm_Wd ad G cI cK cS σ t) (xA ad sz)) (fun _ _ _ => False) 1 6 (xA ad sz) := by
  refine vx_ofWH (cc := prog_1_method_40_code) (maxL := 6) (ret := some .int) (by decide) rfl ?_
  intro p e s m args below meth c s₁ B hml hv'
  obtain ⟨rfl, ⟨hP0, hK, hT⟩, hZ, hsz⟩ := hv'
  have hx := B.exec
  have hb := B.bytes
  have hr := B.returns
  have hown : s.vm.findClass RX10 = some m.cls := findClass_of_methodNamed B.named
  have hlocks := B.notSynchronized
  have htab := vx_table (x := yX10_toss) B (atoms_spec (ws := [tossW]) B.pre _ List.mem_cons_self)
  subst hsz
  obtain ⟨A, eA⟩ : ∃ A, A = xA ad s.heap.size := ⟨_, rfl⟩
  rw [← eA]
  have hAm : ∀ q, mm_A ad q → A q := fun q h => by rw [eA]; exact Or.inl h
  have hAf : ∀ q, s.heap.size ≤ q → A q := fun q h => by rw [eA]; exact Or.inr h
  have hAz : ∀ q, A q → z0 ≤ q := fun q h => by
    rw [eA] at h
    rcases h with ⟨k, hk, rfl⟩ | h
    · exact hz k hk
    · exact Nat.le_trans hZ.2.2.2.2.2.2 h
  have F : mm_Fr p s m c ad G cI cK cS A mm_m_X10_toss := ⟨hx, hb, hml, hown, hK, hT, fun σ => (mm_D hinj σ).weaken (fun _ _ _ h => hAm _ h)⟩
  have fin : ∀ (pc : Nat) (r : Int32) (ls : Array Slot) (H : Heap) (locs : List Loc), va_P G mm_cls (mm_cells ad cI cK cS σ) H → va_S A s.heap H locs → decode prog_1_method_40_code pc = .ok (.ireturn, 1) → r = v → W p l e ({ frames := 8, cells := 1, slots := 6, locals := 304 } : Room) s m #[.ref (ad 0), .int x1] below meth c H locs 1 6 (vx_MQ below (va_Qi (fun r (_ : Unit) => r = v) (fun _ t => mm_Wd ad G cI cK cS σ t) A) (fun _ _ _ => False) #[.ref (ad 0), .int x1] s 1 6 A) (F0 m pc ls [.int r]) := fun pc r ls H locs hP hS hd e => by
    refine vx_ret ?_
    exact W.zret (v := r) (ty := .int) hx hb hr rfl (fun t ht hW => ⟨⟨r, (), rfl, e, by rw [ht]; exact hP, va_K.moved hW.alike hK, hT.warm hW⟩, hS.F ht⟩) hS.2.2 hd hlocks
  have hl0 := lv_entry (([.ref 0, .int x1] : List Value).map (mm_rv ad)) (n := 6) (Nat.le_of_ble_eq_true rfl)
  rw [lg_entry_eq]
  have hR : ∀ (c9 s9 : Nat), c9 ≤ 1 → s9 ≤ 6 → 38 * mm_lv mm_m_X10_toss ≤ ({ frames := 8, cells := 1, slots := 6, locals := 304 } : Room).locals ∧ mm_lv mm_m_X10_toss ≤ ({ frames := 8, cells := 1, slots := 6, locals := 304 } : Room).frames ∧ c9 ≤ ({ frames := 8, cells := 1, slots := 6, locals := 304 } : Room).cells ∧ s9 ≤ ({ frames := 8, cells := 1, slots := 6, locals := 304 } : Room).slots := fun c9 s9 h1 h2 => ⟨Nat.le_of_ble_eq_true rfl, Nat.le_of_ble_eq_true rfl, h1, h2⟩
  have R0 := hR 0 0 (by decide) (by decide)
  have R1 := hR 1 6 (by decide) (by decide)
  refine (?_ : mm_WW p l e ({ frames := 8, cells := 1, slots := 6, locals := 304 } : Room) s m #[.ref (ad 0), .int x1] below meth c 0 0 (vx_MQ below (va_Qi (fun r (_ : Unit) => r = v) (fun _ t => mm_Wd ad G cI cK cS σ t) A) (fun _ _ _ => False) #[.ref (ad 0), .int x1] s 1 6 A) ad G cI cK cS A s.heap 6 (0, [.ref 0, .int x1, .null, .null, .null, .null], [], σ)) _ s.heap [] (mm_L0 (as := [.ref 0, .int x1]) (Nat.le_of_ble_eq_true rfl) hl0) hP0 va_S.rf
  refine mm_blkW mm_ke_X10_toss F R0 3 (S' := (3, [.ref 0, .int x1, .null, .null, .null, .null], [.int x1, .int (1 : Int32), .ref 0], σ)) (P := []) rfl trivial ?_
  refine mm_clW mm_ke_X10_toss F R0 hAm hinj (rest := []) (ev_RU σ 1 x1) ⟨_, _, _, rfl, rfl, mm_tb_X10_refusalUnless, rfl, rfl, Nat.le_of_ble_eq_true rfl, Nat.le_of_ble_eq_true rfl, ⟨_, rfl, rfl⟩⟩ ?_
  refine mm_blkW mm_ke_X10_toss F R0 3 (S' := ((if f_X10_refusalUnless σ 0 1 x1 = (0 : Int32) then 13 else 11), [.ref 0, .int x1, .int (f_X10_refusalUnless σ 0 1 x1), .null, .null, .null], [], σ)) (P := []) rfl trivial ?_
  rcases hv with ⟨d, k, f, hd, rfl, hk, hf, e1, e2, ru, ev⟩ | ⟨v0, ru⟩
  · rw [ru, if_pos rfl]
    have cs := (cl_sh d hd).1
    refine mm_blkW mm_ke_X10_toss F R0 7 (S' := (26, [.ref 0, .int (nI d), .int (0 : Int32), .null, .null, .null], [.int (σ (32 + 2 * (nI d).toNatClampNeg) 1), .ref 10], σ)) (P := [mm_cl 0 = 10, mm_cl 0 = 10, vp_in (nI d) 8, 31 = 1 ∨ 31 = 31 ∨ 31 = 65 ∨ 31 = 74, mm_cl (32 + 2 * (nI d).toNatClampNeg) = 8]) rfl ⟨rfl, rfl, v_in hd (by decide), by decide, by rw [nI_clamp (by omega)]; exact cs, trivial⟩ ?_
    rw [nI_clamp (show d < 2 ^ 31 by omega), e1]
    have evk : mm_Ev mm_m_X1_kindNumbered [.ref 10, .int (nI k)] σ (some (.ref (2 + k))) σ := ev_kn σ (c := 10) (Or.inl rfl) hk
    refine mm_clW mm_ke_X10_toss F R0 hAm hinj (rest := []) evk ⟨_, _, _, rfl, rfl, mm_tb_X1_kindNumbered, rfl, rfl, Nat.le_of_ble_eq_true rfl, Nat.le_of_ble_eq_true rfl, ⟨_, rfl, rfl⟩⟩ ?_
    refine mm_blkW mm_ke_X10_toss F R0 9 (S' := (44, [.ref 0, .int (nI d), .int (0 : Int32), .ref (2 + k), .int (σ (32 + 2 * (nI d).toNatClampNeg) 2), .null], [.int (σ (32 + 2 * (nI d).toNatClampNeg) 2), .ref (2 + k)], σ)) (P := [mm_cl 0 = 10, vp_in (nI d) 8, 31 = 1 ∨ 31 = 31 ∨ 31 = 65 ∨ 31 = 74, mm_cl (32 + 2 * (nI d).toNatClampNeg) = 8]) rfl ⟨rfl, v_in hd (by decide), by decide, by rw [nI_clamp (by omega)]; exact cs, trivial⟩ ?_
    rw [nI_clamp (show d < 2 ^ 31 by omega), e2]
    intro ls H locs hL hP hS
    obtain ⟨y, b, P, qc, hqc, fb, wok, hPf⟩ := fb_kind l hl k f (ad (2 + k)) z0 a1 a2 a3 H.size hk hf
    have ws := hT.all wok #[.ref (ad 0), .int (nI d)]
    have wat : ∀ (i : Nat) (w : Cond), (fb_ws qc.1 y b)[i]? = some w → w.before #[.ref (ad 0), .int (nI d)] s = true := fun i w h => ws w (List.mem_of_getElem? h)
    have hws : ∀ w ∈ [Cond.code y b 2 none], ∀ (a' : Array Value) (U : State), s.WarmedH U.vm → w.before a' U = true := fun w hw a' U hW => hT.warmAll hW wok a' w (by rw [List.mem_singleton.mp hw]; exact List.mem_cons_self)
    have keepP : ∀ {H1 : Heap}, (∀ q : Nat, q < H.size → ¬ H.size ≤ q → H1[q]? = H[q]?) → va_P G mm_cls (mm_cells ad cI cK cS σ) H1 := fun hk9 => hP.kept (fun k9 q9 hq9 => by
      have h1 := (hP k9 q9 hq9).lt
      exact hk9 _ h1 (by omega))
    refine vx_callv (A1 := fun q => H.size ≤ q) (vx_runU (x := yX4_failBy) (y := y) (C := qc.1) (owner := RX4) (bytes := b) (maxL := 2) (ret := none) (b := ad (2 + k)) (As := [.int (nI f)]) (rest := []) (Ts := []) (nL := 6) ⟨hx, hb, hml, hown, fun _ h => by cases h⟩ fb ⟨⟨rfl, rfl, Nat.le_of_ble_eq_true rfl, Nat.le_of_ble_eq_true rfl, hws, List.mem_singleton.mpr rfl⟩, wat 0 _ rfl, wat 1 _ rfl, ⟨by decide, by decide⟩, fun sig h => by cases h; rfl, wat 2 _ rfl, wat 3 _ rfl, va_Decl.of (wat 4 _ rfl) (wat 5 _ rfl), wat 6 _ rfl, wat 7 _ rfl⟩ ⟨fb_blind, va_recv hK hP hqc (mm_obj rfl (mm_cls_lt hqc)), fun U hU hW => ⟨rfl, by rw [hU], hT.warm hW, hZ.S hW hU hS hAz⟩⟩ rfl rfl hL.1 rfl (lv_room (Nat.le_of_ble_eq_true rfl)) dt_44 ⟨Nat.le_of_ble_eq_true rfl, Nat.le_of_ble_eq_true rfl⟩) hS (fun q _ h => hAf q (Nat.le_trans hS.1 h)) (fun q h => hAf q (Nat.le_trans hS.1 h)) (fun q _ h => hAf q (Nat.le_trans hS.1 h)) (fun E ce q9 u t H1 locs1 ht hal hpx hBX hsz1 hk1 hS1 hce hcv hcl => ?_) (fun u t H1 locs1 ht hal hpx _ hsz1 hk1 hS1 => ?_)
    · have hBX : E = xISE := hBX
      subst hBX
      have tw := hT.all tw_ok #[.ref (ad 0), .int (nI d)]
      refine vx_catch hown [] ⟨41, 47, 50, 252⟩ [] (by rw [htab]; rfl) (fun _ h => by cases h) (show covers (⟨41, 47, 50, 252⟩ : ExceptionTableEntry) 44 = true by decide) (by decide) (tw _ List.mem_cons_self) (tw _ (List.mem_cons_of_mem _ List.mem_cons_self)) hce hcv hcl ?_
      refine lv_astore (lv' := (5, .ref q9) :: (mm_asc ad [.ref 0, .int (nI d), .int (0 : Int32), .ref (2 + k), .int (nI f), .null]).filter (fun q => !(q.1 == 5) && !(q.1 + 1 == 5 && q.2.category == 2))) hx hb dt_50 hL.has (by decide) rfl (fun ls1 hl1 => ?_)
      have hL1 : mm_L ad ls1 6 [.ref 0, .int (nI d), .int (0 : Int32), .ref (2 + k), .int (nI f), .null] := by
        refine ⟨hl1.1, rfl, hl1.2.1, fun j w hj hn => ?_⟩
        have hj6 : j < 6 := (List.getElem?_eq_some_iff.mp hj).1
        have hj5 : j ≠ 5 := fun e5 => by subst e5; cases hj; exact hn rfl
        refine hl1.2.2 (j, mm_rv ad w) (List.mem_cons_of_mem _ (List.mem_filter.mpr ⟨mm_asc_mem.mpr ⟨w, hj, hn, rfl⟩, ?_⟩))
        have q1 : (j == 5) = false := by simpa using hj5
        by_cases e4 : j + 1 = 5
        · obtain rfl : j = 4 := by omega
          cases hj
          rfl
        · simp [q1]
          exact Or.inl (by omega)
      refine (?_ : mm_WW p l e ({ frames := 8, cells := 1, slots := 6, locals := 304 } : Room) s m #[.ref (ad 0), .int (nI d)] below meth c 1 6 (vx_MQ below (va_Qi (fun r (_ : Unit) => r = v) (fun _ t => mm_Wd ad G cI cK cS σ t) A) (fun _ _ _ => False) #[.ref (ad 0), .int (nI d)] s 1 6 A) ad G cI cK cS A s.heap 6 (52, [.ref 0, .int (nI d), .int (0 : Int32), .ref (2 + k), .int (nI f), .null], [], σ)) ls1 H1 locs1 hL1 (keepP hk1) hS1
      refine mm_blkW mm_ke_X10_toss F R1 2 (S' := (55, [.ref 0, .int (nI d), .int (0 : Int32), .ref (2 + k), .int (nI f), .null], [.int (nI f), .ref (2 + k)], σ)) (P := []) rfl trivial ?_
      obtain ⟨M9, q8, as9, e9, hds, hc9, hs9, hev⟩ := ev_D4 σ (2 + k) (nI f) ⟨by omega, by omega⟩
      cases e9
      refine mm_clW mm_ke_X10_toss F R1 hAm hinj (rest := []) hev ⟨_, _, _, rfl, rfl, hds, rfl, rfl, Nat.le_of_ble_eq_true rfl, hs9, ⟨_, rfl, hc9⟩⟩ ?_
      intro ls2 H2 locs2 hL2 hP2 hS2
      exact fin 58 _ ls2 H2 locs2 hP2 hS2 dt_58 (by rw [ev]; unfold x_toss; rw [if_neg (fun z => hpx (hPf.mpr z))])
    · have hpx : P := hpx
      refine (?_ : mm_WW p l e ({ frames := 8, cells := 1, slots := 6, locals := 304 } : Room) s m #[.ref (ad 0), .int (nI d)] below meth c 1 6 (vx_MQ below (va_Qi (fun r (_ : Unit) => r = v) (fun _ t => mm_Wd ad G cI cK cS σ t) A) (fun _ _ _ => False) #[.ref (ad 0), .int (nI d)] s 1 6 A) ad G cI cK cS A s.heap 6 (47, [.ref 0, .int (nI d), .int (0 : Int32), .ref (2 + k), .int (nI f), .null], [], σ)) ls H1 locs1 hL (keepP hk1) hS1
      refine mm_blkW mm_ke_X10_toss F R1 2 (S' := (61, [.ref 0, .int (nI d), .int (0 : Int32), .ref (2 + k), .int (nI f), .null], [.int (-15 : Int32)], σ)) (P := []) rfl trivial ?_
      intro ls2 H2 locs2 hL2 hP2 hS2
      exact fin 61 _ ls2 H2 locs2 hP2 hS2 dt_61 (by rw [ev]; unfold x_toss; rw [if_pos (hPf.mp hpx)])
  · rw [ru, if_neg v0]
    refine mm_blkW mm_ke_X10_toss F R0 1 (S' := (12, [.ref 0, .int x1, .int v, .null, .null, .null], [.int v], σ)) (P := []) rfl trivial ?_
    intro ls2 H2 locs2 hL2 hP2 hS2
    refine W.widen (k := 1) (n := 6) (by omega) (by omega) ?_
    exact fin 12 _ ls2 H2 locs2 hP2 hS2 dt_12 rfl
