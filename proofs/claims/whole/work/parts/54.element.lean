/-! element, of the class; the law asks for it -/
theorem d_X10_element_7 : decode prog_1_method_37_code 7 = .ok (.new 245, 3) := by decide +kernel
theorem d_X10_element_10 : decode prog_1_method_37_code 10 = .ok (.dup, 1) := by decide +kernel
theorem d_X10_element_11 : decode prog_1_method_37_code 11 = .ok (.ldc 247, 2) := by decide +kernel
theorem d_X10_element_13 : decode prog_1_method_37_code 13 = .ok (.invokespecial 249, 3) := by decide +kernel
theorem d_X10_element_16 : decode prog_1_method_37_code 16 = .ok (.athrow, 1) := by decide +kernel
theorem d_X10_element_40 : decode prog_1_method_37_code 40 = .ok (.new 252, 3) := by decide +kernel
theorem d_X10_element_43 : decode prog_1_method_37_code 43 = .ok (.dup, 1) := by decide +kernel
theorem d_X10_element_44 : decode prog_1_method_37_code 44 = .ok (.ldc 254, 2) := by decide +kernel
theorem d_X10_element_46 : decode prog_1_method_37_code 46 = .ok (.invokespecial 256, 3) := by decide +kernel
theorem d_X10_element_49 : decode prog_1_method_37_code 49 = .ok (.athrow, 1) := by decide +kernel
theorem d_X10_element_56 : decode prog_1_method_37_code 56 = .ok (.lreturn, 1) := by decide +kernel
abbrev elW : Cond := Cond.code yX10_element prog_1_method_37_code 4 (some .long)
/-- what element says: 0 and the number, 1 no SHELF, 2 no ROW or place -/
def el_H (σ : mm_Sg) (x1 x2 : Int32) (kk : Nat) (v : Int64) : Prop := (f_X10_isShelf σ x1 = 0 ∧ kk = 1) ∨ (∃ d, d < 8 ∧ x1 = nI d ∧ (¬ σ (32 + 2 * d) 0 = 2 ∨ f_X8_hasPlace σ (32 + 2 * d) x2 = 0) ∧ kk = 2) ∨ (∃ d s n i, d < 8 ∧ x1 = nI d ∧ rowOf σ d s n ∧ i < n ∧ x2 = nI i ∧ kk = 0 ∧ v = (σ 64 (100 * d + i)).toInt64)
set_option maxHeartbeats 4000000 in
set_option maxRecDepth 20000 in
theorem c_element (l : Launch) (hl : l.stackTraces = false) {ad : Nat → Nat} {G : va_G} {cI cK cS : ClassId} (hinj : ∀ i j, i < 83 → j < 83 → ad i = ad j → i = j) {σ : mm_Sg} (z0 a1 a2 a3 sz : Nat) (hz : ∀ k, k < 83 → z0 ≤ ad k) (x1 x2 : Int32) (kk : Nat) (v : Int64) (hv : el_H σ x1 x2 kk v) :
    vx_Met l yX10_element [elW] { frames := 8, cells := 1, slots := 6, locals := 304 } (va_Pc [.ref (ad 0), .int x1, .int x2] (fun U => mm_Wd ad G cI cK cS σ U ∧ xq_Z z0 a1 a2 a3 U ∧ U.heap.size = sz)) (va_Ql (fun r (_ : Unit) => kk = 0 ∧ r = v) (fun _ t => mm_Wd ad G cI cK cS σ t) (xA ad sz)) (vx_X (fun _ : Unit => True) (fun E _ t => va_P G mm_cls (mm_cells ad cI cK cS σ) t.heap ∧ ((kk = 1 ∧ E = xIAE) ∨ (kk = 2 ∧ E = xISE))) (xA ad sz)) 1 6 (xA ad sz) := by
  refine vx_ofW (cc := prog_1_method_37_code) (maxL := 4) (ret := some .long) (by decide) rfl ?_
  intro p e s m args below meth c s₁ B hml htab hv'
  obtain ⟨rfl, ⟨hP0, hK, hT⟩, hZ, hsz⟩ := hv'
  have hx := B.exec
  have hb := B.bytes
  have hr := B.returns
  have hown : s.vm.findClass RX10 = some m.cls := findClass_of_methodNamed B.named
  have hlocks := B.notSynchronized
  subst hsz
  obtain ⟨A, eA⟩ : ∃ A, A = xA ad s.heap.size := ⟨_, rfl⟩
  rw [← eA]
  have hAm : ∀ q, mm_A ad q → A q := fun q h => by rw [eA]; exact Or.inl h
  have hAz : ∀ q, A q → z0 ≤ q := fun q h => by
    rw [eA] at h
    rcases h with ⟨k, hk, rfl⟩ | h
    · exact hz k hk
    · exact Nat.le_trans hZ.2.2.2.2.2.2 h
  have F : mm_Fr p s m c ad G cI cK cS A mm_m_X10_element := ⟨hx, hb, hml, hown, hK, hT, fun σ => (mm_D hinj σ).weaken (fun _ _ _ h => hAm _ h)⟩
  have R0 : 38 * mm_lv mm_m_X10_element ≤ ({ frames := 8, cells := 1, slots := 6, locals := 304 } : Room).locals ∧ mm_lv mm_m_X10_element ≤ ({ frames := 8, cells := 1, slots := 6, locals := 304 } : Room).frames ∧ 0 ≤ ({ frames := 8, cells := 1, slots := 6, locals := 304 } : Room).cells ∧ 0 ≤ ({ frames := 8, cells := 1, slots := 6, locals := 304 } : Room).slots := ⟨Nat.le_of_ble_eq_true rfl, Nat.le_of_ble_eq_true rfl, Nat.zero_le _, Nat.zero_le _⟩
  have hl0 := lv_entry (([.ref 0, .int x1, .int x2] : List Value).map (mm_rv ad)) (n := 4) (Nat.le_of_ble_eq_true rfl)
  rw [lg_entry_eq]
  refine (?_ : mm_WW p l e ({ frames := 8, cells := 1, slots := 6, locals := 304 } : Room) s m #[.ref (ad 0), .int x1, .int x2] below meth c 0 0 (vx_MQ below (va_Ql (fun r (_ : Unit) => kk = 0 ∧ r = v) (fun _ t => mm_Wd ad G cI cK cS σ t) A) (vx_X (fun _ : Unit => True) (fun E _ t => va_P G mm_cls (mm_cells ad cI cK cS σ) t.heap ∧ ((kk = 1 ∧ E = xIAE) ∨ (kk = 2 ∧ E = xISE))) A) #[.ref (ad 0), .int x1, .int x2] s 1 6 A) ad G cI cK cS A s.heap 4 (0, [.ref 0, .int x1, .int x2, .null], [], σ)) _ s.heap [] (mm_L0 (as := [.ref 0, .int x1, .int x2]) (Nat.le_of_ble_eq_true rfl) hl0) hP0 va_S.rf
  refine mm_blkW mm_ke_X10_element F R0 1 (S' := (1, [.ref 0, .int x1, .int x2, .null], [.int x1], σ)) (P := []) rfl trivial ?_
  refine mm_clW mm_ke_X10_element F R0 hAm hinj (rest := []) (ev_X10_isShelf σ x1) ⟨_, _, _, rfl, rfl, mm_tb_X10_isShelf, rfl, rfl, Nat.le_of_ble_eq_true rfl, Nat.le_of_ble_eq_true rfl, trivial⟩ ?_
  refine mm_blkW mm_ke_X10_element F R0 1 (S' := ((if ¬ f_X10_isShelf σ x1 = (0 : Int32) then 17 else 7), [.ref 0, .int x1, .int x2, .null], [], σ)) (P := []) rfl trivial ?_
  have t40 : kk = 2 → ∀ q9 : Value, mm_WW p l e ({ frames := 8, cells := 1, slots := 6, locals := 304 } : Room) s m #[.ref (ad 0), .int x1, .int x2] below meth c 0 0 (vx_MQ below (va_Ql (fun r (_ : Unit) => kk = 0 ∧ r = v) (fun _ t => mm_Wd ad G cI cK cS σ t) A) (vx_X (fun _ : Unit => True) (fun E _ t => va_P G mm_cls (mm_cells ad cI cK cS σ) t.heap ∧ ((kk = 1 ∧ E = xIAE) ∨ (kk = 2 ∧ E = xISE))) A) #[.ref (ad 0), .int x1, .int x2] s 1 6 A) ad G cI cK cS A s.heap 4 (40, [.ref 0, .int x1, .int x2, q9], [], σ) := fun ek q9 ls H locs hL hP hS => by
    exact vx_throwS hx hb hl (names := xNM) (text := "no such place of a row") hown (by decide) (by decide) (hT.all xw_s _ _ List.mem_cons_self) (hT.all xw_s _ _ (List.mem_cons_of_mem _ List.mem_cons_self)) hZ.2.2.2.2.1 (fun w hw2 => hT.all xw_s _ w (List.mem_cons_of_mem _ (List.mem_cons_of_mem _ hw2))) (xg_of xw_s) (hZ.1.narrow hAz) (hZ.2.1.narrow hAz) hS (by rw [hml]; exact hL.1) d_X10_element_40 d_X10_element_43 d_X10_element_44 d_X10_element_46 d_X10_element_49 (fun x hx => absurd (htab x hx) id) (Nat.le_of_ble_eq_true rfl) (Nat.le_of_ble_eq_true rfl) (Nat.le_of_ble_eq_true rfl) (Nat.le_of_ble_eq_true rfl) hlocks (fun t _ h1 h2 => ⟨(), trivial, ⟨hP.kept (fun k9 q9 hq9 => h2 _ (hP k9 q9 hq9).lt), Or.inr ⟨ek, rfl⟩⟩, Nat.le_trans hS.1 h1, fun q h h3 => (h2 q (Nat.lt_of_lt_of_le h hS.1)).trans (hS.2.1 q h h3)⟩) hS.2.2 (by omega) (by omega)
  rcases hv with ⟨h0, ek⟩ | ⟨d, hd, rfl, hno, ek⟩ | ⟨d, s9, n, i, hd, rfl, hro, hi, rfl, ek, ev⟩
  · rw [h0, if_neg (fun z => z rfl)]
    intro ls H locs hL hP hS
    exact vx_throwS hx hb hl (names := xNM) (text := "no such shelf") hown (by decide) (by decide) (hT.all xw_a _ _ List.mem_cons_self) (hT.all xw_a _ _ (List.mem_cons_of_mem _ List.mem_cons_self)) hZ.2.2.2.1 (fun w hw2 => hT.all xw_a _ w (List.mem_cons_of_mem _ (List.mem_cons_of_mem _ hw2))) (xg_of xw_a) (hZ.1.narrow hAz) (hZ.2.1.narrow hAz) hS (by rw [hml]; exact hL.1) d_X10_element_7 d_X10_element_10 d_X10_element_11 d_X10_element_13 d_X10_element_16 (fun x hx => absurd (htab x hx) id) (Nat.le_of_ble_eq_true rfl) (Nat.le_of_ble_eq_true rfl) (Nat.le_of_ble_eq_true rfl) (Nat.le_of_ble_eq_true rfl) hlocks (fun t _ h1 h2 => ⟨(), trivial, ⟨hP.kept (fun k9 q9 hq9 => h2 _ (hP k9 q9 hq9).lt), Or.inl ⟨ek, rfl⟩⟩, Nat.le_trans hS.1 h1, fun q h h3 => (h2 q (Nat.lt_of_lt_of_le h hS.1)).trans (hS.2.1 q h h3)⟩) hS.2.2 (by omega) (by omega)
  · rw [x_sh σ hd, if_pos (by decide)]
    refine mm_blkW mm_ke_X10_element F R0 9 (S' := ((if ¬ (σ (32 + 2 * (nI d).toNatClampNeg) 0) = (2 : Int32) then 40 else 32), [.ref 0, .int (nI d), .int x2, .ref (32 + 2 * (nI d).toNatClampNeg)], [], σ)) (P := [mm_cl 0 = 10, vp_in (nI d) 8, 31 = 1 ∨ 31 = 31 ∨ 31 = 65 ∨ 31 = 74, mm_cl (32 + 2 * (nI d).toNatClampNeg) = 8]) rfl ⟨rfl, v_in hd (by decide), by decide, by rw [nI_clamp (by omega)]; exact (cl_sh d hd).1, trivial⟩ ?_
    rw [nI_clamp (show d < 2 ^ 31 by omega)]
    by_cases h2 : ¬ σ (32 + 2 * d) 0 = 2
    · rw [if_pos h2]
      exact t40 ek _
    · rw [if_neg h2]
      have hno : f_X8_hasPlace σ (32 + 2 * d) x2 = 0 := by
        rcases hno with h | h
        · exact absurd h h2
        · exact h
      refine mm_blkW mm_ke_X10_element F R0 2 (S' := (34, [.ref 0, .int (nI d), .int x2, .ref (32 + 2 * d)], [.int x2, .ref (32 + 2 * d)], σ)) (P := []) rfl trivial ?_
      refine mm_clW mm_ke_X10_element F R0 hAm hinj (rest := []) (ev_X8_hasPlace σ (32 + 2 * d) x2 (fun _ => (cl_sh d hd).1)) ⟨_, _, _, rfl, rfl, mm_tb_X8_hasPlace, rfl, rfl, Nat.le_of_ble_eq_true rfl, Nat.le_of_ble_eq_true rfl, ⟨_, rfl, (cl_sh d hd).1⟩⟩ ?_
      refine mm_blkW mm_ke_X10_element F R0 1 (S' := ((if ¬ f_X8_hasPlace σ (32 + 2 * d) x2 = (0 : Int32) then 50 else 40), [.ref 0, .int (nI d), .int x2, .ref (32 + 2 * d)], [], σ)) (P := []) rfl trivial ?_
      rw [hno, if_neg (fun z => z rfl)]
      exact t40 ek _
  · have h4 := hro.2.2.2.1
    rw [x_sh σ hd, if_pos (by decide)]
    refine mm_blkW mm_ke_X10_element F R0 9 (S' := ((if ¬ (σ (32 + 2 * (nI d).toNatClampNeg) 0) = (2 : Int32) then 40 else 32), [.ref 0, .int (nI d), .int (nI i), .ref (32 + 2 * (nI d).toNatClampNeg)], [], σ)) (P := [mm_cl 0 = 10, vp_in (nI d) 8, 31 = 1 ∨ 31 = 31 ∨ 31 = 65 ∨ 31 = 74, mm_cl (32 + 2 * (nI d).toNatClampNeg) = 8]) rfl ⟨rfl, v_in hd (by decide), by decide, by rw [nI_clamp (by omega)]; exact (cl_sh d hd).1, trivial⟩ ?_
    rw [nI_clamp (show d < 2 ^ 31 by omega), hro.1, if_neg (fun z => z rfl)]
    refine mm_blkW mm_ke_X10_element F R0 2 (S' := (34, [.ref 0, .int (nI d), .int (nI i), .ref (32 + 2 * d)], [.int (nI i), .ref (32 + 2 * d)], σ)) (P := []) rfl trivial ?_
    refine mm_clW mm_ke_X10_element F R0 hAm hinj (rest := []) (ev_X8_hasPlace σ (32 + 2 * d) (nI i) (fun _ => (cl_sh d hd).1)) ⟨_, _, _, rfl, rfl, mm_tb_X8_hasPlace, rfl, rfl, Nat.le_of_ble_eq_true rfl, Nat.le_of_ble_eq_true rfl, ⟨_, rfl, (cl_sh d hd).1⟩⟩ ?_
    refine mm_blkW mm_ke_X10_element F R0 1 (S' := ((if ¬ f_X8_hasPlace σ (32 + 2 * d) (nI i) = (0 : Int32) then 50 else 40), [.ref 0, .int (nI d), .int (nI i), .ref (32 + 2 * d)], [], σ)) (P := []) rfl trivial ?_
    rw [x_hp hro hi, if_pos (by decide)]
    refine mm_blkW mm_ke_X10_element F R0 2 (S' := (52, [.ref 0, .int (nI d), .int (nI i), .ref (32 + 2 * d)], [.int (nI i), .ref (32 + 2 * d)], σ)) (P := []) rfl trivial ?_
    refine mm_clW mm_ke_X10_element F R0 hAm hinj (rest := []) (ev_at hro hd hi) ⟨_, _, _, rfl, rfl, mm_tb_X8_at, rfl, rfl, Nat.le_of_ble_eq_true rfl, Nat.le_of_ble_eq_true rfl, ⟨_, rfl, (cl_sh d hd).1⟩⟩ ?_
    refine mm_blkW mm_ke_X10_element F R0 1 (S' := (56, [.ref 0, .int (nI d), .int (nI i), .ref (32 + 2 * d)], [.long (σ 64 (100 * d + i)).toInt64], σ)) (P := []) rfl trivial ?_
    intro ls H locs hL hP hS
    refine vx_ret (W.widen (k := 1) (n := 6) (by omega) (by omega) ?_)
    exact W.lret (v := (σ 64 (100 * d + i)).toInt64) hx hb hr (fun t ht hW => ⟨⟨_, (), rfl, ⟨ek, ev.symm⟩, by rw [ht]; exact hP, va_K.moved hW.alike hK, hT.warm hW⟩, hS.F ht⟩) hS.2.2 d_X10_element_56 hlocks
/-! the law's element -/
theorem d_L_element_0 : decode method_3_code 0 = .ok (.aload_n 3, 1) := by decide +kernel
theorem d_L_element_1 : decode method_3_code 1 = .ok (.iconst 0, 1) := by decide +kernel
theorem d_L_element_2 : decode method_3_code 2 = .ok (.aload_n 0, 1) := by decide +kernel
theorem d_L_element_3 : decode method_3_code 3 = .ok (.iload_n 1, 1) := by decide +kernel
theorem d_L_element_4 : decode method_3_code 4 = .ok (.iload_n 2, 1) := by decide +kernel
theorem d_L_element_5 : decode method_3_code 5 = .ok (.invokevirtual 7, 3) := by decide +kernel
theorem d_L_element_8 : decode method_3_code 8 = .ok (.lastore, 1) := by decide +kernel
theorem d_L_element_9 : decode method_3_code 9 = .ok (.goto 11, 3) := by decide +kernel
theorem d_L_element_12 : decode method_3_code 12 = .ok (.astore 4, 2) := by decide +kernel
theorem d_L_element_14 : decode method_3_code 14 = .ok (.iconst 1, 1) := by decide +kernel
theorem d_L_element_15 : decode method_3_code 15 = .ok (.ireturn, 1) := by decide +kernel
theorem d_L_element_16 : decode method_3_code 16 = .ok (.astore 4, 2) := by decide +kernel
theorem d_L_element_18 : decode method_3_code 18 = .ok (.iconst 2, 1) := by decide +kernel
theorem d_L_element_19 : decode method_3_code 19 = .ok (.ireturn, 1) := by decide +kernel
theorem d_L_element_20 : decode method_3_code 20 = .ok (.iconst 0, 1) := by decide +kernel
theorem d_L_element_21 : decode method_3_code 21 = .ok (.ireturn, 1) := by decide +kernel
def xo_W (G : va_G) (cJ : ClassId) (qo : Nat) (fo : Nat → Int64) (U : State) : Prop := va_P G mm_cls [(qo, .inl (cJ, 1, .inr (.inl fo)))] U.heap ∧ va_K G mm_cls [(cJ, .long)] U
def xB (ad : Nat → Nat) (qo sz : Nat) : Nat → Prop := fun q => mm_A ad q ∨ q = qo ∨ sz ≤ q
theorem mm_cells_len (ad : Nat → Nat) (cI cK cS : ClassId) (σ : mm_Sg) : (mm_cells ad cI cK cS σ).length = 83 := by unfold mm_cells; simp
theorem xo_D {ad : Nat → Nat} {cI cK cS : ClassId} {σ : mm_Sg} {qo : Nat} {e9 : va_E} {A : Nat → Prop} (hinj : ∀ i j, i < 83 → j < 83 → ad i = ad j → i = j) (hqo : ∀ k, k < 83 → ad k ≠ qo) (hA : ∀ q, mm_A ad q → A q) (ho : A qo) : va_D A (mm_cells ad cI cK cS σ ++ [(qo, e9)]) := by
  refine va_D.app ((mm_D hinj σ).weaken (fun _ _ _ h => hA _ h)) ⟨fun i j p q hi hj _ => ?_, fun k q hk => ?_⟩ (fun i j x y hx hy hxy => ?_)
  · have h1 := (List.getElem?_eq_some_iff.mp hi).1
    have h2 := (List.getElem?_eq_some_iff.mp hj).1
    simp at h1 h2
    omega
  · have h1 := (List.getElem?_eq_some_iff.mp hk).1
    simp at h1
    subst h1
    cases hk
    exact ho
  · have h1 := (List.getElem?_eq_some_iff.mp hy).1
    simp at h1
    subst h1
    cases hy
    obtain ⟨k, hk, e⟩ := (mm_D hinj σ).2 i x hx
    exact hqo k hk (e.symm.trans hxy)
abbrev leW : Cond := Cond.codeWith yL_element method_3_code 5 (some .int) [(0, 9, 12, 13), (0, 9, 16, 15)]
set_option maxRecDepth 20000 in
theorem le_ok : ([Cond.classLink RL 13 xIAE, Cond.classLink RL 15 xISE, Cond.castable xIAE xIAE, Cond.castable xISE xISE, elW, Cond.initialized RX10, Cond.methodLink RL 7 yX10_element, Cond.instanceMethod yX10_element, Cond.selects RX10 yX10_element yX10_element] : List Cond).all (fun w => decide (w ∈ lw_tbl) && mm_okW w) = true := by decide +kernel
set_option maxHeartbeats 4000000 in
set_option maxRecDepth 20000 in
theorem c_lelem (l : Launch) (hl : l.stackTraces = false) {ad : Nat → Nat} {G : va_G} {cI cK cS cJ : ClassId} (hinj : ∀ i j, i < 83 → j < 83 → ad i = ad j → i = j) {σ : mm_Sg} (z0 a1 a2 a3 sz qo : Nat) (fo : Nat → Int64) (hz : ∀ k, k < 83 → z0 ≤ ad k) (hqo : ∀ k, k < 83 → ad k ≠ qo) (hzo : z0 ≤ qo) (x1 x2 : Int32) (kk : Nat) (v : Int64) (hv : el_H σ x1 x2 kk v) :
    vx_Met l yL_element [leW] { frames := 9, cells := 1, slots := 6, locals := 330 } (va_Pc [.ref (ad 0), .int x1, .int x2, .ref qo] (fun U => mm_Wd ad G cI cK cS σ U ∧ xo_W G cJ qo fo U ∧ xq_Z z0 a1 a2 a3 U ∧ U.heap.size = sz)) (va_Qi (fun r (f : Nat → Int64) => r = nI kk ∧ (kk = 0 → f 0 = v)) (fun f t => mm_Wd ad G cI cK cS σ t ∧ xo_W G cJ qo f t) (xB ad qo sz)) (fun _ _ _ => False) 1 6 (xB ad qo sz) := by
  refine vx_ofWH (cc := method_3_code) (maxL := 5) (ret := some .int) (by decide) rfl ?_
  intro p e s m args below meth c s₁ B hml hv'
  obtain ⟨rfl, ⟨hP, hK, hT⟩, ⟨hPo, hKo⟩, hZ, hsz⟩ := hv'
  have hx := B.exec
  have hb := B.bytes
  have hr := B.returns
  have hown : s.vm.findClass RL = some m.cls := findClass_of_methodNamed B.named
  have hlocks := B.notSynchronized
  have htab := vx_table (x := yL_element) B (atoms_spec (ws := [leW]) B.pre _ List.mem_cons_self)
  subst hsz
  have hqs : qo < s.heap.size := (hPo 0 _ rfl).lt
  obtain ⟨A, eA⟩ : ∃ A, A = xB ad qo s.heap.size := ⟨_, rfl⟩
  rw [← eA]
  have hAm : ∀ q, mm_A ad q → A q := fun q h => by rw [eA]; exact Or.inl h
  have hAo : A qo := by rw [eA]; exact Or.inr (Or.inl rfl)
  have hAf : ∀ q, s.heap.size ≤ q → A q := fun q h => by rw [eA]; exact Or.inr (Or.inr h)
  have hAz : ∀ q, A q → z0 ≤ q := fun q h => by
    rw [eA] at h
    rcases h with ⟨k, hk, rfl⟩ | rfl | h
    · exact hz k hk
    · exact hzo
    · exact Nat.le_trans hZ.2.2.2.2.2.2 h
  have hAx : ∀ q, xA ad s.heap.size q → A q := fun q h => by
    rcases h with h | h
    · exact hAm q h
    · exact hAf q h
  have hS : va_S A s.heap s.heap [] := va_S.rf
  have hnx : ¬ xA ad s.heap.size qo := fun h => by
    rcases h with ⟨k, hk, e9⟩ | h
    · exact hqo k hk e9.symm
    · omega
  have fin : ∀ (pc : Nat) (r : Int32) (f : Nat → Int64) (ls : Array Slot) (H : Heap) (locs : List Loc), va_P G mm_cls (mm_cells ad cI cK cS σ) H → va_P G mm_cls [(qo, .inl (cJ, 1, .inr (.inl f)))] H → va_S A s.heap H locs → decode method_3_code pc = .ok (.ireturn, 1) → r = nI kk → (kk = 0 → f 0 = v) → W p l e ({ frames := 9, cells := 1, slots := 6, locals := 330 } : Room) s m #[.ref (ad 0), .int x1, .int x2, .ref qo] below meth c H locs 1 6 (vx_MQ below (va_Qi (fun r (f : Nat → Int64) => r = nI kk ∧ (kk = 0 → f 0 = v)) (fun f t => mm_Wd ad G cI cK cS σ t ∧ xo_W G cJ qo f t) A) (fun _ _ _ => False) #[.ref (ad 0), .int x1, .int x2, .ref qo] s 1 6 A) (F0 m pc ls [.int r]) := fun pc r f ls H locs hP hPo hS hd e1 e2 => by
    refine vx_ret ?_
    exact W.zret (v := r) (ty := .int) hx hb hr rfl (fun t ht hW => ⟨⟨r, f, rfl, ⟨e1, e2⟩, ⟨by rw [ht]; exact hP, va_K.moved hW.alike hK, hT.warm hW⟩, by rw [ht]; exact hPo, va_K.moved hW.alike hKo⟩, hS.F ht⟩) hS.2.2 hd hlocks
  have hl2 := lv_entry ([.ref (ad 0), .int x1, .int x2, .ref qo]) (n := 5) (Nat.le_of_ble_eq_true rfl)
  rw [lg_entry_eq]
  generalize (lg_sl ([.ref (ad 0), .int x1, .int x2, .ref qo]) ++ List.replicate (5 - (lg_sl ([.ref (ad 0), .int x1, .int x2, .ref qo])).length) Slot.unset).toArray = ls at hl2 ⊢
  have hl2 : lv_has ls 5 [(0, .ref (ad 0)), (1, .int x1), (2, .int x2), (3, .ref qo)] := hl2
  have ws := hT.all le_ok #[.ref (ad 0), .int x1, .int x2, .ref qo]
  have wat : ∀ (i : Nat) (w : Cond), ([Cond.classLink RL 13 xIAE, Cond.classLink RL 15 xISE, Cond.castable xIAE xIAE, Cond.castable xISE xISE, elW, Cond.initialized RX10, Cond.methodLink RL 7 yX10_element, Cond.instanceMethod yX10_element, Cond.selects RX10 yX10_element yX10_element] : List Cond)[i]? = some w → w.before #[.ref (ad 0), .int x1, .int x2, .ref qo] s = true := fun i w h => ws w (List.mem_of_getElem? h)
  have hws : ∀ w ∈ [elW], ∀ (a' : Array Value) (U : State), s.WarmedH U.vm → w.before a' U = true := fun w hw a' U hW => hT.warmAll hW le_ok a' w (by rw [List.mem_singleton.mp hw]; exact List.mem_of_getElem? (i := 4) rfl)
  refine lv_aload_n hx hb d_L_element_0 rfl (lv_at hl2 3 rfl) ?_
  refine lv_iconst (v := 0) hx hb d_L_element_1 (by decide) ?_
  refine lv_aload_n hx hb d_L_element_2 rfl (lv_at hl2 0 rfl) ?_
  refine lv_iload_n hx hb d_L_element_3 rfl (lv_at hl2 1 rfl) ?_
  refine lv_iload_n hx hb d_L_element_4 rfl (lv_at hl2 2 rfl) ?_
  have blind : FrameBlind (va_Pc [.ref (ad 0), .int x1, .int x2] (fun U => mm_Wd ad G cI cK cS σ U ∧ xq_Z z0 a1 a2 a3 U ∧ U.heap.size = s.heap.size)) := fun a U g mk q => ⟨q.1, ⟨q.2.1.1, va_K.moved (u := U) (U := U.calling g mk a) (Vm.Alike.refl U.vm) q.2.1.2.1, mm_T.same (s := U) (U := U.calling g mk a) q.2.1.2.2 rfl⟩, xq_Z.blind q.2.2.1, q.2.2.2⟩
  refine vx_calll (A1 := xA ad s.heap.size) (vx_runV (C := RX10) (b := ad 0) (bytes := prog_1_method_37_code) (maxL := 4) (ret := some .long) (As := [.int x1, .int x2]) (rest := [.int 0, .ref qo]) (Ts := []) (nL := 5) ⟨hx, hb, hml, hown, fun _ h => by cases h⟩ (c_element l hl hinj z0 a1 a2 a3 s.heap.size hz x1 x2 kk v hv) ⟨⟨rfl, rfl, Nat.le_of_ble_eq_true rfl, Nat.le_of_ble_eq_true rfl, hws, List.mem_singleton.mpr rfl, wat 4 _ rfl, wat 5 _ rfl, ⟨by decide, by decide⟩, fun sig h => by cases h; rfl, wat 6 _ rfl⟩, wat 7 _ rfl, wat 8 _ rfl⟩ ⟨blind, va_recv (ci := 10) (q0 := 0) hK hP rfl (mm_obj rfl (by decide)), fun U hU hW => ⟨rfl, ⟨by rw [hU]; exact hP, va_K.moved hW.alike hK, hT.warm hW⟩, hZ.S hW hU hS hAz, by rw [hU]⟩⟩ rfl rfl hl2.1 rfl (lv_room (Nat.le_of_ble_eq_true rfl)) d_L_element_5 ⟨Nat.le_of_ble_eq_true rfl, Nat.le_of_ble_eq_true rfl⟩) hS (fun q _ h => hAx q h) hAx (fun q _ h => hAx q h) (fun E ce q9 u t H1 locs1 ht hal _ hBX hsz1 hk1 hS1 hce hcv hcl => ?_) (fun r u t H1 locs1 ht hal hpx hBX hsz1 hk1 hS1 => ?_)
  · obtain ⟨hP1, hE⟩ := hBX
    rw [ht] at hP1
    have hPo1 : va_P G mm_cls [(qo, .inl (cJ, 1, .inr (.inl fo)))] H1 := hPo.kept (fun k9 q9' hq9 => by
      have h1 := (List.getElem?_eq_some_iff.mp hq9).1
      simp at h1
      subst h1
      cases hq9
      exact hk1 qo hqs hnx)
    rcases hE with ⟨ek, rfl⟩ | ⟨ek, rfl⟩
    · refine vx_catch hown [] ⟨0, 9, 12, 13⟩ [⟨0, 9, 16, 15⟩] (by rw [htab]; rfl) (fun _ h => by cases h) (show covers (⟨0, 9, 12, 13⟩ : ExceptionTableEntry) 5 = true by decide) (by decide) (wat 0 _ rfl) (wat 2 _ rfl) hce hcv hcl ?_
      refine lv_astore (lv' := [(4, .ref q9), (0, .ref (ad 0)), (1, .int x1), (2, .int x2), (3, .ref qo)]) hx hb d_L_element_12 hl2 (by decide) rfl (fun ls1 hl1 => ?_)
      refine lv_iconst (v := 1) hx hb d_L_element_14 (by decide) ?_
      exact fin 15 1 fo ls1 H1 locs1 hP1 hPo1 hS1 d_L_element_15 (by rw [ek]; rfl) (fun z => by omega)
    · refine vx_catch hown [⟨0, 9, 12, 13⟩] ⟨0, 9, 16, 15⟩ [] (by rw [htab]; rfl) (fun z9 h => by rw [List.mem_singleton.mp h]; exact Or.inr ⟨by decide, xIAE, wat 0 _ rfl, hZ.2.2.2.2.2.1⟩) (show covers (⟨0, 9, 16, 15⟩ : ExceptionTableEntry) 5 = true by decide) (by decide) (wat 1 _ rfl) (wat 3 _ rfl) hce hcv hcl ?_
      refine lv_astore (lv' := [(4, .ref q9), (0, .ref (ad 0)), (1, .int x1), (2, .int x2), (3, .ref qo)]) hx hb d_L_element_16 hl2 (by decide) rfl (fun ls1 hl1 => ?_)
      refine lv_iconst (v := 2) hx hb d_L_element_18 (by decide) ?_
      exact fin 19 2 fo ls1 H1 locs1 hP1 hPo1 hS1 d_L_element_19 (by rw [ek]; rfl) (fun z => by omega)
  · obtain ⟨ek, er⟩ := hpx
    obtain ⟨hP1, -, -⟩ := hBX
    rw [ht] at hP1
    have hPo1 : va_P G mm_cls [(qo, .inl (cJ, 1, .inr (.inl fo)))] H1 := hPo.kept (fun k9 q9' hq9 => by
      have h1 := (List.getElem?_eq_some_iff.mp hq9).1
      simp at h1
      subst h1
      cases hq9
      exact hk1 qo hqs hnx)
    have e65 : (mm_cells ad cI cK cS σ ++ [(qo, (.inl (cJ, 1, .inr (.inl fo)) : va_E))])[83]? = some (qo, .inl (cJ, 1, .inr (.inl fo))) := by
      rw [List.getElem?_append_right (by rw [mm_cells_len]; exact Nat.le_refl _), mm_cells_len]
      rfl
    refine va_last hx hb hKo (hP1.app hPo1) (xo_D hinj hqo hAm hAo) hS1 83 0 e65 rfl (v_in (i := 0) (N := 1) (by decide) (by decide)) d_L_element_8 (fun H2 locs2 hP2 hD2 hS2 => ?_)
    have es : (mm_cells ad cI cK cS σ ++ [(qo, (.inl (cJ, 1, .inr (.inl fo)) : va_E))]).set 83 (qo, .inl (cJ, 1, .inr (.inl (vp_updL fo (0 : Int32).toNatClampNeg r)))) = mm_cells ad cI cK cS σ ++ [(qo, .inl (cJ, 1, .inr (.inl (vp_updL fo (0 : Int32).toNatClampNeg r))))] := by
      rw [List.set_append_right _ _ (by rw [mm_cells_len]; exact Nat.le_refl _), mm_cells_len]
      rfl
    rw [es] at hP2
    have hPa : va_P G mm_cls (mm_cells ad cI cK cS σ) H2 := fun k q hk => hP2 k q (by
      rw [List.getElem?_append_left (List.getElem?_eq_some_iff.mp hk).1]
      exact hk)
    have hPb : va_P G mm_cls [(qo, .inl (cJ, 1, .inr (.inl (vp_updL fo (0 : Int32).toNatClampNeg r))))] H2 := fun k q hk => hP2 (83 + k) q (by
      rw [List.getElem?_append_right (by rw [mm_cells_len]; omega), mm_cells_len, Nat.add_sub_cancel_left]
      exact hk)
    refine lv_goto (tgt := 20) hx hb d_L_element_9 (by decide) ?_
    refine lv_iconst (v := 0) hx hb d_L_element_20 (by decide) ?_
    exact fin 21 0 _ ls H2 locs2 hPa hPb hS2 d_L_element_21 (by rw [ek]; rfl) (fun _ => er)
