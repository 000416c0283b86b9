/-! the law, from its entry -/
theorem d_law_0 : decode code 0 = .ok (.new 8, 3) := by decide +kernel
theorem d_law_3 : decode code 3 = .ok (.dup, 1) := by decide +kernel
theorem d_law_4 : decode code 4 = .ok (.invokespecial 17, 3) := by decide +kernel
theorem d_law_7 : decode code 7 = .ok (.astore_n 1, 1) := by decide +kernel
theorem d_law_8 : decode code 8 = .ok (.new 18, 3) := by decide +kernel
theorem d_law_11 : decode code 11 = .ok (.dup, 1) := by decide +kernel
theorem d_law_12 : decode code 12 = .ok (.invokespecial 20, 3) := by decide +kernel
theorem d_law_15 : decode code 15 = .ok (.astore_n 2, 1) := by decide +kernel
theorem d_law_16 : decode code 16 = .ok (.iconst 1, 1) := by decide +kernel
theorem d_law_17 : decode code 17 = .ok (.newarray .long, 2) := by decide +kernel
theorem d_law_19 : decode code 19 = .ok (.astore_n 3, 1) := by decide +kernel
theorem d_law_20 : decode code 20 = .ok (.iconst 0, 1) := by decide +kernel
theorem d_law_21 : decode code 21 = .ok (.istore 4, 2) := by decide +kernel
def s0 : mm_Sg := fun q => if q = 52 then upd (fun _ => 0) (2 : Int32).toNatClampNeg 60 else if q = 10 ∨ q = 17 ∨ q = 24 then (fun k => if k = 8 then 60 else if k = 11 then -1 else 0) else fun _ => 0
def R0 : Nat → Nat := fun i => if i = 2 then 60 else 0
theorem s0_inv : Inv s0 := by
  have r0 : ∀ i, i ≠ 2 → R0 i = 0 := fun i h => if_neg h
  have wf : n_wf 999 R0 := ⟨by decide, by decide, by decide, by decide, by decide, by decide, by decide, fun k hk => by rw [r0 _ (by omega), r0 _ (by omega), r0 _ (by omega), r0 _ (by omega)]; exact ⟨by decide, by decide, Or.inl (by decide), by decide⟩, fun w hw => by rw [r0 _ (by omega)]; decide, fun i hi => r0 i (by omega)⟩
  have z : ∀ q, 53 ≤ q → s0 q = fun _ => 0 := fun q h => by unfold s0; rw [if_neg (by omega), if_neg (by omega)]
  refine ⟨⟨R0, wf, rfl, rfl, rfl, ⟨rfl, rfl, rfl, rfl, Or.inl ⟨rfl, rfl⟩, rfl, rfl, fun k hk => ?_, fun w hw => ?_⟩, ?_⟩, Or.inl ⟨rfl, rfl⟩, fun i _ => by rw [z 53 (by omega)], fun i _ => by rw [z 54 (by omega)], fun i _ => by rw [z 55 (by omega)], fun d hd => ⟨0, by decide, ?_, ?_, fun h => by omega, fun h => by omega⟩⟩
  · rw [r0 _ (by omega), r0 _ (by omega), r0 _ (by omega), r0 _ (by omega)]
    exact ⟨rfl, rfl, rfl, rfl⟩
  · rw [r0 _ (by omega)]
    rfl
  · funext i
    show upd (fun _ => 0) 2 60 i = nI (if i = 2 then 60 else 0)
    unfold upd
    by_cases h : i = 2
    · rw [if_pos h, if_pos h]; rfl
    · rw [if_neg h, if_neg h]; rfl
  · unfold s0
    rw [if_neg (by omega), if_neg (by omega)]
    rfl
  · rw [z 59 (by omega)]
    rfl
theorem lw_arr {s : State} {args : Array Value} {ty : FieldType} (h : (Cond.arrayClass ty).before args s = true) (hty : ∀ C, ty ≠ .object C) : ∃ cA, ArrOfT s cA ty ∧ va_RA s cA ty := by
  obtain ⟨cA, kA, comp, h1, h2, h3⟩ := Cond.arrayClass_spec h
  refine ⟨cA, fun N z => ⟨fun k h => (by cases h), kA, h2, comp, h3⟩, ?_⟩
  unfold va_RA
  split
  · exact absurd rfl (hty _)
  · exact h1
theorem lw_arrO {s : State} {args : Array Value} {C : String} (h : (Cond.arrayOver (.object C)).before args s = true) : ∃ cA, ArrOfT s cA (.object C) ∧ va_RA s cA (.object C) := by
  obtain ⟨comp, cA, kA, f1, -, f2, f3, f4⟩ := Cond.arrayOver_spec h
  exact ⟨cA, fun N z => ⟨fun k h => (by cases h), kA, f2, comp, f3⟩, kA, comp, f2, f3, f1, f4⟩
theorem lw_str {s : State} {args : Array Value} {own tx : String} {k : Nat} (h1 : (Cond.stringRef own k tx).before args s = true) (h2 : (Cond.exactly (Term.string own k) "java/lang/String").before args s = true) : ∃ a, vk_R own k tx a s := by
  obtain ⟨a, c, cA, kA, q1, -⟩ := Cond.exactly_spec (args := args) (first := s) (o := none) (s := s) (idx := []) (t := Term.string own k) (cls := "java/lang/String") h2
  exact ⟨a, vk_R.of h1 q1⟩
/-- where the cell of a place lies in the list as it is made -/
def lw_pp (k : Nat) : Nat := if k < 51 then k else if k < 65 then k + 18 else k - 14
theorem lw_pp_lt {k : Nat} (h : k < 83) : lw_pp k < 83 := by
  unfold lw_pp
  split
  · omega
  · split <;> omega
theorem lw_pp_inj {i j : Nat} (hi : i < 83) (hj : j < 83) (h : lw_pp i = lw_pp j) : i = j := by
  unfold lw_pp at h
  split at h <;> split at h <;> (try split at h) <;> (try split at h) <;> omega
set_option maxRecDepth 20000 in
theorem lw_ents {ad a : Nat → Nat} {cI cK cS : ClassId} {hm q1 q2 q3 q4 q5 q6 q7 q8 q9 q10 q11 q12 q13 : Nat} (hh : ad = fun q => ([a 0, a 1, a 2, a 3, a 4, a 5, a 6, a 7, a 8, a 9, a 10, a 11, a 12, a 13, a 14, a 15, a 16, a 17, a 18, a 19, a 20, a 21, a 22, a 23, a 24, a 25, a 26, a 27, a 28, a 29, a 30, a 31, a 32, a 33, a 34, a 35, a 36, a 37, a 38, a 39, a 40, a 41, a 42, a 43, a 44, a 45, a 46, a 47, a 48, a 49, a 50, hm, q1, q2, q3, q4, q5, q6, q7, q8, q9, q10, q11, q12, q13, a 51, a 52, a 53, a 54, a 55, a 56, a 57, a 58, a 59, a 60, a 61, a 62, a 63, a 64, a 65, a 66, a 67, a 68] : List Nat).getD q 0) {G : va_G} {H : Heap} (hP : va_P G mm_cls (xi_X cI cK cS a ++ [(hm, .inr (11, [.ref q1, .ref q2, .ref q3, .ref q4, .ref q5, .int 0, .int 0, .int 0, .int 0, .ref q6, .ref q7, .int 0, .ref q8, .ref q9, .ref q10, .ref q11, .ref q12, .ref q13, .int 0])), (q1, .inl (cI, 40, .inl (upd (fun _ => 0) (2 : Int32).toNatClampNeg 60))), (q2, .inl (cI, 40, .inl (fun _ => 0))), (q3, .inl (cI, 40, .inl (fun _ => 0))), (q4, .inl (cI, 40, .inl (fun _ => 0))), (q5, .inl (cI, 7, .inl (fun _ => 0))), (q6, .inl (cI, 3, .inl (fun _ => 0))), (q7, .inl (cI, 256, .inl (fun _ => 0))), (q8, .inl (cI, 8, .inl (fun _ => 0))), (q9, .inl (cI, 8, .inl (fun _ => 0))), (q10, .inl (cI, 8, .inl (fun _ => 0))), (q11, .inl (cI, 8, .inl (fun _ => 0))), (q12, .inl (cI, 8, .inl (fun _ => 0))), (q13, .inl (cI, 800, .inl (fun _ => 0)))]) H) : va_P G mm_cls (mm_cells ad cI cK cS s0) H := by
  have h1 := xi_P_cg (k := 1) (g := fun j => some (ad (mm_el 1 j))) hP rfl (by rw [hh]; exact (fun j hj => by rcases (show j = 0 ∨ j = 1 ∨ j = 2 ∨ j = 3 ∨ j = 4 ∨ j = 5 ∨ j = 6 ∨ j = 7 by omega) with rfl | rfl | rfl | rfl | rfl | rfl | rfl | rfl <;> rfl))
  have h2 := xi_P_cg (k := 31) (g := fun j => some (ad (mm_el 31 j))) h1 rfl (by rw [hh]; exact (fun j hj => by rcases (show j = 0 ∨ j = 1 ∨ j = 2 ∨ j = 3 ∨ j = 4 ∨ j = 5 ∨ j = 6 ∨ j = 7 by omega) with rfl | rfl | rfl | rfl | rfl | rfl | rfl | rfl <;> rfl))
  have h3 := xi_P_cg (k := 51) (g := fun j => some (ad (mm_el 65 j))) h2 rfl (by rw [hh]; exact (fun j hj => by rcases (show j = 0 ∨ j = 1 ∨ j = 2 ∨ j = 3 ∨ j = 4 ∨ j = 5 ∨ j = 6 ∨ j = 7 by omega) with rfl | rfl | rfl | rfl | rfl | rfl | rfl | rfl <;> rfl))
  have h4 := xi_P_cg (k := 60) (g := fun j => some (ad (mm_el 74 j))) h3 rfl (by rw [hh]; exact (fun j hj => by rcases (show j = 0 ∨ j = 1 ∨ j = 2 ∨ j = 3 ∨ j = 4 ∨ j = 5 ∨ j = 6 ∨ j = 7 by omega) with rfl | rfl | rfl | rfl | rfl | rfl | rfl | rfl <;> rfl))
  intro k q hk
  have h65 : k < 83 := by
    have := (List.getElem?_eq_some_iff.mp hk).1
    rw [mm_cells_len] at this
    exact this
  rw [mm_at h65] at hk
  cases hk
  subst hh
  match k, h65 with
  | 0, _ => exact h4 0 _ rfl
  | 1, _ => exact h4 1 _ rfl
  | 2, _ => exact h4 2 _ rfl
  | 3, _ => exact h4 3 _ rfl
  | 4, _ => exact h4 4 _ rfl
  | 5, _ => exact h4 5 _ rfl
  | 6, _ => exact h4 6 _ rfl
  | 7, _ => exact h4 7 _ rfl
  | 8, _ => exact h4 8 _ rfl
  | 9, _ => exact h4 9 _ rfl
  | 10, _ => exact h4 10 _ rfl
  | 11, _ => exact h4 11 _ rfl
  | 12, _ => exact h4 12 _ rfl
  | 13, _ => exact h4 13 _ rfl
  | 14, _ => exact h4 14 _ rfl
  | 15, _ => exact h4 15 _ rfl
  | 16, _ => exact h4 16 _ rfl
  | 17, _ => exact h4 17 _ rfl
  | 18, _ => exact h4 18 _ rfl
  | 19, _ => exact h4 19 _ rfl
  | 20, _ => exact h4 20 _ rfl
  | 21, _ => exact h4 21 _ rfl
  | 22, _ => exact h4 22 _ rfl
  | 23, _ => exact h4 23 _ rfl
  | 24, _ => exact h4 24 _ rfl
  | 25, _ => exact h4 25 _ rfl
  | 26, _ => exact h4 26 _ rfl
  | 27, _ => exact h4 27 _ rfl
  | 28, _ => exact h4 28 _ rfl
  | 29, _ => exact h4 29 _ rfl
  | 30, _ => exact h4 30 _ rfl
  | 31, _ => exact h4 31 _ rfl
  | 32, _ => exact h4 32 _ rfl
  | 33, _ => exact h4 33 _ rfl
  | 34, _ => exact h4 34 _ rfl
  | 35, _ => exact h4 35 _ rfl
  | 36, _ => exact h4 36 _ rfl
  | 37, _ => exact h4 37 _ rfl
  | 38, _ => exact h4 38 _ rfl
  | 39, _ => exact h4 39 _ rfl
  | 40, _ => exact h4 40 _ rfl
  | 41, _ => exact h4 41 _ rfl
  | 42, _ => exact h4 42 _ rfl
  | 43, _ => exact h4 43 _ rfl
  | 44, _ => exact h4 44 _ rfl
  | 45, _ => exact h4 45 _ rfl
  | 46, _ => exact h4 46 _ rfl
  | 47, _ => exact h4 47 _ rfl
  | 48, _ => exact h4 48 _ rfl
  | 49, _ => exact h4 49 _ rfl
  | 50, _ => exact h4 50 _ rfl
  | 51, _ => exact h4 69 _ rfl
  | 52, _ => exact h4 70 _ rfl
  | 53, _ => exact h4 71 _ rfl
  | 54, _ => exact h4 72 _ rfl
  | 55, _ => exact h4 73 _ rfl
  | 56, _ => exact h4 74 _ rfl
  | 57, _ => exact h4 75 _ rfl
  | 58, _ => exact h4 76 _ rfl
  | 59, _ => exact h4 77 _ rfl
  | 60, _ => exact h4 78 _ rfl
  | 61, _ => exact h4 79 _ rfl
  | 62, _ => exact h4 80 _ rfl
  | 63, _ => exact h4 81 _ rfl
  | 64, _ => exact h4 82 _ rfl
  | 65, _ => exact h4 51 _ rfl
  | 66, _ => exact h4 52 _ rfl
  | 67, _ => exact h4 53 _ rfl
  | 68, _ => exact h4 54 _ rfl
  | 69, _ => exact h4 55 _ rfl
  | 70, _ => exact h4 56 _ rfl
  | 71, _ => exact h4 57 _ rfl
  | 72, _ => exact h4 58 _ rfl
  | 73, _ => exact h4 59 _ rfl
  | 74, _ => exact h4 60 _ rfl
  | 75, _ => exact h4 61 _ rfl
  | 76, _ => exact h4 62 _ rfl
  | 77, _ => exact h4 63 _ rfl
  | 78, _ => exact h4 64 _ rfl
  | 79, _ => exact h4 65 _ rfl
  | 80, _ => exact h4 66 _ rfl
  | 81, _ => exact h4 67 _ rfl
  | 82, _ => exact h4 68 _ rfl
  | k + 83, h => exact absurd h (by omega)
set_option maxRecDepth 20000 in
theorem lw_adr {ad a : Nat → Nat} {cI cK cS : ClassId} {hm q1 q2 q3 q4 q5 q6 q7 q8 q9 q10 q11 q12 q13 : Nat} (hh : ad = fun q => ([a 0, a 1, a 2, a 3, a 4, a 5, a 6, a 7, a 8, a 9, a 10, a 11, a 12, a 13, a 14, a 15, a 16, a 17, a 18, a 19, a 20, a 21, a 22, a 23, a 24, a 25, a 26, a 27, a 28, a 29, a 30, a 31, a 32, a 33, a 34, a 35, a 36, a 37, a 38, a 39, a 40, a 41, a 42, a 43, a 44, a 45, a 46, a 47, a 48, a 49, a 50, hm, q1, q2, q3, q4, q5, q6, q7, q8, q9, q10, q11, q12, q13, a 51, a 52, a 53, a 54, a 55, a 56, a 57, a 58, a 59, a 60, a 61, a 62, a 63, a 64, a 65, a 66, a 67, a 68] : List Nat).getD q 0) (x9 : Nat × va_E) : ∀ k, k < 83 → ∃ e9 : va_E, ((xi_X cI cK cS a ++ [(hm, .inr (11, [.ref q1, .ref q2, .ref q3, .ref q4, .ref q5, .int 0, .int 0, .int 0, .int 0, .ref q6, .ref q7, .int 0, .ref q8, .ref q9, .ref q10, .ref q11, .ref q12, .ref q13, .int 0])), (q1, .inl (cI, 40, .inl (upd (fun _ => 0) (2 : Int32).toNatClampNeg 60))), (q2, .inl (cI, 40, .inl (fun _ => 0))), (q3, .inl (cI, 40, .inl (fun _ => 0))), (q4, .inl (cI, 40, .inl (fun _ => 0))), (q5, .inl (cI, 7, .inl (fun _ => 0))), (q6, .inl (cI, 3, .inl (fun _ => 0))), (q7, .inl (cI, 256, .inl (fun _ => 0))), (q8, .inl (cI, 8, .inl (fun _ => 0))), (q9, .inl (cI, 8, .inl (fun _ => 0))), (q10, .inl (cI, 8, .inl (fun _ => 0))), (q11, .inl (cI, 8, .inl (fun _ => 0))), (q12, .inl (cI, 8, .inl (fun _ => 0))), (q13, .inl (cI, 800, .inl (fun _ => 0)))]) ++ [x9])[lw_pp k]? = some (ad k, e9) := by
  intro k h65
  subst hh
  match k, h65 with
  | 0, _ => exact ⟨_, rfl⟩
  | 1, _ => exact ⟨_, rfl⟩
  | 2, _ => exact ⟨_, rfl⟩
  | 3, _ => exact ⟨_, rfl⟩
  | 4, _ => exact ⟨_, rfl⟩
  | 5, _ => exact ⟨_, rfl⟩
  | 6, _ => exact ⟨_, rfl⟩
  | 7, _ => exact ⟨_, rfl⟩
  | 8, _ => exact ⟨_, rfl⟩
  | 9, _ => exact ⟨_, rfl⟩
  | 10, _ => exact ⟨_, rfl⟩
  | 11, _ => exact ⟨_, rfl⟩
  | 12, _ => exact ⟨_, rfl⟩
  | 13, _ => exact ⟨_, rfl⟩
  | 14, _ => exact ⟨_, rfl⟩
  | 15, _ => exact ⟨_, rfl⟩
  | 16, _ => exact ⟨_, rfl⟩
  | 17, _ => exact ⟨_, rfl⟩
  | 18, _ => exact ⟨_, rfl⟩
  | 19, _ => exact ⟨_, rfl⟩
  | 20, _ => exact ⟨_, rfl⟩
  | 21, _ => exact ⟨_, rfl⟩
  | 22, _ => exact ⟨_, rfl⟩
  | 23, _ => exact ⟨_, rfl⟩
  | 24, _ => exact ⟨_, rfl⟩
  | 25, _ => exact ⟨_, rfl⟩
  | 26, _ => exact ⟨_, rfl⟩
  | 27, _ => exact ⟨_, rfl⟩
  | 28, _ => exact ⟨_, rfl⟩
  | 29, _ => exact ⟨_, rfl⟩
  | 30, _ => exact ⟨_, rfl⟩
  | 31, _ => exact ⟨_, rfl⟩
  | 32, _ => exact ⟨_, rfl⟩
  | 33, _ => exact ⟨_, rfl⟩
  | 34, _ => exact ⟨_, rfl⟩
  | 35, _ => exact ⟨_, rfl⟩
  | 36, _ => exact ⟨_, rfl⟩
  | 37, _ => exact ⟨_, rfl⟩
  | 38, _ => exact ⟨_, rfl⟩
  | 39, _ => exact ⟨_, rfl⟩
  | 40, _ => exact ⟨_, rfl⟩
  | 41, _ => exact ⟨_, rfl⟩
  | 42, _ => exact ⟨_, rfl⟩
  | 43, _ => exact ⟨_, rfl⟩
  | 44, _ => exact ⟨_, rfl⟩
  | 45, _ => exact ⟨_, rfl⟩
  | 46, _ => exact ⟨_, rfl⟩
  | 47, _ => exact ⟨_, rfl⟩
  | 48, _ => exact ⟨_, rfl⟩
  | 49, _ => exact ⟨_, rfl⟩
  | 50, _ => exact ⟨_, rfl⟩
  | 51, _ => exact ⟨_, rfl⟩
  | 52, _ => exact ⟨_, rfl⟩
  | 53, _ => exact ⟨_, rfl⟩
  | 54, _ => exact ⟨_, rfl⟩
  | 55, _ => exact ⟨_, rfl⟩
  | 56, _ => exact ⟨_, rfl⟩
  | 57, _ => exact ⟨_, rfl⟩
  | 58, _ => exact ⟨_, rfl⟩
  | 59, _ => exact ⟨_, rfl⟩
  | 60, _ => exact ⟨_, rfl⟩
  | 61, _ => exact ⟨_, rfl⟩
  | 62, _ => exact ⟨_, rfl⟩
  | 63, _ => exact ⟨_, rfl⟩
  | 64, _ => exact ⟨_, rfl⟩
  | 65, _ => exact ⟨_, rfl⟩
  | 66, _ => exact ⟨_, rfl⟩
  | 67, _ => exact ⟨_, rfl⟩
  | 68, _ => exact ⟨_, rfl⟩
  | 69, _ => exact ⟨_, rfl⟩
  | 70, _ => exact ⟨_, rfl⟩
  | 71, _ => exact ⟨_, rfl⟩
  | 72, _ => exact ⟨_, rfl⟩
  | 73, _ => exact ⟨_, rfl⟩
  | 74, _ => exact ⟨_, rfl⟩
  | 75, _ => exact ⟨_, rfl⟩
  | 76, _ => exact ⟨_, rfl⟩
  | 77, _ => exact ⟨_, rfl⟩
  | 78, _ => exact ⟨_, rfl⟩
  | 79, _ => exact ⟨_, rfl⟩
  | 80, _ => exact ⟨_, rfl⟩
  | 81, _ => exact ⟨_, rfl⟩
  | 82, _ => exact ⟨_, rfl⟩
  | k + 83, h => exact absurd h (by omega)
set_option maxHeartbeats 40000000 in
set_option maxRecDepth 40000 in
theorem whole_start {p : Program} {e : Env} {s : State} {m : MethodId} {below : List Frame} {meth : Method} {c : Code} (l : Launch) (hflags : l.flags = flags0) {b L : Nat} {xs : Nat → Int32} (hL : L ≤ 3072) (C0 : lw_At p s m meth c b L xs) : W p l e room_1 s m #[Value.ref b] below meth c s.heap [] 0 0 (lw_Z below #[Value.ref b] s) (entryFrame m ([Value.ref b] : List Value).toArray 8) := by
  obtain ⟨hx, hb, hr, hml, hown, hts, hX, hbl, hlocks, hgv⟩ := id C0
  have hT : mm_T s := fun w h1 h2 => va_tabs (mm_okW_tab h2) rfl (hts w h1)
  have hnt : l.stackTraces = false := by
    unfold Launch.stackTraces
    rw [hflags]
    decide
  have hA : ∀ q : Nat, s.heap.size ≤ q → (fun q : Nat => s.heap.size ≤ q) q := fun _ h => h
  have hg := flat_of_before _ hgv
  obtain ⟨c0, i0, k0⟩ := u_known (C := RX0) (T := TX0) (N := 0) (n := 0) (xi_ts hT 0 _ rfl #[Value.ref b]) (fun w hw => hw) (hts (.instantiable RX0 0) (by decide +kernel))
  obtain ⟨c1, i1, k1⟩ := u_known (C := RX1) (T := TX1) (N := 14) (n := 14) (xi_ts hT 1 _ rfl #[Value.ref b]) (fun w hw => hw) (hts (.instantiable RX1 14) (by decide +kernel))
  obtain ⟨c2, i2, k2⟩ := u_known (C := RX2) (T := TX2) (N := 0) (n := 0) (xi_ts hT 2 _ rfl #[Value.ref b]) (fun w hw => hw) (hts (.instantiable RX2 0) (by decide +kernel))
  obtain ⟨c3, i3, k3⟩ := u_known (C := RX3) (T := TX3) (N := 0) (n := 0) (xi_ts hT 3 _ rfl #[Value.ref b]) (fun w hw => hw) (hts (.instantiable RX3 0) (by decide +kernel))
  obtain ⟨c4, i4, k4⟩ := u_known (C := RX4) (T := TX4) (N := 0) (n := 0) (xi_ts hT 4 _ rfl #[Value.ref b]) (fun w hw => hw) (hts (.instantiable RX4 0) (by decide +kernel))
  obtain ⟨c5, i5, k5⟩ := u_known (C := RX5) (T := TX5) (N := 0) (n := 0) (xi_ts hT 5 _ rfl #[Value.ref b]) (fun w hw => hw) (hts (.instantiable RX5 0) (by decide +kernel))
  obtain ⟨c6, i6, k6⟩ := u_known (C := RX6) (T := TX6) (N := 0) (n := 0) (xi_ts hT 6 _ rfl #[Value.ref b]) (fun w hw => hw) (hts (.instantiable RX6 0) (by decide +kernel))
  obtain ⟨c7, i7, k7⟩ := u_known (C := RX7) (T := TX7) (N := 0) (n := 0) (xi_ts hT 7 _ rfl #[Value.ref b]) (fun w hw => hw) (hts (.instantiable RX7 0) (by decide +kernel))
  obtain ⟨c8, i8, k8⟩ := u_known (C := RX8) (T := TX8) (N := 6) (n := 6) (xi_ts hT 8 _ rfl #[Value.ref b]) (fun w hw => hw) (hts (.instantiable RX8 6) (by decide +kernel))
  obtain ⟨c9, i9, k9⟩ := u_known (C := RX9) (T := TX9) (N := 0) (n := 0) (xi_ts hT 9 _ rfl #[Value.ref b]) (fun w hw => hw) (hts (.instantiable RX9 0) (by decide +kernel))
  obtain ⟨c10, i10, k10⟩ := u_known (C := RX10) (T := TX10) (N := 8) (n := 8) (xi_ts hT 10 _ rfl #[Value.ref b]) (fun w hw => hw) (hts (.instantiable RX10 8) (by decide +kernel))
  obtain ⟨c11, i11, k11⟩ := u_known (C := RX11) (T := TX11) (N := 19) (n := 19) (xi_ts hT 11 _ rfl #[Value.ref b]) (fun w hw => hw) (hts (.instantiable RX11 19) (by decide +kernel))
  obtain ⟨dC, hdC⟩ : ∃ dC : Nat → ClassId, dC = fun k => ([c0, c1, c2, c3, c4, c5, c6, c7, c8, c9, c10, c11] : List ClassId).getD k c0 := ⟨_, rfl⟩
  obtain ⟨dI, hdI⟩ : ∃ dI : Nat → Nat → Nat, dI = fun k => ([i0, i1, i2, i3, i4, i5, i6, i7, i8, i9, i10, i11] : List (Nat → Nat)).getD k i0 := ⟨_, rfl⟩
  have hKc : ∀ (k : Nat) (q : vw_C), mm_cls[k]? = some q → u_Kn s q.1 q.2.1 q.2.2 (dC k) (dI k) := by
    intro k q hq
    rw [hdC, hdI]
    match k, hq with
    | 0, hq => cases hq; exact k0
    | 1, hq => cases hq; exact k1
    | 2, hq => cases hq; exact k2
    | 3, hq => cases hq; exact k3
    | 4, hq => cases hq; exact k4
    | 5, hq => cases hq; exact k5
    | 6, hq => cases hq; exact k6
    | 7, hq => cases hq; exact k7
    | 8, hq => cases hq; exact k8
    | 9, hq => cases hq; exact k9
    | 10, hq => cases hq; exact k10
    | 11, hq => cases hq; exact k11
    | k + 12, hq => exact absurd (mm_cls_lt hq) (by omega)
  obtain ⟨G, hG⟩ : ∃ G : va_G, G = (dC, dI) := ⟨_, rfl⟩
  obtain ⟨cI, aI, rI⟩ := lw_arr (ty := .int) (hts (.arrayClass .int) (by decide +kernel)) (fun C h => by cases h)
  obtain ⟨cJ, aJ, rJ⟩ := lw_arr (ty := .long) (hts (.arrayClass .long) (by decide +kernel)) (fun C h => by cases h)
  obtain ⟨cK, aK, rK⟩ := lw_arrO (C := RX4) (hts (.arrayOver (.object RX4)) (by decide +kernel))
  obtain ⟨cS, aS, rS⟩ := lw_arrO (C := RX8) (hts (.arrayOver (.object RX8)) (by decide +kernel))
  have hK : va_K G mm_cls (mm_tys cI cK cS) s := ⟨fun k q hq => by rw [hG]; exact hKc k q hq, fun k q hq => by
    match k, hq with
    | 0, hq => cases hq; exact ⟨aI, rI⟩
    | 1, hq => cases hq; exact ⟨aK, rK⟩
    | 2, hq => cases hq; exact ⟨aS, rS⟩⟩
  have hKo : va_K G mm_cls [(cJ, .long)] s := ⟨hK.1, fun k q hq => by
    match k, hq with
    | 0, hq => cases hq; exact ⟨aJ, rJ⟩⟩
  have hE : mm_E cI cK cS G s := ⟨hK, hT, word_at (State.WarmedH.refl s) (Or.inr ⟨_, rfl⟩) (hts (.arrayClass .int) (by decide +kernel)), va_AO.of (hts (.arrayOver (.object RX4)) (by decide +kernel)), va_AO.of (hts (.arrayOver (.object RX8)) (by decide +kernel))⟩
  obtain ⟨a1, hs1⟩ := lw_str (own := RX4) (k := 9) (tx := "a failure") (hts (.stringRef RX4 9 "a failure") (by decide +kernel)) (hg _ (by decide +kernel))
  obtain ⟨a2, hs2⟩ := lw_str (own := RX10) (k := 247) (tx := "no such shelf") (hts (.stringRef RX10 247 "no such shelf") (by decide +kernel)) (hg _ (by decide +kernel))
  obtain ⟨a3, hs3⟩ := lw_str (own := RX10) (k := 254) (tx := "no such place of a row") (hts (.stringRef RX10 254 "no such place of a row") (by decide +kernel)) (hg _ (by decide +kernel))
  have hZ : xq_Z s.heap.size a1 a2 a3 s := ⟨vx_Zqof (hts (.laysStatic Bundle.tN "UNASSIGNED_STACK" Bundle.steD) (by decide +kernel)) (hts (.initialized Bundle.tN) (by decide +kernel)) (hg _ (by decide +kernel)) (fun q h => Nat.not_le.mpr h), vx_Zqof (hts (.laysStatic Bundle.tN "SUPPRESSED_SENTINEL" Bundle.listD) (by decide +kernel)) (hts (.initialized Bundle.tN) (by decide +kernel)) (hg _ (by decide +kernel)) (fun q h => Nat.not_le.mpr h), hs1, hs2, hs3, va_Nc.of (args := #[Value.ref b]) (hg _ (by decide +kernel)), Nat.le_refl _⟩
  have hS : va_S (fun q : Nat => s.heap.size ≤ q) s.heap s.heap [] := va_S.rf
  have hP : va_P G mm_cls [] s.heap := fun k q h => by simp at h
  have hD : va_D (fun q : Nat => s.heap.size ≤ q) [] := ⟨fun i j p q h => by simp at h, fun k q h => by simp at h⟩
  have hl := lv_entry ([.ref b]) (n := 8) (Nat.le_of_ble_eq_true rfl)
  rw [lg_entry_eq]
  generalize (lg_sl ([.ref b]) ++ List.replicate (8 - (lg_sl ([.ref b])).length) Slot.unset).toArray = ls at hl ⊢
  have hl : lv_has ls 8 [(0, .ref b)] := hl
  refine va_new (ci := 10) (fs := [.null, .null, .null, .null, .null, .null, .null, .int 0]) (C := RX10) (T := TX10) (N := 8) hx hb (xi_ts hT 10 _ rfl _) (fun w hw => hw) tyX10 tyX10_ok hown (hT.at (i := 65) (by decide +kernel) _) (hT.at (i := 66) (by decide +kernel) _) (hT.at (i := 44) (by decide +kernel) _) hK hP hD hS hA rfl (show ∀ j, j < 8 → defaultValue (tyX10 j) = vp_V [.null, .null, .null, .null, .null, .null, .null, .int 0] j by decide +kernel) (by exact Nat.le_of_ble_eq_true rfl) (by exact Nat.le_of_ble_eq_true rfl) d_law_0 (fun h0 H hP hD hS => ?_)
  have hP : va_P G mm_cls [(h0, .inr (10, [.null, .null, .null, .null, .null, .null, .null, .int 0]))] H := hP
  have hD : va_D (fun q : Nat => s.heap.size ≤ q) [(h0, .inr (10, [.null, .null, .null, .null, .null, .null, .null, .int 0]))] := hD
  refine W.widen (k := 1) (n := 8) (by exact Nat.le_of_ble_eq_true rfl) (by exact Nat.le_of_ble_eq_true rfl) ?_
  refine lv_dup hx hb d_law_3 rfl ?_
  have hPc := hP.sub (ws' := [(h0, .inr (10, [.null, .null, .null, .null, .null, .null, .null, .int 0]))]) [0] rfl
  have hDc := hD.sub (ws' := [(h0, .inr (10, [.null, .null, .null, .null, .null, .null, .null, .int 0]))]) [0] (by decide) rfl
  have hFc := va_free (wc := [(h0, .inr (10, [.null, .null, .null, .null, .null, .null, .null, .int 0]))]) hD hS hA [0] rfl
  refine va_callv (va_runI (bytes := prog_1_method_1_code) (maxL := 2) (As := []) (rest := [.ref h0]) (Ts := []) (nL := 8) ⟨hx, hb, hml, hown, fun _ h => by cases h⟩ (c_X10_init l G cI cK cS h0 H.size) ⟨⟨rfl, rfl, (by exact Nat.le_of_ble_eq_true rfl), (by exact Nat.le_of_ble_eq_true rfl), (fun w hw a' U hW => by rw [List.mem_singleton.mp hw]; exact (hT.warm hW).at (i := 69) (by decide +kernel) _), List.mem_singleton.mpr rfl, (hT.at (i := 69) (by decide +kernel) _), (hT.at (i := 44) (by decide +kernel) _), ⟨by decide, by decide⟩, fun sig h => by cases h; rfl, (hT.at (i := 67) (by decide +kernel) _)⟩, rfl, (hT.at (i := 68) (by decide +kernel) _)⟩ ⟨fun a U g mk q => by obtain ⟨r0, r1, rP, rE, rD⟩ := q; exact ⟨r0, r1, rP, rE.blind, rD⟩, fun U hU hW => ⟨rfl, by rw [hU], by rw [hU]; exact hPc, hE.warm hW, hDc.weaken (fun _ _ _ _ => trivial)⟩⟩ rfl rfl hl.1 rfl (lv_room (by exact Nat.le_of_ble_eq_true rfl)) d_law_4 ⟨(by exact Nat.le_of_ble_eq_true rfl), (by exact Nat.le_of_ble_eq_true rfl)⟩) hS (fun q _ h => hFc q h) hFc (fun u t Hn locs ht hal hw hB hz1 hk1 hS => ?_)
  obtain ⟨a, ha0, hP1, hD1⟩ := hB
  rw [ht] at hP1
  subst ha0
  have hP : va_P G mm_cls (xi_X cI cK cS a) Hn := hP1
  have hD : va_D (fun q : Nat => s.heap.size ≤ q) (xi_X cI cK cS a) := hD1.weaken (fun k q _ h => hFc q.1 h)
  generalize Hn = H at hP hS ⊢
  refine W.widen (k := 69) (n := 1414) (by exact Nat.le_of_ble_eq_true rfl) (by exact Nat.le_of_ble_eq_true rfl) ?_
  refine lv_astore_n (lv' := [(1, .ref (a 0)), (0, .ref b)]) hx hb d_law_7 rfl hl (by decide) rfl (fun ls hl => ?_)
  refine va_new (ci := 11) (fs := [.null, .null, .null, .null, .null, .int 0, .int 0, .int 0, .int 0, .null, .null, .int 0, .null, .null, .null, .null, .null, .null, .int 0]) (C := RX11) (T := TX11) (N := 19) hx hb (xi_ts hT 11 _ rfl _) (fun w hw => hw) tyX11 tyX11_ok hown (hT.at (i := 888) (by decide +kernel) _) (hT.at (i := 889) (by decide +kernel) _) (hT.at (i := 55) (by decide +kernel) _) hK hP hD hS hA rfl (show ∀ j, j < 19 → defaultValue (tyX11 j) = vp_V [.null, .null, .null, .null, .null, .int 0, .int 0, .int 0, .int 0, .null, .null, .int 0, .null, .null, .null, .null, .null, .null, .int 0] j by decide +kernel) (by exact Nat.le_of_ble_eq_true rfl) (by exact Nat.le_of_ble_eq_true rfl) d_law_8 (fun hm H hP hD hS => ?_)
  have hP : va_P G mm_cls (xi_X cI cK cS a ++ [(hm, .inr (11, [.null, .null, .null, .null, .null, .int 0, .int 0, .int 0, .int 0, .null, .null, .int 0, .null, .null, .null, .null, .null, .null, .int 0]))]) H := hP
  have hD : va_D (fun q : Nat => s.heap.size ≤ q) (xi_X cI cK cS a ++ [(hm, .inr (11, [.null, .null, .null, .null, .null, .int 0, .int 0, .int 0, .int 0, .null, .null, .int 0, .null, .null, .null, .null, .null, .null, .int 0]))]) := hD
  refine W.widen (k := 70) (n := 1433) (by exact Nat.le_of_ble_eq_true rfl) (by exact Nat.le_of_ble_eq_true rfl) ?_
  refine lv_dup hx hb d_law_11 rfl ?_
  have hPc := hP.sub (ws' := [(hm, .inr (11, [.null, .null, .null, .null, .null, .int 0, .int 0, .int 0, .int 0, .null, .null, .int 0, .null, .null, .null, .null, .null, .null, .int 0]))]) [69] rfl
  have hDc := hD.sub (ws' := [(hm, .inr (11, [.null, .null, .null, .null, .null, .int 0, .int 0, .int 0, .int 0, .null, .null, .int 0, .null, .null, .null, .null, .null, .null, .int 0]))]) [69] (by decide) rfl
  have hFc := va_free (wc := [(hm, .inr (11, [.null, .null, .null, .null, .null, .int 0, .int 0, .int 0, .int 0, .null, .null, .int 0, .null, .null, .null, .null, .null, .null, .int 0]))]) hD hS hA [69] rfl
  refine va_callv (va_runI (bytes := prog_13_method_1_code) (maxL := 1) (As := []) (rest := [.ref hm]) (Ts := []) (nL := 8) ⟨hx, hb, hml, hown, fun _ h => by cases h⟩ (c_X11_init l G cI cK cS hm H.size) ⟨⟨rfl, rfl, (by exact Nat.le_of_ble_eq_true rfl), (by exact Nat.le_of_ble_eq_true rfl), (fun w hw a' U hW => by rw [List.mem_singleton.mp hw]; exact (hT.warm hW).at (i := 892) (by decide +kernel) _), List.mem_singleton.mpr rfl, (hT.at (i := 892) (by decide +kernel) _), (hT.at (i := 55) (by decide +kernel) _), ⟨by decide, by decide⟩, fun sig h => by cases h; rfl, (hT.at (i := 890) (by decide +kernel) _)⟩, rfl, (hT.at (i := 891) (by decide +kernel) _)⟩ ⟨fun a U g mk q => by obtain ⟨r0, r1, rP, rE, rD⟩ := q; exact ⟨r0, r1, rP, rE.blind, rD⟩, fun U hU hW => ⟨rfl, by rw [hU], by rw [hU]; exact hPc, hE.warm hW, hDc.weaken (fun _ _ _ _ => trivial)⟩⟩ rfl rfl hl.1 rfl (lv_room (by exact Nat.le_of_ble_eq_true rfl)) d_law_12 ⟨(by exact Nat.le_of_ble_eq_true rfl), (by exact Nat.le_of_ble_eq_true rfl)⟩) hS (fun q _ h => hFc q h) hFc (fun u t Hn locs ht hal hw hB hz1 hk1 hS => ?_)
  obtain ⟨q1, q2, q3, q4, q5, q6, q7, q8, q9, q10, q11, q12, q13, hP1, hD1⟩ := hB
  rw [ht] at hP1
  obtain ⟨hP, hD⟩ := va_join (wr := xi_X cI cK cS a) (w1 := [(hm, .inr (11, [.ref q1, .ref q2, .ref q3, .ref q4, .ref q5, .int 0, .int 0, .int 0, .int 0, .ref q6, .ref q7, .int 0, .ref q8, .ref q9, .ref q10, .ref q11, .ref q12, .ref q13, .int 0])), (q1, .inl (cI, 40, .inl (upd (fun _ => 0) (2 : Int32).toNatClampNeg 60))), (q2, .inl (cI, 40, .inl (fun _ => 0))), (q3, .inl (cI, 40, .inl (fun _ => 0))), (q4, .inl (cI, 40, .inl (fun _ => 0))), (q5, .inl (cI, 7, .inl (fun _ => 0))), (q6, .inl (cI, 3, .inl (fun _ => 0))), (q7, .inl (cI, 256, .inl (fun _ => 0))), (q8, .inl (cI, 8, .inl (fun _ => 0))), (q9, .inl (cI, 8, .inl (fun _ => 0))), (q10, .inl (cI, 8, .inl (fun _ => 0))), (q11, .inl (cI, 8, .inl (fun _ => 0))), (q12, .inl (cI, 8, .inl (fun _ => 0))), (q13, .inl (cI, 800, .inl (fun _ => 0)))]) hP hD [69] [0, 1, 2, 3, 4, 5, 6, 7, 8, 9, 10, 11, 12, 13, 14, 15, 16, 17, 18, 19, 20, 21, 22, 23, 24, 25, 26, 27, 28, 29, 30, 31, 32, 33, 34, 35, 36, 37, 38, 39, 40, 41, 42, 43, 44, 45, 46, 47, 48, 49, 50, 51, 52, 53, 54, 55, 56, 57, 58, 59, 60, 61, 62, 63, 64, 65, 66, 67, 68] rfl rfl (by decide) (by decide) hk1 hFc hP1 hD1
  generalize Hn = H at hP hS ⊢
  refine W.widen (k := 83) (n := 2699) (by exact Nat.le_of_ble_eq_true rfl) (by exact Nat.le_of_ble_eq_true rfl) ?_
  refine lv_astore_n (lv' := [(2, .ref hm), (1, .ref (a 0)), (0, .ref b)]) hx hb d_law_15 rfl hl (by decide) rfl (fun ls hl => ?_)
  refine lv_iconst (v := 1) hx hb d_law_16 (by decide) ?_
  refine va_newa (atype := .long) (N' := 1) (a0 := (1, .inr (.inl (fun _ => 0)))) hx hb (hts (.arrayClass .long) (by decide +kernel)) rfl hKo hP hD hS hA (fun cA => rfl) (by decide) rfl (by exact Nat.le_of_ble_eq_true rfl) (by exact Nat.le_of_ble_eq_true rfl) (by exact Nat.le_of_ble_eq_true rfl) d_law_17 (fun qo cA H hK9 hP hD hS => ?_)
  have eJ : cA = cJ := Option.some.inj ((hK9.2 1 (cA, .long) rfl).2.symm.trans (hKo.2 0 _ rfl).2)
  subst eJ
  refine W.widen (k := 84) (n := 2700) (by exact Nat.le_of_ble_eq_true rfl) (by exact Nat.le_of_ble_eq_true rfl) ?_
  refine lv_astore_n (lv' := [(3, .ref qo), (2, .ref hm), (1, .ref (a 0)), (0, .ref b)]) hx hb d_law_19 rfl hl (by decide) rfl (fun ls hl => ?_)
  refine lv_iconst (v := 0) hx hb d_law_20 (by decide) ?_
  refine lv_istore (lv' := [(4, .int 0), (3, .ref qo), (2, .ref hm), (1, .ref (a 0)), (0, .ref b)]) hx hb d_law_21 hl (by decide) rfl (fun ls hl => ?_)
  obtain ⟨ad, had⟩ : ∃ ad : Nat → Nat, ad = fun q => ([a 0, a 1, a 2, a 3, a 4, a 5, a 6, a 7, a 8, a 9, a 10, a 11, a 12, a 13, a 14, a 15, a 16, a 17, a 18, a 19, a 20, a 21, a 22, a 23, a 24, a 25, a 26, a 27, a 28, a 29, a 30, a 31, a 32, a 33, a 34, a 35, a 36, a 37, a 38, a 39, a 40, a 41, a 42, a 43, a 44, a 45, a 46, a 47, a 48, a 49, a 50, hm, q1, q2, q3, q4, q5, q6, q7, q8, q9, q10, q11, q12, q13, a 51, a 52, a 53, a 54, a 55, a 56, a 57, a 58, a 59, a 60, a 61, a 62, a 63, a 64, a 65, a 66, a 67, a 68] : List Nat).getD q 0 := ⟨_, rfl⟩
  have adr := lw_adr (cI := cI) (cK := cK) (cS := cS) had (qo, .inl (cA, 1, .inr (.inl (fun _ => 0))))
  have e65 : ((xi_X cI cK cS a ++ [(hm, .inr (11, [.ref q1, .ref q2, .ref q3, .ref q4, .ref q5, .int 0, .int 0, .int 0, .int 0, .ref q6, .ref q7, .int 0, .ref q8, .ref q9, .ref q10, .ref q11, .ref q12, .ref q13, .int 0])), (q1, .inl (cI, 40, .inl (upd (fun _ => 0) (2 : Int32).toNatClampNeg 60))), (q2, .inl (cI, 40, .inl (fun _ => 0))), (q3, .inl (cI, 40, .inl (fun _ => 0))), (q4, .inl (cI, 40, .inl (fun _ => 0))), (q5, .inl (cI, 7, .inl (fun _ => 0))), (q6, .inl (cI, 3, .inl (fun _ => 0))), (q7, .inl (cI, 256, .inl (fun _ => 0))), (q8, .inl (cI, 8, .inl (fun _ => 0))), (q9, .inl (cI, 8, .inl (fun _ => 0))), (q10, .inl (cI, 8, .inl (fun _ => 0))), (q11, .inl (cI, 8, .inl (fun _ => 0))), (q12, .inl (cI, 8, .inl (fun _ => 0))), (q13, .inl (cI, 800, .inl (fun _ => 0)))]) ++ [(qo, (.inl (cA, 1, .inr (.inl (fun _ => 0))) : va_E))])[83]? = some (qo, .inl (cA, 1, .inr (.inl (fun _ => 0)))) := rfl
  have hPc := lw_ents had (fun k q hk => hP k q (by rw [List.getElem?_append_left (List.getElem?_eq_some_iff.mp hk).1]; exact hk))
  have hPo : va_P G mm_cls [(qo, .inl (cA, 1, .inr (.inl (fun _ => 0))))] H := hP.sub [83] rfl
  have C1 : lw_C p l s m meth c b L xs ad G cI cK cS cA qo a1 a2 a3 := by
    refine ⟨C0, hL, hnt, hK, hKo, hT, hZ, fun k hk => ?_, fun i j hi hj h => ?_, fun k hk h => ?_, hD.2 83 _ e65⟩
    · obtain ⟨e9, h9⟩ := adr k hk
      exact hD.2 _ _ h9
    · obtain ⟨e8, h8⟩ := adr i hi
      obtain ⟨e9, h9⟩ := adr j hj
      exact lw_pp_inj hi hj (hD.1 _ _ _ _ h8 h9 h)
    · obtain ⟨e8, h8⟩ := adr k hk
      have := hD.1 _ 83 _ _ h8 e65 h
      have := lw_pp_lt hk
      omega
  refine W.widen (k := 90 + 0) (n := 3000 + 6 * 0) (by exact Nat.le_of_ble_eq_true rfl) (by exact Nat.le_of_ble_eq_true rfl) ?_
  exact lw_loop C1 (L + 1) 0 (Nat.zero_le _) (by omega) s0 (fun _ => 0) H _ ls s0_inv hPc hPo hS (by rw [had]; exact lv_sub hl [0, 4, 3, 2, 1] rfl)
