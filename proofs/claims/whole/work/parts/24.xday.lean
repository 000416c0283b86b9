/-! the class's camps hold rows; its day is the rows' day -/
def isC (c : Nat) : Prop := c = 10 ∨ c = 17 ∨ c = 24
theorem isC.cl {c : Nat} (h : isC c) : mm_cl c = 1 ∧ mm_len (c + 1) = 7 ∧ mm_len (c + 2) = 7 ∧ mm_len (c + 3) = 7 ∧ mm_len (c + 4) = 7 ∧ mm_len (c + 5) = 5 ∧ mm_len (c + 6) = 7 := by
  rcases h with rfl | rfl | rfl <;> decide
def hv (x : Int32) (m : Nat) : Prop := (x = -1 ∧ m = 0) ∨ ∃ k, k < 7 ∧ x = nI k ∧ m = 2 ^ k
def xr (σ : mm_Sg) (c : Nat) (R : Nat → Nat) : Prop :=
  σ c 6 = nI (R 0) ∧ σ c 9 = nI (R 1) ∧ σ c 8 = nI (R 2) ∧ σ c 7 = nI (R 3) ∧ hv (σ c 11) (R 4) ∧ σ c 12 = nI (R 5) ∧ σ c 13 = nI (R 6) ∧ (∀ k, k < 7 → σ (c + 1) k = nI (R (7 + 4 * k)) ∧ σ (c + 2) k = nI (R (8 + 4 * k)) ∧ σ (c + 3) k = nI (R (9 + 4 * k)) ∧ σ (c + 4) k = nI (R (10 + 4 * k))) ∧ ∀ w, w < 5 → σ (c + 5) w = nI (R (35 + w))
theorem mm_u_k {σ : mm_Sg} {q k j : Nat} {x : Int32} (h : j ≠ k) : mm_u σ q k x q j = σ q j := by rw [mm_u_s]; unfold upd; rw [if_neg h]
theorem mm_u_kk {σ : mm_Sg} {q k : Nat} {x : Int32} : mm_u σ q k x q k = x := by rw [mm_u_s]; unfold upd; rw [if_pos rfl]
theorem xr_same {σ σ' : mm_Sg} {c : Nat} {R : Nat → Nat} (h : xr σ c R) (hs : ∀ q, c ≤ q → q ≤ c + 5 → σ' q = σ q) : xr σ' c R := by
  unfold xr
  rw [hs c (by omega) (by omega), hs (c + 1) (by omega) (by omega), hs (c + 2) (by omega) (by omega), hs (c + 3) (by omega) (by omega), hs (c + 4) (by omega) (by omega), hs (c + 5) (by omega) (by omega)]
  exact h
theorem xr_bags {σ : mm_Sg} {c v : Nat} {R : Nat → Nat} (h : xr σ c R) : xr (mm_u σ c 8 (nI v)) c (nup R 2 v) := by
  obtain ⟨h0, h1, h2, h3, h4, h5, h6, h7, h8⟩ := h
  refine ⟨by rw [mm_u_k (by omega), nup_o R (by omega)]; exact h0, by rw [mm_u_k (by omega), nup_o R (by omega)]; exact h1, by rw [mm_u_kk, nup_s], by rw [mm_u_k (by omega), nup_o R (by omega)]; exact h3, by rw [mm_u_k (by omega), nup_o R (by omega)]; exact h4, by rw [mm_u_k (by omega), nup_o R (by omega)]; exact h5, by rw [mm_u_k (by omega), nup_o R (by omega)]; exact h6, fun k hk => ?_, fun w hw => ?_⟩
  · rw [mm_u_o (by omega), mm_u_o (by omega), mm_u_o (by omega), mm_u_o (by omega), nup_o R (by omega), nup_o R (by omega), nup_o R (by omega), nup_o R (by omega)]
    exact h7 k hk
  · rw [mm_u_o (by omega), nup_o R (by omega)]
    exact h8 w hw
theorem xr_day {σ : mm_Sg} {c v : Nat} {R : Nat → Nat} (h : xr σ c R) : xr (mm_u σ c 9 (nI v)) c (nup R 1 v) := by
  obtain ⟨h0, h1, h2, h3, h4, h5, h6, h7, h8⟩ := h
  refine ⟨by rw [mm_u_k (by omega), nup_o R (by omega)]; exact h0, by rw [mm_u_kk, nup_s], by rw [mm_u_k (by omega), nup_o R (by omega)]; exact h2, by rw [mm_u_k (by omega), nup_o R (by omega)]; exact h3, by rw [mm_u_k (by omega), nup_o R (by omega)]; exact h4, by rw [mm_u_k (by omega), nup_o R (by omega)]; exact h5, by rw [mm_u_k (by omega), nup_o R (by omega)]; exact h6, fun k hk => ?_, fun w hw => ?_⟩
  · rw [mm_u_o (by omega), mm_u_o (by omega), mm_u_o (by omega), mm_u_o (by omega), nup_o R (by omega), nup_o R (by omega), nup_o R (by omega), nup_o R (by omega)]
    exact h7 k hk
  · rw [mm_u_o (by omega), nup_o R (by omega)]
    exact h8 w hw
theorem xr_asleep {σ : mm_Sg} {c v : Nat} {R : Nat → Nat} (h : xr σ c R) : xr (mm_u σ c 7 (nI v)) c (nup R 3 v) := by
  obtain ⟨h0, h1, h2, h3, h4, h5, h6, h7, h8⟩ := h
  refine ⟨by rw [mm_u_k (by omega), nup_o R (by omega)]; exact h0, by rw [mm_u_k (by omega), nup_o R (by omega)]; exact h1, by rw [mm_u_k (by omega), nup_o R (by omega)]; exact h2, by rw [mm_u_kk, nup_s], by rw [mm_u_k (by omega), nup_o R (by omega)]; exact h4, by rw [mm_u_k (by omega), nup_o R (by omega)]; exact h5, by rw [mm_u_k (by omega), nup_o R (by omega)]; exact h6, fun k hk => ?_, fun w hw => ?_⟩
  · rw [mm_u_o (by omega), mm_u_o (by omega), mm_u_o (by omega), mm_u_o (by omega), nup_o R (by omega), nup_o R (by omega), nup_o R (by omega), nup_o R (by omega)]
    exact h7 k hk
  · rw [mm_u_o (by omega), nup_o R (by omega)]
    exact h8 w hw
theorem xr_tired {σ : mm_Sg} {c w v : Nat} {R : Nat → Nat} (h : xr σ c R) : xr (mm_u σ (c + 5) w (nI v)) c (nup R (35 + w) v) := by
  obtain ⟨h0, h1, h2, h3, h4, h5, h6, h7, h8⟩ := h
  refine ⟨by rw [mm_u_o (by omega), nup_o R (by omega)]; exact h0, by rw [mm_u_o (by omega), nup_o R (by omega)]; exact h1, by rw [mm_u_o (by omega), nup_o R (by omega)]; exact h2, by rw [mm_u_o (by omega), nup_o R (by omega)]; exact h3, by rw [mm_u_o (by omega), nup_o R (by omega)]; exact h4, by rw [mm_u_o (by omega), nup_o R (by omega)]; exact h5, by rw [mm_u_o (by omega), nup_o R (by omega)]; exact h6, fun k hk => ?_, fun x hx => ?_⟩
  · rw [mm_u_o (by omega), mm_u_o (by omega), mm_u_o (by omega), mm_u_o (by omega), nup_o R (by omega), nup_o R (by omega), nup_o R (by omega), nup_o R (by omega)]
    exact h7 k hk
  · by_cases e : x = w
    · subst e; rw [mm_u_kk, nup_s]
    · rw [mm_u_k e, nup_o R (by omega)]; exact h8 x hx
theorem xr_owes {σ : mm_Sg} {c k v : Nat} {R : Nat → Nat} (h : xr σ c R) (hk : k < 7) : xr (mm_u σ (c + 4) k (nI v)) c (nup R (10 + 4 * k) v) := by
  obtain ⟨h0, h1, h2, h3, h4, h5, h6, h7, h8⟩ := h
  refine ⟨by rw [mm_u_o (by omega), nup_o R (by omega)]; exact h0, by rw [mm_u_o (by omega), nup_o R (by omega)]; exact h1, by rw [mm_u_o (by omega), nup_o R (by omega)]; exact h2, by rw [mm_u_o (by omega), nup_o R (by omega)]; exact h3, by rw [mm_u_o (by omega), nup_o R (by omega)]; exact h4, by rw [mm_u_o (by omega), nup_o R (by omega)]; exact h5, by rw [mm_u_o (by omega), nup_o R (by omega)]; exact h6, fun j hj => ?_, fun x hx => ?_⟩
  · rw [mm_u_o (by omega), mm_u_o (by omega), mm_u_o (by omega), nup_o R (by omega), nup_o R (by omega), nup_o R (by omega)]
    refine ⟨(h7 j hj).1, (h7 j hj).2.1, (h7 j hj).2.2.1, ?_⟩
    by_cases e : j = k
    · subst e; rw [mm_u_kk, nup_s]
    · rw [mm_u_k e, nup_o R (by omega)]; exact (h7 j hj).2.2.2
  · rw [mm_u_o (by omega), nup_o R (by omega)]
    exact h8 x hx
/-! small answers -/
theorem n_max0 {a b : Nat} (ha : a < 2 ^ 30) (hb : b < 2 ^ 30) : (if (0 : Int32) < nI a - nI b then nI a - nI b else (0 : Int32)) = nI (a - b) := by
  rcases Nat.lt_trichotomy a b with h | h | h
  · rw [if_neg, Nat.sub_eq_zero_of_le (by omega)]
    · rfl
    · intro z
      have := pk_sneg hb h
      rw [Int32.lt_iff_toInt_lt] at z this
      omega
  · subst h
    rw [pk_sub (Nat.le_refl _), Nat.sub_self]
    rfl
  · rw [pk_sub (by omega), if_pos]
    exact nI_lt (a := 0) (by omega) (by omega)
theorem n_minI {a b : Nat} (ha : a < 2 ^ 31) (hb : b < 2 ^ 31) : (if nI b < nI a then nI b else nI a) = nI (min a b) := by
  by_cases h : b < a
  · rw [if_pos (nI_lt h ha), Nat.min_eq_right (by omega)]
  · rw [if_neg (nI_nlt (by omega) hb), Nat.min_eq_left (by omega)]
theorem x_isW0 : ∀ w, w < 10 → (if nI w < (0 : Int32) then (0 : Int32) else (if (5 : Int32) ≤ nI w then (0 : Int32) else (1 : Int32))) = if w < 5 then 1 else 0 := by decide +kernel
theorem x_shr : ∀ a, a < 32 → ∀ w, w < 5 → ((nI a >>> (nI w &&& 31)) &&& (1 : Int32)) = if a.testBit w = true then 1 else 0 := by decide +kernel
theorem x_isAw (σ : mm_Sg) {c : Nat} {R : Nat → Nat} {w : Nat} (h7 : σ c 7 = nI (R 3)) (h3 : R 3 < 32) (hw : w < 5 ∨ w = 9) : f_X1_isAwake σ c (nI w) = if n_aw R w = true then 1 else 0 := by
  unfold f_X1_isAwake f_X10_isWaker n_aw
  rcases hw with hw | rfl
  · rw [x_isW0 w (by omega), if_pos hw, if_neg (show ¬ (1 : Int32) = 0 by decide), h7, x_shr _ h3 w hw]
    have e : (w == 9) = false := by simp; omega
    rw [e]
    cases (R 3).testBit w <;> simp
  · rfl
theorem isC.kr {c : Nat} (h : isC c) : (mm_kr c + 1 = 2 ∨ mm_kr c + 1 = 66 ∨ mm_kr c + 1 = 75) ∧ (mm_kr c = 1 ∨ mm_kr c = 31 ∨ mm_kr c = 65 ∨ mm_kr c = 74) := by
  rcases h with rfl | rfl | rfl <;> decide
theorem x_kn0 : ∀ kd, kd < 8 → (if (if nI kd < (0 : Int32) then (0 : Int32) else (if (7 : Int32) < nI kd then (0 : Int32) else (1 : Int32))) = (0 : Int32) then (mm_el 1 0) else (mm_el 1 (nI kd).toNatClampNeg)) = 2 + kd ∧ (if (if nI kd < (0 : Int32) then (0 : Int32) else (if (7 : Int32) < nI kd then (0 : Int32) else (1 : Int32))) = (0 : Int32) then (mm_el 65 0) else (mm_el 65 (nI kd).toNatClampNeg)) = 66 + kd ∧ (if (if nI kd < (0 : Int32) then (0 : Int32) else (if (7 : Int32) < nI kd then (0 : Int32) else (1 : Int32))) = (0 : Int32) then (mm_el 74 0) else (mm_el 74 (nI kd).toNatClampNeg)) = 75 + kd := by decide +kernel
theorem x_kn (σ : mm_Sg) {c kd : Nat} (hc : isC c) (h : kd < 8) : f_X1_kindNumbered σ c (nI kd) = mm_kr c + 1 + kd := by
  unfold f_X1_kindNumbered f_X10_isBetween
  obtain ⟨a, b, d⟩ := x_kn0 kd h
  rcases hc with rfl | rfl | rfl
  · exact a
  · exact b
  · exact d
theorem x_v8 {kd : Nat} (h : kd < 8) : vp_in (nI kd) 8 := v_in h (by decide)
theorem ev_kn (σ : mm_Sg) {c kd : Nat} (hc : isC c) (h : kd < 8) : mm_Ev mm_m_X1_kindNumbered [.ref c, .int (nI kd)] σ (some (.ref (mm_kr c + 1 + kd))) σ := by
  rw [← x_kn σ hc h]
  exact ev_X1_kindNumbered σ c _ hc.cl.1 (fun _ => hc.kr.2) (fun _ => x_v8 h) (fun _ => hc.kr.2)
theorem x_dr (σ : mm_Sg) {kd f d : Nat} (hk : kd < 8) (hf : f < 10) (hd : d < 2 ^ 30) : f_D0 σ (2 + kd) (nI d) (nI f) = nI (n_dr kd f d) := by
  have e2 : nI d - nI d / (2 : Int32) * (2 : Int32) = nI (d % 2) := pk_rem (d := 2) (by omega) (by decide) (by decide)
  have e3 : nI d - nI d / (3 : Int32) * (3 : Int32) = nI (d % 3) := pk_rem (d := 3) (by omega) (by decide) (by decide)
  have ef : nI f / (2 : Int32) = nI (f / 2) := pk_div (d := 2) (by omega) (by decide) (by decide)
  have ea : ∀ z, (2 : Int32) + nI z = nI (2 + z) := fun z => nI_add 2 z
  have em : ∀ z, (2 : Int32) * nI z = nI (2 * z) := fun z => pk_mul 2 z
  have es : nI (2 * (2 + f / 2)) - (1 : Int32) = nI (2 * (2 + f / 2) - 1) := pk_sub (b := 1) (by omega)
  have z3 : nI (d % 3) = (0 : Int32) ↔ d % 3 = 0 := by rw [← nI_0]; exact nI_eq (by omega) (by omega)
  have z2 : nI (d % 2) = (0 : Int32) ↔ d % 2 = 0 := by rw [← nI_0]; exact nI_eq (by omega) (by omega)
  have cl : (if nI (d % 2) = (0 : Int32) then (2 : Int32) + (0 : Int32) else (2 : Int32) + (1 : Int32)) = nI (2 + d % 2) := by
    by_cases h : d % 2 = 0
    · rw [if_pos (z2.mpr h), h]; rfl
    · rw [if_neg (fun n => h (z2.mp n)), show d % 2 = 1 by omega]; rfl
  unfold f_D0 n_dr
  rcases (show kd = 0 ∨ kd = 1 ∨ kd = 2 ∨ kd = 3 ∨ kd = 4 ∨ kd = 5 ∨ kd = 6 ∨ kd = 7 by omega) with rfl | rfl | rfl | rfl | rfl | rfl | rfl | rfl
  all_goals simp (decide := true) only [if_true, if_false]
  · rfl
  · unfold f_X3_cupsOn f_X4_cupsOn
    rw [e2]; exact cl
  · unfold f_X0_cupsOn f_X4_cupsOn
    rw [ef]; exact ea _
  · rfl
  · unfold f_X2_cupsOn f_X0_cupsOn f_X4_cupsOn
    rw [ef, ea, em]
  · unfold f_X5_cupsOn f_X3_cupsOn f_X4_cupsOn
    rw [e3, e2]
    by_cases h : d % 3 = 0
    · rw [if_neg (fun n => n (z3.mpr h)), if_pos h]; rfl
    · rw [if_pos (fun n => h (z3.mp n)), if_neg h]; exact cl
  · unfold f_X9_cupsOn f_X2_cupsOn f_X0_cupsOn f_X4_cupsOn
    rw [ef, ea, em, es]
  · rfl
theorem x_ti (σ : mm_Sg) {kd f c : Nat} (hk : kd < 8) (hf : f < 10) (hc : c < 2 ^ 20) : f_D1 σ (2 + kd) (nI c) (nI f) = nI (n_ti kd f c) := by
  have e2 : (2 : Int32) * nI c = nI (2 * c) := pk_mul 2 c
  have e3 : (3 : Int32) * nI c = nI (3 * c) := pk_mul 3 c
  have e4 : nI (3 * c) + nI c = nI (4 * c) := by rw [nI_add]; congr 1; omega
  unfold f_D1 n_ti
  rcases (show kd = 0 ∨ kd = 1 ∨ kd = 2 ∨ kd = 3 ∨ kd = 4 ∨ kd = 5 ∨ kd = 6 ∨ kd = 7 by omega) with rfl | rfl | rfl | rfl | rfl | rfl | rfl | rfl
  all_goals simp (decide := true) only [if_true, if_false]
  · exact e3
  · exact e2
  · unfold f_X0_tiringFor f_X4_tiringFor
    rw [e3, e4]
  · rfl
  · unfold f_X0_tiringFor f_X4_tiringFor
    rw [e3, e4]
  · unfold f_X5_tiringFor f_X3_tiringFor
    rw [e2]; exact n_max0 (by omega) (by omega)
  · rfl
  · rfl
theorem x_ow (σ : mm_Sg) {kd f c : Nat} (hk : kd < 8) (hf : f < 10) (hc : c < 2 ^ 20) : f_D2 σ (2 + kd) (nI c) (nI f) = nI (n_ow kd f c) := by
  have e2 : (2 : Int32) * nI c = nI (2 * c) := pk_mul 2 c
  have e1 : nI (2 * c) + nI f = nI (2 * c + f) := nI_add _ _
  have e0 : nI c ≤ (0 : Int32) ↔ c = 0 := by rw [← nI_0, nI_leI (by omega) (by omega)]; omega
  unfold f_D2 n_ow
  rcases (show kd = 0 ∨ kd = 1 ∨ kd = 2 ∨ kd = 3 ∨ kd = 4 ∨ kd = 5 ∨ kd = 6 ∨ kd = 7 by omega) with rfl | rfl | rfl | rfl | rfl | rfl | rfl | rfl
  all_goals simp (decide := true) only [if_true, if_false]
  · rfl
  · rfl
  · exact e2
  · rfl
  · exact e2
  · rfl
  · unfold f_X9_debtFor f_X0_debtFor f_X4_debtFor
    rw [e2, e1]
    by_cases h : c = 0
    · rw [if_pos (e0.mpr h), if_pos h]; rfl
    · rw [if_neg (fun n => h (e0.mp n)), if_neg h]
  · rfl
