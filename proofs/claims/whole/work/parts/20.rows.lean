/-! THE ROWS: what a camp holds, as plain numbers, in the Model's order (0 people, 1 day, 2 bags, 3 asleep, 4 milked, 5 dry, 6 lost, 7+4k kind, figure, waker, owes, 35+w tired), and what a day does to it -/
def ra (R : Nat → Nat) : Nat → Int32 := fun i => nI (R i)
def nup (R : Nat → Nat) (k v : Nat) : Nat → Nat := fun j => if j = k then v else R j
theorem ra_up (R : Nat → Nat) (k v : Nat) : ra (nup R k v) = upd (ra R) k (nI v) := by
  funext j
  unfold ra nup upd
  split <;> rfl
theorem nup_s (R : Nat → Nat) (k v : Nat) : nup R k v k = v := by unfold nup; rw [if_pos rfl]
theorem nup_o (R : Nat → Nat) {k v j : Nat} (h : j ≠ k) : nup R k v j = R j := by unfold nup; rw [if_neg h]
def n_dr (kd f d : Nat) : Nat := if kd = 1 then 2 + d % 2 else if kd = 2 then 2 + f / 2 else if kd = 3 then 1 else if kd = 4 then 2 * (2 + f / 2) else if kd = 5 then (if d % 3 = 0 then 0 else 2 + d % 2) else if kd = 6 then 2 * (2 + f / 2) - 1 else if kd = 7 then 0 else 2
def n_ti (kd f c : Nat) : Nat := if kd = 1 then 2 * c else if kd = 2 then 4 * c else if kd = 3 then c else if kd = 4 then 4 * c else if kd = 5 then 2 * c - f else if kd = 6 then 0 else if kd = 7 then 5 else 3 * c
def n_ow (kd f c : Nat) : Nat := if kd = 2 then 2 * c else if kd = 4 then 2 * c else if kd = 6 then (if c = 0 then 0 else 2 * c + f) else if kd = 7 then 0 else c
def n_aw (R : Nat → Nat) (w : Nat) : Bool := !(w == 9) && !((R 3).testBit w)
def n_wake (R : Nat → Nat) (w : Nat) : Nat → Nat :=
  if n_aw R w = true then R
  else if R (35 + w) - 15 < 20 ∧ (R 6).testBit w = false then nup (nup R (35 + w) (R (35 + w) - 15)) 3 (R 3 ^^^ 2 ^ w)
  else nup R (35 + w) (R (35 + w) - 15)
def n_cups (R : Nat → Nat) (k : Nat) : Nat := min (if (R 5).testBit k = true then 0 else n_dr (R (7 + 4 * k)) (R (8 + 4 * k)) (R 1) / (if (R 4).testBit k = true then 2 else 1)) (R 2)
def n_drink (R : Nat → Nat) (k : Nat) : Nat → Nat :=
  if n_aw R (R (9 + 4 * k)) = true then nup (nup R 2 (R 2 - n_cups R k)) (35 + R (9 + 4 * k)) (min 99 (R (35 + R (9 + 4 * k)) + n_ti (R (7 + 4 * k)) (R (8 + 4 * k)) (n_cups R k)))
  else nup (nup R 2 (R 2 - n_cups R k)) (10 + 4 * k) (min 999 (R (10 + 4 * k) + n_ow (R (7 + 4 * k)) (R (8 + 4 * k)) (n_cups R k)))
def n_lie (R : Nat → Nat) (w : Nat) : Nat → Nat :=
  if n_aw R w = true then (if 60 ≤ R (35 + w) then nup R 3 (R 3 ||| 2 ^ w) else nup R (35 + w) (R (35 + w) - 2)) else R
def n_it (f : (Nat → Nat) → Nat → (Nat → Nat)) : Nat → (Nat → Nat) → (Nat → Nat)
  | 0, R => R
  | n + 1, R => f (n_it f n R) n
def n_dawn (R : Nat → Nat) : Nat → Nat := n_it n_wake 5 (nup R 1 (R 1 + 1))
def n_noon (R : Nat → Nat) : Nat → Nat := n_it n_drink (n_dawn R 0) (n_dawn R)
def n_day (R : Nat → Nat) : Nat → Nat := n_it n_lie 5 (n_noon R)
def n_days : Nat → (Nat → Nat) → (Nat → Nat)
  | 0, R => R
  | n + 1, R => n_day (n_days n R)
/-- a row as it must be; its DAY is at most D -/
def n_wf (D : Nat) (R : Nat → Nat) : Prop := R 0 ≤ 7 ∧ R 1 ≤ D ∧ R 2 ≤ 999 ∧ R 3 < 32 ∧ R 4 < 128 ∧ R 5 < 128 ∧ R 6 < 32 ∧ (∀ k, k < 7 → R (7 + 4 * k) < 8 ∧ R (8 + 4 * k) < 10 ∧ (R (9 + 4 * k) < 5 ∨ R (9 + 4 * k) = 9) ∧ R (10 + 4 * k) ≤ 999) ∧ (∀ w, w < 5 → R (35 + w) ≤ 99) ∧ ∀ i, 40 ≤ i → R i = 0
theorem n_wf.mono {D D' : Nat} {R : Nat → Nat} (h : n_wf D R) (hD : D ≤ D') : n_wf D' R := ⟨h.1, Nat.le_trans h.2.1 hD, h.2.2⟩
theorem n_bitx : ∀ a, a < 32 → ∀ w, w < 5 → a ^^^ 2 ^ w < 32 ∧ a ||| 2 ^ w < 32 := by decide +kernel
theorem n_wf_tired {D : Nat} {R : Nat → Nat} (h : n_wf D R) {w v : Nat} (hw : w < 5) (hv : v ≤ 99) : n_wf D (nup R (35 + w) v) := by
  obtain ⟨h0, h1, h2, h3, h4, h5, h6, h7, h8, h9⟩ := h
  refine ⟨by rw [nup_o R (by omega)]; exact h0, by rw [nup_o R (by omega)]; exact h1, by rw [nup_o R (by omega)]; exact h2, by rw [nup_o R (by omega)]; exact h3, by rw [nup_o R (by omega)]; exact h4, by rw [nup_o R (by omega)]; exact h5, by rw [nup_o R (by omega)]; exact h6, fun k hk => ?_, fun x hx => ?_, fun i hi => ?_⟩
  · rw [nup_o R (by omega), nup_o R (by omega), nup_o R (by omega), nup_o R (by omega)]
    exact h7 k hk
  · by_cases e : 35 + x = 35 + w
    · rw [e, nup_s]; exact hv
    · rw [nup_o R e]; exact h8 x hx
  · rw [nup_o R (by omega)]; exact h9 i hi
theorem n_wf_asleep {D : Nat} {R : Nat → Nat} (h : n_wf D R) {v : Nat} (hv : v < 32) : n_wf D (nup R 3 v) := by
  obtain ⟨h0, h1, h2, h3, h4, h5, h6, h7, h8, h9⟩ := h
  refine ⟨by rw [nup_o R (by omega)]; exact h0, by rw [nup_o R (by omega)]; exact h1, by rw [nup_o R (by omega)]; exact h2, by rw [nup_s]; exact hv, by rw [nup_o R (by omega)]; exact h4, by rw [nup_o R (by omega)]; exact h5, by rw [nup_o R (by omega)]; exact h6, fun k hk => ?_, fun x hx => ?_, fun i hi => ?_⟩
  · rw [nup_o R (by omega), nup_o R (by omega), nup_o R (by omega), nup_o R (by omega)]
    exact h7 k hk
  · rw [nup_o R (by omega)]; exact h8 x hx
  · rw [nup_o R (by omega)]; exact h9 i hi
theorem n_wf_bags {D : Nat} {R : Nat → Nat} (h : n_wf D R) {v : Nat} (hv : v ≤ 999) : n_wf D (nup R 2 v) := by
  obtain ⟨h0, h1, h2, h3, h4, h5, h6, h7, h8, h9⟩ := h
  refine ⟨by rw [nup_o R (by omega)]; exact h0, by rw [nup_o R (by omega)]; exact h1, by rw [nup_s]; exact hv, by rw [nup_o R (by omega)]; exact h3, by rw [nup_o R (by omega)]; exact h4, by rw [nup_o R (by omega)]; exact h5, by rw [nup_o R (by omega)]; exact h6, fun k hk => ?_, fun x hx => ?_, fun i hi => ?_⟩
  · rw [nup_o R (by omega), nup_o R (by omega), nup_o R (by omega), nup_o R (by omega)]
    exact h7 k hk
  · rw [nup_o R (by omega)]; exact h8 x hx
  · rw [nup_o R (by omega)]; exact h9 i hi
theorem n_wf_owes {D : Nat} {R : Nat → Nat} (h : n_wf D R) {k v : Nat} (hk : k < 7) (hv : v ≤ 999) : n_wf D (nup R (10 + 4 * k) v) := by
  obtain ⟨h0, h1, h2, h3, h4, h5, h6, h7, h8, h9⟩ := h
  refine ⟨by rw [nup_o R (by omega)]; exact h0, by rw [nup_o R (by omega)]; exact h1, by rw [nup_o R (by omega)]; exact h2, by rw [nup_o R (by omega)]; exact h3, by rw [nup_o R (by omega)]; exact h4, by rw [nup_o R (by omega)]; exact h5, by rw [nup_o R (by omega)]; exact h6, fun j hj => ?_, fun x hx => ?_, fun i hi => ?_⟩
  · rw [nup_o R (by omega), nup_o R (by omega), nup_o R (by omega)]
    refine ⟨(h7 j hj).1, (h7 j hj).2.1, (h7 j hj).2.2.1, ?_⟩
    by_cases e : 10 + 4 * j = 10 + 4 * k
    · rw [e, nup_s]; exact hv
    · rw [nup_o R e]; exact (h7 j hj).2.2.2
  · rw [nup_o R (by omega)]; exact h8 x hx
  · rw [nup_o R (by omega)]; exact h9 i hi
theorem n_wf_day {D : Nat} {R : Nat → Nat} (h : n_wf D R) {v D' : Nat} (hv : v ≤ D') : n_wf D' (nup R 1 v) := by
  obtain ⟨h0, h1, h2, h3, h4, h5, h6, h7, h8, h9⟩ := h
  refine ⟨by rw [nup_o R (by omega)]; exact h0, by rw [nup_s]; exact hv, by rw [nup_o R (by omega)]; exact h2, by rw [nup_o R (by omega)]; exact h3, by rw [nup_o R (by omega)]; exact h4, by rw [nup_o R (by omega)]; exact h5, by rw [nup_o R (by omega)]; exact h6, fun k hk => ?_, fun x hx => ?_, fun i hi => ?_⟩
  · rw [nup_o R (by omega), nup_o R (by omega), nup_o R (by omega), nup_o R (by omega)]
    exact h7 k hk
  · rw [nup_o R (by omega)]; exact h8 x hx
  · rw [nup_o R (by omega)]; exact h9 i hi
theorem n_wf_wake {D : Nat} {R : Nat → Nat} (h : n_wf D R) {w : Nat} (hw : w < 5) : n_wf D (n_wake R w) := by
  have h8 := h.2.2.2.2.2.2.2.2.1 w hw
  unfold n_wake
  split
  · exact h
  · split
    · exact n_wf_asleep (n_wf_tired h hw (by omega)) (n_bitx _ h.2.2.2.1 w hw).1
    · exact n_wf_tired h hw (by omega)
theorem n_wf_lie {D : Nat} {R : Nat → Nat} (h : n_wf D R) {w : Nat} (hw : w < 5) : n_wf D (n_lie R w) := by
  have h8 := h.2.2.2.2.2.2.2.2.1 w hw
  unfold n_lie
  split
  · split
    · exact n_wf_asleep h (n_bitx _ h.2.2.2.1 w hw).2
    · exact n_wf_tired h hw (by omega)
  · exact h
theorem n_aw_lt {D : Nat} {R : Nat → Nat} (h : n_wf D R) {k : Nat} (hk : k < 7) (ha : n_aw R (R (9 + 4 * k)) = true) : R (9 + 4 * k) < 5 := by
  rcases (h.2.2.2.2.2.2.2.1 k hk).2.2.1 with q | q
  · exact q
  · rw [q] at ha
    simp [n_aw] at ha
theorem n_wf_drink {D : Nat} {R : Nat → Nat} (h : n_wf D R) {k : Nat} (hk : k < 7) : n_wf D (n_drink R k) := by
  have h2 : R 2 ≤ 999 := h.2.2.1
  unfold n_drink
  split
  · rename_i ha
    exact n_wf_tired (n_wf_bags h (by omega)) (n_aw_lt h hk ha) (by omega)
  · exact n_wf_owes (n_wf_bags h (by omega)) hk (by omega)
theorem n_wf_it {D : Nat} {f : (Nat → Nat) → Nat → (Nat → Nat)} {N : Nat} (hf : ∀ R k, n_wf D R → k < N → n_wf D (f R k)) : ∀ (n : Nat) (R : Nat → Nat), n ≤ N → n_wf D R → n_wf D (n_it f n R)
  | 0, R, _, h => h
  | n + 1, R, hn, h => hf _ _ (n_wf_it hf n R (by omega) h) (by omega)
theorem n_wf_dawn {D : Nat} {R : Nat → Nat} (h : n_wf D R) : n_wf (D + 1) (n_dawn R) := n_wf_it (N := 5) (fun R k h hk => n_wf_wake h hk) 5 _ (Nat.le_refl _) (n_wf_day h (by have := h.2.1; omega))
theorem n_wf_noon {D : Nat} {R : Nat → Nat} (h : n_wf D R) : n_wf (D + 1) (n_noon R) := n_wf_it (N := 7) (fun R k h hk => n_wf_drink h hk) _ _ (n_wf_dawn h).1 (n_wf_dawn h)
theorem n_wf_theday {D : Nat} {R : Nat → Nat} (h : n_wf D R) : n_wf (D + 1) (n_day R) := n_wf_it (N := 5) (fun R k h hk => n_wf_lie h hk) 5 _ (Nat.le_refl _) (n_wf_noon h)
theorem n_wf_days {D : Nat} {R : Nat → Nat} (h : n_wf D R) : ∀ n, n_wf (D + n) (n_days n R)
  | 0 => h
  | n + 1 => n_wf_theday (n_wf_days h n)
/-! numbers as the machine has them -/
theorem n_lb (σ : mm_Sg) {v d : Nat} (hv : v < 2 ^ 31) (hd : d < 2 ^ 31) : f_X11_lessBy σ (nI v) (nI d) = nI (v - d) := by
  unfold f_X11_lessBy
  by_cases h : d ≤ v
  · rw [if_pos (nI_le h hv), pk_sub h]
  · rw [if_neg (nI_ge (by omega) hd), Nat.sub_eq_zero_of_le (by omega)]
    rfl
theorem n_le (σ : mm_Sg) {a b : Nat} (ha : a < 2 ^ 31) (hb : b < 2 ^ 31) : f_X11_least σ (nI a) (nI b) = nI (min a b) := by
  unfold f_X11_least
  by_cases h : b ≤ a
  · rw [if_pos (nI_le h ha), Nat.min_eq_right h]
  · rw [if_neg (nI_ge (by omega) hb), Nat.min_eq_left (by omega)]
theorem n_of (σ : mm_Sg) (k j : Nat) : f_X11_of σ (nI k) (nI j) = nI (7 + 4 * k + j) := by
  unfold f_X11_of
  rw [show (7 : Int32) = nI 7 from rfl, show (4 : Int32) = nI 4 from rfl, pk_mul, nI_add, nI_add]
theorem n_has0 : ∀ a, a < 128 → ∀ b, b < 7 → ((nI a >>> (nI b &&& 31)) &&& (1 : Int32)) = if a.testBit b = true then 1 else 0 := by decide +kernel
theorem n_has (σ : mm_Sg) {a b : Nat} (ha : a < 128) (hb : b < 7) : f_X11_has σ (nI a) (nI b) = if a.testBit b = true then 1 else 0 := by
  unfold f_X11_has
  rw [n_has0 a ha b hb]
  cases a.testBit b <;> simp
theorem n_ne9 : ∀ w, w < 5 → nI w ≠ (9 : Int32) := by decide +kernel
theorem n_isAw (σ : mm_Sg) {q : Nat} {R : Nat → Nat} {w : Nat} (hq : σ q 3 = nI (R 3)) (h3 : R 3 < 32) (hw : w < 5 ∨ w = 9) : f_X11_isAwake σ q (nI w) = if n_aw R w = true then 1 else 0 := by
  unfold f_X11_isAwake n_aw
  rcases hw with hw | rfl
  · rw [if_neg (n_ne9 w hw), hq, n_has σ (by omega) (by omega)]
    have e : (w == 9) = false := by simp; omega
    rw [e]
    cases (R 3).testBit w <;> simp
  · rfl
theorem n_drB (σ : mm_Sg) {kd f d : Nat} (hk : kd < 8) (hf : f < 10) (hd : d < 2 ^ 30) : f_X11_drinksBy σ (nI kd) (nI f) (nI d) = nI (n_dr kd f d) := by
  have e2 : nI d - nI d / (2 : Int32) * (2 : Int32) = nI (d % 2) := pk_rem (d := 2) (by omega) (by decide) (by decide)
  have e3 : nI d - nI d / (3 : Int32) * (3 : Int32) = nI (d % 3) := pk_rem (d := 3) (by omega) (by decide) (by decide)
  have ef : nI f / (2 : Int32) = nI (f / 2) := pk_div (d := 2) (by omega) (by decide) (by decide)
  have ea : ∀ z, (2 : Int32) + nI z = nI (2 + z) := fun z => nI_add 2 z
  have em : ∀ z, (2 : Int32) * nI z = nI (2 * z) := fun z => pk_mul 2 z
  have es : nI (2 * (2 + f / 2)) - (1 : Int32) = nI (2 * (2 + f / 2) - 1) := pk_sub (b := 1) (by omega)
  have e0 : nI (d % 3) = (0 : Int32) ↔ d % 3 = 0 := by rw [← nI_0]; exact nI_eq (by omega) (by omega)
  unfold f_X11_drinksBy n_dr
  rw [e2, e3, ef, ea, ea, em, es]
  rcases (show kd = 0 ∨ kd = 1 ∨ kd = 2 ∨ kd = 3 ∨ kd = 4 ∨ kd = 5 ∨ kd = 6 ∨ kd = 7 by omega) with rfl | rfl | rfl | rfl | rfl | rfl | rfl | rfl
  case inr.inr.inr.inr.inr.inl =>
    simp (decide := true) only [if_true, if_false]
    by_cases h : d % 3 = 0
    · rw [if_neg (fun n => n (e0.mpr h)), if_pos h]; rfl
    · rw [if_pos (fun n => h (e0.mp n)), if_neg h]
  all_goals (simp (decide := true) only [if_true, if_false]; try rfl)
theorem n_tiB (σ : mm_Sg) {kd f c : Nat} (hk : kd < 8) (hf : f < 10) (hc : c < 2 ^ 20) : f_X11_tiresBy σ (nI kd) (nI f) (nI c) = nI (n_ti kd f c) := by
  have e2 : (2 : Int32) * nI c = nI (2 * c) := pk_mul 2 c
  have e3 : (3 : Int32) * nI c = nI (3 * c) := pk_mul 3 c
  have e4 : (4 : Int32) * nI c = nI (4 * c) := pk_mul 4 c
  unfold f_X11_tiresBy n_ti
  rw [e2, e3, e4, n_lb σ (by omega) (by omega)]
  rcases (show kd = 0 ∨ kd = 1 ∨ kd = 2 ∨ kd = 3 ∨ kd = 4 ∨ kd = 5 ∨ kd = 6 ∨ kd = 7 by omega) with rfl | rfl | rfl | rfl | rfl | rfl | rfl | rfl
  all_goals (simp (decide := true) only [if_true, if_false]; try rfl)
theorem n_owB (σ : mm_Sg) {kd f c : Nat} (hk : kd < 8) (hf : f < 10) (hc : c < 2 ^ 20) : f_X11_owesBy σ (nI kd) (nI f) (nI c) = nI (n_ow kd f c) := by
  have e2 : (2 : Int32) * nI c = nI (2 * c) := pk_mul 2 c
  have e1 : nI (2 * c) + nI f = nI (2 * c + f) := nI_add _ _
  have e0 : nI c ≤ (0 : Int32) ↔ c = 0 := by rw [← nI_0, nI_leI (by omega) (by omega)]; omega
  unfold f_X11_owesBy n_ow
  rw [e2, e1]
  rcases (show kd = 0 ∨ kd = 1 ∨ kd = 2 ∨ kd = 3 ∨ kd = 4 ∨ kd = 5 ∨ kd = 6 ∨ kd = 7 by omega) with rfl | rfl | rfl | rfl | rfl | rfl | rfl | rfl
  case inr.inr.inr.inr.inr.inr.inl =>
    simp (decide := true) only [if_true, if_false]
    by_cases h : c = 0
    · rw [if_pos (e0.mpr h), if_pos h]; rfl
    · rw [if_neg (fun n => h (e0.mp n)), if_neg h]
  all_goals (simp (decide := true) only [if_true, if_false]; try rfl)
theorem n_dr_le {kd f d : Nat} (hf : f < 10) : n_dr kd f d ≤ 12 := by
  unfold n_dr
  (repeat' split) <;> omega
theorem n_ti_le {kd f c : Nat} : n_ti kd f c ≤ 4 * c + 5 := by
  unfold n_ti
  (repeat' split) <;> omega
theorem n_ow_le {kd f c : Nat} (hf : f < 10) : n_ow kd f c ≤ 2 * c + 9 := by
  unfold n_ow
  (repeat' split) <;> omega
theorem n_cups_le (R : Nat → Nat) (k : Nat) : n_cups R k ≤ R 2 := by unfold n_cups; omega
