/-! what a statement does to a row -/
def n_good (T : Nat → Nat) : Prop := n_wf 999 T ∧ T 4 = 0 ∧ T 5 = 0 ∧ T 6 = 0
def n_stm (T : Nat → Nat) (c a b e : Nat) : Option (Nat → Nat) :=
  if c = 98 then some (nup T 2 (10 * (10 * a + b) + e))
  else if c = 107 then (if a < 8 ∧ (e < 5 ∨ e = 9) ∧ T 0 < 7 then some (n_join T a b e) else none)
  else if c = 111 then (if a < T 0 then some (nup T (10 + 4 * a) (10 * b + e)) else none)
  else if c = 116 then (if a < 5 then some (nup T (35 + a) (10 * b + e)) else none)
  else if c = 119 then (if a < T 0 ∧ (b < 5 ∨ b = 9) then some (nup T (9 + 4 * a) b) else none)
  else if c = 122 then (if a < 5 then some (nup T 3 (T 3 ^^^ 2 ^ a)) else none)
  else (if 1 ≤ 10 * a + b ∧ 10 * a + b ≤ 60 ∧ T 1 + (10 * a + b) ≤ 999 then some (n_days (10 * a + b) T) else none)
theorem n_good_up {T : Nat → Nat} {i v : Nat} (h : n_good T) (wf : n_wf 999 (nup T i v)) (hi : i ≠ 4 ∧ i ≠ 5 ∧ i ≠ 6) : n_good (nup T i v) := ⟨wf, by rw [nup_o T (Ne.symm hi.1)]; exact h.2.1, by rw [nup_o T (Ne.symm hi.2.1)]; exact h.2.2.1, by rw [nup_o T (Ne.symm hi.2.2)]; exact h.2.2.2⟩
theorem n_stm_good {T T' : Nat → Nat} {c a b e : Nat} (h : n_good T) (ha : a < 10) (hb : b < 10) (he : e < 10) (hs : n_stm T c a b e = some T') : n_good T' := by
  have h7 := h.1.1
  unfold n_stm at hs
  split at hs
  · obtain rfl : _ = T' := by simpa using hs
    exact n_good_up h (n_wf_bags h.1 (by omega)) (by omega)
  split at hs
  · split at hs
    · rename_i q
      obtain rfl : _ = T' := by simpa using hs
      exact ⟨n_wf_join h.1 q.2.2 q.1 hb q.2.1, by rw [n_join_o (by omega)]; exact h.2.1, by rw [n_join_o (by omega)]; exact h.2.2.1, by rw [n_join_o (by omega)]; exact h.2.2.2⟩
    · exact absurd hs (by simp)
  split at hs
  · split at hs
    · rename_i q
      obtain rfl : _ = T' := by simpa using hs
      exact n_good_up h (n_wf_owes h.1 (by omega) (by omega)) (by omega)
    · exact absurd hs (by simp)
  split at hs
  · split at hs
    · rename_i q
      obtain rfl : _ = T' := by simpa using hs
      exact n_good_up h (n_wf_tired h.1 q (by omega)) (by omega)
    · exact absurd hs (by simp)
  split at hs
  · split at hs
    · rename_i q
      obtain rfl : _ = T' := by simpa using hs
      exact n_good_up h (n_wf_waker h.1 (by omega) q.2) (by omega)
    · exact absurd hs (by simp)
  split at hs
  · split at hs
    · rename_i q
      obtain rfl : _ = T' := by simpa using hs
      exact n_good_up h (n_wf_asleep h.1 (n_bitx _ h.1.2.2.2.1 a q).1) (by omega)
    · exact absurd hs (by simp)
  split at hs
  · rename_i q
    obtain rfl : _ = T' := by simpa using hs
    have k := n_days_k h.1 h.2.1 h.2.2.1 (10 * a + b)
    exact ⟨(n_wf_days h.1 _).day (by rw [k.2.1]; exact q.2.2), by rw [k.1.2.1]; exact h.2.1, by rw [k.1.2.2.1]; exact h.2.2.1, by rw [n_days6 h.1]; exact h.2.2.2⟩
  · exact absurd hs (by simp)
/-! the class obeys -/
def n_num (A : Nat → Int32) (pl : Nat) : Nat → Int32
  | 0 => 0
  | j + 1 => (((10 : Int32) * n_num A pl j) + A (pl + j)) - (48 : Int32)
theorem xW_num {s : mm_Sg} {d s0 n : Nat} (hro : rowOf s d s0 n) (hd : d < 8) (pl k : Nat) (hp : pl + k < 2 ^ 20) : mm_Ev mm_m_X8_numberAt [.ref (32 + 2 * d), .int (nI pl), .int (nI k)] s (some (.int (n_num (fun i => f_X8_at s (32 + 2 * d) (nI i)) pl k))) s := by
  obtain ⟨-, -, g⟩ := mm_run (M := mm_m_X8_numberAt) (α := Unit) (fun j _ => (5, [.ref (32 + 2 * d), .int (nI pl), .int (nI k), .int (n_num (fun i => f_X8_at s (32 + 2 * d) (nI i)) pl j), .int (nI j)], [], s)) k (fun _ _ => True)
    (fun j _ hj _ => ⟨(), trivial, fun X hX => sg_X8_numberAt_5 s _ _ _ _ _ X ⟨fun z => absurd z (nI_ge hj (by omega)), fun _ => ⟨(cl_sh d hd).1, by
      rw [nI_add, nI_1]
      exact ⟨_, s, ev_at2 hro hd (by omega), hX⟩⟩⟩⟩)
    k 0 () (by omega) trivial
  exact sg_X8_numberAt_0 s _ _ _ _ (g _ (sg_X8_numberAt_5 s _ _ _ _ _ _ ⟨fun _ => rfl, fun z => absurd (nI_le (Nat.le_refl _) (by omega)) z⟩))
theorem n_num_s {A : Nat → Int32} {pl j a v : Nat} (h : n_num A pl j = nI v) (hA : A (pl + j) = nI (48 + a)) (hv : v < 1000) (ha : a < 10) : n_num A pl (j + 1) = nI (10 * v + a) := by
  show (((10 : Int32) * n_num A pl j) + A (pl + j)) - (48 : Int32) = _
  rw [h, hA, show (10 : Int32) = nI 10 from rfl, pk_mul, nI_add, show (48 : Int32) = nI 48 from rfl, pk_sub (by omega)]
  congr 1
  omega
theorem xW_setIn {s : mm_Sg} {q a : Nat} (x : Int32) (hl : 0 < mm_len q) (hl2 : mm_len q < 100) (ha : a < 100) : ∃ s', mm_Ev mm_m_X1_setIn [.ref q, .int (nI a), .int x] s (some (.int (if a < mm_len q then 1 else 0))) s' ∧ s' = if a < mm_len q then mm_u s q a x else s := by
  by_cases h : a < mm_len q
  · rw [if_pos h, if_pos h]
    refine ⟨_, sg_X1_setIn_0 s q _ _ _ ⟨fun z => absurd z (nI_pos (by omega)), fun _ => ⟨hl, fun _ => ⟨v_in h (by omega), fun σ5 e5 => ?_⟩, fun z => absurd (nI_lt h (by omega)) z⟩⟩, rfl⟩
    rw [e5, nI_clamp (by omega)]
  · rw [if_neg h, if_neg h]
    exact ⟨_, sg_X1_setIn_0 s q _ _ _ ⟨fun z => absurd z (nI_pos (by omega)), fun _ => ⟨hl, fun z => absurd z (nI_nlt (by omega) (by omega)), fun _ => rfl⟩⟩, rfl⟩
theorem nv5 {a n : Nat} (ha : a < 2 ^ 30) (h : ¬ a < n) : ¬ vp_in (nI a) n := fun z => by
  rw [vp_in_iff, nI_toInt (by omega)] at z
  omega
theorem wn_nI {b : Nat} (h : b < 5 ∨ b = 9) : wn (nI b) := by
  rcases h with h | rfl
  · exact Or.inl (v_in h (by decide))
  · exact Or.inr rfl
theorem nwn_nI {b : Nat} (hb : b < 100) (h : ¬ (b < 5 ∨ b = 9)) : ¬ wn (nI b) := fun z => by
  rcases z with z | z
  · exact nv5 (by omega) (fun l => h (Or.inl l)) z
  · exact h (Or.inr ((nI_eq (b := 9) (by omega) (by decide)).mp z))
theorem xW_obeys {s : mm_Sg} {T : Nat → Nat} {d n p : Nat} (hx : xr s 24 T) (gT : n_good T) (hro : rowOf s d 0 n) (hd : d < 8) (c : Nat → Nat) (hc : c = txc s d n) (hb : tbd c p = none) (hpn : p < n) :
    ∃ s', (match n_stm T (c p) (c (p + 1) - 48) (c (p + 2) - 48) (c (p + 3) - 48) with
      | some T' => mm_Ev mm_m_X1_obeys [.ref 24, .ref (32 + 2 * d), .int (nI p)] s (some (.int 1)) s' ∧ xr s' 24 T'
      | none => mm_Ev mm_m_X1_obeys [.ref 24, .ref (32 + 2 * d), .int (nI p)] s (some (.int 0)) s') ∧ xTh s s' := by
  have h4 := hro.2.2.2.1
  have wf := gT.1
  have h7 := wf.1
  obtain ⟨A, eA⟩ : ∃ A : Nat → Int32, A = fun i => f_X8_at s (32 + 2 * d) (nI i) := ⟨_, rfl⟩
  have N1 := xW_num hro hd (p + 1) 1 (by omega)
  have N2 := xW_num hro hd (p + 2) 1 (by omega)
  have N3 := xW_num hro hd (p + 3) 1 (by omega)
  have N12 := xW_num hro hd (p + 1) 2 (by omega)
  have N23 := xW_num hro hd (p + 2) 2 (by omega)
  have N123 := xW_num hro hd (p + 1) 3 (by omega)
  rw [← eA] at N1 N2 N3 N12 N23 N123
  have e1 : nI p + (1 : Int32) = nI (p + 1) := nI_add p 1
  have e2 : nI p + (2 : Int32) = nI (p + 2) := nI_add p 2
  have e3 : nI p + (3 : Int32) = nI (p + 3) := nI_add p 3
  have AT := ev_at hro hd hpn
  have r0 := tx_r hro hpn
  have c0 : c p = tch (s 64 (100 * d + p)) := by rw [hc]; unfold txc; rw [if_pos hpn]
  have hA : ∀ i, i < n → tdi (c i) → A i = nI (48 + (c i - 48)) := fun i hi hd2 => by
    have r := tx_r hro hi
    have ci : c i = tch (s 64 (100 * d + i)) := by rw [hc]; unfold txc; rw [if_pos hi]
    rw [eA]
    dsimp only
    rw [x_at hro hi]
    obtain ⟨x0, x9⟩ := hd2
    rw [show 48 + (c i - 48) = c i by omega]
    exact (tch_eq r.1 r.2 (by omega)).mpr ci.symm
  obtain ⟨L0, Ln, Ld, -⟩ := (tbd_p (n := n) (fun i hi => by rw [hc]; exact txc_end _ _ _ _ (by omega)) (by omega)).1 hb
  obtain ⟨a, ea⟩ : ∃ a, a = c (p + 1) - 48 := ⟨_, rfl⟩
  obtain ⟨b, eb⟩ : ∃ b, b = c (p + 2) - 48 := ⟨_, rfl⟩
  obtain ⟨e, ee⟩ : ∃ e, e = c (p + 3) - 48 := ⟨_, rfl⟩
  rw [← ea, ← eb, ← ee]
  have n0 : ∀ pl, n_num A pl 0 = nI 0 := fun _ => rfl
  have D1 : 1 ≤ tdg (c p) → a < 10 ∧ A (p + 1) = nI (48 + a) := fun h => by
    have q := Ld 0 (by omega)
    rw [Nat.add_zero] at q
    exact ⟨by have := q.2; omega, by rw [ea]; exact hA _ (by omega) q⟩
  have D2 : 2 ≤ tdg (c p) → b < 10 ∧ A (p + 2) = nI (48 + b) := fun h => by
    have q := Ld 1 (by omega)
    rw [show p + 1 + 1 = p + 2 by omega] at q
    exact ⟨by have := q.2; omega, by rw [eb]; exact hA _ (by omega) q⟩
  have D3 : 3 ≤ tdg (c p) → e < 10 ∧ A (p + 3) = nI (48 + e) := fun h => by
    have q := Ld 2 (by omega)
    rw [show p + 1 + 2 = p + 3 by omega] at q
    exact ⟨by have := q.2; omega, by rw [ee]; exact hA _ (by omega) q⟩
  have hcase : c p = 98 ∨ c p = 100 ∨ c p = 107 ∨ c p = 111 ∨ c p = 116 ∨ c p = 119 ∨ c p = 122 := by
    unfold tdg at L0
    (repeat' split at L0) <;> omega
  have V1 : 1 ≤ tdg (c p) → n_num A (p + 1) 1 = nI a := fun h => by
    have := n_num_s (n0 (p + 1)) (D1 h).2 (by decide) (D1 h).1
    rw [this, Nat.mul_zero, Nat.zero_add]
  have V2 : 2 ≤ tdg (c p) → n_num A (p + 2) 1 = nI b := fun h => by
    have := n_num_s (n0 (p + 2)) (D2 h).2 (by decide) (D2 h).1
    rw [this, Nat.mul_zero, Nat.zero_add]
  have V3 : 3 ≤ tdg (c p) → n_num A (p + 3) 1 = nI e := fun h => by
    have := n_num_s (n0 (p + 3)) (D3 h).2 (by decide) (D3 h).1
    rw [this, Nat.mul_zero, Nat.zero_add]
  have V12 : 2 ≤ tdg (c p) → n_num A (p + 1) 2 = nI (10 * a + b) := fun h => by
    have d1 := (D1 (by omega)).1
    exact n_num_s (V1 (by omega)) (D2 h).2 (by omega) (D2 h).1
  have V23 : 3 ≤ tdg (c p) → n_num A (p + 2) 2 = nI (10 * b + e) := fun h => by
    have d2 := (D2 (by omega)).1
    exact n_num_s (V2 (by omega)) (D3 h).2 (by omega) (D3 h).1
  have V123 : 3 ≤ tdg (c p) → n_num A (p + 1) 3 = nI (10 * (10 * a + b) + e) := fun h => by
    have d1 := (D1 (by omega)).1
    have d2 := (D2 (by omega)).1
    exact n_num_s (V12 (by omega)) (D3 h).2 (by omega) (D3 h).1
  have k0 : s 24 6 = nI (T 0) := hx.1
  have l27 : mm_len (24 + 3) = 7 := rfl
  have l28 : mm_len (24 + 4) = 7 := rfl
  have l29 : mm_len (24 + 5) = 5 := rfl
  rcases hcase with ec | ec | ec | ec | ec | ec | ec
  · have hL : tdg (c p) = 3 := by rw [ec]; rfl
    have d1 := (D1 (by omega)).1
    rw [V1 (by omega)] at N1
    have d2 := (D2 (by omega)).1
    rw [V2 (by omega)] at N2
    rw [V12 (by omega)] at N12
    have d3 := (D3 (by omega)).1
    rw [V3 (by omega)] at N3
    rw [V23 (by omega)] at N23
    rw [V123 (by omega)] at N123
    rw [show s 64 (100 * d + p) = nI 98 from (tch_eq r0.1 r0.2 (by decide)).mpr (by rw [← c0]; exact ec)] at AT
    rw [ec]
    unfold n_stm
    rw [if_pos rfl]
    refine ⟨mm_u s 24 8 (nI (10 * (10 * a + b) + e)), ⟨?_, xr_bags hx⟩, xth_u (by omega)⟩
    refine sg_X1_obeys_0 s 24 _ _ _ ⟨(cl_sh d hd).1, ?_⟩
    rw [e1, e2, e3]
    refine ⟨_, s, N1, _, s, N2, _, s, N3, _, s, N12, _, s, N23, _, s, AT, ?_⟩
    exact ⟨fun _ => ⟨_, s, N123, rfl, fun σ25 e25 => by rw [e25]⟩, fun z => absurd rfl z⟩
  · have hL : tdg (c p) = 2 := by rw [ec]; rfl
    have d1 := (D1 (by omega)).1
    rw [V1 (by omega)] at N1
    have d2 := (D2 (by omega)).1
    rw [V2 (by omega)] at N2
    rw [V12 (by omega)] at N12
    rw [show s 64 (100 * d + p) = nI 100 from (tch_eq r0.1 r0.2 (by decide)).mpr (by rw [← c0]; exact ec)] at AT
    rw [ec]
    unfold n_stm
    rw [if_neg (by decide), if_neg (by decide), if_neg (by decide), if_neg (by decide), if_neg (by decide), if_neg (by decide)]
    have dd := wf.2.1
    have bt := fun h => bt_t s (j := 10 * a + b) (a := 1) (m := 60) h (by decide)
    by_cases h : 1 ≤ 10 * a + b ∧ 10 * a + b ≤ 60 ∧ T 1 + (10 * a + b) ≤ 999
    · rw [if_pos h]
      obtain ⟨s', g, y, -, t'⟩ := xW_goMind (n := 10 * a + b) hx wf (by omega)
      refine ⟨s', ⟨?_, y⟩, t'⟩
      refine sg_X1_obeys_0 s 24 _ _ _ ⟨(cl_sh d hd).1, ?_⟩
      rw [e1, e2, e3]
      refine ⟨_, s, N1, _, s, N2, _, s, N3, _, s, N12, _, s, N23, _, s, AT, ?_⟩
      exact ⟨fun z => absurd z (show ¬ (nI 100 = nI 98) by decide), fun _ => ⟨fun z => absurd z (show ¬ (nI 100 = nI 99) by decide), fun _ => ⟨fun _ => ⟨_, s, ev_X10_isBetween s _ _ _, fun z => absurd (show f_X10_isBetween s (nI (10 * a + b)) (1 : Int32) (60 : Int32) = 0 from z) (by rw [show f_X10_isBetween s (nI (10 * a + b)) (1 : Int32) (60 : Int32) = 1 from bt ⟨h.1, h.2.1⟩]; decide), fun _ => ⟨rfl, fun _ => ⟨s', g, rfl⟩, fun z => absurd (by rw [hx.2.1, nI_add]; exact nI_le (b := 999) h.2.2 (by decide)) z⟩⟩, fun z => absurd rfl z⟩⟩⟩
    · rw [if_neg h]
      refine ⟨s, ?_, fun _ _ => rfl⟩
      by_cases h2 : 1 ≤ 10 * a + b ∧ 10 * a + b ≤ 60
      · refine sg_X1_obeys_0 s 24 _ _ _ ⟨(cl_sh d hd).1, ?_⟩
        rw [e1, e2, e3]
        refine ⟨_, s, N1, _, s, N2, _, s, N3, _, s, N12, _, s, N23, _, s, AT, ?_⟩
        exact ⟨fun z => absurd z (show ¬ (nI 100 = nI 98) by decide), fun _ => ⟨fun z => absurd z (show ¬ (nI 100 = nI 99) by decide), fun _ => ⟨fun _ => ⟨_, s, ev_X10_isBetween s _ _ _, fun _ => rfl, fun _ => ⟨rfl, fun z => absurd (by rw [hx.2.1, nI_add] at z; exact z) (nI_ge (a := 999) (by omega) (by omega)), fun _ => rfl⟩⟩, fun z => absurd rfl z⟩⟩⟩
      · refine sg_X1_obeys_0 s 24 _ _ _ ⟨(cl_sh d hd).1, ?_⟩
        rw [e1, e2, e3]
        refine ⟨_, s, N1, _, s, N2, _, s, N3, _, s, N12, _, s, N23, _, s, AT, ?_⟩
        exact ⟨fun z => absurd z (show ¬ (nI 100 = nI 98) by decide), fun _ => ⟨fun z => absurd z (show ¬ (nI 100 = nI 99) by decide), fun _ => ⟨fun _ => ⟨_, s, ev_X10_isBetween s _ _ _, fun _ => rfl, fun z => absurd (show f_X10_isBetween s (nI (10 * a + b)) (1 : Int32) (60 : Int32) = 0 from by rw [show f_X10_isBetween s (nI (10 * a + b)) (1 : Int32) (60 : Int32) = _ from q_bt s (a := 1) (b := 60) (by omega) (by decide) (by decide), if_neg h2]) z⟩, fun z => absurd rfl z⟩⟩⟩
  · have hL : tdg (c p) = 3 := by rw [ec]; rfl
    have d1 := (D1 (by omega)).1
    rw [V1 (by omega)] at N1
    have d2 := (D2 (by omega)).1
    rw [V2 (by omega)] at N2
    rw [V12 (by omega)] at N12
    have d3 := (D3 (by omega)).1
    rw [V3 (by omega)] at N3
    rw [V23 (by omega)] at N23
    rw [V123 (by omega)] at N123
    rw [show s 64 (100 * d + p) = nI 107 from (tch_eq r0.1 r0.2 (by decide)).mpr (by rw [← c0]; exact ec)] at AT
    rw [ec]
    unfold n_stm
    rw [if_neg (by decide), if_pos rfl]
    by_cases h : a < 8 ∧ (e < 5 ∨ e = 9) ∧ T 0 < 7
    · rw [if_pos h]
      obtain ⟨s', g, y, o⟩ := xW_joins (k := a) (f := b) (w := e) (Or.inr (Or.inr rfl)) hx h.2.2
      refine ⟨s', ⟨?_, y⟩, fun q hq => o q (by omega)⟩
      have w1 : f_X10_isWakerOrNobody s (nI e) = 1 := x_wn s (wn_nI h.2.1)
      refine sg_X1_obeys_0 s 24 _ _ _ ⟨(cl_sh d hd).1, ?_⟩
      rw [e1, e2, e3]
      refine ⟨_, s, N1, _, s, N2, _, s, N3, _, s, N12, _, s, N23, _, s, AT, ?_⟩
      exact ⟨fun z => absurd z (show ¬ (nI 107 = nI 98) by decide), fun _ => ⟨fun z => absurd z (show ¬ (nI 107 = nI 99) by decide), fun _ => ⟨fun z => absurd z (show ¬ (nI 107 = nI 100) by decide), fun _ => ⟨fun z => absurd z (show ¬ (nI 107 = nI 101) by decide), fun _ => ⟨fun z => absurd z (show ¬ (nI 107 = nI 102) by decide), fun _ => ⟨fun z => absurd z (show ¬ (nI 107 = nI 103) by decide), fun _ => ⟨fun z => absurd z (show ¬ (nI 107 = nI 104) by decide), fun _ => ⟨fun z => absurd z (show ¬ (nI 107 = nI 105) by decide), fun _ => ⟨fun z => absurd z (show ¬ (nI 107 = nI 106) by decide), fun _ => ⟨fun _ => ⟨fun z => absurd z (nI_ge (b := 8) h.1 (by decide)), fun _ => ⟨_, s, ev_X10_isWakerOrNobody s _, fun z => absurd (w1.symm.trans z) (by decide), fun _ => ⟨rfl, _, s', g, fun z => absurd z (by decide), fun _ => rfl⟩⟩⟩, fun z => absurd rfl z⟩⟩⟩⟩⟩⟩⟩⟩⟩⟩
    · rw [if_neg h]
      refine ⟨s, ?_, fun _ _ => rfl⟩
      by_cases h1 : a < 8
      · by_cases h2 : e < 5 ∨ e = 9
        · have h3 : T 0 = 7 := by omega
          have w1 : f_X10_isWakerOrNobody s (nI e) = 1 := x_wn s (wn_nI h2)
          have gj : mm_Ev mm_m_X1_joins [.ref 24, .int (nI a), .int (nI b), .int (nI e)] s (some (.int 0)) s := by
            refine sg_X1_joins_0 s 24 _ _ _ _ ⟨rfl, ?_⟩
            rw [k0, h3]
            exact ⟨fun z => absurd z (by decide), fun _ => ⟨fun z => absurd z (by decide), fun _ => rfl⟩⟩
          refine sg_X1_obeys_0 s 24 _ _ _ ⟨(cl_sh d hd).1, ?_⟩
          rw [e1, e2, e3]
          refine ⟨_, s, N1, _, s, N2, _, s, N3, _, s, N12, _, s, N23, _, s, AT, ?_⟩
          exact ⟨fun z => absurd z (show ¬ (nI 107 = nI 98) by decide), fun _ => ⟨fun z => absurd z (show ¬ (nI 107 = nI 99) by decide), fun _ => ⟨fun z => absurd z (show ¬ (nI 107 = nI 100) by decide), fun _ => ⟨fun z => absurd z (show ¬ (nI 107 = nI 101) by decide), fun _ => ⟨fun z => absurd z (show ¬ (nI 107 = nI 102) by decide), fun _ => ⟨fun z => absurd z (show ¬ (nI 107 = nI 103) by decide), fun _ => ⟨fun z => absurd z (show ¬ (nI 107 = nI 104) by decide), fun _ => ⟨fun z => absurd z (show ¬ (nI 107 = nI 105) by decide), fun _ => ⟨fun z => absurd z (show ¬ (nI 107 = nI 106) by decide), fun _ => ⟨fun _ => ⟨fun z => absurd z (nI_ge (b := 8) h1 (by decide)), fun _ => ⟨_, s, ev_X10_isWakerOrNobody s _, fun z => absurd (w1.symm.trans z) (by decide), fun _ => ⟨rfl, _, s, gj, fun _ => rfl, fun z => absurd rfl z⟩⟩⟩, fun z => absurd rfl z⟩⟩⟩⟩⟩⟩⟩⟩⟩⟩
        · have w0 : f_X10_isWakerOrNobody s (nI e) = 0 := x_wnf s (nwn_nI (by omega) h2)
          refine sg_X1_obeys_0 s 24 _ _ _ ⟨(cl_sh d hd).1, ?_⟩
          rw [e1, e2, e3]
          refine ⟨_, s, N1, _, s, N2, _, s, N3, _, s, N12, _, s, N23, _, s, AT, ?_⟩
          exact ⟨fun z => absurd z (show ¬ (nI 107 = nI 98) by decide), fun _ => ⟨fun z => absurd z (show ¬ (nI 107 = nI 99) by decide), fun _ => ⟨fun z => absurd z (show ¬ (nI 107 = nI 100) by decide), fun _ => ⟨fun z => absurd z (show ¬ (nI 107 = nI 101) by decide), fun _ => ⟨fun z => absurd z (show ¬ (nI 107 = nI 102) by decide), fun _ => ⟨fun z => absurd z (show ¬ (nI 107 = nI 103) by decide), fun _ => ⟨fun z => absurd z (show ¬ (nI 107 = nI 104) by decide), fun _ => ⟨fun z => absurd z (show ¬ (nI 107 = nI 105) by decide), fun _ => ⟨fun z => absurd z (show ¬ (nI 107 = nI 106) by decide), fun _ => ⟨fun _ => ⟨fun z => absurd z (nI_ge (b := 8) h1 (by decide)), fun _ => ⟨_, s, ev_X10_isWakerOrNobody s _, fun _ => rfl, fun z => absurd w0 z⟩⟩, fun z => absurd rfl z⟩⟩⟩⟩⟩⟩⟩⟩⟩⟩
      · refine sg_X1_obeys_0 s 24 _ _ _ ⟨(cl_sh d hd).1, ?_⟩
        rw [e1, e2, e3]
        refine ⟨_, s, N1, _, s, N2, _, s, N3, _, s, N12, _, s, N23, _, s, AT, ?_⟩
        exact ⟨fun z => absurd z (show ¬ (nI 107 = nI 98) by decide), fun _ => ⟨fun z => absurd z (show ¬ (nI 107 = nI 99) by decide), fun _ => ⟨fun z => absurd z (show ¬ (nI 107 = nI 100) by decide), fun _ => ⟨fun z => absurd z (show ¬ (nI 107 = nI 101) by decide), fun _ => ⟨fun z => absurd z (show ¬ (nI 107 = nI 102) by decide), fun _ => ⟨fun z => absurd z (show ¬ (nI 107 = nI 103) by decide), fun _ => ⟨fun z => absurd z (show ¬ (nI 107 = nI 104) by decide), fun _ => ⟨fun z => absurd z (show ¬ (nI 107 = nI 105) by decide), fun _ => ⟨fun z => absurd z (show ¬ (nI 107 = nI 106) by decide), fun _ => ⟨fun _ => ⟨fun _ => rfl, fun z => absurd (nI_le (a := 8) (by omega) (by omega)) z⟩, fun z => absurd rfl z⟩⟩⟩⟩⟩⟩⟩⟩⟩⟩
  · have hL : tdg (c p) = 3 := by rw [ec]; rfl
    have d1 := (D1 (by omega)).1
    rw [V1 (by omega)] at N1
    have d2 := (D2 (by omega)).1
    rw [V2 (by omega)] at N2
    rw [V12 (by omega)] at N12
    have d3 := (D3 (by omega)).1
    rw [V3 (by omega)] at N3
    rw [V23 (by omega)] at N23
    rw [V123 (by omega)] at N123
    rw [show s 64 (100 * d + p) = nI 111 from (tch_eq r0.1 r0.2 (by decide)).mpr (by rw [← c0]; exact ec)] at AT
    rw [ec]
    unfold n_stm
    rw [if_neg (by decide), if_neg (by decide), if_pos rfl]
    obtain ⟨s', g, es⟩ := xW_setIn (s := s) (q := 24 + 4) (a := a) (nI (10 * b + e)) (by decide) (by decide) (by omega)
    have hh := x_has s k0 h7 (k := a) (by omega)
    by_cases h : a < T 0
    · rw [if_pos h] at hh ⊢
      rw [l28, if_pos (by omega)] at g es
      refine ⟨s', ⟨?_, by rw [es]; exact xr_owes hx (by omega)⟩, by rw [es]; exact xth_u (by omega)⟩
      refine sg_X1_obeys_0 s 24 _ _ _ ⟨(cl_sh d hd).1, ?_⟩
      rw [e1, e2, e3]
      refine ⟨_, s, N1, _, s, N2, _, s, N3, _, s, N12, _, s, N23, _, s, AT, ?_⟩
      exact ⟨fun z => absurd z (show ¬ (nI 111 = nI 98) by decide), fun _ => ⟨fun z => absurd z (show ¬ (nI 111 = nI 99) by decide), fun _ => ⟨fun z => absurd z (show ¬ (nI 111 = nI 100) by decide), fun _ => ⟨fun z => absurd z (show ¬ (nI 111 = nI 101) by decide), fun _ => ⟨fun z => absurd z (show ¬ (nI 111 = nI 102) by decide), fun _ => ⟨fun z => absurd z (show ¬ (nI 111 = nI 103) by decide), fun _ => ⟨fun z => absurd z (show ¬ (nI 111 = nI 104) by decide), fun _ => ⟨fun z => absurd z (show ¬ (nI 111 = nI 105) by decide), fun _ => ⟨fun z => absurd z (show ¬ (nI 111 = nI 106) by decide), fun _ => ⟨fun z => absurd z (show ¬ (nI 111 = nI 107) by decide), fun _ => ⟨fun z => absurd z (show ¬ (nI 111 = nI 108) by decide), fun _ => ⟨fun z => absurd z (show ¬ (nI 111 = nI 109) by decide), fun _ => ⟨fun z => absurd z (show ¬ (nI 111 = nI 110) by decide), fun _ => ⟨fun _ => ⟨rfl, _, s, ev_X1_has s 24 _ (fun _ => rfl), fun z => absurd (hh.symm.trans z) (by decide), fun _ => ⟨_, s', g, fun z => absurd z (by decide), fun _ => rfl⟩⟩, fun z => absurd rfl z⟩⟩⟩⟩⟩⟩⟩⟩⟩⟩⟩⟩⟩⟩
    · rw [if_neg h] at hh ⊢
      refine ⟨s, ?_, fun _ _ => rfl⟩
      refine sg_X1_obeys_0 s 24 _ _ _ ⟨(cl_sh d hd).1, ?_⟩
      rw [e1, e2, e3]
      refine ⟨_, s, N1, _, s, N2, _, s, N3, _, s, N12, _, s, N23, _, s, AT, ?_⟩
      exact ⟨fun z => absurd z (show ¬ (nI 111 = nI 98) by decide), fun _ => ⟨fun z => absurd z (show ¬ (nI 111 = nI 99) by decide), fun _ => ⟨fun z => absurd z (show ¬ (nI 111 = nI 100) by decide), fun _ => ⟨fun z => absurd z (show ¬ (nI 111 = nI 101) by decide), fun _ => ⟨fun z => absurd z (show ¬ (nI 111 = nI 102) by decide), fun _ => ⟨fun z => absurd z (show ¬ (nI 111 = nI 103) by decide), fun _ => ⟨fun z => absurd z (show ¬ (nI 111 = nI 104) by decide), fun _ => ⟨fun z => absurd z (show ¬ (nI 111 = nI 105) by decide), fun _ => ⟨fun z => absurd z (show ¬ (nI 111 = nI 106) by decide), fun _ => ⟨fun z => absurd z (show ¬ (nI 111 = nI 107) by decide), fun _ => ⟨fun z => absurd z (show ¬ (nI 111 = nI 108) by decide), fun _ => ⟨fun z => absurd z (show ¬ (nI 111 = nI 109) by decide), fun _ => ⟨fun z => absurd z (show ¬ (nI 111 = nI 110) by decide), fun _ => ⟨fun _ => ⟨rfl, _, s, ev_X1_has s 24 _ (fun _ => rfl), fun _ => rfl, fun z => absurd hh z⟩, fun z => absurd rfl z⟩⟩⟩⟩⟩⟩⟩⟩⟩⟩⟩⟩⟩⟩
  · have hL : tdg (c p) = 3 := by rw [ec]; rfl
    have d1 := (D1 (by omega)).1
    rw [V1 (by omega)] at N1
    have d2 := (D2 (by omega)).1
    rw [V2 (by omega)] at N2
    rw [V12 (by omega)] at N12
    have d3 := (D3 (by omega)).1
    rw [V3 (by omega)] at N3
    rw [V23 (by omega)] at N23
    rw [V123 (by omega)] at N123
    rw [show s 64 (100 * d + p) = nI 116 from (tch_eq r0.1 r0.2 (by decide)).mpr (by rw [← c0]; exact ec)] at AT
    rw [ec]
    unfold n_stm
    rw [if_neg (by decide), if_neg (by decide), if_neg (by decide), if_pos rfl]
    obtain ⟨s', g, es⟩ := xW_setIn (s := s) (q := 24 + 5) (a := a) (nI (10 * b + e)) (by decide) (by decide) (by omega)
    rw [l29] at g es
    by_cases h : a < 5
    · rw [if_pos h] at g es ⊢
      refine ⟨s', ⟨?_, by rw [es]; exact xr_tired hx⟩, by rw [es]; exact xth_u (by omega)⟩
      refine sg_X1_obeys_0 s 24 _ _ _ ⟨(cl_sh d hd).1, ?_⟩
      rw [e1, e2, e3]
      refine ⟨_, s, N1, _, s, N2, _, s, N3, _, s, N12, _, s, N23, _, s, AT, ?_⟩
      exact ⟨fun z => absurd z (show ¬ (nI 116 = nI 98) by decide), fun _ => ⟨fun z => absurd z (show ¬ (nI 116 = nI 99) by decide), fun _ => ⟨fun z => absurd z (show ¬ (nI 116 = nI 100) by decide), fun _ => ⟨fun z => absurd z (show ¬ (nI 116 = nI 101) by decide), fun _ => ⟨fun z => absurd z (show ¬ (nI 116 = nI 102) by decide), fun _ => ⟨fun z => absurd z (show ¬ (nI 116 = nI 103) by decide), fun _ => ⟨fun z => absurd z (show ¬ (nI 116 = nI 104) by decide), fun _ => ⟨fun z => absurd z (show ¬ (nI 116 = nI 105) by decide), fun _ => ⟨fun z => absurd z (show ¬ (nI 116 = nI 106) by decide), fun _ => ⟨fun z => absurd z (show ¬ (nI 116 = nI 107) by decide), fun _ => ⟨fun z => absurd z (show ¬ (nI 116 = nI 108) by decide), fun _ => ⟨fun z => absurd z (show ¬ (nI 116 = nI 109) by decide), fun _ => ⟨fun z => absurd z (show ¬ (nI 116 = nI 110) by decide), fun _ => ⟨fun z => absurd z (show ¬ (nI 116 = nI 111) by decide), fun _ => ⟨fun z => absurd z (show ¬ (nI 116 = nI 112) by decide), fun _ => ⟨fun z => absurd z (show ¬ (nI 116 = nI 113) by decide), fun _ => ⟨fun z => absurd z (show ¬ (nI 116 = nI 114) by decide), fun _ => ⟨fun z => absurd z (show ¬ (nI 116 = nI 115) by decide), fun _ => ⟨fun _ => ⟨rfl, _, s', g, Or.inr rfl, rfl⟩, fun z => absurd rfl z⟩⟩⟩⟩⟩⟩⟩⟩⟩⟩⟩⟩⟩⟩⟩⟩⟩⟩⟩
    · rw [if_neg h] at g es ⊢
      refine ⟨s', ?_, by rw [es]; exact fun _ _ => rfl⟩
      refine sg_X1_obeys_0 s 24 _ _ _ ⟨(cl_sh d hd).1, ?_⟩
      rw [e1, e2, e3]
      refine ⟨_, s, N1, _, s, N2, _, s, N3, _, s, N12, _, s, N23, _, s, AT, ?_⟩
      exact ⟨fun z => absurd z (show ¬ (nI 116 = nI 98) by decide), fun _ => ⟨fun z => absurd z (show ¬ (nI 116 = nI 99) by decide), fun _ => ⟨fun z => absurd z (show ¬ (nI 116 = nI 100) by decide), fun _ => ⟨fun z => absurd z (show ¬ (nI 116 = nI 101) by decide), fun _ => ⟨fun z => absurd z (show ¬ (nI 116 = nI 102) by decide), fun _ => ⟨fun z => absurd z (show ¬ (nI 116 = nI 103) by decide), fun _ => ⟨fun z => absurd z (show ¬ (nI 116 = nI 104) by decide), fun _ => ⟨fun z => absurd z (show ¬ (nI 116 = nI 105) by decide), fun _ => ⟨fun z => absurd z (show ¬ (nI 116 = nI 106) by decide), fun _ => ⟨fun z => absurd z (show ¬ (nI 116 = nI 107) by decide), fun _ => ⟨fun z => absurd z (show ¬ (nI 116 = nI 108) by decide), fun _ => ⟨fun z => absurd z (show ¬ (nI 116 = nI 109) by decide), fun _ => ⟨fun z => absurd z (show ¬ (nI 116 = nI 110) by decide), fun _ => ⟨fun z => absurd z (show ¬ (nI 116 = nI 111) by decide), fun _ => ⟨fun z => absurd z (show ¬ (nI 116 = nI 112) by decide), fun _ => ⟨fun z => absurd z (show ¬ (nI 116 = nI 113) by decide), fun _ => ⟨fun z => absurd z (show ¬ (nI 116 = nI 114) by decide), fun _ => ⟨fun z => absurd z (show ¬ (nI 116 = nI 115) by decide), fun _ => ⟨fun _ => ⟨rfl, _, s', g, Or.inl rfl, rfl⟩, fun z => absurd rfl z⟩⟩⟩⟩⟩⟩⟩⟩⟩⟩⟩⟩⟩⟩⟩⟩⟩⟩⟩
  · have hL : tdg (c p) = 2 := by rw [ec]; rfl
    have d1 := (D1 (by omega)).1
    rw [V1 (by omega)] at N1
    have d2 := (D2 (by omega)).1
    rw [V2 (by omega)] at N2
    rw [V12 (by omega)] at N12
    rw [show s 64 (100 * d + p) = nI 119 from (tch_eq r0.1 r0.2 (by decide)).mpr (by rw [← c0]; exact ec)] at AT
    rw [ec]
    unfold n_stm
    rw [if_neg (by decide), if_neg (by decide), if_neg (by decide), if_neg (by decide), if_pos rfl]
    obtain ⟨s', g, es⟩ := xW_setIn (s := s) (q := 24 + 3) (a := a) (nI b) (by decide) (by decide) (by omega)
    have hh := x_has s k0 h7 (k := a) (by omega)
    by_cases h : a < T 0 ∧ (b < 5 ∨ b = 9)
    · rw [if_pos h.1] at hh
      rw [if_pos h]
      rw [l27, if_pos (by omega)] at g es
      have w1 : f_X10_isWakerOrNobody s (nI b) = 1 := x_wn s (wn_nI h.2)
      refine ⟨s', ⟨?_, by rw [es]; exact xr_waker hx (by omega)⟩, by rw [es]; exact xth_u (by omega)⟩
      refine sg_X1_obeys_0 s 24 _ _ _ ⟨(cl_sh d hd).1, ?_⟩
      rw [e1, e2, e3]
      refine ⟨_, s, N1, _, s, N2, _, s, N3, _, s, N12, _, s, N23, _, s, AT, ?_⟩
      exact ⟨fun z => absurd z (show ¬ (nI 119 = nI 98) by decide), fun _ => ⟨fun z => absurd z (show ¬ (nI 119 = nI 99) by decide), fun _ => ⟨fun z => absurd z (show ¬ (nI 119 = nI 100) by decide), fun _ => ⟨fun z => absurd z (show ¬ (nI 119 = nI 101) by decide), fun _ => ⟨fun z => absurd z (show ¬ (nI 119 = nI 102) by decide), fun _ => ⟨fun z => absurd z (show ¬ (nI 119 = nI 103) by decide), fun _ => ⟨fun z => absurd z (show ¬ (nI 119 = nI 104) by decide), fun _ => ⟨fun z => absurd z (show ¬ (nI 119 = nI 105) by decide), fun _ => ⟨fun z => absurd z (show ¬ (nI 119 = nI 106) by decide), fun _ => ⟨fun z => absurd z (show ¬ (nI 119 = nI 107) by decide), fun _ => ⟨fun z => absurd z (show ¬ (nI 119 = nI 108) by decide), fun _ => ⟨fun z => absurd z (show ¬ (nI 119 = nI 109) by decide), fun _ => ⟨fun z => absurd z (show ¬ (nI 119 = nI 110) by decide), fun _ => ⟨fun z => absurd z (show ¬ (nI 119 = nI 111) by decide), fun _ => ⟨fun z => absurd z (show ¬ (nI 119 = nI 112) by decide), fun _ => ⟨fun z => absurd z (show ¬ (nI 119 = nI 113) by decide), fun _ => ⟨fun z => absurd z (show ¬ (nI 119 = nI 114) by decide), fun _ => ⟨fun z => absurd z (show ¬ (nI 119 = nI 115) by decide), fun _ => ⟨fun z => absurd z (show ¬ (nI 119 = nI 116) by decide), fun _ => ⟨fun z => absurd z (show ¬ (nI 119 = nI 117) by decide), fun _ => ⟨fun z => absurd z (show ¬ (nI 119 = nI 118) by decide), fun _ => ⟨fun _ => ⟨rfl, _, s, ev_X1_has s 24 _ (fun _ => rfl), fun z => absurd (hh.symm.trans z) (by decide), fun _ => ⟨_, s, ev_X10_isWakerOrNobody s _, fun z => absurd (w1.symm.trans z) (by decide), fun _ => ⟨_, s', g, fun z => absurd z (by decide), fun _ => rfl⟩⟩⟩, fun z => absurd rfl z⟩⟩⟩⟩⟩⟩⟩⟩⟩⟩⟩⟩⟩⟩⟩⟩⟩⟩⟩⟩⟩⟩
    · rw [if_neg h]
      refine ⟨s, ?_, fun _ _ => rfl⟩
      by_cases h1 : a < T 0
      · rw [if_pos h1] at hh
        have w0 : f_X10_isWakerOrNobody s (nI b) = 0 := x_wnf s (nwn_nI (by omega) (fun z => h ⟨h1, z⟩))
        refine sg_X1_obeys_0 s 24 _ _ _ ⟨(cl_sh d hd).1, ?_⟩
        rw [e1, e2, e3]
        refine ⟨_, s, N1, _, s, N2, _, s, N3, _, s, N12, _, s, N23, _, s, AT, ?_⟩
        exact ⟨fun z => absurd z (show ¬ (nI 119 = nI 98) by decide), fun _ => ⟨fun z => absurd z (show ¬ (nI 119 = nI 99) by decide), fun _ => ⟨fun z => absurd z (show ¬ (nI 119 = nI 100) by decide), fun _ => ⟨fun z => absurd z (show ¬ (nI 119 = nI 101) by decide), fun _ => ⟨fun z => absurd z (show ¬ (nI 119 = nI 102) by decide), fun _ => ⟨fun z => absurd z (show ¬ (nI 119 = nI 103) by decide), fun _ => ⟨fun z => absurd z (show ¬ (nI 119 = nI 104) by decide), fun _ => ⟨fun z => absurd z (show ¬ (nI 119 = nI 105) by decide), fun _ => ⟨fun z => absurd z (show ¬ (nI 119 = nI 106) by decide), fun _ => ⟨fun z => absurd z (show ¬ (nI 119 = nI 107) by decide), fun _ => ⟨fun z => absurd z (show ¬ (nI 119 = nI 108) by decide), fun _ => ⟨fun z => absurd z (show ¬ (nI 119 = nI 109) by decide), fun _ => ⟨fun z => absurd z (show ¬ (nI 119 = nI 110) by decide), fun _ => ⟨fun z => absurd z (show ¬ (nI 119 = nI 111) by decide), fun _ => ⟨fun z => absurd z (show ¬ (nI 119 = nI 112) by decide), fun _ => ⟨fun z => absurd z (show ¬ (nI 119 = nI 113) by decide), fun _ => ⟨fun z => absurd z (show ¬ (nI 119 = nI 114) by decide), fun _ => ⟨fun z => absurd z (show ¬ (nI 119 = nI 115) by decide), fun _ => ⟨fun z => absurd z (show ¬ (nI 119 = nI 116) by decide), fun _ => ⟨fun z => absurd z (show ¬ (nI 119 = nI 117) by decide), fun _ => ⟨fun z => absurd z (show ¬ (nI 119 = nI 118) by decide), fun _ => ⟨fun _ => ⟨rfl, _, s, ev_X1_has s 24 _ (fun _ => rfl), fun z => absurd (hh.symm.trans z) (by decide), fun _ => ⟨_, s, ev_X10_isWakerOrNobody s _, fun _ => rfl, fun z => absurd w0 z⟩⟩, fun z => absurd rfl z⟩⟩⟩⟩⟩⟩⟩⟩⟩⟩⟩⟩⟩⟩⟩⟩⟩⟩⟩⟩⟩⟩
      · rw [if_neg h1] at hh
        refine sg_X1_obeys_0 s 24 _ _ _ ⟨(cl_sh d hd).1, ?_⟩
        rw [e1, e2, e3]
        refine ⟨_, s, N1, _, s, N2, _, s, N3, _, s, N12, _, s, N23, _, s, AT, ?_⟩
        exact ⟨fun z => absurd z (show ¬ (nI 119 = nI 98) by decide), fun _ => ⟨fun z => absurd z (show ¬ (nI 119 = nI 99) by decide), fun _ => ⟨fun z => absurd z (show ¬ (nI 119 = nI 100) by decide), fun _ => ⟨fun z => absurd z (show ¬ (nI 119 = nI 101) by decide), fun _ => ⟨fun z => absurd z (show ¬ (nI 119 = nI 102) by decide), fun _ => ⟨fun z => absurd z (show ¬ (nI 119 = nI 103) by decide), fun _ => ⟨fun z => absurd z (show ¬ (nI 119 = nI 104) by decide), fun _ => ⟨fun z => absurd z (show ¬ (nI 119 = nI 105) by decide), fun _ => ⟨fun z => absurd z (show ¬ (nI 119 = nI 106) by decide), fun _ => ⟨fun z => absurd z (show ¬ (nI 119 = nI 107) by decide), fun _ => ⟨fun z => absurd z (show ¬ (nI 119 = nI 108) by decide), fun _ => ⟨fun z => absurd z (show ¬ (nI 119 = nI 109) by decide), fun _ => ⟨fun z => absurd z (show ¬ (nI 119 = nI 110) by decide), fun _ => ⟨fun z => absurd z (show ¬ (nI 119 = nI 111) by decide), fun _ => ⟨fun z => absurd z (show ¬ (nI 119 = nI 112) by decide), fun _ => ⟨fun z => absurd z (show ¬ (nI 119 = nI 113) by decide), fun _ => ⟨fun z => absurd z (show ¬ (nI 119 = nI 114) by decide), fun _ => ⟨fun z => absurd z (show ¬ (nI 119 = nI 115) by decide), fun _ => ⟨fun z => absurd z (show ¬ (nI 119 = nI 116) by decide), fun _ => ⟨fun z => absurd z (show ¬ (nI 119 = nI 117) by decide), fun _ => ⟨fun z => absurd z (show ¬ (nI 119 = nI 118) by decide), fun _ => ⟨fun _ => ⟨rfl, _, s, ev_X1_has s 24 _ (fun _ => rfl), fun _ => rfl, fun z => absurd hh z⟩, fun z => absurd rfl z⟩⟩⟩⟩⟩⟩⟩⟩⟩⟩⟩⟩⟩⟩⟩⟩⟩⟩⟩⟩⟩⟩
  · have hL : tdg (c p) = 1 := by rw [ec]; rfl
    have d1 := (D1 (by omega)).1
    rw [V1 (by omega)] at N1
    rw [show s 64 (100 * d + p) = nI 122 from (tch_eq r0.1 r0.2 (by decide)).mpr (by rw [← c0]; exact ec)] at AT
    rw [ec]
    unfold n_stm
    rw [if_neg (by decide), if_neg (by decide), if_neg (by decide), if_neg (by decide), if_neg (by decide), if_pos rfl]
    by_cases h : a < 5
    · rw [if_pos h]
      have g : mm_Ev mm_m_X1_turnsOver [.ref 24, .int (nI a)] s (some (.int 1)) (mm_u s 24 7 (nI (T 3 ^^^ 2 ^ a))) := by
        refine sg_X1_turnsOver_0 s 24 _ _ ⟨_, s, ev_X10_isWaker s _, ?_⟩
        rw [x_wk s h]
        refine g1b ⟨rfl, fun σ6 e6 => ?_⟩
        rw [e6, hx.2.2.2.1, n_xor _ wf.2.2.2.1 a h]
      refine ⟨_, ⟨?_, xr_asleep hx⟩, xth_u (by omega)⟩
      refine sg_X1_obeys_0 s 24 _ _ _ ⟨(cl_sh d hd).1, ?_⟩
      rw [e1, e2, e3]
      refine ⟨_, s, N1, _, s, N2, _, s, N3, _, s, N12, _, s, N23, _, s, AT, ?_⟩
      exact ⟨fun z => absurd z (show ¬ (nI 122 = nI 98) by decide), fun _ => ⟨fun z => absurd z (show ¬ (nI 122 = nI 99) by decide), fun _ => ⟨fun z => absurd z (show ¬ (nI 122 = nI 100) by decide), fun _ => ⟨fun z => absurd z (show ¬ (nI 122 = nI 101) by decide), fun _ => ⟨fun z => absurd z (show ¬ (nI 122 = nI 102) by decide), fun _ => ⟨fun z => absurd z (show ¬ (nI 122 = nI 103) by decide), fun _ => ⟨fun z => absurd z (show ¬ (nI 122 = nI 104) by decide), fun _ => ⟨fun z => absurd z (show ¬ (nI 122 = nI 105) by decide), fun _ => ⟨fun z => absurd z (show ¬ (nI 122 = nI 106) by decide), fun _ => ⟨fun z => absurd z (show ¬ (nI 122 = nI 107) by decide), fun _ => ⟨fun z => absurd z (show ¬ (nI 122 = nI 108) by decide), fun _ => ⟨fun z => absurd z (show ¬ (nI 122 = nI 109) by decide), fun _ => ⟨fun z => absurd z (show ¬ (nI 122 = nI 110) by decide), fun _ => ⟨fun z => absurd z (show ¬ (nI 122 = nI 111) by decide), fun _ => ⟨fun z => absurd z (show ¬ (nI 122 = nI 112) by decide), fun _ => ⟨fun z => absurd z (show ¬ (nI 122 = nI 113) by decide), fun _ => ⟨fun z => absurd z (show ¬ (nI 122 = nI 114) by decide), fun _ => ⟨fun z => absurd z (show ¬ (nI 122 = nI 115) by decide), fun _ => ⟨fun z => absurd z (show ¬ (nI 122 = nI 116) by decide), fun _ => ⟨fun z => absurd z (show ¬ (nI 122 = nI 117) by decide), fun _ => ⟨fun z => absurd z (show ¬ (nI 122 = nI 118) by decide), fun _ => ⟨fun z => absurd z (show ¬ (nI 122 = nI 119) by decide), fun _ => ⟨fun z => absurd z (show ¬ (nI 122 = nI 120) by decide), fun _ => ⟨fun z => absurd z (show ¬ (nI 122 = nI 121) by decide), fun _ => ⟨fun _ => ⟨rfl, _, _, g, Or.inr rfl, rfl⟩, fun z => absurd rfl z⟩⟩⟩⟩⟩⟩⟩⟩⟩⟩⟩⟩⟩⟩⟩⟩⟩⟩⟩⟩⟩⟩⟩⟩⟩
    · rw [if_neg h]
      have g : mm_Ev mm_m_X1_turnsOver [.ref 24, .int (nI a)] s (some (.int 0)) s := by
        refine sg_X1_turnsOver_0 s 24 _ _ ⟨_, s, ev_X10_isWaker s _, ?_⟩
        rw [x_wkf s (nv5 (by omega) h)]
        exact g0b rfl
      refine ⟨s, ?_, fun _ _ => rfl⟩
      refine sg_X1_obeys_0 s 24 _ _ _ ⟨(cl_sh d hd).1, ?_⟩
      rw [e1, e2, e3]
      refine ⟨_, s, N1, _, s, N2, _, s, N3, _, s, N12, _, s, N23, _, s, AT, ?_⟩
      exact ⟨fun z => absurd z (show ¬ (nI 122 = nI 98) by decide), fun _ => ⟨fun z => absurd z (show ¬ (nI 122 = nI 99) by decide), fun _ => ⟨fun z => absurd z (show ¬ (nI 122 = nI 100) by decide), fun _ => ⟨fun z => absurd z (show ¬ (nI 122 = nI 101) by decide), fun _ => ⟨fun z => absurd z (show ¬ (nI 122 = nI 102) by decide), fun _ => ⟨fun z => absurd z (show ¬ (nI 122 = nI 103) by decide), fun _ => ⟨fun z => absurd z (show ¬ (nI 122 = nI 104) by decide), fun _ => ⟨fun z => absurd z (show ¬ (nI 122 = nI 105) by decide), fun _ => ⟨fun z => absurd z (show ¬ (nI 122 = nI 106) by decide), fun _ => ⟨fun z => absurd z (show ¬ (nI 122 = nI 107) by decide), fun _ => ⟨fun z => absurd z (show ¬ (nI 122 = nI 108) by decide), fun _ => ⟨fun z => absurd z (show ¬ (nI 122 = nI 109) by decide), fun _ => ⟨fun z => absurd z (show ¬ (nI 122 = nI 110) by decide), fun _ => ⟨fun z => absurd z (show ¬ (nI 122 = nI 111) by decide), fun _ => ⟨fun z => absurd z (show ¬ (nI 122 = nI 112) by decide), fun _ => ⟨fun z => absurd z (show ¬ (nI 122 = nI 113) by decide), fun _ => ⟨fun z => absurd z (show ¬ (nI 122 = nI 114) by decide), fun _ => ⟨fun z => absurd z (show ¬ (nI 122 = nI 115) by decide), fun _ => ⟨fun z => absurd z (show ¬ (nI 122 = nI 116) by decide), fun _ => ⟨fun z => absurd z (show ¬ (nI 122 = nI 117) by decide), fun _ => ⟨fun z => absurd z (show ¬ (nI 122 = nI 118) by decide), fun _ => ⟨fun z => absurd z (show ¬ (nI 122 = nI 119) by decide), fun _ => ⟨fun z => absurd z (show ¬ (nI 122 = nI 120) by decide), fun _ => ⟨fun z => absurd z (show ¬ (nI 122 = nI 121) by decide), fun _ => ⟨fun _ => ⟨rfl, _, _, g, Or.inl rfl, rfl⟩, fun z => absurd rfl z⟩⟩⟩⟩⟩⟩⟩⟩⟩⟩⟩⟩⟩⟩⟩⟩⟩⟩⟩⟩⟩⟩⟩⟩⟩
