/-! rows of a SHELF; what BAGS are left -/
def rowOf (σ : mm_Sg) (d s n : Nat) : Prop := σ (32 + 2 * d) 0 = 2 ∧ σ 59 d = 2 ∧ s < 3 ∧ n ≤ 100 ∧ σ (32 + 2 * d) 3 = nI s ∧ σ 62 d = nI s ∧ σ (32 + 2 * d) 4 = nI n ∧ σ 63 d = nI n ∧ (∀ i, i < 100 → σ (33 + 2 * d) i = σ 64 (100 * d + i)) ∧ (s = 0 → ∀ i, i < 100 → -128 ≤ (σ 64 (100 * d + i)).toInt ∧ (σ 64 (100 * d + i)).toInt ≤ 127)
theorem rowOf_same {σ σ' : mm_Sg} {d s n : Nat} (h : rowOf σ d s n) (h0 : σ' (32 + 2 * d) = σ (32 + 2 * d)) (h1 : σ' (33 + 2 * d) = σ (33 + 2 * d)) (h2 : ∀ q, 59 ≤ q → q ≤ 64 → σ' q = σ q) : rowOf σ' d s n := by
  unfold rowOf
  rw [h0, h1, h2 59 (by omega) (by omega), h2 62 (by omega) (by omega), h2 63 (by omega) (by omega), h2 64 (by omega) (by omega)]
  exact h
theorem rowOf.xq {σ σ' : mm_Sg} {d s n : Nat} (h : rowOf σ d s n) (hd : d < 8) (t : XQ σ σ') : rowOf σ' d s n := rowOf_same h (t _ (by omega) (by omega)) (t _ (by omega) (by omega)) (fun q _ _ => t q (by omega) (by omega))
theorem rowOf.mth {σ σ' : mm_Sg} {d s n : Nat} (h : rowOf σ d s n) (hd : d < 8) (t : mTh σ σ') : rowOf σ' d s n := rowOf_same h (t _ (by omega) (by omega)) (t _ (by omega) (by omega)) (fun q _ _ => t q (by omega) (by omega))
theorem cl_sh : ∀ d, d < 8 → mm_cl (32 + 2 * d) = 8 ∧ mm_len (33 + 2 * d) = 100 := by decide +kernel
theorem ev_RU (σ : mm_Sg) (w x : Int32) : mm_Ev mm_m_X10_refusalUnless [.ref 0, .int w, .int x] σ (some (.int (f_X10_refusalUnless σ 0 w x))) σ := by
  by_cases h : vp_in x 8
  · obtain ⟨d, hd, rfl⟩ := vp_in_of h (by decide)
    exact ev_X10_refusalUnless σ w (nI d) (fun _ => h) (fun _ => by rw [nI_clamp (by omega)]; exact (cl_sh d hd).1)
  · exact ev_X10_refusalUnless σ w x (fun z => absurd (x_shf σ h) z) (fun z => absurd (x_shf σ h) z)
theorem ev_WR (σ : mm_Sg) (x o : Int32) : mm_Ev mm_m_X11_wrongRow [.ref 51, .int x, .int o] σ (some (.int (f_X11_wrongRow σ 51 x o))) σ := by
  by_cases h : vp_in x 8
  · exact ev_X11_wrongRow σ x o (fun _ => h) (fun _ _ _ _ => h)
  · exact ev_X11_wrongRow σ x o (fun z => absurd (m_shf σ h) z) (fun z => absurd (m_shf σ h) z)
theorem row_c {σ : mm_Sg} (hs : ∀ d, d < 8 → shv σ d) (x : Int32) : (∃ d s n, d < 8 ∧ x = nI d ∧ rowOf σ d s n ∧ f_X10_refusalUnless σ 0 2 x = 0 ∧ f_X11_wrongRow σ 51 x (-1) = 0) ∨ ∃ v : Int32, ¬ v = 0 ∧ f_X10_refusalUnless σ 0 2 x = v ∧ f_X11_wrongRow σ 51 x (-1) = v := by
  by_cases h : vp_in x 8
  · obtain ⟨d, hd, rfl⟩ := vp_in_of h (by decide)
    obtain ⟨q, q2, a, b, -, c2⟩ := hs d hd
    have ex : f_X10_refusalUnless σ 0 2 (nI d) = if ¬ nI q = (0 : Int32) then (if ¬ nI q = (2 : Int32) then (-12 : Int32) else (0 : Int32)) else (-11 : Int32) := by
      unfold f_X10_refusalUnless
      rw [x_sh σ hd, if_pos (by decide), nI_clamp (by omega), a]
    have em : f_X11_wrongRow σ 51 (nI d) (-1) = if ¬ nI q = (0 : Int32) then (if ¬ nI q = (2 : Int32) then (-12 : Int32) else (0 : Int32)) else (-11 : Int32) := by
      unfold f_X11_wrongRow
      rw [m_sh σ hd, if_pos (by decide), nI_clamp (by omega), b, if_pos (show (-1 : Int32) < 0 by decide)]
    rcases (show q = 0 ∨ q = 1 ∨ q = 2 by omega) with rfl | rfl | rfl
    · exact Or.inr ⟨-11, by decide, ex, em⟩
    · exact Or.inr ⟨-12, by decide, ex, em⟩
    · obtain ⟨s, n, p1, p2, p3, p4, p5, p6, p7, p8⟩ := c2 rfl
      exact Or.inl ⟨d, s, n, hd, rfl, ⟨a, b, p1, p2, p3, p4, p5, p6, p7, p8⟩, ex, em⟩
  · refine Or.inr ⟨-1, by decide, ?_, ?_⟩
    · unfold f_X10_refusalUnless
      rw [x_shf σ h]
      rfl
    · unfold f_X11_wrongRow
      rw [m_shf σ h]
      rfl
def tld (e l v : Int32) : Bool := decide (e = v ∨ e = l)
def lst (s : Nat) : Int32 := if s = 0 then -128 else if s = 1 then -32768 else -2147483648
theorem x_lst {σ : mm_Sg} {d s n : Nat} (h : rowOf σ d s n) : f_X8_leastOfSort σ (32 + 2 * d) = lst s := by
  unfold f_X8_leastOfSort
  rw [h.2.2.2.2.1]
  rcases (show s = 0 ∨ s = 1 ∨ s = 2 by have := h.2.2.1; omega) with rfl | rfl | rfl <;> rfl
theorem m_lst {σ : mm_Sg} {s : Nat} (h : s < 3) : f_X11_leastOf σ (nI s) = lst s := by
  unfold f_X11_leastOf
  rcases (show s = 0 ∨ s = 1 ∨ s = 2 by omega) with rfl | rfl | rfl <;> rfl
theorem x_hp {σ : mm_Sg} {d s n i : Nat} (h : rowOf σ d s n) (hi : i < n) : f_X8_hasPlace σ (32 + 2 * d) (nI i) = 1 := by
  have h4 := h.2.2.2.1
  unfold f_X8_hasPlace
  rw [if_neg (nI_pos (by omega)), h.2.2.2.2.2.2.1, if_neg (nI_ge hi (by omega)), if_neg (show ¬ (100 : Int32) ≤ nI i from nI_ge (b := 100) (by omega) (by decide))]
theorem x_at {σ : mm_Sg} {d s n i : Nat} (h : rowOf σ d s n) (hi : i < n) : f_X8_at σ (32 + 2 * d) (nI i) = σ 64 (100 * d + i) := by
  have h4 := h.2.2.2.1
  unfold f_X8_at
  rw [x_hp h hi, if_neg (by decide), nI_clamp (by omega), show 32 + 2 * d + 1 = 33 + 2 * d by omega, h.2.2.2.2.2.2.2.2.1 i (by omega)]
theorem x_tld {σ : mm_Sg} {d s n i : Nat} (v : Int32) (h : rowOf σ d s n) (hd : d < 8) (hi : i < n) : mm_Ev mm_m_X8_allows [.ref (32 + 2 * d), .int (nI i), .int v] σ (some (.int (if tld (σ 64 (100 * d + i)) (lst s) v = true then 1 else 0))) σ := by
  have h4 := h.2.2.2.1
  have e : f_X8_allows σ (32 + 2 * d) (nI i) v = if tld (σ 64 (100 * d + i)) (lst s) v = true then 1 else 0 := by
    unfold f_X8_allows tld
    rw [x_at h hi, x_lst h]
    by_cases a : σ 64 (100 * d + i) = v
    · rw [if_pos a, if_pos (by simp [a])]
    · rw [if_neg a]
      by_cases b : σ 64 (100 * d + i) = lst s
      · rw [if_neg (fun z => z b), if_pos (by simp [b])]
      · rw [if_pos b, if_neg (by simp [a, b])]
  rw [← e]
  have p : vp_in (nI i) (mm_len (32 + 2 * d + 1)) := by rw [show 32 + 2 * d + 1 = 33 + 2 * d by omega, (cl_sh d hd).2]; exact v_in (by omega) (by decide)
  exact ev_X8_allows σ _ _ _ (cl_sh d hd).1 (fun _ => p) (fun _ _ => p)
theorem n_hund {d i : Nat} : ((100 : Int32) * nI d) + nI i = nI (100 * d + i) := by rw [show (100 : Int32) = nI 100 from rfl, pk_mul, nI_add]
theorem m_tld {σ : mm_Sg} {d s n i : Nat} (v : Int32) (h : rowOf σ d s n) (hd : d < 8) (hi : i < n) : mm_Ev mm_m_X11_isTold [.ref 51, .int (nI d), .int (nI i), .int v] σ (some (.int (if tld (σ 64 (100 * d + i)) (lst s) v = true then 1 else 0))) σ := by
  have h4 := h.2.2.2.1
  have e : f_X11_isTold σ 51 (nI d) (nI i) v = if tld (σ 64 (100 * d + i)) (lst s) v = true then 1 else 0 := by
    unfold f_X11_isTold tld
    rw [n_hund, nI_clamp (by omega), nI_clamp (by omega), h.2.2.2.2.2.1, m_lst h.2.2.1]
    by_cases b : σ 64 (100 * d + i) = lst s
    · rw [if_pos b, if_pos (by simp [b])]
    · rw [if_neg b]
      by_cases a : σ 64 (100 * d + i) = v
      · rw [if_neg (fun z => z a), if_pos (by simp [a])]
      · rw [if_pos a, if_neg (by simp [a, b])]
  rw [← e]
  exact ev_X11_isTold σ _ _ _ (by rw [n_hund]; exact v_in (N := 800) (by omega) (by decide)) (v_in (N := 8) hd (by decide))
/-- the same people of the same KINDS -/
def n_sta (R T : Nat → Nat) : Prop := T 0 = R 0 ∧ T 4 = R 4 ∧ T 5 = R 5 ∧ ∀ k, k < 7 → T (7 + 4 * k) = R (7 + 4 * k) ∧ T (8 + 4 * k) = R (8 + 4 * k)
def n_free (i : Nat) : Prop := i ≠ 0 ∧ i ≠ 4 ∧ i ≠ 5 ∧ ∀ k, k < 7 → i ≠ 7 + 4 * k ∧ i ≠ 8 + 4 * k
theorem n_sta_up {R T : Nat → Nat} {i v : Nat} (h : n_sta R T) (hi : n_free i) : n_sta R (nup T i v) := by
  obtain ⟨a, b, c, d⟩ := hi
  refine ⟨by rw [nup_o T (Ne.symm a)]; exact h.1, by rw [nup_o T (Ne.symm b)]; exact h.2.1, by rw [nup_o T (Ne.symm c)]; exact h.2.2.1, fun k hk => ?_⟩
  have := d k hk
  rw [nup_o T (Ne.symm this.1), nup_o T (Ne.symm this.2)]
  exact h.2.2.2 k hk
theorem n_fr3 : n_free 3 := ⟨by decide, by decide, by decide, fun k _ => by omega⟩
theorem n_fr2 : n_free 2 := ⟨by decide, by decide, by decide, fun k _ => by omega⟩
theorem n_fr1 : n_free 1 := ⟨by decide, by decide, by decide, fun k _ => by omega⟩
theorem n_fr35 {w : Nat} : n_free (35 + w) := ⟨by omega, by omega, by omega, fun k _ => by omega⟩
theorem n_fr10 {k : Nat} : n_free (10 + 4 * k) := ⟨by omega, by omega, by omega, fun k _ => by omega⟩
theorem n_sta_rf (R : Nat → Nat) : n_sta R R := ⟨rfl, rfl, rfl, fun _ _ => ⟨rfl, rfl⟩⟩
theorem n_sta_tr {R S T : Nat → Nat} (h : n_sta R S) (h2 : n_sta S T) : n_sta R T := ⟨h2.1.trans h.1, h2.2.1.trans h.2.1, h2.2.2.1.trans h.2.2.1, fun k hk => ⟨(h2.2.2.2 k hk).1.trans (h.2.2.2 k hk).1, (h2.2.2.2 k hk).2.trans (h.2.2.2 k hk).2⟩⟩
theorem n_it_ind {f : (Nat → Nat) → Nat → (Nat → Nat)} {N : Nat} {R : Nat → Nat} (Q : Nat → (Nat → Nat) → Prop) (h0 : Q 0 R) (hs : ∀ k T, k < N → Q k T → Q (k + 1) (f T k)) : ∀ n, n ≤ N → Q n (n_it f n R)
  | 0, _ => h0
  | n + 1, hn => hs n _ (by omega) (n_it_ind Q h0 hs n (by omega))
theorem n_wake_k {R T : Nat → Nat} {w d b : Nat} (h : n_sta R T ∧ T 1 = d ∧ T 2 = b) (hw : w < 5) : n_sta R (n_wake T w) ∧ n_wake T w 1 = d ∧ n_wake T w 2 = b := by
  unfold n_wake
  split
  · exact h
  · split
    · exact ⟨n_sta_up (n_sta_up h.1 n_fr35) n_fr3, by rw [nup_o _ (by omega), nup_o _ (by omega)]; exact h.2.1, by rw [nup_o _ (by omega), nup_o _ (by omega)]; exact h.2.2⟩
    · exact ⟨n_sta_up h.1 n_fr35, by rw [nup_o _ (by omega)]; exact h.2.1, by rw [nup_o _ (by omega)]; exact h.2.2⟩
theorem n_lie_k {R T : Nat → Nat} {w d b : Nat} (h : n_sta R T ∧ T 1 = d ∧ T 2 = b) (hw : w < 5) : n_sta R (n_lie T w) ∧ n_lie T w 1 = d ∧ n_lie T w 2 = b := by
  unfold n_lie
  split
  · split
    · exact ⟨n_sta_up h.1 n_fr3, by rw [nup_o _ (by omega)]; exact h.2.1, by rw [nup_o _ (by omega)]; exact h.2.2⟩
    · exact ⟨n_sta_up h.1 n_fr35, by rw [nup_o _ (by omega)]; exact h.2.1, by rw [nup_o _ (by omega)]; exact h.2.2⟩
  · exact h
theorem n_drink_k {R T : Nat → Nat} {k d b : Nat} (h : n_sta R T ∧ T 1 = d ∧ T 2 = b) : n_sta R (n_drink T k) ∧ n_drink T k 1 = d ∧ n_drink T k 2 = b - n_cups T k := by
  unfold n_drink
  split
  · exact ⟨n_sta_up (n_sta_up h.1 n_fr2) n_fr35, by rw [nup_o _ (by omega), nup_o _ (by omega)]; exact h.2.1, by rw [nup_o _ (by omega), nup_s, h.2.2]⟩
  · exact ⟨n_sta_up (n_sta_up h.1 n_fr2) n_fr10, by rw [nup_o _ (by omega), nup_o _ (by omega)]; exact h.2.1, by rw [nup_o _ (by omega), nup_s, h.2.2]⟩
def n_want (R : Nat → Nat) (d k : Nat) : Nat := n_dr (R (7 + 4 * k)) (R (8 + 4 * k)) d
def n_wish (R : Nat → Nat) (d : Nat) : Nat := n_sum (n_want R d) (R 0)
def n_wishes (R : Nat → Nat) (n : Nat) : Nat := n_sum (fun i => n_wish R (R 1 + (i + 1))) n
theorem n_cups_p {R T : Nat → Nat} {k : Nat} (h : n_sta R T) (r4 : R 4 = 0) (r5 : R 5 = 0) (hk : k < 7) : n_cups T k = min (n_want R (T 1) k) (T 2) := by
  have h2 := h.2.2.2 k hk
  unfold n_cups n_want
  rw [h.2.1, h.2.2.1, r4, r5, h2.1, h2.2]
  simp
theorem n_day_k {D : Nat} {R : Nat → Nat} (wf : n_wf D R) (r4 : R 4 = 0) (r5 : R 5 = 0) : n_sta R (n_day R) ∧ n_day R 1 = R 1 + 1 ∧ n_day R 2 = R 2 - n_wish R (R 1 + 1) := by
  have dawn : n_sta R (n_dawn R) ∧ n_dawn R 1 = R 1 + 1 ∧ n_dawn R 2 = R 2 := n_it_ind (N := 5) (fun _ T => n_sta R T ∧ T 1 = R 1 + 1 ∧ T 2 = R 2) ⟨n_sta_up (n_sta_rf R) n_fr1, by rw [nup_s], by rw [nup_o _ (by omega)]⟩ (fun k T hk h => n_wake_k h hk) 5 (Nat.le_refl _)
  have noon : n_sta R (n_noon R) ∧ n_noon R 1 = R 1 + 1 ∧ n_noon R 2 = R 2 - n_wish R (R 1 + 1) := by
    unfold n_noon
    rw [dawn.1.1]
    have h7 := wf.1
    exact n_it_ind (N := 7) (fun k T => n_sta R T ∧ T 1 = R 1 + 1 ∧ T 2 = R 2 - n_sum (n_want R (R 1 + 1)) k) ⟨dawn.1, dawn.2.1, dawn.2.2⟩ (fun k T hk h => by
      have := n_drink_k (k := k) h
      refine ⟨this.1, this.2.1, ?_⟩
      rw [this.2.2, n_cups_p h.1 r4 r5 hk, h.2.1, h.2.2]
      show _ = R 2 - (n_sum (n_want R (R 1 + 1)) k + n_want R (R 1 + 1) k)
      omega) (R 0) h7
  exact n_it_ind (N := 5) (fun _ T => n_sta R T ∧ T 1 = R 1 + 1 ∧ T 2 = R 2 - n_wish R (R 1 + 1)) noon (fun k T hk h => n_lie_k h hk) 5 (Nat.le_refl _)
theorem n_sum_eq {f g : Nat → Nat} : ∀ n, (∀ k, k < n → f k = g k) → n_sum f n = n_sum g n
  | 0, _ => rfl
  | n + 1, h => by
    unfold n_sum
    rw [n_sum_eq n (fun k hk => h k (by omega)), h n (by omega)]
theorem n_wish_sta {R T : Nat → Nat} {d : Nat} (h : n_sta R T) (h7 : R 0 ≤ 7) : n_wish T d = n_wish R d := by
  unfold n_wish
  rw [h.1]
  exact n_sum_eq _ (fun k hk => by
    have := h.2.2.2 k (by omega)
    unfold n_want
    rw [this.1, this.2])
theorem n_days_k {D : Nat} {R : Nat → Nat} (wf : n_wf D R) (r4 : R 4 = 0) (r5 : R 5 = 0) : ∀ n, n_sta R (n_days n R) ∧ n_days n R 1 = R 1 + n ∧ n_days n R 2 = R 2 - n_wishes R n
  | 0 => ⟨n_sta_rf R, rfl, rfl⟩
  | n + 1 => by
    obtain ⟨a, b, c⟩ := n_days_k wf r4 r5 n
    obtain ⟨a2, b2, c2⟩ := n_day_k (n_wf_days wf n) (a.2.1.trans r4) (a.2.2.1.trans r5)
    refine ⟨n_sta_tr a a2, ?_, ?_⟩
    · show n_day (n_days n R) 1 = _
      rw [b2, b]; omega
    · show n_day (n_days n R) 2 = R 2 - (n_wishes R n + n_wish R (R 1 + (n + 1)))
      rw [c2, b, c, n_wish_sta a wf.1, Nat.add_assoc]
      omega
theorem n_bagged {D : Nat} {R : Nat → Nat} (wf : n_wf D R) (r4 : R 4 = 0) (r5 : R 5 = 0) {b : Nat} (hb : b ≤ 999) (n : Nat) : n_days n (nup R 2 b) 2 = b - n_wishes R n := by
  have := (n_days_k (n_wf_bags wf hb) (by rw [nup_o _ (by omega)]; exact r4) (by rw [nup_o _ (by omega)]; exact r5) n).2.2
  rw [this, nup_s]
  congr 1
  exact n_sum_eq _ (fun k _ => by
    rw [nup_o _ (by omega)]
    exact n_wish_sta (n_sta_up (n_sta_rf R) n_fr2) wf.1)
theorem n_wish_le {D : Nat} {R : Nat → Nat} (wf : n_wf D R) (d : Nat) : n_wish R d ≤ 84 := by
  have h7 := wf.1
  have := n_sum_le' (f := n_want R d) (B := 12) (R 0) (fun k hk => n_dr_le (wf.2.2.2.2.2.2.2.1 k (by omega)).2.1)
  unfold n_wish
  omega
theorem n_wishes_le {D : Nat} {R : Nat → Nat} (wf : n_wf D R) (n : Nat) : n_wishes R n ≤ n * 84 := n_sum_le (fun k => n_wish_le wf _) n
theorem xW_thirst {σ : mm_Sg} {R : Nat → Nat} {k d : Nat} (hx : xr σ 10 R) (wf : n_wf 999 R) (hk : k < R 0) (hd : d < 2 ^ 30) : mm_Ev mm_m_X1_thirstOf [.ref 10, .int (nI k), .int (nI d)] σ (some (.int (nI (n_want R d k)))) σ := by
  have h7 := wf.1
  obtain ⟨k1, k2, -, -⟩ := wf.2.2.2.2.2.2.2.1 k (by omega)
  obtain ⟨e1, e2, -, -⟩ := hx.2.2.2.2.2.2.2.1 k (by omega)
  refine sg_X1_thirstOf_0 σ 10 _ _ _ ⟨rfl, _, σ, ev_X1_has σ 10 _ (fun _ => rfl), ?_⟩
  rw [x_has σ hx.1 wf.1 (by omega), if_pos hk]
  refine g1a ⟨v_in (N := 7) (by omega) (by decide), 2 + R (7 + 4 * k), σ, ?_, v_in (N := 7) (by omega) (by decide), nI (n_want R d k), σ, ?_, rfl⟩
  · rw [nI_clamp (by omega), e1]
    exact ev_kn σ (c := 10) (Or.inl rfl) k1
  · rw [nI_clamp (by omega), e2]
    unfold n_want
    rw [← x_dr σ k1 k2 hd]
    exact ev_D0 σ _ _ _ (by omega)
theorem xW_thirsts {σ : mm_Sg} {R : Nat → Nat} {d : Nat} (hx : xr σ 10 R) (wf : n_wf 999 R) (hd : d < 2 ^ 30) : mm_Ev mm_m_X1_thirstOfAll [.ref 10, .int (nI d)] σ (some (.int (nI (n_wish R d)))) σ := by
  have h7 := wf.1
  obtain ⟨-, -, g⟩ := mm_run (M := mm_m_X1_thirstOfAll) (α := Unit) (fun j _ => (4, [.ref 10, .int (nI d), .int (nI (n_sum (n_want R d) j)), .int (nI j)], [], σ)) (R 0) (fun _ _ => True)
    (fun j _ hj _ => ⟨(), trivial, fun X hX => sg_X1_thirstOfAll_4 σ 10 _ _ _ X ⟨rfl, fun z => absurd (by rw [hx.1] at z; exact z) (nI_ge hj (by omega)), fun _ => ⟨_, σ, xW_thirst hx wf hj hd, by rw [nI_add, nI_1]; exact hX⟩⟩⟩)
    (R 0) 0 () (by omega) trivial
  exact sg_X1_thirstOfAll_0 σ 10 _ _ (g _ (sg_X1_thirstOfAll_4 σ 10 _ _ _ _ ⟨rfl, fun _ => rfl, fun z => absurd (by rw [hx.1]; exact nI_le (Nat.le_refl _) (by omega)) z⟩))
