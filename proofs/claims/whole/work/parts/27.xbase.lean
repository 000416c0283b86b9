/-! the class: rows filled, camps made alike, sums -/
theorem jW_fill {σ : mm_Sg} {a : Nat} {x : Int32} (h0 : 0 < mm_len a) (hl : mm_len a < 2 ^ 20) : ∃ σ', mm_Ev mm_m_J7_fill_53178 [.ref a, .int x] σ none σ' ∧ (∀ i, i < mm_len a → σ' a i = x) ∧ (∀ i, mm_len a ≤ i → σ' a i = σ a i) ∧ ∀ q, q ≠ a → σ' q = σ q := by
  obtain ⟨s', ⟨h1, h2, h3⟩, g⟩ := mm_run (M := mm_m_J7_fill_53178) (α := mm_Sg) (fun j s => (5, [.ref a, .int x, .int (nI j), .int (nI (mm_len a))], [], s)) (mm_len a)
    (fun j s => (∀ i, i < j → s a i = x) ∧ (∀ i, j ≤ i → s a i = σ a i) ∧ ∀ q, q ≠ a → s q = σ q)
    (fun j s hj ⟨h1, h2, h3⟩ => by
      have hcl : (nI j).toNatClampNeg = j := nI_clamp (by omega)
      refine ⟨mm_u s a j x, ⟨fun i hi => ?_, fun i hi => by rw [mm_u_k (by omega)]; exact h2 i (by omega), fun q hq => by rw [mm_u_o hq, h3 q hq]⟩, fun X hX => sg_J7_fill_53178_5 s a x (nI j) (nI (mm_len a)) X ⟨fun z => absurd z (nI_ge hj (by omega)), fun _ => ⟨v_in hj (by omega), fun σ3 e => ?_⟩⟩⟩
      · by_cases e : i = j
        · subst e; rw [mm_u_kk]
        · rw [mm_u_k e]; exact h1 i (by omega)
      · rw [e, hcl, nI_1]
        exact hX)
    (mm_len a) 0 σ (by omega) ⟨fun i hi => absurd hi (Nat.not_lt_zero i), fun _ _ => rfl, fun _ _ => rfl⟩
  exact ⟨s', sg_J7_fill_53178_0 σ a x _ ⟨h0, g _ (sg_J7_fill_53178_5 s' a x (nI (mm_len a)) (nI (mm_len a)) _ ⟨fun _ => rfl, fun z => absurd (nI_le (Nat.le_refl _) (by omega)) z⟩)⟩, h1, h2, h3⟩
theorem cp_s {σ : mm_Sg} {a0 a n i : Nat} (hi : i < n) : mm_cp σ a0 0 a 0 n a i = σ a0 i := by
  unfold mm_cp va_cpy
  rw [if_pos rfl, if_pos (by omega), Nat.zero_add, Nat.sub_zero]
theorem cp_o {σ : mm_Sg} {a0 a n q : Nat} (hq : q ≠ a) : mm_cp σ a0 0 a 0 n q = σ q := by
  unfold mm_cp
  rw [if_neg hq]
set_option maxHeartbeats 1000000 in
theorem xW_like {σ : mm_Sg} {c d : Nat} {R : Nat → Nat} (hc : isC c) (hd : isC d) (hcd : c ≠ d) (hR : xr σ d R) (r4 : R 4 = 0) (r5 : R 5 = 0) (r6 : R 6 = 0) : ∃ σ', mm_Ev mm_m_X1_becomeLike [.ref c, .ref d] σ none σ' ∧ xr σ' c R ∧ (∀ k, k < 7 → σ' (c + 6) k = 0) ∧ ∀ q, q < c ∨ c + 6 < q → σ' q = σ q := by
  obtain ⟨cl, l1, l2, l3, l4, l5, l6⟩ := hc.cl
  obtain ⟨dl, m1, m2, m3, m4, m5, m6⟩ := hd.cl
  obtain ⟨q0, q1, q2, q3, -, -, -, q7, q8⟩ := hR
  have ap : ∀ i j, i ≤ 6 → j ≤ 6 → d + i ≠ c + j := by unfold isC at hc hd; omega
  obtain ⟨s1, e1⟩ : ∃ z, z = mm_cp σ (d + 1) 0 (c + 1) 0 7 := ⟨_, rfl⟩
  obtain ⟨s2, e2⟩ : ∃ z, z = mm_cp s1 (d + 2) 0 (c + 2) 0 7 := ⟨_, rfl⟩
  obtain ⟨s3, e3⟩ : ∃ z, z = mm_cp s2 (d + 3) 0 (c + 3) 0 7 := ⟨_, rfl⟩
  obtain ⟨s4, e4⟩ : ∃ z, z = mm_cp s3 (d + 4) 0 (c + 4) 0 7 := ⟨_, rfl⟩
  obtain ⟨s5, e5⟩ : ∃ z, z = mm_cp s4 (d + 5) 0 (c + 5) 0 5 := ⟨_, rfl⟩
  obtain ⟨s6, e6⟩ : ∃ z, z = mm_u s5 c 6 (s5 d 6) := ⟨_, rfl⟩
  obtain ⟨s7, e7⟩ : ∃ z, z = mm_u s6 c 7 (s6 d 7) := ⟨_, rfl⟩
  obtain ⟨s8, e8⟩ : ∃ z, z = mm_u s7 c 8 (s7 d 8) := ⟨_, rfl⟩
  obtain ⟨s9, e9⟩ : ∃ z, z = mm_u s8 c 9 (s8 d 9) := ⟨_, rfl⟩
  have dd : ∀ j, j ≤ 6 → d ≠ c + j := fun j hj => ap 0 j (by omega) hj
  have p1 : ∀ q, q ≠ c + 1 → s1 q = σ q := fun q h => by rw [e1, cp_o h]
  have p2 : ∀ q, q ≠ c + 2 → s2 q = s1 q := fun q h => by rw [e2, cp_o h]
  have p3 : ∀ q, q ≠ c + 3 → s3 q = s2 q := fun q h => by rw [e3, cp_o h]
  have p4 : ∀ q, q ≠ c + 4 → s4 q = s3 q := fun q h => by rw [e4, cp_o h]
  have p5 : ∀ q, q ≠ c + 5 → s5 q = s4 q := fun q h => by rw [e5, cp_o h]
  have p6 : ∀ q, q ≠ c → s6 q = s5 q := fun q h => by rw [e6, mm_u_o h]
  have p7 : ∀ q, q ≠ c → s7 q = s6 q := fun q h => by rw [e7, mm_u_o h]
  have p8 : ∀ q, q ≠ c → s8 q = s7 q := fun q h => by rw [e8, mm_u_o h]
  have p9 : ∀ q, q ≠ c → s9 q = s8 q := fun q h => by rw [e9, mm_u_o h]
  have d5 : s5 d = σ d := by rw [p5 d (dd 5 (by omega)), p4 d (dd 4 (by omega)), p3 d (dd 3 (by omega)), p2 d (dd 2 (by omega)), p1 d (dd 1 (by omega))]
  have d6 : s6 d = σ d := by rw [p6 d (dd 0 (by omega)), d5]
  have d7 : s7 d = σ d := by rw [p7 d (dd 0 (by omega)), d6]
  have d8 : s8 d = σ d := by rw [p8 d (dd 0 (by omega)), d7]
  have f1 : ∀ k, k < 7 → s9 (c + 1) k = σ (d + 1) k := fun k hk => by
    rw [p9 _ (by omega), p8 _ (by omega), p7 _ (by omega), p6 _ (by omega), p5 _ (by omega), p4 _ (by omega), p3 _ (by omega), p2 _ (by omega), e1, cp_s hk]
  have f2 : ∀ k, k < 7 → s9 (c + 2) k = σ (d + 2) k := fun k hk => by
    rw [p9 _ (by omega), p8 _ (by omega), p7 _ (by omega), p6 _ (by omega), p5 _ (by omega), p4 _ (by omega), p3 _ (by omega), e2, cp_s hk, p1 _ (ap 2 1 (by omega) (by omega))]
  have f3 : ∀ k, k < 7 → s9 (c + 3) k = σ (d + 3) k := fun k hk => by
    rw [p9 _ (by omega), p8 _ (by omega), p7 _ (by omega), p6 _ (by omega), p5 _ (by omega), p4 _ (by omega), e3, cp_s hk, p2 _ (ap 3 2 (by omega) (by omega)), p1 _ (ap 3 1 (by omega) (by omega))]
  have f4 : ∀ k, k < 7 → s9 (c + 4) k = σ (d + 4) k := fun k hk => by
    rw [p9 _ (by omega), p8 _ (by omega), p7 _ (by omega), p6 _ (by omega), p5 _ (by omega), e4, cp_s hk, p3 _ (ap 4 3 (by omega) (by omega)), p2 _ (ap 4 2 (by omega) (by omega)), p1 _ (ap 4 1 (by omega) (by omega))]
  have f5 : ∀ k, k < 5 → s9 (c + 5) k = σ (d + 5) k := fun k hk => by
    rw [p9 _ (by omega), p8 _ (by omega), p7 _ (by omega), p6 _ (by omega), e5, cp_s hk, p4 _ (ap 5 4 (by omega) (by omega)), p3 _ (ap 5 3 (by omega) (by omega)), p2 _ (ap 5 2 (by omega) (by omega)), p1 _ (ap 5 1 (by omega) (by omega))]
  have g6 : s9 c 6 = σ d 6 := by rw [e9, mm_u_k (by omega), e8, mm_u_k (by omega), e7, mm_u_k (by omega), e6, mm_u_kk, d5]
  have g7 : s9 c 7 = σ d 7 := by rw [e9, mm_u_k (by omega), e8, mm_u_k (by omega), e7, mm_u_kk, d6]
  have g8 : s9 c 8 = σ d 8 := by rw [e9, mm_u_k (by omega), e8, mm_u_kk, d7]
  have g9 : s9 c 9 = σ d 9 := by rw [e9, mm_u_kk, d8]
  obtain ⟨s10, jg, j1, -, j3⟩ := jW_fill (σ := s9) (a := c + 6) (x := 0) (by rw [l6]; decide) (by rw [l6]; decide)
  refine ⟨mm_u (mm_u (mm_u s10 c 11 (-1 : Int32)) c 12 0) c 13 0, sg_X1_becomeLike_0 σ c d _ ⟨dl, cl, by omega, by omega, by omega, by omega, fun _ h => ?_⟩, ?_, fun k hk => ?_, fun q hq => ?_⟩
  · rw [← e1] at h
    subst h
    refine ⟨by omega, by omega, by omega, by omega, fun _ h => ?_⟩
    rw [← e2] at h
    subst h
    refine ⟨by omega, by omega, by omega, by omega, fun _ h => ?_⟩
    rw [← e3] at h
    subst h
    refine ⟨by omega, by omega, by omega, by omega, fun _ h => ?_⟩
    rw [← e4] at h
    subst h
    refine ⟨by omega, by omega, by omega, by omega, fun _ h => ?_⟩
    rw [← e5] at h
    subst h
    intro _ h
    rw [← e6] at h
    subst h
    intro _ h
    rw [← e7] at h
    subst h
    intro _ h
    rw [← e8] at h
    subst h
    intro _ h
    rw [← e9] at h
    subst h
    exact ⟨s10, jg, fun _ h => by subst h; exact fun _ h => by subst h; exact fun _ h => by subst h; rfl⟩
  · have kc : s10 c = s9 c := j3 c (by omega)
    refine ⟨?_, ?_, ?_, ?_, ?_, ?_, ?_, fun k hk => ?_, fun w hw => ?_⟩
    · rw [mm_u_k (by omega), mm_u_k (by omega), mm_u_k (by omega), kc, g6]; exact q0
    · rw [mm_u_k (by omega), mm_u_k (by omega), mm_u_k (by omega), kc, g9]; exact q1
    · rw [mm_u_k (by omega), mm_u_k (by omega), mm_u_k (by omega), kc, g8]; exact q2
    · rw [mm_u_k (by omega), mm_u_k (by omega), mm_u_k (by omega), kc, g7]; exact q3
    · rw [mm_u_k (by omega), mm_u_k (by omega), mm_u_kk, r4]; exact Or.inl ⟨rfl, rfl⟩
    · rw [mm_u_k (by omega), mm_u_kk, r5]; rfl
    · rw [mm_u_kk, r6]; rfl
    · have hh : ∀ j, 1 ≤ j → j ≤ 5 → (mm_u (mm_u (mm_u s10 c 11 (-1 : Int32)) c 12 0) c 13 0) (c + j) = s9 (c + j) := fun j h1 h2 => by
        rw [mm_u_o (by omega), mm_u_o (by omega), mm_u_o (by omega), j3 _ (by omega)]
      rw [hh 1 (by omega) (by omega), hh 2 (by omega) (by omega), hh 3 (by omega) (by omega), hh 4 (by omega) (by omega), f1 k hk, f2 k hk, f3 k hk, f4 k hk]
      exact q7 k hk
    · rw [mm_u_o (by omega), mm_u_o (by omega), mm_u_o (by omega), j3 _ (by omega), f5 w hw]
      exact q8 w hw
  · rw [mm_u_o (by omega), mm_u_o (by omega), mm_u_o (by omega)]
    exact j1 k (by rw [l6]; exact hk)
  · rw [mm_u_o (by omega), mm_u_o (by omega), mm_u_o (by omega), j3 q (by omega), p9 q (by omega), p8 q (by omega), p7 q (by omega), p6 q (by omega), p5 q (by omega), p4 q (by omega), p3 q (by omega), p2 q (by omega), p1 q (by omega)]
theorem xW_owed {σ : mm_Sg} {c D : Nat} {R : Nat → Nat} (hc : isC c) (hR : xr σ c R) (hwf : n_wf D R) : mm_Ev mm_m_X1_owedInAll [.ref c] σ (some (.int (nI (n_owed R)))) σ := by
  have h7 := hwf.1
  obtain ⟨cl, l1, l2, l3, l4, l5, l6⟩ := hc.cl
  obtain ⟨s', -, g⟩ := mm_run (M := mm_m_X1_owedInAll) (α := Unit) (fun j _ => (4, [.ref c, .int (nI (n_sum (fun k => R (10 + 4 * k)) j)), .int (nI j)], [], σ)) (R 0) (fun _ _ => True)
    (fun j _ hj _ => by
      refine ⟨(), trivial, fun X hX => sg_X1_owedInAll_4 σ c _ (nI j) X ⟨cl, fun z => ?_, fun _ => ⟨fun z => absurd z (nI_ge (b := 7) (by omega) (by decide)), fun _ => ⟨by rw [l4]; exact v_in (by omega) (by decide), ?_⟩⟩⟩⟩
      · rw [hR.1] at z
        exact absurd z (nI_ge hj (by omega))
      · rw [nI_clamp (by omega), (hR.2.2.2.2.2.2.2.1 j (by omega)).2.2.2, nI_add, nI_1]
        exact hX)
    (R 0) 0 () (by omega) trivial
  exact sg_X1_owedInAll_0 σ c _ (g _ (sg_X1_owedInAll_4 σ c _ (nI (R 0)) _ ⟨cl, fun _ => rfl, fun z => absurd (by rw [hR.1]; exact nI_le (Nat.le_refl _) (by omega)) z⟩))
theorem xW_tired {σ : mm_Sg} {c : Nat} {R : Nat → Nat} (hc : isC c) (hR : xr σ c R) : mm_Ev mm_m_X1_tiredInAll [.ref c] σ (some (.int (nI (n_tiredAll R)))) σ := by
  obtain ⟨cl, l1, l2, l3, l4, l5, l6⟩ := hc.cl
  obtain ⟨s', -, g⟩ := mm_run (M := mm_m_X1_tiredInAll) (α := Unit) (fun j _ => (4, [.ref c, .int (nI (n_sum (fun w => R (35 + w)) j)), .int (nI j)], [], σ)) 5 (fun _ _ => True)
    (fun j _ hj _ => by
      refine ⟨(), trivial, fun X hX => sg_X1_tiredInAll_4 σ c _ (nI j) X ⟨fun z => absurd z (nI_ge (b := 5) hj (by decide)), fun _ => ⟨cl, by rw [l5]; exact v_in hj (by decide), ?_⟩⟩⟩
      rw [nI_clamp (by omega), hR.2.2.2.2.2.2.2.2 j hj, nI_add, nI_1]
      exact hX)
    5 0 () rfl trivial
  exact sg_X1_tiredInAll_0 σ c _ (g _ (sg_X1_tiredInAll_4 σ c _ (nI 5) _ ⟨fun _ => rfl, fun z => absurd (show (5 : Int32) ≤ nI 5 by decide) z⟩))
/-- the class thinks of something: the camp in mind may change, and three rows -/
def xTh (σ σ' : mm_Sg) : Prop := ∀ q, q < 24 ∨ 30 < q → σ' q = σ q
theorem xW_think {σ : mm_Sg} {D n : Nat} {R : Nat → Nat} (hR : xr σ 10 R) (hwf : n_wf D R) (r4 : R 4 = 0) (r5 : R 5 = 0) (r6 : R 6 = 0) (hD : D + n < 2 ^ 19) : ∃ σ', mm_Ev mm_m_X10_thinkDaysOn [.ref 0, .int (nI n)] σ none σ' ∧ xr σ' 24 (n_days n R) ∧ xTh σ σ' := by
  obtain ⟨s1, g1, x1, -, o1⟩ := xW_like (c := 24) (d := 10) (Or.inr (Or.inr rfl)) (Or.inl rfl) (by decide) hR r4 r5 r6
  obtain ⟨s2, g2, x2, -, o2⟩ := xW_days (n := n) (Or.inr (Or.inr rfl)) x1 hwf hD
  exact ⟨s2, sg_X10_thinkDaysOn_0 σ (nI n) _ ⟨s1, g1, s2, g2, rfl⟩, x2, fun q hq => by rw [o2 q (by omega) (by omega) (by omega) (by omega), o1 q (by omega)]⟩
