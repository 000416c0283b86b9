/-! the face: fewest -/
def n_no (a : Nat) : Nat := 31 ^^^ a
theorem n_nolt : ∀ a, a < 32 → n_no a < 32 ∧ (31 : Int32) &&& (nI a ^^^ (-1 : Int32)) = nI (n_no a) ∧ n_bits a ≤ 5 ∧ (n_bits a = 5 → a = 31) := by decide +kernel
theorem n_or32 : ∀ a, a < 32 → ∀ b, b < 32 → nI a ||| nI b = nI (a ||| b) ∧ a ||| b < 32 := by decide +kernel
theorem n_bc0 : ∀ a, a < 32 → f_J6_bitCount_0f7a4 (fun _ _ => 0) (nI a) = nI (n_bits a) := by decide +kernel
theorem n_bc (σ : mm_Sg) {a : Nat} (h : a < 32) : f_J6_bitCount_0f7a4 σ (nI a) = nI (n_bits a) := n_bc0 a h
theorem n_wf_lost {D : Nat} {R : Nat → Nat} (h : n_wf D R) {v : Nat} (hv : v < 32) : n_wf D (nup R 6 v) := by
  obtain ⟨h0, h1, h2, h3, h4, h5, h6, h7, h8, h9⟩ := h
  refine ⟨by rw [nup_o R (by omega)]; exact h0, by rw [nup_o R (by omega)]; exact h1, by rw [nup_o R (by omega)]; exact h2, by rw [nup_o R (by omega)]; exact h3, by rw [nup_o R (by omega)]; exact h4, by rw [nup_o R (by omega)]; exact h5, by rw [nup_s]; exact hv, fun k hk => ?_, fun x hx => ?_, fun i hi => ?_⟩
  · rw [nup_o R (by omega), nup_o R (by omega), nup_o R (by omega), nup_o R (by omega)]
    exact h7 k hk
  · rw [nup_o R (by omega)]; exact h8 x hx
  · rw [nup_o R (by omega)]; exact h9 i hi
theorem xr_lost {σ : mm_Sg} {c v : Nat} {R : Nat → Nat} (h : xr σ c R) : xr (mm_u σ c 13 (nI v)) c (nup R 6 v) := by
  obtain ⟨h0, h1, h2, h3, h4, h5, h6, h7, h8⟩ := h
  refine ⟨by rw [mm_u_k (by omega), nup_o R (by omega)]; exact h0, by rw [mm_u_k (by omega), nup_o R (by omega)]; exact h1, by rw [mm_u_k (by omega), nup_o R (by omega)]; exact h2, by rw [mm_u_k (by omega), nup_o R (by omega)]; exact h3, by rw [mm_u_k (by omega), nup_o R (by omega)]; exact h4, by rw [mm_u_k (by omega), nup_o R (by omega)]; exact h5, by rw [mm_u_kk, nup_s], fun k hk => ?_, fun w hw => ?_⟩
  · rw [mm_u_o (by omega), mm_u_o (by omega), mm_u_o (by omega), mm_u_o (by omega), nup_o R (by omega), nup_o R (by omega), nup_o R (by omega), nup_o R (by omega)]
    exact h7 k hk
  · rw [mm_u_o (by omega), nup_o R (by omega)]
    exact h8 w hw
def n_kp (R : Nat → Nat) (a : Nat) : Nat → Nat := nup (nup R 6 (n_no a)) 3 (R 3 ||| n_no a)
theorem n_wf_kp {D : Nat} {R : Nat → Nat} (h : n_wf D R) {a : Nat} (ha : a < 32) : n_wf D (n_kp R a) := n_wf_asleep (n_wf_lost h (n_nolt a ha).1) (n_or32 _ h.2.2.2.1 _ (n_nolt a ha).1).2
theorem xW_obK {σ : mm_Sg} {R : Nat → Nat} {a n : Nat} (h : cpv σ 10 52 R) (ha : a < 32) (hn : n < 1000) : ∃ σ', mm_Ev mm_m_X10_owedBehindKeeping [.ref 0, .int (nI a), .int (nI n)] σ (some (.int (nI (n_owed (n_days n (n_kp R a)))))) σ' ∧ xTh σ σ' := by
  obtain ⟨s1, g1, y1, -, t1⟩ := xW_mind h
  have z := n_nolt a ha
  obtain ⟨s2, g2, g3, t2⟩ := xW_after (n := n) (xr_asleep (v := R 3 ||| n_no a) (xr_lost (v := n_no a) y1)) (n_wf_kp h.1 ha) (by omega)
  refine ⟨s2, sg_X10_owedBehindKeeping_0 σ _ _ _ ⟨s1, g1, fun σ3 e3 σ5 e5 => ?_⟩, (t1.trans ((xth_u (k := 13) (x := nI (n_no a)) (by omega)).trans (xth_u (by omega)))).trans t2⟩
  rw [z.2.1] at e3
  rw [e3, mm_u_k (by omega), mm_u_kk, y1.2.2.2.1, (n_or32 _ h.1.2.2.2.1 _ z.1).1] at e5
  rw [e5]
  exact ⟨s2, g2, _, s2, g3, rfl⟩
/-- the Model's search: the least in number, the first of them -/
def n_fm (P : Nat → Bool) : Nat → Nat
  | 0 => 31
  | j + 1 => if n_bits j < n_bits (n_fm P j) ∧ P j = true then j else n_fm P j
theorem n_fm_p (P : Nat → Bool) : ∀ j, j ≤ 32 → (n_fm P j = 31 ∨ (n_fm P j < j ∧ P (n_fm P j) = true)) ∧ n_fm P j < 32 ∧ ∀ i, i < j → P i = true → n_bits (n_fm P j) < n_bits i ∨ (n_bits (n_fm P j) = n_bits i ∧ n_fm P j ≤ i)
  | 0, _ => ⟨Or.inl rfl, by show 31 < 32; decide, fun i hi => absurd hi (by omega)⟩
  | j + 1, hj => by
    obtain ⟨h1, h3, h2⟩ := n_fm_p P j (by omega)
    unfold n_fm
    by_cases c : n_bits j < n_bits (n_fm P j) ∧ P j = true
    · rw [if_pos c]
      refine ⟨Or.inr ⟨by omega, c.2⟩, by omega, fun i hi hp => ?_⟩
      by_cases e : i = j
      · subst e; exact Or.inr ⟨rfl, Nat.le_refl _⟩
      · rcases h2 i (by omega) hp with q | q <;> (left; omega)
    · rw [if_neg c]
      refine ⟨by rcases h1 with q | q; exact Or.inl q; exact Or.inr ⟨by omega, q.2⟩, h3, fun i hi hp => ?_⟩
      by_cases e : i = j
      · subst e
        have hb : n_bits (n_fm P i) ≤ n_bits i := by
          rcases Nat.lt_or_ge (n_bits i) (n_bits (n_fm P i)) with l | l
          · exact absurd ⟨l, hp⟩ c
          · exact l
        rcases h1 with q | q
        · rw [q] at hb ⊢
          have h5 := n_nolt i (by omega)
          have e5 : n_bits 31 = 5 := by decide
          have : i = 31 := h5.2.2.2 (by omega)
          right
          rw [this]
          exact ⟨rfl, Nat.le_refl _⟩
        · rcases Nat.lt_or_ge (n_bits (n_fm P i)) (n_bits i) with l | l
          · exact Or.inl l
          · exact Or.inr ⟨by omega, by omega⟩
      · exact h2 i (by omega) hp
theorem F_fewest {σ : mm_Sg} (hI : Inv σ) (x1 : Int32) : FQ mm_m_X10_fewest mm_m_X11_fewest [.int x1] σ := by
  obtain ⟨⟨R, hcp⟩, hi, z53, z54, z55, hs⟩ := id hI
  obtain ⟨wf, r4, r5, r6, hx, hm⟩ := id hcp
  have h0 : σ 10 6 = nI (R 0) := hx.1
  have m0 : σ 52 0 = nI (R 0) := by rw [hm]; rfl
  have w7 := wf.1
  rcases bt_c x1 0 30 (by decide) (by decide) with ⟨n, hn1, hn2, rfl⟩ | h1
  · obtain ⟨g, eg⟩ : ∃ g : Nat → Nat, g = fun a => n_owed (n_days n (n_kp R a)) := ⟨_, rfl⟩
    have hg : ∀ a, n_owed (n_days n (n_kp R a)) = g a := fun w => by rw [eg]
    have hgl : ∀ a, a < 32 → g a ≤ 6993 := fun a ha => by rw [eg]; exact n_owed_le (n_wf_days (n_wf_kp wf ha) n)
    obtain ⟨c0, ec⟩ : ∃ c : Nat, c = n_owed (n_days n R) := ⟨_, rfl⟩
    have hc0 : c0 ≤ 6993 := by rw [ec]; exact n_owed_le (n_wf_days wf n)
    obtain ⟨P, eP⟩ : ∃ P : Nat → Bool, P = fun a => decide (g a ≤ c0) := ⟨_, rfl⟩
    have hP : ∀ a, a < 32 → (P a = true ↔ ¬ nI c0 < nI (g a)) := fun a ha => by
      have := hgl a ha
      rw [eP, nI_ltI (by omega) (by omega)]
      simp
    obtain ⟨r, er⟩ : ∃ r, r = n_fm P 32 := ⟨_, rfl⟩
    obtain ⟨r1, r2, r3⟩ := n_fm_p P 32 (Nat.le_refl _)
    rw [← er] at r1 r2 r3
    have rb := n_nolt r r2
    have wd := n_wf_days wf n
    obtain ⟨s0, g0, y0, t0⟩ := xW_think (n := n) hx wf r4 r5 r6 (by omega)
    have inner : ∀ (m N : Nat), m < 5 → N ≤ 32 → (∀ i, i < N → n_bits i = m → P i = false) → ∀ (s : mm_Sg), xTh σ s → ∃ s', xTh σ s' ∧ ∀ X, mm_Go mm_m_X10_fewest (35, [.ref 0, .int (nI n), .int (nI c0), .int (nI m), .int (nI N)], [], s') X → mm_Go mm_m_X10_fewest (35, [.ref 0, .int (nI n), .int (nI c0), .int (nI m), .int (nI 0)], [], s) X := fun m N hm hN hp s t =>
      mm_run (M := mm_m_X10_fewest) (α := mm_Sg) (fun j s => (35, [.ref 0, .int (nI n), .int (nI c0), .int (nI m), .int (nI j)], [], s)) N (fun _ s => xTh σ s)
        (fun j s hj t => by
          have b5 := n_nolt j (by omega)
          by_cases hb : n_bits j = m
          · obtain ⟨s', g', t'⟩ := xW_obK (a := j) (n := n) (hcp.xth t) (by omega) (by omega)
            rw [hg] at g'
            refine ⟨s', t.trans t', fun X hX => sg_X10_fewest_35 s _ _ _ _ X ⟨fun z => absurd z (nI_ge (b := 32) (by omega) (by decide)), fun _ => ⟨_, s, ev_J6_bitCount_0f7a4 s _, ?_⟩⟩⟩
            rw [n_bc s (by omega), hb]
            refine ⟨fun z => absurd rfl z, fun _ => ⟨_, s', g', fun _ => by rw [nI_1]; exact hX, fun q => ?_⟩⟩
            have := (hP j (by omega)).mpr q
            rw [hp j hj hb] at this
            exact absurd this (by decide)
          · refine ⟨s, t, fun X hX => sg_X10_fewest_35 s _ _ _ _ X ⟨fun z => absurd z (nI_ge (b := 32) (by omega) (by decide)), fun _ => ⟨_, s, ev_J6_bitCount_0f7a4 s _, ?_⟩⟩⟩
            rw [n_bc s (by omega), nI_eq (by omega) (by omega)]
            exact ⟨fun _ => by rw [nI_1]; exact hX, fun z => absurd hb z⟩)
        N 0 s (by omega) t
    have none : ∀ m, m < n_bits r → ∀ i, i < 32 → n_bits i = m → P i = false := fun m hm i hi hb => by
      cases h : P i with
      | false => rfl
      | true => rcases r3 i hi h with q | q <;> omega
    obtain ⟨⟨s1, d4⟩, t1, g1⟩ := mm_run (M := mm_m_X10_fewest) (α := mm_Sg × Value) (fun j s => (27, [.ref 0, .int (nI n), .int (nI c0), .int (nI j), s.2], [], s.1)) (n_bits r) (fun _ s => xTh σ s.1)
      (fun j s hj t => by
        obtain ⟨s, d4⟩ := s
        dsimp only at t ⊢
        obtain ⟨s', t', g'⟩ := inner j 32 (by omega) (by omega) (none j hj) s t
        refine ⟨(s', .int 32), t', fun X hX => sg_X10_fewest_27 s _ _ _ d4 X ⟨fun z => absurd z (nI_ge (b := 5) (by omega) (by decide)), fun _ => g' X (sg_X10_fewest_35 s' _ _ _ _ X ⟨fun _ => ?_, fun z => absurd (show (32 : Int32) ≤ nI 32 by decide) z⟩)⟩⟩
        rw [nI_1]
        exact hX)
      (n_bits r) 0 (s0, .null) (by omega) t0
    dsimp only at t1 g1
    obtain ⟨σ1, tt, gg⟩ : ∃ σ1, xTh σ σ1 ∧ mm_Go mm_m_X10_fewest (27, [.ref 0, .int (nI n), .int (nI c0), .int (nI (n_bits r)), d4], [], s1) (some (.int (nI r)), σ1) := by
      by_cases h5 : n_bits r = 5
      · have e31 := rb.2.2.2 h5
        refine ⟨s1, t1, sg_X10_fewest_27 s1 _ _ _ d4 _ ⟨fun _ => by rw [e31]; rfl, fun z => absurd (by rw [h5]; decide) z⟩⟩
      · have hpr : P r = true := by
          rcases r1 with q | q
          · exact absurd (by rw [q]; decide) h5
          · exact q.2
        obtain ⟨s2, t2, g2⟩ := inner (n_bits r) r (by omega) (by omega) (fun i hi hb => by
          cases h : P i with
          | false => rfl
          | true => rcases r3 i (by omega) h with q | q <;> omega) s1 t1
        obtain ⟨s3, g3, t3⟩ := xW_obK (a := r) (n := n) (hcp.xth t2) r2 (by omega)
        rw [hg] at g3
        refine ⟨s3, t2.trans t3, sg_X10_fewest_27 s1 _ _ _ d4 _ ⟨fun z => absurd z (nI_ge (b := 5) (by omega) (by decide)), fun _ => g2 _ (sg_X10_fewest_35 s2 _ _ _ _ _ ⟨fun z => absurd z (nI_ge (b := 32) (by omega) (by decide)), fun _ => ⟨_, s2, ev_J6_bitCount_0f7a4 s2 _, ?_⟩⟩)⟩⟩
        rw [n_bc s2 r2]
        exact ⟨fun z => absurd rfl z, fun _ => ⟨_, s3, g3, fun q => absurd q ((hP r r2).mp hpr), fun _ => rfl⟩⟩
    have hcp1 := hcp.xth tt
    obtain ⟨s2, g2, y2, t2⟩ := mW_owedNow (n := n) (R := R) (σ := σ1) hcp1.2.2.2.2.2 wf (z53_think z53 tt) (by omega)
    obtain ⟨σ2, ⟨t3, z3⟩, g3⟩ := mm_run (M := mm_m_X11_fewest) (α := mm_Sg) (fun j s => (24, [.ref 51, .int (nI n), .int (nI c0), .int (nI (n_fm P j)), .int (nI j)], [], s)) 32
      (fun j s => mTh σ1 s ∧ z40 s 53)
      (fun j s hj ⟨t, z⟩ => by
        obtain ⟨-, f32, -⟩ := n_fm_p P j (by omega)
        have b1 := n_nolt j hj
        have b2 := n_nolt _ f32
        by_cases hb : n_bits j < n_bits (n_fm P j)
        · obtain ⟨s3, g3, y3, -, t3⟩ := mW_mind (R := R) (by rw [t 52 (by decide) (by decide)]; exact hcp1.2.2.2.2.2) wf z
          obtain ⟨s4, g4, g5, t4, z4⟩ := mW_after (n := n) (s := mm_u (mm_u s3 53 6 (nI (n_no j))) 53 3 (nI (R 3 ||| n_no j))) (T := n_kp R j) (by rw [mm_u_s, mm_u_s, y3, ← ra_up, ← ra_up]; rfl) (n_wf_kp wf hj) (by omega)
          rw [hg] at g5
          refine ⟨s4, ⟨(t.trans t3).trans ((mth_u (k := 6) (x := nI (n_no j))).trans (mth_u.trans t4)), z4⟩, fun X hX => sg_X11_fewest_24 s _ _ _ _ X ⟨fun z => absurd z (nI_ge (b := 32) (by omega) (by decide)), fun _ => ⟨_, s, mW_bits s hj, _, s, mW_bits s f32, fun _ => ⟨s3, g3, fun σ5 e5 σ7 e7 => ?_⟩, fun q => absurd (nI_lt hb (by omega)) q⟩⟩⟩
          rw [b1.2.1] at e5
          rw [e5, mm_u_k (by omega), mm_u_kk, y3, ra_at, (n_or32 _ wf.2.2.2.1 _ b1.1).1] at e7
          rw [e7, nI_1]
          refine ⟨s4, g4, _, s4, g5, fun q => ?_, fun q => ?_⟩
          · have hp : P j = false := by
              cases h : P j with
              | false => rfl
              | true => exact absurd q ((hP j hj).mp h)
            rw [n_fm, if_neg (fun z => by rw [hp] at z; exact absurd z.2 (by decide))] at hX
            exact hX
          · rw [n_fm, if_pos ⟨hb, (hP j hj).mpr q⟩] at hX
            exact hX
        · refine ⟨s, ⟨t, z⟩, fun X hX => sg_X11_fewest_24 s _ _ _ _ X ⟨fun z => absurd z (nI_ge (b := 32) (by omega) (by decide)), fun _ => ⟨_, s, mW_bits s hj, _, s, mW_bits s f32, fun q => absurd q (nI_nlt (by omega) (by omega)), fun _ => ?_⟩⟩⟩
          rw [n_fm, if_neg (fun z => hb z.1)] at hX
          rw [nI_1]
          exact hX)
      32 0 s2 (by omega) ⟨t2, fun i hi => by rw [y2, ra_at, wd.2.2.2.2.2.2.2.2.2 i hi]; rfl⟩
    rw [← er] at g3
    have q2 : MQ2 σ1 σ2 := ⟨fun q _ h1 h2 _ _ => t3 q h1 h2, by rw [t3 51 (by decide) (by decide)], z3⟩
    refine FQ.look hI (.int (nI r)) ?_ ?_ (XQ.think tt) q2
    · refine sg_X10_fewest_0 σ _ _ ?_
      refine ⟨_, σ, ev_X10_isBetween σ _ _ _, ?_⟩
      rw [show f_X10_isBetween σ (nI n) (0 : Int32) (30 : Int32) = 1 from bt_t σ (a := 0) (m := 30) ⟨by omega, by omega⟩ (by decide)]
      first | refine g1a ?_ | refine g1b ?_ | refine g0a ?_ | refine g0b ?_
      refine ⟨s0, g0, _, s0, xW_owed (Or.inr (Or.inr rfl)) y0 wd, ?_⟩
      rw [← ec]
      exact g1 _ gg
    · refine sg_X11_fewest_0 σ1 _ _ ?_
      refine ⟨_, σ1, ev_X11_isIn σ1 _ _ _, ?_⟩
      rw [show f_X11_isIn σ1 (nI n) (0 : Int32) (30 : Int32) = 1 from bt_t σ1 (a := 0) (m := 30) ⟨by omega, by omega⟩ (by decide)]
      first | refine g1a ?_ | refine g1b ?_ | refine g0a ?_ | refine g0b ?_
      refine ⟨_, s2, g2, ?_⟩
      rw [← ec]
      exact g3 _ (sg_X11_fewest_24 σ2 _ _ _ _ _ ⟨fun _ => rfl, fun z => absurd (show (32 : Int32) ≤ nI 32 by decide) z⟩)
  · refine FQ.refuse hI (.int (-1)) ?_ ?_
    · refine sg_X10_fewest_0 σ _ _ ?_
      refine ⟨_, σ, ev_X10_isBetween σ _ _ _, ?_⟩
      rw [show f_X10_isBetween σ x1 (0 : Int32) (30 : Int32) = 0 from h1 σ]
      first | refine g1a ?_ | refine g1b ?_ | refine g0a ?_ | refine g0b ?_
      rfl
    · refine sg_X11_fewest_0 σ _ _ ?_
      refine ⟨_, σ, ev_X11_isIn σ _ _ _, ?_⟩
      rw [show f_X11_isIn σ x1 (0 : Int32) (30 : Int32) = 0 from h1 σ]
      first | refine g1a ?_ | refine g1b ?_ | refine g0a ?_ | refine g0b ?_
      rfl
