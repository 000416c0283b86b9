/-! the face: rest, milk -/
theorem bt_c (x : Int32) (a b : Nat) (ha : a < 2 ^ 31) (hb : b < 2 ^ 31) : (∃ j, a ≤ j ∧ j ≤ b ∧ x = nI j) ∨ ∀ σ, f_X10_isBetween σ x (nI a) (nI b) = 0 := by
  by_cases h : vp_in x (b + 1)
  · rw [vp_in_iff] at h
    have hx : ¬ x < 0 := by
      rw [Int32.lt_iff_toInt_lt]
      have : (0 : Int32).toInt = 0 := rfl
      omega
    obtain ⟨j, hj, rfl⟩ := nI_of hx
    rw [nI_toInt hj] at h
    by_cases h2 : a ≤ j
    · exact Or.inl ⟨j, h2, by omega, rfl⟩
    · exact Or.inr (fun σ => by rw [q_bt σ hj ha hb, if_neg (fun z => h2 z.1)])
  · exact Or.inr (fun σ => q_btf σ ha hb h)
/-- the first of several that is less than what was found -/
def n_ax (z : Int32 × Int32) (g : Nat → Nat) : Nat → Int32 × Int32
  | 0 => z
  | j + 1 => if nI (g j) < (n_ax z g j).2 then (nI j, nI (g j)) else n_ax z g j
theorem n_axt {z : Int32 × Int32} {g : Nat → Nat} {j : Nat} (h : nI (g j) < (n_ax z g j).2) : n_ax z g (j + 1) = (nI j, nI (g j)) := by rw [n_ax, if_pos h]
theorem n_axf {z : Int32 × Int32} {g : Nat → Nat} {j : Nat} (h : ¬ nI (g j) < (n_ax z g j).2) : n_ax z g (j + 1) = n_ax z g j := by rw [n_ax, if_neg h]
theorem nlt_le {a b : Int32} (h : ¬ a < b) : b ≤ a := by rw [Int32.le_iff_toInt_le]; rw [Int32.lt_iff_toInt_lt] at h; omega
theorem le_nlt {a b : Int32} (h : b ≤ a) : ¬ a < b := by rw [Int32.le_iff_toInt_le] at h; rw [Int32.lt_iff_toInt_lt]; omega
theorem n_bitx7 : ∀ k, k < 7 → (1 : Int32) <<< (nI k &&& 31) = nI (2 ^ k) ∧ 2 ^ k < 128 := by decide +kernel
theorem F_rest {σ : mm_Sg} (hI : Inv σ) (x1 x2 : Int32) : FQ mm_m_X10_rest mm_m_X11_rest [.int x1, .int x2] σ := by
  obtain ⟨⟨R, hcp⟩, hi, z53, z54, z55, hs⟩ := id hI
  obtain ⟨wf, r4, r5, r6, hx, hm⟩ := id hcp
  have h0 : σ 10 6 = nI (R 0) := hx.1
  have m0 : σ 52 0 = nI (R 0) := by rw [hm]; rfl
  have w7 := wf.1
  rcases bt_c x1 1 30 (by decide) (by decide) with ⟨n, hn1, hn2, rfl⟩ | h1
  · rcases bt_c x2 0 1 (by decide) (by decide) with ⟨j2, -, hj2, rfl⟩ | h2
    · obtain ⟨g, eg⟩ : ∃ g : Nat → Nat, g = fun w => n_owed (n_days n (nup R 3 (R 3 ||| 2 ^ w))) := ⟨_, rfl⟩
      have hg : ∀ w, n_owed (n_days n (nup R 3 (R 3 ||| 2 ^ w))) = g w := fun w => by rw [eg]
      have hgl : ∀ w, w < 5 → g w ≤ 6993 := fun w hw => by rw [eg]; exact n_owed_le (n_wf_days (n_wf_asleep wf (n_bitx _ wf.2.2.2.1 w hw).2) n)
      obtain ⟨A, eA⟩ : ∃ A, A = n_ax (0, 1000000000) g := ⟨_, rfl⟩
      have A0 : A 0 = (0, 1000000000) := by rw [eA]; rfl
      have A1 : A 1 = (0, nI (g 0)) := by
        have := hgl 0 (by decide)
        rw [eA]
        exact n_axt (z := (0, 1000000000)) (j := 0) (nI_lt (b := 1000000000) (by omega) (by decide))
      obtain ⟨s0, g0, t0⟩ := xW_obO (w := 0) (n := n) hcp (by omega) (by omega)
      rw [hg] at g0
      obtain ⟨⟨σ1, d6⟩, t1, g1⟩ := mm_run (M := mm_m_X10_rest) (α := mm_Sg × Value) (fun j s => (34, [.ref 0, .int (nI n), .int (nI j2), .int (A (j + 1)).1, .int (A (j + 1)).2, .int (nI (j + 1)), s.2], [], s.1)) 4 (fun _ s => xTh σ s.1)
        (fun j s hj t => by
          obtain ⟨s, d6⟩ := s
          dsimp only at t ⊢
          obtain ⟨s', g', t'⟩ := xW_obO (w := j + 1) (n := n) (hcp.xth t) (by omega) (by omega)
          rw [hg] at g'
          refine ⟨(s', .int (nI (g (j + 1)))), t.trans t', fun X hX => sg_X10_rest_34 s _ _ _ _ _ d6 X ⟨fun z => absurd z (nI_ge (b := 5) (by omega) (by decide)), fun _ => ⟨_, s', g', fun q => ?_, fun q => ?_⟩⟩⟩
          · rw [nI_1]
            rw [eA, n_axf (by rw [← eA]; exact le_nlt q), ← eA] at hX
            exact hX
          · rw [nI_1]
            rw [eA, n_axt (by
              rw [← eA]
              rcases Classical.em (nI (g (j + 1)) < (A (j + 1)).2) with l | l
              · exact l
              · exact absurd (nlt_le l) q)] at hX
            exact hX)
        4 0 (s0, .null) rfl t0
      dsimp only at t1 g1
      have hcp1 := hcp.xth t1
      obtain ⟨σ2, ⟨t2, z2⟩, g2⟩ := mm_run (M := mm_m_X11_rest) (α := mm_Sg) (fun j s => (30, [.ref 51, .int (nI n), .int (nI j2), .int (A j).1, .int (A j).2, .int (nI j)], [], s)) 5
        (fun j s => mTh σ1 s ∧ z40 s 53)
        (fun j s hj ⟨t, z⟩ => by
          obtain ⟨s3, g3, y3, -, t3⟩ := mW_mind (R := R) (by rw [t 52 (by decide) (by decide)]; exact hcp1.2.2.2.2.2) wf z
          obtain ⟨s4, g4, g5, t4, z4⟩ := mW_after (n := n) (s := mm_u s3 53 3 (nI (R 3 ||| 2 ^ j))) (by rw [mm_u_s, y3, ← ra_up]) (n_wf_asleep wf (n_bitx _ wf.2.2.2.1 j hj).2) (by omega)
          rw [hg] at g5
          refine ⟨s4, ⟨(t.trans t3).trans (mth_u.trans t4), z4⟩, fun X hX => sg_X11_rest_30 s _ _ _ _ _ X ⟨fun z => absurd z (nI_ge (b := 5) hj (by decide)), fun _ => ⟨s3, g3, fun σ5 e5 => ?_⟩⟩⟩
          rw [e5, y3, ra_at, n_set _ wf.2.2.2.1 j hj, nI_1]
          refine ⟨s4, g4, _, s4, g5, fun q => ⟨_, s4, g5, ?_⟩, fun q => ?_⟩
          · rw [eA] at q hX
            rw [n_axt q] at hX
            exact hX
          · rw [eA] at q hX ⊢
            rw [n_axf q] at hX
            exact hX)
        5 0 σ1 rfl ⟨fun _ _ _ => rfl, z53_think z53 t1⟩
      have q2 : MQ2 σ1 σ2 := ⟨fun q _ h1 h2 _ _ => t2 q h1 h2, by rw [t2 51 (by decide) (by decide)], z2⟩
      refine FQ.look hI (.int (if j2 = 0 then (A 5).1 else (A 5).2)) ?_ ?_ (XQ.think t1) q2
      · refine sg_X10_rest_0 σ _ _ _ ?_
        refine ⟨_, σ, ev_X10_isBetween σ _ _ _, ?_⟩
        rw [show f_X10_isBetween σ (nI n) (1 : Int32) (30 : Int32) = 1 from bt_t σ (a := 1) (m := 30) ⟨by omega, by omega⟩ (by decide)]
        first | refine g1a ?_ | refine g1b ?_ | refine g0a ?_ | refine g0b ?_
        refine ⟨_, σ, ev_X10_isBetween σ _ _ _, ?_⟩
        rw [show f_X10_isBetween σ (nI j2) (0 : Int32) (1 : Int32) = 1 from bt_t σ (a := 0) (m := 1) ⟨by omega, by omega⟩ (by decide)]
        first | refine g1a ?_ | refine g1b ?_ | refine g0a ?_ | refine g0b ?_
        refine ⟨_, s0, g0, ?_⟩
        have := g1 (some (.int (if j2 = 0 then (A 5).1 else (A 5).2)), σ1) (sg_X10_rest_34 σ1 _ _ _ _ _ d6 _ ⟨fun _ => ?_, fun z => absurd (show (5 : Int32) ≤ nI 5 by decide) z⟩)
        · rw [A1] at this
          exact this
        · rcases (show j2 = 0 ∨ j2 = 1 by omega) with rfl | rfl
          · exact g0b rfl
          · exact g1b rfl
      · refine sg_X11_rest_0 σ1 _ _ _ ?_
        refine ⟨_, σ1, ev_X11_isIn σ1 _ _ _, ?_⟩
        rw [show f_X11_isIn σ1 (nI n) (1 : Int32) (30 : Int32) = 1 from bt_t σ1 (a := 1) (m := 30) ⟨by omega, by omega⟩ (by decide)]
        first | refine g1a ?_ | refine g1b ?_ | refine g0a ?_ | refine g0b ?_
        refine ⟨_, σ1, ev_X11_isIn σ1 _ _ _, ?_⟩
        rw [show f_X11_isIn σ1 (nI j2) (0 : Int32) (1 : Int32) = 1 from bt_t σ1 (a := 0) (m := 1) ⟨by omega, by omega⟩ (by decide)]
        first | refine g1a ?_ | refine g1b ?_ | refine g0a ?_ | refine g0b ?_
        have := g2 (some (.int (if j2 = 0 then (A 5).1 else (A 5).2)), σ2) (sg_X11_rest_30 σ2 _ _ _ _ _ _ ⟨fun _ => ?_, fun z => absurd (show (5 : Int32) ≤ nI 5 by decide) z⟩)
        · rw [A0] at this
          exact this
        · rcases (show j2 = 0 ∨ j2 = 1 by omega) with rfl | rfl
          · exact g0b rfl
          · exact g1b rfl
    · refine FQ.refuse hI (.int (-1)) ?_ ?_
      · refine sg_X10_rest_0 σ _ _ _ ?_
        refine ⟨_, σ, ev_X10_isBetween σ _ _ _, ?_⟩
        rw [show f_X10_isBetween σ (nI n) (1 : Int32) (30 : Int32) = 1 from bt_t σ (a := 1) (m := 30) ⟨by omega, by omega⟩ (by decide)]
        first | refine g1a ?_ | refine g1b ?_ | refine g0a ?_ | refine g0b ?_
        refine ⟨_, σ, ev_X10_isBetween σ _ _ _, ?_⟩
        rw [show f_X10_isBetween σ x2 (0 : Int32) (1 : Int32) = 0 from h2 σ]
        first | refine g1a ?_ | refine g1b ?_ | refine g0a ?_ | refine g0b ?_
        rfl
      · refine sg_X11_rest_0 σ _ _ _ ?_
        refine ⟨_, σ, ev_X11_isIn σ _ _ _, ?_⟩
        rw [show f_X11_isIn σ (nI n) (1 : Int32) (30 : Int32) = 1 from bt_t σ (a := 1) (m := 30) ⟨by omega, by omega⟩ (by decide)]
        first | refine g1a ?_ | refine g1b ?_ | refine g0a ?_ | refine g0b ?_
        refine ⟨_, σ, ev_X11_isIn σ _ _ _, ?_⟩
        rw [show f_X11_isIn σ x2 (0 : Int32) (1 : Int32) = 0 from h2 σ]
        first | refine g1a ?_ | refine g1b ?_ | refine g0a ?_ | refine g0b ?_
        rfl
  · refine FQ.refuse hI (.int (-1)) ?_ ?_
    · refine sg_X10_rest_0 σ _ _ _ ?_
      refine ⟨_, σ, ev_X10_isBetween σ _ _ _, ?_⟩
      rw [show f_X10_isBetween σ x1 (1 : Int32) (30 : Int32) = 0 from h1 σ]
      first | refine g1a ?_ | refine g1b ?_ | refine g0a ?_ | refine g0b ?_
      rfl
    · refine sg_X11_rest_0 σ _ _ _ ?_
      refine ⟨_, σ, ev_X11_isIn σ _ _ _, ?_⟩
      rw [show f_X11_isIn σ x1 (1 : Int32) (30 : Int32) = 0 from h1 σ]
      first | refine g1a ?_ | refine g1b ?_ | refine g0a ?_ | refine g0b ?_
      rfl
theorem F_milk {σ : mm_Sg} (hI : Inv σ) (x1 : Int32) : FQ mm_m_X10_milk mm_m_X11_milk [.int x1] σ := by
  obtain ⟨⟨R, hcp⟩, hi, z53, z54, z55, hs⟩ := id hI
  obtain ⟨wf, r4, r5, r6, hx, hm⟩ := id hcp
  have h0 : σ 10 6 = nI (R 0) := hx.1
  have m0 : σ 52 0 = nI (R 0) := by rw [hm]; rfl
  have w7 := wf.1
  rcases bt_c x1 0 30 (by decide) (by decide) with ⟨n, hn1, hn2, rfl⟩ | h1
  · obtain ⟨g, eg⟩ : ∃ g : Nat → Nat, g = fun k => n_owed (n_days n (nup R 4 (2 ^ k))) := ⟨_, rfl⟩
    have hg : ∀ k, n_owed (n_days n (nup R 4 (2 ^ k))) = g k := fun w => by rw [eg]
    obtain ⟨A, eA⟩ : ∃ A, A = n_ax (-4, nI (n_owed (n_days n R))) g := ⟨_, rfl⟩
    have A0 : A 0 = (-4, nI (n_owed (n_days n R))) := by rw [eA]; rfl
    obtain ⟨s0, g0, y0, t0⟩ := xW_think (n := n) hx wf r4 r5 r6 (by omega)
    obtain ⟨⟨σ1, d5⟩, t1, g1⟩ := mm_run (M := mm_m_X10_milk) (α := mm_Sg × Value) (fun j s => (31, [.ref 0, .int (nI n), .int (A j).2, .int (A j).1, .int (nI j), s.2], [], s.1)) (R 0) (fun _ s => xTh σ s.1)
      (fun j s hj t => by
        obtain ⟨s, d5⟩ := s
        dsimp only at t ⊢
        obtain ⟨s', g', t'⟩ := xW_obM (k := j) (n := n) (hcp.xth t) (by omega) (by omega)
        rw [hg] at g'
        have e0 : s 10 6 = nI (R 0) := by rw [t 10 (by omega)]; exact h0
        refine ⟨(s', .int (nI (g j))), t.trans t', fun X hX => sg_X10_milk_31 s _ _ _ _ d5 X ⟨fun z => absurd (by rw [e0] at z; exact z) (nI_ge hj (by omega)), fun _ => ⟨_, s', g', fun q => ?_, fun q => ?_⟩⟩⟩
        · rw [nI_1]
          rw [eA, n_axf (by rw [← eA]; exact le_nlt q), ← eA] at hX
          exact hX
        · rw [nI_1]
          rw [eA, n_axt (by
            rw [← eA]
            rcases Classical.em (nI (g j) < (A j).2) with l | l
            · exact l
            · exact absurd (nlt_le l) q)] at hX
          exact hX)
      (R 0) 0 (s0, .null) (by omega) t0
    dsimp only at t1 g1
    rw [A0] at g1
    have hcp1 := hcp.xth t1
    obtain ⟨s2, g2, y2, t2⟩ := mW_owedNow (n := n) (R := R) (σ := σ1) hcp1.2.2.2.2.2 wf (z53_think z53 t1) (by omega)
    have wd := n_wf_days wf n
    obtain ⟨σ2, ⟨t3, z3⟩, g3⟩ := mm_run (M := mm_m_X11_milk) (α := mm_Sg) (fun j s => (24, [.ref 51, .int (nI n), .int (A j).2, .int (A j).1, .int (nI j)], [], s)) (R 0)
      (fun j s => mTh σ1 s ∧ z40 s 53)
      (fun j s hj ⟨t, z⟩ => by
        have e0 : s 52 0 = nI (R 0) := by rw [t 52 (by decide) (by decide), hcp1.2.2.2.2.2]; rfl
        have p7 := n_bitx7 j (by omega)
        obtain ⟨s3, g3, y3, -, t3⟩ := mW_mind (R := R) (by rw [t 52 (by decide) (by decide)]; exact hcp1.2.2.2.2.2) wf z
        obtain ⟨s4, g4, g5, t4, z4⟩ := mW_after (n := n) (s := mm_u s3 53 4 (nI (2 ^ j))) (by rw [mm_u_s, y3, ← ra_up]) (n_wf_milk wf p7.2) (by omega)
        rw [hg] at g5
        refine ⟨s4, ⟨(t.trans t3).trans (mth_u.trans t4), z4⟩, fun X hX => sg_X11_milk_24 s _ _ _ _ X ⟨fun z => absurd (by rw [e0] at z; exact z) (nI_ge hj (by omega)), fun _ => ⟨s3, g3, fun σ5 e5 => ?_⟩⟩⟩
        rw [e5, p7.1, nI_1]
        refine ⟨s4, g4, _, s4, g5, fun q => ⟨_, s4, g5, ?_⟩, fun q => ?_⟩
        · rw [eA] at q hX
          rw [n_axt q] at hX
          exact hX
        · rw [eA] at q hX ⊢
          rw [n_axf q] at hX
          exact hX)
      (R 0) 0 s2 (by omega) ⟨t2, fun i hi => by rw [y2, ra_at, wd.2.2.2.2.2.2.2.2.2 i hi]; rfl⟩
    rw [A0] at g3
    have q2 : MQ2 σ1 σ2 := ⟨fun q _ h1 h2 _ _ => t3 q h1 h2, by rw [t3 51 (by decide) (by decide)], z3⟩
    have e1 : σ1 10 6 = nI (R 0) := by rw [t1 10 (by omega)]; exact h0
    have e2 : σ2 52 0 = nI (R 0) := by rw [t3 52 (by decide) (by decide), hcp1.2.2.2.2.2]; rfl
    refine FQ.look hI (.int (A (R 0)).1) ?_ ?_ (XQ.think t1) q2
    · refine sg_X10_milk_0 σ _ _ ?_
      refine ⟨_, σ, ev_X10_isBetween σ _ _ _, ?_⟩
      rw [show f_X10_isBetween σ (nI n) (0 : Int32) (30 : Int32) = 1 from bt_t σ (a := 0) (m := 30) ⟨by omega, by omega⟩ (by decide)]
      first | refine g1a ?_ | refine g1b ?_ | refine g0a ?_ | refine g0b ?_
      refine ⟨s0, g0, _, s0, xW_owed (Or.inr (Or.inr rfl)) y0 wd, g1 _ (sg_X10_milk_31 σ1 _ _ _ _ d5 _ ⟨fun _ => rfl, fun z => absurd (by rw [e1]; exact nI_le (Nat.le_refl _) (by omega)) z⟩)⟩
    · refine sg_X11_milk_0 σ1 _ _ ?_
      refine ⟨_, σ1, ev_X11_isIn σ1 _ _ _, ?_⟩
      rw [show f_X11_isIn σ1 (nI n) (0 : Int32) (30 : Int32) = 1 from bt_t σ1 (a := 0) (m := 30) ⟨by omega, by omega⟩ (by decide)]
      first | refine g1a ?_ | refine g1b ?_ | refine g0a ?_ | refine g0b ?_
      exact ⟨_, s2, g2, g3 _ (sg_X11_milk_24 σ2 _ _ _ _ _ ⟨fun _ => rfl, fun z => absurd (by rw [e2]; exact nI_le (Nat.le_refl _) (by omega)) z⟩)⟩
  · refine FQ.refuse hI (.int (-1)) ?_ ?_
    · refine sg_X10_milk_0 σ _ _ ?_
      refine ⟨_, σ, ev_X10_isBetween σ _ _ _, ?_⟩
      rw [show f_X10_isBetween σ x1 (0 : Int32) (30 : Int32) = 0 from h1 σ]
      first | refine g1a ?_ | refine g1b ?_ | refine g0a ?_ | refine g0b ?_
      rfl
    · refine sg_X11_milk_0 σ _ _ ?_
      refine ⟨_, σ, ev_X11_isIn σ _ _ _, ?_⟩
      rw [show f_X11_isIn σ x1 (0 : Int32) (30 : Int32) = 0 from h1 σ]
      first | refine g1a ?_ | refine g1b ?_ | refine g0a ?_ | refine g0b ?_
      rfl
