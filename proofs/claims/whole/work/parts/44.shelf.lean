/-! the face: shelves -/
theorem shv_cells {σ σ' : mm_Sg} {d : Nat} (h : shv σ d) (h0 : σ' (32 + 2 * d) = σ (32 + 2 * d)) (h1 : σ' (33 + 2 * d) = σ (33 + 2 * d)) (h2 : ∀ q, 59 ≤ q → q ≤ 63 → σ' q d = σ q d) (h3 : ∀ i, i < 100 → σ' 64 (100 * d + i) = σ 64 (100 * d + i)) : shv σ' d := by
  obtain ⟨a, b, c, e, k1, k2⟩ := h
  refine ⟨a, b, by rw [h0]; exact c, by rw [h2 59 (by omega) (by omega)]; exact e, fun ha => ?_, fun ha => ?_⟩
  · rw [h0, h2 60 (by omega) (by omega), h2 61 (by omega) (by omega)]
    exact k1 ha
  · obtain ⟨s, n, p1, p2, p3, p4, p5, p6, p7, p8⟩ := k2 ha
    rw [h0, h1, h2 62 (by omega) (by omega), h2 63 (by omega) (by omega)]
    exact ⟨s, n, p1, p2, p3, p4, p5, p6, fun i hi => by rw [h3 i hi]; exact p7 i hi, fun hs i hi => by rw [h3 i hi]; exact p8 hs i hi⟩
theorem Inv.shelf {σ σ' : mm_Sg} {d : Nat} (hI : Inv σ) (hn : shv σ' d)
    (ho : ∀ d', d' < 8 → d' ≠ d → (∀ q, 59 ≤ q → q ≤ 63 → σ' q d' = σ q d') ∧ ∀ i, i < 100 → σ' 64 (100 * d' + i) = σ 64 (100 * d' + i))
    (hs : ∀ q, q ≠ 32 + 2 * d → q ≠ 33 + 2 * d → ¬ (59 ≤ q ∧ q ≤ 64) → σ' q = σ q) (hd : d < 8) : Inv σ' := by
  obtain ⟨⟨R, hR⟩, hi, z53, z54, z55, hsh⟩ := hI
  refine ⟨⟨R, cpv_same hR (fun q _ _ => hs q (by omega) (by omega) (by omega)) (hs 52 (by omega) (by omega) (by omega))⟩, ?_, fun i hi => by rw [hs 53 (by omega) (by omega) (by omega)]; exact z53 i hi, fun i hi => by rw [hs 54 (by omega) (by omega) (by omega)]; exact z54 i hi, fun i hi => by rw [hs 55 (by omega) (by omega) (by omega)]; exact z55 i hi, fun d' hd' => ?_⟩
  · rw [hs 0 (by omega) (by omega) (by omega), hs 51 (by omega) (by omega) (by omega)]
    rcases hi with hi | ⟨i1, i2, R', hR'⟩
    · exact Or.inl hi
    · exact Or.inr ⟨i1, i2, R', cpv_same hR' (fun q _ _ => hs q (by omega) (by omega) (by omega)) (hs 54 (by omega) (by omega) (by omega))⟩
  · by_cases e : d' = d
    · subst e; exact hn
    · have := ho d' hd' e
      exact shv_cells (hsh d' hd') (hs _ (by omega) (by omega) (by omega)) (hs _ (by omega) (by omega) (by omega)) this.1 this.2
theorem mm_u_f {σ : mm_Sg} {q k a j : Nat} {x : Int32} (h : j ≠ k) : mm_u σ q k x a j = σ a j := by
  by_cases e : a = q
  · subst e; exact mm_u_k h
  · rw [mm_u_o e]
theorem F_keep {σ : mm_Sg} (hI : Inv σ) (x1 x2 x3 x4 : Int32) : FQ mm_m_X10_keep mm_m_X11_keep [.int x1, .int x2, .int x3, .int x4] σ := by
  obtain ⟨⟨R, hcp⟩, hi, z53, z54, z55, hs⟩ := id hI
  obtain ⟨wf, r4, r5, r6, hx, hm⟩ := id hcp
  have h0 : σ 10 6 = nI (R 0) := hx.1
  have m0 : σ 52 0 = nI (R 0) := by rw [hm]; rfl
  have w7 := wf.1
  by_cases h1 : vp_in x1 8
  · obtain ⟨d, hd, rfl⟩ := vp_in_of h1 (by decide)
    by_cases c0 : x2 = 0
    · subst c0
      have cl := (cl_sh d hd).1
      have v8 : vp_in (nI d) 8 := v_in hd (by decide)
      refine ⟨.int 0, mm_u σ (32 + 2 * d) 0 0, mm_u (mm_u (mm_u (mm_u σ (32 + 2 * d) 0 0) 59 d 0) 60 d x3) 61 d x4, ?_, ?_, ?_⟩
      · refine sg_X10_keep_0 σ _ _ _ _ _ ?_
        refine ⟨_, σ, ev_X10_isShelf σ _, ?_⟩
        rw [x_sh σ hd]
        first | refine g1a ?_ | refine g1b ?_ | refine g0a ?_ | refine g0b ?_
        refine ⟨fun z => absurd rfl z, fun _ => ⟨v8, by rw [nI_clamp (by omega)]; exact cl, fun σ25 e25 => ?_⟩⟩
        rw [e25, nI_clamp (by omega)]
      · refine sg_X11_keep_0 (mm_u σ (32 + 2 * d) 0 0) _ _ _ _ _ ?_
        refine ⟨_, (mm_u σ (32 + 2 * d) 0 0), ev_X11_isShelf (mm_u σ (32 + 2 * d) 0 0) _, ?_⟩
        rw [m_sh (mm_u σ (32 + 2 * d) 0 0) hd]
        first | refine g1a ?_ | refine g1b ?_ | refine g0a ?_ | refine g0b ?_
        refine ⟨_, (mm_u σ (32 + 2 * d) 0 0), ev_X11_isIn (mm_u σ (32 + 2 * d) 0 0) _ _ _, ?_⟩
        rw [show f_X11_isIn (mm_u σ (32 + 2 * d) 0 0) (0 : Int32) (0 : Int32) (1 : Int32) = 1 from rfl]
        first | refine g1a ?_ | refine g1b ?_ | refine g0a ?_ | refine g0b ?_
        refine ⟨fun _ => ?_, fun z => absurd (show ¬ (0 : Int32) = 1 by decide) z⟩
        refine sg_X11_keep_44 _ _ _ _ _ _ ⟨v8, fun σ2 e2 => ⟨v8, fun σ5 e5 => ⟨v8, fun σ8 e8 => ?_⟩⟩⟩
        rw [nI_clamp (by omega)] at e2 e5 e8
        rw [e8, e5, e2]
      · refine hI.shelf (d := d) ⟨0, by decide, ?_, ?_, fun z => absurd z (by decide), fun z => absurd z (by decide)⟩ (fun d' h1 h2 => ⟨fun q h3 h4 => ?_, fun i hi => ?_⟩) (fun q h1 h2 h3 => by rw [mm_u_o (by omega), mm_u_o (by omega), mm_u_o (by omega), mm_u_o h1]) hd
        · rw [mm_u_o (by omega), mm_u_o (by omega), mm_u_o (by omega), mm_u_kk]; rfl
        · rw [mm_u_o (by omega), mm_u_o (by omega), mm_u_kk]; rfl
        · rw [mm_u_f h2, mm_u_f h2, mm_u_f h2, mm_u_o (by omega)]
        · rw [mm_u_o (by omega), mm_u_o (by omega), mm_u_o (by omega), mm_u_o (by omega)]
    · by_cases c1 : x2 = 1
      · subst c1
        rcases bt_c x3 0 7 (by decide) (by decide) with ⟨k, -, hk, rfl⟩ | h3
        · rcases bt_c x4 0 9 (by decide) (by decide) with ⟨f, -, hf, rfl⟩ | h4
          · have cl := (cl_sh d hd).1
            have v8 : vp_in (nI d) 8 := v_in hd (by decide)
            obtain ⟨s1, es1⟩ : ∃ s1, s1 = mm_u (mm_u (mm_u σ (32 + 2 * d) 0 1) (32 + 2 * d) 1 (nI k)) (32 + 2 * d) 2 (nI f) := ⟨_, rfl⟩
            refine ⟨.int 0, s1, mm_u (mm_u (mm_u s1 59 d 1) 60 d (nI k)) 61 d (nI f), ?_, ?_, ?_⟩
            · refine sg_X10_keep_0 σ _ _ _ _ _ ?_
              refine ⟨_, σ, ev_X10_isShelf σ _, ?_⟩
              rw [x_sh σ hd]
              first | refine g1a ?_ | refine g1b ?_ | refine g0a ?_ | refine g0b ?_
              refine ⟨fun _ => ⟨fun z => absurd rfl z, fun _ => ?_⟩, fun z => absurd (show ¬ (1 : Int32) = 0 by decide) z⟩
              refine ⟨_, σ, ev_X10_isBetween σ _ _ _, ?_⟩
              rw [show f_X10_isBetween σ (nI k) (0 : Int32) (7 : Int32) = 1 from bt_t σ (a := 0) (m := 7) ⟨by omega, by omega⟩ (by decide)]
              first | refine g1a ?_ | refine g1b ?_ | refine g0a ?_ | refine g0b ?_
              refine ⟨_, σ, ev_X10_isBetween σ _ _ _, ?_⟩
              rw [show f_X10_isBetween σ (nI f) (0 : Int32) (9 : Int32) = 1 from bt_t σ (a := 0) (m := 9) ⟨by omega, by omega⟩ (by decide)]
              first | refine g1a ?_ | refine g1b ?_ | refine g0a ?_ | refine g0b ?_
              refine ⟨v8, by rw [nI_clamp (by omega)]; exact cl, fun σ17 e17 σ19 e19 σ21 e21 => ?_⟩
              rw [nI_clamp (by omega)] at e17 e19 e21
              rw [e21, e19, e17, es1]
            · refine sg_X11_keep_0 s1 _ _ _ _ _ ?_
              refine ⟨_, s1, ev_X11_isShelf s1 _, ?_⟩
              rw [m_sh s1 hd]
              first | refine g1a ?_ | refine g1b ?_ | refine g0a ?_ | refine g0b ?_
              refine ⟨_, s1, ev_X11_isIn s1 _ _ _, ?_⟩
              rw [show f_X11_isIn s1 (1 : Int32) (0 : Int32) (1 : Int32) = 1 from rfl]
              first | refine g1a ?_ | refine g1b ?_ | refine g0a ?_ | refine g0b ?_
              refine ⟨fun z => absurd rfl z, fun _ => ?_⟩
              refine ⟨_, s1, ev_X11_isIn s1 _ _ _, ?_⟩
              rw [show f_X11_isIn s1 (nI k) (0 : Int32) (7 : Int32) = 1 from bt_t s1 (a := 0) (m := 7) ⟨by omega, by omega⟩ (by decide)]
              first | refine g1a ?_ | refine g1b ?_ | refine g0a ?_ | refine g0b ?_
              refine ⟨_, s1, ev_X11_isIn s1 _ _ _, ?_⟩
              rw [show f_X11_isIn s1 (nI f) (0 : Int32) (9 : Int32) = 1 from bt_t s1 (a := 0) (m := 9) ⟨by omega, by omega⟩ (by decide)]
              first | refine g1a ?_ | refine g1b ?_ | refine g0a ?_ | refine g0b ?_
              refine sg_X11_keep_44 _ _ _ _ _ _ ⟨v8, fun σ2 e2 => ⟨v8, fun σ5 e5 => ⟨v8, fun σ8 e8 => ?_⟩⟩⟩
              rw [nI_clamp (by omega)] at e2 e5 e8
              rw [e8, e5, e2]
            · refine hI.shelf (d := d) ⟨1, by decide, ?_, ?_, fun _ => ⟨k, f, by omega, by omega, ?_, ?_, ?_, ?_⟩, fun z => absurd z (by decide)⟩ (fun d' h1 h2 => ⟨fun q h3 h4 => ?_, fun i hi => ?_⟩) (fun q h1 h2 h3 => by rw [mm_u_o (by omega), mm_u_o (by omega), mm_u_o (by omega), es1, mm_u_o h1, mm_u_o h1, mm_u_o h1]) hd
              · rw [mm_u_o (by omega), mm_u_o (by omega), mm_u_o (by omega), es1, mm_u_k (by omega), mm_u_k (by omega), mm_u_kk]; rfl
              · rw [mm_u_o (by omega), mm_u_o (by omega), mm_u_kk]; rfl
              · rw [mm_u_o (by omega), mm_u_o (by omega), mm_u_o (by omega), es1, mm_u_k (by omega), mm_u_kk]
              · rw [mm_u_o (by omega), mm_u_kk]
              · rw [mm_u_o (by omega), mm_u_o (by omega), mm_u_o (by omega), es1, mm_u_kk]
              · rw [mm_u_kk]
              · rw [mm_u_f h2, mm_u_f h2, mm_u_f h2, es1, mm_u_o (by omega), mm_u_o (by omega), mm_u_o (by omega)]
              · rw [mm_u_o (by omega), mm_u_o (by omega), mm_u_o (by omega), es1, mm_u_o (by omega), mm_u_o (by omega), mm_u_o (by omega)]
          · refine FQ.refuse hI (.int (-1)) ?_ ?_
            · refine sg_X10_keep_0 σ _ _ _ _ _ ?_
              refine ⟨_, σ, ev_X10_isShelf σ _, ?_⟩
              rw [x_sh σ hd]
              first | refine g1a ?_ | refine g1b ?_ | refine g0a ?_ | refine g0b ?_
              refine ⟨fun _ => ⟨fun z => absurd rfl z, fun _ => ?_⟩, fun z => absurd (show ¬ (1 : Int32) = 0 by decide) z⟩
              refine ⟨_, σ, ev_X10_isBetween σ _ _ _, ?_⟩
              rw [show f_X10_isBetween σ (nI k) (0 : Int32) (7 : Int32) = 1 from bt_t σ (a := 0) (m := 7) ⟨by omega, by omega⟩ (by decide)]
              first | refine g1a ?_ | refine g1b ?_ | refine g0a ?_ | refine g0b ?_
              refine ⟨_, σ, ev_X10_isBetween σ _ _ _, ?_⟩
              rw [show f_X10_isBetween σ x4 (0 : Int32) (9 : Int32) = 0 from h4 σ]
              first | refine g1a ?_ | refine g1b ?_ | refine g0a ?_ | refine g0b ?_
              rfl
            · refine sg_X11_keep_0 σ _ _ _ _ _ ?_
              refine ⟨_, σ, ev_X11_isShelf σ _, ?_⟩
              rw [m_sh σ hd]
              first | refine g1a ?_ | refine g1b ?_ | refine g0a ?_ | refine g0b ?_
              refine ⟨_, σ, ev_X11_isIn σ _ _ _, ?_⟩
              rw [show f_X11_isIn σ (1 : Int32) (0 : Int32) (1 : Int32) = 1 from rfl]
              first | refine g1a ?_ | refine g1b ?_ | refine g0a ?_ | refine g0b ?_
              refine ⟨fun z => absurd rfl z, fun _ => ?_⟩
              refine ⟨_, σ, ev_X11_isIn σ _ _ _, ?_⟩
              rw [show f_X11_isIn σ (nI k) (0 : Int32) (7 : Int32) = 1 from bt_t σ (a := 0) (m := 7) ⟨by omega, by omega⟩ (by decide)]
              first | refine g1a ?_ | refine g1b ?_ | refine g0a ?_ | refine g0b ?_
              refine ⟨_, σ, ev_X11_isIn σ _ _ _, ?_⟩
              rw [show f_X11_isIn σ x4 (0 : Int32) (9 : Int32) = 0 from h4 σ]
              first | refine g1a ?_ | refine g1b ?_ | refine g0a ?_ | refine g0b ?_
              rfl
        · refine FQ.refuse hI (.int (-1)) ?_ ?_
          · refine sg_X10_keep_0 σ _ _ _ _ _ ?_
            refine ⟨_, σ, ev_X10_isShelf σ _, ?_⟩
            rw [x_sh σ hd]
            first | refine g1a ?_ | refine g1b ?_ | refine g0a ?_ | refine g0b ?_
            refine ⟨fun _ => ⟨fun z => absurd rfl z, fun _ => ?_⟩, fun z => absurd (show ¬ (1 : Int32) = 0 by decide) z⟩
            refine ⟨_, σ, ev_X10_isBetween σ _ _ _, ?_⟩
            rw [show f_X10_isBetween σ x3 (0 : Int32) (7 : Int32) = 0 from h3 σ]
            first | refine g1a ?_ | refine g1b ?_ | refine g0a ?_ | refine g0b ?_
            rfl
          · refine sg_X11_keep_0 σ _ _ _ _ _ ?_
            refine ⟨_, σ, ev_X11_isShelf σ _, ?_⟩
            rw [m_sh σ hd]
            first | refine g1a ?_ | refine g1b ?_ | refine g0a ?_ | refine g0b ?_
            refine ⟨_, σ, ev_X11_isIn σ _ _ _, ?_⟩
            rw [show f_X11_isIn σ (1 : Int32) (0 : Int32) (1 : Int32) = 1 from rfl]
            first | refine g1a ?_ | refine g1b ?_ | refine g0a ?_ | refine g0b ?_
            refine ⟨fun z => absurd rfl z, fun _ => ?_⟩
            refine ⟨_, σ, ev_X11_isIn σ _ _ _, ?_⟩
            rw [show f_X11_isIn σ x3 (0 : Int32) (7 : Int32) = 0 from h3 σ]
            first | refine g1a ?_ | refine g1b ?_ | refine g0a ?_ | refine g0b ?_
            rfl
      · have c01 : f_X10_isBetween σ x2 (0 : Int32) (1 : Int32) = 0 := by
          rcases bt_c x2 0 1 (by decide) (by decide) with ⟨j, -, hj, rfl⟩ | h2
          · rcases (show j = 0 ∨ j = 1 by omega) with rfl | rfl
            · exact absurd rfl c0
            · exact absurd rfl c1
          · exact h2 σ
        refine FQ.refuse hI (.int (-1)) ?_ ?_
        · refine sg_X10_keep_0 σ _ _ _ _ _ ?_
          refine ⟨_, σ, ev_X10_isShelf σ _, ?_⟩
          rw [x_sh σ hd]
          first | refine g1a ?_ | refine g1b ?_ | refine g0a ?_ | refine g0b ?_
          refine ⟨fun _ => ⟨fun _ => ?_, fun z => absurd c1 z⟩, fun z => absurd c0 z⟩
          rfl
        · refine sg_X11_keep_0 σ _ _ _ _ _ ?_
          refine ⟨_, σ, ev_X11_isShelf σ _, ?_⟩
          rw [m_sh σ hd]
          first | refine g1a ?_ | refine g1b ?_ | refine g0a ?_ | refine g0b ?_
          refine ⟨_, σ, ev_X11_isIn σ _ _ _, ?_⟩
          rw [show f_X11_isIn σ x2 (0 : Int32) (1 : Int32) = 0 from c01]
          first | refine g1a ?_ | refine g1b ?_ | refine g0a ?_ | refine g0b ?_
          rfl
  · refine FQ.refuse hI (.int (-1)) ?_ ?_
    · refine sg_X10_keep_0 σ _ _ _ _ _ ?_
      refine ⟨_, σ, ev_X10_isShelf σ _, ?_⟩
      rw [x_shf σ h1]
      first | refine g1a ?_ | refine g1b ?_ | refine g0a ?_ | refine g0b ?_
      rfl
    · refine sg_X11_keep_0 σ _ _ _ _ _ ?_
      refine ⟨_, σ, ev_X11_isShelf σ _, ?_⟩
      rw [m_shf σ h1]
      first | refine g1a ?_ | refine g1b ?_ | refine g0a ?_ | refine g0b ?_
      rfl
theorem n_cap {n : Nat} (h : n ≤ 100) : (if (0 : Int32) < (if (100 : Int32) < nI n then (100 : Int32) else nI n) then (if (100 : Int32) < nI n then (100 : Int32) else nI n) else (0 : Int32)) = nI n := by
  have h1 : ¬ (100 : Int32) < nI n := nI_nlt (a := 100) h (by decide)
  rw [if_neg h1]
  by_cases e : n = 0
  · subst e; rfl
  · rw [if_pos (show (0 : Int32) < nI n from nI_lt (a := 0) (by omega) (by omega))]
theorem F_row {σ : mm_Sg} (hI : Inv σ) (x1 x2 x3 : Int32) : FQ mm_m_X10_row mm_m_X11_row [.int x1, .int x2, .int x3] σ := by
  obtain ⟨⟨R, hcp⟩, hi, z53, z54, z55, hs⟩ := id hI
  obtain ⟨wf, r4, r5, r6, hx, hm⟩ := id hcp
  have h0 : σ 10 6 = nI (R 0) := hx.1
  have m0 : σ 52 0 = nI (R 0) := by rw [hm]; rfl
  have w7 := wf.1
  by_cases h1 : vp_in x1 8
  · obtain ⟨d, hd, rfl⟩ := vp_in_of h1 (by decide)
    rcases bt_c x2 0 2 (by decide) (by decide) with ⟨s, -, hs2, rfl⟩ | h2
    · by_cases c1 : x3 ≤ 100
      · by_cases c0 : 0 ≤ x3
        · obtain ⟨n, hn, rfl⟩ : ∃ n : Nat, n ≤ 100 ∧ x3 = nI n := nI_of2 (M := 100) rfl (le_nlt c0) c1
          have cl := cl_sh d hd
          have v8 : vp_in (nI d) 8 := v_in hd (by decide)
          obtain ⟨s0, es0⟩ : ∃ s0, s0 = mm_u (mm_u (mm_u σ (32 + 2 * d) 0 2) (32 + 2 * d) 3 (nI s)) (32 + 2 * d) 4 (nI n) := ⟨_, rfl⟩
          obtain ⟨s1, g1, f1, -, f3⟩ := jW_fill (σ := s0) (a := 33 + 2 * d) (x := 0) (by rw [cl.2]; decide) (by rw [cl.2]; decide)
          rw [cl.2] at f1
          obtain ⟨s2, es2⟩ : ∃ s2, s2 = mm_u (mm_u (mm_u s1 59 d 2) 62 d (nI s)) 63 d (nI n) := ⟨_, rfl⟩
          obtain ⟨σ2, ⟨k1, k2, k3⟩, g2⟩ := mm_run (M := mm_m_X11_row) (α := mm_Sg) (fun j q => (55, [.ref 51, .int (nI d), .int (nI s), .int (nI n), .int (nI j)], [], q)) 100 (fun j q => (∀ i, i < j → q 64 (100 * d + i) = 0) ∧ (∀ i, i < 100 * d ∨ 100 * d + 100 ≤ i → q 64 i = s2 64 i) ∧ ∀ a, a ≠ 64 → q a = s2 a)
            (fun j q hj ⟨h1, h2, h3⟩ => by
              refine ⟨mm_u q 64 (100 * d + j) 0, ⟨fun i hi => ?_, fun i hi => by rw [mm_u_k (by omega)]; exact h2 i hi, fun a ha => by rw [mm_u_o ha]; exact h3 a ha⟩, fun X hX => sg_X11_row_55 q _ _ _ _ X ⟨fun z => absurd z (nI_ge (b := 100) hj (by decide)), fun _ => ?_⟩⟩
              · by_cases e : i = j
                · subst e; rw [mm_u_kk]
                · rw [mm_u_k (by omega)]; exact h1 i (by omega)
              · rw [n_hund, nI_clamp (by omega), nI_1]
                refine ⟨v_in (N := 800) (by omega) (by decide), fun σ3 e3 => ?_⟩
                rw [e3]
                exact hX)
            100 0 s2 rfl ⟨fun i hi => absurd hi (by omega), fun _ _ => rfl, fun _ _ => rfl⟩
          have fs : ∀ q, q ≠ 32 + 2 * d → q ≠ 33 + 2 * d → s1 q = σ q := fun q h1 h2 => by rw [f3 q h2, es0, mm_u_o h1, mm_u_o h1, mm_u_o h1]
          refine ⟨.int 0, s1, σ2, ?_, ?_, ?_⟩
          · refine sg_X10_row_0 σ _ _ _ _ ?_
            refine ⟨_, σ, ev_X10_isShelf σ _, ?_⟩
            rw [x_sh σ hd]
            first | refine g1a ?_ | refine g1b ?_ | refine g0a ?_ | refine g0b ?_
            refine ⟨_, σ, ev_X10_isBetween σ _ _ _, ?_⟩
            rw [show f_X10_isBetween σ (nI s) (0 : Int32) (2 : Int32) = 1 from bt_t σ (a := 0) (m := 2) ⟨by omega, by omega⟩ (by decide)]
            first | refine g1a ?_ | refine g1b ?_ | refine g0a ?_ | refine g0b ?_
            refine ⟨fun _ => ⟨fun _ => ⟨v8, by rw [nI_clamp (by omega)]; exact cl.1, s1, ?_, rfl⟩, fun z => absurd (nI_pos' (by omega)) z⟩, fun z => absurd (nI_le (b := 100) hn (by decide)) z⟩
            rw [nI_clamp (by omega)]
            refine sg_X8_becomeRow_0 σ _ _ _ _ ⟨cl.1, fun σ2 e2 σ4 e4 σ6 e6 => ?_⟩
            rw [n_cap hn, e4, e2, ← es0] at e6
            rw [e6, show 32 + 2 * d + 1 = 33 + 2 * d by omega]
            exact ⟨s1, g1, rfl⟩
          · refine sg_X11_row_0 s1 _ _ _ _ ?_
            refine ⟨_, s1, ev_X11_isShelf s1 _, ?_⟩
            rw [m_sh s1 hd]
            first | refine g1a ?_ | refine g1b ?_ | refine g0a ?_ | refine g0b ?_
            refine ⟨_, s1, ev_X11_isIn s1 _ _ _, ?_⟩
            rw [show f_X11_isIn s1 (nI s) (0 : Int32) (2 : Int32) = 1 from bt_t s1 (a := 0) (m := 2) ⟨by omega, by omega⟩ (by decide)]
            first | refine g1a ?_ | refine g1b ?_ | refine g0a ?_ | refine g0b ?_
            refine ⟨fun _ => ⟨fun _ => ⟨v8, fun σ12 e12 => ⟨v8, fun σ15 e15 => ⟨v8, fun σ18 e18 => ?_⟩⟩⟩, fun z => absurd (nI_pos' (by omega)) z⟩, fun z => absurd (nI_le (b := 100) hn (by decide)) z⟩
            rw [nI_clamp (by omega)] at e12 e15 e18
            rw [e15, e12, ← es2] at e18
            rw [e18]
            exact g2 _ (sg_X11_row_55 σ2 _ _ _ _ _ ⟨fun _ => rfl, fun z => absurd (show (100 : Int32) ≤ nI 100 by decide) z⟩)
          · have q32 : σ2 (32 + 2 * d) = s0 (32 + 2 * d) := by rw [k3 _ (by omega), es2, mm_u_o (by omega), mm_u_o (by omega), mm_u_o (by omega), f3 _ (by omega)]
            have q33 : σ2 (33 + 2 * d) = s1 (33 + 2 * d) := by rw [k3 _ (by omega), es2, mm_u_o (by omega), mm_u_o (by omega), mm_u_o (by omega)]
            refine hI.shelf (d := d) ⟨2, by decide, ?_, ?_, fun z => absurd z (by decide), fun _ => ⟨s, n, by omega, hn, ?_, ?_, ?_, ?_, fun i hi => ?_, fun _ i hi => ?_⟩⟩ (fun d' h1 h2 => ⟨fun q h3 h4 => ?_, fun i hi => ?_⟩) (fun q h1 h2 h3 => by rw [k3 q (by omega), es2, mm_u_o (by omega), mm_u_o (by omega), mm_u_o (by omega), fs q h1 h2]) hd
            · rw [q32, es0, mm_u_k (by omega), mm_u_k (by omega), mm_u_kk]; rfl
            · rw [k3 59 (by decide), es2, mm_u_o (by omega), mm_u_o (by omega), mm_u_kk]; rfl
            · rw [q32, es0, mm_u_k (by omega), mm_u_kk]
            · rw [k3 62 (by decide), es2, mm_u_o (by omega), mm_u_kk]
            · rw [q32, es0, mm_u_kk]
            · rw [k3 63 (by decide), es2, mm_u_kk]
            · rw [q33, f1 i hi, k1 i hi]
            · rw [k1 i hi]; decide
            · rw [k3 q (by omega), es2, mm_u_f h2, mm_u_f h2, mm_u_f h2, fs q (by omega) (by omega)]
            · rw [k2 _ (by omega), es2, mm_u_o (by omega), mm_u_o (by omega), mm_u_o (by omega), fs 64 (by omega) (by omega)]
        · refine FQ.refuse hI (.int (-14)) ?_ ?_
          · refine sg_X10_row_0 σ _ _ _ _ ?_
            refine ⟨_, σ, ev_X10_isShelf σ _, ?_⟩
            rw [x_sh σ hd]
            first | refine g1a ?_ | refine g1b ?_ | refine g0a ?_ | refine g0b ?_
            refine ⟨_, σ, ev_X10_isBetween σ _ _ _, ?_⟩
            rw [show f_X10_isBetween σ (nI s) (0 : Int32) (2 : Int32) = 1 from bt_t σ (a := 0) (m := 2) ⟨by omega, by omega⟩ (by decide)]
            first | refine g1a ?_ | refine g1b ?_ | refine g0a ?_ | refine g0b ?_
            refine ⟨fun _ => ⟨fun z => absurd z c0, fun _ => ?_⟩, fun z => absurd c1 z⟩
            rfl
          · refine sg_X11_row_0 σ _ _ _ _ ?_
            refine ⟨_, σ, ev_X11_isShelf σ _, ?_⟩
            rw [m_sh σ hd]
            first | refine g1a ?_ | refine g1b ?_ | refine g0a ?_ | refine g0b ?_
            refine ⟨_, σ, ev_X11_isIn σ _ _ _, ?_⟩
            rw [show f_X11_isIn σ (nI s) (0 : Int32) (2 : Int32) = 1 from bt_t σ (a := 0) (m := 2) ⟨by omega, by omega⟩ (by decide)]
            first | refine g1a ?_ | refine g1b ?_ | refine g0a ?_ | refine g0b ?_
            refine ⟨fun _ => ⟨fun z => absurd z c0, fun _ => ?_⟩, fun z => absurd c1 z⟩
            rfl
      · refine FQ.refuse hI (.int (-1)) ?_ ?_
        · refine sg_X10_row_0 σ _ _ _ _ ?_
          refine ⟨_, σ, ev_X10_isShelf σ _, ?_⟩
          rw [x_sh σ hd]
          first | refine g1a ?_ | refine g1b ?_ | refine g0a ?_ | refine g0b ?_
          refine ⟨_, σ, ev_X10_isBetween σ _ _ _, ?_⟩
          rw [show f_X10_isBetween σ (nI s) (0 : Int32) (2 : Int32) = 1 from bt_t σ (a := 0) (m := 2) ⟨by omega, by omega⟩ (by decide)]
          first | refine g1a ?_ | refine g1b ?_ | refine g0a ?_ | refine g0b ?_
          refine ⟨fun z => absurd z c1, fun _ => ?_⟩
          rfl
        · refine sg_X11_row_0 σ _ _ _ _ ?_
          refine ⟨_, σ, ev_X11_isShelf σ _, ?_⟩
          rw [m_sh σ hd]
          first | refine g1a ?_ | refine g1b ?_ | refine g0a ?_ | refine g0b ?_
          refine ⟨_, σ, ev_X11_isIn σ _ _ _, ?_⟩
          rw [show f_X11_isIn σ (nI s) (0 : Int32) (2 : Int32) = 1 from bt_t σ (a := 0) (m := 2) ⟨by omega, by omega⟩ (by decide)]
          first | refine g1a ?_ | refine g1b ?_ | refine g0a ?_ | refine g0b ?_
          refine ⟨fun z => absurd z c1, fun _ => ?_⟩
          rfl
    · refine FQ.refuse hI (.int (-1)) ?_ ?_
      · refine sg_X10_row_0 σ _ _ _ _ ?_
        refine ⟨_, σ, ev_X10_isShelf σ _, ?_⟩
        rw [x_sh σ hd]
        first | refine g1a ?_ | refine g1b ?_ | refine g0a ?_ | refine g0b ?_
        refine ⟨_, σ, ev_X10_isBetween σ _ _ _, ?_⟩
        rw [show f_X10_isBetween σ x2 (0 : Int32) (2 : Int32) = 0 from h2 σ]
        first | refine g1a ?_ | refine g1b ?_ | refine g0a ?_ | refine g0b ?_
        rfl
      · refine sg_X11_row_0 σ _ _ _ _ ?_
        refine ⟨_, σ, ev_X11_isShelf σ _, ?_⟩
        rw [m_sh σ hd]
        first | refine g1a ?_ | refine g1b ?_ | refine g0a ?_ | refine g0b ?_
        refine ⟨_, σ, ev_X11_isIn σ _ _ _, ?_⟩
        rw [show f_X11_isIn σ x2 (0 : Int32) (2 : Int32) = 0 from h2 σ]
        first | refine g1a ?_ | refine g1b ?_ | refine g0a ?_ | refine g0b ?_
        rfl
  · refine FQ.refuse hI (.int (-1)) ?_ ?_
    · refine sg_X10_row_0 σ _ _ _ _ ?_
      refine ⟨_, σ, ev_X10_isShelf σ _, ?_⟩
      rw [x_shf σ h1]
      first | refine g1a ?_ | refine g1b ?_ | refine g0a ?_ | refine g0b ?_
      rfl
    · refine sg_X11_row_0 σ _ _ _ _ ?_
      refine ⟨_, σ, ev_X11_isShelf σ _, ?_⟩
      rw [m_shf σ h1]
      first | refine g1a ?_ | refine g1b ?_ | refine g0a ?_ | refine g0b ?_
      rfl
def n_nar (s : Nat) (x : Int32) : Int32 := if s = 0 then x.toInt8.toInt32 else if s = 1 then x.toInt16.toInt32 else x
theorem n_nar8 (x : Int32) : -128 ≤ (n_nar 0 x).toInt ∧ (n_nar 0 x).toInt ≤ 127 := by
  show -128 ≤ (x.toInt8.toInt32).toInt ∧ (x.toInt8.toInt32).toInt ≤ 127
  rw [Int8.toInt_toInt32]
  have h1 := Int8.le_toInt x.toInt8
  have h2 := Int8.toInt_lt x.toInt8
  omega
theorem F_put {σ : mm_Sg} (hI : Inv σ) (x1 x2 x3 : Int32) : FQ mm_m_X10_put mm_m_X11_put [.int x1, .int x2, .int x3] σ := by
  obtain ⟨⟨R, hcp⟩, hi, z53, z54, z55, hs⟩ := id hI
  obtain ⟨wf, r4, r5, r6, hx, hm⟩ := id hcp
  have h0 : σ 10 6 = nI (R 0) := hx.1
  have m0 : σ 52 0 = nI (R 0) := by rw [hm]; rfl
  have w7 := wf.1
  rcases row_c hs x1 with ⟨d, s, n, hd, rfl, hro, ru, wr⟩ | ⟨v, v0, ru, wr⟩
  · have cl := cl_sh d hd
    have v8 : vp_in (nI d) 8 := v_in hd (by decide)
    obtain ⟨u0, u1, u2, u3, u4, u5, u6, u7, u8, u9⟩ := id hro
    by_cases h2 : vp_in x2 n
    · obtain ⟨i, hi, rfl⟩ := vp_in_of h2 (by omega)
      have e33 : 32 + 2 * d + 1 = 33 + 2 * d := by omega
      have cel : ((100 : Int32) * nI d) + nI i = nI (100 * d + i) := n_hund
      refine ⟨.int 0, mm_u σ (33 + 2 * d) i (n_nar s x3), mm_u (mm_u σ (33 + 2 * d) i (n_nar s x3)) 64 (100 * d + i) (n_nar s x3), ?_, ?_, ?_⟩
      · refine sg_X10_put_0 σ _ _ _ _ ⟨_, σ, ev_RU σ _ _, ?_⟩
        rw [ru]
        refine g0a ⟨v8, by rw [nI_clamp (by omega)]; exact cl.1, ?_⟩
        rw [nI_clamp (by omega)]
        refine ⟨_, σ, ev_X8_hasPlace σ _ _ (fun _ => cl.1), ?_⟩
        rw [x_hp hro hi]
        refine g1b ⟨_, ?_, rfl⟩
        refine sg_X8_setAt_0 σ _ _ _ _ ⟨cl.1, _, σ, ev_X8_hasPlace σ _ _ (fun _ => cl.1), ?_⟩
        rw [x_hp hro hi]
        refine g1b ?_
        rw [u4, e33, cl.2, nI_clamp (by omega)]
        have vi : vp_in (nI i) 100 := v_in (by omega) (by decide)
        rcases (show s = 0 ∨ s = 1 ∨ s = 2 by omega) with rfl | rfl | rfl
        · exact ⟨fun z => absurd rfl z, fun _ => ⟨vi, fun σ15 e15 => by rw [e15]; rfl⟩⟩
        · exact ⟨fun _ => ⟨fun z => absurd rfl z, fun _ => ⟨vi, fun σ12 e12 => by rw [e12]; rfl⟩⟩, fun z => absurd (show ¬ (nI 1 : Int32) = 0 by decide) z⟩
        · exact ⟨fun _ => ⟨fun _ => ⟨vi, fun σ9 e9 => by rw [e9]; rfl⟩, fun z => absurd (show ¬ (nI 2 : Int32) = 1 by decide) z⟩, fun z => absurd (show ¬ (nI 2 : Int32) = 0 by decide) z⟩
      · obtain ⟨s1, es1⟩ : ∃ s1, s1 = mm_u σ (33 + 2 * d) i (n_nar s x3) := ⟨_, rfl⟩
        rw [← es1]
        have w59 : ∀ q, 59 ≤ q → s1 q = σ q := fun q hq => by rw [es1, mm_u_o (by omega)]
        have wr1 : f_X11_wrongRow s1 51 (nI d) (-1) = 0 := by
          rw [← wr]
          unfold f_X11_wrongRow
          rw [w59 59 (by omega), w59 62 (by omega)]
          rfl
        refine sg_X11_put_0 s1 _ _ _ _ ⟨_, s1, ev_WR s1 _ _, ?_⟩
        rw [wr1]
        refine g0a ⟨v8, ?_⟩
        rw [nI_clamp (by omega), w59 63 (by omega), u7]
        refine ⟨_, s1, ev_X11_isIn s1 _ _ _, ?_⟩
        rw [show nI n - (1 : Int32) = nI (n - 1) from pk_sub (b := 1) (by omega), show f_X11_isIn s1 (nI i) (0 : Int32) (nI (n - 1)) = 1 from bt_t s1 (a := 0) (m := n - 1) ⟨by omega, by omega⟩ (by omega)]
        refine g1b ⟨v8, ?_⟩
        rw [w59 62 (by omega), u5, cel, nI_clamp (by omega)]
        have vi : vp_in (nI (100 * d + i)) 800 := v_in (by omega) (by decide)
        rcases (show s = 0 ∨ s = 1 ∨ s = 2 by omega) with rfl | rfl | rfl
        · exact ⟨fun z => absurd rfl z, fun _ => ⟨vi, fun σ15 e15 => by rw [e15]; rfl⟩⟩
        · exact ⟨fun _ => ⟨fun z => absurd rfl z, fun _ => ⟨vi, fun σ12 e12 => by rw [e12]; rfl⟩⟩, fun z => absurd (show ¬ (nI 1 : Int32) = 0 by decide) z⟩
        · exact ⟨fun _ => ⟨fun _ => ⟨vi, fun σ9 e9 => by rw [e9]; rfl⟩, fun z => absurd (show ¬ (nI 2 : Int32) = 1 by decide) z⟩, fun z => absurd (show ¬ (nI 2 : Int32) = 0 by decide) z⟩
      · refine hI.shelf (d := d) ⟨2, by decide, ?_, ?_, fun z => absurd z (by decide), fun _ => ⟨s, n, u2, u3, ?_, ?_, ?_, ?_, fun j hj => ?_, fun hs0 j hj => ?_⟩⟩ (fun d' h1 h2 => ⟨fun q h3 h4 => ?_, fun j hj => ?_⟩) (fun q h1 h2 h3 => by rw [mm_u_o (by omega), mm_u_o h2]) hd
        · rw [mm_u_o (by omega), mm_u_o (by omega)]; exact u0
        · rw [mm_u_o (by omega), mm_u_o (by omega)]; exact u1
        · rw [mm_u_o (by omega), mm_u_o (by omega)]; exact u4
        · rw [mm_u_o (by omega), mm_u_o (by omega)]; exact u5
        · rw [mm_u_o (by omega), mm_u_o (by omega)]; exact u6
        · rw [mm_u_o (by omega), mm_u_o (by omega)]; exact u7
        · by_cases e : j = i
          · subst e; rw [mm_u_o (by omega), mm_u_kk, mm_u_kk]
          · rw [mm_u_o (by omega), mm_u_k e, mm_u_k (by omega), mm_u_o (by omega)]; exact u8 j hj
        · by_cases e : j = i
          · subst e
            rw [mm_u_kk, hs0]
            exact n_nar8 x3
          · rw [mm_u_k (by omega), mm_u_o (by omega)]; exact u9 hs0 j hj
        · rw [mm_u_o (by omega), mm_u_o (by omega)]
        · rw [mm_u_k (by omega), mm_u_o (by omega)]
    · have np : f_X8_hasPlace σ (32 + 2 * d) x2 = 0 := by
        have hh := ne_vp h2
        unfold f_X8_hasPlace
        by_cases c : x2 < 0
        · rw [if_pos c]
        · rw [if_neg c, u6, if_pos]
          rw [Int32.lt_iff_toInt_lt] at c
          rw [Int32.le_iff_toInt_le, nI_toInt (by omega)]
          have : (0 : Int32).toInt = 0 := rfl
          omega
      have nm : f_X11_isIn σ x2 (0 : Int32) (nI n - (1 : Int32)) = 0 := by
        cases n with
        | zero =>
          have hh := ne_vp h2
          show f_X10_isBetween σ x2 0 (nI 0 - 1) = 0
          unfold f_X10_isBetween
          by_cases c : x2 < 0
          · rw [if_pos c]
          · rw [if_neg c, if_pos]
            rw [Int32.lt_iff_toInt_lt] at c
            rw [Int32.lt_iff_toInt_lt]
            have e1 : (0 : Int32).toInt = 0 := rfl
            have e2 : (nI 0 - (1 : Int32)).toInt = -1 := by decide
            omega
        | succ n =>
          rw [nI_pred]
          exact q_btf σ (a := 0) (by decide) (by omega) h2
      refine FQ.refuse hI (.int (-13)) ?_ ?_
      · refine sg_X10_put_0 σ _ _ _ _ ⟨_, σ, ev_RU σ _ _, ?_⟩
        rw [ru]
        refine g0a ⟨v8, by rw [nI_clamp (by omega)]; exact cl.1, ?_⟩
        rw [nI_clamp (by omega)]
        refine ⟨_, σ, ev_X8_hasPlace σ _ _ (fun _ => cl.1), ?_⟩
        rw [np]
        exact g0b rfl
      · refine sg_X11_put_0 σ _ _ _ _ ⟨_, σ, ev_WR σ _ _, ?_⟩
        rw [wr]
        refine g0a ⟨v8, ?_⟩
        rw [nI_clamp (by omega), u7]
        refine ⟨_, σ, ev_X11_isIn σ _ _ _, ?_⟩
        rw [nm]
        exact g0b rfl
  · refine FQ.refuse hI (.int v) ?_ ?_
    · refine sg_X10_put_0 σ _ _ _ _ ⟨_, σ, ev_RU σ _ _, ?_⟩
      rw [ru]
      exact ⟨fun z => absurd z v0, fun _ => rfl⟩
    · refine sg_X11_put_0 σ _ _ _ _ ⟨_, σ, ev_WR σ _ _, ?_⟩
      rw [wr]
      exact ⟨fun z => absurd z v0, fun _ => rfl⟩
