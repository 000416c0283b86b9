/-! the face: judge, forged, whatIs -/
theorem mW_day1 {σ σ1 : mm_Sg} {R : Nat → Nat} {j : Nat} (y : σ 53 = ra (n_days j R)) (wf : n_wf 999 R) (hj : j < 2000) (t : mTh σ1 σ) : ∃ s', mm_Ev mm_m_X11_day [.ref 51, .ref 53] σ none s' ∧ s' 53 = ra (n_days (j + 1) R) ∧ mTh σ1 s' := by
  obtain ⟨s', g, y', t'⟩ := mW_dayMind y (n_wf_days wf j) (by omega)
  exact ⟨s', g, y', t.trans t'⟩
theorem xW_day1 {σ σ1 : mm_Sg} {R : Nat → Nat} {j : Nat} (y : xr σ 24 (n_days j R)) (wf : n_wf 999 R) (hj : j < 2000) (t : xTh σ1 σ) : ∃ s', mm_Ev mm_m_X1_goDays [.ref 24, .int 1] σ none s' ∧ xr s' 24 (n_days (j + 1) R) ∧ xTh σ1 s' := by
  obtain ⟨s', g, y', -, t'⟩ := xW_goMind (n := 1) y (n_wf_days wf j) (by omega)
  exact ⟨s', g, y', t.trans t'⟩
theorem F_judge {σ : mm_Sg} (hI : Inv σ) (x1 : Int32) : FQ mm_m_X10_judge mm_m_X11_judge [.int x1] σ := by
  obtain ⟨⟨R, hcp⟩, hi, z53, z54, z55, hs⟩ := id hI
  obtain ⟨wf, r4, r5, r6, hx, hm⟩ := id hcp
  have h0 : σ 10 6 = nI (R 0) := hx.1
  have m0 : σ 52 0 = nI (R 0) := by rw [hm]; rfl
  have w7 := wf.1
  rcases row_c hs x1 with ⟨d, s, n, hd, rfl, hro, ru, wr⟩ | ⟨v, v0, ru, wr⟩
  · have hn : n ≤ 100 := hro.2.2.2.1
    obtain ⟨P, eP⟩ : ∃ P : Nat → Bool, P = fun j => !(tld (σ 64 (100 * d + j)) (lst s) (nI (n_days j R 2))) := ⟨_, rfl⟩
    have hP : ∀ j, tld (σ 64 (100 * d + j)) (lst s) (nI (n_days j R 2)) = !(P j) := fun j => by rw [eP]; simp
    obtain ⟨s0, g0, y0, -, t0⟩ := xW_mind hcp
    obtain ⟨σ1, i1, g1, y1, t1⟩ := mm_find (M := mm_m_X10_judge) (fun j s => (34, [.ref 0, .int (nI d), .int 0, .ref (32 + 2 * d), .int (nI j)], [], s)) P n (-4) (fun j s => xr s 24 (n_days j R) ∧ xTh σ s)
      (fun j s0 hj ⟨y, t⟩ hp => by
        have ro := hro.xq hd (XQ.think t)
        have td := x_tld (nI (n_days j R 2)) ro hd hj
        rw [t 64 (by omega), hP, hp] at td
        exact sg_X10_judge_34 s0 _ _ _ _ _ ⟨(cl_sh d hd).1, fun z => absurd (by rw [ro.2.2.2.2.2.2.1] at z; exact z) (nI_ge hj (by omega)), fun _ => ⟨_, s0, by rw [y.2.2.1]; exact td, fun z => absurd (by decide) z, fun _ => rfl⟩⟩)
      (fun j s0 hj ⟨y, t⟩ hp => by
        have ro := hro.xq hd (XQ.think t)
        have td := x_tld (nI (n_days j R 2)) ro hd hj
        rw [t 64 (by omega), hP, hp] at td
        obtain ⟨s', g', y', t'⟩ := xW_day1 y wf (by omega) t
        exact ⟨s', ⟨y', t'⟩, fun X hX => sg_X10_judge_34 s0 _ _ _ _ _ ⟨(cl_sh d hd).1, fun z => absurd (by rw [ro.2.2.2.2.2.2.1] at z; exact z) (nI_ge hj (by omega)), fun _ => ⟨_, s0, by rw [y.2.2.1]; exact td, fun _ => ⟨s', g', by rw [nI_1]; exact hX⟩, fun z => absurd (show ¬ (1 : Int32) = 0 by decide) z⟩⟩⟩)
      (fun s0 ⟨y, t⟩ => by
        have ro := hro.xq hd (XQ.think t)
        exact sg_X10_judge_34 s0 _ _ _ _ _ ⟨(cl_sh d hd).1, fun _ => rfl, fun z => absurd (by rw [ro.2.2.2.2.2.2.1]; exact nI_le (Nat.le_refl _) (by omega)) z⟩)
      n 0 s0 (by omega) ⟨y0, t0⟩
    have m1 : σ1 52 = ra R := by rw [t1 52 (by omega)]; exact hm
    have ro1 := hro.xq hd (XQ.think t1)
    have e64 : σ1 64 = σ 64 := t1 64 (by omega)
    obtain ⟨s2, g2, y2, -, t2⟩ := mW_mind m1 wf (z53_think z53 t1)
    obtain ⟨σ2, i2, g3, y3, t3⟩ := mm_find (M := mm_m_X11_judge) (fun j s => (26, [.ref 51, .int (nI d), .int 0, .int (nI j)], [], s)) P n (-4) (fun j s => s 53 = ra (n_days j R) ∧ mTh σ1 s)
      (fun j s0 hj ⟨y, t⟩ hp => by
        have ro := ro1.mth hd t
        have td := m_tld (nI (n_days j R 2)) ro hd hj
        rw [t 64 (by decide) (by decide), e64, hP, hp] at td
        exact sg_X11_judge_26 s0 _ _ _ _ ⟨v_in (N := 8) hd (by decide), fun z => absurd (by rw [nI_clamp (by omega), ro.2.2.2.2.2.2.2.1] at z; exact z) (nI_ge hj (by omega)), fun _ => ⟨_, s0, by rw [y, ra_at]; exact td, fun z => absurd (by decide) z, fun _ => rfl⟩⟩)
      (fun j s0 hj ⟨y, t⟩ hp => by
        have ro := ro1.mth hd t
        have td := m_tld (nI (n_days j R 2)) ro hd hj
        rw [t 64 (by decide) (by decide), e64, hP, hp] at td
        obtain ⟨s', g', y', t'⟩ := mW_day1 y wf (by omega) t
        exact ⟨s', ⟨y', t'⟩, fun X hX => sg_X11_judge_26 s0 _ _ _ _ ⟨v_in (N := 8) hd (by decide), fun z => absurd (by rw [nI_clamp (by omega), ro.2.2.2.2.2.2.2.1] at z; exact z) (nI_ge hj (by omega)), fun _ => ⟨_, s0, by rw [y, ra_at]; exact td, fun _ => ⟨s', g', by rw [nI_1]; exact hX⟩, fun z => absurd (show ¬ (1 : Int32) = 0 by decide) z⟩⟩⟩)
      (fun s0 ⟨y, t⟩ => by
        have ro := ro1.mth hd t
        exact sg_X11_judge_26 s0 _ _ _ _ ⟨v_in (N := 8) hd (by decide), fun _ => rfl, fun z => absurd (by rw [nI_clamp (by omega), ro.2.2.2.2.2.2.2.1]; exact nI_le (Nat.le_refl _) (by omega)) z⟩)
      n 0 s2 (by omega) ⟨y2, t2⟩
    have wr1 : f_X11_wrongRow σ1 51 (nI d) (-1) = 0 := by
      rw [← wr]
      unfold f_X11_wrongRow
      rw [t1 59 (by omega), t1 62 (by omega)]
      rfl
    refine FQ.look hI (.int (n_fv P n 0 (-4))) ?_ ?_ (XQ.think t1) (MQ2.think t3 y3 (n_wf_days wf i2))
    · refine sg_X10_judge_0 σ _ _ ⟨_, σ, ev_RU σ _ _, ?_⟩
      rw [ru]
      refine g0a ⟨v_in hd (by decide), s0, g0, ?_⟩
      rw [nI_clamp (by omega)]
      exact g1
    · refine sg_X11_judge_0 σ1 _ _ ⟨_, σ1, ev_WR σ1 _ _, ?_⟩
      rw [wr1]
      exact g0a ⟨s2, g2, g3⟩
  · refine FQ.refuse hI (.int v) ?_ ?_
    · refine sg_X10_judge_0 σ _ _ ⟨_, σ, ev_RU σ _ _, ?_⟩
      rw [ru]
      exact ⟨fun z => absurd z v0, fun _ => rfl⟩
    · refine sg_X11_judge_0 σ _ _ ⟨_, σ, ev_WR σ _ _, ?_⟩
      rw [wr]
      exact ⟨fun z => absurd z v0, fun _ => rfl⟩
theorem F_forged {σ : mm_Sg} (hI : Inv σ) (x1 : Int32) : FQ mm_m_X10_forged mm_m_X11_forged [.int x1] σ := by
  obtain ⟨⟨R, hcp⟩, hi, z53, z54, z55, hs⟩ := id hI
  obtain ⟨wf, r4, r5, r6, hx, hm⟩ := id hcp
  have h0 : σ 10 6 = nI (R 0) := hx.1
  have m0 : σ 52 0 = nI (R 0) := by rw [hm]; rfl
  have w7 := wf.1
  rcases row_c hs x1 with ⟨d, s, n, hd, rfl, hro, ru, wr⟩ | ⟨v, v0, ru, wr⟩
  · have hn : n ≤ 100 := hro.2.2.2.1
    obtain ⟨P, eP⟩ : ∃ P : Nat → Bool, P = fun j => !(decide (j < R 0 ∧ nI (R (10 + 4 * j)) = σ 64 (100 * d + j))) := ⟨_, rfl⟩
    have hP1 : ∀ j, P j = true → j < R 0 → ¬ nI (R (10 + 4 * j)) = σ 64 (100 * d + j) := fun j h a b => by
      rw [eP] at h
      simp [a, b] at h
    have hP0 : ∀ j, P j = false → j < R 0 ∧ nI (R (10 + 4 * j)) = σ 64 (100 * d + j) := fun j h => by
      rw [eP] at h
      simpa using h
    obtain ⟨σ1, i1, g1, e1⟩ := mm_find (M := mm_m_X10_forged) (fun j s => (23, [.ref 0, .int (nI d), .int 0, .ref (32 + 2 * d), .int (nI j)], [], s)) P n (-4) (fun _ s => s = σ)
      (fun j s0 hj e hp => by
        subst e
        refine sg_X10_forged_23 s0 _ _ _ _ _ ⟨(cl_sh d hd).1, fun z => absurd (by rw [hro.2.2.2.2.2.2.1] at z; exact z) (nI_ge hj (by omega)), fun _ => ⟨_, s0, ev_X1_has s0 10 _ (fun _ => rfl), ?_⟩⟩
        rw [x_has s0 h0 wf.1 (by omega)]
        by_cases hk : j < R 0
        · rw [if_pos hk]
          refine g1a ⟨v_in (N := 7) (by omega) (by decide), _, s0, ev_X8_at s0 _ _ (cl_sh d hd).1 (fun _ => by rw [show 32 + 2 * d + 1 = 33 + 2 * d by omega, (cl_sh d hd).2]; exact v_in (by omega) (by decide)), ?_⟩
          rw [x_at hro hj, nI_clamp (by omega), xr_o hx (by omega)]
          exact ⟨fun z => absurd z (hP1 j hp hk), fun _ => rfl⟩
        · rw [if_neg hk]
          exact g0a rfl)
      (fun j s0 hj e hp => by
        subst e
        obtain ⟨hk, he⟩ := hP0 j hp
        refine ⟨s0, rfl, fun X hX => sg_X10_forged_23 s0 _ _ _ _ _ ⟨(cl_sh d hd).1, fun z => absurd (by rw [hro.2.2.2.2.2.2.1] at z; exact z) (nI_ge hj (by omega)), fun _ => ⟨_, s0, ev_X1_has s0 10 _ (fun _ => rfl), ?_⟩⟩⟩
        rw [x_has s0 h0 wf.1 (by omega), if_pos hk]
        refine g1a ⟨v_in (N := 7) (by omega) (by decide), _, s0, ev_X8_at s0 _ _ (cl_sh d hd).1 (fun _ => by rw [show 32 + 2 * d + 1 = 33 + 2 * d by omega, (cl_sh d hd).2]; exact v_in (by omega) (by decide)), ?_⟩
        rw [x_at hro hj, nI_clamp (by omega), xr_o hx (by omega), nI_1]
        exact ⟨fun _ => hX, fun z => absurd he z⟩)
      (fun s0 e => by
        subst e
        exact sg_X10_forged_23 s0 _ _ _ _ _ ⟨(cl_sh d hd).1, fun _ => rfl, fun z => absurd (by rw [hro.2.2.2.2.2.2.1]; exact nI_le (Nat.le_refl _) (by omega)) z⟩)
      n 0 σ (by omega) rfl
    obtain ⟨σ2, i2, g2, e2⟩ := mm_find (M := mm_m_X11_forged) (fun j s => (15, [.ref 51, .int (nI d), .int 0, .int (nI j)], [], s)) P n (-4) (fun _ s => s = σ)
      (fun j s0 hj e hp => by
        subst e
        refine sg_X11_forged_15 s0 _ _ _ _ ⟨v_in (N := 8) hd (by decide), fun z => absurd (by rw [nI_clamp (by omega), hro.2.2.2.2.2.2.2.1] at z; exact z) (nI_ge hj (by omega)), fun _ => ⟨_, s0, ev_X11_isDrinker s0 _, ?_⟩⟩
        by_cases hk : j < R 0
        · rw [m_dk s0 m0 wf.1 hk]
          have o3 := n_ofc s0 3 (show j < 7 by omega) (by decide)
          refine g1a ⟨by rw [n_hund]; exact v_in (N := 800) (by omega) (by decide), _, s0, ev_X11_of s0 _ _, o3.2, ?_⟩
          rw [n_hund, nI_clamp (by omega), show (f_X11_of s0 (nI j) (3 : Int32)).toNatClampNeg = 10 + 4 * j from by rw [show (3 : Int32) = nI 3 from rfl, o3.1]; omega, hm, ra_at]
          exact ⟨fun z => absurd z.symm (hP1 j hp hk), fun _ => rfl⟩
        · rw [m_dkf s0 m0 wf.1 (fun z => by
            rw [vp_in_iff, nI_toInt (by omega)] at z
            omega)]
          exact g0a rfl)
      (fun j s0 hj e hp => by
        subst e
        obtain ⟨hk, he⟩ := hP0 j hp
        refine ⟨s0, rfl, fun X hX => sg_X11_forged_15 s0 _ _ _ _ ⟨v_in (N := 8) hd (by decide), fun z => absurd (by rw [nI_clamp (by omega), hro.2.2.2.2.2.2.2.1] at z; exact z) (nI_ge hj (by omega)), fun _ => ⟨_, s0, ev_X11_isDrinker s0 _, ?_⟩⟩⟩
        rw [m_dk s0 m0 wf.1 hk]
        have o3 := n_ofc s0 3 (show j < 7 by omega) (by decide)
        refine g1a ⟨by rw [n_hund]; exact v_in (N := 800) (by omega) (by decide), _, s0, ev_X11_of s0 _ _, o3.2, ?_⟩
        rw [n_hund, nI_clamp (by omega), show (f_X11_of s0 (nI j) (3 : Int32)).toNatClampNeg = 10 + 4 * j from by rw [show (3 : Int32) = nI 3 from rfl, o3.1]; omega, hm, ra_at, nI_1]
        exact ⟨fun _ => hX, fun z => absurd he.symm z⟩)
      (fun s0 e => by
        subst e
        exact sg_X11_forged_15 s0 _ _ _ _ ⟨v_in (N := 8) hd (by decide), fun _ => rfl, fun z => absurd (by rw [nI_clamp (by omega), hro.2.2.2.2.2.2.2.1]; exact nI_le (Nat.le_refl _) (by omega)) z⟩)
      n 0 σ (by omega) rfl
    subst e1
    rw [e2] at g2
    refine FQ.refuse hI (.int (n_fv P n 0 (-4))) ?_ ?_
    · refine sg_X10_forged_0 σ1 _ _ ⟨_, σ1, ev_RU σ1 _ _, ?_⟩
      rw [ru]
      refine g0a ⟨v_in hd (by decide), ?_⟩
      rw [nI_clamp (by omega)]
      exact g1
    · refine sg_X11_forged_0 σ1 _ _ ⟨_, σ1, ev_WR σ1 _ _, ?_⟩
      rw [wr]
      exact g0a g2
  · refine FQ.refuse hI (.int v) ?_ ?_
    · refine sg_X10_forged_0 σ _ _ ⟨_, σ, ev_RU σ _ _, ?_⟩
      rw [ru]
      exact ⟨fun z => absurd z v0, fun _ => rfl⟩
    · refine sg_X11_forged_0 σ _ _ ⟨_, σ, ev_WR σ _ _, ?_⟩
      rw [wr]
      exact ⟨fun z => absurd z v0, fun _ => rfl⟩
theorem n_wf_kind {D : Nat} {R : Nat → Nat} (h : n_wf D R) {k v : Nat} (hk : k < 7) (hv : v < 8) : n_wf D (nup R (7 + 4 * k) v) := by
  obtain ⟨h0, h1, h2, h3, h4, h5, h6, h7, h8, h9⟩ := h
  refine ⟨by rw [nup_o R (by omega)]; exact h0, by rw [nup_o R (by omega)]; exact h1, by rw [nup_o R (by omega)]; exact h2, by rw [nup_o R (by omega)]; exact h3, by rw [nup_o R (by omega)]; exact h4, by rw [nup_o R (by omega)]; exact h5, by rw [nup_o R (by omega)]; exact h6, fun j hj => ?_, fun x hx => ?_, fun i hi => ?_⟩
  · rw [nup_o R (k := 7 + 4 * k) (j := 8 + 4 * j) (by omega), nup_o R (k := 7 + 4 * k) (j := 9 + 4 * j) (by omega), nup_o R (k := 7 + 4 * k) (j := 10 + 4 * j) (by omega)]
    by_cases e : j = k
    · subst e
      rw [nup_s]
      exact ⟨hv, (h7 j hj).2⟩
    · rw [nup_o R (show 7 + 4 * j ≠ 7 + 4 * k by omega)]
      exact h7 j hj
  · rw [nup_o R (by omega)]; exact h8 x hx
  · rw [nup_o R (by omega)]; exact h9 i hi
theorem xr_kind {σ : mm_Sg} {c k v : Nat} {R : Nat → Nat} (h : xr σ c R) (hk : k < 7) : xr (mm_u σ (c + 1) k (nI v)) c (nup R (7 + 4 * k) v) := by
  obtain ⟨h0, h1, h2, h3, h4, h5, h6, h7, h8⟩ := h
  refine ⟨by rw [mm_u_o (by omega), nup_o R (by omega)]; exact h0, by rw [mm_u_o (by omega), nup_o R (by omega)]; exact h1, by rw [mm_u_o (by omega), nup_o R (by omega)]; exact h2, by rw [mm_u_o (by omega), nup_o R (by omega)]; exact h3, by rw [mm_u_o (by omega), nup_o R (by omega)]; exact h4, by rw [mm_u_o (by omega), nup_o R (by omega)]; exact h5, by rw [mm_u_o (by omega), nup_o R (by omega)]; exact h6, fun j hj => ?_, fun x hx => ?_⟩
  · rw [mm_u_o (q := c + 1) (a := c + 2) (by omega), mm_u_o (q := c + 1) (a := c + 3) (by omega), mm_u_o (q := c + 1) (a := c + 4) (by omega), nup_o R (k := 7 + 4 * k) (j := 8 + 4 * j) (by omega), nup_o R (k := 7 + 4 * k) (j := 9 + 4 * j) (by omega), nup_o R (k := 7 + 4 * k) (j := 10 + 4 * j) (by omega)]
    by_cases e : j = k
    · subst e
      rw [mm_u_kk, nup_s]
      exact ⟨rfl, (h7 j hj).2⟩
    · rw [mm_u_k e, nup_o R (show 7 + 4 * j ≠ 7 + 4 * k by omega)]
      exact h7 j hj
  · rw [mm_u_o (by omega), nup_o R (by omega)]
    exact h8 x hx
theorem n_wf_fig {D : Nat} {R : Nat → Nat} (h : n_wf D R) {k v : Nat} (hk : k < 7) (hv : v < 10) : n_wf D (nup R (8 + 4 * k) v) := by
  obtain ⟨h0, h1, h2, h3, h4, h5, h6, h7, h8, h9⟩ := h
  refine ⟨by rw [nup_o R (by omega)]; exact h0, by rw [nup_o R (by omega)]; exact h1, by rw [nup_o R (by omega)]; exact h2, by rw [nup_o R (by omega)]; exact h3, by rw [nup_o R (by omega)]; exact h4, by rw [nup_o R (by omega)]; exact h5, by rw [nup_o R (by omega)]; exact h6, fun j hj => ?_, fun x hx => ?_, fun i hi => ?_⟩
  · rw [nup_o R (k := 8 + 4 * k) (j := 7 + 4 * j) (by omega), nup_o R (k := 8 + 4 * k) (j := 9 + 4 * j) (by omega), nup_o R (k := 8 + 4 * k) (j := 10 + 4 * j) (by omega)]
    by_cases e : j = k
    · subst e
      rw [nup_s]
      exact ⟨(h7 j hj).1, hv, (h7 j hj).2.2⟩
    · rw [nup_o R (show 8 + 4 * j ≠ 8 + 4 * k by omega)]
      exact h7 j hj
  · rw [nup_o R (by omega)]; exact h8 x hx
  · rw [nup_o R (by omega)]; exact h9 i hi
theorem xr_fig {σ : mm_Sg} {c k v : Nat} {R : Nat → Nat} (h : xr σ c R) (hk : k < 7) : xr (mm_u σ (c + 2) k (nI v)) c (nup R (8 + 4 * k) v) := by
  obtain ⟨h0, h1, h2, h3, h4, h5, h6, h7, h8⟩ := h
  refine ⟨by rw [mm_u_o (by omega), nup_o R (by omega)]; exact h0, by rw [mm_u_o (by omega), nup_o R (by omega)]; exact h1, by rw [mm_u_o (by omega), nup_o R (by omega)]; exact h2, by rw [mm_u_o (by omega), nup_o R (by omega)]; exact h3, by rw [mm_u_o (by omega), nup_o R (by omega)]; exact h4, by rw [mm_u_o (by omega), nup_o R (by omega)]; exact h5, by rw [mm_u_o (by omega), nup_o R (by omega)]; exact h6, fun j hj => ?_, fun x hx => ?_⟩
  · rw [mm_u_o (q := c + 2) (a := c + 1) (by omega), mm_u_o (q := c + 2) (a := c + 3) (by omega), mm_u_o (q := c + 2) (a := c + 4) (by omega), nup_o R (k := 8 + 4 * k) (j := 7 + 4 * j) (by omega), nup_o R (k := 8 + 4 * k) (j := 9 + 4 * j) (by omega), nup_o R (k := 8 + 4 * k) (j := 10 + 4 * j) (by omega)]
    by_cases e : j = k
    · subst e
      rw [mm_u_kk, nup_s]
      exact ⟨(h7 j hj).1, rfl, (h7 j hj).2.2⟩
    · rw [mm_u_k e, nup_o R (show 8 + 4 * j ≠ 8 + 4 * k by omega)]
      exact h7 j hj
  · rw [mm_u_o (by omega), nup_o R (by omega)]
    exact h8 x hx
/-- which of the choices fit, as bits -/
def n_fit (P : Nat → Bool) : Nat → Int32
  | 0 => 0
  | v + 1 => if P v = true then n_fit P v ||| ((1 : Int32) <<< (nI v &&& 31)) else n_fit P v
theorem xW_told {σ σ0 : mm_Sg} {T : Nat → Nat} {d s n k : Nat} (y : xr σ 24 T) (wf : n_wf 999 T) (hro : rowOf σ d s n) (hd : d < 8) (hk : k < 7) (t0 : xTh σ0 σ) : ∃ σ', mm_Ev mm_m_X10_mindOwesAsTold [.ref 0, .int (nI k), .ref (32 + 2 * d)] σ (some (.int (if n_alp (fun j => tld (σ 64 (100 * d + j)) (lst s) (nI (n_days j T (10 + 4 * k)))) n = true then 1 else 0))) σ' ∧ xTh σ0 σ' := by
  have hn : n ≤ 100 := hro.2.2.2.1
  obtain ⟨C, eC⟩ : ∃ C : Nat → Bool, C = fun j => tld (σ 64 (100 * d + j)) (lst s) (nI (n_days j T (10 + 4 * k))) := ⟨_, rfl⟩
  rw [← eC]
  have hC : ∀ j, tld (σ 64 (100 * d + j)) (lst s) (nI (n_days j T (10 + 4 * k))) = C j := fun j => by rw [eC]
  obtain ⟨s', i, g, -, t'⟩ := mm_each (M := mm_m_X10_mindOwesAsTold) (fun j s => (2, [.ref 0, .int (nI k), .ref (32 + 2 * d), .int (nI j)], [], s)) C n (fun j s => xr s 24 (n_days j T) ∧ xTh σ s)
    (fun j s0 hj ⟨y, t⟩ hp => by
      have ro := hro.xq hd (XQ.think t)
      have td := x_tld (nI (n_days j T (10 + 4 * k))) ro hd hj
      rw [t 64 (by omega), hC, hp] at td
      refine ⟨s0, j, ⟨y, t⟩, sg_X10_mindOwesAsTold_2 s0 _ _ _ _ ⟨(cl_sh d hd).1, fun z => absurd (by rw [ro.2.2.2.2.2.2.1] at z; exact z) (nI_ge hj (by omega)), fun _ => ⟨v_in (N := 7) hk (by decide), ?_⟩⟩⟩
      rw [nI_clamp (by omega), show s0 28 k = nI (n_days j T (10 + 4 * k)) from xr_o y hk]
      exact ⟨_, s0, td, fun z => absurd (by decide) z, fun _ => rfl⟩)
    (fun j s0 hj ⟨y, t⟩ hp => by
      have ro := hro.xq hd (XQ.think t)
      have td := x_tld (nI (n_days j T (10 + 4 * k))) ro hd hj
      rw [t 64 (by omega), hC, hp] at td
      obtain ⟨s', g', y', t'⟩ := xW_day1 y wf (by omega) t
      refine ⟨s', ⟨y', t'⟩, fun X hX => sg_X10_mindOwesAsTold_2 s0 _ _ _ _ ⟨(cl_sh d hd).1, fun z => absurd (by rw [ro.2.2.2.2.2.2.1] at z; exact z) (nI_ge hj (by omega)), fun _ => ⟨v_in (N := 7) hk (by decide), ?_⟩⟩⟩
      rw [nI_clamp (by omega), show s0 28 k = nI (n_days j T (10 + 4 * k)) from xr_o y hk]
      exact ⟨_, s0, td, fun _ => ⟨s', g', by rw [nI_1]; exact hX⟩, fun z => absurd (show ¬ (1 : Int32) = 0 by decide) z⟩)
    (fun s0 ⟨y, t⟩ => by
      have ro := hro.xq hd (XQ.think t)
      exact sg_X10_mindOwesAsTold_2 s0 _ _ _ _ ⟨(cl_sh d hd).1, fun _ => rfl, fun z => absurd (by rw [ro.2.2.2.2.2.2.1]; exact nI_le (Nat.le_refl _) (by omega)) z⟩)
    n 0 σ (by omega) rfl ⟨y, fun _ _ => rfl⟩
  exact ⟨s', sg_X10_mindOwesAsTold_0 σ _ _ _ g, t0.trans t'⟩
theorem or0 (x : Int32) : x ||| 0 = x := Int32.or_zero
theorem W_whatIs0 {σ : mm_Sg} {R : Nat → Nat} {d s n k : Nat} (hI : Inv σ) (hcp : cpv σ 10 52 R) (z53 : z40 σ 53) (hd : d < 8) (hk : k < R 0) (hro : rowOf σ d s n) (ru : f_X10_refusalUnless σ 0 2 (nI d) = 0) (wr : f_X11_wrongRow σ 51 (nI d) (-1) = 0) : FQ mm_m_X10_whatIs mm_m_X11_whatIs [.int (nI d), .int (nI k), .int (nI 0)] σ := by
  obtain ⟨wf, r4, r5, r6, hx, hm⟩ := id hcp
  have h0 : σ 10 6 = nI (R 0) := hx.1
  have m0 : σ 52 0 = nI (R 0) := by rw [hm]; rfl
  have w7 := wf.1
  have hk7 : k < 7 := by omega
  have hn : n ≤ 100 := hro.2.2.2.1
  obtain ⟨P, eP⟩ : ∃ P : Nat → Bool, P = fun v => n_alp (fun j => tld (σ 64 (100 * d + j)) (lst s) (nI (n_days j (nup R (7 + 4 * k) v) (10 + 4 * k)))) n := ⟨_, rfl⟩
  have hP : ∀ v, n_alp (fun j => tld (σ 64 (100 * d + j)) (lst s) (nI (n_days j (nup R (7 + 4 * k) v) (10 + 4 * k)))) n = P v := fun v => by rw [eP]
  obtain ⟨A, eA⟩ : ∃ A, A = n_fit P := ⟨_, rfl⟩
  have A0 : A 0 = 0 := by rw [eA]; rfl
  have At : ∀ v, P v = true → A (v + 1) = A v ||| ((1 : Int32) <<< (nI v &&& 31)) := fun v h => by rw [eA, n_fit, if_pos h]
  have Af : ∀ v, P v = false → A (v + 1) = A v := fun v h => by rw [eA, n_fit, if_neg (by rw [h]; decide)]
  clear eA
  obtain ⟨σ1, t1, g1⟩ := mm_run (M := mm_m_X10_whatIs) (α := mm_Sg) (fun v s => (64, [.ref 0, .int (nI d), .int (nI k), .int (nI 0), .int 0, .int (A v), .int 8, .int (nI v)], [], s)) 8 (fun _ s => xTh σ s)
    (fun v s0 hv t => by
      obtain ⟨s1, k1, y1, -, u1⟩ := xW_mind (hcp.xth t)
      obtain ⟨s2, k2, u2⟩ := xW_told (xr_kind (v := v) y1 hk7) (n_wf_kind wf hk7 (show v < 8 by omega)) (rowOf_same (hro.xq hd (XQ.think (t.trans u1))) (mm_u_o (by omega)) (mm_u_o (by omega)) (fun q _ _ => mm_u_o (by omega))) hd hk7 ((t.trans u1).trans (xth_u (by omega)))
      rw [mm_u_o (by omega), u1 64 (by omega), t 64 (by omega), hP] at k2
      refine ⟨s2, u2, fun X hX => sg_X10_whatIs_64 s0 _ _ _ _ _ _ _ X ⟨fun z => absurd z (nI_ge (b := 8) (by omega) (by decide)), fun _ => ⟨s1, k1, ?_⟩⟩⟩
      have fin : (vp_in (nI k) 7) ∧ ∀ σ6 : mm_Sg, σ6 = mm_u s1 25 (nI k).toNatClampNeg (nI v) → ((vp_in (nI d) 8) ∧ ∃ (v11 : Int32) (σ9 : mm_Sg), mm_Ev mm_m_X10_mindOwesAsTold [.ref 0, .int (nI k), .ref (32 + 2 * (nI d).toNatClampNeg)] σ6 (some (.int v11)) σ9 ∧ (((v11 = (0 : Int32) → mm_Go mm_m_X10_whatIs (64, [.ref 0, .int (nI d), .int (nI k), .int (nI 0), .int 0, .int (A v), .int 8, .int (nI v + (1 : Int32))], [], σ9) X) ∧ (¬ (v11 = (0 : Int32)) → mm_Go mm_m_X10_whatIs (64, [.ref 0, .int (nI d), .int (nI k), .int (nI 0), .int 0, .int (A v ||| ((1 : Int32) <<< (nI v &&& 31))), .int 8, .int (nI v + (1 : Int32))], [], σ9) X)))) := by
        refine ⟨v_in hk7 (by decide), fun σ6 e6 => ⟨v_in hd (by decide), ?_⟩⟩
        rw [e6, nI_clamp (by omega), nI_clamp (by omega), nI_1]
        refine ⟨_, s2, k2, ?_⟩
        cases h : P v with
        | false => rw [Af v h] at hX; exact ⟨fun _ => hX, fun z => absurd (by decide) z⟩
        | true => rw [At v h] at hX; exact ⟨fun z => absurd z (by decide), fun _ => hX⟩
      exact ⟨fun z => absurd rfl z, fun _ => fin⟩)
    8 0 σ rfl (fun _ _ => rfl)
  rw [A0] at g1
  have hm1 : σ1 52 = ra R := by rw [t1 52 (by omega)]; exact hm
  have m1 : σ1 52 0 = nI (R 0) := by rw [hm1]; rfl
  have ro1 := hro.xq hd (XQ.think t1)
  have e64 : σ1 64 = σ 64 := t1 64 (by omega)
  obtain ⟨⟨σ2, d7, d8⟩, ⟨t2, z2⟩, g2⟩ := mm_run (M := mm_m_X11_whatIs) (α := mm_Sg × Value × Value) (fun v s => (41, [.ref 51, .int (nI d), .int (nI k), .int (nI 0), .int 0, .int (A v), .int (nI v), s.2.1, s.2.2], [], s.1)) 8 (fun _ s => mTh σ1 s.1 ∧ z40 s.1 53)
    (fun v s0 hv ⟨t, z⟩ => by
      obtain ⟨s0, d7, d8⟩ := s0
      dsimp only at t z ⊢
      obtain ⟨s1, k1, y1, -, u1⟩ := mW_mind (R := R) (by rw [t 52 (by decide) (by decide)]; exact hm1) wf z
      have wv := n_wf_kind wf hk7 (show v < 8 by omega)
      obtain ⟨C, eC⟩ : ∃ C : Nat → Bool, C = fun j => tld (σ 64 (100 * d + j)) (lst s) (nI (n_days j (nup R (7 + 4 * k) v) (10 + 4 * k))) := ⟨_, rfl⟩
      have hC : ∀ j, tld (σ 64 (100 * d + j)) (lst s) (nI (n_days j (nup R (7 + 4 * k) v) (10 + 4 * k))) = C j := fun j => by rw [eC]
      have hPv : n_alp C n = P v := by rw [eC]; exact hP v
      obtain ⟨B, eB⟩ : ∃ B : Nat → Int32, B = fun j => if n_alp C j = true then 1 else 0 := ⟨_, rfl⟩
      have hB : ∀ j, B (j + 1) = B j &&& (if C j = true then 1 else 0) := fun j => by
        rw [eB]
        show (if (n_alp C j && C j) = true then (1 : Int32) else 0) = (if n_alp C j = true then (1 : Int32) else 0) &&& _
        cases n_alp C j <;> cases C j <;> rfl
      have B0 : B 0 = 1 := by rw [eB]; rfl
      obtain ⟨s3, ⟨y3, u3⟩, k3⟩ := mm_run (M := mm_m_X11_whatIs) (α := mm_Sg) (fun j s => (86, [.ref 51, .int (nI d), .int (nI k), .int (nI 0), .int 0, .int (A v), .int (nI v), .int (B j), .int (nI j)], [], s)) n (fun j s => s 53 = ra (n_days j (nup R (7 + 4 * k) v)) ∧ mTh σ1 s)
        (fun j s4 hj ⟨y, u⟩ => by
          have ro := ro1.mth hd u
          have o3 := n_ofc s4 3 hk7 (by decide)
          obtain ⟨s5, k5, y5, u5⟩ := mW_day1 y wv (by omega) u
          have td := m_tld (nI (n_days j (nup R (7 + 4 * k) v) (10 + 4 * k))) ro hd hj
          rw [u 64 (by decide) (by decide), e64, hC] at td
          refine ⟨s5, ⟨y5, u5⟩, fun X hX => sg_X11_whatIs_86 s4 _ _ _ _ _ _ _ _ X ⟨v_in (N := 8) hd (by decide), fun z => absurd (by rw [nI_clamp (by omega), ro.2.2.2.2.2.2.2.1] at z; exact z) (nI_ge hj (by omega)), fun _ => ⟨_, s4, ev_X11_of s4 _ _, o3.2, ?_⟩⟩⟩
          rw [show (f_X11_of s4 (nI k) (3 : Int32)).toNatClampNeg = 10 + 4 * k from by rw [show (3 : Int32) = nI 3 from rfl, o3.1]; omega, y, ra_at]
          refine ⟨_, s4, td, s5, k5, ?_⟩
          rw [← hB, nI_1]
          exact hX)
        n 0 (mm_u s1 53 (7 + 4 * k) (nI v)) (by omega) ⟨by rw [mm_u_s, y1, ← ra_up]; rfl, (t.trans u1).trans mth_u⟩
      rw [B0] at k3
      have ro := ro1.mth hd u3
      have w3 := n_wf_days wv n
      refine ⟨(s3, .int (B n), .int (nI n)), ⟨u3, fun i hi => by show s3 53 i = 0; rw [y3, ra_at, w3.2.2.2.2.2.2.2.2.2 i hi]; rfl⟩, fun X hX => sg_X11_whatIs_41 s0 _ _ _ _ _ _ d7 d8 X ?_⟩
      have fin : mm_Go mm_m_X11_whatIs (54, [.ref 51, .int (nI d), .int (nI k), .int (nI 0), .int 0, .int (A v), .int (nI v), d7, d8], [.int (8 : Int32), .int (nI v)], s0) X := by
        have o3 := n_ofc s1 0 hk7 (by decide)
        refine sg_X11_whatIs_54 s0 _ _ _ _ _ _ d7 d8 _ _ X ⟨fun z => absurd z (nI_ge (b := 8) (by omega) (by decide)), fun _ => ⟨s1, k1, _, s1, ev_X11_of s1 _ _, o3.2, fun σ8 e8 => ?_⟩⟩
        rw [e8, show (f_X11_of s1 (nI k) (nI 0)).toNatClampNeg = 7 + 4 * k from by rw [o3.1]; omega]
        refine k3 X (sg_X11_whatIs_86 s3 _ _ _ _ _ _ _ _ X ⟨v_in (N := 8) hd (by decide), fun _ => ⟨fun z => ?_, fun z => ?_⟩, fun z => absurd (by rw [nI_clamp (by omega), ro.2.2.2.2.2.2.2.1]; exact nI_le (Nat.le_refl _) (by omega)) z⟩)
        · have : P v = false := by
            rw [← hPv]
            rw [eB] at z
            cases h : n_alp C n with
            | false => rfl
            | true =>
              dsimp only at z
              rw [if_pos h] at z
              exact absurd z (by decide)
          rw [or0, nI_1]
          dsimp only at hX
          rw [Af v this] at hX
          exact hX
        · have : P v = true := by
            rw [← hPv]
            rw [eB] at z
            cases h : n_alp C n with
            | true => rfl
            | false =>
              dsimp only at z
              rw [if_neg (by rw [h]; decide)] at z
              exact absurd rfl z
          rw [nI_1]
          dsimp only at hX
          rw [At v this] at hX
          exact hX
      exact ⟨fun z => absurd rfl z, fun _ => fin⟩)
    8 0 (σ1, .null, .null) rfl ⟨fun _ _ _ => rfl, z53_think z53 t1⟩
  dsimp only at t2 z2 g2
  rw [A0] at g2
  have q2 : MQ2 σ1 σ2 := ⟨fun q _ h1 h2 _ _ => t2 q h1 h2, by rw [t2 51 (by decide) (by decide)], z2⟩
  have wr1 : f_X11_wrongRow σ1 51 (nI d) (-1) = 0 := by
    rw [← wr]
    unfold f_X11_wrongRow
    rw [t1 59 (by omega), t1 62 (by omega)]
    rfl
  refine FQ.look hI (.int (A 8)) ?_ ?_ (XQ.think t1) q2
  · refine sg_X10_whatIs_0 σ _ _ _ _ ?_
    refine ⟨_, σ, ev_X10_isShelf σ _, ?_⟩
    rw [x_sh σ hd]
    first | refine g1a ?_ | refine g1b ?_ | refine g0a ?_ | refine g0b ?_
    refine ⟨_, σ, ev_X1_has σ 10 _ (fun _ => rfl), ?_⟩
    rw [x_has σ h0 wf.1 (by omega), if_pos hk]
    first | refine g1a ?_ | refine g1b ?_ | refine g0a ?_ | refine g0b ?_
    refine ⟨_, σ, ev_X10_isBetween σ _ _ _, ?_⟩
    rw [show f_X10_isBetween σ (nI 0) (0 : Int32) (1 : Int32) = 1 from bt_t σ (a := 0) (m := 1) ⟨by decide, by decide⟩ (by decide)]
    first | refine g1a ?_ | refine g1b ?_ | refine g0a ?_ | refine g0b ?_
    refine ⟨_, σ, ev_RU σ _ _, ?_⟩
    rw [ru]
    first | refine g1a ?_ | refine g1b ?_ | refine g0a ?_ | refine g0b ?_
    have fin := g1 _ (sg_X10_whatIs_64 σ1 _ _ _ _ _ _ _ (some (.int (A 8)), σ1) ⟨fun _ => rfl, fun z => absurd (show (8 : Int32) ≤ nI 8 by decide) z⟩)
    exact ⟨fun z => absurd rfl z, fun _ => fin⟩
  · refine sg_X11_whatIs_0 σ1 _ _ _ _ ?_
    refine ⟨_, σ1, ev_X11_isDrinker σ1 _, ?_⟩
    rw [m_dk σ1 m1 wf.1 hk]
    first | refine g1a ?_ | refine g1b ?_ | refine g0a ?_ | refine g0b ?_
    refine ⟨_, σ1, ev_X11_isIn σ1 _ _ _, ?_⟩
    rw [show f_X11_isIn σ1 (nI 0) (0 : Int32) (1 : Int32) = 1 from bt_t σ1 (a := 0) (m := 1) ⟨by decide, by decide⟩ (by decide)]
    first | refine g1a ?_ | refine g1b ?_ | refine g0a ?_ | refine g0b ?_
    refine ⟨_, σ1, ev_WR σ1 _ _, ?_⟩
    rw [wr1]
    first | refine g1a ?_ | refine g1b ?_ | refine g0a ?_ | refine g0b ?_
    have fin := sg_X11_whatIs_54 σ2 (nI d) (nI k) (nI 0) 0 (A 8) (nI 8) d7 d8 (8 : Int32) (nI 8) (some (.int (A 8)), σ2) ⟨fun _ => rfl, fun z => absurd (show (8 : Int32) ≤ nI 8 by decide) z⟩
    exact g2 _ (sg_X11_whatIs_41 σ2 _ _ _ _ _ _ d7 d8 _ ⟨fun z => absurd rfl z, fun _ => fin⟩)
theorem W_whatIs1 {σ : mm_Sg} {R : Nat → Nat} {d s n k : Nat} (hI : Inv σ) (hcp : cpv σ 10 52 R) (z53 : z40 σ 53) (hd : d < 8) (hk : k < R 0) (hro : rowOf σ d s n) (ru : f_X10_refusalUnless σ 0 2 (nI d) = 0) (wr : f_X11_wrongRow σ 51 (nI d) (-1) = 0) : FQ mm_m_X10_whatIs mm_m_X11_whatIs [.int (nI d), .int (nI k), .int (nI 1)] σ := by
  obtain ⟨wf, r4, r5, r6, hx, hm⟩ := id hcp
  have h0 : σ 10 6 = nI (R 0) := hx.1
  have m0 : σ 52 0 = nI (R 0) := by rw [hm]; rfl
  have w7 := wf.1
  have hk7 : k < 7 := by omega
  have hn : n ≤ 100 := hro.2.2.2.1
  obtain ⟨P, eP⟩ : ∃ P : Nat → Bool, P = fun v => n_alp (fun j => tld (σ 64 (100 * d + j)) (lst s) (nI (n_days j (nup R (8 + 4 * k) v) (10 + 4 * k)))) n := ⟨_, rfl⟩
  have hP : ∀ v, n_alp (fun j => tld (σ 64 (100 * d + j)) (lst s) (nI (n_days j (nup R (8 + 4 * k) v) (10 + 4 * k)))) n = P v := fun v => by rw [eP]
  obtain ⟨A, eA⟩ : ∃ A, A = n_fit P := ⟨_, rfl⟩
  have A0 : A 0 = 0 := by rw [eA]; rfl
  have At : ∀ v, P v = true → A (v + 1) = A v ||| ((1 : Int32) <<< (nI v &&& 31)) := fun v h => by rw [eA, n_fit, if_pos h]
  have Af : ∀ v, P v = false → A (v + 1) = A v := fun v h => by rw [eA, n_fit, if_neg (by rw [h]; decide)]
  clear eA
  obtain ⟨σ1, t1, g1⟩ := mm_run (M := mm_m_X10_whatIs) (α := mm_Sg) (fun v s => (64, [.ref 0, .int (nI d), .int (nI k), .int (nI 1), .int 0, .int (A v), .int 10, .int (nI v)], [], s)) 10 (fun _ s => xTh σ s)
    (fun v s0 hv t => by
      obtain ⟨s1, k1, y1, -, u1⟩ := xW_mind (hcp.xth t)
      obtain ⟨s2, k2, u2⟩ := xW_told (xr_fig (v := v) y1 hk7) (n_wf_fig wf hk7 (show v < 10 by omega)) (rowOf_same (hro.xq hd (XQ.think (t.trans u1))) (mm_u_o (by omega)) (mm_u_o (by omega)) (fun q _ _ => mm_u_o (by omega))) hd hk7 ((t.trans u1).trans (xth_u (by omega)))
      rw [mm_u_o (by omega), u1 64 (by omega), t 64 (by omega), hP] at k2
      refine ⟨s2, u2, fun X hX => sg_X10_whatIs_64 s0 _ _ _ _ _ _ _ X ⟨fun z => absurd z (nI_ge (b := 10) (by omega) (by decide)), fun _ => ⟨s1, k1, ?_⟩⟩⟩
      have fin : (vp_in (nI k) 7) ∧ ∀ σ6 : mm_Sg, σ6 = mm_u s1 26 (nI k).toNatClampNeg (nI v) → ((vp_in (nI d) 8) ∧ ∃ (v11 : Int32) (σ9 : mm_Sg), mm_Ev mm_m_X10_mindOwesAsTold [.ref 0, .int (nI k), .ref (32 + 2 * (nI d).toNatClampNeg)] σ6 (some (.int v11)) σ9 ∧ (((v11 = (0 : Int32) → mm_Go mm_m_X10_whatIs (64, [.ref 0, .int (nI d), .int (nI k), .int (nI 1), .int 0, .int (A v), .int 10, .int (nI v + (1 : Int32))], [], σ9) X) ∧ (¬ (v11 = (0 : Int32)) → mm_Go mm_m_X10_whatIs (64, [.ref 0, .int (nI d), .int (nI k), .int (nI 1), .int 0, .int (A v ||| ((1 : Int32) <<< (nI v &&& 31))), .int 10, .int (nI v + (1 : Int32))], [], σ9) X)))) := by
        refine ⟨v_in hk7 (by decide), fun σ6 e6 => ⟨v_in hd (by decide), ?_⟩⟩
        rw [e6, nI_clamp (by omega), nI_clamp (by omega), nI_1]
        refine ⟨_, s2, k2, ?_⟩
        cases h : P v with
        | false => rw [Af v h] at hX; exact ⟨fun _ => hX, fun z => absurd (by decide) z⟩
        | true => rw [At v h] at hX; exact ⟨fun z => absurd z (by decide), fun _ => hX⟩
      exact ⟨fun _ => fin, fun z => absurd (show ¬ (nI 1 : Int32) = 0 by decide) z⟩)
    10 0 σ rfl (fun _ _ => rfl)
  rw [A0] at g1
  have hm1 : σ1 52 = ra R := by rw [t1 52 (by omega)]; exact hm
  have m1 : σ1 52 0 = nI (R 0) := by rw [hm1]; rfl
  have ro1 := hro.xq hd (XQ.think t1)
  have e64 : σ1 64 = σ 64 := t1 64 (by omega)
  obtain ⟨⟨σ2, d7, d8⟩, ⟨t2, z2⟩, g2⟩ := mm_run (M := mm_m_X11_whatIs) (α := mm_Sg × Value × Value) (fun v s => (41, [.ref 51, .int (nI d), .int (nI k), .int (nI 1), .int 0, .int (A v), .int (nI v), s.2.1, s.2.2], [], s.1)) 10 (fun _ s => mTh σ1 s.1 ∧ z40 s.1 53)
    (fun v s0 hv ⟨t, z⟩ => by
      obtain ⟨s0, d7, d8⟩ := s0
      dsimp only at t z ⊢
      obtain ⟨s1, k1, y1, -, u1⟩ := mW_mind (R := R) (by rw [t 52 (by decide) (by decide)]; exact hm1) wf z
      have wv := n_wf_fig wf hk7 (show v < 10 by omega)
      obtain ⟨C, eC⟩ : ∃ C : Nat → Bool, C = fun j => tld (σ 64 (100 * d + j)) (lst s) (nI (n_days j (nup R (8 + 4 * k) v) (10 + 4 * k))) := ⟨_, rfl⟩
      have hC : ∀ j, tld (σ 64 (100 * d + j)) (lst s) (nI (n_days j (nup R (8 + 4 * k) v) (10 + 4 * k))) = C j := fun j => by rw [eC]
      have hPv : n_alp C n = P v := by rw [eC]; exact hP v
      obtain ⟨B, eB⟩ : ∃ B : Nat → Int32, B = fun j => if n_alp C j = true then 1 else 0 := ⟨_, rfl⟩
      have hB : ∀ j, B (j + 1) = B j &&& (if C j = true then 1 else 0) := fun j => by
        rw [eB]
        show (if (n_alp C j && C j) = true then (1 : Int32) else 0) = (if n_alp C j = true then (1 : Int32) else 0) &&& _
        cases n_alp C j <;> cases C j <;> rfl
      have B0 : B 0 = 1 := by rw [eB]; rfl
      obtain ⟨s3, ⟨y3, u3⟩, k3⟩ := mm_run (M := mm_m_X11_whatIs) (α := mm_Sg) (fun j s => (86, [.ref 51, .int (nI d), .int (nI k), .int (nI 1), .int 0, .int (A v), .int (nI v), .int (B j), .int (nI j)], [], s)) n (fun j s => s 53 = ra (n_days j (nup R (8 + 4 * k) v)) ∧ mTh σ1 s)
        (fun j s4 hj ⟨y, u⟩ => by
          have ro := ro1.mth hd u
          have o3 := n_ofc s4 3 hk7 (by decide)
          obtain ⟨s5, k5, y5, u5⟩ := mW_day1 y wv (by omega) u
          have td := m_tld (nI (n_days j (nup R (8 + 4 * k) v) (10 + 4 * k))) ro hd hj
          rw [u 64 (by decide) (by decide), e64, hC] at td
          refine ⟨s5, ⟨y5, u5⟩, fun X hX => sg_X11_whatIs_86 s4 _ _ _ _ _ _ _ _ X ⟨v_in (N := 8) hd (by decide), fun z => absurd (by rw [nI_clamp (by omega), ro.2.2.2.2.2.2.2.1] at z; exact z) (nI_ge hj (by omega)), fun _ => ⟨_, s4, ev_X11_of s4 _ _, o3.2, ?_⟩⟩⟩
          rw [show (f_X11_of s4 (nI k) (3 : Int32)).toNatClampNeg = 10 + 4 * k from by rw [show (3 : Int32) = nI 3 from rfl, o3.1]; omega, y, ra_at]
          refine ⟨_, s4, td, s5, k5, ?_⟩
          rw [← hB, nI_1]
          exact hX)
        n 0 (mm_u s1 53 (8 + 4 * k) (nI v)) (by omega) ⟨by rw [mm_u_s, y1, ← ra_up]; rfl, (t.trans u1).trans mth_u⟩
      rw [B0] at k3
      have ro := ro1.mth hd u3
      have w3 := n_wf_days wv n
      refine ⟨(s3, .int (B n), .int (nI n)), ⟨u3, fun i hi => by show s3 53 i = 0; rw [y3, ra_at, w3.2.2.2.2.2.2.2.2.2 i hi]; rfl⟩, fun X hX => sg_X11_whatIs_41 s0 _ _ _ _ _ _ d7 d8 X ?_⟩
      have fin : mm_Go mm_m_X11_whatIs (54, [.ref 51, .int (nI d), .int (nI k), .int (nI 1), .int 0, .int (A v), .int (nI v), d7, d8], [.int (10 : Int32), .int (nI v)], s0) X := by
        have o3 := n_ofc s1 1 hk7 (by decide)
        refine sg_X11_whatIs_54 s0 _ _ _ _ _ _ d7 d8 _ _ X ⟨fun z => absurd z (nI_ge (b := 10) (by omega) (by decide)), fun _ => ⟨s1, k1, _, s1, ev_X11_of s1 _ _, o3.2, fun σ8 e8 => ?_⟩⟩
        rw [e8, show (f_X11_of s1 (nI k) (nI 1)).toNatClampNeg = 8 + 4 * k from by rw [o3.1]; omega]
        refine k3 X (sg_X11_whatIs_86 s3 _ _ _ _ _ _ _ _ X ⟨v_in (N := 8) hd (by decide), fun _ => ⟨fun z => ?_, fun z => ?_⟩, fun z => absurd (by rw [nI_clamp (by omega), ro.2.2.2.2.2.2.2.1]; exact nI_le (Nat.le_refl _) (by omega)) z⟩)
        · have : P v = false := by
            rw [← hPv]
            rw [eB] at z
            cases h : n_alp C n with
            | false => rfl
            | true =>
              dsimp only at z
              rw [if_pos h] at z
              exact absurd z (by decide)
          rw [or0, nI_1]
          dsimp only at hX
          rw [Af v this] at hX
          exact hX
        · have : P v = true := by
            rw [← hPv]
            rw [eB] at z
            cases h : n_alp C n with
            | true => rfl
            | false =>
              dsimp only at z
              rw [if_neg (by rw [h]; decide)] at z
              exact absurd rfl z
          rw [nI_1]
          dsimp only at hX
          rw [At v this] at hX
          exact hX
      exact ⟨fun _ => fin, fun z => absurd (show ¬ (nI 1 : Int32) = 0 by decide) z⟩)
    10 0 (σ1, .null, .null) rfl ⟨fun _ _ _ => rfl, z53_think z53 t1⟩
  dsimp only at t2 z2 g2
  rw [A0] at g2
  have q2 : MQ2 σ1 σ2 := ⟨fun q _ h1 h2 _ _ => t2 q h1 h2, by rw [t2 51 (by decide) (by decide)], z2⟩
  have wr1 : f_X11_wrongRow σ1 51 (nI d) (-1) = 0 := by
    rw [← wr]
    unfold f_X11_wrongRow
    rw [t1 59 (by omega), t1 62 (by omega)]
    rfl
  refine FQ.look hI (.int (A 10)) ?_ ?_ (XQ.think t1) q2
  · refine sg_X10_whatIs_0 σ _ _ _ _ ?_
    refine ⟨_, σ, ev_X10_isShelf σ _, ?_⟩
    rw [x_sh σ hd]
    first | refine g1a ?_ | refine g1b ?_ | refine g0a ?_ | refine g0b ?_
    refine ⟨_, σ, ev_X1_has σ 10 _ (fun _ => rfl), ?_⟩
    rw [x_has σ h0 wf.1 (by omega), if_pos hk]
    first | refine g1a ?_ | refine g1b ?_ | refine g0a ?_ | refine g0b ?_
    refine ⟨_, σ, ev_X10_isBetween σ _ _ _, ?_⟩
    rw [show f_X10_isBetween σ (nI 1) (0 : Int32) (1 : Int32) = 1 from bt_t σ (a := 0) (m := 1) ⟨by decide, by decide⟩ (by decide)]
    first | refine g1a ?_ | refine g1b ?_ | refine g0a ?_ | refine g0b ?_
    refine ⟨_, σ, ev_RU σ _ _, ?_⟩
    rw [ru]
    first | refine g1a ?_ | refine g1b ?_ | refine g0a ?_ | refine g0b ?_
    have fin := g1 _ (sg_X10_whatIs_64 σ1 _ _ _ _ _ _ _ (some (.int (A 10)), σ1) ⟨fun _ => rfl, fun z => absurd (show (10 : Int32) ≤ nI 10 by decide) z⟩)
    exact ⟨fun _ => fin, fun z => absurd (show ¬ (nI 1 : Int32) = 0 by decide) z⟩
  · refine sg_X11_whatIs_0 σ1 _ _ _ _ ?_
    refine ⟨_, σ1, ev_X11_isDrinker σ1 _, ?_⟩
    rw [m_dk σ1 m1 wf.1 hk]
    first | refine g1a ?_ | refine g1b ?_ | refine g0a ?_ | refine g0b ?_
    refine ⟨_, σ1, ev_X11_isIn σ1 _ _ _, ?_⟩
    rw [show f_X11_isIn σ1 (nI 1) (0 : Int32) (1 : Int32) = 1 from bt_t σ1 (a := 0) (m := 1) ⟨by decide, by decide⟩ (by decide)]
    first | refine g1a ?_ | refine g1b ?_ | refine g0a ?_ | refine g0b ?_
    refine ⟨_, σ1, ev_WR σ1 _ _, ?_⟩
    rw [wr1]
    first | refine g1a ?_ | refine g1b ?_ | refine g0a ?_ | refine g0b ?_
    have fin := sg_X11_whatIs_54 σ2 (nI d) (nI k) (nI 1) 0 (A 10) (nI 10) d7 d8 (10 : Int32) (nI 10) (some (.int (A 10)), σ2) ⟨fun _ => rfl, fun z => absurd (show (10 : Int32) ≤ nI 10 by decide) z⟩
    exact g2 _ (sg_X11_whatIs_41 σ2 _ _ _ _ _ _ d7 d8 _ ⟨fun _ => fin, fun z => absurd (show ¬ (nI 1 : Int32) = 0 by decide) z⟩)
theorem F_whatIs {σ : mm_Sg} (hI : Inv σ) (x1 x2 x3 : Int32) : FQ mm_m_X10_whatIs mm_m_X11_whatIs [.int x1, .int x2, .int x3] σ := by
  obtain ⟨⟨R, hcp⟩, hi, z53, z54, z55, hs⟩ := id hI
  obtain ⟨wf, r4, r5, r6, hx, hm⟩ := id hcp
  have h0 : σ 10 6 = nI (R 0) := hx.1
  have m0 : σ 52 0 = nI (R 0) := by rw [hm]; rfl
  have w7 := wf.1
  by_cases h1 : vp_in x1 8
  · obtain ⟨d, hd, rfl⟩ := vp_in_of h1 (by decide)
    by_cases h2 : vp_in x2 (R 0)
    · obtain ⟨k, hk, rfl⟩ := vp_in_of h2 (by omega)
      rcases bt_c x3 0 1 (by decide) (by decide) with ⟨j3, -, hj3, rfl⟩ | h3
      · rcases row_c hs (nI d) with ⟨d', s, n, hd', ed, hro, ru, wr⟩ | ⟨v, v0, ru, wr⟩
        · have ed2 : d = d' := by
            have := row_d ed (by omega) (by omega)
            omega
          subst ed2
          rcases (show j3 = 0 ∨ j3 = 1 by omega) with rfl | rfl
          · exact W_whatIs0 hI hcp z53 hd hk hro ru wr
          · exact W_whatIs1 hI hcp z53 hd hk hro ru wr
        · refine FQ.refuse hI (.int v) ?_ ?_
          · refine sg_X10_whatIs_0 σ _ _ _ _ ?_
            refine ⟨_, σ, ev_X10_isShelf σ _, ?_⟩
            rw [x_sh σ hd]
            first | refine g1a ?_ | refine g1b ?_ | refine g0a ?_ | refine g0b ?_
            refine ⟨_, σ, ev_X1_has σ 10 _ (fun _ => rfl), ?_⟩
            rw [x_has σ h0 wf.1 (by omega), if_pos hk]
            first | refine g1a ?_ | refine g1b ?_ | refine g0a ?_ | refine g0b ?_
            refine ⟨_, σ, ev_X10_isBetween σ _ _ _, ?_⟩
            rw [show f_X10_isBetween σ (nI j3) (0 : Int32) (1 : Int32) = 1 from bt_t σ (a := 0) (m := 1) ⟨by omega, by omega⟩ (by decide)]
            first | refine g1a ?_ | refine g1b ?_ | refine g0a ?_ | refine g0b ?_
            refine ⟨_, σ, ev_RU σ _ _, ?_⟩
            rw [ru]
            refine ⟨fun z => absurd z v0, fun _ => ?_⟩
            rfl
          · refine sg_X11_whatIs_0 σ _ _ _ _ ?_
            refine ⟨_, σ, ev_X11_isDrinker σ _, ?_⟩
            rw [m_dk σ m0 wf.1 hk]
            first | refine g1a ?_ | refine g1b ?_ | refine g0a ?_ | refine g0b ?_
            refine ⟨_, σ, ev_X11_isIn σ _ _ _, ?_⟩
            rw [show f_X11_isIn σ (nI j3) (0 : Int32) (1 : Int32) = 1 from bt_t σ (a := 0) (m := 1) ⟨by omega, by omega⟩ (by decide)]
            first | refine g1a ?_ | refine g1b ?_ | refine g0a ?_ | refine g0b ?_
            refine ⟨_, σ, ev_WR σ _ _, ?_⟩
            rw [wr]
            refine ⟨fun z => absurd z v0, fun _ => ?_⟩
            rfl
      · refine FQ.refuse hI (.int (-1)) ?_ ?_
        · refine sg_X10_whatIs_0 σ _ _ _ _ ?_
          refine ⟨_, σ, ev_X10_isShelf σ _, ?_⟩
          rw [x_sh σ hd]
          first | refine g1a ?_ | refine g1b ?_ | refine g0a ?_ | refine g0b ?_
          refine ⟨_, σ, ev_X1_has σ 10 _ (fun _ => rfl), ?_⟩
          rw [x_has σ h0 wf.1 (by omega), if_pos hk]
          first | refine g1a ?_ | refine g1b ?_ | refine g0a ?_ | refine g0b ?_
          refine ⟨_, σ, ev_X10_isBetween σ _ _ _, ?_⟩
          rw [show f_X10_isBetween σ x3 (0 : Int32) (1 : Int32) = 0 from h3 σ]
          first | refine g1a ?_ | refine g1b ?_ | refine g0a ?_ | refine g0b ?_
          rfl
        · refine sg_X11_whatIs_0 σ _ _ _ _ ?_
          refine ⟨_, σ, ev_X11_isDrinker σ _, ?_⟩
          rw [m_dk σ m0 wf.1 hk]
          first | refine g1a ?_ | refine g1b ?_ | refine g0a ?_ | refine g0b ?_
          refine ⟨_, σ, ev_X11_isIn σ _ _ _, ?_⟩
          rw [show f_X11_isIn σ x3 (0 : Int32) (1 : Int32) = 0 from h3 σ]
          first | refine g1a ?_ | refine g1b ?_ | refine g0a ?_ | refine g0b ?_
          rfl
    · refine FQ.refuse hI (.int (-1)) ?_ ?_
      · refine sg_X10_whatIs_0 σ _ _ _ _ ?_
        refine ⟨_, σ, ev_X10_isShelf σ _, ?_⟩
        rw [x_sh σ hd]
        first | refine g1a ?_ | refine g1b ?_ | refine g0a ?_ | refine g0b ?_
        refine ⟨_, σ, ev_X1_has σ 10 _ (fun _ => rfl), ?_⟩
        rw [x_hasf σ h0 wf.1 h2]
        first | refine g1a ?_ | refine g1b ?_ | refine g0a ?_ | refine g0b ?_
        rfl
      · refine sg_X11_whatIs_0 σ _ _ _ _ ?_
        refine ⟨_, σ, ev_X11_isDrinker σ _, ?_⟩
        rw [m_dkf σ m0 wf.1 h2]
        first | refine g1a ?_ | refine g1b ?_ | refine g0a ?_ | refine g0b ?_
        rfl
  · refine FQ.refuse hI (.int (-1)) ?_ ?_
    · refine sg_X10_whatIs_0 σ _ _ _ _ ?_
      refine ⟨_, σ, ev_X10_isShelf σ _, ?_⟩
      rw [x_shf σ h1]
      first | refine g1a ?_ | refine g1b ?_ | refine g0a ?_ | refine g0b ?_
      rfl
    · refine sg_X11_whatIs_0 σ _ _ _ _ ?_
      by_cases h2 : vp_in x2 (R 0)
      · obtain ⟨k, hk, rfl⟩ := vp_in_of h2 (by omega)
        refine ⟨_, σ, ev_X11_isDrinker σ _, ?_⟩
        rw [m_dk σ m0 wf.1 hk]
        first | refine g1a ?_ | refine g1b ?_ | refine g0a ?_ | refine g0b ?_
        rcases bt_c x3 0 1 (by decide) (by decide) with ⟨j3, -, hj3, rfl⟩ | h3
        · refine ⟨_, σ, ev_X11_isIn σ _ _ _, ?_⟩
          rw [show f_X11_isIn σ (nI j3) (0 : Int32) (1 : Int32) = 1 from bt_t σ (a := 0) (m := 1) ⟨by omega, by omega⟩ (by decide)]
          first | refine g1a ?_ | refine g1b ?_ | refine g0a ?_ | refine g0b ?_
          refine ⟨_, σ, ev_WR σ _ _, ?_⟩
          rw [wr_f σ h1]
          exact ⟨fun z => absurd z (by decide), fun _ => rfl⟩
        · refine ⟨_, σ, ev_X11_isIn σ _ _ _, ?_⟩
          rw [show f_X11_isIn σ x3 (0 : Int32) (1 : Int32) = 0 from h3 σ]
          first | refine g1a ?_ | refine g1b ?_ | refine g0a ?_ | refine g0b ?_
          rfl
      · refine ⟨_, σ, ev_X11_isDrinker σ _, ?_⟩
        rw [m_dkf σ m0 wf.1 h2]
        first | refine g1a ?_ | refine g1b ?_ | refine g0a ?_ | refine g0b ?_
        rfl
