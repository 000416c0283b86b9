/-! the face: what changes what is now -/
theorem Inv.now {σ σ' : mm_Sg} {R' : Nat → Nat} (hI : Inv σ) (hcp : cpv σ' 10 52 R') (z53 : z40 σ' 53) (z55 : z40 σ' 55) (h5 : σ' 51 5 = σ 51 5)
    (hs : ∀ q, ¬ (10 ≤ q ∧ q ≤ 16) → ¬ (24 ≤ q ∧ q ≤ 30) → ¬ (48 ≤ q ∧ q ≤ 53) → ¬ (55 ≤ q ∧ q ≤ 58) → σ' q = σ q) : Inv σ' := by
  obtain ⟨-, hi, -, z54, -, hsh⟩ := hI
  refine ⟨⟨R', hcp⟩, ?_, z53, fun i hi => by rw [hs 54 (by omega) (by omega) (by omega) (by omega)]; exact z54 i hi, z55, fun d hd => shv_same (hsh d hd) (hs _ (by omega) (by omega) (by omega) (by omega)) (hs _ (by omega) (by omega) (by omega) (by omega)) (fun q _ _ => hs q (by omega) (by omega) (by omega) (by omega))⟩
  rw [hs 0 (by omega) (by omega) (by omega) (by omega), h5]
  rcases hi with hi | ⟨i1, i2, R', hR'⟩
  · exact Or.inl hi
  · exact Or.inr ⟨i1, i2, R', cpv_same hR' (fun q _ _ => hs q (by omega) (by omega) (by omega) (by omega)) (hs 54 (by omega) (by omega) (by omega) (by omega))⟩
/-- one number of now's camp and one of the Model's row -/
theorem Inv.one {σ : mm_Sg} {R : Nat → Nat} {q k i v : Nat} {x : Int32} (hI : Inv σ) (wf : n_wf 999 R) (r4 : R 4 = 0) (r5 : R 5 = 0) (r6 : R 6 = 0) (hx : xr (mm_u σ q k x) 10 R) (hq : 10 ≤ q ∧ q ≤ 16) (hm : upd (σ 52) i (nI v) = ra R) : Inv (mm_u (mm_u σ q k x) 52 i (nI v)) := by
  obtain ⟨-, -, z53, -, z55, -⟩ := id hI
  refine hI.now (R' := R) ⟨wf, r4, r5, r6, xr_same hx (fun q _ _ => mm_u_o (by omega)), by rw [mm_u_s, mm_u_o (by omega), hm]⟩ (fun i hi => ?_) (fun i hi => ?_) ?_ (fun p h1 h2 h3 h4 => by rw [mm_u_o (by omega), mm_u_o (by omega)])
  · rw [mm_u_o (by omega), mm_u_o (by omega)]; exact z53 i hi
  · rw [mm_u_o (by omega), mm_u_o (by omega)]; exact z55 i hi
  · rw [mm_u_o (by omega), mm_u_o (by omega)]
theorem ev_S (σ : mm_Sg) {i : Nat} (x : Int32) (hi : i < 40) : mm_Ev mm_m_X11_sets [.ref 51, .int (nI i), .int x] σ (some (.int (σ 52 i))) (mm_u σ 52 i x) := by
  have := ev_X11_sets σ (nI i) x (v_in hi (by decide))
  unfold f_X11_sets h_X11_sets at this
  rw [nI_clamp (by omega)] at this
  exact this
theorem wn_of {x : Int32} (h : wn x) : ∃ w, (w < 5 ∨ w = 9) ∧ x = nI w := by
  rcases h with h | h
  · obtain ⟨w, hw, e⟩ := vp_in_of h (by decide)
    exact ⟨w, Or.inl hw, e⟩
  · exact ⟨9, Or.inr rfl, h⟩
theorem n_xor : ∀ a, a < 32 → ∀ w, w < 5 → nI a ^^^ ((1 : Int32) <<< (nI w &&& 31)) = nI (a ^^^ 2 ^ w) := by decide +kernel
theorem n_day6 (R : Nat → Nat) (h7 : R 0 ≤ 7) : n_day R 6 = R 6 ∧ n_dawn R 0 = R 0 := by
  have dawn : n_dawn R 6 = R 6 ∧ n_dawn R 0 = R 0 := n_it_ind (N := 5) (fun _ T => T 6 = R 6 ∧ T 0 = R 0) ⟨by rw [nup_o _ (by omega)], by rw [nup_o _ (by omega)]⟩ (fun k T hk h => by
    unfold n_wake
    split
    · exact h
    · split
      · exact ⟨by rw [nup_o _ (by omega), nup_o _ (by omega)]; exact h.1, by rw [nup_o _ (by omega), nup_o _ (by omega)]; exact h.2⟩
      · exact ⟨by rw [nup_o _ (by omega)]; exact h.1, by rw [nup_o _ (by omega)]; exact h.2⟩) 5 (Nat.le_refl _)
  have noon : n_noon R 6 = R 6 := by
    unfold n_noon
    rw [dawn.2]
    exact n_it_ind (N := 7) (fun _ T => T 6 = R 6) dawn.1 (fun k T hk h => by
      unfold n_drink
      split
      · rw [nup_o _ (by omega), nup_o _ (by omega)]; exact h
      · rw [nup_o _ (by omega), nup_o _ (by omega)]; exact h) (R 0) h7
  refine ⟨n_it_ind (N := 5) (fun _ T => T 6 = R 6) noon (fun k T hk h => ?_) 5 (Nat.le_refl _), dawn.2⟩
  unfold n_lie
  split
  · split
    · rw [nup_o _ (by omega)]; exact h
    · rw [nup_o _ (by omega)]; exact h
  · exact h
theorem n_days6 {D : Nat} {R : Nat → Nat} (wf : n_wf D R) : ∀ n, n_days n R 6 = R 6
  | 0 => rfl
  | n + 1 => by
    show n_day (n_days n R) 6 = R 6
    rw [(n_day6 _ (n_wf_days wf n).1).1, n_days6 wf n]
theorem n_wf.day {D D' : Nat} {R : Nat → Nat} (h : n_wf D R) (h1 : R 1 ≤ D') : n_wf D' R := ⟨h.1, h1, h.2.2⟩
theorem n_ft {c : Bool} : (if c = true then (1 : Int32) else 0) = 0 ∨ (if c = true then (1 : Int32) else 0) = 1 := by cases c; exact Or.inl rfl; exact Or.inr rfl
theorem F_wakes {σ : mm_Sg} (hI : Inv σ) (x1 x2 : Int32) : FQ mm_m_X10_wakes mm_m_X11_wakes [.int x1, .int x2] σ := by
  obtain ⟨⟨R, hcp⟩, hi, z53, z54, z55, hs⟩ := id hI
  obtain ⟨wf, r4, r5, r6, hx, hm⟩ := id hcp
  have h0 : σ 10 6 = nI (R 0) := hx.1
  have m0 : σ 52 0 = nI (R 0) := by rw [hm]; rfl
  have w7 := wf.1
  by_cases h1 : vp_in x1 (R 0)
  · obtain ⟨k, hk, rfl⟩ := vp_in_of h1 (by omega)
    by_cases h2 : wn x2
    · obtain ⟨w, hw, ew⟩ := wn_of h2
      have k7 : k < 7 := by omega
      refine ⟨.int (nI (R (9 + 4 * k))), mm_u σ 13 k x2, mm_u (mm_u σ 13 k x2) 52 (9 + 4 * k) x2, ?_, ?_, ?_⟩
      · refine sg_X10_wakes_0 σ _ _ _ ?_
        refine ⟨_, σ, ev_X1_has σ 10 _ (fun _ => rfl), ?_⟩
        rw [x_has σ h0 wf.1 (by omega), if_pos hk]
        first | refine g1a ?_ | refine g1b ?_ | refine g0a ?_ | refine g0b ?_
        refine ⟨_, σ, ev_X10_isWakerOrNobody σ _, ?_⟩
        rw [x_wn σ h2]
        first | refine g1a ?_ | refine g1b ?_ | refine g0a ?_ | refine g0b ?_
        refine ⟨v_in (N := 7) k7 (by decide), fun σ10 e10 => ?_⟩
        rw [e10, nI_clamp (by omega), show σ 13 k = _ from xr_w hx k7]
      · have o2 := n_of (mm_u σ 13 k x2) k 2
        have m0 : (mm_u σ 13 k x2) 52 0 = nI (R 0) := by rw [mm_u_o (by decide)]; exact m0
        refine sg_X11_wakes_0 (mm_u σ 13 k x2) _ _ _ ?_
        refine ⟨_, (mm_u σ 13 k x2), ev_X11_isDrinker (mm_u σ 13 k x2) _, ?_⟩
        rw [m_dk (mm_u σ 13 k x2) m0 wf.1 hk]
        first | refine g1a ?_ | refine g1b ?_ | refine g0a ?_ | refine g0b ?_
        refine ⟨_, (mm_u σ 13 k x2), ev_X11_isWakerOrNone (mm_u σ 13 k x2) _, ?_⟩
        rw [m_wn (mm_u σ 13 k x2) h2]
        first | refine g1a ?_ | refine g1b ?_ | refine g0a ?_ | refine g0b ?_
        have e := ev_S (mm_u σ 13 k x2) (i := 9 + 4 * k) x2 (by omega)
        rw [mm_u_o (by decide), hm, ra_at] at e
        refine ⟨_, _, ev_X11_of (mm_u σ 13 k x2) _ _, ?_⟩
        rw [show f_X11_of (mm_u σ 13 k x2) (nI k) (2 : Int32) = nI (9 + 4 * k) from by rw [show (2 : Int32) = nI 2 from rfl, o2]; congr 1; omega]
        exact ⟨_, _, e, rfl⟩
      · rw [ew]
        exact hI.one (R := nup R (9 + 4 * k) w) (n_wf_waker wf k7 hw) (by rw [nup_o R (by omega)]; exact r4) (by rw [nup_o R (by omega)]; exact r5) (by rw [nup_o R (by omega)]; exact r6) (xr_waker hx k7) (by omega) (by rw [hm, ← ra_up])
    · refine FQ.refuse hI (.int (-1)) ?_ ?_
      · refine sg_X10_wakes_0 σ _ _ _ ?_
        refine ⟨_, σ, ev_X1_has σ 10 _ (fun _ => rfl), ?_⟩
        rw [x_has σ h0 wf.1 (by omega), if_pos hk]
        first | refine g1a ?_ | refine g1b ?_ | refine g0a ?_ | refine g0b ?_
        refine ⟨_, σ, ev_X10_isWakerOrNobody σ _, ?_⟩
        rw [x_wnf σ h2]
        first | refine g1a ?_ | refine g1b ?_ | refine g0a ?_ | refine g0b ?_
        rfl
      · refine sg_X11_wakes_0 σ _ _ _ ?_
        refine ⟨_, σ, ev_X11_isDrinker σ _, ?_⟩
        rw [m_dk σ m0 wf.1 hk]
        first | refine g1a ?_ | refine g1b ?_ | refine g0a ?_ | refine g0b ?_
        refine ⟨_, σ, ev_X11_isWakerOrNone σ _, ?_⟩
        rw [m_wnf σ h2]
        first | refine g1a ?_ | refine g1b ?_ | refine g0a ?_ | refine g0b ?_
        rfl
  · refine FQ.refuse hI (.int (-1)) ?_ ?_
    · refine sg_X10_wakes_0 σ _ _ _ ?_
      refine ⟨_, σ, ev_X1_has σ 10 _ (fun _ => rfl), ?_⟩
      rw [x_hasf σ h0 wf.1 h1]
      first | refine g1a ?_ | refine g1b ?_ | refine g0a ?_ | refine g0b ?_
      rfl
    · refine sg_X11_wakes_0 σ _ _ _ ?_
      refine ⟨_, σ, ev_X11_isDrinker σ _, ?_⟩
      rw [m_dkf σ m0 wf.1 h1]
      first | refine g1a ?_ | refine g1b ?_ | refine g0a ?_ | refine g0b ?_
      rfl
theorem F_tires {σ : mm_Sg} (hI : Inv σ) (x1 x2 : Int32) : FQ mm_m_X10_tires mm_m_X11_tires [.int x1, .int x2] σ := by
  obtain ⟨⟨R, hcp⟩, hi, z53, z54, z55, hs⟩ := id hI
  obtain ⟨wf, r4, r5, r6, hx, hm⟩ := id hcp
  have h0 : σ 10 6 = nI (R 0) := hx.1
  have m0 : σ 52 0 = nI (R 0) := by rw [hm]; rfl
  have w7 := wf.1
  by_cases h1 : vp_in x1 5
  · obtain ⟨w, hw, rfl⟩ := vp_in_of h1 (by decide)
    rcases bt_c x2 0 99 (by decide) (by decide) with ⟨v, -, hv, rfl⟩ | h2
    · refine ⟨.int (nI (R (35 + w))), mm_u σ 15 w (nI v), mm_u (mm_u σ 15 w (nI v)) 52 (35 + w) (nI v), ?_, ?_, ?_⟩
      · refine sg_X10_tires_0 σ _ _ _ ?_
        refine ⟨_, σ, ev_X10_isWaker σ _, ?_⟩
        rw [x_wk σ hw]
        first | refine g1a ?_ | refine g1b ?_ | refine g0a ?_ | refine g0b ?_
        refine ⟨_, σ, ev_X10_isBetween σ _ _ _, ?_⟩
        rw [show f_X10_isBetween σ (nI v) (0 : Int32) (99 : Int32) = 1 from bt_t σ (a := 0) (m := 99) ⟨by omega, by omega⟩ (by decide)]
        first | refine g1a ?_ | refine g1b ?_ | refine g0a ?_ | refine g0b ?_
        refine ⟨v_in (N := 5) hw (by decide), fun σ10 e10 => ?_⟩
        rw [e10, nI_clamp (by omega), show σ 15 w = _ from xr_t hx hw]
      · refine sg_X11_tires_0 (mm_u σ 15 w (nI v)) _ _ _ ?_
        refine ⟨_, (mm_u σ 15 w (nI v)), ev_X11_isWaker (mm_u σ 15 w (nI v)) _, ?_⟩
        rw [m_wk (mm_u σ 15 w (nI v)) hw]
        first | refine g1a ?_ | refine g1b ?_ | refine g0a ?_ | refine g0b ?_
        refine ⟨_, (mm_u σ 15 w (nI v)), ev_X11_isIn (mm_u σ 15 w (nI v)) _ _ _, ?_⟩
        rw [show f_X11_isIn (mm_u σ 15 w (nI v)) (nI v) (0 : Int32) (99 : Int32) = 1 from bt_t (mm_u σ 15 w (nI v)) (a := 0) (m := 99) ⟨by omega, by omega⟩ (by decide)]
        first | refine g1a ?_ | refine g1b ?_ | refine g0a ?_ | refine g0b ?_
        have e := ev_S (mm_u σ 15 w (nI v)) (i := 35 + w) (nI v) (by omega)
        rw [mm_u_o (by decide), hm, ra_at] at e
        rw [n_35]
        exact ⟨_, _, e, rfl⟩
      · exact hI.one (R := nup R (35 + w) v) (n_wf_tired wf hw hv) (by rw [nup_o R (by omega)]; exact r4) (by rw [nup_o R (by omega)]; exact r5) (by rw [nup_o R (by omega)]; exact r6) (xr_tired hx) (by omega) (by rw [hm, ← ra_up])
    · refine FQ.refuse hI (.int (-1)) ?_ ?_
      · refine sg_X10_tires_0 σ _ _ _ ?_
        refine ⟨_, σ, ev_X10_isWaker σ _, ?_⟩
        rw [x_wk σ hw]
        first | refine g1a ?_ | refine g1b ?_ | refine g0a ?_ | refine g0b ?_
        refine ⟨_, σ, ev_X10_isBetween σ _ _ _, ?_⟩
        rw [show f_X10_isBetween σ x2 (0 : Int32) (99 : Int32) = 0 from h2 σ]
        first | refine g1a ?_ | refine g1b ?_ | refine g0a ?_ | refine g0b ?_
        rfl
      · refine sg_X11_tires_0 σ _ _ _ ?_
        refine ⟨_, σ, ev_X11_isWaker σ _, ?_⟩
        rw [m_wk σ hw]
        first | refine g1a ?_ | refine g1b ?_ | refine g0a ?_ | refine g0b ?_
        refine ⟨_, σ, ev_X11_isIn σ _ _ _, ?_⟩
        rw [show f_X11_isIn σ x2 (0 : Int32) (99 : Int32) = 0 from h2 σ]
        first | refine g1a ?_ | refine g1b ?_ | refine g0a ?_ | refine g0b ?_
        rfl
  · refine FQ.refuse hI (.int (-1)) ?_ ?_
    · refine sg_X10_tires_0 σ _ _ _ ?_
      refine ⟨_, σ, ev_X10_isWaker σ _, ?_⟩
      rw [x_wkf σ h1]
      first | refine g1a ?_ | refine g1b ?_ | refine g0a ?_ | refine g0b ?_
      rfl
    · refine sg_X11_tires_0 σ _ _ _ ?_
      refine ⟨_, σ, ev_X11_isWaker σ _, ?_⟩
      rw [m_wkf σ h1]
      first | refine g1a ?_ | refine g1b ?_ | refine g0a ?_ | refine g0b ?_
      rfl
theorem F_bags {σ : mm_Sg} (hI : Inv σ) (x1 : Int32) : FQ mm_m_X10_bags mm_m_X11_bags [.int x1] σ := by
  obtain ⟨⟨R, hcp⟩, hi, z53, z54, z55, hs⟩ := id hI
  obtain ⟨wf, r4, r5, r6, hx, hm⟩ := id hcp
  have h0 : σ 10 6 = nI (R 0) := hx.1
  have m0 : σ 52 0 = nI (R 0) := by rw [hm]; rfl
  have w7 := wf.1
  rcases bt_c x1 0 999 (by decide) (by decide) with ⟨v, -, hv, rfl⟩ | h1
  · refine ⟨.int (nI (R 2)), mm_u σ 10 8 (nI v), mm_u (mm_u σ 10 8 (nI v)) 52 2 (nI v), ?_, ?_, ?_⟩
    · refine sg_X10_bags_0 σ _ _ ?_
      refine ⟨_, σ, ev_X10_isBetween σ _ _ _, ?_⟩
      rw [show f_X10_isBetween σ (nI v) (0 : Int32) (999 : Int32) = 1 from bt_t σ (a := 0) (m := 999) ⟨by omega, by omega⟩ (by decide)]
      first | refine g1a ?_ | refine g1b ?_ | refine g0a ?_ | refine g0b ?_
      intro σ5 e5
      rw [e5, hx.2.2.1]
    · refine sg_X11_bags_0 (mm_u σ 10 8 (nI v)) _ _ ?_
      refine ⟨_, (mm_u σ 10 8 (nI v)), ev_X11_isIn (mm_u σ 10 8 (nI v)) _ _ _, ?_⟩
      rw [show f_X11_isIn (mm_u σ 10 8 (nI v)) (nI v) (0 : Int32) (999 : Int32) = 1 from bt_t (mm_u σ 10 8 (nI v)) (a := 0) (m := 999) ⟨by omega, by omega⟩ (by decide)]
      first | refine g1a ?_ | refine g1b ?_ | refine g0a ?_ | refine g0b ?_
      have e := ev_S (mm_u σ 10 8 (nI v)) (i := 2) (nI v) (by omega)
      rw [mm_u_o (by decide), hm, ra_at] at e
      exact ⟨_, _, e, rfl⟩
    · exact hI.one (R := nup R 2 v) (n_wf_bags wf hv) (by rw [nup_o R (by omega)]; exact r4) (by rw [nup_o R (by omega)]; exact r5) (by rw [nup_o R (by omega)]; exact r6) (xr_bags hx) (by omega) (by rw [hm, ← ra_up])
  · refine FQ.refuse hI (.int (-1)) ?_ ?_
    · refine sg_X10_bags_0 σ _ _ ?_
      refine ⟨_, σ, ev_X10_isBetween σ _ _ _, ?_⟩
      rw [show f_X10_isBetween σ x1 (0 : Int32) (999 : Int32) = 0 from h1 σ]
      first | refine g1a ?_ | refine g1b ?_ | refine g0a ?_ | refine g0b ?_
      rfl
    · refine sg_X11_bags_0 σ _ _ ?_
      refine ⟨_, σ, ev_X11_isIn σ _ _ _, ?_⟩
      rw [show f_X11_isIn σ x1 (0 : Int32) (999 : Int32) = 0 from h1 σ]
      first | refine g1a ?_ | refine g1b ?_ | refine g0a ?_ | refine g0b ?_
      rfl
theorem F_sleeps {σ : mm_Sg} (hI : Inv σ) (x1 : Int32) : FQ mm_m_X10_sleeps mm_m_X11_sleeps [.int x1] σ := by
  obtain ⟨⟨R, hcp⟩, hi, z53, z54, z55, hs⟩ := id hI
  obtain ⟨wf, r4, r5, r6, hx, hm⟩ := id hcp
  have h0 : σ 10 6 = nI (R 0) := hx.1
  have m0 : σ 52 0 = nI (R 0) := by rw [hm]; rfl
  have w7 := wf.1
  by_cases h1 : vp_in x1 5
  · obtain ⟨w, hw, rfl⟩ := vp_in_of h1 (by decide)
    have h32 := (n_bitx (R 3) wf.2.2.2.1 w hw).1
    obtain ⟨R', eR⟩ : ∃ R', R' = nup R 3 (R 3 ^^^ 2 ^ w) := ⟨_, rfl⟩
    have wf' : n_wf 999 R' := by rw [eR]; exact n_wf_asleep wf h32
    have s3 : R' 3 = R 3 ^^^ 2 ^ w := by rw [eR, nup_s]
    have hx' : xr (mm_u σ 10 7 (nI (R 3 ^^^ 2 ^ w))) 10 R' := by rw [eR]; exact xr_asleep hx
    refine ⟨.int (if n_aw R' w = true then 1 else 0), mm_u σ 10 7 (nI (R 3 ^^^ 2 ^ w)), mm_u (mm_u σ 10 7 (nI (R 3 ^^^ 2 ^ w))) 52 3 (nI (R 3 ^^^ 2 ^ w)), ?_, ?_, ?_⟩
    · have tv : mm_Ev mm_m_X1_turnsOver [.ref 10, .int (nI w)] σ (some (.int 1)) (mm_u σ 10 7 (nI (R 3 ^^^ 2 ^ w))) := by
        refine sg_X1_turnsOver_0 σ 10 _ _ ⟨_, σ, ev_X10_isWaker σ _, ?_⟩
        rw [x_wk σ hw]
        refine g1b ⟨rfl, fun σ6 e6 => ?_⟩
        rw [e6, hx.2.2.2.1, n_xor _ wf.2.2.2.1 w hw]
      refine sg_X10_sleeps_0 σ _ _ ⟨_, _, tv, g1b ⟨_, _, ev_X1_isAwake _ 10 _ (fun _ => rfl), ?_⟩⟩
      rw [x_isAw _ hx'.2.2.2.1 wf'.2.2.2.1 (Or.inl hw)]
      cases n_aw R' w with
      | true => exact ⟨fun z => absurd z (show ¬ (1 : Int32) = 0 by decide), fun _ => rfl⟩
      | false => exact ⟨fun _ => rfl, fun z => absurd rfl z⟩
    · refine sg_X11_sleeps_0 (mm_u σ 10 7 (nI (R 3 ^^^ 2 ^ w))) _ _ ?_
      refine ⟨_, (mm_u σ 10 7 (nI (R 3 ^^^ 2 ^ w))), ev_X11_isWaker (mm_u σ 10 7 (nI (R 3 ^^^ 2 ^ w))) _, ?_⟩
      rw [m_wk (mm_u σ 10 7 (nI (R 3 ^^^ 2 ^ w))) hw]
      first | refine g1a ?_ | refine g1b ?_ | refine g0a ?_ | refine g0b ?_
      intro σ5 e5
      rw [mm_u_o (by decide), hm, ra_at, n_xor _ wf.2.2.2.1 w hw] at e5
      rw [e5]
      refine ⟨_, _, ev_X11_isAwake _ 52 _ (fun _ => by unfold vp_in; decide), ?_⟩
      rw [n_isAw _ (q := 52) (R := R') (by rw [mm_u_kk, s3]) wf'.2.2.2.1 (Or.inl hw)]
      cases n_aw R' w with
      | true => exact ⟨fun z => absurd z (show ¬ (1 : Int32) = 0 by decide), fun _ => rfl⟩
      | false => exact ⟨fun _ => rfl, fun z => absurd rfl z⟩
    · exact hI.one (R := R') wf' (by rw [eR, nup_o R (by omega)]; exact r4) (by rw [eR, nup_o R (by omega)]; exact r5) (by rw [eR, nup_o R (by omega)]; exact r6) hx' (by omega) (by rw [hm, ← ra_up, eR])
  · refine FQ.refuse hI (.int (-1)) ?_ ?_
    · refine sg_X10_sleeps_0 σ _ _ ⟨0, σ, ?_, g0b rfl⟩
      refine sg_X1_turnsOver_0 σ 10 _ _ ⟨_, σ, ev_X10_isWaker σ _, ?_⟩
      rw [x_wkf σ h1]
      exact g0b rfl
    · refine sg_X11_sleeps_0 σ _ _ ?_
      refine ⟨_, σ, ev_X11_isWaker σ _, ?_⟩
      rw [m_wkf σ h1]
      first | refine g1a ?_ | refine g1b ?_ | refine g0a ?_ | refine g0b ?_
      rfl
theorem F_days {σ : mm_Sg} (hI : Inv σ) (x1 : Int32) : FQ mm_m_X10_days mm_m_X11_days [.int x1] σ := by
  obtain ⟨⟨R, hcp⟩, hi, z53, z54, z55, hs⟩ := id hI
  obtain ⟨wf, r4, r5, r6, hx, hm⟩ := id hcp
  have h0 : σ 10 6 = nI (R 0) := hx.1
  have m0 : σ 52 0 = nI (R 0) := by rw [hm]; rfl
  have w7 := wf.1
  rcases bt_c x1 1 60 (by decide) (by decide) with ⟨n, hn1, hn, rfl⟩ | h1
  · have d1 := wf.2.1
    have ed : nI (R 1) + nI n = nI (R 1 + n) := nI_add _ _
    by_cases hd : R 1 + n ≤ 999
    · obtain ⟨σ1, g1, y1, -, o1⟩ := xW_days (n := n) (Or.inl rfl) hx wf (by omega)
      have hm1 : σ1 52 = ra R := by rw [o1 52 (by decide) (by decide) (by decide) (by decide)]; exact hm
      obtain ⟨σ2, g2, y2, -, o2⟩ := mW_days (a := 52) (n := n) rfl (by decide) hm1 wf (by omega)
      have wd := n_wf_days wf n
      obtain ⟨k1, k2, -⟩ := n_days_k wf r4 r5 n
      refine ⟨.int (nI (n_owed (n_days n R))), σ1, σ2, ?_, ?_, ?_⟩
      · refine sg_X10_days_0 σ _ _ ?_
        refine ⟨_, σ, ev_X10_isBetween σ _ _ _, ?_⟩
        rw [show f_X10_isBetween σ (nI n) (1 : Int32) (60 : Int32) = 1 from bt_t σ (a := 1) (m := 60) ⟨by omega, by omega⟩ (by decide)]
        first | refine g1a ?_ | refine g1b ?_ | refine g0a ?_ | refine g0b ?_
        rw [hx.2.1, ed]
        exact ⟨fun _ => ⟨σ1, g1, _, σ1, xW_owed (Or.inl rfl) y1 wd, rfl⟩, fun z => absurd (nI_le (b := 999) hd (by decide)) z⟩
      · refine sg_X11_days_0 σ1 _ _ ?_
        refine ⟨_, σ1, ev_X11_isIn σ1 _ _ _, ?_⟩
        rw [show f_X11_isIn σ1 (nI n) (1 : Int32) (60 : Int32) = 1 from bt_t σ1 (a := 1) (m := 60) ⟨by omega, by omega⟩ (by decide)]
        first | refine g1a ?_ | refine g1b ?_ | refine g0a ?_ | refine g0b ?_
        rw [hm1, ra_at, ed]
        exact ⟨fun _ => ⟨σ2, g2, _, σ2, mW_owed rfl y2 wd, rfl⟩, fun z => absurd (nI_le (b := 999) hd (by decide)) z⟩
      · refine hI.now (R' := n_days n R) ⟨wd.day (by rw [k2]; exact hd), by rw [k1.2.1]; exact r4, by rw [k1.2.2.1]; exact r5, by rw [n_days6 wf]; exact r6, xr_same y1 (fun q _ _ => o2 q (by omega) (by omega)), y2⟩ (fun i hi => ?_) (fun i hi => ?_) ?_ (fun q h1 h2 h3 h4 => by rw [o2 q (by omega) (by omega), o1 q (by omega) (by omega) (by omega) (by omega)])
        · rw [o2 53 (by decide) (by decide), o1 53 (by decide) (by decide) (by decide) (by decide)]; exact z53 i hi
        · rw [o2 55 (by decide) (by decide), o1 55 (by decide) (by decide) (by decide) (by decide)]; exact z55 i hi
        · rw [o2 51 (by decide) (by decide), o1 51 (by decide) (by decide) (by decide) (by decide)]
    · refine FQ.refuse hI (.int (-3)) ?_ ?_
      · refine sg_X10_days_0 σ _ _ ?_
        refine ⟨_, σ, ev_X10_isBetween σ _ _ _, ?_⟩
        rw [show f_X10_isBetween σ (nI n) (1 : Int32) (60 : Int32) = 1 from bt_t σ (a := 1) (m := 60) ⟨by omega, by omega⟩ (by decide)]
        first | refine g1a ?_ | refine g1b ?_ | refine g0a ?_ | refine g0b ?_
        rw [hx.2.1, ed]
        exact ⟨fun z => absurd z (nI_ge (a := 999) (by omega) (by omega)), fun _ => rfl⟩
      · refine sg_X11_days_0 σ _ _ ?_
        refine ⟨_, σ, ev_X11_isIn σ _ _ _, ?_⟩
        rw [show f_X11_isIn σ (nI n) (1 : Int32) (60 : Int32) = 1 from bt_t σ (a := 1) (m := 60) ⟨by omega, by omega⟩ (by decide)]
        first | refine g1a ?_ | refine g1b ?_ | refine g0a ?_ | refine g0b ?_
        rw [hm, ra_at, ed]
        exact ⟨fun z => absurd z (nI_ge (a := 999) (by omega) (by omega)), fun _ => rfl⟩
  · refine FQ.refuse hI (.int (-1)) ?_ ?_
    · refine sg_X10_days_0 σ _ _ ?_
      refine ⟨_, σ, ev_X10_isBetween σ _ _ _, ?_⟩
      rw [show f_X10_isBetween σ x1 (1 : Int32) (60 : Int32) = 0 from h1 σ]
      first | refine g1a ?_ | refine g1b ?_ | refine g0a ?_ | refine g0b ?_
      rfl
    · refine sg_X11_days_0 σ _ _ ?_
      refine ⟨_, σ, ev_X11_isIn σ _ _ _, ?_⟩
      rw [show f_X11_isIn σ x1 (1 : Int32) (60 : Int32) = 0 from h1 σ]
      first | refine g1a ?_ | refine g1b ?_ | refine g0a ?_ | refine g0b ?_
      rfl
theorem F_image {σ : mm_Sg} (hI : Inv σ) : FQ mm_m_X10_image mm_m_X11_image [] σ := by
  obtain ⟨⟨R, hcp⟩, hi, z53, z54, z55, hs⟩ := id hI
  obtain ⟨wf, r4, r5, r6, hx, hm⟩ := id hcp
  have h0 : σ 10 6 = nI (R 0) := hx.1
  have m0 : σ 52 0 = nI (R 0) := by rw [hm]; rfl
  have w7 := wf.1
  obtain ⟨σ1, g1, y1, -, o1⟩ := xW_like (c := 17) (d := 10) (Or.inr (Or.inl rfl)) (Or.inl rfl) (by decide) hx r4 r5 r6
  obtain ⟨s1, es1⟩ : ∃ s1, s1 = mm_u σ1 0 7 1 := ⟨_, rfl⟩
  have e52 : s1 52 = ra R := by rw [es1, mm_u_o (by decide), o1 52 (by omega)]; exact hm
  have z52 : z40 s1 52 := fun i hi => by rw [e52, ra_at, wf.2.2.2.2.2.2.2.2.2 i hi]; rfl
  obtain ⟨σ2, g2, y2, o2⟩ := mW_copies (σ := s1) (a := 52) (b := 54) rfl rfl (by decide) z52 (fun i hi => by rw [es1, mm_u_o (by decide), o1 54 (by omega)]; exact z54 i hi)
  have x1 : xr s1 10 R := by rw [es1]; exact xr_same hx (fun q _ _ => by rw [mm_u_o (by omega), o1 q (by omega)])
  have x17 : xr s1 17 R := by rw [es1]; exact xr_same y1 (fun q _ _ => mm_u_o (by omega))
  have c52 : σ2 52 = ra R := by rw [o2 52 (by decide)]; exact e52
  have c54 : σ2 54 = ra R := y2.trans e52
  have fr : ∀ q, q ≠ 0 → ¬ (17 ≤ q ∧ q ≤ 23) → q ≠ 51 → q ≠ 54 → (mm_u σ2 51 5 1) q = σ q := fun q a b c d => by rw [mm_u_o c, o2 q d, es1, mm_u_o a, o1 q (by omega)]
  refine ⟨.int (nI (R 1)), s1, mm_u σ2 51 5 1, ?_, ?_, ?_⟩
  · refine sg_X10_image_0 σ _ ⟨σ1, g1, fun σ3 e3 => ?_⟩
    rw [← es1] at e3
    rw [e3, x1.2.1]
  · refine sg_X11_image_0 s1 _ ⟨σ2, g2, fun σ3 e3 => ?_⟩
    rw [e3, mm_u_o (by decide), c52, ra_at]
  · refine ⟨⟨R, wf, r4, r5, r6, xr_same hx (fun q _ _ => fr q (by omega) (by omega) (by omega) (by omega)), by rw [mm_u_o (by decide)]; exact c52⟩, Or.inr ⟨?_, mm_u_kk, R, wf, r4, r5, r6, ?_, by rw [mm_u_o (by decide)]; exact c54⟩, ?_, ?_, ?_, fun d hd => shv_same (hs d hd) (fr _ (by omega) (by omega) (by omega) (by omega)) (fr _ (by omega) (by omega) (by omega) (by omega)) (fun q _ _ => fr q (by omega) (by omega) (by omega) (by omega))⟩
    · rw [mm_u_o (by decide), o2 0 (by decide), es1, mm_u_kk]
    · exact xr_same x17 (fun q _ _ => by rw [mm_u_o (by omega), o2 q (by omega)])
    · intro i hi; rw [fr 53 (by decide) (by omega) (by decide) (by decide)]; exact z53 i hi
    · intro i hi; rw [mm_u_o (by decide), c54, ra_at, wf.2.2.2.2.2.2.2.2.2 i hi]; rfl
    · intro i hi; rw [fr 55 (by decide) (by omega) (by decide) (by decide)]; exact z55 i hi
theorem F_restore {σ : mm_Sg} (hI : Inv σ) : FQ mm_m_X10_restore mm_m_X11_restore [] σ := by
  obtain ⟨⟨R, hcp⟩, hi, z53, z54, z55, hs⟩ := id hI
  obtain ⟨wf, r4, r5, r6, hx, hm⟩ := id hcp
  have h0 : σ 10 6 = nI (R 0) := hx.1
  have m0 : σ 52 0 = nI (R 0) := by rw [hm]; rfl
  have w7 := wf.1
  rcases hi with ⟨i1, i2⟩ | ⟨i1, i2, R', hcp'⟩
  · exact FQ.refuse hI (.int (-3)) (sg_X10_restore_0 σ _ ⟨fun z => absurd i1 z, fun _ => rfl⟩) (sg_X11_restore_0 σ _ ⟨fun z => absurd i2 z, fun _ => rfl⟩)
  · obtain ⟨wf', p4, p5, p6, hx', hm'⟩ := id hcp'
    obtain ⟨σ1, g1, y1, -, o1⟩ := xW_like (c := 10) (d := 17) (Or.inl rfl) (Or.inr (Or.inl rfl)) (by decide) hx' p4 p5 p6
    have e54 : σ1 54 = ra R' := by rw [o1 54 (by omega)]; exact hm'
    obtain ⟨σ2, g2, y2, o2⟩ := mW_copies (σ := σ1) (a := 54) (b := 52) rfl rfl (by decide) (fun i hi => by rw [o1 54 (by omega)]; exact z54 i hi) (fun i hi => by rw [o1 52 (by omega), hm, ra_at, wf.2.2.2.2.2.2.2.2.2 i hi]; rfl)
    have c52 : σ2 52 = ra R' := y2.trans e54
    refine ⟨.int (nI (R' 1)), σ1, σ2, sg_X10_restore_0 σ _ ⟨fun _ => ⟨σ1, g1, by rw [y1.2.1]⟩, fun z => absurd (fun e => by rw [i1] at e; exact absurd e (by decide)) z⟩, sg_X11_restore_0 σ1 _ ⟨fun _ => ⟨σ2, g2, by rw [c52, ra_at]⟩, fun z => absurd (fun e => by rw [o1 51 (by omega), i2] at e; exact absurd e (by decide)) z⟩, ?_⟩
    refine hI.now (R' := R') ⟨wf', p4, p5, p6, xr_same y1 (fun q _ _ => o2 q (by omega)), c52⟩ (fun i hi => ?_) (fun i hi => ?_) ?_ (fun q h1 h2 h3 h4 => by rw [o2 q (by omega), o1 q (by omega)])
    · rw [o2 53 (by decide), o1 53 (by omega)]; exact z53 i hi
    · rw [o2 55 (by decide), o1 55 (by omega)]; exact z55 i hi
    · rw [o2 51 (by decide), o1 51 (by omega)]
theorem kind_c {σ : mm_Sg} (hs : ∀ d, d < 8 → shv σ d) (x : Int32) : (∃ d k f, d < 8 ∧ x = nI d ∧ k < 8 ∧ f < 10 ∧ (σ (32 + 2 * d) 1 = nI k ∧ σ 60 d = nI k ∧ σ (32 + 2 * d) 2 = nI f ∧ σ 61 d = nI f) ∧ f_X10_refusalUnless σ 0 1 x = 0 ∧ f_X11_wrongKept σ 51 x = 0) ∨ ∃ v : Int32, ¬ v = 0 ∧ f_X10_refusalUnless σ 0 1 x = v ∧ f_X11_wrongKept σ 51 x = v := by
  by_cases h : vp_in x 8
  · obtain ⟨d, hd, rfl⟩ := vp_in_of h (by decide)
    obtain ⟨q, q2, a, b, c1, -⟩ := hs d hd
    have ex : f_X10_refusalUnless σ 0 1 (nI d) = if ¬ nI q = (0 : Int32) then (if ¬ nI q = (1 : Int32) then (-12 : Int32) else (0 : Int32)) else (-11 : Int32) := by
      unfold f_X10_refusalUnless
      rw [x_sh σ hd, if_pos (by decide), nI_clamp (by omega), a]
    have em : f_X11_wrongKept σ 51 (nI d) = if ¬ nI q = (0 : Int32) then (if ¬ nI q = (2 : Int32) then (0 : Int32) else (-12 : Int32)) else (-11 : Int32) := by
      unfold f_X11_wrongKept
      rw [m_sh σ hd, if_pos (by decide), nI_clamp (by omega), b]
    rcases (show q = 0 ∨ q = 1 ∨ q = 2 by omega) with rfl | rfl | rfl
    · exact Or.inr ⟨-11, by decide, ex, em⟩
    · obtain ⟨k, f, p1, p2, p3⟩ := c1 rfl
      exact Or.inl ⟨d, k, f, hd, rfl, p1, p2, p3, ex, em⟩
    · exact Or.inr ⟨-12, by decide, ex, em⟩
  · refine Or.inr ⟨-1, by decide, ru_f σ h, ?_⟩
    unfold f_X11_wrongKept
    rw [m_shf σ h]
    rfl
theorem ev_WK (σ : mm_Sg) (x : Int32) : mm_Ev mm_m_X11_wrongKept [.ref 51, .int x] σ (some (.int (f_X11_wrongKept σ 51 x))) σ := by
  by_cases h : vp_in x 8
  · exact ev_X11_wrongKept σ x (fun _ => h)
  · exact ev_X11_wrongKept σ x (fun z => absurd (m_shf σ h) z)
theorem n_price0 : ∀ k, k < 8 → ∀ f, f < 10 → f_D3 (fun _ _ => 0) (2 + k) (nI f) = f_X11_costBy (fun _ _ => 0) (nI k) (nI f) := by decide +kernel
theorem n_price (σ : mm_Sg) {k f : Nat} (hk : k < 8) (hf : f < 10) : f_D3 σ (2 + k) (nI f) = f_X11_costBy σ (nI k) (nI f) := n_price0 k hk f hf
theorem F_cost {σ : mm_Sg} (hI : Inv σ) (x1 : Int32) : FQ mm_m_X10_cost mm_m_X11_cost [.int x1] σ := by
  obtain ⟨⟨R, hcp⟩, hi, z53, z54, z55, hs⟩ := id hI
  obtain ⟨wf, r4, r5, r6, hx, hm⟩ := id hcp
  have h0 : σ 10 6 = nI (R 0) := hx.1
  have m0 : σ 52 0 = nI (R 0) := by rw [hm]; rfl
  have w7 := wf.1
  rcases kind_c hs x1 with ⟨d, k, f, hd, rfl, hk, hf, ⟨e1, e2, e3, e4⟩, ru, wk⟩ | ⟨v, v0, ru, wk⟩
  · refine FQ.refuse hI (.int (f_X11_costBy σ (nI k) (nI f))) ?_ ?_
    · refine sg_X10_cost_0 σ _ _ ⟨_, σ, ev_RU σ _ _, ?_⟩
      rw [ru]
      refine g0a ⟨v_in hd (by decide), by rw [nI_clamp (by omega)]; exact (cl_sh d hd).1, 2 + k, σ, ?_, f_D3 σ (2 + k) (nI f), σ, ?_, by rw [n_price σ hk hf]⟩
      · rw [nI_clamp (by omega), e1]
        exact ev_kn σ (c := 10) (Or.inl rfl) hk
      · rw [nI_clamp (by omega), e3]
        exact ev_D3 σ _ _ (by omega)
    · refine sg_X11_cost_0 σ _ _ ⟨_, σ, ev_WK σ _, ?_⟩
      rw [wk]
      refine g0a ⟨v_in (N := 8) hd (by decide), v_in (N := 8) hd (by decide), ?_⟩
      rw [nI_clamp (by omega), e2, e4]
      exact ⟨_, σ, ev_X11_costBy σ _ _, rfl⟩
  · refine FQ.refuse hI (.int v) ?_ ?_
    · refine sg_X10_cost_0 σ _ _ ⟨_, σ, ev_RU σ _ _, ?_⟩
      rw [ru]
      exact ⟨fun z => absurd z v0, fun _ => rfl⟩
    · refine sg_X11_cost_0 σ _ _ ⟨_, σ, ev_WK σ _, ?_⟩
      rw [wk]
      exact ⟨fun z => absurd z v0, fun _ => rfl⟩
theorem n_wf_people {D : Nat} {R : Nat → Nat} (h : n_wf D R) {v : Nat} (hv : v ≤ 7) : n_wf D (nup R 0 v) := by
  obtain ⟨h0, h1, h2, h3, h4, h5, h6, h7, h8, h9⟩ := h
  refine ⟨by rw [nup_s]; exact hv, by rw [nup_o R (by omega)]; exact h1, by rw [nup_o R (by omega)]; exact h2, by rw [nup_o R (by omega)]; exact h3, by rw [nup_o R (by omega)]; exact h4, by rw [nup_o R (by omega)]; exact h5, by rw [nup_o R (by omega)]; exact h6, fun k hk => ?_, fun x hx => ?_, fun i hi => ?_⟩
  · rw [nup_o R (by omega), nup_o R (by omega), nup_o R (by omega), nup_o R (by omega)]
    exact h7 k hk
  · rw [nup_o R (by omega)]; exact h8 x hx
  · rw [nup_o R (by omega)]; exact h9 i hi
theorem xr_people {σ : mm_Sg} {c v : Nat} {R : Nat → Nat} (h : xr σ c R) : xr (mm_u σ c 6 (nI v)) c (nup R 0 v) := by
  obtain ⟨h0, h1, h2, h3, h4, h5, h6, h7, h8⟩ := h
  refine ⟨by rw [mm_u_kk, nup_s], by rw [mm_u_k (by omega), nup_o R (by omega)]; exact h1, by rw [mm_u_k (by omega), nup_o R (by omega)]; exact h2, by rw [mm_u_k (by omega), nup_o R (by omega)]; exact h3, by rw [mm_u_k (by omega), nup_o R (by omega)]; exact h4, by rw [mm_u_k (by omega), nup_o R (by omega)]; exact h5, by rw [mm_u_k (by omega), nup_o R (by omega)]; exact h6, fun k hk => ?_, fun w hw => ?_⟩
  · rw [mm_u_o (by omega), mm_u_o (by omega), mm_u_o (by omega), mm_u_o (by omega), nup_o R (by omega), nup_o R (by omega), nup_o R (by omega), nup_o R (by omega)]
    exact h7 k hk
  · rw [mm_u_o (by omega), nup_o R (by omega)]
    exact h8 w hw
/-- one more -/
def n_join (R : Nat → Nat) (k f w : Nat) : Nat → Nat := nup (nup (nup (nup (nup R (7 + 4 * R 0) k) (8 + 4 * R 0) f) (9 + 4 * R 0) w) (10 + 4 * R 0) 0) 0 (R 0 + 1)
theorem n_wf_join {D : Nat} {R : Nat → Nat} (h : n_wf D R) {k f w : Nat} (h7 : R 0 < 7) (hk : k < 8) (hf : f < 10) (hw : w < 5 ∨ w = 9) : n_wf D (n_join R k f w) := n_wf_people (n_wf_owes (n_wf_waker (n_wf_fig (n_wf_kind h h7 hk) h7 hf) h7 hw) h7 (by decide)) (by omega)
theorem n_join_o {R : Nat → Nat} {k f w i : Nat} (h : 1 ≤ i ∧ i ≤ 6) : n_join R k f w i = R i := by
  unfold n_join
  rw [nup_o _ (by omega), nup_o _ (by omega), nup_o _ (by omega), nup_o _ (by omega), nup_o _ (by omega)]
theorem xW_joins {σ : mm_Sg} {c : Nat} {R : Nat → Nat} {k f w : Nat} (hc : isC c) (hx : xr σ c R) (h7 : R 0 < 7) : ∃ σ', mm_Ev mm_m_X1_joins [.ref c, .int (nI k), .int (nI f), .int (nI w)] σ (some (.int 1)) σ' ∧ xr σ' c (n_join R k f w) ∧ ∀ q, ¬ (c ≤ q ∧ q ≤ c + 4) → σ' q = σ q := by
  obtain ⟨cl, l1, l2, l3, l4, l5, l6⟩ := hc.cl
  have c0 : σ c 6 = nI (R 0) := hx.1
  have a1 : ∀ i, 0 < i → c ≠ c + i := fun i hi => by omega
  refine ⟨mm_u (mm_u (mm_u (mm_u (mm_u σ (c + 1) (R 0) (nI k)) (c + 2) (R 0) (nI f)) (c + 3) (R 0) (nI w)) (c + 4) (R 0) (nI 0)) c 6 (nI (R 0 + 1)), ?_, xr_people (xr_owes (xr_waker (xr_fig (xr_kind hx h7) h7) h7) h7), fun q hq => by rw [mm_u_o (by omega), mm_u_o (by omega), mm_u_o (by omega), mm_u_o (by omega), mm_u_o (by omega)]⟩
  refine sg_X1_joins_0 σ c _ _ _ _ ⟨cl, ?_⟩
  rw [c0]
  refine ⟨fun z => absurd z (nI_pos (by omega)), fun _ => ⟨fun _ => ⟨by rw [l1]; exact v_in h7 (by decide), fun σ5 e5 => ?_⟩, fun z => absurd (nI_lt (b := 7) h7 (by decide)) z⟩⟩
  rw [nI_clamp (by omega)] at e5
  have q5 : σ5 c 6 = nI (R 0) := by rw [e5, mm_u_o (by omega)]; exact c0
  rw [q5]
  refine ⟨by rw [l2]; exact v_in h7 (by decide), fun σ8 e8 => ?_⟩
  rw [nI_clamp (by omega), e5] at e8
  have q8 : σ8 c 6 = nI (R 0) := by rw [e8, mm_u_o (by omega), mm_u_o (by omega)]; exact c0
  rw [q8]
  refine ⟨by rw [l3]; exact v_in h7 (by decide), fun σ11 e11 => ?_⟩
  rw [nI_clamp (by omega), e8] at e11
  have q11 : σ11 c 6 = nI (R 0) := by rw [e11, mm_u_o (by omega), mm_u_o (by omega), mm_u_o (by omega)]; exact c0
  rw [q11]
  refine ⟨by rw [l4]; exact v_in h7 (by decide), fun σ14 e14 => ?_⟩
  rw [nI_clamp (by omega), e11] at e14
  have q14 : σ14 c 6 = nI (R 0) := by rw [e14, mm_u_o (by omega), mm_u_o (by omega), mm_u_o (by omega), mm_u_o (by omega)]; exact c0
  intro σ16 e16
  rw [q14, nI_1, e14] at e16
  rw [e16]
  rfl
theorem mW_adds {σ : mm_Sg} {R : Nat → Nat} {k f w : Nat} (hm : σ 52 = ra R) (h7 : R 0 < 7) : ∃ σ', mm_Ev mm_m_X11_adds [.ref 51, .int (nI k), .int (nI f), .int (nI w)] σ none σ' ∧ σ' 52 = ra (n_join R k f w) ∧ ∀ q, q ≠ 52 → σ' q = σ q := by
  have o := fun (s : mm_Sg) (j : Nat) (hj : j < 4) => n_ofc s j h7 hj
  have m0 : σ 52 0 = nI (R 0) := by rw [hm]; rfl
  refine ⟨mm_u (mm_u (mm_u (mm_u (mm_u σ 52 (7 + 4 * R 0) (nI k)) 52 (8 + 4 * R 0) (nI f)) 52 (9 + 4 * R 0) (nI w)) 52 (10 + 4 * R 0) (nI 0)) 52 0 (nI (R 0 + 1)), ?_, by rw [mm_u_s, mm_u_s, mm_u_s, mm_u_s, mm_u_s, hm, ← ra_up, ← ra_up, ← ra_up, ← ra_up, ← ra_up]; rfl, fun q hq => by rw [mm_u_o hq, mm_u_o hq, mm_u_o hq, mm_u_o hq, mm_u_o hq]⟩
  refine sg_X11_adds_0 σ _ _ _ _ ?_
  rw [m0]
  refine ⟨_, σ, ev_X11_of σ _ _, (o σ 0 (by decide)).2, fun σ5 e5 => ?_⟩
  rw [show (f_X11_of σ (nI (R 0)) (0 : Int32)).toNatClampNeg = 7 + 4 * R 0 from (o σ 0 (by decide)).1] at e5
  refine ⟨_, σ5, ev_X11_of σ5 _ _, (o σ5 1 (by decide)).2, fun σ11 e11 => ?_⟩
  rw [show (f_X11_of σ5 (nI (R 0)) (1 : Int32)).toNatClampNeg = 8 + 4 * R 0 from by rw [show (1 : Int32) = nI 1 from rfl, (o σ5 1 (by decide)).1]; omega, e5] at e11
  refine ⟨_, σ11, ev_X11_of σ11 _ _, (o σ11 2 (by decide)).2, fun σ17 e17 => ?_⟩
  rw [show (f_X11_of σ11 (nI (R 0)) (2 : Int32)).toNatClampNeg = 9 + 4 * R 0 from by rw [show (2 : Int32) = nI 2 from rfl, (o σ11 2 (by decide)).1]; omega, e11] at e17
  refine ⟨_, σ17, ev_X11_of σ17 _ _, (o σ17 3 (by decide)).2, fun σ23 e23 => ?_⟩
  rw [show (f_X11_of σ17 (nI (R 0)) (3 : Int32)).toNatClampNeg = 10 + 4 * R 0 from by rw [show (3 : Int32) = nI 3 from rfl, (o σ17 3 (by decide)).1]; omega, e17] at e23
  intro σ25 e25
  rw [show σ23 52 0 = nI (R 0) from by rw [e23, mm_u_k (by omega), mm_u_k (by omega), mm_u_k (by omega), mm_u_k (by omega)]; exact m0, nI_1, e23] at e25
  rw [e25]
  rfl
theorem F_comes {σ : mm_Sg} (hI : Inv σ) (x1 x2 : Int32) : FQ mm_m_X10_comes mm_m_X11_comes [.int x1, .int x2] σ := by
  obtain ⟨⟨R, hcp⟩, hi, z53, z54, z55, hs⟩ := id hI
  obtain ⟨wf, r4, r5, r6, hx, hm⟩ := id hcp
  have h0 : σ 10 6 = nI (R 0) := hx.1
  have m0 : σ 52 0 = nI (R 0) := by rw [hm]; rfl
  have w7 := wf.1
  by_cases h2 : wn x2
  · rcases kind_c hs x1 with ⟨d, k, f, hd, rfl, hk, hf, ⟨e1, e2, e3, e4⟩, ru, wk⟩ | ⟨v, v0, ru, wk⟩
    · have ex1 := (cl_sh d hd).1
      have v8 : vp_in (nI d) 8 := v_in hd (by decide)
      obtain ⟨w, hw, rfl⟩ := wn_of h2
      by_cases h7 : R 0 < 7
      · obtain ⟨σ1, g1, y1, o1⟩ := xW_joins (k := k) (f := f) (w := w) (Or.inl rfl) hx h7
        have hm1 : σ1 52 = ra R := by rw [o1 52 (by omega)]; exact hm
        obtain ⟨σ2, g2, y2, o2⟩ := mW_adds (k := k) (f := f) (w := w) hm1 h7
        have wk1 : f_X11_wrongKept σ1 51 (nI d) = 0 := by
          rw [← wk]
          unfold f_X11_wrongKept
          rw [o1 59 (by omega)]
          rfl
        refine ⟨.int (nI (R 0)), σ1, σ2, ?_, ?_, ?_⟩
        · refine sg_X10_comes_0 σ _ _ _ ?_
          refine ⟨_, σ, ev_X10_isShelf σ _, ?_⟩
          rw [x_sh σ hd]
          first | refine g1a ?_ | refine g1b ?_ | refine g0a ?_ | refine g0b ?_
          refine ⟨_, σ, ev_X10_isWakerOrNobody σ _, ?_⟩
          rw [x_wn σ h2]
          first | refine g1a ?_ | refine g1b ?_ | refine g0a ?_ | refine g0b ?_
          refine ⟨_, σ, ev_RU σ _ _, ?_⟩
          rw [ru]
          refine g0a ⟨v8, by rw [nI_clamp (by omega)]; exact ex1, ?_⟩
          rw [nI_clamp (by omega), e1, e3]
          refine ⟨1, σ1, g1, g1b ?_⟩
          rw [y1.1, show n_join R k f w 0 = R 0 + 1 from nup_s _ _ _, nI_pred]
        · refine sg_X11_comes_0 σ1 _ _ _ ?_
          refine ⟨_, σ1, ev_X11_isWakerOrNone σ1 _, ?_⟩
          rw [m_wn σ1 h2]
          first | refine g1a ?_ | refine g1b ?_ | refine g0a ?_ | refine g0b ?_
          refine ⟨_, σ1, ev_WK σ1 _, ?_⟩
          rw [wk1]
          refine g0a ⟨fun _ => ⟨v8, v8, ?_⟩, fun z => absurd (fun e => ?_) z⟩
          · rw [nI_clamp (by omega), o1 60 (by omega), o1 61 (by omega), e2, e4]
            refine ⟨σ2, g2, ?_⟩
            rw [y2, ra_at, show n_join R k f w 0 = R 0 + 1 from nup_s _ _ _, nI_pred]
          · rw [hm1, ra_at] at e
            have := (nI_eq (b := 7) (by omega) (by decide)).mp e
            omega
        · refine hI.now (R' := n_join R k f w) ⟨n_wf_join wf h7 hk hf hw, by rw [n_join_o (by omega)]; exact r4, by rw [n_join_o (by omega)]; exact r5, by rw [n_join_o (by omega)]; exact r6, xr_same y1 (fun q _ _ => o2 q (by omega)), y2⟩ (fun i hi => ?_) (fun i hi => ?_) ?_ (fun q h1 h2 h3 h4 => by rw [o2 q (by omega), o1 q (by omega)])
          · rw [o2 53 (by decide), o1 53 (by omega)]; exact z53 i hi
          · rw [o2 55 (by decide), o1 55 (by omega)]; exact z55 i hi
          · rw [o2 51 (by decide), o1 51 (by omega)]
      · have e7 : R 0 = 7 := by omega
        refine FQ.refuse hI (.int (-2)) ?_ ?_
        · refine sg_X10_comes_0 σ _ _ _ ?_
          refine ⟨_, σ, ev_X10_isShelf σ _, ?_⟩
          rw [x_sh σ hd]
          first | refine g1a ?_ | refine g1b ?_ | refine g0a ?_ | refine g0b ?_
          refine ⟨_, σ, ev_X10_isWakerOrNobody σ _, ?_⟩
          rw [x_wn σ h2]
          first | refine g1a ?_ | refine g1b ?_ | refine g0a ?_ | refine g0b ?_
          refine ⟨_, σ, ev_RU σ _ _, ?_⟩
          rw [ru]
          refine g0a ⟨v8, by rw [nI_clamp (by omega)]; exact ex1, ?_⟩
          refine ⟨0, σ, ?_, g0b rfl⟩
          refine sg_X1_joins_0 σ 10 _ _ _ _ ⟨rfl, ?_⟩
          rw [h0, e7]
          exact ⟨fun z => absurd z (by decide), fun _ => ⟨fun z => absurd z (by decide), fun _ => rfl⟩⟩
        · refine sg_X11_comes_0 σ _ _ _ ?_
          refine ⟨_, σ, ev_X11_isWakerOrNone σ _, ?_⟩
          rw [m_wn σ h2]
          first | refine g1a ?_ | refine g1b ?_ | refine g0a ?_ | refine g0b ?_
          refine ⟨_, σ, ev_WK σ _, ?_⟩
          rw [wk]
          refine g0a ⟨fun z => absurd (by rw [m0, e7]; rfl) z, fun _ => rfl⟩
    · by_cases h1 : vp_in x1 8
      · obtain ⟨d, hd, rfl⟩ := vp_in_of h1 (by decide)
        refine FQ.refuse hI (.int v) ?_ ?_
        · refine sg_X10_comes_0 σ _ _ _ ?_
          refine ⟨_, σ, ev_X10_isShelf σ _, ?_⟩
          rw [x_sh σ hd]
          first | refine g1a ?_ | refine g1b ?_ | refine g0a ?_ | refine g0b ?_
          refine ⟨_, σ, ev_X10_isWakerOrNobody σ _, ?_⟩
          rw [x_wn σ h2]
          first | refine g1a ?_ | refine g1b ?_ | refine g0a ?_ | refine g0b ?_
          refine ⟨_, σ, ev_RU σ _ _, ?_⟩
          rw [ru]
          exact ⟨fun z => absurd z v0, fun _ => rfl⟩
        · refine sg_X11_comes_0 σ _ _ _ ?_
          refine ⟨_, σ, ev_X11_isWakerOrNone σ _, ?_⟩
          rw [m_wn σ h2]
          first | refine g1a ?_ | refine g1b ?_ | refine g0a ?_ | refine g0b ?_
          refine ⟨_, σ, ev_WK σ _, ?_⟩
          rw [wk]
          exact ⟨fun z => absurd z v0, fun _ => rfl⟩
      · have ev : v = -1 := by rw [← ru]; exact ru_f σ h1
        refine FQ.refuse hI (.int (-1)) ?_ ?_
        · refine sg_X10_comes_0 σ _ _ _ ?_
          refine ⟨_, σ, ev_X10_isShelf σ _, ?_⟩
          rw [x_shf σ h1]
          first | refine g1a ?_ | refine g1b ?_ | refine g0a ?_ | refine g0b ?_
          rfl
        · refine sg_X11_comes_0 σ _ _ _ ?_
          refine ⟨_, σ, ev_X11_isWakerOrNone σ _, ?_⟩
          rw [m_wn σ h2]
          first | refine g1a ?_ | refine g1b ?_ | refine g0a ?_ | refine g0b ?_
          refine ⟨_, σ, ev_WK σ _, ?_⟩
          rw [wk, ev]
          exact ⟨fun z => absurd z (by decide), fun _ => rfl⟩
  · by_cases h1 : vp_in x1 8
    · obtain ⟨d, hd, rfl⟩ := vp_in_of h1 (by decide)
      refine FQ.refuse hI (.int (-1)) ?_ ?_
      · refine sg_X10_comes_0 σ _ _ _ ?_
        refine ⟨_, σ, ev_X10_isShelf σ _, ?_⟩
        rw [x_sh σ hd]
        first | refine g1a ?_ | refine g1b ?_ | refine g0a ?_ | refine g0b ?_
        refine ⟨_, σ, ev_X10_isWakerOrNobody σ _, ?_⟩
        rw [x_wnf σ h2]
        first | refine g1a ?_ | refine g1b ?_ | refine g0a ?_ | refine g0b ?_
        rfl
      · refine sg_X11_comes_0 σ _ _ _ ?_
        refine ⟨_, σ, ev_X11_isWakerOrNone σ _, ?_⟩
        rw [m_wnf σ h2]
        first | refine g1a ?_ | refine g1b ?_ | refine g0a ?_ | refine g0b ?_
        rfl
    · refine FQ.refuse hI (.int (-1)) ?_ ?_
      · refine sg_X10_comes_0 σ _ _ _ ?_
        refine ⟨_, σ, ev_X10_isShelf σ _, ?_⟩
        rw [x_shf σ h1]
        first | refine g1a ?_ | refine g1b ?_ | refine g0a ?_ | refine g0b ?_
        rfl
      · refine sg_X11_comes_0 σ _ _ _ ?_
        refine ⟨_, σ, ev_X11_isWakerOrNone σ _, ?_⟩
        rw [m_wnf σ h2]
        first | refine g1a ?_ | refine g1b ?_ | refine g0a ?_ | refine g0b ?_
        rfl
