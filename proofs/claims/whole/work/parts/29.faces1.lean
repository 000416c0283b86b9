/-! the face, method by method: thoughts of days on -/
theorem g1a {A B : Prop} (h : B) : ((1 : Int32) = 0 → A) ∧ (¬ ((1 : Int32) = 0) → B) := ⟨fun z => absurd z (by decide), fun _ => h⟩
theorem g1b {A B : Prop} (h : A) : (¬ (1 : Int32) = 0 → A) ∧ (¬ (¬ (1 : Int32) = 0) → B) := ⟨fun _ => h, fun z => absurd (by decide) z⟩
theorem g0a {A B : Prop} (h : A) : ((0 : Int32) = 0 → A) ∧ (¬ ((0 : Int32) = 0) → B) := ⟨fun _ => h, fun z => absurd rfl z⟩
theorem g0b {A B : Prop} (h : B) : (¬ (0 : Int32) = 0 → A) ∧ (¬ (¬ (0 : Int32) = 0) → B) := ⟨fun z => absurd rfl z, fun _ => h⟩
theorem bt_t (σ : mm_Sg) {j a m : Nat} (hj : a ≤ j ∧ j ≤ m) (hm : m < 2 ^ 31) : f_X10_isBetween σ (nI j) (nI a) (nI m) = 1 := by
  rw [q_bt σ (by omega) (by omega) hm, if_pos hj]
theorem xr_o {σ : mm_Sg} {c k : Nat} {R : Nat → Nat} (h : xr σ c R) (hk : k < 7) : σ (c + 4) k = nI (R (10 + 4 * k)) := (h.2.2.2.2.2.2.2.1 k hk).2.2.2
theorem xr_t {σ : mm_Sg} {c w : Nat} {R : Nat → Nat} (h : xr σ c R) (hw : w < 5) : σ (c + 5) w = nI (R (35 + w)) := h.2.2.2.2.2.2.2.2 w hw
theorem sg2 {A B C : Prop} {σ : mm_Sg} (_ : σ = σ) (h : A ∧ B ∧ C) : A ∧ B ∧ C := h
theorem F_owesThen {σ : mm_Sg} (hI : Inv σ) (x1 x2 : Int32) : FQ mm_m_X10_owesThen mm_m_X11_owesThen [.int x1, .int x2] σ := by
  obtain ⟨⟨R, wf, r4, r5, r6, hx, hm⟩, -, z53, -⟩ := id hI
  have h0 : σ 10 6 = nI (R 0) := hx.1
  have m0 : σ 52 0 = nI (R 0) := by rw [hm]; rfl
  have w7 := wf.1
  by_cases h1 : vp_in x1 (R 0)
  · obtain ⟨k, hk, rfl⟩ := vp_in_of h1 (by omega)
    by_cases h2 : vp_in x2 61
    · obtain ⟨n, hn, rfl⟩ := vp_in_of h2 (by decide)
      obtain ⟨σ1, g1, y1, t1⟩ := xW_think (n := n) hx wf r4 r5 r6 (by omega)
      obtain ⟨σ2, g2, y2, t2⟩ := mW_takes (n := n) (σ := σ1) (R := R) (by rw [t1 52 (by omega)]; exact hm) wf (fun i hi => by rw [t1 53 (by omega)]; exact z53 i hi) (by omega)
      have m0 : σ1 52 0 = nI (R 0) := by rw [t1 52 (by omega)]; exact m0
      refine FQ.look hI (.int (nI (n_days n R (10 + 4 * k)))) ?_ ?_ (XQ.think t1) (MQ2.think t2 y2 (n_wf_days wf n))
      · refine sg_X10_owesThen_0 σ _ _ _ ?_
        refine ⟨_, σ, ev_X1_has σ 10 _ (fun _ => rfl), ?_⟩
        rw [x_has σ h0 wf.1 (by omega), if_pos hk]
        first | refine g1a ?_ | refine g1b ?_ | refine g0a ?_ | refine g0b ?_
        refine ⟨_, σ, ev_X10_isBetween σ _ _ _, ?_⟩
        rw [show f_X10_isBetween σ (nI n) (0 : Int32) (60 : Int32) = 1 from bt_t σ (a := 0) (m := 60) ⟨by omega, by omega⟩ (by decide)]
        first | refine g1a ?_ | refine g1b ?_ | refine g0a ?_ | refine g0b ?_
        exact ⟨σ1, g1, v_in (N := 7) (by omega) (by decide), by rw [nI_clamp (by omega), xr_o y1 (by omega)]⟩
      · refine sg_X11_owesThen_0 σ1 _ _ _ ?_
        refine ⟨_, σ1, ev_X11_isDrinker σ1 _, ?_⟩
        rw [m_dk σ1 m0 wf.1 hk]
        first | refine g1a ?_ | refine g1b ?_ | refine g0a ?_ | refine g0b ?_
        refine ⟨_, σ1, ev_X11_isLate σ1 _, ?_⟩
        rw [show f_X11_isLate σ1 (nI n) = 1 from bt_t σ1 (a := 0) (m := 60) ⟨by omega, by omega⟩ (by decide)]
        first | refine g1a ?_ | refine g1b ?_ | refine g0a ?_ | refine g0b ?_
        have o3 := n_ofc σ2 3 (show k < 7 by omega) (by decide)
        exact ⟨σ2, g2, _, σ2, ev_X11_of σ2 _ _, o3.2, by rw [show (f_X11_of σ2 (nI k) (3 : Int32)).toNatClampNeg = 10 + 4 * k from by rw [show (3 : Int32) = nI 3 from rfl, o3.1]; omega, y2, ra_at]⟩
    · refine FQ.refuse hI (.int (-1)) ?_ ?_
      · refine sg_X10_owesThen_0 σ _ _ _ ?_
        refine ⟨_, σ, ev_X1_has σ 10 _ (fun _ => rfl), ?_⟩
        rw [x_has σ h0 wf.1 (by omega), if_pos hk]
        first | refine g1a ?_ | refine g1b ?_ | refine g0a ?_ | refine g0b ?_
        refine ⟨_, σ, ev_X10_isBetween σ _ _ _, ?_⟩
        rw [show f_X10_isBetween σ x2 (0 : Int32) (60 : Int32) = 0 from q_btf σ (a := 0) (b := 60) (by decide) (by decide) h2]
        first | refine g1a ?_ | refine g1b ?_ | refine g0a ?_ | refine g0b ?_
        rfl
      · refine sg_X11_owesThen_0 σ _ _ _ ?_
        refine ⟨_, σ, ev_X11_isDrinker σ _, ?_⟩
        rw [m_dk σ m0 wf.1 hk]
        first | refine g1a ?_ | refine g1b ?_ | refine g0a ?_ | refine g0b ?_
        refine ⟨_, σ, ev_X11_isLate σ _, ?_⟩
        rw [show f_X11_isLate σ x2 = 0 from q_btf σ (a := 0) (b := 60) (by decide) (by decide) h2]
        first | refine g1a ?_ | refine g1b ?_ | refine g0a ?_ | refine g0b ?_
        rfl
  · refine FQ.refuse hI (.int (-1)) ?_ ?_
    · refine sg_X10_owesThen_0 σ _ _ _ ?_
      refine ⟨_, σ, ev_X1_has σ 10 _ (fun _ => rfl), ?_⟩
      rw [x_hasf σ h0 wf.1 h1]
      first | refine g1a ?_ | refine g1b ?_ | refine g0a ?_ | refine g0b ?_
      rfl
    · refine sg_X11_owesThen_0 σ _ _ _ ?_
      refine ⟨_, σ, ev_X11_isDrinker σ _, ?_⟩
      rw [m_dkf σ m0 wf.1 h1]
      first | refine g1a ?_ | refine g1b ?_ | refine g0a ?_ | refine g0b ?_
      rfl
theorem F_tiredThen {σ : mm_Sg} (hI : Inv σ) (x1 x2 : Int32) : FQ mm_m_X10_tiredThen mm_m_X11_tiredThen [.int x1, .int x2] σ := by
  obtain ⟨⟨R, wf, r4, r5, r6, hx, hm⟩, -, z53, -⟩ := id hI
  have h0 : σ 10 6 = nI (R 0) := hx.1
  have m0 : σ 52 0 = nI (R 0) := by rw [hm]; rfl
  have w7 := wf.1
  by_cases h1 : vp_in x1 5
  · obtain ⟨w, hw, rfl⟩ := vp_in_of h1 (by omega)
    by_cases h2 : vp_in x2 61
    · obtain ⟨n, hn, rfl⟩ := vp_in_of h2 (by decide)
      obtain ⟨σ1, g1, y1, t1⟩ := xW_think (n := n) hx wf r4 r5 r6 (by omega)
      obtain ⟨σ2, g2, y2, t2⟩ := mW_takes (n := n) (σ := σ1) (R := R) (by rw [t1 52 (by omega)]; exact hm) wf (fun i hi => by rw [t1 53 (by omega)]; exact z53 i hi) (by omega)
      refine FQ.look hI (.int (nI (n_days n R (35 + w)))) ?_ ?_ (XQ.think t1) (MQ2.think t2 y2 (n_wf_days wf n))
      · refine sg_X10_tiredThen_0 σ _ _ _ ?_
        refine ⟨_, σ, ev_X10_isWaker σ _, ?_⟩
        rw [x_wk σ hw]
        first | refine g1a ?_ | refine g1b ?_ | refine g0a ?_ | refine g0b ?_
        refine ⟨_, σ, ev_X10_isBetween σ _ _ _, ?_⟩
        rw [show f_X10_isBetween σ (nI n) (0 : Int32) (60 : Int32) = 1 from bt_t σ (a := 0) (m := 60) ⟨by omega, by omega⟩ (by decide)]
        first | refine g1a ?_ | refine g1b ?_ | refine g0a ?_ | refine g0b ?_
        exact ⟨σ1, g1, v_in (N := 5) (by omega) (by decide), by rw [nI_clamp (by omega), xr_t y1 (by omega)]⟩
      · refine sg_X11_tiredThen_0 σ1 _ _ _ ?_
        refine ⟨_, σ1, ev_X11_isWaker σ1 _, ?_⟩
        rw [m_wk σ1 hw]
        first | refine g1a ?_ | refine g1b ?_ | refine g0a ?_ | refine g0b ?_
        refine ⟨_, σ1, ev_X11_isLate σ1 _, ?_⟩
        rw [show f_X11_isLate σ1 (nI n) = 1 from bt_t σ1 (a := 0) (m := 60) ⟨by omega, by omega⟩ (by decide)]
        first | refine g1a ?_ | refine g1b ?_ | refine g0a ?_ | refine g0b ?_
        exact ⟨σ2, g2, by rw [n_35]; exact v_in (N := 40) (by omega) (by decide), by rw [n_35, nI_clamp (by omega), y2, ra_at]⟩
    · refine FQ.refuse hI (.int (-1)) ?_ ?_
      · refine sg_X10_tiredThen_0 σ _ _ _ ?_
        refine ⟨_, σ, ev_X10_isWaker σ _, ?_⟩
        rw [x_wk σ hw]
        first | refine g1a ?_ | refine g1b ?_ | refine g0a ?_ | refine g0b ?_
        refine ⟨_, σ, ev_X10_isBetween σ _ _ _, ?_⟩
        rw [show f_X10_isBetween σ x2 (0 : Int32) (60 : Int32) = 0 from q_btf σ (a := 0) (b := 60) (by decide) (by decide) h2]
        first | refine g1a ?_ | refine g1b ?_ | refine g0a ?_ | refine g0b ?_
        rfl
      · refine sg_X11_tiredThen_0 σ _ _ _ ?_
        refine ⟨_, σ, ev_X11_isWaker σ _, ?_⟩
        rw [m_wk σ hw]
        first | refine g1a ?_ | refine g1b ?_ | refine g0a ?_ | refine g0b ?_
        refine ⟨_, σ, ev_X11_isLate σ _, ?_⟩
        rw [show f_X11_isLate σ x2 = 0 from q_btf σ (a := 0) (b := 60) (by decide) (by decide) h2]
        first | refine g1a ?_ | refine g1b ?_ | refine g0a ?_ | refine g0b ?_
        rfl
  · refine FQ.refuse hI (.int (-1)) ?_ ?_
    · refine sg_X10_tiredThen_0 σ _ _ _ ?_
      refine ⟨_, σ, ev_X10_isWaker σ _, ?_⟩
      rw [x_wkf σ h1]
      first | refine g1a ?_ | refine g1b ?_ | refine g0a ?_ | refine g0b ?_
      rfl
    · refine sg_X11_tiredThen_0 σ _ _ _ ?_
      refine ⟨_, σ, ev_X11_isWaker σ _, ?_⟩
      rw [m_wkf σ h1]
      first | refine g1a ?_ | refine g1b ?_ | refine g0a ?_ | refine g0b ?_
      rfl
theorem F_then {σ : mm_Sg} (hI : Inv σ) (x1 x2 : Int32) : FQ mm_m_X10_then mm_m_X11_then [.int x1, .int x2] σ := by
  obtain ⟨⟨R, wf, r4, r5, r6, hx, hm⟩, -, z53, -⟩ := id hI
  have h0 : σ 10 6 = nI (R 0) := hx.1
  have m0 : σ 52 0 = nI (R 0) := by rw [hm]; rfl
  have w7 := wf.1
  by_cases h1 : vp_in x1 61
  · obtain ⟨n, hn, rfl⟩ := vp_in_of h1 (by decide)
    by_cases h2 : vp_in x2 3
    · obtain ⟨j, hj, rfl⟩ := vp_in_of h2 (by decide)
      obtain ⟨σ1, g1, y1, t1⟩ := xW_think (n := n) hx wf r4 r5 r6 (by omega)
      obtain ⟨σ2, g2, y2, t2⟩ := mW_takes (n := n) (σ := σ1) (R := R) (by rw [t1 52 (by omega)]; exact hm) wf (fun i hi => by rw [t1 53 (by omega)]; exact z53 i hi) (by omega)
      have wd := n_wf_days wf n
      refine FQ.look hI (.int (nI (if j = 0 then n_days n R 2 else if j = 1 then n_days n R 3 else n_owed (n_days n R)))) ?_ ?_ (XQ.think t1) (MQ2.think t2 y2 wd)
      · refine sg_X10_then_0 σ _ _ _ ?_
        refine ⟨_, σ, ev_X10_isBetween σ _ _ _, ?_⟩
        rw [show f_X10_isBetween σ (nI n) (0 : Int32) (60 : Int32) = 1 from bt_t σ (a := 0) (m := 60) ⟨by omega, by omega⟩ (by decide)]
        first | refine g1a ?_ | refine g1b ?_ | refine g0a ?_ | refine g0b ?_
        refine ⟨_, σ, ev_X10_isBetween σ _ _ _, ?_⟩
        rw [show f_X10_isBetween σ (nI j) (0 : Int32) (2 : Int32) = 1 from bt_t σ (a := 0) (m := 2) ⟨by omega, by omega⟩ (by decide)]
        first | refine g1a ?_ | refine g1b ?_ | refine g0a ?_ | refine g0b ?_
        refine ⟨σ1, g1, ?_⟩
        rcases (show j = 0 ∨ j = 1 ∨ j = 2 by omega) with rfl | rfl | rfl
        · exact ⟨fun _ => by rw [y1.2.2.1]; rfl, fun z => absurd rfl z⟩
        · exact ⟨fun z => absurd z (by decide), fun _ => ⟨fun _ => by rw [y1.2.2.2.1]; rfl, fun z => absurd rfl z⟩⟩
        · exact ⟨fun z => absurd z (by decide), fun _ => ⟨fun z => absurd z (by decide), fun _ => ⟨_, σ1, xW_owed (Or.inr (Or.inr rfl)) y1 wd, rfl⟩⟩⟩
      · refine sg_X11_then_0 σ1 _ _ _ ?_
        refine ⟨_, σ1, ev_X11_isLate σ1 _, ?_⟩
        rw [show f_X11_isLate σ1 (nI n) = 1 from bt_t σ1 (a := 0) (m := 60) ⟨by omega, by omega⟩ (by decide)]
        first | refine g1a ?_ | refine g1b ?_ | refine g0a ?_ | refine g0b ?_
        refine ⟨_, σ1, ev_X11_isIn σ1 _ _ _, ?_⟩
        rw [show f_X11_isIn σ1 (nI j) (0 : Int32) (2 : Int32) = 1 from bt_t σ1 (a := 0) (m := 2) ⟨by omega, by omega⟩ (by decide)]
        first | refine g1a ?_ | refine g1b ?_ | refine g0a ?_ | refine g0b ?_
        refine ⟨σ2, g2, ?_⟩
        rcases (show j = 0 ∨ j = 1 ∨ j = 2 by omega) with rfl | rfl | rfl
        · exact ⟨fun z => absurd rfl z, fun _ => by rw [y2]; rfl⟩
        · exact ⟨fun _ => ⟨fun z => absurd rfl z, fun _ => by rw [y2]; rfl⟩, fun z => absurd (by decide) z⟩
        · exact ⟨fun _ => ⟨fun _ => ⟨_, σ2, mW_owed rfl y2 wd, rfl⟩, fun z => absurd (by decide) z⟩, fun z => absurd (by decide) z⟩
    · refine FQ.refuse hI (.int (-1)) ?_ ?_
      · refine sg_X10_then_0 σ _ _ _ ?_
        refine ⟨_, σ, ev_X10_isBetween σ _ _ _, ?_⟩
        rw [show f_X10_isBetween σ (nI n) (0 : Int32) (60 : Int32) = 1 from bt_t σ (a := 0) (m := 60) ⟨by omega, by omega⟩ (by decide)]
        first | refine g1a ?_ | refine g1b ?_ | refine g0a ?_ | refine g0b ?_
        refine ⟨_, σ, ev_X10_isBetween σ _ _ _, ?_⟩
        rw [show f_X10_isBetween σ x2 (0 : Int32) (2 : Int32) = 0 from q_btf σ (a := 0) (b := 2) (by decide) (by decide) h2]
        first | refine g1a ?_ | refine g1b ?_ | refine g0a ?_ | refine g0b ?_
        rfl
      · refine sg_X11_then_0 σ _ _ _ ?_
        refine ⟨_, σ, ev_X11_isLate σ _, ?_⟩
        rw [show f_X11_isLate σ (nI n) = 1 from bt_t σ (a := 0) (m := 60) ⟨by omega, by omega⟩ (by decide)]
        first | refine g1a ?_ | refine g1b ?_ | refine g0a ?_ | refine g0b ?_
        refine ⟨_, σ, ev_X11_isIn σ _ _ _, ?_⟩
        rw [show f_X11_isIn σ x2 (0 : Int32) (2 : Int32) = 0 from q_btf σ (a := 0) (b := 2) (by decide) (by decide) h2]
        first | refine g1a ?_ | refine g1b ?_ | refine g0a ?_ | refine g0b ?_
        rfl
  · refine FQ.refuse hI (.int (-1)) ?_ ?_
    · refine sg_X10_then_0 σ _ _ _ ?_
      refine ⟨_, σ, ev_X10_isBetween σ _ _ _, ?_⟩
      rw [show f_X10_isBetween σ x1 (0 : Int32) (60 : Int32) = 0 from q_btf σ (a := 0) (b := 60) (by decide) (by decide) h1]
      first | refine g1a ?_ | refine g1b ?_ | refine g0a ?_ | refine g0b ?_
      rfl
    · refine sg_X11_then_0 σ _ _ _ ?_
      refine ⟨_, σ, ev_X11_isLate σ _, ?_⟩
      rw [show f_X11_isLate σ x1 = 0 from q_btf σ (a := 0) (b := 60) (by decide) (by decide) h1]
      first | refine g1a ?_ | refine g1b ?_ | refine g0a ?_ | refine g0b ?_
      rfl
