/-! the face: drinker, waker, heaviest, count -/
theorem mW_next {σ : mm_Sg} {R : Nat → Nat} {D k : Nat} (hm : σ 52 = ra R) (wf : n_wf D R) (hD : D < 2 ^ 29) (hk : k < 7) : mm_Ev mm_m_X11_nextOf [.ref 51, .int (nI k)] σ (some (.int (nI (n_want R (R 1 + 1) k)))) σ := by
  have o0 := n_ofc σ 0 hk (by decide)
  have o1 := n_ofc σ 1 hk (by decide)
  obtain ⟨k1, k2, -, -⟩ := wf.2.2.2.2.2.2.2.1 k hk
  have d1 := wf.2.1
  have e : f_X11_nextOf σ 51 (nI k) = nI (n_want R (R 1 + 1) k) := by
    show f_X11_drinksBy σ (σ 52 (f_X11_of σ (nI k) (nI 0)).toNatClampNeg) (σ 52 (f_X11_of σ (nI k) (nI 1)).toNatClampNeg) ((σ 52 1) + (1 : Int32)) = _
    rw [o0.1, o1.1, hm, ra_at, ra_at, ra_at, nI_1, show 7 + 4 * k + 0 = 7 + 4 * k by omega, show 7 + 4 * k + 1 = 8 + 4 * k by omega, n_drB σ k1 k2 (by omega)]
    rfl
  rw [← e]
  exact ev_X11_nextOf σ _ o0.2 o1.2
theorem sw_not {x : Int32} {n : Nat} (h : ¬ vp_in x n) (hn : n < 2 ^ 31) : ∀ i, i < n → ¬ x = nI i := fun i hi e => h (by rw [e]; exact v_in hi hn)
def n_many (R : Nat → Nat) (w n : Nat) : Nat := n_sum (fun k => if R (9 + 4 * k) = w then 1 else 0) n
theorem n_many_le (R : Nat → Nat) (w n : Nat) : n_many R w n ≤ n := by
  have := n_sum_le (f := fun k => if R (9 + 4 * k) = w then 1 else 0) (B := 1) (fun k => by split <;> omega) n
  unfold n_many
  omega
theorem xr_w {σ : mm_Sg} {c k : Nat} {R : Nat → Nat} (h : xr σ c R) (hk : k < 7) : σ (c + 3) k = nI (R (9 + 4 * k)) := (h.2.2.2.2.2.2.2.1 k hk).2.2.1
theorem xW_many {σ : mm_Sg} {R : Nat → Nat} {D w : Nat} (hx : xr σ 10 R) (wf : n_wf D R) (hw : w < 100) : mm_Ev mm_m_X1_drinkersOf [.ref 10, .int (nI w)] σ (some (.int (nI (n_many R w (R 0))))) σ := by
  have h7 := wf.1
  obtain ⟨-, -, g⟩ := mm_run (M := mm_m_X1_drinkersOf) (α := Unit) (fun j _ => (4, [.ref 10, .int (nI w), .int (nI (n_many R w j)), .int (nI j)], [], σ)) (R 0) (fun _ _ => True)
    (fun j _ hj _ => ⟨(), trivial, fun X hX => sg_X1_drinkersOf_4 σ 10 _ _ _ X ⟨rfl, fun z => absurd (by rw [hx.1] at z; exact z) (nI_ge hj (by omega)), fun _ => ⟨fun z => absurd z (nI_ge (b := 7) (by omega) (by decide)), fun _ => ⟨v_in (N := 7) (by omega) (by decide), by
      have hr : R (9 + 4 * j) < 100 := by have := (wf.2.2.2.2.2.2.2.1 j (by omega)).2.2.1; omega
      rw [nI_clamp (by omega), xr_w hx (by omega), nI_eq (by omega) (by omega), nI_1, nI_1]
      refine ⟨fun q => ?_, fun q => ?_⟩
      · have : n_many R w (j + 1) = n_many R w j := by
          show n_many R w j + (if R (9 + 4 * j) = w then 1 else 0) = _
          rw [if_neg q]
          rfl
        rw [this] at hX
        exact hX
      · have : n_many R w (j + 1) = n_many R w j + 1 := by
          show n_many R w j + (if R (9 + 4 * j) = w then 1 else 0) = _
          rw [if_pos (Classical.not_not.mp q)]
        rw [this] at hX
        exact hX⟩⟩⟩⟩)
    (R 0) 0 () (by omega) trivial
  exact sg_X1_drinkersOf_0 σ 10 _ _ (g _ (sg_X1_drinkersOf_4 σ 10 _ _ _ _ ⟨rfl, fun _ => rfl, fun z => absurd (by rw [hx.1]; exact nI_le (Nat.le_refl _) (by omega)) z⟩))
theorem mW_many {σ : mm_Sg} {R : Nat → Nat} {D w : Nat} (hm : σ 52 = ra R) (wf : n_wf D R) (hw : w < 100) : mm_Ev mm_m_X11_manyOf [.ref 51, .int (nI w)] σ (some (.int (nI (n_many R w (R 0))))) σ := by
  have h7 := wf.1
  have m0 : σ 52 0 = nI (R 0) := by rw [hm]; rfl
  obtain ⟨-, -, g⟩ := mm_run (M := mm_m_X11_manyOf) (α := Unit) (fun j _ => (4, [.ref 51, .int (nI w), .int (nI (n_many R w j)), .int (nI j)], [], σ)) (R 0) (fun _ _ => True)
    (fun j _ hj _ => ⟨(), trivial, fun X hX => sg_X11_manyOf_4 σ _ _ _ X ⟨fun z => absurd (by rw [m0] at z; exact z) (nI_ge hj (by omega)), fun _ => by
      have o2 := n_ofc σ 2 (show j < 7 by omega) (by decide)
      have hr : R (9 + 4 * j) < 100 := by have := (wf.2.2.2.2.2.2.2.1 j (by omega)).2.2.1; omega
      refine ⟨_, σ, ev_X11_of σ _ _, o2.2, ?_⟩
      rw [show (f_X11_of σ (nI j) (2 : Int32)).toNatClampNeg = 9 + 4 * j from by rw [show (2 : Int32) = nI 2 from rfl, o2.1]; omega, hm, ra_at, nI_eq (by omega) (by omega), nI_1, nI_1, Int32.add_zero]
      refine ⟨fun q => ?_, fun q => ?_⟩
      · have : n_many R w (j + 1) = n_many R w j := by
          show n_many R w j + (if R (9 + 4 * j) = w then 1 else 0) = _
          rw [if_neg q]
          rfl
        rw [this] at hX
        exact hX
      · have : n_many R w (j + 1) = n_many R w j + 1 := by
          show n_many R w j + (if R (9 + 4 * j) = w then 1 else 0) = _
          rw [if_pos (Classical.not_not.mp q)]
        rw [this] at hX
        exact hX⟩⟩)
    (R 0) 0 () (by omega) trivial
  exact sg_X11_manyOf_0 σ _ _ (g _ (sg_X11_manyOf_4 σ _ _ _ _ ⟨fun _ => rfl, fun z => absurd (by rw [m0]; exact nI_le (Nat.le_refl _) (by omega)) z⟩))
theorem F_drinker {σ : mm_Sg} (hI : Inv σ) (x1 x2 : Int32) : FQ mm_m_X10_drinker mm_m_X11_drinker [.int x1, .int x2] σ := by
  obtain ⟨⟨R, hcp⟩, hi, z53, z54, z55, hs⟩ := id hI
  obtain ⟨wf, r4, r5, r6, hx, hm⟩ := id hcp
  have h0 : σ 10 6 = nI (R 0) := hx.1
  have m0 : σ 52 0 = nI (R 0) := by rw [hm]; rfl
  have w7 := wf.1
  by_cases h1 : vp_in x1 (R 0)
  · obtain ⟨k, hk, rfl⟩ := vp_in_of h1 (by omega)
    have d1 := wf.2.1
    by_cases h2 : vp_in x2 5
    · obtain ⟨j, hj, rfl⟩ := vp_in_of h2 (by decide)
      refine FQ.refuse hI (.int (if j = 4 then nI (n_want R (R 1 + 1) k) else nI (R (7 + 4 * k + j)))) ?_ ?_
      · refine sg_X10_drinker_0 σ _ _ _ ?_
        refine ⟨_, σ, ev_X1_has σ 10 _ (fun _ => rfl), ?_⟩
        rw [x_has σ h0 wf.1 (by omega), if_pos hk]
        first | refine g1a ?_ | refine g1b ?_ | refine g0a ?_ | refine g0b ?_
        obtain ⟨e1, e2, e3, e4⟩ := hx.2.2.2.2.2.2.2.1 k (by omega)
        have v7 : vp_in (nI k) 7 := v_in (by omega) (by decide)
        rcases (show j = 0 ∨ j = 1 ∨ j = 2 ∨ j = 3 ∨ j = 4 by omega) with rfl | rfl | rfl | rfl | rfl
        · exact ⟨fun _ => ⟨v7, by rw [nI_clamp (by omega), show σ 11 k = _ from e1]; rfl⟩, fun z => absurd rfl z⟩
        · exact ⟨fun z => absurd z (show ¬ (nI 1 = nI 0) by decide), fun _ => ⟨fun _ => ⟨v7, by rw [nI_clamp (by omega), show σ 12 k = _ from e2, show 7 + 4 * k + 1 = 8 + 4 * k by omega]; rfl⟩, fun z => absurd rfl z⟩⟩
        · exact ⟨fun z => absurd z (show ¬ (nI 2 = nI 0) by decide), fun _ => ⟨fun z => absurd z (show ¬ (nI 2 = nI 1) by decide), fun _ => ⟨fun _ => ⟨v7, by rw [nI_clamp (by omega), show σ 13 k = _ from e3, show 7 + 4 * k + 2 = 9 + 4 * k by omega]; rfl⟩, fun z => absurd rfl z⟩⟩⟩
        · exact ⟨fun z => absurd z (show ¬ (nI 3 = nI 0) by decide), fun _ => ⟨fun z => absurd z (show ¬ (nI 3 = nI 1) by decide), fun _ => ⟨fun z => absurd z (show ¬ (nI 3 = nI 2) by decide), fun _ => ⟨fun _ => ⟨v7, by rw [nI_clamp (by omega), show σ 14 k = _ from e4, show 7 + 4 * k + 3 = 10 + 4 * k by omega]; rfl⟩, fun z => absurd rfl z⟩⟩⟩⟩
        · refine ⟨fun z => absurd z (show ¬ (nI 4 = nI 0) by decide), fun _ => ⟨fun z => absurd z (show ¬ (nI 4 = nI 1) by decide), fun _ => ⟨fun z => absurd z (show ¬ (nI 4 = nI 2) by decide), fun _ => ⟨fun z => absurd z (show ¬ (nI 4 = nI 3) by decide), fun _ => ⟨fun _ => ⟨_, σ, ?_, rfl⟩, fun z => absurd rfl z⟩⟩⟩⟩⟩
          rw [hx.2.1, nI_1]
          exact xW_thirst hx wf hk (by omega)
      · refine sg_X11_drinker_0 σ _ _ _ ?_
        refine ⟨_, σ, ev_X11_isDrinker σ _, ?_⟩
        rw [m_dk σ m0 wf.1 hk]
        first | refine g1a ?_ | refine g1b ?_ | refine g0a ?_ | refine g0b ?_
        refine ⟨_, σ, ev_X11_isIn σ _ _ _, ?_⟩
        rw [show f_X11_isIn σ (nI j) (0 : Int32) (4 : Int32) = 1 from bt_t σ (a := 0) (m := 4) ⟨by omega, by omega⟩ (by decide)]
        first | refine g1a ?_ | refine g1b ?_ | refine g0a ?_ | refine g0b ?_
        rcases Nat.lt_or_ge j 4 with h4 | h4
        · have oj := n_ofc σ j (show k < 7 by omega) h4
          rw [if_neg (by omega)]
          refine ⟨fun _ => ⟨_, σ, ev_X11_of σ _ _, oj.2, ?_⟩, fun z => absurd (fun e => ?_) z⟩
          · rw [oj.1, hm, ra_at]
          · have := (nI_eq (a := j) (b := 4) (by omega) (by decide)).mp e
            omega
        · obtain rfl : j = 4 := by omega
          exact ⟨fun z => absurd rfl z, fun _ => ⟨_, σ, mW_next hm wf (by omega) (by omega), rfl⟩⟩
    · have h2s := sw_not h2 (by decide)
      refine FQ.refuse hI (.int (-1)) ?_ ?_
      · refine sg_X10_drinker_0 σ _ _ _ ?_
        refine ⟨_, σ, ev_X1_has σ 10 _ (fun _ => rfl), ?_⟩
        rw [x_has σ h0 wf.1 (by omega), if_pos hk]
        first | refine g1a ?_ | refine g1b ?_ | refine g0a ?_ | refine g0b ?_
        exact ⟨fun z => absurd z (h2s 0 (by decide)), fun _ => ⟨fun z => absurd z (h2s 1 (by decide)), fun _ => ⟨fun z => absurd z (h2s 2 (by decide)), fun _ => ⟨fun z => absurd z (h2s 3 (by decide)), fun _ => ⟨fun z => absurd z (h2s 4 (by decide)), fun _ => rfl⟩⟩⟩⟩⟩
      · refine sg_X11_drinker_0 σ _ _ _ ?_
        refine ⟨_, σ, ev_X11_isDrinker σ _, ?_⟩
        rw [m_dk σ m0 wf.1 hk]
        first | refine g1a ?_ | refine g1b ?_ | refine g0a ?_ | refine g0b ?_
        refine ⟨_, σ, ev_X11_isIn σ _ _ _, ?_⟩
        rw [show f_X11_isIn σ x2 (0 : Int32) (4 : Int32) = 0 from q_btf σ (a := 0) (b := 4) (by decide) (by decide) h2]
        first | refine g1a ?_ | refine g1b ?_ | refine g0a ?_ | refine g0b ?_
        rfl
  · refine FQ.refuse hI (.int (-1)) ?_ ?_
    · refine sg_X10_drinker_0 σ _ _ _ ?_
      refine ⟨_, σ, ev_X1_has σ 10 _ (fun _ => rfl), ?_⟩
      rw [x_hasf σ h0 wf.1 h1]
      first | refine g1a ?_ | refine g1b ?_ | refine g0a ?_ | refine g0b ?_
      rfl
    · refine sg_X11_drinker_0 σ _ _ _ ?_
      refine ⟨_, σ, ev_X11_isDrinker σ _, ?_⟩
      rw [m_dkf σ m0 wf.1 h1]
      first | refine g1a ?_ | refine g1b ?_ | refine g0a ?_ | refine g0b ?_
      rfl
theorem F_waker {σ : mm_Sg} (hI : Inv σ) (x1 x2 : Int32) : FQ mm_m_X10_waker mm_m_X11_waker [.int x1, .int x2] σ := by
  obtain ⟨⟨R, hcp⟩, hi, z53, z54, z55, hs⟩ := id hI
  obtain ⟨wf, r4, r5, r6, hx, hm⟩ := id hcp
  have h0 : σ 10 6 = nI (R 0) := hx.1
  have m0 : σ 52 0 = nI (R 0) := by rw [hm]; rfl
  have w7 := wf.1
  by_cases h1 : vp_in x1 5
  · obtain ⟨w, hw, rfl⟩ := vp_in_of h1 (by decide)
    by_cases h2 : vp_in x2 3
    · obtain ⟨j, hj, rfl⟩ := vp_in_of h2 (by decide)
      have hb : ∀ b : Bool, (if b = true then (1 : Int32) else 0) = if b = true then 1 else 0 := fun _ => rfl
      refine FQ.refuse hI (.int (if j = 0 then nI (R (35 + w)) else if j = 1 then (if n_aw R w = true then 1 else 0) else nI (n_many R w (R 0)))) ?_ ?_
      · refine sg_X10_waker_0 σ _ _ _ ?_
        refine ⟨_, σ, ev_X10_isWaker σ _, ?_⟩
        rw [x_wk σ hw]
        first | refine g1a ?_ | refine g1b ?_ | refine g0a ?_ | refine g0b ?_
        rcases (show j = 0 ∨ j = 1 ∨ j = 2 by omega) with rfl | rfl | rfl
        · exact ⟨fun _ => ⟨v_in (N := 5) hw (by decide), by rw [nI_clamp (by omega), show σ 15 w = _ from xr_t hx hw]; rfl⟩, fun z => absurd rfl z⟩
        · refine ⟨fun z => absurd z (show ¬ (nI 1 = nI 0) by decide), fun _ => ⟨fun _ => ⟨_, σ, ev_X1_isAwake σ 10 _ (fun _ => rfl), ?_⟩, fun z => absurd rfl z⟩⟩
          rw [x_isAw σ hx.2.2.2.1 wf.2.2.2.1 (Or.inl hw)]
          cases n_aw R w with
          | true => exact ⟨fun z => absurd z (show ¬ (1 : Int32) = 0 by decide), fun _ => rfl⟩
          | false => exact ⟨fun _ => rfl, fun z => absurd rfl z⟩
        · exact ⟨fun z => absurd z (show ¬ (nI 2 = nI 0) by decide), fun _ => ⟨fun z => absurd z (show ¬ (nI 2 = nI 1) by decide), fun _ => ⟨fun _ => ⟨_, σ, xW_many hx wf (by omega), rfl⟩, fun z => absurd rfl z⟩⟩⟩
      · refine sg_X11_waker_0 σ _ _ _ ?_
        refine ⟨_, σ, ev_X11_isWaker σ _, ?_⟩
        rw [m_wk σ hw]
        first | refine g1a ?_ | refine g1b ?_ | refine g0a ?_ | refine g0b ?_
        refine ⟨_, σ, ev_X11_isIn σ _ _ _, ?_⟩
        rw [show f_X11_isIn σ (nI j) (0 : Int32) (2 : Int32) = 1 from bt_t σ (a := 0) (m := 2) ⟨by omega, by omega⟩ (by decide)]
        first | refine g1a ?_ | refine g1b ?_ | refine g0a ?_ | refine g0b ?_
        rcases (show j = 0 ∨ j = 1 ∨ j = 2 by omega) with rfl | rfl | rfl
        · exact ⟨fun z => absurd rfl z, fun _ => ⟨by rw [n_35]; exact v_in (N := 40) (by omega) (by decide), by rw [n_35, nI_clamp (by omega), hm, ra_at]; rfl⟩⟩
        · refine ⟨fun _ => ⟨fun _ => ⟨_, σ, ev_X11_isAwake σ 52 _ (fun _ => by unfold vp_in; decide), ?_⟩, fun z => absurd (show ¬ (nI 1 : Int32) = 2 by decide) z⟩, fun z => absurd (show ¬ (nI 1 : Int32) = 0 by decide) z⟩
          rw [n_isAw σ (q := 52) (R := R) (by rw [hm]; rfl) wf.2.2.2.1 (Or.inl hw)]
          cases n_aw R w with
          | true => exact ⟨fun z => absurd z (show ¬ (1 : Int32) = 0 by decide), fun _ => rfl⟩
          | false => exact ⟨fun _ => rfl, fun z => absurd rfl z⟩
        · exact ⟨fun _ => ⟨fun z => absurd rfl z, fun _ => ⟨_, σ, mW_many hm wf (by omega), rfl⟩⟩, fun z => absurd (show ¬ (nI 2 : Int32) = 0 by decide) z⟩
    · have h2s := sw_not h2 (by decide)
      refine FQ.refuse hI (.int (-1)) ?_ ?_
      · refine sg_X10_waker_0 σ _ _ _ ?_
        refine ⟨_, σ, ev_X10_isWaker σ _, ?_⟩
        rw [x_wk σ hw]
        first | refine g1a ?_ | refine g1b ?_ | refine g0a ?_ | refine g0b ?_
        exact ⟨fun z => absurd z (h2s 0 (by decide)), fun _ => ⟨fun z => absurd z (h2s 1 (by decide)), fun _ => ⟨fun z => absurd z (h2s 2 (by decide)), fun _ => rfl⟩⟩⟩
      · refine sg_X11_waker_0 σ _ _ _ ?_
        refine ⟨_, σ, ev_X11_isWaker σ _, ?_⟩
        rw [m_wk σ hw]
        first | refine g1a ?_ | refine g1b ?_ | refine g0a ?_ | refine g0b ?_
        refine ⟨_, σ, ev_X11_isIn σ _ _ _, ?_⟩
        rw [show f_X11_isIn σ x2 (0 : Int32) (2 : Int32) = 0 from q_btf σ (a := 0) (b := 2) (by decide) (by decide) h2]
        first | refine g1a ?_ | refine g1b ?_ | refine g0a ?_ | refine g0b ?_
        rfl
  · refine FQ.refuse hI (.int (-1)) ?_ ?_
    · refine sg_X10_waker_0 σ _ _ _ ?_
      refine ⟨_, σ, ev_X10_isWaker σ _, ?_⟩
      rw [x_wkf σ h1]
      first | refine g1a ?_ | refine g1b ?_ | refine g0a ?_ | refine g0b ?_
      rfl
    · refine sg_X11_waker_0 σ _ _ _ ?_
      refine ⟨_, σ, ev_X11_isWaker σ _, ?_⟩
      rw [m_wkf σ h1]
      first | refine g1a ?_ | refine g1b ?_ | refine g0a ?_ | refine g0b ?_
      rfl
theorem F_count {σ : mm_Sg} (hI : Inv σ) (x1 : Int32) : FQ mm_m_X10_count mm_m_X11_count [.int x1] σ := by
  obtain ⟨⟨R, hcp⟩, hi, z53, z54, z55, hs⟩ := id hI
  obtain ⟨wf, r4, r5, r6, hx, hm⟩ := id hcp
  have h0 : σ 10 6 = nI (R 0) := hx.1
  have m0 : σ 52 0 = nI (R 0) := by rw [hm]; rfl
  have w7 := wf.1
  by_cases h2 : vp_in x1 6
  · obtain ⟨j, hj, rfl⟩ := vp_in_of h2 (by decide)
    rcases (show j = 0 ∨ j = 1 ∨ j = 2 ∨ j = 3 ∨ j = 4 ∨ j = 5 by omega) with rfl | rfl | rfl | rfl | rfl | rfl
    · exact FQ.refuse hI (.int (nI (R 0))) (sg_X10_count_0 σ _ _ ⟨fun _ => by rw [hx.1], fun z => absurd rfl z⟩) (sg_X11_count_0 σ _ _ ⟨fun _ => ⟨v_in (N := 40) (by decide) (by decide), by rw [nI_clamp (by decide), hm]; rfl⟩, fun z => absurd rfl z⟩)
    · exact FQ.refuse hI (.int (nI (R 1))) (sg_X10_count_0 σ _ _ ⟨fun z => absurd z (show ¬ (nI 1 = nI 0) by decide), fun _ => ⟨fun _ => by rw [hx.2.1], fun z => absurd rfl z⟩⟩) (sg_X11_count_0 σ _ _ ⟨fun z => absurd z (show ¬ (nI 1 = nI 0) by decide), fun _ => ⟨fun _ => ⟨v_in (N := 40) (by decide) (by decide), by rw [nI_clamp (by decide), hm]; rfl⟩, fun z => absurd rfl z⟩⟩)
    · exact FQ.refuse hI (.int (nI (R 2))) (sg_X10_count_0 σ _ _ ⟨fun z => absurd z (show ¬ (nI 2 = nI 0) by decide), fun _ => ⟨fun z => absurd z (show ¬ (nI 2 = nI 1) by decide), fun _ => ⟨fun _ => by rw [hx.2.2.1], fun z => absurd rfl z⟩⟩⟩) (sg_X11_count_0 σ _ _ ⟨fun z => absurd z (show ¬ (nI 2 = nI 0) by decide), fun _ => ⟨fun z => absurd z (show ¬ (nI 2 = nI 1) by decide), fun _ => ⟨fun _ => ⟨v_in (N := 40) (by decide) (by decide), by rw [nI_clamp (by decide), hm]; rfl⟩, fun z => absurd rfl z⟩⟩⟩)
    · exact FQ.refuse hI (.int (nI (n_owed R))) (sg_X10_count_0 σ _ _ ⟨fun z => absurd z (show ¬ (nI 3 = nI 0) by decide), fun _ => ⟨fun z => absurd z (show ¬ (nI 3 = nI 1) by decide), fun _ => ⟨fun z => absurd z (show ¬ (nI 3 = nI 2) by decide), fun _ => ⟨fun _ => ⟨_, σ, xW_owed (Or.inl rfl) hx wf, rfl⟩, fun z => absurd rfl z⟩⟩⟩⟩) (sg_X11_count_0 σ _ _ ⟨fun z => absurd z (show ¬ (nI 3 = nI 0) by decide), fun _ => ⟨fun z => absurd z (show ¬ (nI 3 = nI 1) by decide), fun _ => ⟨fun z => absurd z (show ¬ (nI 3 = nI 2) by decide), fun _ => ⟨fun _ => ⟨_, σ, mW_owed rfl hm wf, rfl⟩, fun z => absurd rfl z⟩⟩⟩⟩)
    · exact FQ.refuse hI (.int (nI (R 3))) (sg_X10_count_0 σ _ _ ⟨fun z => absurd z (show ¬ (nI 4 = nI 0) by decide), fun _ => ⟨fun z => absurd z (show ¬ (nI 4 = nI 1) by decide), fun _ => ⟨fun z => absurd z (show ¬ (nI 4 = nI 2) by decide), fun _ => ⟨fun z => absurd z (show ¬ (nI 4 = nI 3) by decide), fun _ => ⟨fun _ => by rw [hx.2.2.2.1], fun z => absurd rfl z⟩⟩⟩⟩⟩) (sg_X11_count_0 σ _ _ ⟨fun z => absurd z (show ¬ (nI 4 = nI 0) by decide), fun _ => ⟨fun z => absurd z (show ¬ (nI 4 = nI 1) by decide), fun _ => ⟨fun z => absurd z (show ¬ (nI 4 = nI 2) by decide), fun _ => ⟨fun z => absurd z (show ¬ (nI 4 = nI 3) by decide), fun _ => ⟨fun _ => by rw [hm]; rfl, fun z => absurd rfl z⟩⟩⟩⟩⟩)
    · exact FQ.refuse hI (.int (nI (n_tiredAll R))) (sg_X10_count_0 σ _ _ ⟨fun z => absurd z (show ¬ (nI 5 = nI 0) by decide), fun _ => ⟨fun z => absurd z (show ¬ (nI 5 = nI 1) by decide), fun _ => ⟨fun z => absurd z (show ¬ (nI 5 = nI 2) by decide), fun _ => ⟨fun z => absurd z (show ¬ (nI 5 = nI 3) by decide), fun _ => ⟨fun z => absurd z (show ¬ (nI 5 = nI 4) by decide), fun _ => ⟨fun _ => ⟨_, σ, xW_tired (Or.inl rfl) hx, rfl⟩, fun z => absurd rfl z⟩⟩⟩⟩⟩⟩) (sg_X11_count_0 σ _ _ ⟨fun z => absurd z (show ¬ (nI 5 = nI 0) by decide), fun _ => ⟨fun z => absurd z (show ¬ (nI 5 = nI 1) by decide), fun _ => ⟨fun z => absurd z (show ¬ (nI 5 = nI 2) by decide), fun _ => ⟨fun z => absurd z (show ¬ (nI 5 = nI 3) by decide), fun _ => ⟨fun z => absurd z (show ¬ (nI 5 = nI 4) by decide), fun _ => ⟨fun _ => ⟨_, σ, mW_tired (D := 999) rfl hm, rfl⟩, fun z => absurd rfl z⟩⟩⟩⟩⟩⟩)
  · have h2s := sw_not h2 (by decide)
    exact FQ.refuse hI (.int (-1)) (sg_X10_count_0 σ _ _ ⟨fun z => absurd z (h2s 0 (by decide)), fun _ => ⟨fun z => absurd z (h2s 1 (by decide)), fun _ => ⟨fun z => absurd z (h2s 2 (by decide)), fun _ => ⟨fun z => absurd z (h2s 3 (by decide)), fun _ => ⟨fun z => absurd z (h2s 4 (by decide)), fun _ => ⟨fun z => absurd z (h2s 5 (by decide)), fun _ => rfl⟩⟩⟩⟩⟩⟩) (sg_X11_count_0 σ _ _ ⟨fun z => absurd z (h2s 0 (by decide)), fun _ => ⟨fun z => absurd z (h2s 1 (by decide)), fun _ => ⟨fun z => absurd z (h2s 2 (by decide)), fun _ => ⟨fun z => absurd z (h2s 3 (by decide)), fun _ => ⟨fun z => absurd z (h2s 4 (by decide)), fun _ => ⟨fun z => absurd z (h2s 5 (by decide)), fun _ => rfl⟩⟩⟩⟩⟩⟩)
