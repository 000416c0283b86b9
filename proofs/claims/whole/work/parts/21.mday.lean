/-! the Model's day is the rows' day -/
theorem v_in {i N : Nat} (h : i < N) (hN : N < 2 ^ 31) : vp_in (nI i) N := vp_in_nI h hN
theorem n_35 {w : Nat} : (35 : Int32) + nI w = nI (35 + w) := nI_add 35 w
theorem ra_at (R : Nat → Nat) (i : Nat) : ra R i = nI (R i) := rfl
theorem n_clr : ∀ a, a < 32 → ∀ w, w < 5 → a.testBit w = true → nI a &&& (((1 : Int32) <<< (nI w &&& 31)) ^^^ (-1 : Int32)) = nI (a ^^^ 2 ^ w) := by decide +kernel
theorem n_set : ∀ a, a < 32 → ∀ w, w < 5 → nI a ||| ((1 : Int32) <<< (nI w &&& 31)) = nI (a ||| 2 ^ w) := by decide +kernel
theorem n_asl {R : Nat → Nat} {w : Nat} (hw : w < 5) (h : ¬ n_aw R w = true) : (R 3).testBit w = true := by
  unfold n_aw at h
  have e : (w == 9) = false := by simp; omega
  rw [e] at h
  simpa using h
/-- what a run leaves alone -/
def ke (σ σ' : mm_Sg) (P : Nat → Prop) : Prop := ∀ q, ¬ P q → σ' q = σ q
theorem mW_wake {σ : mm_Sg} {a D : Nat} {R : Nat → Nat} {w : Nat} (hl : mm_len a = 40) (hR : σ a = ra R) (hwf : n_wf D R) (hw : w < 5) : ∃ σ', mm_Ev mm_m_X11_wakesUp [.ref a, .int (nI w)] σ none σ' ∧ σ' a = ra (n_wake R w) ∧ ∀ q, q ≠ a → σ' q = σ q := by
  obtain ⟨h0, h1, h2, h3, h4, h5, h6, h7, h8, h9⟩ := hwf
  have h8 := h8 w hw
  have e35 : ((35 : Int32) + nI w).toNatClampNeg = 35 + w := by rw [n_35, nI_clamp (by omega)]
  have eaw := n_isAw σ (q := a) (R := R) (w := w) (by rw [hR]; rfl) h3 (Or.inl hw)
  have elb : f_X11_lessBy σ (σ a (35 + w)) (15 : Int32) = nI (R (35 + w) - 15) := by rw [hR]; exact n_lb σ (by omega) (by decide)
  have v3 : vp_in (3 : Int32) (mm_len a) := by rw [hl]; unfold vp_in; decide
  have v6 : vp_in (6 : Int32) (mm_len a) := by rw [hl]; unfold vp_in; decide
  have v35 : vp_in ((35 : Int32) + nI w) (mm_len a) := by rw [hl, n_35]; exact v_in (by omega) (by decide)
  refine ⟨h_X11_wakesUp σ a (nI w), ev_X11_wakesUp σ a (nI w) (fun _ => v3) (fun _ => v35) (fun _ _ => v6) (fun _ _ _ => v3), ?_⟩
  unfold h_X11_wakesUp n_wake
  rw [e35, eaw, elb]
  obtain ⟨σ1, es1⟩ : ∃ z, z = mm_u σ a (35 + w) (nI (R (35 + w) - 15)) := ⟨_, rfl⟩
  rw [← es1]
  have k1 : σ1 a = ra (nup R (35 + w) (R (35 + w) - 15)) := by rw [es1, mm_u_s, hR, ra_up]
  have ko : ∀ q, q ≠ a → σ1 q = σ q := fun q hq => by rw [es1, mm_u_o hq]
  have c1 : σ1 a (35 + w) = nI (R (35 + w) - 15) := by rw [k1, ra_at, nup_s]
  have c6 : σ1 a 6 = nI (R 6) := by rw [k1, ra_at, nup_o R (by omega)]
  have c3 : σ1 a 3 = nI (R 3) := by rw [k1, ra_at, nup_o R (by omega)]
  rw [c1, c6, c3, n_has σ1 (by omega) (by omega)]
  by_cases ha : n_aw R w = true
  · rw [if_pos ha, if_pos ha, if_neg (show ¬ (1 : Int32) = 0 by decide)]
    exact ⟨hR, fun _ _ => rfl⟩
  · rw [if_neg ha, if_neg ha, if_pos rfl]
    by_cases ht : R (35 + w) - 15 < 20
    · rw [if_neg (show ¬ (20 : Int32) ≤ nI (R (35 + w) - 15) from nI_ge ht (by decide))]
      cases hb : (R 6).testBit w with
      | true =>
        rw [if_pos rfl, if_pos (show ¬ (1 : Int32) = 0 by decide), if_neg (by simp)]
        exact ⟨k1, ko⟩
      | false =>
        rw [if_neg (show ¬ (false = true) by decide), if_neg (show ¬ ¬ (0 : Int32) = 0 by decide), if_pos ⟨ht, rfl⟩, n_clr _ h3 w hw (n_asl hw ha)]
        exact ⟨by rw [mm_u_s, k1, ← ra_up], fun q hq => by rw [mm_u_o hq, ko q hq]⟩
    · rw [if_pos (show (20 : Int32) ≤ nI (R (35 + w) - 15) from nI_le (a := 20) (by omega) (by omega)), if_neg (fun z => ht z.1)]
      exact ⟨k1, ko⟩
theorem mW_lie {σ : mm_Sg} {a D : Nat} {R : Nat → Nat} {w : Nat} (hl : mm_len a = 40) (hR : σ a = ra R) (hwf : n_wf D R) (hw : w < 5) : ∃ σ', mm_Ev mm_m_X11_liesDown [.ref a, .int (nI w)] σ none σ' ∧ σ' a = ra (n_lie R w) ∧ ∀ q, q ≠ a → σ' q = σ q := by
  obtain ⟨h0, h1, h2, h3, h4, h5, h6, h7, h8, h9⟩ := hwf
  have h8 := h8 w hw
  have e35 : ((35 : Int32) + nI w).toNatClampNeg = 35 + w := by rw [n_35, nI_clamp (by omega)]
  have eaw := n_isAw σ (q := a) (R := R) (w := w) (by rw [hR]; rfl) h3 (Or.inl hw)
  have c1 : σ a (35 + w) = nI (R (35 + w)) := by rw [hR]; rfl
  have c3 : σ a 3 = nI (R 3) := by rw [hR]; rfl
  have elb : f_X11_lessBy σ (nI (R (35 + w))) (2 : Int32) = nI (R (35 + w) - 2) := n_lb σ (by omega) (by decide)
  have v3 : vp_in (3 : Int32) (mm_len a) := by rw [hl]; unfold vp_in; decide
  have v35 : vp_in ((35 : Int32) + nI w) (mm_len a) := by rw [hl, n_35]; exact v_in (by omega) (by decide)
  refine ⟨h_X11_liesDown σ a (nI w), ev_X11_liesDown σ a (nI w) (fun _ => v3) (fun _ => v35) (fun _ _ => v3), ?_⟩
  unfold h_X11_liesDown n_lie
  rw [e35, eaw, c1, c3, elb, n_set _ h3 w hw]
  by_cases ha : n_aw R w = true
  · rw [if_pos ha, if_pos ha, if_pos (show ¬ (1 : Int32) = 0 by decide)]
    by_cases ht : 60 ≤ R (35 + w)
    · rw [if_neg (show ¬ nI (R (35 + w)) < (60 : Int32) from nI_nlt (b := 60) ht (by omega)), if_pos ht]
      exact ⟨by rw [mm_u_s, hR, ← ra_up], fun q hq => mm_u_o hq⟩
    · rw [if_pos (show nI (R (35 + w)) < (60 : Int32) from nI_lt (b := 60) (by omega) (by decide)), if_neg ht]
      exact ⟨by rw [mm_u_s, hR, ← ra_up], fun q hq => mm_u_o hq⟩
  · rw [if_neg ha, if_neg ha, if_neg (show ¬ ¬ (0 : Int32) = 0 by decide)]
    exact ⟨hR, fun _ _ => rfl⟩
theorem n_ofc (σ : mm_Sg) {k : Nat} (j : Nat) (hk : k < 7) (hj : j < 4) : (f_X11_of σ (nI k) (nI j)).toNatClampNeg = 7 + 4 * k + j ∧ vp_in (f_X11_of σ (nI k) (nI j)) 40 := by
  rw [n_of]
  exact ⟨nI_clamp (by omega), v_in (by omega) (by decide)⟩
set_option maxHeartbeats 1000000 in
theorem mW_drink {σ : mm_Sg} {a D : Nat} {R : Nat → Nat} {k : Nat} (hl : mm_len a = 40) (ha56 : a ≠ 56) (hR : σ a = ra R) (hwf : n_wf D R) (hD : D < 2 ^ 20) (hk : k < 7) : ∃ σ', mm_Ev mm_m_X11_drinks [.ref 51, .ref a, .int (nI k)] σ none σ' ∧ σ' a = ra (n_drink R k) ∧ σ' 56 = upd (σ 56) k (σ 56 k + nI (n_cups R k)) ∧ ∀ q, q ≠ a → q ≠ 56 → σ' q = σ q := by
  obtain ⟨h0, h1, h2, h3, h4, h5, h6, h7, h8, h9⟩ := id hwf
  obtain ⟨k1, k2, k3, k4⟩ := h7 k hk
  have hcl : (nI k).toNatClampNeg = k := nI_clamp (by omega)
  have v56 : vp_in (nI k) (mm_len 56) := v_in hk (by decide)
  have o0 := n_ofc σ 0 hk (by decide)
  have o1 := n_ofc σ 1 hk (by decide)
  have o2 := n_ofc σ 2 hk (by decide)
  have lit : ∀ i, i < 40 → vp_in (nI i) (mm_len a) := fun i hi => by rw [hl]; exact v_in hi (by decide)
  have c : ∀ i, σ a i = nI (R i) := fun i => by rw [hR]; rfl
  have hcu := n_cups_le R k
  obtain ⟨cups, ecups⟩ : ∃ z, z = n_cups R k := ⟨_, rfl⟩
  -- what is wanted
  have tail : ∀ want : Nat, want < 2 ^ 20 → min want (R 2) = cups → ∃ σ', mm_Go mm_m_X11_drinks (56, [.ref 51, .ref a, .int (nI k), .int (nI (R (7 + 4 * k))), .int (nI (R (8 + 4 * k))), .null, .null, .null], [.int (nI want)], σ) (none, σ') ∧ σ' a = ra (n_drink R k) ∧ σ' 56 = upd (σ 56) k (σ 56 k + nI (n_cups R k)) ∧ ∀ q, q ≠ a → q ≠ 56 → σ' q = σ q := by
    intro want hwn hwc
    have hc999 : cups ≤ R 2 := by omega
    have els : f_X11_least σ (nI want) (nI (R 2)) = nI cups := by rw [n_le σ (by omega) (by omega), hwc]
    obtain ⟨σ9, e9⟩ : ∃ z, z = mm_u σ a 2 (nI (R 2 - cups)) := ⟨_, rfl⟩
    have s9a : σ9 a = ra (nup R 2 (R 2 - cups)) := by rw [e9, mm_u_s, hR, ra_up]
    have s9o : ∀ q, q ≠ a → σ9 q = σ q := fun q hq => by rw [e9, mm_u_o hq]
    obtain ⟨σ12, e12⟩ : ∃ z, z = mm_u σ9 56 k (σ9 56 k + nI cups) := ⟨_, rfl⟩
    have s12a : σ12 a = ra (nup R 2 (R 2 - cups)) := by rw [e12, mm_u_o ha56, s9a]
    have s12d : σ12 56 = upd (σ 56) k (σ 56 k + nI cups) := by rw [e12, mm_u_s, s9o 56 (fun e => ha56 e.symm)]
    have s12o : ∀ q, q ≠ a → q ≠ 56 → σ12 q = σ q := fun q h1 h2 => by rw [e12, mm_u_o h2, s9o q h1]
    have eaw : f_X11_isAwake σ12 a (nI (R (9 + 4 * k))) = if n_aw R (R (9 + 4 * k)) = true then 1 else 0 := n_isAw σ12 (by rw [s12a, ra_at, nup_o R (by omega)]) h3 k3
    have tR : ∀ i, i ≠ 2 → nup R 2 (R 2 - cups) i = R i := fun i hi => nup_o R hi
    have pre : ∀ X, (((f_X11_isAwake σ12 a (nI (R (9 + 4 * k))) = (0 : Int32) → (∃ (v20 : Int32) (σ18 : mm_Sg), mm_Ev mm_m_X11_of [.int (nI k), .int (3 : Int32)] σ12 (some (.int v20)) σ18 ∧ (∃ (v23 : Int32) (σ21 : mm_Sg), mm_Ev mm_m_X11_of [.int (nI k), .int (3 : Int32)] σ18 (some (.int v23)) σ21 ∧ ((vp_in v23 (mm_len a)) ∧ ∃ (v27 : Int32) (σ25 : mm_Sg), mm_Ev mm_m_X11_owesBy [.int (nI (R (7 + 4 * k))), .int (nI (R (8 + 4 * k))), .int (nI cups)] σ21 (some (.int v27)) σ25 ∧ (∃ (v30 : Int32) (σ28 : mm_Sg), mm_Ev mm_m_X11_least [.int (999 : Int32), .int ((σ21 a v23.toNatClampNeg) + v27)] σ25 (some (.int v30)) σ28 ∧ ((vp_in v20 (mm_len a)) ∧ ∀ σ32 : mm_Sg, σ32 = mm_u σ28 a v20.toNatClampNeg v30 → (X = (none, σ32)))))))) ∧ (¬ (f_X11_isAwake σ12 a (nI (R (9 + 4 * k))) = (0 : Int32)) → ((vp_in ((35 : Int32) + nI (R (9 + 4 * k))) (mm_len a)) ∧ ∃ (v37 : Int32) (σ35 : mm_Sg), mm_Ev mm_m_X11_tiresBy [.int (nI (R (7 + 4 * k))), .int (nI (R (8 + 4 * k))), .int (nI cups)] σ12 (some (.int v37)) σ35 ∧ (∃ (v40 : Int32) (σ38 : mm_Sg), mm_Ev mm_m_X11_least [.int (99 : Int32), .int ((σ12 a ((35 : Int32) + nI (R (9 + 4 * k))).toNatClampNeg) + v37)] σ35 (some (.int v40)) σ38 ∧ (∀ σ41 : mm_Sg, σ41 = mm_u σ38 a ((35 : Int32) + nI (R (9 + 4 * k))).toNatClampNeg v40 → (X = (none, σ41)))))))) → mm_Go mm_m_X11_drinks (56, [.ref 51, .ref a, .int (nI k), .int (nI (R (7 + 4 * k))), .int (nI (R (8 + 4 * k))), .null, .null, .null], [.int (nI want)], σ) X := by
      intro X hX
      refine sg_X11_drinks_56 σ a (nI k) (nI (R (7 + 4 * k))) (nI (R (8 + 4 * k))) (nI want) X ⟨lit 2 (by decide), nI cups, σ, by rw [c 2, ← els]; exact ev_X11_least σ _ _, _, σ, ev_X11_of σ _ _, by rw [hl]; exact o2.2, ?_⟩
      intro σ9' e9'
      rw [show σ9' = σ9 by rw [e9', e9, c 2, pk_sub hc999]]
      refine ⟨v56, ?_⟩
      intro σ12' e12'
      rw [show σ12' = σ12 by rw [e12', e12, hcl]]
      rw [show (f_X11_of σ (nI k) (2 : Int32)).toNatClampNeg = 9 + 4 * k from by rw [show (2 : Int32) = nI 2 from rfl, o2.1]; omega, c (9 + 4 * k)]
      exact ⟨_, σ12, ev_X11_isAwake σ12 a _ (fun _ => lit 3 (by decide)), hX⟩
    by_cases haw : n_aw R (R (9 + 4 * k)) = true
    · have hw5 := n_aw_lt hwf hk haw
      have e35 : ((35 : Int32) + nI (R (9 + 4 * k))).toNatClampNeg = 35 + R (9 + 4 * k) := by rw [n_35, nI_clamp (by omega)]
      have h8w := h8 _ hw5
      have hti := n_ti_le (kd := R (7 + 4 * k)) (f := R (8 + 4 * k)) (c := cups)
      refine ⟨mm_u σ12 a (35 + R (9 + 4 * k)) (nI (min 99 (R (35 + R (9 + 4 * k)) + n_ti (R (7 + 4 * k)) (R (8 + 4 * k)) cups))), pre _ ⟨fun hz => ?_, fun _ => ?_⟩, ?_, ?_, ?_⟩
      · rw [eaw, if_pos haw] at hz
        exact absurd hz (by decide)
      · refine ⟨by rw [n_35]; exact lit _ (by omega), _, σ12, ev_X11_tiresBy σ12 _ _ _, _, σ12, ev_X11_least σ12 _ _, ?_⟩
        intro σ41 e41
        rw [e41, e35, s12a, ra_at, tR _ (by omega), n_tiB σ12 k1 k2 (by omega), nI_add]
        rw [show f_X11_least σ12 (99 : Int32) (nI (R (35 + R (9 + 4 * k)) + n_ti (R (7 + 4 * k)) (R (8 + 4 * k)) cups)) = nI (min 99 (R (35 + R (9 + 4 * k)) + n_ti (R (7 + 4 * k)) (R (8 + 4 * k)) cups)) from n_le σ12 (a := 99) (by decide) (by omega)]
      · unfold n_drink
        rw [if_pos haw, mm_u_s, s12a, ← ra_up, ecups]
      · rw [mm_u_o (fun e => ha56 e.symm), s12d, ecups]
      · intro q q1 q2
        rw [mm_u_o q1, s12o q q1 q2]
    · have o3 := n_ofc σ12 3 hk (by decide)
      have how := n_ow_le (kd := R (7 + 4 * k)) (c := cups) k2
      have e10 : 7 + 4 * k + 3 = 10 + 4 * k := by omega
      refine ⟨mm_u σ12 a (10 + 4 * k) (nI (min 999 (R (10 + 4 * k) + n_ow (R (7 + 4 * k)) (R (8 + 4 * k)) cups))), pre _ ⟨fun _ => ?_, fun hz => ?_⟩, ?_, ?_, ?_⟩
      · refine ⟨_, σ12, ev_X11_of σ12 _ _, _, σ12, ev_X11_of σ12 _ _, by rw [hl]; exact o3.2, _, σ12, ev_X11_owesBy σ12 _ _ _, _, σ12, ev_X11_least σ12 _ _, by rw [hl]; exact o3.2, ?_⟩
        intro σ32 e32
        rw [e32, show (f_X11_of σ12 (nI k) (3 : Int32)).toNatClampNeg = 10 + 4 * k from by rw [show (3 : Int32) = nI 3 from rfl, o3.1, e10], s12a, ra_at, tR _ (by omega), n_owB σ12 k1 k2 (by omega), nI_add]
        rw [show f_X11_least σ12 (999 : Int32) (nI (R (10 + 4 * k) + n_ow (R (7 + 4 * k)) (R (8 + 4 * k)) cups)) = nI (min 999 (R (10 + 4 * k) + n_ow (R (7 + 4 * k)) (R (8 + 4 * k)) cups)) from n_le σ12 (a := 999) (by decide) (by omega)]
      · rw [eaw, if_neg haw] at hz
        exact absurd rfl hz
      · unfold n_drink
        rw [if_neg haw, mm_u_s, s12a, ← ra_up, ecups]
      · rw [mm_u_o (fun e => ha56 e.symm), s12d, ecups]
      · intro q q1 q2
        rw [mm_u_o q1, s12o q q1 q2]
  have hdr := n_dr_le (kd := R (7 + 4 * k)) (d := R 1) k2
  have e5 : f_X11_has σ (σ a 5) (nI k) = if (R 5).testBit k = true then 1 else 0 := by rw [c]; exact n_has σ h5 hk
  have e4 : f_X11_has σ (σ a 4) (nI k) = if (R 4).testBit k = true then 1 else 0 := by rw [c]; exact n_has σ h4 hk
  have edr : f_X11_drinksBy σ (nI (R (7 + 4 * k))) (nI (R (8 + 4 * k))) (σ a 1) = nI (n_dr (R (7 + 4 * k)) (R (8 + 4 * k)) (R 1)) := by rw [c]; exact n_drB σ k1 k2 (by omega)
  have start : ∀ want : Nat, (if (R 5).testBit k = true then 0 else n_dr (R (7 + 4 * k)) (R (8 + 4 * k)) (R 1) / (if (R 4).testBit k = true then 2 else 1)) = want → ∀ X, mm_Go mm_m_X11_drinks (56, [.ref 51, .ref a, .int (nI k), .int (nI (R (7 + 4 * k))), .int (nI (R (8 + 4 * k))), .null, .null, .null], [.int (nI want)], σ) X → mm_Go mm_m_X11_drinks (0, [.ref 51, .ref a, .int (nI k), .null, .null, .null, .null, .null], [], σ) X := by
    intro want hw X hX
    refine sg_X11_drinks_0 σ a (nI k) X ⟨_, σ, ev_X11_of σ _ _, by rw [hl]; exact o0.2, _, σ, ev_X11_of σ _ _, by rw [hl]; exact o1.2, lit 5 (by decide), _, σ, ev_X11_has σ _ _, ?_⟩
    rw [show (f_X11_of σ (nI k) (0 : Int32)).toNatClampNeg = 7 + 4 * k from o0.1, show (f_X11_of σ (nI k) (1 : Int32)).toNatClampNeg = 8 + 4 * k from by rw [show (1 : Int32) = nI 1 from rfl, o1.1]; omega, c (7 + 4 * k), c (8 + 4 * k), e5]
    cases hb5 : (R 5).testBit k with
    | true =>
      rw [if_pos rfl]
      refine ⟨fun z => absurd z (by decide), fun _ => ?_⟩
      rw [hb5, if_pos rfl] at hw
      subst hw
      exact hX
    | false =>
      rw [if_neg (by simp)]
      refine ⟨fun _ => ⟨lit 1 (by decide), _, σ, ev_X11_drinksBy σ _ _ _, lit 4 (by decide), _, σ, ev_X11_has σ _ _, ?_⟩, fun z => absurd rfl z⟩
      rw [e4, edr]
      rw [hb5, if_neg (by simp)] at hw
      cases hb4 : (R 4).testBit k with
      | true =>
        rw [if_pos rfl]
        refine ⟨fun z => absurd z (by decide), fun _ => ?_⟩
        rw [hb4, if_pos rfl] at hw
        rw [show (2 : Int32) = nI 2 from rfl, pk_div (by omega) (by decide) (by decide), hw]
        exact hX
      | false =>
        rw [if_neg (by simp)]
        refine ⟨fun _ => ?_, fun z => absurd rfl z⟩
        rw [hb4, if_neg (by simp)] at hw
        rw [show (1 : Int32) = nI 1 from rfl, pk_div (by omega) (by decide) (by decide), hw]
        exact hX
  obtain ⟨want, hw⟩ : ∃ z, (if (R 5).testBit k = true then 0 else n_dr (R (7 + 4 * k)) (R (8 + 4 * k)) (R 1) / (if (R 4).testBit k = true then 2 else 1)) = z := ⟨_, rfl⟩
  have hwl : want < 2 ^ 20 := by
    rw [← hw]
    split
    · decide
    · exact Nat.lt_of_le_of_lt (Nat.div_le_self _ _) (by omega)
  obtain ⟨σ', g, r⟩ := tail want hwl (by rw [ecups]; unfold n_cups; rw [hw])
  exact ⟨σ', start want hw _ g, r⟩
