theorem x_has (σ : mm_Sg) {c k n : Nat} (h6 : σ c 6 = nI n) (hn : n ≤ 7) (hk : k < 2 ^ 31) : f_X1_has σ c (nI k) = if k < n then 1 else 0 := by
  unfold f_X1_has
  rw [h6, if_neg (nI_pos hk)]
  by_cases h : k < n
  · rw [if_neg (nI_ge h (by omega)), if_neg (show ¬ (7 : Int32) ≤ nI k from nI_ge (b := 7) (by omega) (by decide)), if_pos h]
  · rw [if_pos (nI_le (by omega) hk), if_neg h]
theorem hv_tb0 : ∀ j, j < 7 → ∀ k, k < 7 → ((2 ^ j).testBit k = true ↔ j = k) := by decide +kernel
theorem hv_m1 : ∀ k, k < 7 → nI k ≠ (-1 : Int32) := by decide +kernel
theorem hv_tb {x : Int32} {m k : Nat} (h : hv x m) (hk : k < 7) : nI k = x ↔ m.testBit k = true := by
  rcases h with ⟨rfl, rfl⟩ | ⟨j, hj, rfl, rfl⟩
  · simp [hv_m1 k hk]
  · rw [hv_tb0 j hj k hk, nI_eq (by omega) (by omega)]
    exact eq_comm
theorem hv_lt {x : Int32} {m : Nat} (h : hv x m) : m < 128 := by
  rcases h with ⟨-, rfl⟩ | ⟨j, hj, -, rfl⟩
  · decide
  · have : ∀ j, j < 7 → 2 ^ j < 128 := by decide +kernel
    exact this j hj
theorem xr_drunk {σ : mm_Sg} {c k : Nat} {x : Int32} {R : Nat → Nat} (h : xr σ c R) : xr (mm_u σ (c + 6) k x) c R := xr_same h (fun q _ h2 => mm_u_o (by omega))
set_option maxHeartbeats 1000000 in
theorem xW_pour {σ : mm_Sg} {c D k : Nat} {R : Nat → Nat} (hc : isC c) (hR : xr σ c R) (hwf : n_wf D R) (hD : D < 2 ^ 20) (hk : k < R 0) : ∃ σ', mm_Ev mm_m_X1_pour [.ref c, .int (nI k)] σ none σ' ∧ xr σ' c (n_drink R k) ∧ σ' (c + 6) = upd (σ (c + 6)) k (σ (c + 6) k + nI (n_cups R k)) ∧ ∀ q, q ≠ c → q ≠ c + 4 → q ≠ c + 5 → q ≠ c + 6 → σ' q = σ q := by
  obtain ⟨h0, h1, h2, h3, h4, h5, h6, h7, h8, h9⟩ := id hwf
  obtain ⟨r0, r1, r2, r3, r4, r5, r6, r7, r8⟩ := id hR
  obtain ⟨cl, l1, l2, l3, l4, l5, l6⟩ := hc.cl
  have hk7 : k < 7 := by omega
  have hb := hc.kr.1
  obtain ⟨k1, k2, k3, k4⟩ := h7 k hk7
  obtain ⟨a1, a2, a3, a4⟩ := r7 k hk7
  have hcl : (nI k).toNatClampNeg = k := nI_clamp (by omega)
  have vk : ∀ n, n = 7 → vp_in (nI k) n := fun n hn => by rw [hn]; exact v_in hk7 (by decide)
  obtain ⟨cups, ecups⟩ : ∃ z, z = n_cups R k := ⟨_, rfl⟩
  have tail : ∀ (want : Nat) (x3 : Int32), want < 2 ^ 20 → min want (R 2) = cups → ∃ σ', mm_Go mm_m_X1_pour (65, [.ref c, .int (nI k), .ref (mm_kr c + 1 + R (7 + 4 * k)), .int x3, .null, .null], [.int (nI want)], σ) (none, σ') ∧ xr σ' c (n_drink R k) ∧ σ' (c + 6) = upd (σ (c + 6)) k (σ (c + 6) k + nI (n_cups R k)) ∧ ∀ q, q ≠ c → q ≠ c + 4 → q ≠ c + 5 → q ≠ c + 6 → σ' q = σ q := by
    intro want x3 hwn hwc
    have hc9 : cups ≤ R 2 := by omega
    have emin : (if (σ c 8) < nI want then (σ c 8) else nI want) = nI cups := by rw [r2, n_minI (by omega) (by omega), hwc]
    obtain ⟨σ2, e2⟩ : ∃ z, z = mm_u σ c 8 (nI (R 2 - cups)) := ⟨_, rfl⟩
    have x2 : xr σ2 c (nup R 2 (R 2 - cups)) := by rw [e2]; exact xr_bags hR
    have o2 : ∀ q, q ≠ c → σ2 q = σ q := fun q hq => by rw [e2, mm_u_o hq]
    obtain ⟨σ5, e5⟩ : ∃ z, z = mm_u σ2 (c + 6) k (σ2 (c + 6) k + nI cups) := ⟨_, rfl⟩
    have x5 : xr σ5 c (nup R 2 (R 2 - cups)) := by rw [e5]; exact xr_drunk x2
    have d5 : σ5 (c + 6) = upd (σ (c + 6)) k (σ (c + 6) k + nI cups) := by rw [e5, mm_u_s, o2 (c + 6) (by omega)]
    have o5 : ∀ q, q ≠ c → q ≠ c + 6 → σ5 q = σ q := fun q q1 q2 => by rw [e5, mm_u_o q2, o2 q q1]
    have eaw : f_X1_isAwake σ5 c (nI (R (9 + 4 * k))) = if n_aw R (R (9 + 4 * k)) = true then 1 else 0 := x_isAw σ5 (by rw [x5.2.2.2.1, nup_o R (by omega)]) h3 k3
    have b2 : σ5 (c + 2) k = nI (R (8 + 4 * k)) := by rw [(x5.2.2.2.2.2.2.2.1 k hk7).2.1, nup_o R (by omega)]
    have b3 : σ5 (c + 3) k = nI (R (9 + 4 * k)) := by rw [(x5.2.2.2.2.2.2.2.1 k hk7).2.2.1, nup_o R (by omega)]
    have b4 : σ5 (c + 4) k = nI (R (10 + 4 * k)) := by rw [(x5.2.2.2.2.2.2.2.1 k hk7).2.2.2, nup_o R (by omega)]
    by_cases haw : n_aw R (R (9 + 4 * k)) = true
    · have hw5 := n_aw_lt hwf hk7 haw
      have h8w := h8 _ hw5
      have b5 : σ5 (c + 5) (R (9 + 4 * k)) = nI (R (35 + R (9 + 4 * k))) := by rw [x5.2.2.2.2.2.2.2.2 _ hw5, nup_o R (by omega)]
      have hti := n_ti_le (kd := R (7 + 4 * k)) (f := R (8 + 4 * k)) (c := cups)
      have hcw : (nI (R (9 + 4 * k))).toNatClampNeg = R (9 + 4 * k) := nI_clamp (by omega)
      refine ⟨mm_u σ5 (c + 5) (R (9 + 4 * k)) (nI (min 99 (R (35 + R (9 + 4 * k)) + n_ti (R (7 + 4 * k)) (R (8 + 4 * k)) cups))), ?_, ?_, ?_, ?_⟩
      · refine sg_X1_pour_65 σ c (nI k) (mm_kr c + 1 + R (7 + 4 * k)) x3 (nI want) _ ?_
        rw [emin, hcl]
        refine ⟨cl, fun σ2' e2' => ?_⟩
        rw [show σ2' = σ2 by rw [e2', e2, r2, pk_sub hc9]]
        refine ⟨vk _ l6, fun σ5' e5' => ?_⟩
        rw [show σ5' = σ5 by rw [e5', e5], b3]
        refine ⟨vk _ l3, _, σ5, ev_X1_isAwake σ5 c _ (fun _ => cl), ?_⟩
        rw [eaw, if_pos haw]
        refine ⟨fun z => absurd z (by decide), fun _ => ⟨by rw [l5]; exact v_in hw5 (by decide), vk _ l2, _, σ5, by rw [b2]; exact ev_DK1 σ5 _ _ _ _ hb k1, fun σ25 e25 => ?_⟩⟩
        rw [e25, hcw, b5, x_ti σ5 k1 k2 (by omega), nI_add]
        rw [show (if nI (R (35 + R (9 + 4 * k)) + n_ti (R (7 + 4 * k)) (R (8 + 4 * k)) cups) < (99 : Int32) then nI (R (35 + R (9 + 4 * k)) + n_ti (R (7 + 4 * k)) (R (8 + 4 * k)) cups) else (99 : Int32)) = nI (min 99 (R (35 + R (9 + 4 * k)) + n_ti (R (7 + 4 * k)) (R (8 + 4 * k)) cups)) from n_minI (a := 99) (by decide) (by omega)]
      · unfold n_drink
        rw [if_pos haw, ← ecups]
        exact xr_tired x5
      · rw [mm_u_o (by omega), d5, ecups]
      · intro q q1 q2 q3 q4
        rw [mm_u_o q3, o5 q q1 q4]
    · have how := n_ow_le (kd := R (7 + 4 * k)) (c := cups) k2
      refine ⟨mm_u σ5 (c + 4) k (nI (min 999 (R (10 + 4 * k) + n_ow (R (7 + 4 * k)) (R (8 + 4 * k)) cups))), ?_, ?_, ?_, ?_⟩
      · refine sg_X1_pour_65 σ c (nI k) (mm_kr c + 1 + R (7 + 4 * k)) x3 (nI want) _ ?_
        rw [emin, hcl]
        refine ⟨cl, fun σ2' e2' => ?_⟩
        rw [show σ2' = σ2 by rw [e2', e2, r2, pk_sub hc9]]
        refine ⟨vk _ l6, fun σ5' e5' => ?_⟩
        rw [show σ5' = σ5 by rw [e5', e5], b3]
        refine ⟨vk _ l3, _, σ5, ev_X1_isAwake σ5 c _ (fun _ => cl), ?_⟩
        rw [eaw, if_neg haw]
        refine ⟨fun _ => ⟨vk _ l4, vk _ l2, _, σ5, by rw [b2]; exact ev_DK2 σ5 _ _ _ _ hb k1, fun σ17 e17 => ?_⟩, fun z => absurd rfl z⟩
        rw [e17, b4, x_ow σ5 k1 k2 (by omega), nI_add]
        rw [show (if nI (R (10 + 4 * k) + n_ow (R (7 + 4 * k)) (R (8 + 4 * k)) cups) < (999 : Int32) then nI (R (10 + 4 * k) + n_ow (R (7 + 4 * k)) (R (8 + 4 * k)) cups) else (999 : Int32)) = nI (min 999 (R (10 + 4 * k) + n_ow (R (7 + 4 * k)) (R (8 + 4 * k)) cups)) from n_minI (a := 999) (by decide) (by omega)]
      · unfold n_drink
        rw [if_neg haw, ← ecups]
        exact xr_owes x5 hk7
      · rw [mm_u_o (by omega), d5, ecups]
      · intro q q1 q2 q3 q4
        rw [mm_u_o q2, o5 q q1 q4]
  have hdr := n_dr_le (kd := R (7 + 4 * k)) (d := R 1) k2
  obtain ⟨want, hw⟩ : ∃ z, (if (R 5).testBit k = true then 0 else n_dr (R (7 + 4 * k)) (R (8 + 4 * k)) (R 1) / (if (R 4).testBit k = true then 2 else 1)) = z := ⟨_, rfl⟩
  have hwl : want < 2 ^ 20 := by
    rw [← hw]
    split
    · decide
    · exact Nat.lt_of_le_of_lt (Nat.div_le_self _ _) (by omega)
  have e11 := hv_tb r4 hk7
  have ekn : mm_Ev mm_m_X1_kindNumbered [.ref c, .int (nI (R (7 + 4 * k)))] σ (some (.ref (mm_kr c + 1 + R (7 + 4 * k)))) σ := ev_kn σ hc k1
  obtain ⟨σ', g, rr⟩ := tail want (if (R 5).testBit k = true then 0 else nI (n_dr (R (7 + 4 * k)) (R (8 + 4 * k)) (R 1))) hwl (by rw [ecups]; unfold n_cups; rw [hw])
  refine ⟨σ', sg_X1_pour_0 σ c (nI k) _ ⟨cl, _, σ, ev_X1_has σ c (nI k) (fun _ => cl), ?_⟩, rr⟩
  rw [x_has σ r0 h0 (by omega), if_pos hk]
  refine ⟨fun _ => ⟨vk _ l1, mm_kr c + 1 + R (7 + 4 * k), σ, by rw [hcl, a1]; exact ekn, ?_⟩, fun z => absurd (show ¬ (1 : Int32) = 0 by decide) z⟩
  rw [r5, n_has0 _ h5 k hk7, hcl, a2, r1]
  cases hb5 : (R 5).testBit k with
  | true =>
    rw [hb5, if_pos rfl] at g hw
    rw [if_pos rfl]
    refine ⟨fun z => absurd z (by decide), fun _ => ⟨fun _ => ?_, fun _ => ?_⟩⟩
    · subst hw
      exact g
    · subst hw
      exact g
  | false =>
    rw [hb5, if_neg (by simp)] at g hw
    rw [if_neg (by simp)]
    refine ⟨fun _ => ⟨vk _ l2, nI (n_dr (R (7 + 4 * k)) (R (8 + 4 * k)) (R 1)), σ, by rw [← x_dr σ k1 k2 (by omega)]; exact ev_DK0 σ _ _ _ _ hb k1, fun z => ?_, fun z => ?_⟩, fun z => absurd rfl z⟩
    · rw [if_neg (fun n => z (e11.mpr n)), Nat.div_one] at hw
      subst hw
      exact g
    · have z : nI k = σ c 11 := Decidable.not_not.mp z
      rw [if_pos (e11.mp z)] at hw
      rw [show (2 : Int32) = nI 2 from rfl, pk_div (by omega) (by decide) (by decide), hw]
      exact g
