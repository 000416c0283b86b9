/-- a loop from its head to its end, what follows left open -/
theorem mm_run {M : mm_Me} {α : Type} (St : Nat → α → mm_St) (n : Nat) (I : Nat → α → Prop)
    (hs : ∀ j s, j < n → I j s → ∃ s', I (j + 1) s' ∧ ∀ X, mm_Go M (St (j + 1) s') X → mm_Go M (St j s) X) :
    ∀ (d j : Nat) (s : α), j + d = n → I j s → ∃ s', I n s' ∧ ∀ X, mm_Go M (St n s') X → mm_Go M (St j s) X
  | 0, j, s, e, h => by
    have e : j = n := e
    subst e
    exact ⟨s, h, fun _ g => g⟩
  | d + 1, j, s, e, h => by
    obtain ⟨s', h1, h2⟩ := hs j s (by omega) h
    obtain ⟨s2, h3, h4⟩ := mm_run St n I hs d (j + 1) s' (by omega) h1
    exact ⟨s2, h3, fun X g => h2 X (h4 X g)⟩
theorem xW_rest {σ : mm_Sg} {c D : Nat} {R : Nat → Nat} (hc : isC c) (hR : xr σ c R) (hwf : n_wf D R) : ∃ σ', mm_Ev mm_m_X1_restSleepers [.ref c] σ none σ' ∧ xr σ' c (n_it n_wake 5 R) ∧ ∀ q, q ≠ c → q ≠ c + 5 → σ' q = σ q := by
  obtain ⟨cl, l1, l2, l3, l4, l5, l6⟩ := hc.cl
  obtain ⟨s', ⟨h1, h2⟩, g⟩ := mm_run (M := mm_m_X1_restSleepers) (α := mm_Sg) (fun j s => (2, [.ref c, .int (nI j)], [], s)) 5
    (fun j s => xr s c (n_it n_wake j R) ∧ ∀ q, q ≠ c → q ≠ c + 5 → s q = σ q)
    (fun j s hj ⟨h1, h2⟩ => by
      have wf := n_wf_it (N := 5) (fun R k h hk => n_wf_wake h hk) j R (by omega) hwf
      obtain ⟨T, eT⟩ : ∃ z, z = n_it n_wake j R := ⟨_, rfl⟩
      rw [← eT] at h1 wf
      have hcl : (nI j).toNatClampNeg = j := nI_clamp (by omega)
      have eaw := x_isAw s (w := j) h1.2.2.2.1 wf.2.2.2.1 (Or.inl hj)
      have h8 := wf.2.2.2.2.2.2.2.2.1 j hj
      have t8 := h1.2.2.2.2.2.2.2.2 j hj
      have enx : n_it n_wake (j + 1) R = n_wake T j := by rw [eT]; rfl
      have go : ∀ s', xr s' c (n_wake T j) → (∀ q, q ≠ c → q ≠ c + 5 → s' q = s q) → (∀ X, mm_Go mm_m_X1_restSleepers (2, [.ref c, .int (nI (j + 1))], [], s') X → mm_Go mm_m_X1_restSleepers (2, [.ref c, .int (nI j)], [], s) X) → ∃ s', (xr s' c (n_it n_wake (j + 1) R) ∧ ∀ q, q ≠ c → q ≠ c + 5 → s' q = σ q) ∧ ∀ X, mm_Go mm_m_X1_restSleepers (2, [.ref c, .int (nI (j + 1))], [], s') X → mm_Go mm_m_X1_restSleepers (2, [.ref c, .int (nI j)], [], s) X :=
        fun s' a b d => ⟨s', ⟨by rw [enx]; exact a, fun q q1 q2 => by rw [b q q1 q2, h2 q q1 q2]⟩, d⟩
      by_cases ha : n_aw T j = true
      · refine go s (by unfold n_wake; rw [if_pos ha]; exact h1) (fun _ _ _ => rfl) (fun X hX => sg_X1_restSleepers_2 s c (nI j) X ⟨fun z => absurd z (nI_ge (b := 5) hj (by decide)), fun _ => ⟨cl, _, s, ev_X1_isAwake s c _ (fun _ => cl), ?_⟩⟩)
        rw [eaw, if_pos ha, nI_1]
        exact ⟨fun _ => hX, fun z => absurd (show ¬ (1 : Int32) = 0 by decide) z⟩
      · obtain ⟨s8, e8⟩ : ∃ z, z = mm_u s (c + 5) j (nI (T (35 + j) - 15)) := ⟨_, rfl⟩
        have x8 : xr s8 c (nup T (35 + j) (T (35 + j) - 15)) := by rw [e8]; exact xr_tired h1
        have o8 : ∀ q, q ≠ c → q ≠ c + 5 → s8 q = s q := fun q _ q2 => by rw [e8, mm_u_o q2]
        have b8 : s8 (c + 5) j = nI (T (35 + j) - 15) := by rw [e8, mm_u_kk]
        have b13 : s8 c 13 = nI (T 6) := by rw [x8.2.2.2.2.2.2.1, nup_o T (by omega)]
        have b7 : s8 c 7 = nI (T 3) := by rw [x8.2.2.2.1, nup_o T (by omega)]
        have pre : ∀ X, (((20 : Int32) ≤ nI (T (35 + j) - 15) → mm_Go mm_m_X1_restSleepers (2, [.ref c, .int (nI (j + 1))], [], s8) X) ∧ (¬ ((20 : Int32) ≤ nI (T (35 + j) - 15)) → (((¬ (if (T 6).testBit j = true then (1 : Int32) else 0) = (0 : Int32) → mm_Go mm_m_X1_restSleepers (2, [.ref c, .int (nI (j + 1))], [], s8) X) ∧ (¬ (¬ (if (T 6).testBit j = true then (1 : Int32) else 0) = (0 : Int32)) → (∀ σ12 : mm_Sg, σ12 = mm_u s8 c 7 (nI (T 3 ^^^ 2 ^ j)) → mm_Go mm_m_X1_restSleepers (2, [.ref c, .int (nI (j + 1))], [], σ12) X)))))) → mm_Go mm_m_X1_restSleepers (2, [.ref c, .int (nI j)], [], s) X := by
          intro X hX
          refine sg_X1_restSleepers_2 s c (nI j) X ⟨fun z => absurd z (nI_ge (b := 5) hj (by decide)), fun _ => ⟨cl, _, s, ev_X1_isAwake s c _ (fun _ => cl), ?_⟩⟩
          rw [eaw, if_neg ha]
          refine ⟨fun z => absurd rfl z, fun _ => ⟨by rw [l5]; exact v_in hj (by decide), fun σ8 e => ?_⟩⟩
          rw [show σ8 = s8 by rw [e, e8, hcl, t8]; congr 1; exact n_max0 (b := 15) (by omega) (by decide), hcl, b8, b13, b7, x_shr _ wf.2.2.2.2.2.2.1 j hj, n_clr _ wf.2.2.2.1 j hj (n_asl hj ha), nI_1]
          exact hX
        by_cases ht : T (35 + j) - 15 < 20
        · cases hb : (T 6).testBit j with
          | true =>
            refine go s8 (by unfold n_wake; rw [if_neg ha, hb, if_neg (by simp)]; exact x8) o8 (fun X hX => pre X ⟨fun _ => hX, fun _ => ⟨fun _ => hX, fun z => ?_⟩⟩)
            rw [hb, if_pos rfl] at z
            exact absurd (show ¬ (1 : Int32) = 0 by decide) z
          | false =>
            refine go (mm_u s8 c 7 (nI (T 3 ^^^ 2 ^ j))) (by unfold n_wake; rw [if_neg ha, hb, if_pos ⟨ht, rfl⟩]; exact xr_asleep x8) (fun q q1 q2 => by rw [mm_u_o q1, o8 q q1 q2]) (fun X hX => pre X ⟨fun z => absurd z (nI_ge (b := 20) ht (by decide)), fun _ => ⟨fun z => ?_, fun _ σ12 e => by rw [e]; exact hX⟩⟩)
            rw [hb, if_neg (by simp)] at z
            exact absurd rfl z
        · refine go s8 (by unfold n_wake; rw [if_neg ha, if_neg (fun z => ht z.1)]; exact x8) o8 (fun X hX => pre X ⟨fun _ => hX, fun z => absurd (nI_le (a := 20) (by omega) (by omega)) z⟩))
    5 0 σ rfl ⟨hR, fun _ _ _ => rfl⟩
  exact ⟨s', sg_X1_restSleepers_0 σ c _ (g _ (sg_X1_restSleepers_2 s' c (nI 5) _ ⟨fun _ => rfl, fun z => absurd (show (5 : Int32) ≤ nI 5 by decide) z⟩)), h1, h2⟩
theorem xW_end {σ : mm_Sg} {c D : Nat} {R : Nat → Nat} (hc : isC c) (hR : xr σ c R) (hwf : n_wf D R) : ∃ σ', mm_Ev mm_m_X1_endDay [.ref c] σ none σ' ∧ xr σ' c (n_it n_lie 5 R) ∧ ∀ q, q ≠ c → q ≠ c + 5 → σ' q = σ q := by
  obtain ⟨cl, l1, l2, l3, l4, l5, l6⟩ := hc.cl
  obtain ⟨s', ⟨h1, h2⟩, g⟩ := mm_run (M := mm_m_X1_endDay) (α := mm_Sg) (fun j s => (2, [.ref c, .int (nI j)], [], s)) 5
    (fun j s => xr s c (n_it n_lie j R) ∧ ∀ q, q ≠ c → q ≠ c + 5 → s q = σ q)
    (fun j s hj ⟨h1, h2⟩ => by
      have wf := n_wf_it (N := 5) (fun R k h hk => n_wf_lie h hk) j R (by omega) hwf
      obtain ⟨T, eT⟩ : ∃ z, z = n_it n_lie j R := ⟨_, rfl⟩
      rw [← eT] at h1 wf
      have hcl : (nI j).toNatClampNeg = j := nI_clamp (by omega)
      have eaw := x_isAw s (w := j) h1.2.2.2.1 wf.2.2.2.1 (Or.inl hj)
      have h8 := wf.2.2.2.2.2.2.2.2.1 j hj
      have t8 := h1.2.2.2.2.2.2.2.2 j hj
      have enx : n_it n_lie (j + 1) R = n_lie T j := by rw [eT]; rfl
      have go : ∀ s', xr s' c (n_lie T j) → (∀ q, q ≠ c → q ≠ c + 5 → s' q = s q) → (∀ X, mm_Go mm_m_X1_endDay (2, [.ref c, .int (nI (j + 1))], [], s') X → mm_Go mm_m_X1_endDay (2, [.ref c, .int (nI j)], [], s) X) → ∃ s', (xr s' c (n_it n_lie (j + 1) R) ∧ ∀ q, q ≠ c → q ≠ c + 5 → s' q = σ q) ∧ ∀ X, mm_Go mm_m_X1_endDay (2, [.ref c, .int (nI (j + 1))], [], s') X → mm_Go mm_m_X1_endDay (2, [.ref c, .int (nI j)], [], s) X :=
        fun s' a b d => ⟨s', ⟨by rw [enx]; exact a, fun q q1 q2 => by rw [b q q1 q2, h2 q q1 q2]⟩, d⟩
      have pre : ∀ X, (((if n_aw T j = true then (1 : Int32) else 0) = (0 : Int32) → mm_Go mm_m_X1_endDay (2, [.ref c, .int (nI (j + 1))], [], s) X) ∧ (¬ ((if n_aw T j = true then (1 : Int32) else 0) = (0 : Int32)) → ((nI (T (35 + j)) < (60 : Int32) → (∀ σ9 : mm_Sg, σ9 = mm_u s (c + 5) j (nI (T (35 + j) - 2)) → mm_Go mm_m_X1_endDay (2, [.ref c, .int (nI (j + 1))], [], σ9) X)) ∧ (¬ (nI (T (35 + j)) < (60 : Int32)) → (∀ σ11 : mm_Sg, σ11 = mm_u s c 7 (nI (T 3 ||| 2 ^ j)) → mm_Go mm_m_X1_endDay (2, [.ref c, .int (nI (j + 1))], [], σ11) X))))) → mm_Go mm_m_X1_endDay (2, [.ref c, .int (nI j)], [], s) X := by
        intro X hX
        refine sg_X1_endDay_2 s c (nI j) X ⟨fun z => absurd z (nI_ge (b := 5) hj (by decide)), fun _ => ⟨cl, _, s, ev_X1_isAwake s c _ (fun _ => cl), ?_⟩⟩
        rw [eaw, hcl, t8, h1.2.2.2.1, n_set _ wf.2.2.2.1 j hj, nI_1]
        refine ⟨hX.1, fun z => ⟨by rw [l5]; exact v_in hj (by decide), fun z2 σ9 e9 => (hX.2 z).1 z2 σ9 ?_, (hX.2 z).2⟩⟩
        rw [e9]
        congr 1
        exact n_max0 (b := 2) (by omega) (by decide)
      by_cases ha : n_aw T j = true
      · by_cases ht : 60 ≤ T (35 + j)
        · refine go (mm_u s c 7 (nI (T 3 ||| 2 ^ j))) (by unfold n_lie; rw [if_pos ha, if_pos ht]; exact xr_asleep h1) (fun q q1 q2 => by rw [mm_u_o q1]) (fun X hX => pre X ⟨fun z => ?_, fun _ => ⟨fun z => absurd z (nI_nlt (b := 60) ht (by omega)), fun _ σ11 e => by rw [e]; exact hX⟩⟩)
          rw [if_pos ha] at z
          exact absurd z (by decide)
        · refine go (mm_u s (c + 5) j (nI (T (35 + j) - 2))) (by unfold n_lie; rw [if_pos ha, if_neg ht]; exact xr_tired h1) (fun q q1 q2 => by rw [mm_u_o q2]) (fun X hX => pre X ⟨fun z => ?_, fun _ => ⟨fun _ σ9 e => by rw [e]; exact hX, fun z => absurd (nI_lt (b := 60) (by omega) (by decide)) z⟩⟩)
          rw [if_pos ha] at z
          exact absurd z (by decide)
      · refine go s (by unfold n_lie; rw [if_neg ha]; exact h1) (fun _ _ _ => rfl) (fun X hX => pre X ⟨fun _ => hX, fun z => ?_⟩)
        rw [if_neg ha] at z
        exact absurd rfl z)
    5 0 σ rfl ⟨hR, fun _ _ _ => rfl⟩
  exact ⟨s', sg_X1_endDay_0 σ c _ (g _ (sg_X1_endDay_2 s' c (nI 5) _ ⟨fun _ => rfl, fun z => absurd (show (5 : Int32) ≤ nI 5 by decide) z⟩)), h1, h2⟩
theorem n_noon0 {D : Nat} {R : Nat → Nat} : ∀ n, n ≤ 7 → n_it n_drink n R 0 = R 0
  | 0, _ => rfl
  | n + 1, hn => by
    show n_drink (n_it n_drink n R) n 0 = _
    have := n_noon0 (D := D) (R := R) n (by omega)
    unfold n_drink
    split <;> (rw [nup_o _ (by omega), nup_o _ (by omega)]; exact this)
theorem xW_days {σ : mm_Sg} {c D n : Nat} {R : Nat → Nat} (hc : isC c) (hR : xr σ c R) (hwf : n_wf D R) (hD : D + n < 2 ^ 19) : ∃ σ', mm_Ev mm_m_X1_goDays [.ref c, .int (nI n)] σ none σ' ∧ xr σ' c (n_days n R) ∧ (∀ k, σ' (c + 6) k = σ (c + 6) k + nI (n_cds n R k)) ∧ ∀ q, q ≠ c → q ≠ c + 4 → q ≠ c + 5 → q ≠ c + 6 → σ' q = σ q := by
  obtain ⟨cl, l1, l2, l3, l4, l5, l6⟩ := hc.cl
  obtain ⟨⟨s', d'⟩, ⟨h1, h2, h3⟩, g⟩ := mm_run (M := mm_m_X1_goDays) (α := mm_Sg × Value) (fun j s => (2, [.ref c, .int (nI n), .int (nI j), s.2], [], s.1)) n
    (fun j s => xr s.1 c (n_days j R) ∧ (∀ k, s.1 (c + 6) k = σ (c + 6) k + nI (n_cds j R k)) ∧ ∀ q, q ≠ c → q ≠ c + 4 → q ≠ c + 5 → q ≠ c + 6 → s.1 q = σ q)
    (fun j s hj ⟨h1, h2, h3⟩ => by
      obtain ⟨s, d⟩ := s
      dsimp only at h1 h2 h3 ⊢
      obtain ⟨T, eT⟩ : ∃ z, z = n_days j R := ⟨_, rfl⟩
      have wf := n_wf_days hwf j
      rw [← eT] at h1 wf
      have w1 : n_wf (D + j + 1) (nup T 1 (T 1 + 1)) := n_wf_day wf (by have := wf.2.1; omega)
      have wd : n_wf (D + j + 1) (n_dawn T) := n_wf_dawn wf
      obtain ⟨s5, g5, x5, o5⟩ := xW_rest hc (xr_day (v := T 1 + 1) h1) w1
      have x5 : xr s5 c (n_dawn T) := x5
      have o5' : ∀ q, q ≠ c → q ≠ c + 5 → s5 q = s q := fun q q1 q2 => by rw [o5 q q1 q2, mm_u_o q1]
      obtain ⟨s6, ⟨x6, d6, o6⟩, g6⟩ := mm_run (M := mm_m_X1_goDays) (α := mm_Sg) (fun i s => (23, [.ref c, .int (nI n), .int (nI j), .int (nI i)], [], s)) (n_dawn T 0)
        (fun i s => xr s c (n_it n_drink i (n_dawn T)) ∧ (∀ k, s (c + 6) k = s5 (c + 6) k + nI (if k < i then n_cups (n_it n_drink k (n_dawn T)) k else 0)) ∧ ∀ q, q ≠ c → q ≠ c + 4 → q ≠ c + 5 → q ≠ c + 6 → s q = s5 q)
        (fun i s hi ⟨h1, h2, h3⟩ => by
          have h7 := wd.1
          have wfi := n_wf_it (N := 7) (fun R k h hk => n_wf_drink h hk) i _ (by omega) wd
          have e0 := n_noon0 (D := D) (R := n_dawn T) i (by omega)
          obtain ⟨s2, g2, k1, k2, k3⟩ := xW_pour hc h1 wfi (by omega) (by rw [e0]; exact hi)
          refine ⟨s2, ⟨k1, fun k => ?_, fun q q1 q2 q3 q4 => by rw [k3 q q1 q2 q3 q4, h3 q q1 q2 q3 q4]⟩, fun X hX => sg_X1_goDays_23 s c (nI n) (nI j) (nI i) X ⟨cl, fun z => ?_, fun _ => ⟨s2, g2, ?_⟩⟩⟩
          · rw [k2]
            unfold upd
            by_cases e : k = i
            · subst e
              rw [if_pos rfl, h2 k, if_neg (by omega), if_pos (by omega), nI_0]
              simp
            · rw [if_neg e, h2 k]
              by_cases e2 : k < i
              · rw [if_pos e2, if_pos (by omega)]
              · rw [if_neg e2, if_neg (by omega)]
          · rw [h1.1, e0] at z
            exact absurd z (nI_ge hi (by omega))
          · rw [nI_1]
            exact hX)
        (n_dawn T 0) 0 s5 (by omega) ⟨x5, fun k => by rw [if_neg (by omega), nI_0]; simp, fun _ _ _ _ _ => rfl⟩
      have x6 : xr s6 c (n_noon T) := x6
      obtain ⟨s7, g7, x7, o7⟩ := xW_end hc x6 (n_wf_noon wf)
      have x7 : xr s7 c (n_day T) := x7
      refine ⟨(s7, .int (nI (n_dawn T 0))), ⟨by show xr s7 c (n_day (n_days j R)); rw [← eT]; exact x7, fun k => ?_, fun q q1 q2 q3 q4 => by show s7 q = σ q; rw [o7 q q1 q3, o6 q q1 q2 q3 q4, o5' q q1 q3, h3 q q1 q2 q3 q4]⟩, fun X hX => sg_X1_goDays_2 s c (nI n) (nI j) d X ⟨fun z => absurd z (nI_ge hj (by omega)), fun _ => ⟨cl, fun σ3 e3 => ⟨s5, ?_, ?_⟩⟩⟩⟩
      · show s7 (c + 6) k = σ (c + 6) k + nI (n_cds j R k + n_cd (n_days j R) k)
        rw [← eT, o7 (c + 6) (by omega) (by omega), d6 k, o5' (c + 6) (by omega) (by omega), h2 k, Int32.add_assoc, nI_add]
        rfl
      · rw [show σ3 = mm_u s c 9 (nI (T 1 + 1)) by rw [e3, h1.2.1, nI_1]]
        exact g5
      · refine g6 X (sg_X1_goDays_23 s6 c (nI n) (nI j) (nI (n_dawn T 0)) X ⟨cl, fun _ => ⟨s7, g7, ?_⟩, fun z => ?_⟩)
        · rw [nI_1]
          exact hX
        · have h7 := wd.1
          rw [x6.1, show n_noon T 0 = n_dawn T 0 from n_noon0 (D := D) _ h7] at z
          exact absurd (nI_le (Nat.le_refl _) (by omega)) z)
    n 0 (σ, .null) (by omega) ⟨hR, fun k => by show _ = σ (c + 6) k + nI 0; rw [nI_0]; simp, fun _ _ _ _ _ => rfl⟩
  dsimp only at h1 h2 h3 g
  exact ⟨s', sg_X1_goDays_0 σ c (nI n) _ (g _ (sg_X1_goDays_2 s' c (nI n) (nI n) d' _ ⟨fun _ => rfl, fun z => absurd (nI_le (Nat.le_refl n) (by omega)) z⟩)), h1, h2, h3⟩
