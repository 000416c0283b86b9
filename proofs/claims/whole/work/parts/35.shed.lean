/-! the face: store, shed -/
/-- the first that answers, whatever the thinking does -/
theorem mm_find2 {M : mm_Me} (St : Nat → mm_Sg → mm_St) (P : Nat → Bool) (N : Nat) (vN : Int32) (Q : mm_Sg → Prop)
    (hit : ∀ j s, j < N → Q s → P j = true → ∃ s', Q s' ∧ mm_Go M (St j s) (some (.int (nI j)), s'))
    (miss : ∀ j s, j < N → Q s → P j = false → ∃ s', Q s' ∧ ∀ X, mm_Go M (St (j + 1) s') X → mm_Go M (St j s) X)
    (fin : ∀ s, Q s → mm_Go M (St N s) (some (.int vN), s)) :
    ∀ (d j : Nat) (s : mm_Sg), j + d = N → Q s → ∃ s', mm_Go M (St j s) (some (.int (n_fv P d j vN)), s') ∧ Q s'
  | 0, j, s, e, h => by
    have e : j = N := e
    subst e
    exact ⟨s, fin s h, h⟩
  | d + 1, j, s, e, h => by
    unfold n_fv n_find
    cases hp : P j with
    | true =>
      rw [if_pos rfl]
      obtain ⟨s', h1, h2⟩ := hit j s (by omega) h hp
      exact ⟨s', h2, h1⟩
    | false =>
      rw [if_neg (by simp)]
      obtain ⟨s', h1, h2⟩ := miss j s (by omega) h hp
      obtain ⟨s2, h3, h4⟩ := mm_find2 St P N vN Q hit miss fin d (j + 1) s' (by omega) h1
      exact ⟨s2, h2 _ h3, h4⟩
theorem n_fv_lt {W : Nat} {z : Int32} : ∀ (d j : Nat), j ≤ W + 1 → n_fv (fun b => decide (W < b)) d j z = if W + 1 < j + d then nI (W + 1) else z
  | 0, j, h => by
    rw [if_neg (by omega)]
    rfl
  | d + 1, j, h => by
    unfold n_fv n_find
    by_cases e : j = W + 1
    · subst e
      rw [if_pos (by simp), if_pos (by omega)]
    · rw [if_neg (by simp; omega)]
      have := n_fv_lt (W := W) (z := z) d (j + 1) (by omega)
      rw [show j + 1 + d = j + (d + 1) by omega] at this
      exact this
theorem F_store {σ : mm_Sg} (hI : Inv σ) (x1 : Int32) : FQ mm_m_X10_store mm_m_X11_store [.int x1] σ := by
  obtain ⟨⟨R, hcp⟩, hi, z53, z54, z55, hs⟩ := id hI
  obtain ⟨wf, r4, r5, r6, hx, hm⟩ := id hcp
  have h0 : σ 10 6 = nI (R 0) := hx.1
  have m0 : σ 52 0 = nI (R 0) := by rw [hm]; rfl
  have w7 := wf.1
  rcases bt_c x1 0 60 (by decide) (by decide) with ⟨n, hn1, hn2, rfl⟩ | h1
  · have hW := n_wishes_le wf n
    obtain ⟨W, eW⟩ : ∃ W, W = n_wishes R n := ⟨_, rfl⟩
    rw [← eW] at hW
    have r1 := wf.2.1
    obtain ⟨-, -, g1⟩ := mm_run (M := mm_m_X10_store) (α := Unit) (fun j _ => (16, [.ref 0, .int (nI n), .int (nI (n_wishes R j)), .int (nI (j + 1))], [], σ)) n (fun _ _ => True)
      (fun j _ hj _ => ⟨(), trivial, fun X hX => sg_X10_store_16 σ _ _ _ X ⟨fun z => absurd z (nI_nlt (by omega) (by omega)), fun _ => by
        rw [hx.2.1, nI_add]
        exact ⟨_, σ, xW_thirsts hx wf (by omega), by rw [nI_add, nI_1]; exact hX⟩⟩⟩)
      n 0 () (by omega) trivial
    rw [← eW] at g1
    obtain ⟨σ2, g2, t2, z2⟩ := mm_find2 (M := mm_m_X11_store) (fun j s => (11, [.ref 51, .int (nI n), .int (nI j)], [], s)) (fun b => decide (W < b)) 1000 (-4) (fun s => mTh σ s ∧ z40 s 53)
      (fun j s hj ⟨t, z⟩ hp => by
        have hp : W < j := by simpa using hp
        obtain ⟨s3, g3, y3, -, t3⟩ := mW_mind (R := R) (by rw [t 52 (by decide) (by decide)]; exact hm) wf z
        have wb := n_wf_bags wf (show j ≤ 999 by omega)
        obtain ⟨s4, g4, y4, -, t4⟩ := mW_daysMind (n := n) (σ := mm_u s3 53 2 (nI j)) (R := nup R 2 j) (by rw [mm_u_s, y3, ← ra_up]) wb (by omega)
        have w4 := n_wf_days wb n
        refine ⟨s4, ⟨(t.trans t3).trans (mth_u.trans t4), fun i hi => by rw [y4, ra_at, w4.2.2.2.2.2.2.2.2.2 i hi]; rfl⟩, sg_X11_store_11 s _ _ _ ⟨fun z => absurd z (nI_nlt (a := 999) (by omega) (by decide)), fun _ => ⟨s3, g3, fun σ4 e4 => ?_⟩⟩⟩
        rw [e4]
        refine ⟨s4, g4, fun q => ?_, fun _ => rfl⟩
        rw [y4, ra_at, n_bagged wf r4 r5 (by omega), ← eW] at q
        exact absurd q (nI_nle (by omega) (by omega)))
      (fun j s hj ⟨t, z⟩ hp => by
        have hp : ¬ W < j := by simpa using hp
        obtain ⟨s3, g3, y3, -, t3⟩ := mW_mind (R := R) (by rw [t 52 (by decide) (by decide)]; exact hm) wf z
        have wb := n_wf_bags wf (show j ≤ 999 by omega)
        obtain ⟨s4, g4, y4, -, t4⟩ := mW_daysMind (n := n) (σ := mm_u s3 53 2 (nI j)) (R := nup R 2 j) (by rw [mm_u_s, y3, ← ra_up]) wb (by omega)
        have w4 := n_wf_days wb n
        refine ⟨s4, ⟨(t.trans t3).trans (mth_u.trans t4), fun i hi => by rw [y4, ra_at, w4.2.2.2.2.2.2.2.2.2 i hi]; rfl⟩, fun X hX => sg_X11_store_11 s _ _ _ ⟨fun z => absurd z (nI_nlt (a := 999) (by omega) (by decide)), fun _ => ⟨s3, g3, fun σ4 e4 => ?_⟩⟩⟩
        rw [e4]
        refine ⟨s4, g4, fun _ => by rw [nI_1]; exact hX, fun q => ?_⟩
        rw [y4, ra_at, n_bagged wf r4 r5 (by omega), ← eW, show j - W = 0 by omega] at q
        exact absurd (by decide) q)
      (fun s _ => sg_X11_store_11 s _ _ _ ⟨fun _ => rfl, fun z => absurd (show (999 : Int32) < nI 1000 by decide) z⟩)
      1000 0 σ rfl ⟨fun _ _ _ => rfl, z53⟩
    rw [n_fv_lt 1000 0 (by omega)] at g2
    have q2 : MQ2 σ σ2 := ⟨fun q _ h1 h2 _ _ => t2 q h1 h2, by rw [t2 51 (by decide) (by decide)], z2⟩
    refine FQ.look hI (.int (if W + 1 < 0 + 1000 then nI (W + 1) else -4)) ?_ ?_ XQ.rf q2
    · refine sg_X10_store_0 σ _ _ ?_
      refine ⟨_, σ, ev_X10_isBetween σ _ _ _, ?_⟩
      rw [show f_X10_isBetween σ (nI n) (0 : Int32) (60 : Int32) = 1 from bt_t σ (a := 0) (m := 60) ⟨by omega, by omega⟩ (by decide)]
      first | refine g1a ?_ | refine g1b ?_ | refine g0a ?_ | refine g0b ?_
      refine g1 _ (sg_X10_store_16 σ _ _ _ _ ⟨fun _ => ?_, fun z => absurd (nI_lt (by omega) (by omega)) z⟩)
      rw [nI_1]
      refine ⟨fun q => ?_, fun q => ?_⟩
      · rw [if_neg (fun l => absurd q (nI_nlt (a := 999) (by omega) (by decide)))]
      · rw [if_pos (by
          rcases Nat.lt_or_ge (W + 1) 1000 with l | l
          · exact l
          · exact absurd (nI_lt (a := 999) (by omega) (by omega)) q)]
    · refine sg_X11_store_0 σ _ _ ?_
      refine ⟨_, σ, ev_X11_isLate σ _, ?_⟩
      rw [show f_X11_isLate σ (nI n) = 1 from bt_t σ (a := 0) (m := 60) ⟨by omega, by omega⟩ (by decide)]
      first | refine g1a ?_ | refine g1b ?_ | refine g0a ?_ | refine g0b ?_
      exact g2
  · refine FQ.refuse hI (.int (-1)) ?_ ?_
    · refine sg_X10_store_0 σ _ _ ?_
      refine ⟨_, σ, ev_X10_isBetween σ _ _ _, ?_⟩
      rw [show f_X10_isBetween σ x1 (0 : Int32) (60 : Int32) = 0 from h1 σ]
      first | refine g1a ?_ | refine g1b ?_ | refine g0a ?_ | refine g0b ?_
      rfl
    · refine sg_X11_store_0 σ _ _ ?_
      refine ⟨_, σ, ev_X11_isLate σ _, ?_⟩
      rw [show f_X11_isLate σ x1 = 0 from h1 σ]
      first | refine g1a ?_ | refine g1b ?_ | refine g0a ?_ | refine g0b ?_
      rfl
/-- all answer, up to a place -/
def n_alp (C : Nat → Bool) : Nat → Bool
  | 0 => true
  | j + 1 => n_alp C j && C j
theorem n_alp_no {C : Nat → Bool} {j : Nat} (h : C j = false) : ∀ N, j < N → n_alp C N = false
  | N + 1, hN => by
    unfold n_alp
    by_cases e : j = N
    · subst e; rw [h, Bool.and_false]
    · rw [n_alp_no h N (by omega), Bool.false_and]
theorem mm_each {M : mm_Me} (St : Nat → mm_Sg → mm_St) (C : Nat → Bool) (N : Nat) (I : Nat → mm_Sg → Prop)
    (miss : ∀ j s, j < N → I j s → C j = false → ∃ s' i, I i s' ∧ mm_Go M (St j s) (some (.int 0), s'))
    (hit : ∀ j s, j < N → I j s → C j = true → ∃ s', I (j + 1) s' ∧ ∀ X, mm_Go M (St (j + 1) s') X → mm_Go M (St j s) X)
    (fin : ∀ s, I N s → mm_Go M (St N s) (some (.int 1), s)) :
    ∀ (d j : Nat) (s : mm_Sg), j + d = N → n_alp C j = true → I j s → ∃ s' i, mm_Go M (St j s) (some (.int (if n_alp C N = true then 1 else 0)), s') ∧ I i s'
  | 0, j, s, e, ha, h => by
    have e : j = N := e
    subst e
    rw [if_pos ha]
    exact ⟨s, j, fin s h, h⟩
  | d + 1, j, s, e, ha, h => by
    cases hp : C j with
    | false =>
      obtain ⟨s', i, h1, h2⟩ := miss j s (by omega) h hp
      rw [if_neg (by rw [n_alp_no hp N (by omega)]; decide)]
      exact ⟨s', i, h2, h1⟩
    | true =>
      obtain ⟨s', h1, h2⟩ := hit j s (by omega) h hp
      obtain ⟨s2, i, h3, h4⟩ := mm_each St C N I miss hit fin d (j + 1) s' (by omega) (by unfold n_alp; rw [ha, hp]; rfl) h1
      exact ⟨s2, i, h2 _ h3, h4⟩
theorem xW_fillDB {σ : mm_Sg} {R : Nat → Nat} (hx : xr σ 10 R) (wf : n_wf 999 R) : ∃ σ', mm_Ev mm_m_X10_fillDrunkBehind [.ref 0] σ none σ' ∧ (∀ i, i < 100 → σ' 49 i = nI (n_wishes R (i + 1))) ∧ ∀ q, q ≠ 49 → σ' q = σ q := by
  have r1 := wf.2.1
  obtain ⟨s', ⟨h1, h2⟩, g⟩ := mm_run (M := mm_m_X10_fillDrunkBehind) (α := mm_Sg) (fun j s => (4, [.ref 0, .int (nI (n_wishes R j)), .int (nI j)], [], s)) 100 (fun j s => (∀ i, i < j → s 49 i = nI (n_wishes R (i + 1))) ∧ ∀ q, q ≠ 49 → s q = σ q)
    (fun j s hj ⟨h1, h2⟩ => by
      have hxs : xr s 10 R := xr_same hx (fun q _ _ => h2 q (by omega))
      refine ⟨mm_u s 49 j (nI (n_wishes R (j + 1))), ⟨fun i hi => ?_, fun q hq => by rw [mm_u_o hq, h2 q hq]⟩, fun X hX => sg_X10_fillDrunkBehind_4 s _ _ X ⟨fun z => absurd z (nI_ge (b := 100) hj (by decide)), fun _ => ?_⟩⟩
      · by_cases e : i = j
        · subst e; rw [mm_u_kk]
        · rw [mm_u_k e]; exact h1 i (by omega)
      · rw [hxs.2.1, nI_add, nI_1]
        refine ⟨_, s, xW_thirsts hxs wf (by omega), v_in (N := 100) hj (by decide), fun σ6 e6 => ?_⟩
        rw [e6, nI_add, nI_1, nI_clamp (by omega)]
        exact hX)
    100 0 σ rfl ⟨fun i hi => absurd hi (by omega), fun _ _ => rfl⟩
  exact ⟨s', sg_X10_fillDrunkBehind_0 σ _ (g _ (sg_X10_fillDrunkBehind_4 s' _ _ _ ⟨fun _ => rfl, fun z => absurd (show (100 : Int32) ≤ nI 100 by decide) z⟩)), h1, h2⟩
/-- counted, the first, the last -/
def n_sh (P : Nat → Bool) : Nat → Nat × Int32 × Int32
  | 0 => (0, -4, -4)
  | b + 1 => if P b = true then ((n_sh P b).1 + 1, if (n_sh P b).1 = 0 then nI b else (n_sh P b).2.1, nI b) else n_sh P b
theorem n_sh_p (P : Nat → Bool) : ∀ b, b < 1000 → (n_sh P b).1 ≤ b ∧ ((n_sh P b).2.1 = -4 ↔ (n_sh P b).1 = 0)
  | 0, _ => ⟨Nat.le_refl _, by unfold n_sh; simp⟩
  | b + 1, hb => by
    obtain ⟨h1, h2⟩ := n_sh_p P b (by omega)
    unfold n_sh
    split
    · dsimp only
      refine ⟨by omega, ⟨fun q => ?_, fun q => by omega⟩⟩
      by_cases e : (n_sh P b).1 = 0
      · rw [if_pos e] at q
        have := congrArg Int32.toInt q
        rw [nI_toInt (by omega)] at this
        have e4 : (-4 : Int32).toInt = -4 := by decide
        omega
      · rw [if_neg e] at q
        exact absurd (h2.mp q) e
    · exact ⟨by omega, h2⟩
theorem row_d {d' d : Nat} (h : nI d = nI d') : d < 2 ^ 31 → d' < 2 ^ 31 → d' = d := fun a b => ((nI_eq a b).mp h).symm
theorem wr_f (σ : mm_Sg) {x o : Int32} (h : ¬ vp_in x 8) : f_X11_wrongRow σ 51 x o = -1 := by
  unfold f_X11_wrongRow
  rw [m_shf σ h]
  rfl
theorem ru_f (σ : mm_Sg) {x w : Int32} (h : ¬ vp_in x 8) : f_X10_refusalUnless σ 0 w x = -1 := by
  unfold f_X10_refusalUnless
  rw [x_shf σ h]
  rfl
theorem F_shed {σ : mm_Sg} (hI : Inv σ) (x1 x2 : Int32) : FQ mm_m_X10_shed mm_m_X11_shed [.int x1, .int x2] σ := by
  obtain ⟨⟨R, hcp⟩, hi, z53, z54, z55, hs⟩ := id hI
  obtain ⟨wf, r4, r5, r6, hx, hm⟩ := id hcp
  have h0 : σ 10 6 = nI (R 0) := hx.1
  have m0 : σ 52 0 = nI (R 0) := by rw [hm]; rfl
  have w7 := wf.1
  by_cases h1 : vp_in x1 8
  · obtain ⟨d, hd, rfl⟩ := vp_in_of h1 (by decide)
    rcases bt_c x2 0 2 (by decide) (by decide) with ⟨j2, -, hj2, rfl⟩ | h2
    · rcases row_c hs (nI d) with ⟨d', s, n, hd', ed, hro, ru, wr⟩ | ⟨v, v0, ru, wr⟩
      · have ed2 : d = d' := by
          have := row_d ed (by omega) (by omega)
          omega
        subst ed2
        have hn : n ≤ 100 := hro.2.2.2.1
        obtain ⟨C, eC⟩ : ∃ C : Nat → Nat → Bool, C = fun b i => tld (σ 64 (100 * d + i)) (lst s) (nI (b - n_wishes R (i + 1))) := ⟨_, rfl⟩
        have hC : ∀ b i, tld (σ 64 (100 * d + i)) (lst s) (nI (b - n_wishes R (i + 1))) = C b i := fun b i => by rw [eC]
        obtain ⟨P, eP⟩ : ∃ P : Nat → Bool, P = fun b => n_alp (C b) n := ⟨_, rfl⟩
        have hP : ∀ b, n_alp (C b) n = P b := fun b => by rw [eP]
        obtain ⟨S, eS⟩ : ∃ S, S = n_sh P := ⟨_, rfl⟩
        have S0 : S 0 = (0, -4, -4) := by rw [eS]; rfl
        have SP : ∀ b, b < 1000 → (S b).1 ≤ b ∧ ((S b).2.1 = -4 ↔ (S b).1 = 0) := by rw [eS]; exact n_sh_p P
        have Sf : ∀ b, P b = false → S (b + 1) = S b := fun b h => by rw [eS, n_sh, if_neg (by rw [h]; decide)]
        have St : ∀ b, P b = true → S (b + 1) = ((S b).1 + 1, if (S b).1 = 0 then nI b else (S b).2.1, nI b) := fun b h => by rw [eS, n_sh, if_pos h]
        clear eS
        obtain ⟨σ1, gf, f49, o49⟩ := xW_fillDB hx wf
        have t1 : XQ σ σ1 := fun q _ _ => o49 q (by omega)
        have ro1 := hro.xq hd t1
        have e64 : σ1 64 = σ 64 := o49 64 (by decide)
        have hb : ∀ b, b ≤ 200 → mm_Ev mm_m_X10_bagsGoAsTold [.ref 0, .int (nI b), .ref (32 + 2 * d)] σ1 (some (.int (if P b = true then 1 else 0))) σ1 := fun b hb => by
          obtain ⟨s', -, g, es⟩ := mm_each (M := mm_m_X10_bagsGoAsTold) (fun j s => (2, [.ref 0, .int (nI b), .ref (32 + 2 * d), .int (nI j)], [], s)) (C b) n (fun _ s => s = σ1)
            (fun j s hj e hp => by
              subst e
              have hw := n_wishes_le wf (j + 1)
              have td := x_tld (nI (b - n_wishes R (j + 1))) ro1 hd hj
              rw [e64, hC, hp] at td
              refine ⟨s, 0, rfl, sg_X10_bagsGoAsTold_2 s _ _ _ _ ⟨(cl_sh d hd).1, fun z => absurd (by rw [ro1.2.2.2.2.2.2.1] at z; exact z) (nI_ge hj (by omega)), fun _ => ⟨fun z => absurd z (nI_ge (b := 100) (by omega) (by decide)), fun _ => ⟨v_in (N := 100) (by omega) (by decide), ?_⟩⟩⟩⟩
              rw [nI_clamp (by omega), f49 j (by omega), n_max0 (by omega) (by omega)]
              exact ⟨_, s, td, fun z => absurd (by decide) z, fun _ => rfl⟩)
            (fun j s hj e hp => by
              subst e
              have hw := n_wishes_le wf (j + 1)
              have td := x_tld (nI (b - n_wishes R (j + 1))) ro1 hd hj
              rw [e64, hC, hp] at td
              refine ⟨s, rfl, fun X hX => sg_X10_bagsGoAsTold_2 s _ _ _ _ ⟨(cl_sh d hd).1, fun z => absurd (by rw [ro1.2.2.2.2.2.2.1] at z; exact z) (nI_ge hj (by omega)), fun _ => ⟨fun z => absurd z (nI_ge (b := 100) (by omega) (by decide)), fun _ => ⟨v_in (N := 100) (by omega) (by decide), ?_⟩⟩⟩⟩
              rw [nI_clamp (by omega), f49 j (by omega), n_max0 (by omega) (by omega), nI_1]
              exact ⟨_, s, td, fun _ => hX, fun z => absurd (show ¬ (1 : Int32) = 0 by decide) z⟩)
            (fun s e => by
              subst e
              exact sg_X10_bagsGoAsTold_2 s _ _ _ _ ⟨(cl_sh d hd).1, fun _ => rfl, fun z => absurd (by rw [ro1.2.2.2.2.2.2.1]; exact nI_le (Nat.le_refl _) (by omega)) z⟩)
            n 0 σ1 (by omega) rfl rfl
          rw [hP, es] at g
          exact sg_X10_bagsGoAsTold_0 σ1 _ _ _ g
        obtain ⟨-, -, g1⟩ := mm_run (M := mm_m_X10_shed) (α := Unit) (fun b _ => (49, [.ref 0, .int (nI d), .int (nI j2), .int 0, .int (nI (S b).1), .int (S b).2.1, .int (S b).2.2, .int (nI b)], [], σ1)) 201 (fun _ _ => True)
          (fun b _ hb2 _ => ⟨(), trivial, fun X hX => sg_X10_shed_49 σ1 _ _ _ _ _ _ _ X ⟨fun z => absurd z (nI_nlt (a := 200) (by omega) (by decide)), fun _ => ⟨v_in hd (by decide), by
            rw [nI_clamp (by omega)]
            refine ⟨_, σ1, hb b (by omega), ?_⟩
            have pp := SP b (by omega)
            cases h : P b with
            | false =>
              rw [Sf b h] at hX
              refine ⟨fun _ => by rw [nI_1]; exact hX, fun z => absurd (by decide) z⟩
            | true =>
              rw [St b h] at hX
              dsimp only at hX
              refine ⟨fun z => absurd z (show ¬ (1 : Int32) = 0 by decide), fun _ => ⟨fun z => ?_, fun z => ?_⟩⟩
              · rw [if_neg (fun e => z (pp.2.mpr e))] at hX
                rw [nI_1, nI_1]
                exact hX
              · rw [if_pos (pp.2.mp (Classical.not_not.mp z))] at hX
                rw [nI_1, nI_1]
                exact hX⟩⟩⟩)
          201 0 () (by omega) trivial
        rw [S0] at g1
        have hm1 : σ1 52 = ra R := by rw [o49 52 (by decide)]; exact hm
        have hs2 : ∀ b, b ≤ 200 → ∀ s0 : mm_Sg, mTh σ1 s0 ∧ z40 s0 53 → ∃ s1 : mm_Sg, (mTh σ1 s1 ∧ z40 s1 53) ∧ mm_Ev mm_m_X11_isShedSo [.ref 51, .int (nI d), .int (nI b)] s0 (some (.int (if P b = true then 1 else 0))) s1 := fun b hb s0 ⟨t, z⟩ => by
          obtain ⟨s3, g3, y3, -, t3⟩ := mW_mind (R := R) (by rw [t 52 (by decide) (by decide)]; exact hm1) wf z
          have wb := n_wf_bags wf (show b ≤ 999 by omega)
          obtain ⟨s', i', g, y', t'⟩ := mm_each (M := mm_m_X11_isShedSo) (fun j s => (20, [.ref 51, .int (nI d), .int (nI b), .int (nI j)], [], s)) (C b) n (fun j s => s 53 = ra (n_days j (nup R 2 b)) ∧ mTh σ1 s)
            (fun j s hj ⟨y, t⟩ hp => by
              obtain ⟨s4, g4, y4, t4⟩ := mW_dayMind y (n_wf_days wb j) (by omega)
              have y4 : s4 53 = ra (n_days (j + 1) (nup R 2 b)) := y4
              have ro := (ro1.mth hd t).mth hd t4
              have td := m_tld (nI (b - n_wishes R (j + 1))) ro hd hj
              rw [t4 64 (by decide) (by decide), t 64 (by decide) (by decide), e64, hC, hp] at td
              refine ⟨s4, j + 1, ⟨y4, t.trans t4⟩, sg_X11_isShedSo_20 s _ _ _ _ ⟨v_in (N := 8) hd (by decide), fun z => absurd (by rw [nI_clamp (by omega), (ro1.mth hd t).2.2.2.2.2.2.2.1] at z; exact z) (nI_ge hj (by omega)), fun _ => ⟨s4, g4, ?_⟩⟩⟩
              rw [y4, ra_at, n_bagged wf r4 r5 (by omega)]
              exact ⟨_, s4, td, fun z => absurd (by decide) z, fun _ => rfl⟩)
            (fun j s hj ⟨y, t⟩ hp => by
              obtain ⟨s4, g4, y4, t4⟩ := mW_dayMind y (n_wf_days wb j) (by omega)
              have y4 : s4 53 = ra (n_days (j + 1) (nup R 2 b)) := y4
              have ro := (ro1.mth hd t).mth hd t4
              have td := m_tld (nI (b - n_wishes R (j + 1))) ro hd hj
              rw [t4 64 (by decide) (by decide), t 64 (by decide) (by decide), e64, hC, hp] at td
              refine ⟨s4, ⟨y4, t.trans t4⟩, fun X hX => sg_X11_isShedSo_20 s _ _ _ _ ⟨v_in (N := 8) hd (by decide), fun z => absurd (by rw [nI_clamp (by omega), (ro1.mth hd t).2.2.2.2.2.2.2.1] at z; exact z) (nI_ge hj (by omega)), fun _ => ⟨s4, g4, ?_⟩⟩⟩
              rw [y4, ra_at, n_bagged wf r4 r5 (by omega), nI_1]
              exact ⟨_, s4, td, fun _ => hX, fun z => absurd (show ¬ (1 : Int32) = 0 by decide) z⟩)
            (fun s ⟨y, t⟩ => sg_X11_isShedSo_20 s _ _ _ _ ⟨v_in (N := 8) hd (by decide), fun _ => rfl, fun z => absurd (by rw [nI_clamp (by omega), (ro1.mth hd t).2.2.2.2.2.2.2.1]; exact nI_le (Nat.le_refl _) (by omega)) z⟩)
            n 0 (mm_u s3 53 2 (nI b)) (by omega) rfl ⟨by rw [mm_u_s, y3, ← ra_up]; rfl, (t.trans t3).trans mth_u⟩
          rw [hP] at g
          exact ⟨s', ⟨t', fun i hi => by rw [y', ra_at, (n_wf_days wb i').2.2.2.2.2.2.2.2.2 i hi]; rfl⟩, sg_X11_isShedSo_0 s0 _ _ _ ⟨s3, g3, fun σ3 e3 => by rw [e3]; exact g⟩⟩
        obtain ⟨σ2, ⟨t2, z2⟩, g2⟩ := mm_run (M := mm_m_X11_shed) (α := mm_Sg) (fun b s => (38, [.ref 51, .int (nI d), .int (nI j2), .int 0, .int (nI (S b).1), .int (S b).2.1, .int (S b).2.2, .int (nI b)], [], s)) 201 (fun _ s => mTh σ1 s ∧ z40 s 53)
          (fun b s0 hb2 q0 => by
            obtain ⟨s1, q1, g⟩ := hs2 b (by omega) s0 q0
            refine ⟨s1, q1, fun X hX => sg_X11_shed_38 s0 _ _ _ _ _ _ _ X ⟨fun z => absurd z (nI_nlt (a := 200) (by omega) (by decide)), fun _ => ⟨_, s1, g, ?_⟩⟩⟩
            have pp := SP b (by omega)
            cases h : P b with
            | false =>
              rw [Sf b h] at hX
              refine ⟨fun z => absurd (by decide) z, fun _ => by rw [nI_1]; exact hX⟩
            | true =>
              rw [St b h] at hX
              dsimp only at hX
              refine ⟨fun _ => ⟨fun z => ?_, fun z => ?_⟩, fun z => absurd (show ¬ (1 : Int32) = 0 by decide) z⟩
              · rw [if_neg (fun e => z (by rw [e]; rfl))] at hX
                rw [nI_1, nI_1]
                exact hX
              · have z := Classical.not_not.mp z
                rw [← nI_0, nI_eq (by omega) (by omega)] at z
                rw [if_pos z] at hX
                rw [nI_1, nI_1]
                exact hX)
          201 0 σ1 rfl ⟨fun _ _ _ => rfl, fun i hi => by rw [o49 53 (by decide)]; exact z53 i hi⟩
        rw [S0] at g2
        have q2 : MQ2 σ1 σ2 := ⟨fun q _ h1 h2 _ _ => t2 q h1 h2, by rw [t2 51 (by decide) (by decide)], z2⟩
        have wr1 : f_X11_wrongRow σ1 51 (nI d) (-1) = 0 := by
          rw [← wr]
          unfold f_X11_wrongRow
          rw [o49 59 (by decide), o49 62 (by decide)]
          rfl
        refine FQ.look hI (.int (if j2 = 0 then nI (S 201).1 else if j2 = 1 then (S 201).2.1 else (S 201).2.2)) ?_ ?_ t1 q2
        · refine sg_X10_shed_0 σ _ _ _ ?_
          refine ⟨_, σ, ev_X10_isShelf σ _, ?_⟩
          rw [x_sh σ hd]
          first | refine g1a ?_ | refine g1b ?_ | refine g0a ?_ | refine g0b ?_
          refine ⟨_, σ, ev_X10_isBetween σ _ _ _, ?_⟩
          rw [show f_X10_isBetween σ (nI j2) (0 : Int32) (2 : Int32) = 1 from bt_t σ (a := 0) (m := 2) ⟨by omega, by omega⟩ (by decide)]
          first | refine g1a ?_ | refine g1b ?_ | refine g0a ?_ | refine g0b ?_
          refine ⟨_, σ, ev_RU σ _ _, ?_⟩
          rw [ru]
          first | refine g1a ?_ | refine g1b ?_ | refine g0a ?_ | refine g0b ?_
          refine ⟨σ1, gf, ?_⟩
          refine g1 _ (sg_X10_shed_49 σ1 _ _ _ _ _ _ _ _ ⟨fun _ => ?_, fun z => absurd (show (200 : Int32) < nI 201 by decide) z⟩)
          rcases (show j2 = 0 ∨ j2 = 1 ∨ j2 = 2 by omega) with rfl | rfl | rfl
          · exact g0b rfl
          · exact ⟨fun _ => ⟨fun z => absurd rfl z, fun _ => rfl⟩, fun z => absurd (by decide) z⟩
          · exact ⟨fun _ => ⟨fun _ => rfl, fun z => absurd (by decide) z⟩, fun z => absurd (by decide) z⟩
        · refine sg_X11_shed_0 σ1 _ _ _ ?_
          refine ⟨_, σ1, ev_X11_isIn σ1 _ _ _, ?_⟩
          rw [show f_X11_isIn σ1 (nI j2) (0 : Int32) (2 : Int32) = 1 from bt_t σ1 (a := 0) (m := 2) ⟨by omega, by omega⟩ (by decide)]
          first | refine g1a ?_ | refine g1b ?_ | refine g0a ?_ | refine g0b ?_
          refine ⟨_, σ1, ev_WR σ1 _ _, ?_⟩
          rw [wr1]
          first | refine g1a ?_ | refine g1b ?_ | refine g0a ?_ | refine g0b ?_
          refine g2 _ (sg_X11_shed_38 σ2 _ _ _ _ _ _ _ _ ⟨fun _ => ?_, fun z => absurd (show (200 : Int32) < nI 201 by decide) z⟩)
          rcases (show j2 = 0 ∨ j2 = 1 ∨ j2 = 2 by omega) with rfl | rfl | rfl
          · exact g0b rfl
          · exact ⟨fun _ => ⟨fun z => absurd rfl z, fun _ => rfl⟩, fun z => absurd (by decide) z⟩
          · exact ⟨fun _ => ⟨fun _ => rfl, fun z => absurd (by decide) z⟩, fun z => absurd (by decide) z⟩
      · refine FQ.refuse hI (.int v) ?_ ?_
        · refine sg_X10_shed_0 σ _ _ _ ?_
          refine ⟨_, σ, ev_X10_isShelf σ _, ?_⟩
          rw [x_sh σ hd]
          first | refine g1a ?_ | refine g1b ?_ | refine g0a ?_ | refine g0b ?_
          refine ⟨_, σ, ev_X10_isBetween σ _ _ _, ?_⟩
          rw [show f_X10_isBetween σ (nI j2) (0 : Int32) (2 : Int32) = 1 from bt_t σ (a := 0) (m := 2) ⟨by omega, by omega⟩ (by decide)]
          first | refine g1a ?_ | refine g1b ?_ | refine g0a ?_ | refine g0b ?_
          refine ⟨_, σ, ev_RU σ _ _, ?_⟩
          rw [ru]
          refine ⟨fun z => absurd z v0, fun _ => ?_⟩
          rfl
        · refine sg_X11_shed_0 σ _ _ _ ?_
          refine ⟨_, σ, ev_X11_isIn σ _ _ _, ?_⟩
          rw [show f_X11_isIn σ (nI j2) (0 : Int32) (2 : Int32) = 1 from bt_t σ (a := 0) (m := 2) ⟨by omega, by omega⟩ (by decide)]
          first | refine g1a ?_ | refine g1b ?_ | refine g0a ?_ | refine g0b ?_
          refine ⟨_, σ, ev_WR σ _ _, ?_⟩
          rw [wr]
          refine ⟨fun z => absurd z v0, fun _ => ?_⟩
          rfl
    · refine FQ.refuse hI (.int (-1)) ?_ ?_
      · refine sg_X10_shed_0 σ _ _ _ ?_
        refine ⟨_, σ, ev_X10_isShelf σ _, ?_⟩
        rw [x_sh σ hd]
        first | refine g1a ?_ | refine g1b ?_ | refine g0a ?_ | refine g0b ?_
        refine ⟨_, σ, ev_X10_isBetween σ _ _ _, ?_⟩
        rw [show f_X10_isBetween σ x2 (0 : Int32) (2 : Int32) = 0 from h2 σ]
        first | refine g1a ?_ | refine g1b ?_ | refine g0a ?_ | refine g0b ?_
        rfl
      · refine sg_X11_shed_0 σ _ _ _ ?_
        refine ⟨_, σ, ev_X11_isIn σ _ _ _, ?_⟩
        rw [show f_X11_isIn σ x2 (0 : Int32) (2 : Int32) = 0 from h2 σ]
        first | refine g1a ?_ | refine g1b ?_ | refine g0a ?_ | refine g0b ?_
        rfl
  · refine FQ.refuse hI (.int (-1)) ?_ ?_
    · refine sg_X10_shed_0 σ _ _ _ ?_
      refine ⟨_, σ, ev_X10_isShelf σ _, ?_⟩
      rw [x_shf σ h1]
      first | refine g1a ?_ | refine g1b ?_ | refine g0a ?_ | refine g0b ?_
      rfl
    · refine sg_X11_shed_0 σ _ _ _ ?_
      rcases bt_c x2 0 2 (by decide) (by decide) with ⟨j2, -, hj2, rfl⟩ | h2
      · refine ⟨_, σ, ev_X11_isIn σ _ _ _, ?_⟩
        rw [show f_X11_isIn σ (nI j2) (0 : Int32) (2 : Int32) = 1 from bt_t σ (a := 0) (m := 2) ⟨by omega, by omega⟩ (by decide)]
        first | refine g1a ?_ | refine g1b ?_ | refine g0a ?_ | refine g0b ?_
        refine ⟨_, σ, ev_WR σ _ _, ?_⟩
        rw [wr_f σ h1]
        exact ⟨fun z => absurd z (by decide), fun _ => rfl⟩
      · refine ⟨_, σ, ev_X11_isIn σ _ _ _, ?_⟩
        rw [show f_X11_isIn σ x2 (0 : Int32) (2 : Int32) = 0 from h2 σ]
        first | refine g1a ?_ | refine g1b ?_ | refine g0a ?_ | refine g0b ?_
        rfl
