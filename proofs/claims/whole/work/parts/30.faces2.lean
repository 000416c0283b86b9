/-! the face: firstAsleep, out -/
def n_find (P : Nat → Bool) : Nat → Nat → Option Nat
  | 0, _ => none
  | m + 1, j => if P j = true then some j else n_find P m (j + 1)
def n_fv (P : Nat → Bool) (d j : Nat) (vN : Int32) : Int32 := match n_find P d j with
  | some i => nI i
  | none => vN
theorem n_fv_last (P : Nat → Bool) (z : Int32) : ∀ (d j : Nat), n_fv P d j (if P (j + d) = true then nI (j + d) else z) = n_fv P (d + 1) j z
  | 0, j => by
    show (if P (j + 0) = true then nI (j + 0) else z) = n_fv P 1 j z
    unfold n_fv n_find n_find
    rw [Nat.add_zero]
    by_cases h : P j = true
    · rw [if_pos h, if_pos h]
    · rw [if_neg h, if_neg h]
  | d + 1, j => by
    have ih := n_fv_last P z d (j + 1)
    rw [show j + (d + 1) = j + 1 + d by omega]
    unfold n_fv n_find
    by_cases h : P j = true
    · rw [if_pos h, if_pos h]
    · rw [if_neg h, if_neg h]
      exact ih
theorem mm_find {M : mm_Me} (St : Nat → mm_Sg → mm_St) (P : Nat → Bool) (N : Nat) (vN : Int32) (I : Nat → mm_Sg → Prop)
    (hit : ∀ j s, j < N → I j s → P j = true → mm_Go M (St j s) (some (.int (nI j)), s))
    (miss : ∀ j s, j < N → I j s → P j = false → ∃ s', I (j + 1) s' ∧ ∀ X, mm_Go M (St (j + 1) s') X → mm_Go M (St j s) X)
    (fin : ∀ s, I N s → mm_Go M (St N s) (some (.int vN), s)) :
    ∀ (d j : Nat) (s : mm_Sg), j + d = N → I j s → ∃ s' i, mm_Go M (St j s) (some (.int (n_fv P d j vN)), s') ∧ I i s'
  | 0, j, s, e, h => by
    have e : j = N := e
    subst e
    exact ⟨s, j, fin s h, h⟩
  | d + 1, j, s, e, h => by
    unfold n_fv n_find
    cases hp : P j with
    | true =>
      rw [if_pos rfl]
      exact ⟨s, j, hit j s (by omega) h hp, h⟩
    | false =>
      rw [if_neg (by simp)]
      obtain ⟨s', h1, h2⟩ := miss j s (by omega) h hp
      obtain ⟨s2, i, h3, h4⟩ := mm_find St P N vN I hit miss fin d (j + 1) s' (by omega) h1
      exact ⟨s2, i, h2 _ h3, h4⟩
theorem mTh.trans {σ s1 s2 : mm_Sg} (h1 : mTh σ s1) (h2 : mTh s1 s2) : mTh σ s2 := fun q a b => by rw [h2 q a b, h1 q a b]
theorem xTh.trans {σ s1 s2 : mm_Sg} (h1 : xTh σ s1) (h2 : xTh s1 s2) : xTh σ s2 := fun q a => by rw [h2 q a, h1 q a]
/-- the camp in mind made like now's; the Model's row 53 likewise -/
theorem xW_mind {σ : mm_Sg} {R : Nat → Nat} (h : cpv σ 10 52 R) : ∃ σ', mm_Ev mm_m_X1_becomeLike [.ref 24, .ref 10] σ none σ' ∧ xr σ' 24 R ∧ (∀ k, k < 7 → σ' 30 k = 0) ∧ xTh σ σ' := by
  obtain ⟨s1, g1, x1, d1, o1⟩ := xW_like (c := 24) (d := 10) (Or.inr (Or.inr rfl)) (Or.inl rfl) (by decide) h.2.2.2.2.1 h.2.1 h.2.2.1 h.2.2.2.1
  exact ⟨s1, g1, x1, d1, fun q hq => o1 q (by omega)⟩
theorem mW_mind {σ : mm_Sg} {R : Nat → Nat} {D : Nat} (hR : σ 52 = ra R) (hwf : n_wf D R) (z53 : z40 σ 53) : ∃ σ', mm_Ev mm_m_X11_copies [.ref 52, .ref 53] σ none σ' ∧ σ' 53 = ra R ∧ σ' 56 = σ 56 ∧ mTh σ σ' := by
  have z52 : z40 σ 52 := fun i hi => by rw [hR, ra_at, hwf.2.2.2.2.2.2.2.2.2 i hi]; rfl
  obtain ⟨s1, g1, h1, h2⟩ := mW_copies (a := 52) (b := 53) rfl rfl (by decide) z52 z53
  exact ⟨s1, g1, h1.trans hR, h2 56 (by decide), fun q q1 _ => h2 q q1⟩
theorem xW_goMind {σ : mm_Sg} {D n : Nat} {R : Nat → Nat} (hR : xr σ 24 R) (hwf : n_wf D R) (hD : D + n < 2 ^ 19) : ∃ σ', mm_Ev mm_m_X1_goDays [.ref 24, .int (nI n)] σ none σ' ∧ xr σ' 24 (n_days n R) ∧ (∀ k, σ' 30 k = σ 30 k + nI (n_cds n R k)) ∧ xTh σ σ' := by
  obtain ⟨s2, g2, x2, d2, o2⟩ := xW_days (n := n) (Or.inr (Or.inr rfl)) hR hwf hD
  exact ⟨s2, g2, x2, d2, fun q hq => o2 q (by omega) (by omega) (by omega) (by omega)⟩
theorem mW_dayMind {σ : mm_Sg} {D : Nat} {R : Nat → Nat} (hR : σ 53 = ra R) (hwf : n_wf D R) (hD : D < 2 ^ 19) : ∃ σ', mm_Ev mm_m_X11_day [.ref 51, .ref 53] σ none σ' ∧ σ' 53 = ra (n_day R) ∧ mTh σ σ' := by
  obtain ⟨s1, g1, h1, -, h3⟩ := mW_day (a := 53) rfl (by decide) hR hwf hD
  exact ⟨s1, g1, h1, fun q q1 q2 => h3 q q1 q2⟩
theorem mW_daysMind {σ : mm_Sg} {D n : Nat} {R : Nat → Nat} (hR : σ 53 = ra R) (hwf : n_wf D R) (hD : D + n < 2 ^ 19) : ∃ σ', mm_Ev mm_m_X11_daysOn [.ref 51, .ref 53, .int (nI n)] σ none σ' ∧ σ' 53 = ra (n_days n R) ∧ (∀ k, σ' 56 k = σ 56 k + nI (n_cds n R k)) ∧ mTh σ σ' := by
  obtain ⟨s1, g1, h1, h2, h3⟩ := mW_days (a := 53) (n := n) rfl (by decide) hR hwf hD
  exact ⟨s1, g1, h1, h2, fun q q1 q2 => h3 q q1 q2⟩
theorem z53_think {σ σ1 : mm_Sg} (z : z40 σ 53) (t : xTh σ σ1) : z40 σ1 53 := fun i hi => by rw [t 53 (by omega)]; exact z i hi
theorem F_firstAsleep {σ : mm_Sg} (hI : Inv σ) (x1 : Int32) : FQ mm_m_X10_firstAsleep mm_m_X11_firstAsleep [.int x1] σ := by
  obtain ⟨⟨R, hcp⟩, -, z53, -⟩ := id hI
  obtain ⟨wf, r4, r5, r6, hx, hm⟩ := id hcp
  by_cases h1 : vp_in x1 5
  · obtain ⟨w, hw, rfl⟩ := vp_in_of h1 (by decide)
    obtain ⟨P, eP⟩ : ∃ P : Nat → Bool, P = fun n => !(n_aw (n_days n R) w) := ⟨_, rfl⟩
    obtain ⟨s0, g0, y0, -, t0⟩ := xW_mind hcp
    have aw : ∀ j, (if n_aw (n_days j R) w = true then (1 : Int32) else 0) = if P j = true then 0 else 1 := fun j => by
      rw [show P j = !(n_aw (n_days j R) w) by rw [eP]]
      cases n_aw (n_days j R) w <;> rfl
    obtain ⟨σ1, i1, g1, y1, t1⟩ := mm_find (M := mm_m_X10_firstAsleep) (fun j s => (22, [.ref 0, .int (nI w), .int (nI j)], [], s)) P 60 (if P (0 + 60) = true then nI (0 + 60) else (-4 : Int32)) (fun j s => xr s 24 (n_days j R) ∧ xTh σ s)
      (fun j s hj ⟨y, t⟩ hp => by
        refine sg_X10_firstAsleep_22 s _ _ _ ⟨fun z => absurd z (nI_ge (b := 60) hj (by decide)), fun _ => ⟨_, s, ev_X1_isAwake s 24 _ (fun _ => rfl), ?_⟩⟩
        rw [x_isAw s y.2.2.2.1 (n_wf_days wf j).2.2.2.1 (Or.inl hw), aw, hp, if_pos rfl]
        exact g0b rfl)
      (fun j s hj ⟨y, t⟩ hp => by
        obtain ⟨s', g', y', -, t'⟩ := xW_goMind (n := 1) y (n_wf_days wf j) (by omega)
        refine ⟨s', ⟨y', t.trans t'⟩, fun X hX => sg_X10_firstAsleep_22 s _ _ X ⟨fun z => absurd z (nI_ge (b := 60) hj (by decide)), fun _ => ⟨_, s, ev_X1_isAwake s 24 _ (fun _ => rfl), ?_⟩⟩⟩
        rw [x_isAw s y.2.2.2.1 (n_wf_days wf j).2.2.2.1 (Or.inl hw), aw, hp, if_neg (by simp), nI_1]
        exact g1b ⟨s', g', hX⟩)
      (fun s ⟨y, t⟩ => by
        refine sg_X10_firstAsleep_22 s _ _ _ ⟨fun _ => ⟨_, s, ev_X1_isAwake s 24 _ (fun _ => rfl), ?_⟩, fun z => absurd (show (60 : Int32) ≤ nI 60 by decide) z⟩
        rw [x_isAw s y.2.2.2.1 (n_wf_days wf 60).2.2.2.1 (Or.inl hw), aw]
        cases hp : P 60 with
        | true => rw [if_pos rfl]; exact g0a rfl
        | false => rw [if_neg (by simp)]; exact g1a rfl)
      60 0 s0 rfl ⟨y0, t0⟩
    rw [n_fv_last P (-4) 60 0] at g1
    have m1 : σ1 52 = ra R := by rw [t1 52 (by omega)]; exact hm
    obtain ⟨s2, g2, y2, -, t2⟩ := mW_mind m1 wf (z53_think z53 t1)
    obtain ⟨σ2, i2, g3, y3, t3⟩ := mm_find (M := mm_m_X11_firstAsleep) (fun j s => (22, [.ref 51, .int (nI w), .int (nI j)], [], s)) P 61 (-4 : Int32) (fun j s => s 53 = ra (n_days j R) ∧ mTh σ1 s)
      (fun j s hj ⟨y, t⟩ hp => by
        refine sg_X11_firstAsleep_22 s _ _ _ ⟨fun z => absurd z (nI_nlt (a := 60) (by omega) (by decide)), fun _ => ⟨_, s, ev_X11_isAwake s 53 _ (fun _ => by unfold vp_in; decide), ?_⟩⟩
        rw [n_isAw s (q := 53) (R := n_days j R) (by rw [y]; rfl) (n_wf_days wf j).2.2.2.1 (Or.inl hw), aw, hp, if_pos rfl]
        exact g0b rfl)
      (fun j s hj ⟨y, t⟩ hp => by
        obtain ⟨s', g', y', t'⟩ := mW_dayMind y (n_wf_days wf j) (by omega)
        refine ⟨s', ⟨y', t.trans t'⟩, fun X hX => sg_X11_firstAsleep_22 s _ _ X ⟨fun z => absurd z (nI_nlt (a := 60) (by omega) (by decide)), fun _ => ⟨_, s, ev_X11_isAwake s 53 _ (fun _ => by unfold vp_in; decide), ?_⟩⟩⟩
        rw [n_isAw s (q := 53) (R := n_days j R) (by rw [y]; rfl) (n_wf_days wf j).2.2.2.1 (Or.inl hw), aw, hp, if_neg (by simp), nI_1]
        exact g1b ⟨s', g', hX⟩)
      (fun s _ => sg_X11_firstAsleep_22 s _ _ _ ⟨fun _ => rfl, fun z => absurd (show (60 : Int32) < nI 61 by decide) z⟩)
      61 0 s2 rfl ⟨y2, t2⟩
    refine FQ.look hI (.int (n_fv P 61 0 (-4))) ?_ ?_ (XQ.think t1) (MQ2.think t3 y3 (n_wf_days wf i2))
    · refine sg_X10_firstAsleep_0 σ _ _ ?_
      refine ⟨_, σ, ev_X10_isWaker σ _, ?_⟩
      rw [x_wk σ hw]
      first | refine g1a ?_ | refine g1b ?_ | refine g0a ?_ | refine g0b ?_
      exact ⟨s0, g0, g1⟩
    · refine sg_X11_firstAsleep_0 σ1 _ _ ?_
      refine ⟨_, σ1, ev_X11_isWaker σ1 _, ?_⟩
      rw [m_wk σ1 hw]
      first | refine g1a ?_ | refine g1b ?_ | refine g0a ?_ | refine g0b ?_
      exact ⟨s2, g2, g3⟩
  · refine FQ.refuse hI (.int (-1)) ?_ ?_
    · refine sg_X10_firstAsleep_0 σ _ _ ?_
      refine ⟨_, σ, ev_X10_isWaker σ _, ?_⟩
      rw [x_wkf σ h1]
      first | refine g1a ?_ | refine g1b ?_ | refine g0a ?_ | refine g0b ?_
      rfl
    · refine sg_X11_firstAsleep_0 σ _ _ ?_
      refine ⟨_, σ, ev_X11_isWaker σ _, ?_⟩
      rw [m_wkf σ h1]
      first | refine g1a ?_ | refine g1b ?_ | refine g0a ?_ | refine g0b ?_
      rfl
theorem F_out {σ : mm_Sg} (hI : Inv σ) : FQ mm_m_X10_out mm_m_X11_out [] σ := by
  obtain ⟨⟨R, hcp⟩, -, z53, -⟩ := id hI
  obtain ⟨wf, r4, r5, r6, hx, hm⟩ := id hcp
  obtain ⟨P, eP⟩ : ∃ P : Nat → Bool, P = fun n => decide (n_days n R 2 = 0) := ⟨_, rfl⟩
  obtain ⟨s0, g0, y0, -, t0⟩ := xW_mind hcp
  have b0 : ∀ j, nI (n_days j R 2) = (0 : Int32) ↔ P j = true := fun j => by
    have := (n_wf_days wf j).2.2.1
    rw [eP, ← nI_0, nI_eq (by omega) (by omega)]
    simp
  obtain ⟨σ1, i1, g1, y1, t1⟩ := mm_find (M := mm_m_X10_out) (fun j s => (13, [.ref 0, .int (nI j)], [], s)) P 60 (if P (0 + 60) = true then nI (0 + 60) else (-4 : Int32)) (fun j s => xr s 24 (n_days j R) ∧ xTh σ s)
    (fun j s hj ⟨y, t⟩ hp => by
      refine sg_X10_out_13 s _ _ ⟨fun z => absurd z (nI_ge (b := 60) hj (by decide)), fun _ => ?_⟩
      rw [y.2.2.1, b0, hp]
      exact ⟨fun z => absurd rfl z, fun _ => rfl⟩)
    (fun j s hj ⟨y, t⟩ hp => by
      obtain ⟨s', g', y', -, t'⟩ := xW_goMind (n := 1) y (n_wf_days wf j) (by omega)
      refine ⟨s', ⟨y', t.trans t'⟩, fun X hX => sg_X10_out_13 s _ X ⟨fun z => absurd z (nI_ge (b := 60) hj (by decide)), fun _ => ?_⟩⟩
      rw [y.2.2.1, b0, hp, nI_1]
      exact ⟨fun _ => ⟨s', g', hX⟩, fun z => absurd (by simp) z⟩)
    (fun s ⟨y, t⟩ => by
      refine sg_X10_out_13 s _ _ ⟨fun _ => ?_, fun z => absurd (show (60 : Int32) ≤ nI 60 by decide) z⟩
      rw [y.2.2.1, b0]
      cases hp : P 60 with
      | true => exact ⟨fun z => absurd rfl z, fun _ => rfl⟩
      | false => exact ⟨fun _ => rfl, fun z => absurd (by simp) z⟩)
    60 0 s0 rfl ⟨y0, t0⟩
  rw [n_fv_last P (-4) 60 0] at g1
  have m1 : σ1 52 = ra R := by rw [t1 52 (by omega)]; exact hm
  obtain ⟨s2, g2, y2, -, t2⟩ := mW_mind m1 wf (z53_think z53 t1)
  obtain ⟨σ2, i2, g3, y3, t3⟩ := mm_find (M := mm_m_X11_out) (fun j s => (13, [.ref 51, .int (nI j)], [], s)) P 61 (-4 : Int32) (fun j s => s 53 = ra (n_days j R) ∧ mTh σ1 s)
    (fun j s hj ⟨y, t⟩ hp => by
      refine sg_X11_out_13 s _ _ ⟨fun z => absurd z (nI_nlt (a := 60) (by omega) (by decide)), fun _ => ?_⟩
      rw [y, ra_at, b0, hp]
      exact ⟨fun z => absurd rfl z, fun _ => rfl⟩)
    (fun j s hj ⟨y, t⟩ hp => by
      obtain ⟨s', g', y', t'⟩ := mW_dayMind y (n_wf_days wf j) (by omega)
      refine ⟨s', ⟨y', t.trans t'⟩, fun X hX => sg_X11_out_13 s _ X ⟨fun z => absurd z (nI_nlt (a := 60) (by omega) (by decide)), fun _ => ?_⟩⟩
      rw [y, ra_at, b0, hp, nI_1]
      exact ⟨fun _ => ⟨s', g', hX⟩, fun z => absurd (by simp) z⟩)
    (fun s _ => sg_X11_out_13 s _ _ ⟨fun _ => rfl, fun z => absurd (show (60 : Int32) < nI 61 by decide) z⟩)
    61 0 s2 rfl ⟨y2, t2⟩
  exact FQ.look hI (.int (n_fv P 61 0 (-4))) (sg_X10_out_0 σ _ ⟨s0, g0, g1⟩) (sg_X11_out_0 σ1 _ ⟨s2, g2, g3⟩) (XQ.think t1) (MQ2.think t3 y3 (n_wf_days wf i2))
