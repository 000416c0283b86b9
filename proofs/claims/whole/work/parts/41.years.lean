/-! the face: years -/
def n_nx (s : Int32) : Int32 := (s * (1103515245 : Int32)) + (12345 : Int32)
def n_sd (z : Int32) : Nat → Int32
  | 0 => z
  | k + 1 => n_nx (n_sd z k)
def n_dn (s : Int32) : Nat := s.toBitVec.toNat % 2 ^ 31 / 65536 % 5
theorem n_dn5 (s : Int32) : n_dn s < 5 := Nat.mod_lt _ (by decide)
theorem n_dn_e (s : Int32) : ((s &&& (2147483647 : Int32)) / (65536 : Int32)) - ((s &&& (2147483647 : Int32)) / (65536 : Int32)) / (5 : Int32) * (5 : Int32) = nI (n_dn s) := by
  rw [pk_and s (m := 2147483647) 31 (by decide)]
  have h : s.toBitVec.toNat % 2 ^ 31 < 2 ^ 31 := Nat.mod_lt _ (by decide)
  have e1 : nI (s.toBitVec.toNat % 2 ^ 31) / (65536 : Int32) = nI (s.toBitVec.toNat % 2 ^ 31 / 65536) := pk_div (d := 65536) h (by decide) (by decide)
  rw [e1]
  exact pk_rem (d := 5) (by omega) (by decide) (by decide)
/-- a year's WAKERS drawn, from a seed on -/
def n_yr (R : Nat → Nat) (z : Int32) : Nat → (Nat → Nat)
  | 0 => R
  | k + 1 => nup (n_yr R z k) (9 + 4 * k) (n_dn (n_sd z (k + 1)))
theorem n_yr0 (R : Nat → Nat) (z : Int32) : ∀ k, n_yr R z k 0 = R 0
  | 0 => rfl
  | k + 1 => by
    unfold n_yr
    rw [nup_o _ (by omega)]
    exact n_yr0 R z k
theorem n_wf_yr {D : Nat} {R : Nat → Nat} (wf : n_wf D R) (z : Int32) : ∀ k, k ≤ 7 → n_wf D (n_yr R z k)
  | 0, _ => wf
  | k + 1, h => n_wf_waker (n_wf_yr wf z k (by omega)) (by omega) (Or.inl (n_dn5 _))
theorem n_sd_add (z : Int32) (a : Nat) : ∀ k, n_sd (n_sd z a) k = n_sd z (a + k)
  | 0 => rfl
  | k + 1 => by
    unfold n_sd
    rw [n_sd_add z a k]
    rfl
/-- the year of a number -/
def n_ye (R : Nat → Nat) (z : Int32) (y : Nat) : Nat → Nat := n_days 12 (n_yr R (n_sd z (R 0 * y)) (R 0))
theorem n_wf_ye {R : Nat → Nat} (wf : n_wf 999 R) (z : Int32) (y : Nat) : n_wf 1011 (n_ye R z y) := n_wf_days (n_wf_yr wf _ _ wf.1) 12
theorem mW_drawn (σ : mm_Sg) : mm_Ev mm_m_X11_drawn [.ref 51, .int 5] σ (some (.int (nI (n_dn (n_nx (σ 51 11)))))) (mm_u σ 51 11 (n_nx (σ 51 11))) := by
  refine sg_X11_drawn_0 σ _ _ (fun σ1 e1 => ⟨by decide, ?_⟩)
  have e1 : σ1 = mm_u σ 51 11 (n_nx (σ 51 11)) := e1
  rw [e1, mm_u_kk, n_dn_e]
theorem xW_draw (σ : mm_Sg) (s : Int32) : mm_Ev mm_m_X10_drawOf [.int s, .int 5] σ (some (.int (nI (n_dn s)))) σ := by
  refine sg_X10_drawOf_0 σ _ _ _ ⟨fun z => absurd z (by decide), fun _ => ⟨by decide, ?_⟩⟩
  rw [n_dn_e]
theorem n_bits_le (a : Nat) : n_bits a ≤ 5 := by
  have := n_sum_le (f := fun k => a / 2 ^ k % 2) (B := 1) (fun k => by omega) 5
  unfold n_bits
  omega
/-- what may change when years are thought of -/
def yTh (σ σ' : mm_Sg) : Prop := (∀ q, q ≠ 51 → q ≠ 53 → q ≠ 56 → σ' q = σ q) ∧ σ' 51 5 = σ 51 5
theorem yTh.th {σ s s' : mm_Sg} (h : yTh σ s) (t : mTh s s') : yTh σ s' := ⟨fun q a b c => by rw [t q b c, h.1 q a b c], by rw [t 51 (by decide) (by decide)]; exact h.2⟩
theorem yTh.seed {σ s : mm_Sg} {x : Int32} (h : yTh σ s) : yTh σ (mm_u s 51 11 x) := ⟨fun q a b c => by rw [mm_u_o a, h.1 q a b c], by rw [mm_u_k (by decide)]; exact h.2⟩
theorem F_years {σ : mm_Sg} (hI : Inv σ) (x1 x2 x3 : Int32) : FQ mm_m_X10_years mm_m_X11_years [.int x1, .int x2, .int x3] σ := by
  obtain ⟨⟨R, hcp⟩, hi, z53, z54, z55, hs⟩ := id hI
  obtain ⟨wf, r4, r5, r6, hx, hm⟩ := id hcp
  have h0 : σ 10 6 = nI (R 0) := hx.1
  have m0 : σ 52 0 = nI (R 0) := by rw [hm]; rfl
  have w7 := wf.1
  rcases bt_c x1 1 20 (by decide) (by decide) with ⟨n, hn1, hn, rfl⟩ | h1
  · rcases bt_c x3 0 1 (by decide) (by decide) with ⟨j3, -, hj3, rfl⟩ | h3
    · obtain ⟨F, eF⟩ : ∃ F : Nat → Nat, F = fun y => n_owed (n_ye R x2 y) := ⟨_, rfl⟩
      obtain ⟨B, eB⟩ : ∃ B : Nat → Nat, B = fun y => n_bits (n_ye R x2 y 3) := ⟨_, rfl⟩
      have hF : ∀ y, n_owed (n_ye R x2 y) = F y := fun y => by rw [eF]
      have hB : ∀ y, n_bits (n_ye R x2 y 3) = B y := fun y => by rw [eB]
      obtain ⟨⟨σ1, d8⟩, t1, g1⟩ := mm_run (M := mm_m_X10_years) (α := mm_Sg × Value) (fun y s => (33, [.ref 0, .int (nI n), .int x2, .int (nI j3), .int (n_sd x2 (R 0 * y)), .int (nI (n_sum F y)), .int (nI (n_sum B y)), .int (nI y), s.2], [], s.1)) n (fun _ s => xTh σ s.1)
        (fun y s hy t => by
          obtain ⟨s, d8⟩ := s
          dsimp only at t ⊢
          obtain ⟨s0, k0, y0, -, t0⟩ := xW_mind (hcp.xth t)
          have t0 := t.trans t0
          obtain ⟨s1, ⟨y1, t1⟩, k1⟩ := mm_run (M := mm_m_X10_years) (α := mm_Sg) (fun k s => (53, [.ref 0, .int (nI n), .int x2, .int (nI j3), .int (n_sd (n_sd x2 (R 0 * y)) k), .int (nI (n_sum F y)), .int (nI (n_sum B y)), .int (nI y), .int (nI k)], [], s)) (R 0) (fun k s => xr s 24 (n_yr R (n_sd x2 (R 0 * y)) k) ∧ xTh σ s)
            (fun k s hk ⟨yy, t⟩ => by
              refine ⟨mm_u s 27 k (nI (n_dn (n_sd (n_sd x2 (R 0 * y)) (k + 1)))), ⟨xr_waker yy (by omega), t.trans (xth_u (by omega))⟩, fun X hX => sg_X10_years_53 s _ _ _ _ _ _ _ _ X ⟨fun z => absurd (by rw [yy.1, n_yr0] at z; exact z) (nI_ge hk (by omega)), fun _ => ⟨_, s, ev_X10_nextSeed s _, _, s, xW_draw s _, v_in (N := 7) (by omega) (by decide), fun σ17 e17 => ?_⟩⟩⟩
              rw [e17, nI_clamp (by omega), nI_1]
              exact hX)
            (R 0) 0 s0 (by omega) ⟨y0, t0⟩
          have wy := n_wf_yr wf (n_sd x2 (R 0 * y)) (R 0) w7
          obtain ⟨s2', k2', y2', -, t2'⟩ := xW_goMind (n := 12) y1 wy (by decide)
          have y2' : xr s2' 24 (n_ye R x2 y) := y2'
          have e2 := xW_owed (Or.inr (Or.inr rfl)) y2' (n_wf_ye wf x2 y)
          rw [hF] at e2
          refine ⟨(s2', .int (nI (R 0))), t1.trans t2', fun X hX => sg_X10_years_33 s _ _ _ _ _ _ _ d8 X ⟨fun z => absurd z (nI_ge hy (by omega)), fun _ => ⟨s0, k0, k1 X (sg_X10_years_53 s1 _ _ _ _ _ _ _ _ X ⟨fun _ => ⟨s2', k2', _, s2', e2, _, s2', ev_J6_bitCount_0f7a4 s2' _, ?_⟩, fun z => absurd (by rw [y1.1, n_yr0]; exact nI_le (Nat.le_refl _) (by omega)) z⟩)⟩⟩⟩
          have e3 : s2' 24 7 = nI (n_ye R x2 y 3) := y2'.2.2.2.1
          rw [e3, n_bc s2' (n_wf_ye wf x2 y).2.2.2.1, hB, nI_add, nI_add, nI_1, n_sd_add]
          exact hX)
        n 0 (σ, .null) (by omega) (fun _ _ => rfl)
      dsimp only at t1 g1
      have hcp1 := hcp.xth t1
      have hm1 := hcp1.2.2.2.2.2
      obtain ⟨H, eH⟩ : ∃ H : Nat → Nat, H = fun y => if j3 = 0 then F y else B y := ⟨_, rfl⟩
      obtain ⟨⟨σ2, d6⟩, ⟨t2, z2, -⟩, g2⟩ := mm_run (M := mm_m_X11_years) (α := mm_Sg × Value) (fun y s => (32, [.ref 51, .int (nI n), .int x2, .int (nI j3), .int (nI (n_sum H y)), .int (nI y), s.2], [], s.1)) n (fun y s => yTh σ1 s.1 ∧ z40 s.1 53 ∧ s.1 51 11 = n_sd x2 (R 0 * y))
        (fun y s hy ⟨t, z, sd⟩ => by
          obtain ⟨s, d6⟩ := s
          dsimp only at t z sd ⊢
          obtain ⟨s0, k0, y0, -, t0⟩ := mW_mind (R := R) (by rw [t.1 52 (by decide) (by decide) (by decide)]; exact hm1) wf z
          have sd0 : s0 51 11 = n_sd x2 (R 0 * y) := by rw [t0 51 (by decide) (by decide)]; exact sd
          have t0 := t.th t0
          obtain ⟨s1, ⟨y1, t1, sd1⟩, k1⟩ := mm_run (M := mm_m_X11_years) (α := mm_Sg) (fun k s => (52, [.ref 51, .int (nI n), .int x2, .int (nI j3), .int (nI (n_sum H y)), .int (nI y), .int (nI k)], [], s)) (R 0) (fun k s => s 53 = ra (n_yr R (n_sd x2 (R 0 * y)) k) ∧ yTh σ1 s ∧ s 51 11 = n_sd (n_sd x2 (R 0 * y)) k)
            (fun k s hk ⟨yy, t, sd⟩ => by
              have o2 := n_ofc s 2 (show k < 7 by omega) (by decide)
              have e52 : s 52 0 = nI (R 0) := by rw [t.1 52 (by decide) (by decide) (by decide), hm1]; rfl
              have dr := mW_drawn s
              rw [sd] at dr
              refine ⟨mm_u (mm_u s 51 11 (n_sd (n_sd x2 (R 0 * y)) (k + 1))) 53 (9 + 4 * k) (nI (n_dn (n_sd (n_sd x2 (R 0 * y)) (k + 1)))), ⟨?_, (t.seed).th mth_u, by rw [mm_u_o (by decide), mm_u_kk]⟩, fun X hX => sg_X11_years_52 s _ _ _ _ _ _ X ⟨fun z => absurd (by rw [e52] at z; exact z) (nI_ge hk (by omega)), fun _ => ⟨_, s, ev_X11_of s _ _, _, _, dr, o2.2, fun σ18 e18 => ?_⟩⟩⟩
              · rw [mm_u_s, mm_u_o (by decide), yy, ← ra_up]
                rfl
              · rw [e18, show (f_X11_of s (nI k) (2 : Int32)).toNatClampNeg = 9 + 4 * k from by rw [show (2 : Int32) = nI 2 from rfl, o2.1]; omega, nI_1]
                exact hX)
            (R 0) 0 s0 (by omega) ⟨y0, t0, sd0⟩
          have wy := n_wf_yr wf (n_sd x2 (R 0 * y)) (R 0) w7
          have e52 : s1 52 0 = nI (R 0) := by rw [t1.1 52 (by decide) (by decide) (by decide), hm1]; rfl
          obtain ⟨s2, k2, y2, -, t2⟩ := mW_daysMind (n := 12) y1 wy (by decide)
          have wye := n_wf_ye wf x2 y
          have y2 : s2 53 = ra (n_ye R x2 y) := y2
          have e2 := mW_owed (a := 53) rfl y2 wye
          rw [hF] at e2
          refine ⟨(s2, .int (nI (R 0))), ⟨t1.th t2, fun i hi => by show s2 53 i = 0; rw [y2, ra_at, wye.2.2.2.2.2.2.2.2.2 i hi]; rfl, by show s2 51 11 = _; rw [t2 51 (by decide) (by decide), sd1, n_sd_add]; rfl⟩, fun X hX => sg_X11_years_32 s _ _ _ _ _ d6 X ⟨fun z => absurd z (nI_ge hy (by omega)), fun _ => ⟨s0, k0, k1 X (sg_X11_years_52 s1 _ _ _ _ _ _ X ⟨fun _ => ⟨s2, k2, fun q => ?_, fun q => ?_⟩, fun z => absurd (by rw [e52]; exact nI_le (Nat.le_refl _) (by omega)) z⟩)⟩⟩⟩
          · have h1 : ¬ j3 = 0 := fun e => q (by rw [e]; rfl)
            have e3 : s2 53 3 = nI (n_ye R x2 y 3) := by rw [y2]; rfl
            rw [e3]
            refine ⟨_, s2, mW_bits s2 wye.2.2.2.1, ?_⟩
            have e4 : n_sum H (y + 1) = n_sum H y + n_bits (n_ye R x2 y 3) := by
              show n_sum H y + H y = _
              rw [hB, eH]
              dsimp only
              rw [if_neg h1]
            rw [e4] at hX
            rw [nI_add, nI_1]
            exact hX
          · have h1 : j3 = 0 := (nI_eq (b := 0) (by omega) (by decide)).mp (Classical.not_not.mp q)
            refine ⟨_, s2, e2, ?_⟩
            have e4 : n_sum H (y + 1) = n_sum H y + F y := by
              show n_sum H y + H y = _
              rw [eH]
              dsimp only
              rw [if_pos h1]
            rw [e4] at hX
            rw [nI_add, nI_1]
            exact hX)
        n 0 (mm_u σ1 51 11 x2, .null) (by omega) ⟨⟨fun q h _ _ => mm_u_o h, by show (mm_u σ1 51 11 x2) 51 5 = σ1 51 5; exact mm_u_k (by decide)⟩, fun i hi => by show (mm_u σ1 51 11 x2) 53 i = 0; rw [mm_u_o (by decide)]; exact z53_think z53 t1 i hi, by show (mm_u σ1 51 11 x2) 51 11 = _; rw [mm_u_kk]; rfl⟩
      dsimp only at t2 z2 g2
      have q2 : MQ2 σ1 σ2 := ⟨fun q h1 h2 h3 _ _ => t2.1 q h1 h2 h3, t2.2, z2⟩
      refine FQ.look hI (.int (nI (n_sum H n))) ?_ ?_ (XQ.think t1) q2
      · refine sg_X10_years_0 σ _ _ _ _ ?_
        refine ⟨_, σ, ev_X10_isBetween σ _ _ _, ?_⟩
        rw [show f_X10_isBetween σ (nI n) (1 : Int32) (20 : Int32) = 1 from bt_t σ (a := 1) (m := 20) ⟨by omega, by omega⟩ (by decide)]
        first | refine g1a ?_ | refine g1b ?_ | refine g0a ?_ | refine g0b ?_
        refine ⟨_, σ, ev_X10_isBetween σ _ _ _, ?_⟩
        rw [show f_X10_isBetween σ (nI j3) (0 : Int32) (1 : Int32) = 1 from bt_t σ (a := 0) (m := 1) ⟨by omega, by omega⟩ (by decide)]
        first | refine g1a ?_ | refine g1b ?_ | refine g0a ?_ | refine g0b ?_
        refine g1 _ (sg_X10_years_33 σ1 _ _ _ _ _ _ _ d8 _ ⟨fun _ => ⟨fun q => ?_, fun q => ?_⟩, fun z => absurd (nI_le (Nat.le_refl _) (by omega)) z⟩)
        · have h1 : ¬ j3 = 0 := fun e => q (by rw [e]; rfl)
          rw [n_sum_eq (f := H) (g := B) n (fun k _ => by rw [eH]; dsimp only; rw [if_neg h1])]
        · have h1 : j3 = 0 := (nI_eq (b := 0) (by omega) (by decide)).mp (Classical.not_not.mp q)
          rw [n_sum_eq (f := H) (g := F) n (fun k _ => by rw [eH]; dsimp only; rw [if_pos h1])]
      · refine sg_X11_years_0 σ1 _ _ _ _ ?_
        refine ⟨_, σ1, ev_X11_isIn σ1 _ _ _, ?_⟩
        rw [show f_X11_isIn σ1 (nI n) (1 : Int32) (20 : Int32) = 1 from bt_t σ1 (a := 1) (m := 20) ⟨by omega, by omega⟩ (by decide)]
        first | refine g1a ?_ | refine g1b ?_ | refine g0a ?_ | refine g0b ?_
        refine ⟨_, σ1, ev_X11_isIn σ1 _ _ _, ?_⟩
        rw [show f_X11_isIn σ1 (nI j3) (0 : Int32) (1 : Int32) = 1 from bt_t σ1 (a := 0) (m := 1) ⟨by omega, by omega⟩ (by decide)]
        first | refine g1a ?_ | refine g1b ?_ | refine g0a ?_ | refine g0b ?_
        intro σ9 e9
        rw [e9]
        exact g2 _ (sg_X11_years_32 σ2 _ _ _ _ _ d6 _ ⟨fun _ => rfl, fun z => absurd (nI_le (Nat.le_refl _) (by omega)) z⟩)
    · refine FQ.refuse hI (.int (-1)) ?_ ?_
      · refine sg_X10_years_0 σ _ _ _ _ ?_
        refine ⟨_, σ, ev_X10_isBetween σ _ _ _, ?_⟩
        rw [show f_X10_isBetween σ (nI n) (1 : Int32) (20 : Int32) = 1 from bt_t σ (a := 1) (m := 20) ⟨by omega, by omega⟩ (by decide)]
        first | refine g1a ?_ | refine g1b ?_ | refine g0a ?_ | refine g0b ?_
        refine ⟨_, σ, ev_X10_isBetween σ _ _ _, ?_⟩
        rw [show f_X10_isBetween σ x3 (0 : Int32) (1 : Int32) = 0 from h3 σ]
        first | refine g1a ?_ | refine g1b ?_ | refine g0a ?_ | refine g0b ?_
        rfl
      · refine sg_X11_years_0 σ _ _ _ _ ?_
        refine ⟨_, σ, ev_X11_isIn σ _ _ _, ?_⟩
        rw [show f_X11_isIn σ (nI n) (1 : Int32) (20 : Int32) = 1 from bt_t σ (a := 1) (m := 20) ⟨by omega, by omega⟩ (by decide)]
        first | refine g1a ?_ | refine g1b ?_ | refine g0a ?_ | refine g0b ?_
        refine ⟨_, σ, ev_X11_isIn σ _ _ _, ?_⟩
        rw [show f_X11_isIn σ x3 (0 : Int32) (1 : Int32) = 0 from h3 σ]
        first | refine g1a ?_ | refine g1b ?_ | refine g0a ?_ | refine g0b ?_
        rfl
  · refine FQ.refuse hI (.int (-1)) ?_ ?_
    · refine sg_X10_years_0 σ _ _ _ _ ?_
      refine ⟨_, σ, ev_X10_isBetween σ _ _ _, ?_⟩
      rw [show f_X10_isBetween σ x1 (1 : Int32) (20 : Int32) = 0 from h1 σ]
      first | refine g1a ?_ | refine g1b ?_ | refine g0a ?_ | refine g0b ?_
      rfl
    · refine sg_X11_years_0 σ _ _ _ _ ?_
      refine ⟨_, σ, ev_X11_isIn σ _ _ _, ?_⟩
      rw [show f_X11_isIn σ x1 (1 : Int32) (20 : Int32) = 0 from h1 σ]
      first | refine g1a ?_ | refine g1b ?_ | refine g0a ?_ | refine g0b ?_
      rfl
/-! the face: heaviest -/
def n_hv (f : Nat → Nat) : Nat → Nat
  | 0 => 0
  | j + 1 => if f (n_hv f j) < f j then j else n_hv f j
theorem n_hv_le (f : Nat → Nat) : ∀ j, n_hv f j ≤ j
  | 0 => Nat.le_refl _
  | j + 1 => by
    have := n_hv_le f j
    unfold n_hv
    split <;> omega
def n_dd (f : Nat → Nat) : Nat → Option Nat
  | 0 => none
  | j + 1 => match n_dd f j with
    | none => some j
    | some i => if f i < f j then some j else some i
theorem n_dd_p (f : Nat → Nat) : ∀ j, (n_dd f j = none ∧ j = 0) ∨ ∃ i, n_dd f j = some i ∧ i < j
  | 0 => Or.inl ⟨rfl, rfl⟩
  | j + 1 => by
    unfold n_dd
    rcases n_dd_p f j with ⟨e, -⟩ | ⟨i, e, hi⟩
    · rw [e]; exact Or.inr ⟨j, rfl, by omega⟩
    · rw [e]
      dsimp only
      split
      · exact Or.inr ⟨j, rfl, by omega⟩
      · exact Or.inr ⟨i, rfl, by omega⟩
def n_dI (o : Option Nat) : Int32 := match o with
  | none => -4
  | some i => nI i
def n_dM (f : Nat → Nat) (o : Option Nat) : Int32 := match o with
  | none => -1
  | some i => nI (f i)
def n_al (R : Nat → Nat) : Nat → Int32
  | 0 => 0
  | j + 1 => if n_aw R (R (9 + 4 * j)) = true then n_al R j else n_al R j ||| ((1 : Int32) <<< (nI j &&& 31))
theorem xW_heavy {σ : mm_Sg} {R : Nat → Nat} (hx : xr σ 10 R) (wf : n_wf 999 R) : mm_Ev mm_m_X1_heaviestWaker [.ref 10] σ (some (.int (nI (n_hv (fun w => n_many R w (R 0)) 5)))) σ := by
  obtain ⟨f, ef⟩ : ∃ f : Nat → Nat, f = fun w => n_many R w (R 0) := ⟨_, rfl⟩
  have hf : ∀ w, n_many R w (R 0) = f w := fun w => by rw [ef]
  have hl : ∀ w, f w ≤ 7 := fun w => by rw [ef]; exact Nat.le_trans (n_many_le R w (R 0)) wf.1
  rw [← ef]
  obtain ⟨-, -, g⟩ := mm_run (M := mm_m_X1_heaviestWaker) (α := Unit) (fun j _ => (4, [.ref 10, .int (nI (n_hv f (j + 1))), .int (nI (j + 1))], [], σ)) 4 (fun _ _ => True)
    (fun j _ hj _ => ⟨(), trivial, fun X hX => sg_X1_heaviestWaker_4 σ 10 _ _ X ⟨fun z => absurd z (nI_ge (b := 5) (by omega) (by decide)), fun _ => by
      have hh := n_hv_le f (j + 1)
      have g1 := xW_many (w := j + 1) hx wf (by omega)
      have g2 := xW_many (w := n_hv f (j + 1)) hx wf (by omega)
      rw [hf] at g1 g2
      have l1 := hl (j + 1)
      have l2 := hl (n_hv f (j + 1))
      refine ⟨rfl, _, σ, g1, _, σ, g2, fun q => ?_, fun q => ?_⟩
      · rw [n_hv, if_neg (fun l => absurd q (nI_ge l (by omega)))] at hX
        rw [nI_1]
        exact hX
      · rw [n_hv, if_pos (by
          rcases Nat.lt_or_ge (f (n_hv f (j + 1))) (f (j + 1)) with l | l
          · exact l
          · exact absurd (nI_le l (by omega)) q)] at hX
        rw [nI_1]
        exact hX⟩⟩)
    4 0 () rfl trivial
  have e1 : n_hv f 1 = 0 := by
    rw [n_hv, if_neg (by show ¬ f 0 < f 0; omega)]
    rfl
  rw [e1] at g
  exact sg_X1_heaviestWaker_0 σ 10 _ (g _ (sg_X1_heaviestWaker_4 σ 10 _ _ _ ⟨fun _ => rfl, fun z => absurd (show (5 : Int32) ≤ nI 5 by decide) z⟩))
theorem xW_deep {σ : mm_Sg} {R : Nat → Nat} (hx : xr σ 10 R) (wf : n_wf 999 R) : mm_Ev mm_m_X1_deepestDrinker [.ref 10] σ (some (.int (n_dI (n_dd (fun k => R (10 + 4 * k)) (R 0))))) σ := by
  have h7 := wf.1
  obtain ⟨f, ef⟩ : ∃ f : Nat → Nat, f = fun k => R (10 + 4 * k) := ⟨_, rfl⟩
  have hf : ∀ k, R (10 + 4 * k) = f k := fun w => by rw [ef]
  have hl : ∀ k, k < 7 → f k ≤ 999 := fun k hk => by rw [ef]; exact (wf.2.2.2.2.2.2.2.1 k hk).2.2.2
  rw [← ef]
  obtain ⟨-, -, g⟩ := mm_run (M := mm_m_X1_deepestDrinker) (α := Unit) (fun j _ => (7, [.ref 10, .int (n_dI (n_dd f j)), .int (n_dM f (n_dd f j)), .int (nI j)], [], σ)) (R 0) (fun _ _ => True)
    (fun j _ hj _ => ⟨(), trivial, fun X hX => sg_X1_deepestDrinker_7 σ 10 _ _ _ X ⟨rfl, fun z => absurd (by rw [hx.1] at z; exact z) (nI_ge hj (by omega)), fun _ => ⟨fun z => absurd z (nI_ge (b := 7) (by omega) (by decide)), fun _ => ⟨v_in (N := 7) (by omega) (by decide), by
      have l1 := hl j (by omega)
      rw [nI_clamp (by omega), xr_o hx (by omega), hf, nI_1]
      rcases n_dd_p f j with ⟨e, -⟩ | ⟨i, e, hi⟩
      · rw [e]
        rw [n_dd, e] at hX
        refine ⟨fun q => absurd q ?_, fun _ => hX⟩
        show ¬ nI (f j) ≤ (-1 : Int32)
        rw [Int32.le_iff_toInt_le, nI_toInt (by omega)]
        have : (-1 : Int32).toInt = -1 := by decide
        omega
      · have l2 := hl i (by omega)
        rw [e]
        rw [n_dd, e] at hX
        dsimp only at hX
        refine ⟨fun q => ?_, fun q => ?_⟩
        · rw [if_neg (fun l => absurd (show nI (f j) ≤ nI (f i) from q) (nI_ge l (by omega)))] at hX
          exact hX
        · rw [if_pos (by
            rcases Nat.lt_or_ge (f i) (f j) with l | l
            · exact l
            · exact absurd (show nI (f j) ≤ nI (f i) from nI_le l (by omega)) q)] at hX
          exact hX⟩⟩⟩⟩)
    (R 0) 0 () (by omega) trivial
  exact sg_X1_deepestDrinker_0 σ 10 _ (g _ (sg_X1_deepestDrinker_7 σ 10 _ _ _ _ ⟨rfl, fun _ => rfl, fun z => absurd (by rw [hx.1]; exact nI_le (Nat.le_refl _) (by omega)) z⟩))
theorem xW_alone {σ : mm_Sg} {R : Nat → Nat} (hx : xr σ 10 R) (wf : n_wf 999 R) : mm_Ev mm_m_X1_aloneBits [.ref 10] σ (some (.int (n_al R (R 0)))) σ := by
  have h7 := wf.1
  obtain ⟨-, -, g⟩ := mm_run (M := mm_m_X1_aloneBits) (α := Unit) (fun j _ => (4, [.ref 10, .int (n_al R j), .int (nI j)], [], σ)) (R 0) (fun _ _ => True)
    (fun j _ hj _ => ⟨(), trivial, fun X hX => sg_X1_aloneBits_4 σ 10 _ _ X ⟨rfl, fun z => absurd (by rw [hx.1] at z; exact z) (nI_ge hj (by omega)), fun _ => ⟨fun z => absurd z (nI_ge (b := 7) (by omega) (by decide)), fun _ => ⟨v_in (N := 7) (by omega) (by decide), by
      rw [nI_clamp (by omega), xr_w hx (by omega), nI_1]
      refine ⟨_, σ, ev_X1_isAwake σ 10 _ (fun _ => rfl), ?_⟩
      rw [x_isAw σ hx.2.2.2.1 wf.2.2.2.1 (wf.2.2.2.2.2.2.2.1 j (by omega)).2.2.1]
      cases h : n_aw R (R (9 + 4 * j)) with
      | true =>
        rw [n_al, if_pos h] at hX
        exact ⟨fun _ => hX, fun z => absurd (show ¬ (1 : Int32) = 0 by decide) z⟩
      | false =>
        rw [n_al, if_neg (by rw [h]; decide)] at hX
        exact ⟨fun z => absurd rfl z, fun _ => hX⟩⟩⟩⟩⟩)
    (R 0) 0 () (by omega) trivial
  exact sg_X1_aloneBits_0 σ 10 _ (g _ (sg_X1_aloneBits_4 σ 10 _ _ _ ⟨rfl, fun _ => rfl, fun z => absurd (by rw [hx.1]; exact nI_le (Nat.le_refl _) (by omega)) z⟩))
theorem mW_heavy {σ : mm_Sg} {R : Nat → Nat} (j : Nat) (hj : j < 4) (hm : σ 52 = ra R) (wf : n_wf 999 R) : mm_Ev mm_m_X11_heaviest [.ref 51, .int (nI j)] σ (some (.int (if j = 0 then nI (n_hv (fun w => n_many R w (R 0)) 5) else if j = 1 then nI (n_many R (n_hv (fun w => n_many R w (R 0)) 5) (R 0)) else if j = 2 then n_dI (n_dd (fun k => R (10 + 4 * k)) (R 0)) else n_al R (R 0)))) σ := by
  have h7 := wf.1
  have m0 : σ 52 0 = nI (R 0) := by rw [hm]; rfl
  obtain ⟨f, ef⟩ : ∃ f : Nat → Nat, f = fun w => n_many R w (R 0) := ⟨_, rfl⟩
  have hf : ∀ w, n_many R w (R 0) = f w := fun w => by rw [ef]
  have hl : ∀ w, f w ≤ 7 := fun w => by rw [ef]; exact Nat.le_trans (n_many_le R w (R 0)) wf.1
  rw [← ef, hf]
  obtain ⟨-, -, g1⟩ := mm_run (M := mm_m_X11_heaviest) (α := Unit) (fun i _ => (15, [.ref 51, .int (nI j), .int (nI (n_hv f i)), .int (nI i), .null, .null], [], σ)) 5 (fun _ _ => True)
    (fun i _ hi _ => ⟨(), trivial, fun X hX => sg_X11_heaviest_15 σ _ _ _ X ⟨fun z => absurd z (nI_ge (b := 5) (by omega) (by decide)), fun _ => by
      have hh := n_hv_le f i
      have g1 := mW_many (w := i) hm wf (by omega)
      have g2 := mW_many (w := n_hv f i) hm wf (by omega)
      rw [hf] at g1 g2
      have l1 := hl i
      have l2 := hl (n_hv f i)
      refine ⟨_, σ, g1, _, σ, g2, fun q => ?_, fun q => ?_⟩
      · rw [n_hv, if_neg (fun l => absurd q (nI_ge l (by omega)))] at hX
        rw [nI_1]
        exact hX
      · rw [n_hv, if_pos (by
          rcases Nat.lt_or_ge (f (n_hv f i)) (f i) with l | l
          · exact l
          · exact absurd (nI_le l (by omega)) q)] at hX
        rw [nI_1]
        exact hX⟩⟩)
    5 0 () rfl trivial
  obtain ⟨h, eh⟩ : ∃ h, h = n_hv f 5 := ⟨_, rfl⟩
  have hh5 : h ≤ 5 := by rw [eh]; exact n_hv_le f 5
  rw [← eh] at g1 ⊢
  obtain ⟨o, eo⟩ : ∃ o : Nat → Nat, o = fun k => R (10 + 4 * k) := ⟨_, rfl⟩
  have ho : ∀ k, R (10 + 4 * k) = o k := fun w => by rw [eo]
  have ol : ∀ k, k < 7 → o k ≤ 999 := fun k hk => by rw [eo]; exact (wf.2.2.2.2.2.2.2.1 k hk).2.2.2
  rw [← eo]
  obtain ⟨-, -, g2⟩ := mm_run (M := mm_m_X11_heaviest) (α := Unit) (fun i _ => (50, [.ref 51, .int (nI j), .int (nI h), .int (n_dI (n_dd o i)), .int (n_al R i), .int (nI i)], [], σ)) (R 0) (fun _ _ => True)
    (fun i _ hi _ => ⟨(), trivial, fun X hX => by
      have tail : mm_Go mm_m_X11_heaviest (92, [.ref 51, .int (nI j), .int (nI h), .int (n_dI (n_dd o (i + 1))), .int (n_al R i), .int (nI i)], [], σ) X := by
        have o2 := n_ofc σ 2 (show i < 7 by omega) (by decide)
        refine sg_X11_heaviest_92 σ _ _ _ _ _ X ⟨_, σ, ev_X11_of σ _ _, o2.2, ?_⟩
        rw [show (f_X11_of σ (nI i) (2 : Int32)).toNatClampNeg = 9 + 4 * i from by rw [show (2 : Int32) = nI 2 from rfl, o2.1]; omega, hm, ra_at, nI_1]
        refine ⟨_, σ, ev_X11_isAwake σ 52 _ (fun _ => by unfold vp_in; decide), ?_⟩
        rw [n_isAw σ (q := 52) (R := R) (by rw [hm]; rfl) wf.2.2.2.1 (wf.2.2.2.2.2.2.2.1 i (by omega)).2.2.1]
        cases ha : n_aw R (R (9 + 4 * i)) with
        | true =>
          rw [n_al, if_pos ha] at hX
          rw [or0]
          exact ⟨fun z => absurd z (show ¬ (1 : Int32) = 0 by decide), fun _ => hX⟩
        | false =>
          rw [n_al, if_neg (by rw [ha]; decide)] at hX
          exact ⟨fun _ => hX, fun z => absurd rfl z⟩
      refine sg_X11_heaviest_50 σ _ _ _ _ _ X ⟨fun z => absurd (by rw [m0] at z; exact z) (nI_ge hi (by omega)), fun _ => ?_⟩
      have l1 := ol i (by omega)
      rcases n_dd_p o i with ⟨e, -⟩ | ⟨k, e, hk⟩
      · rw [n_dd, e] at tail
        rw [e]
        exact ⟨fun _ => tail, fun z => absurd (show (-4 : Int32) < 0 by decide) z⟩
      · have l2 := ol k (by omega)
        rw [n_dd, e] at tail
        dsimp only at tail
        rw [e]
        have o3 := n_ofc σ 3 (show i < 7 by omega) (by decide)
        have o4 := n_ofc σ 3 (show k < 7 by omega) (by decide)
        refine ⟨fun z => absurd z (nI_pos (by omega)), fun _ => ⟨_, σ, ev_X11_of σ _ _, o3.2, _, σ, ev_X11_of σ _ _, o4.2, ?_⟩⟩
        rw [show (f_X11_of σ (nI i) (3 : Int32)).toNatClampNeg = 10 + 4 * i from by rw [show (3 : Int32) = nI 3 from rfl, o3.1]; omega, show (f_X11_of σ (n_dI (some k)) (3 : Int32)).toNatClampNeg = 10 + 4 * k from by rw [show (3 : Int32) = nI 3 from rfl, show n_dI (some k) = nI k from rfl, o4.1]; omega, hm, ra_at, ra_at, ho, ho]
        refine ⟨fun q => ?_, fun q => ?_⟩
        · rw [if_neg (fun l => absurd q (nI_ge l (by omega)))] at tail
          exact tail
        · rw [if_pos (by
            rcases Nat.lt_or_ge (o k) (o i) with l | l
            · exact l
            · exact absurd (nI_le l (by omega)) q)] at tail
          exact tail⟩)
    (R 0) 0 () (by omega) trivial
  refine sg_X11_heaviest_0 σ _ _ ⟨_, σ, ev_X11_isIn σ _ _ _, ?_⟩
  rw [show f_X11_isIn σ (nI j) (0 : Int32) (3 : Int32) = 1 from bt_t σ (a := 0) (m := 3) ⟨by omega, by omega⟩ (by decide)]
  refine g1b (g1 _ (sg_X11_heaviest_15 σ _ _ _ _ ⟨fun _ => g2 _ (sg_X11_heaviest_50 σ _ _ _ _ _ _ ⟨fun _ => ?_, fun z => absurd (by rw [m0]; exact nI_le (Nat.le_refl _) (by omega)) z⟩), fun z => absurd (show (5 : Int32) ≤ nI 5 by decide) z⟩))
  rcases (show j = 0 ∨ j = 1 ∨ j = 2 ∨ j = 3 by omega) with rfl | rfl | rfl | rfl
  · exact g0b rfl
  · refine ⟨fun _ => ⟨fun z => absurd rfl z, fun _ => ?_⟩, fun z => absurd (show ¬ (nI 1 : Int32) = 0 by decide) z⟩
    have g := mW_many (w := h) hm wf (by omega)
    rw [hf] at g
    exact ⟨_, σ, g, rfl⟩
  · exact ⟨fun _ => ⟨fun _ => ⟨fun z => absurd rfl z, fun _ => rfl⟩, fun z => absurd (show ¬ (nI 2 : Int32) = 1 by decide) z⟩, fun z => absurd (show ¬ (nI 2 : Int32) = 0 by decide) z⟩
  · exact ⟨fun _ => ⟨fun _ => ⟨fun _ => rfl, fun z => absurd (show ¬ (nI 3 : Int32) = 2 by decide) z⟩, fun z => absurd (show ¬ (nI 3 : Int32) = 1 by decide) z⟩, fun z => absurd (show ¬ (nI 3 : Int32) = 0 by decide) z⟩
theorem F_heaviest {σ : mm_Sg} (hI : Inv σ) (x1 : Int32) : FQ mm_m_X10_heaviest mm_m_X11_heaviest [.int x1] σ := by
  obtain ⟨⟨R, hcp⟩, hi, z53, z54, z55, hs⟩ := id hI
  obtain ⟨wf, r4, r5, r6, hx, hm⟩ := id hcp
  have h0 : σ 10 6 = nI (R 0) := hx.1
  have m0 : σ 52 0 = nI (R 0) := by rw [hm]; rfl
  have w7 := wf.1
  by_cases h2 : vp_in x1 4
  · obtain ⟨j, hj, rfl⟩ := vp_in_of h2 (by decide)
    refine FQ.refuse hI _ ?_ (mW_heavy j hj hm wf)
    have hh := n_hv_le (fun w => n_many R w (R 0)) 5
    refine sg_X10_heaviest_0 σ _ _ ?_
    rcases (show j = 0 ∨ j = 1 ∨ j = 2 ∨ j = 3 by omega) with rfl | rfl | rfl | rfl
    · exact ⟨fun _ => ⟨_, σ, xW_heavy hx wf, rfl⟩, fun z => absurd rfl z⟩
    · exact ⟨fun z => absurd z (show ¬ (nI 1 = nI 0) by decide), fun _ => ⟨fun _ => ⟨_, σ, xW_heavy hx wf, _, σ, xW_many hx wf (by omega), rfl⟩, fun z => absurd rfl z⟩⟩
    · exact ⟨fun z => absurd z (show ¬ (nI 2 = nI 0) by decide), fun _ => ⟨fun z => absurd z (show ¬ (nI 2 = nI 1) by decide), fun _ => ⟨fun _ => ⟨_, σ, xW_deep hx wf, rfl⟩, fun z => absurd rfl z⟩⟩⟩
    · exact ⟨fun z => absurd z (show ¬ (nI 3 = nI 0) by decide), fun _ => ⟨fun z => absurd z (show ¬ (nI 3 = nI 1) by decide), fun _ => ⟨fun z => absurd z (show ¬ (nI 3 = nI 2) by decide), fun _ => ⟨fun _ => ⟨_, σ, xW_alone hx wf, rfl⟩, fun z => absurd rfl z⟩⟩⟩⟩
  · have h2s := sw_not h2 (by decide)
    refine FQ.refuse hI (.int (-1)) (sg_X10_heaviest_0 σ _ _ ⟨fun z => absurd z (h2s 0 (by decide)), fun _ => ⟨fun z => absurd z (h2s 1 (by decide)), fun _ => ⟨fun z => absurd z (h2s 2 (by decide)), fun _ => ⟨fun z => absurd z (h2s 3 (by decide)), fun _ => rfl⟩⟩⟩⟩) ?_
    refine sg_X11_heaviest_0 σ _ _ ?_
    refine ⟨_, σ, ev_X11_isIn σ _ _ _, ?_⟩
    rw [show f_X11_isIn σ x1 (0 : Int32) (3 : Int32) = 0 from q_btf σ (a := 0) (b := 3) (by decide) (by decide) h2]
    first | refine g1a ?_ | refine g1b ?_ | refine g0a ?_ | refine g0b ?_
    rfl
