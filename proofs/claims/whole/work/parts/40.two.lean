/-! the face: two -/
theorem mm_findv {M : mm_Me} (St : Nat → mm_Sg → mm_St) (P : Nat → Bool) (N : Nat) (v : Nat → Value) (vN : Value) (Q : mm_Sg → Prop)
    (hit : ∀ j s, j < N → Q s → P j = true → ∃ s', Q s' ∧ mm_Go M (St j s) (some (v j), s'))
    (miss : ∀ j s, j < N → Q s → P j = false → ∃ s', Q s' ∧ ∀ X, mm_Go M (St (j + 1) s') X → mm_Go M (St j s) X)
    (fin : ∀ s, Q s → mm_Go M (St N s) (some vN, s)) :
    ∀ (d j : Nat) (s : mm_Sg), j + d = N → Q s → ∃ s', mm_Go M (St j s) (some (match n_find P d j with | some i => v i | none => vN), s') ∧ Q s'
  | 0, j, s, e, h => by
    have e : j = N := e
    subst e
    exact ⟨s, fin s h, h⟩
  | d + 1, j, s, e, h => by
    unfold n_find
    cases hp : P j with
    | true =>
      rw [if_pos rfl]
      obtain ⟨s', h1, h2⟩ := hit j s (by omega) h hp
      exact ⟨s', h2, h1⟩
    | false =>
      rw [if_neg (by simp)]
      obtain ⟨s', h1, h2⟩ := miss j s (by omega) h hp
      obtain ⟨s2, h3, h4⟩ := mm_findv St P N v vN Q hit miss fin d (j + 1) s' (by omega) h1
      exact ⟨s2, h2 _ h3, h4⟩
def dz (x a : Nat) : Nat := if x = 0 then 2 ^ a else 0
theorem dz_m : ∀ x, x < 2 → ∀ a, a < 7 → ((1 : Int32) - nI x) <<< (nI a &&& 31) = nI (dz x a) := by decide +kernel
theorem dz_x : ∀ a, a < 7 → (1 : Int32) <<< (nI a &&& 31) = nI (dz 0 a) ∧ (0 : Int32) = nI (dz 1 a) := by decide +kernel
theorem dz_or : ∀ x, x < 2 → ∀ a, a < 7 → ∀ y, y < 2 → ∀ b, b < 7 → nI (dz x a) ||| nI (dz y b) = nI (dz x a ||| dz y b) ∧ dz x a ||| dz y b < 128 := by decide +kernel
theorem n_wf_dry {D : Nat} {R : Nat → Nat} (h : n_wf D R) {v : Nat} (hv : v < 128) : n_wf D (nup R 5 v) := by
  obtain ⟨h0, h1, h2, h3, h4, h5, h6, h7, h8, h9⟩ := h
  refine ⟨by rw [nup_o R (by omega)]; exact h0, by rw [nup_o R (by omega)]; exact h1, by rw [nup_o R (by omega)]; exact h2, by rw [nup_o R (by omega)]; exact h3, by rw [nup_o R (by omega)]; exact h4, by rw [nup_s]; exact hv, by rw [nup_o R (by omega)]; exact h6, fun k hk => ?_, fun x hx => ?_, fun i hi => ?_⟩
  · rw [nup_o R (by omega), nup_o R (by omega), nup_o R (by omega), nup_o R (by omega)]
    exact h7 k hk
  · rw [nup_o R (by omega)]; exact h8 x hx
  · rw [nup_o R (by omega)]; exact h9 i hi
theorem xr_dry {σ : mm_Sg} {c v : Nat} {R : Nat → Nat} (h : xr σ c R) : xr (mm_u σ c 12 (nI v)) c (nup R 5 v) := by
  obtain ⟨h0, h1, h2, h3, h4, h5, h6, h7, h8⟩ := h
  refine ⟨by rw [mm_u_k (by omega), nup_o R (by omega)]; exact h0, by rw [mm_u_k (by omega), nup_o R (by omega)]; exact h1, by rw [mm_u_k (by omega), nup_o R (by omega)]; exact h2, by rw [mm_u_k (by omega), nup_o R (by omega)]; exact h3, by rw [mm_u_k (by omega), nup_o R (by omega)]; exact h4, by rw [mm_u_kk, nup_s], by rw [mm_u_k (by omega), nup_o R (by omega)]; exact h6, fun k hk => ?_, fun w hw => ?_⟩
  · rw [mm_u_o (by omega), mm_u_o (by omega), mm_u_o (by omega), mm_u_o (by omega), nup_o R (by omega), nup_o R (by omega), nup_o R (by omega), nup_o R (by omega)]
    exact h7 k hk
  · rw [mm_u_o (by omega), nup_o R (by omega)]
    exact h8 w hw
def n_dp (R : Nat → Nat) (a b p : Nat) : Nat → Nat := nup R 5 (dz (p / 2) a ||| dz (p % 2) b)
/-- what one gains -/
def n_gv (R : Nat → Nat) (a b n who p : Nat) : Int32 := nI (n_cds n (n_dp R a b p) who) - (nI (n_days n (n_dp R a b p) (10 + 4 * who)) - nI (R (10 + 4 * who))) / (2 : Int32)
theorem n_wf_dp {D : Nat} {R : Nat → Nat} (h : n_wf D R) {a b p : Nat} (ha : a < 7) (hb : b < 7) (hp : p < 4) : n_wf D (n_dp R a b p) := n_wf_dry h (dz_or (p / 2) (by omega) a ha (p % 2) (by omega) b hb).2
theorem z0a (x : Int32) : (0 : Int32) + x = x := Int32.zero_add x
theorem mW_hasBy {σ : mm_Sg} {R : Nat → Nat} {a b n who p x y : Nat} (hm : σ 52 = ra R) (wf : n_wf 999 R) (z53 : z40 σ 53) (ha : a < 7) (hb : b < 7) (hw : who < 7) (hp : p < 4) (hx : x = p / 2) (hy : y = p % 2) (hn : n ≤ 60) : ∃ σ', mm_Ev mm_m_X11_hasBy [.ref 51, .int (nI who), .int (nI a), .int (nI x), .int (nI b), .int (nI y), .int (nI n)] σ (some (.int (n_gv R a b n who p))) σ' ∧ mTh σ σ' ∧ z40 σ' 53 := by
  obtain ⟨s1, g1, y1, -, t1⟩ := mW_mind hm wf z53
  have wd := n_wf_dp wf ha hb hp
  have dzo := dz_or (p / 2) (by omega) a ha (p % 2) (by omega) b hb
  obtain ⟨s2, g2, y2, c2, t2⟩ := mW_daysMind (n := n) (σ := mm_u (mm_u s1 53 5 (nI (dz (p / 2) a ||| dz (p % 2) b))) 56 who 0) (R := n_dp R a b p) (by rw [mm_u_o (by decide), mm_u_s, y1, ← ra_up]; rfl) wd (by omega)
  have w2 := n_wf_days wd n
  have o3 := n_ofc s2 3 hw (by decide)
  have tt : mTh σ s2 := t1.trans ((mth_u (k := 5) (x := nI (dz (p / 2) a ||| dz (p % 2) b))).trans (mTh.trans (fun q _ h => mm_u_o h) t2))
  refine ⟨s2, sg_X11_hasBy_0 σ _ _ _ _ _ _ _ ⟨s1, g1, fun σ3 e3 => ⟨v_in (N := 7) hw (by decide), fun σ6 e6 => ?_⟩⟩, tt, fun i hi => by rw [y2, ra_at, w2.2.2.2.2.2.2.2.2.2 i hi]; rfl⟩
  rw [hx, hy, dz_m _ (by omega) _ ha, dz_m _ (by omega) _ hb, dzo.1] at e3
  rw [e6, e3, nI_clamp (by omega)]
  refine ⟨s2, g2, _, s2, ev_X11_of s2 _ _, o3.2, _, s2, ev_X11_of s2 _ _, o3.2, ?_⟩
  rw [show (f_X11_of s2 (nI who) (3 : Int32)).toNatClampNeg = 10 + 4 * who from by rw [show (3 : Int32) = nI 3 from rfl, o3.1]; omega, c2, mm_u_kk, z0a, y2, ra_at, tt 52 (by decide) (by decide), hm, ra_at]
  rfl
theorem xW_gain {σ : mm_Sg} {R T : Nat → Nat} {who : Nat} {c : Int32} (hw : who < 7) (h1 : σ 30 who = c) (h2 : xr σ 24 T) (h3 : xr σ 10 R) : mm_Ev mm_m_X10_gainInMind [.ref 0, .int (nI who)] σ (some (.int (c - (nI (T (10 + 4 * who)) - nI (R (10 + 4 * who))) / (2 : Int32)))) σ := by
  have v : vp_in (nI who) 7 := v_in hw (by decide)
  refine sg_X10_gainInMind_0 σ _ _ ⟨v, v, v, ?_⟩
  rw [nI_clamp (by omega), h1, show σ 28 who = _ from xr_o h2 hw, show σ 14 who = _ from xr_o h3 hw]
theorem F_two {σ : mm_Sg} (hI : Inv σ) (x1 x2 x3 : Int32) : FQ mm_m_X10_two mm_m_X11_two [.int x1, .int x2, .int x3] σ := by
  obtain ⟨⟨R, hcp⟩, hi, z53, z54, z55, hs⟩ := id hI
  obtain ⟨wf, r4, r5, r6, hx, hm⟩ := id hcp
  have h0 : σ 10 6 = nI (R 0) := hx.1
  have m0 : σ 52 0 = nI (R 0) := by rw [hm]; rfl
  have w7 := wf.1
  by_cases h1 : vp_in x1 (R 0)
  · obtain ⟨a, hka, rfl⟩ := vp_in_of h1 (by omega)
    by_cases h2 : vp_in x2 (R 0)
    · obtain ⟨b, hkb, rfl⟩ := vp_in_of h2 (by omega)
      by_cases hab : a = b
      · subst hab
        refine FQ.refuse hI (.int (-1)) ?_ ?_
        · refine sg_X10_two_0 σ _ _ _ _ ?_
          refine ⟨_, σ, ev_X1_has σ 10 _ (fun _ => rfl), ?_⟩
          rw [x_has σ h0 wf.1 (by omega), if_pos hka]
          first | refine g1a ?_ | refine g1b ?_ | refine g0a ?_ | refine g0b ?_
          refine ⟨_, σ, ev_X1_has σ 10 _ (fun _ => rfl), ?_⟩
          rw [x_has σ h0 wf.1 (by omega), if_pos hkb]
          first | refine g1a ?_ | refine g1b ?_ | refine g0a ?_ | refine g0b ?_
          refine ⟨fun _ => ?_, fun z => absurd rfl z⟩
          rfl
        · refine sg_X11_two_0 σ _ _ _ _ ?_
          refine ⟨_, σ, ev_X11_isDrinker σ _, ?_⟩
          rw [m_dk σ m0 wf.1 hka]
          first | refine g1a ?_ | refine g1b ?_ | refine g0a ?_ | refine g0b ?_
          refine ⟨_, σ, ev_X11_isDrinker σ _, ?_⟩
          rw [m_dk σ m0 wf.1 hkb]
          first | refine g1a ?_ | refine g1b ?_ | refine g0a ?_ | refine g0b ?_
          refine ⟨fun _ => ?_, fun z => absurd rfl z⟩
          rfl
      · rcases bt_c x3 1 30 (by decide) (by decide) with ⟨n, hn1, hn, rfl⟩ | h3
        · have ha : a < 7 := by omega
          have hb : b < 7 := by omega
          obtain ⟨G, eG⟩ : ∃ G, G = n_gv R a b n := ⟨_, rfl⟩
          have hG : ∀ who p, nI (n_cds n (n_dp R a b p) who) - (nI (n_days n (n_dp R a b p) (10 + 4 * who)) - nI (R (10 + 4 * who))) / (2 : Int32) = G who p := fun who p => by rw [eG]; rfl
          have hG2 : n_gv R a b n = G := eG.symm
          obtain ⟨P, eP⟩ : ∃ P : Nat → Bool, P = fun p => decide (G a (p ^^^ 2) ≤ G a p ∧ G b (p ^^^ 1) ≤ G b p) := ⟨_, rfl⟩
          have hP : ∀ p, P p = true ↔ ¬ G a p < G a (p ^^^ 2) ∧ ¬ G b p < G b (p ^^^ 1) := fun p => by
            rw [eP]
            simp only [decide_eq_true_eq]
            exact ⟨fun h => ⟨le_nlt h.1, le_nlt h.2⟩, fun h => ⟨nlt_le h.1, nlt_le h.2⟩⟩
          obtain ⟨⟨s1, d5, d6⟩, ⟨u1, f1⟩, g1⟩ := mm_run (M := mm_m_X10_two) (α := mm_Sg × Value × Value) (fun p s => (42, [.ref 0, .int (nI a), .int (nI b), .int (nI n), .int (nI p), s.2.1, s.2.2], [], s.1)) 4 (fun p s => XQ σ s.1 ∧ ∀ i, i < p → s.1 50 (2 * i) = G a i ∧ s.1 50 (2 * i + 1) = G b i)
            (fun p s hp ⟨u, f⟩ => by
              obtain ⟨s, d5, d6⟩ := s
              dsimp only at u f ⊢
              have hxs : xr s 10 R := xr_same hx (fun q _ _ => u q (by omega) (by omega))
              obtain ⟨s2, k2, y2, z2, o2⟩ := xW_like (c := 24) (d := 10) (Or.inr (Or.inr rfl)) (Or.inl rfl) (by decide) hxs r4 r5 r6
              have wd := n_wf_dp wf ha hb hp
              have dzo := dz_or (p / 2) (by omega) a ha (p % 2) (by omega) b hb
              obtain ⟨s3, k3, y3, c3, o3⟩ := xW_goMind (n := n) (σ := mm_u s2 24 12 (nI (dz (p / 2) a ||| dz (p % 2) b))) (R := n_dp R a b p) (xr_dry y2) wd (by omega)
              have u3 : XQ σ s3 := fun q h1 h2 => by rw [o3 q (by omega), mm_u_o (by omega), o2 q (by omega), u q h1 h2]
              have e50 : s3 50 = s 50 := by rw [o3 50 (by omega), mm_u_o (by omega), o2 50 (by omega)]
              have hx3 : xr s3 10 R := xr_same hx (fun q _ _ => u3 q (by omega) (by omega))
              have cc : ∀ who, who < 7 → s3 30 who = nI (n_cds n (n_dp R a b p) who) := fun who hw => by rw [c3, mm_u_o (by decide), z2 who hw, z0a]
              have ga := xW_gain ha (cc a ha) y3 hx3
              rw [hG] at ga
              have gb := xW_gain (σ := mm_u s3 50 (2 * p) (G a p)) (c := nI (n_cds n (n_dp R a b p) b)) hb (by rw [mm_u_o (by decide)]; exact cc b hb) (xr_same y3 (fun q _ _ => mm_u_o (by omega))) (xr_same hx3 (fun q _ _ => mm_u_o (by omega)))
              rw [hG] at gb
              have q1 : (2 : Int32) * nI p = nI (2 * p) := pk_mul 2 p
              refine ⟨(mm_u (mm_u s3 50 (2 * p) (G a p)) 50 (2 * p + 1) (G b p), .int (nI (p / 2)), .int (nI (p % 2))), ⟨fun q h1 h2 => by show (mm_u (mm_u s3 50 (2 * p) (G a p)) 50 (2 * p + 1) (G b p)) q = σ q; rw [mm_u_o (by omega), mm_u_o (by omega), u3 q h1 h2], fun i hi => ?_⟩, fun X hX => ?_⟩
              · dsimp only
                by_cases e : i = p
                · subst e
                  exact ⟨by rw [mm_u_k (by omega), mm_u_kk], by rw [mm_u_kk]⟩
                · rw [mm_u_k (by omega), mm_u_k (by omega), mm_u_k (by omega), mm_u_k (by omega), e50]
                  exact f i (by omega)
              · have last : mm_Go mm_m_X10_two (115, [.ref 0, .int (nI a), .int (nI b), .int (nI n), .int (nI p), .int (nI (p / 2)), .int (nI (p % 2))], [.int (nI (dz (p % 2) b)), .int (nI (dz (p / 2) a)), .ref 24], s2) X := by
                  refine sg_X10_two_115 s2 _ _ _ _ _ _ _ _ _ X ⟨rfl, fun σ2 e2 => ?_⟩
                  rw [dzo.1] at e2
                  rw [e2, q1, nI_1, nI_clamp (by omega), nI_clamp (by omega), nI_1]
                  refine ⟨s3, k3, _, s3, ga, v_in (N := 8) (by omega) (by decide), fun σ10 e10 => ?_⟩
                  rw [e10]
                  refine ⟨_, _, gb, v_in (N := 8) (by omega) (by decide), fun σ16 e16 => ?_⟩
                  rw [e16]
                  exact hX
                have dza := dz_x a ha
                have dzb := dz_x b hb
                refine sg_X10_two_42 s _ _ _ _ d5 d6 X ⟨fun z => absurd z (nI_ge (b := 4) hp (by decide)), fun _ => ?_⟩
                rcases (show p = 0 ∨ p = 1 ∨ p = 2 ∨ p = 3 by omega) with rfl | rfl | rfl | rfl
                · refine ⟨fun _ => ⟨fun _ => ?_, fun z => absurd (by decide) z⟩, fun z => absurd (by decide) z⟩
                  refine sg_X10_two_74 s _ _ _ _ _ d6 _ X ⟨s2, k2, fun _ => ⟨fun _ => ?_, fun z => absurd rfl z⟩, fun z => absurd rfl z⟩
                  rw [dza.1, dzb.1]
                  exact last
                · refine ⟨fun _ => ⟨fun z => absurd (by decide) z, fun _ => ?_⟩, fun z => absurd (by decide) z⟩
                  refine sg_X10_two_74 s _ _ _ _ _ d6 _ X ⟨s2, k2, fun _ => ⟨fun z => absurd z (by decide), fun _ => ?_⟩, fun z => absurd rfl z⟩
                  rw [dza.1]
                  exact last
                · refine ⟨fun z => absurd z (by decide), fun _ => ⟨fun _ => ?_, fun z => absurd (by decide) z⟩⟩
                  refine sg_X10_two_74 s _ _ _ _ _ d6 _ X ⟨s2, k2, fun z => absurd z (by decide), fun _ => ⟨fun _ => ?_, fun z => absurd rfl z⟩⟩
                  rw [dzb.1]
                  exact last
                · refine ⟨fun z => absurd z (by decide), fun _ => ⟨fun z => absurd (by decide) z, fun _ => ?_⟩⟩
                  refine sg_X10_two_74 s _ _ _ _ _ d6 _ X ⟨s2, k2, fun z => absurd z (by decide), fun _ => ⟨fun z => absurd z (by decide), fun _ => ?_⟩⟩
                  exact last)
            4 0 (σ, .null, .null) rfl ⟨XQ.rf, fun i hi => absurd hi (by omega)⟩
          dsimp only at u1 f1 g1
          have xo : ∀ p, p < 4 → nI p ^^^ (2 : Int32) = nI (p ^^^ 2) ∧ nI p ^^^ (1 : Int32) = nI (p ^^^ 1) ∧ p ^^^ 2 < 4 ∧ p ^^^ 1 < 4 ∧ p ^^^ 2 = 2 * (1 - p / 2) + p % 2 ∧ p ^^^ 1 = 2 * (p / 2) + (1 - p % 2) := by decide +kernel
          have dv : ∀ p, p < 4 → nI p / (2 : Int32) = nI (p / 2) ∧ nI p - nI p / (2 : Int32) * (2 : Int32) = nI (p % 2) ∧ (1 : Int32) - nI (p / 2) = nI (1 - p / 2) ∧ (1 : Int32) - nI (p % 2) = nI (1 - p % 2) := by decide +kernel
          have tw : ∀ p, (2 : Int32) * nI p = nI (2 * p) := fun p => pk_mul 2 p
          obtain ⟨v, ev⟩ : ∃ v : Nat → Value, v = fun p => .int (((10 : Int32) * (nI p / (2 : Int32))) + (nI p - nI p / (2 : Int32) * (2 : Int32))) := ⟨_, rfl⟩
          have hv : ∀ p, v p = .int (((10 : Int32) * (nI p / (2 : Int32))) + (nI p - nI p / (2 : Int32) * (2 : Int32))) := fun p => by rw [ev]
          clear ev
          have gx : ∃ σ', mm_Go mm_m_X10_two (166, [.ref 0, .int (nI a), .int (nI b), .int (nI n), .int (nI 0), d5, d6], [], s1) (some (match n_find P 4 0 with | some i => v i | none => .int (-4)), σ') ∧ σ' = s1 := by
            have step : ∀ p, p < 4 → ∀ (d5 d6 : Value) (X : Option Value × mm_Sg), (P p = true → X = (some (v p), s1)) → (P p = false → mm_Go mm_m_X10_two (166, [.ref 0, .int (nI a), .int (nI b), .int (nI n), .int (nI (p + 1)), .int (nI (p ^^^ 2)), .int (nI (p ^^^ 1))], [], s1) X) → mm_Go mm_m_X10_two (166, [.ref 0, .int (nI a), .int (nI b), .int (nI n), .int (nI p), d5, d6], [], s1) X := fun p hp d5 d6 X h1 h2 => by
              obtain ⟨x2, x1, l2, l1, -, -⟩ := xo p hp
              refine sg_X10_two_166 s1 _ _ _ _ d5 d6 X ⟨fun z => absurd z (nI_ge (b := 4) hp (by decide)), fun _ => ?_⟩
              rw [x2, x1, tw, tw, tw, nI_1, nI_1, nI_1, nI_clamp (by omega), nI_clamp (by omega), nI_clamp (by omega), nI_clamp (by omega), (f1 p hp).1, (f1 p hp).2, (f1 _ l2).1, (f1 _ l1).2, ← hv]
              have e : P p = false ↔ ¬ (¬ G a p < G a (p ^^^ 2) ∧ ¬ G b p < G b (p ^^^ 1)) := by
                rw [← hP]
                cases P p <;> simp
              refine ⟨v_in (N := 8) (by omega) (by decide), v_in (N := 8) (by omega) (by decide), fun z => h2 (e.mpr (fun q => q.1 z)), fun z => ⟨v_in (N := 8) (by omega) (by decide), v_in (N := 8) (by omega) (by decide), fun z2 => h2 (e.mpr (fun q => q.2 z2)), fun z2 => h1 ((hP p).mpr ⟨z, z2⟩)⟩⟩
            have all : ∀ (d j : Nat) (d5 d6 : Value), j + d = 4 → mm_Go mm_m_X10_two (166, [.ref 0, .int (nI a), .int (nI b), .int (nI n), .int (nI j), d5, d6], [], s1) (some (match n_find P d j with | some i => v i | none => .int (-4)), s1) := by
              intro d
              induction d with
              | zero =>
                intro j d5 d6 e
                obtain rfl : j = 4 := by omega
                exact sg_X10_two_166 s1 _ _ _ _ d5 d6 _ ⟨fun _ => rfl, fun z => absurd (show (4 : Int32) ≤ nI 4 by decide) z⟩
              | succ d ih =>
                intro j d5 d6 e
                unfold n_find
                refine step j (by omega) d5 d6 _ (fun h => by rw [if_pos h]) (fun h => ?_)
                rw [if_neg (by rw [h]; decide)]
                exact ih (j + 1) _ _ (by omega)
            exact ⟨s1, all 4 0 d5 d6 rfl, rfl⟩
          obtain ⟨σ1, g2, es⟩ := gx
          rw [es] at g2
          have hm1 : s1 52 = ra R := by rw [u1 52 (by omega) (by omega)]; exact hm
          have m1 : s1 52 0 = nI (R 0) := by rw [hm1]; rfl
          have gm : ∃ σ2, mm_Go mm_m_X11_two (36, [.ref 51, .int (nI a), .int (nI b), .int (nI n), .int (nI 0), .null, .null], [], s1) (some (match n_find P 4 0 with | some i => v i | none => .int (-4)), σ2) ∧ mTh s1 σ2 ∧ z40 σ2 53 := by
            have all : ∀ (d j : Nat) (d5 d6 : Value) (s : mm_Sg), j + d = 4 → mTh s1 s → z40 s 53 → ∃ σ2, mm_Go mm_m_X11_two (36, [.ref 51, .int (nI a), .int (nI b), .int (nI n), .int (nI j), d5, d6], [], s) (some (match n_find P d j with | some i => v i | none => .int (-4)), σ2) ∧ mTh s1 σ2 ∧ z40 σ2 53 := by
              intro d
              induction d with
              | zero =>
                intro j d5 d6 s e t z
                obtain rfl : j = 4 := by omega
                exact ⟨s, sg_X11_two_36 s _ _ _ _ d5 d6 _ ⟨fun _ => rfl, fun z => absurd (show (4 : Int32) ≤ nI 4 by decide) z⟩, t, z⟩
              | succ d ih =>
                intro j d5 d6 s e t z
                have hj : j < 4 := by omega
                obtain ⟨x2, x1, l2, l1, y2, y1⟩ := xo j hj
                obtain ⟨e1, e2, e3, e4⟩ := dv j hj
                obtain ⟨s2, k2, t2, z2⟩ := mW_hasBy (n := n) (who := a) (p := j ^^^ 2) (x := 1 - j / 2) (y := j % 2) (by rw [t 52 (by decide) (by decide)]; exact hm1) wf z ha hb ha l2 (by omega) (by omega) (by omega)
                have t2 := t.trans t2
                obtain ⟨s3, k3, t3, z3⟩ := mW_hasBy (n := n) (who := a) (p := j) (x := j / 2) (y := j % 2) (by rw [t2 52 (by decide) (by decide)]; exact hm1) wf z2 ha hb ha hj rfl rfl (by omega)
                have t3 := t2.trans t3
                obtain ⟨s4, k4, t4, z4⟩ := mW_hasBy (n := n) (who := b) (p := j ^^^ 1) (x := j / 2) (y := 1 - j % 2) (by rw [t3 52 (by decide) (by decide)]; exact hm1) wf z3 ha hb hb l1 (by omega) (by omega) (by omega)
                have t4 := t3.trans t4
                obtain ⟨s5, k5, t5, z5⟩ := mW_hasBy (n := n) (who := b) (p := j) (x := j / 2) (y := j % 2) (by rw [t4 52 (by decide) (by decide)]; exact hm1) wf z4 ha hb hb hj rfl rfl (by omega)
                have t5 := t4.trans t5
                rw [hG2] at k2 k3 k4 k5
                have ee : P j = false ↔ ¬ (¬ G a j < G a (j ^^^ 2) ∧ ¬ G b j < G b (j ^^^ 1)) := by
                  rw [← hP]
                  cases P j <;> simp
                have go : ∀ X, (G a j < G a (j ^^^ 2) → mm_Go mm_m_X11_two (36, [.ref 51, .int (nI a), .int (nI b), .int (nI n), .int (nI (j + 1)), .int (nI (j / 2)), .int (nI (j % 2))], [], s3) X) → (¬ G a j < G a (j ^^^ 2) → ((G b j < G b (j ^^^ 1) → mm_Go mm_m_X11_two (36, [.ref 51, .int (nI a), .int (nI b), .int (nI n), .int (nI (j + 1)), .int (nI (j / 2)), .int (nI (j % 2))], [], s5) X) ∧ (¬ G b j < G b (j ^^^ 1) → X = (some (v j), s5)))) → mm_Go mm_m_X11_two (36, [.ref 51, .int (nI a), .int (nI b), .int (nI n), .int (nI j), d5, d6], [], s) X := fun X h1 h2 => by
                  refine sg_X11_two_36 s _ _ _ _ d5 d6 X ⟨fun z => absurd z (nI_ge (b := 4) hj (by decide)), fun _ => ?_⟩
                  rw [← hv, e2, e1, e3, e4, nI_1]
                  exact ⟨_, s2, k2, _, s3, k3, h1, fun q => ⟨_, s4, k4, _, s5, k5, h2 q⟩⟩
                unfold n_find
                by_cases c1 : G a j < G a (j ^^^ 2)
                · obtain ⟨σ2, g, t6, z6⟩ := ih (j + 1) (.int (nI (j / 2))) (.int (nI (j % 2))) s3 (by omega) t3 z3
                  rw [if_neg (by rw [ee.mpr (fun q => q.1 c1)]; decide)]
                  exact ⟨σ2, go _ (fun _ => g) (fun q => absurd c1 q), t6, z6⟩
                · by_cases c2 : G b j < G b (j ^^^ 1)
                  · obtain ⟨σ2, g, t6, z6⟩ := ih (j + 1) (.int (nI (j / 2))) (.int (nI (j % 2))) s5 (by omega) t5 z5
                    rw [if_neg (by rw [ee.mpr (fun q => q.2 c2)]; decide)]
                    exact ⟨σ2, go _ (fun q => absurd q c1) (fun _ => ⟨fun _ => g, fun q => absurd c2 q⟩), t6, z6⟩
                  · rw [if_pos ((hP j).mpr ⟨c1, c2⟩)]
                    exact ⟨s5, go _ (fun q => absurd q c1) (fun _ => ⟨fun q => absurd q c2, fun _ => rfl⟩), t5, z5⟩
            exact all 4 0 .null .null s1 rfl (fun _ _ _ => rfl) (fun i hi => by rw [u1 53 (by omega) (by omega)]; exact z53 i hi)
          obtain ⟨σ2, g3, t3, z3⟩ := gm
          have q2 : MQ2 s1 σ2 := ⟨fun q _ h1 h2 _ _ => t3 q h1 h2, by rw [t3 51 (by decide) (by decide)], z3⟩
          have nab : ¬ nI a = nI b := fun z => hab ((nI_eq (by omega) (by omega)).mp z)
          refine FQ.look hI (match n_find P 4 0 with | some i => v i | none => .int (-4)) ?_ ?_ u1 q2
          · refine sg_X10_two_0 σ _ _ _ _ ?_
            refine ⟨_, σ, ev_X1_has σ 10 _ (fun _ => rfl), ?_⟩
            rw [x_has σ h0 wf.1 (by omega), if_pos hka]
            first | refine g1a ?_ | refine g1b ?_ | refine g0a ?_ | refine g0b ?_
            refine ⟨_, σ, ev_X1_has σ 10 _ (fun _ => rfl), ?_⟩
            rw [x_has σ h0 wf.1 (by omega), if_pos hkb]
            first | refine g1a ?_ | refine g1b ?_ | refine g0a ?_ | refine g0b ?_
            refine ⟨fun z => absurd z nab, fun _ => ?_⟩
            refine ⟨_, σ, ev_X10_isBetween σ _ _ _, ?_⟩
            rw [show f_X10_isBetween σ (nI n) (1 : Int32) (30 : Int32) = 1 from bt_t σ (a := 1) (m := 30) ⟨by omega, by omega⟩ (by decide)]
            first | refine g1a ?_ | refine g1b ?_ | refine g0a ?_ | refine g0b ?_
            refine g1 _ (sg_X10_two_42 s1 _ _ _ _ d5 d6 _ ⟨fun _ => g2, fun z => absurd (show (4 : Int32) ≤ nI 4 by decide) z⟩)
          · refine sg_X11_two_0 s1 _ _ _ _ ?_
            refine ⟨_, s1, ev_X11_isDrinker s1 _, ?_⟩
            rw [m_dk s1 m1 wf.1 hka]
            first | refine g1a ?_ | refine g1b ?_ | refine g0a ?_ | refine g0b ?_
            refine ⟨_, s1, ev_X11_isDrinker s1 _, ?_⟩
            rw [m_dk s1 m1 wf.1 hkb]
            first | refine g1a ?_ | refine g1b ?_ | refine g0a ?_ | refine g0b ?_
            refine ⟨fun z => absurd z nab, fun _ => ?_⟩
            refine ⟨_, s1, ev_X11_isIn s1 _ _ _, ?_⟩
            rw [show f_X11_isIn s1 (nI n) (1 : Int32) (30 : Int32) = 1 from bt_t s1 (a := 1) (m := 30) ⟨by omega, by omega⟩ (by decide)]
            first | refine g1a ?_ | refine g1b ?_ | refine g0a ?_ | refine g0b ?_
            exact g3
        · have nab : ¬ nI a = nI b := fun z => hab ((nI_eq (by omega) (by omega)).mp z)
          refine FQ.refuse hI (.int (-1)) ?_ ?_
          · refine sg_X10_two_0 σ _ _ _ _ ?_
            refine ⟨_, σ, ev_X1_has σ 10 _ (fun _ => rfl), ?_⟩
            rw [x_has σ h0 wf.1 (by omega), if_pos hka]
            first | refine g1a ?_ | refine g1b ?_ | refine g0a ?_ | refine g0b ?_
            refine ⟨_, σ, ev_X1_has σ 10 _ (fun _ => rfl), ?_⟩
            rw [x_has σ h0 wf.1 (by omega), if_pos hkb]
            first | refine g1a ?_ | refine g1b ?_ | refine g0a ?_ | refine g0b ?_
            refine ⟨fun z => absurd z nab, fun _ => ?_⟩
            refine ⟨_, σ, ev_X10_isBetween σ _ _ _, ?_⟩
            rw [show f_X10_isBetween σ x3 (1 : Int32) (30 : Int32) = 0 from h3 σ]
            first | refine g1a ?_ | refine g1b ?_ | refine g0a ?_ | refine g0b ?_
            rfl
          · refine sg_X11_two_0 σ _ _ _ _ ?_
            refine ⟨_, σ, ev_X11_isDrinker σ _, ?_⟩
            rw [m_dk σ m0 wf.1 hka]
            first | refine g1a ?_ | refine g1b ?_ | refine g0a ?_ | refine g0b ?_
            refine ⟨_, σ, ev_X11_isDrinker σ _, ?_⟩
            rw [m_dk σ m0 wf.1 hkb]
            first | refine g1a ?_ | refine g1b ?_ | refine g0a ?_ | refine g0b ?_
            refine ⟨fun z => absurd z nab, fun _ => ?_⟩
            refine ⟨_, σ, ev_X11_isIn σ _ _ _, ?_⟩
            rw [show f_X11_isIn σ x3 (1 : Int32) (30 : Int32) = 0 from h3 σ]
            first | refine g1a ?_ | refine g1b ?_ | refine g0a ?_ | refine g0b ?_
            rfl
    · refine FQ.refuse hI (.int (-1)) ?_ ?_
      · refine sg_X10_two_0 σ _ _ _ _ ?_
        refine ⟨_, σ, ev_X1_has σ 10 _ (fun _ => rfl), ?_⟩
        rw [x_has σ h0 wf.1 (by omega), if_pos hka]
        first | refine g1a ?_ | refine g1b ?_ | refine g0a ?_ | refine g0b ?_
        refine ⟨_, σ, ev_X1_has σ 10 _ (fun _ => rfl), ?_⟩
        rw [x_hasf σ h0 wf.1 h2]
        first | refine g1a ?_ | refine g1b ?_ | refine g0a ?_ | refine g0b ?_
        rfl
      · refine sg_X11_two_0 σ _ _ _ _ ?_
        refine ⟨_, σ, ev_X11_isDrinker σ _, ?_⟩
        rw [m_dk σ m0 wf.1 hka]
        first | refine g1a ?_ | refine g1b ?_ | refine g0a ?_ | refine g0b ?_
        refine ⟨_, σ, ev_X11_isDrinker σ _, ?_⟩
        rw [m_dkf σ m0 wf.1 h2]
        first | refine g1a ?_ | refine g1b ?_ | refine g0a ?_ | refine g0b ?_
        rfl
  · refine FQ.refuse hI (.int (-1)) ?_ ?_
    · refine sg_X10_two_0 σ _ _ _ _ ?_
      refine ⟨_, σ, ev_X1_has σ 10 _ (fun _ => rfl), ?_⟩
      rw [x_hasf σ h0 wf.1 h1]
      first | refine g1a ?_ | refine g1b ?_ | refine g0a ?_ | refine g0b ?_
      rfl
    · refine sg_X11_two_0 σ _ _ _ _ ?_
      refine ⟨_, σ, ev_X11_isDrinker σ _, ?_⟩
      rw [m_dkf σ m0 wf.1 h1]
      first | refine g1a ?_ | refine g1b ?_ | refine g0a ?_ | refine g0b ?_
      rfl
