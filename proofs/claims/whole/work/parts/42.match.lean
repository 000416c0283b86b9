/-! the face: match -/
theorem n_find_lt {P : Nat → Bool} : ∀ (d j i : Nat), n_find P d j = some i → i < j + d ∧ P i = true
  | 0, j, i, h => by
    unfold n_find at h
    exact absurd h (by simp)
  | d + 1, j, i, h => by
    unfold n_find at h
    by_cases e : P j = true
    · rw [if_pos e] at h
      obtain rfl : j = i := by simpa using h
      exact ⟨by omega, e⟩
    · rw [if_neg e] at h
      have := n_find_lt d (j + 1) i h
      exact ⟨by omega, this.2⟩
def n_mq (c : Nat) (g : Nat → Nat) (t : Nat) : Nat → Nat
  | 0 => g t
  | w + 1 => if t.testBit w = true then n_mq c g t w else max (n_mq c g t w) (c + g (t ||| 2 ^ w))
/-- the most cups from the last d DRINKERS -/
def n_mw (C : Nat → Nat) (N : Nat) : Nat → Nat → Nat
  | 0, _ => 0
  | d + 1, t => n_mq (C (N - (d + 1))) (n_mw C N d) t 5
theorem n_mq_le {c t B : Nat} {g : Nat → Nat} (h : ∀ t, g t ≤ B) : ∀ w, n_mq c g t w ≤ B + c
  | 0 => Nat.le_trans (h t) (by omega)
  | w + 1 => by
    have h1 := n_mq_le (c := c) (t := t) h w
    have h2 := h (t ||| 2 ^ w)
    unfold n_mq
    split <;> omega
theorem n_mw_le {C : Nat → Nat} {N : Nat} (h : ∀ k, k < N → C k ≤ 12) : ∀ d, d ≤ N → ∀ t, n_mw C N d t ≤ 12 * d
  | 0, _, t => Nat.le_refl _
  | d + 1, hd, t => by
    have h1 := n_mq_le (c := C (N - (d + 1))) (t := t) (n_mw_le h d (by omega)) 5
    have h2 := h (N - (d + 1)) (by omega)
    unfold n_mw
    omega
theorem n_cell : ∀ k, k < 8 → ∀ t, t < 32 → (nI k <<< ((5 : Int32) &&& 31)) ||| nI t = nI (k * 32 + t) := by decide +kernel
theorem n_cell2 : ∀ k, k < 8 → ∀ t, t < 32 → ∀ w, w < 5 → nI (k * 32 + t) ||| ((1 : Int32) <<< (nI w &&& 31)) = nI (k * 32 + (t ||| 2 ^ w)) ∧ t ||| 2 ^ w < 32 := by decide +kernel
theorem n_orb : ∀ a, a < 32 → ∀ b, b < 32 → a ||| b < 32 := by decide +kernel
theorem x_cell (σ : mm_Sg) {k t : Nat} (hk : k < 8) (ht : t < 32) : f_X10_matchCell σ (nI k) (nI t) = nI (k * 32 + t) := by
  unfold f_X10_matchCell
  rw [show f_X10_isBetween σ (nI k) (0 : Int32) (7 : Int32) = 1 from bt_t σ (a := 0) (m := 7) ⟨by omega, by omega⟩ (by decide), if_neg (by decide), show f_X10_isBetween σ (nI t) (0 : Int32) (31 : Int32) = 1 from bt_t σ (a := 0) (m := 31) ⟨by omega, by omega⟩ (by decide), if_neg (by decide), show (32 : Int32) = nI 32 from rfl, pk_mul, nI_add]
theorem xW_mwf {σ : mm_Sg} {k t : Nat} (hk : k < 8) (ht : t < 32) : mm_Ev mm_m_X10_mostWokenFrom [.ref 0, .int (nI k), .int (nI t)] σ (some (.int (σ 48 (k * 32 + t)))) σ := by
  refine sg_X10_mostWokenFrom_0 σ _ _ _ ⟨_, σ, ev_X10_matchCell σ _ _, ?_⟩
  rw [x_cell σ hk ht, nI_clamp (by omega)]
  exact ⟨v_in (N := 256) (by omega) (by decide), rfl⟩
/-- the class's table -/
def xTab (C : Nat → Nat) (N d t : Nat) (s : mm_Sg) : Prop := ∀ k' t', k' ≤ N → t' < 32 → (N - k' ≤ d ∨ (N - k' = d + 1 ∧ t' < t)) → s 48 (k' * 32 + t') = nI (n_mw C N (N - k') t')
theorem xW_fillMW {σ : mm_Sg} {R : Nat → Nat} (hx : xr σ 10 R) (wf : n_wf 999 R) : ∃ σ', mm_Ev mm_m_X10_fillMostWoken [.ref 0] σ none σ' ∧ xTab (n_want R (R 1 + 1)) (R 0) (R 0) 0 σ' ∧ ∀ q, q ≠ 48 → σ' q = σ q := by
  have w7 := wf.1
  have d1 := wf.2.1
  obtain ⟨C, eC⟩ : ∃ C, C = n_want R (R 1 + 1) := ⟨_, rfl⟩
  have hC : ∀ k, k < R 0 → C k ≤ 12 := fun k hk => by rw [eC]; exact n_dr_le (wf.2.2.2.2.2.2.2.1 k (by omega)).2.1
  rw [← eC]
  obtain ⟨N, eN⟩ : ∃ N, N = R 0 := ⟨_, rfl⟩
  rw [← eN] at w7 hC ⊢
  obtain ⟨s0, g0, f1, f2, f3⟩ := jW_fill (σ := σ) (a := 48) (x := 0) (by decide) (by decide)
  obtain ⟨⟨⟨⟨s1, d2⟩, d3⟩, d4, d5⟩, ⟨T1, o1⟩, g1⟩ := mm_run (M := mm_m_X10_fillMostWoken) (α := ((mm_Sg × Value) × Value) × Value × Value) (fun d s => (18, [.ref 0, .int (nI (N - d) + (-1)), s.1.1.2, s.1.2, s.2.1, s.2.2], [], s.1.1.1)) N (fun d s => xTab C N d 0 s.1.1.1 ∧ ∀ q, q ≠ 48 → s.1.1.1 q = σ q)
    (fun d s hd ⟨T, o⟩ => by
      obtain ⟨⟨⟨s, d2⟩, d3⟩, d4, d5⟩ := s
      dsimp only at T o ⊢
      have hxs : xr s 10 R := xr_same hx (fun q _ _ => o q (by omega))
      obtain ⟨k, ek⟩ : ∃ k, k = N - (d + 1) := ⟨_, rfl⟩
      have ek1 : nI (N - d) + (-1 : Int32) = nI k := by rw [show N - d = k + 1 by omega, pk_m1]
      have cup := xW_thirst (k := k) (d := R 1 + 1) hxs wf (by omega) (by omega)
      rw [← eC] at cup
      obtain ⟨⟨s2, e4, e5⟩, ⟨T2, o2⟩, g2⟩ := mm_run (M := mm_m_X10_fillMostWoken) (α := mm_Sg × Value × Value) (fun t s => (42, [.ref 0, .int (nI k), .int (nI (C k)), .int (nI t), s.2.1, s.2.2], [], s.1)) 32 (fun t s => xTab C N d t s.1 ∧ ∀ q, q ≠ 48 → s.1 q = σ q)
        (fun t s ht ⟨T, o⟩ => by
          obtain ⟨s, e4, e5⟩ := s
          dsimp only at T o ⊢
          have up : ∀ t', t' < 32 → s 48 ((k + 1) * 32 + t') = nI (n_mw C N d t') := fun t' ht' => by
            have := T (k + 1) t' (by omega) ht' (Or.inl (by omega))
            rw [show N - (k + 1) = d by omega] at this
            exact this
          have hl := n_mw_le hC d (by omega)
          obtain ⟨-, -, g3⟩ := mm_run (M := mm_m_X10_fillMostWoken) (α := Unit) (fun w _ => (61, [.ref 0, .int (nI k), .int (nI (C k)), .int (nI t), .int (nI (n_mq (C k) (n_mw C N d) t w)), .int (nI w)], [], s)) 5 (fun _ _ => True)
            (fun w _ hw _ => ⟨(), trivial, fun X hX => sg_X10_fillMostWoken_61 s _ _ _ _ _ X ⟨fun z => absurd z (nI_ge (b := 5) hw (by decide)), fun _ => by
              have hmq := n_mq_le (c := C k) (t := t) hl w
              have hck := hC k (by omega)
              rw [n_has0 t (by omega) w (by omega), nI_1]
              cases hb : t.testBit w with
              | true =>
                rw [n_mq, if_pos hb] at hX
                exact ⟨fun _ => hX, fun z => absurd (show ¬ (1 : Int32) = 0 by decide) z⟩
              | false =>
                rw [n_mq, if_neg (by rw [hb]; decide)] at hX
                refine ⟨fun z => absurd rfl z, fun _ => ?_⟩
                have hb2 := (n_bitx t ht w hw).2
                rw [n_set t ht w hw, nI_1]
                refine ⟨_, s, xW_mwf (by omega) hb2, ?_⟩
                have hlt := hl (t ||| 2 ^ w)
                rw [up _ hb2, nI_add]
                rw [show (if nI (n_mq (C k) (n_mw C N d) t w) < nI (C k + n_mw C N d (t ||| 2 ^ w)) then nI (C k + n_mw C N d (t ||| 2 ^ w)) else nI (n_mq (C k) (n_mw C N d) t w)) = nI (max (n_mq (C k) (n_mw C N d) t w) (C k + n_mw C N d (t ||| 2 ^ w))) from by
                  by_cases l : n_mq (C k) (n_mw C N d) t w < C k + n_mw C N d (t ||| 2 ^ w)
                  · rw [if_pos (nI_lt l (by omega)), Nat.max_eq_right (by omega)]
                  · rw [if_neg (nI_nlt (by omega) (by omega)), Nat.max_eq_left (by omega)]]
                exact hX⟩⟩)
            5 0 () rfl trivial
          refine ⟨(mm_u s 48 (k * 32 + t) (nI (n_mw C N (d + 1) t)), .int (nI (n_mw C N (d + 1) t)), .int (nI 5)), ⟨fun k' t' hk' ht' h => ?_, fun q hq => by show (mm_u s 48 (k * 32 + t) (nI (n_mw C N (d + 1) t))) q = σ q; rw [mm_u_o hq, o q hq]⟩, fun X hX => sg_X10_fillMostWoken_42 s _ _ _ e4 e5 X ⟨fun z => absurd z (nI_ge (b := 32) ht (by decide)), fun _ => ?_⟩⟩
          · dsimp only
            by_cases e : k' * 32 + t' = k * 32 + t
            · have e1 : k' = k := by omega
              have e2 : t' = t := by omega
              rw [e1, e2, mm_u_kk, show N - k = d + 1 by omega]
            · rw [mm_u_k e]
              exact T k' t' hk' ht' (by omega)
          · rw [nI_1]
            refine ⟨_, s, xW_mwf (by omega) ht, ?_⟩
            rw [up t ht]
            refine g3 X (sg_X10_fillMostWoken_61 s _ _ _ _ _ X ⟨fun _ => ⟨_, s, ev_X10_matchCell s _ _, ?_⟩, fun z => absurd (show (5 : Int32) ≤ nI 5 by decide) z⟩)
            rw [x_cell s (by omega) ht, nI_clamp (by omega), nI_1]
            refine ⟨v_in (N := 256) (by omega) (by decide), fun σ6 e6 => ?_⟩
            have e7 : n_mq (C k) (n_mw C N d) t 5 = n_mw C N (d + 1) t := by
              rw [ek]
              rfl
            rw [e6, e7]
            exact hX)
        32 0 (s, d4, d5) rfl ⟨fun k' t' hk' ht' h => T k' t' hk' ht' (by omega), o⟩
      refine ⟨(((s2, .int (nI (C k))), .int (nI 32)), e4, e5), ⟨fun k' t' hk' ht' h => T2 k' t' hk' ht' (by omega), o2⟩, fun X hX => ?_⟩
      rw [ek1]
      refine sg_X10_fillMostWoken_18 s _ d2 d3 d4 d5 X ⟨fun z => absurd z (nI_pos (by omega)), fun _ => ?_⟩
      rw [hxs.2.1, nI_1]
      refine ⟨_, s, cup, g2 X (sg_X10_fillMostWoken_42 s2 _ _ _ e4 e5 X ⟨fun _ => ?_, fun z => absurd (show (32 : Int32) ≤ nI 32 by decide) z⟩)⟩
      dsimp only at hX
      rw [← ek] at hX
      exact hX)
    N 0 (((s0, .null), .null), .null, .null) (by omega) ⟨fun k' t' hk' ht' h => by
      show s0 48 (k' * 32 + t') = _
      rw [f1 (k' * 32 + t') (by show _ < 256; omega), show N - k' = 0 by omega]
      rfl, fun q hq => f3 q hq⟩
  dsimp only at T1 o1 g1
  refine ⟨s1, sg_X10_fillMostWoken_0 σ _ ⟨s0, g0, ?_⟩, T1, o1⟩
  have e1 : (s0 10 6) - (1 : Int32) = nI (N - 0) + (-1) := by
    rw [f3 10 (by decide), hx.1, eN, Nat.sub_zero]
    exact Int32.sub_eq_add_neg (nI (R 0)) 1
  rw [e1]
  refine g1 _ (sg_X10_fillMostWoken_18 s1 _ d2 d3 d4 d5 _ ⟨fun _ => rfl, fun z => absurd ?_ z⟩)
  rw [Nat.sub_self]
  decide
/-- the Model's table -/
def mTab (C : Nat → Nat) (N A d t : Nat) (s : mm_Sg) : Prop := ∀ k' t', k' ≤ N → t' < 32 → (N - k' < d ∨ (N - k' = d ∧ t' < t)) → s 58 (k' * 32 + t') = nI (n_mw C N (N - k') (t' ||| A))
theorem m_can (s : mm_Sg) {R : Nat → Nat} {w t : Nat} (hm : s 52 = ra R) (h3 : R 3 < 32) (hw : w < 5) (ht : t < 32) : f_X11_canWake s 51 (nI w) (nI t) = if (t ||| R 3).testBit w = true then 0 else 1 := by
  unfold f_X11_canWake
  rw [n_isAw s (q := 52) (R := R) (by rw [hm]; rfl) h3 (Or.inl hw), n_has s (by omega) (by omega), Nat.testBit_or]
  unfold n_aw
  have e : (w == 9) = false := by simp; omega
  rw [e]
  cases (R 3).testBit w <;> cases t.testBit w <;> rfl
theorem mW_matches {σ : mm_Sg} {R : Nat → Nat} (hm : σ 52 = ra R) (wf : n_wf 999 R) : ∃ σ', mm_Ev mm_m_X11_matches [.ref 51] σ none σ' ∧ mTab (n_want R (R 1 + 1)) (R 0) (R 3) (R 0 + 1) 0 σ' ∧ ∀ q, q ≠ 58 → σ' q = σ q := by
  have w7 := wf.1
  have d1 := wf.2.1
  have a32 := wf.2.2.2.1
  obtain ⟨C, eC⟩ : ∃ C, C = n_want R (R 1 + 1) := ⟨_, rfl⟩
  have hC : ∀ k, k < R 0 → C k ≤ 12 := fun k hk => by rw [eC]; exact n_dr_le (wf.2.2.2.2.2.2.2.1 k (by omega)).2.1
  rw [← eC]
  obtain ⟨N, eN⟩ : ∃ N, N = R 0 := ⟨_, rfl⟩
  rw [← eN] at w7 hC ⊢
  obtain ⟨⟨⟨s1, d2⟩, d3, d4⟩, ⟨T1, o1⟩, g1⟩ := mm_run (M := mm_m_X11_matches) (α := (mm_Sg × Value) × Value × Value) (fun d s => (7, [.ref 51, .int (nI (N + 1 - d) + (-1)), s.1.2, s.2.1, s.2.2], [], s.1.1)) (N + 1) (fun d s => mTab C N (R 3) d 0 s.1.1 ∧ ∀ q, q ≠ 58 → s.1.1 q = σ q)
    (fun d s hd ⟨T, o⟩ => by
      obtain ⟨⟨s, d2⟩, d3, d4⟩ := s
      dsimp only at T o ⊢
      obtain ⟨k, ek⟩ : ∃ k, k = N - d := ⟨_, rfl⟩
      have ek1 : nI (N + 1 - d) + (-1 : Int32) = nI k := by rw [show N + 1 - d = k + 1 by omega, pk_m1]
      obtain ⟨⟨s2, e3, e4⟩, ⟨T2, o2⟩, g2⟩ := mm_run (M := mm_m_X11_matches) (α := mm_Sg × Value × Value) (fun t s => (13, [.ref 51, .int (nI k), .int (nI t), s.2.1, s.2.2], [], s.1)) 32 (fun t s => mTab C N (R 3) d t s.1 ∧ ∀ q, q ≠ 58 → s.1 q = σ q)
        (fun t s ht ⟨T, o⟩ => by
          obtain ⟨s, e3, e4⟩ := s
          dsimp only at T o ⊢
          have hms : s 52 = ra R := by rw [o 52 (by decide)]; exact hm
          have m0 : s 52 0 = nI N := by rw [hms, eN]; rfl
          have c1 := n_cell k (by omega) t ht
          have step : ∀ (v e5 : Nat) (_ : e5 ≤ 5) (X : Option Value × mm_Sg), v = n_mw C N d (t ||| R 3) → (k = N ∨ e5 = 5) → (mm_Go mm_m_X11_matches (13, [.ref 51, .int (nI k), .int (nI (t + 1)), .int (nI v), .int (nI e5)], [], mm_u s 58 (k * 32 + t) (nI (n_mw C N d (t ||| R 3)))) X) → mm_Go mm_m_X11_matches (49, [.ref 51, .int (nI k), .int (nI t), .int (nI v), .int (nI e5)], [], s) X := fun v e5 he X ev h5 hX => by
            have fin : (vp_in ((nI k <<< ((5 : Int32) &&& 31)) ||| nI t) (mm_len 58)) ∧ ∀ σ3 : mm_Sg, σ3 = mm_u s 58 ((nI k <<< ((5 : Int32) &&& 31)) ||| nI t).toNatClampNeg (nI v) → mm_Go mm_m_X11_matches (13, [.ref 51, .int (nI k), .int (nI t + (1 : Int32)), .int (nI v), .int (nI e5)], [], σ3) X := by
              rw [c1, nI_clamp (by omega), nI_1]
              refine ⟨v_in (N := 256) (by omega) (by decide), fun σ3 e3 => ?_⟩
              rw [← ev] at hX
              rw [e3]
              exact hX
            refine sg_X11_matches_49 s _ _ _ _ X ⟨fun _ => fin, fun z5 => ⟨fun _ => fin, fun z => absurd ?_ z⟩⟩
            rcases h5 with h5 | h5
            · rw [m0, h5]
              exact nI_le (Nat.le_refl _) (by omega)
            · exact absurd (by rw [h5]; decide) z5
          by_cases hkN : k = N
          · have hd0 : d = 0 := by omega
            refine ⟨(mm_u s 58 (k * 32 + t) (nI (n_mw C N d (t ||| R 3))), .int (nI 0), .int (nI 0)), ⟨fun k' t' hk' ht' h => ?_, fun q hq => by show (mm_u s 58 (k * 32 + t) (nI (n_mw C N d (t ||| R 3)))) q = σ q; rw [mm_u_o hq, o q hq]⟩, fun X hX => sg_X11_matches_13 s _ _ e3 e4 X ⟨fun z => absurd z (nI_ge (b := 32) ht (by decide)), fun _ => ⟨fun z => absurd (by rw [m0, hkN]) z, fun _ => step 0 0 (by decide) X (by rw [hd0]; rfl) (Or.inl hkN) hX⟩⟩⟩
            dsimp only
            by_cases e : k' * 32 + t' = k * 32 + t
            · have e1 : k' = k := by omega
              have e2 : t' = t := by omega
              rw [e1, e2, mm_u_kk, show N - k = d by omega]
            · rw [mm_u_k e]
              exact T k' t' hk' ht' (by omega)
          · obtain ⟨d', ed⟩ : ∃ d', d = d' + 1 := ⟨d - 1, by omega⟩
            have up : ∀ t', t' < 32 → s 58 ((k + 1) * 32 + t') = nI (n_mw C N d' (t' ||| R 3)) := fun t' ht' => by
              have := T (k + 1) t' (by omega) ht' (Or.inl (by omega))
              rw [show N - (k + 1) = d' by omega] at this
              exact this
            have hl := n_mw_le hC d' (by omega)
            have c2 := n_cell (k + 1) (by omega) t ht
            have tA := n_orb t ht (R 3) a32
            obtain ⟨-, -, g3⟩ := mm_run (M := mm_m_X11_matches) (α := Unit) (fun w _ => (49, [.ref 51, .int (nI k), .int (nI t), .int (nI (n_mq (C k) (n_mw C N d') (t ||| R 3) w)), .int (nI w)], [], s)) 5 (fun _ _ => True)
              (fun w _ hw _ => ⟨(), trivial, fun X hX => sg_X11_matches_49 s _ _ _ _ X ⟨fun z => absurd z (nI_ge (b := 5) hw (by decide)), fun _ => ⟨fun z => absurd (by rw [m0] at z; exact z) (nI_ge (show k < N by omega) (by omega)), fun _ => by
                have hmq := n_mq_le (c := C k) (t := t ||| R 3) hl w
                have hck := hC k (by omega)
                refine ⟨_, s, ev_X11_canWake s _ _ (fun _ => by unfold vp_in; decide), ?_⟩
                rw [m_can s hms a32 hw ht, nI_1]
                cases hb : (t ||| R 3).testBit w with
                | true =>
                  rw [n_mq, if_pos hb] at hX
                  exact ⟨fun _ => hX, fun z => absurd rfl z⟩
                | false =>
                  rw [n_mq, if_neg (by rw [hb]; decide)] at hX
                  refine ⟨fun z => absurd z (show ¬ (1 : Int32) = 0 by decide), fun _ => ?_⟩
                  have nx := mW_next (k := k) hms wf (by decide) (by omega)
                  rw [← eC] at nx
                  obtain ⟨c3, c4⟩ := n_cell2 (k + 1) (by omega) t ht w hw
                  have hlt := hl ((t ||| 2 ^ w) ||| R 3)
                  have eor : (t ||| R 3) ||| 2 ^ w = (t ||| 2 ^ w) ||| R 3 := by rw [Nat.or_assoc, Nat.or_comm (R 3), ← Nat.or_assoc]
                  rw [eor] at hX
                  refine ⟨_, s, nx, ?_⟩
                  rw [nI_1, c2, c3, nI_clamp (by omega), up _ c4, nI_add]
                  refine ⟨v_in (N := 256) (by omega) (by decide), fun q => ?_, fun q => ⟨_, s, nx, ?_⟩⟩
                  · rw [Nat.max_eq_left (by
                      rcases Nat.lt_or_ge (n_mq (C k) (n_mw C N d') (t ||| R 3) w) (C k + n_mw C N d' (t ||| 2 ^ w ||| R 3)) with l | l
                      · exact absurd q (nI_ge l (by omega))
                      · exact l)] at hX
                    exact hX
                  · rw [Nat.max_eq_right (by
                      rcases Nat.lt_or_ge (n_mq (C k) (n_mw C N d') (t ||| R 3) w) (C k + n_mw C N d' (t ||| 2 ^ w ||| R 3)) with l | l
                      · omega
                      · exact absurd (nI_le l (by omega)) q)] at hX
                    rw [up _ c4, nI_add]
                    exact hX⟩⟩⟩)
              5 0 () rfl trivial
            have e7 : n_mq (C k) (n_mw C N d') (t ||| R 3) 5 = n_mw C N d (t ||| R 3) := by
              rw [ed, ek, ed]
              rfl
            rw [e7] at g3
            refine ⟨(mm_u s 58 (k * 32 + t) (nI (n_mw C N d (t ||| R 3))), .int (nI (n_mw C N d (t ||| R 3))), .int (nI 5)), ⟨fun k' t' hk' ht' h => ?_, fun q hq => by show (mm_u s 58 (k * 32 + t) (nI (n_mw C N d (t ||| R 3)))) q = σ q; rw [mm_u_o hq, o q hq]⟩, fun X hX => sg_X11_matches_13 s _ _ e3 e4 X ⟨fun z => absurd z (nI_ge (b := 32) ht (by decide)), fun _ => ⟨fun _ => ?_, fun z => absurd (fun e => hkN ((nI_eq (by omega) (by omega)).mp (e.trans m0))) z⟩⟩⟩
            · dsimp only
              by_cases e : k' * 32 + t' = k * 32 + t
              · have e1 : k' = k := by omega
                have e2 : t' = t := by omega
                rw [e1, e2, mm_u_kk, show N - k = d by omega]
              · rw [mm_u_k e]
                exact T k' t' hk' ht' (by omega)
            · rw [nI_1, c2, nI_clamp (by omega), up t ht]
              exact ⟨v_in (N := 256) (by omega) (by decide), g3 X (step _ 5 (by decide) X rfl (Or.inr rfl) hX)⟩)
        32 0 (s, d3, d4) rfl ⟨fun k' t' hk' ht' h => T k' t' hk' ht' (by omega), o⟩
      refine ⟨((s2, .int (nI 32)), e3, e4), ⟨fun k' t' hk' ht' h => T2 k' t' hk' ht' (by omega), o2⟩, fun X hX => ?_⟩
      rw [ek1]
      refine sg_X11_matches_7 s _ d2 d3 d4 X ⟨fun z => absurd z (nI_pos (by omega)), fun _ => ?_⟩
      refine g2 X (sg_X11_matches_13 s2 _ _ e3 e4 X ⟨fun _ => ?_, fun z => absurd (show (32 : Int32) ≤ nI 32 by decide) z⟩)
      dsimp only at hX
      rw [show N + 1 - (d + 1) = k by omega] at hX
      exact hX)
    (N + 1) 0 ((σ, .null), .null, .null) (by omega) ⟨fun k' t' hk' ht' h => absurd h (by omega), fun _ _ => rfl⟩
  dsimp only at T1 o1 g1
  refine ⟨s1, sg_X11_matches_0 σ _ ?_, T1, o1⟩
  have e1 : σ 52 0 = nI (N + 1 - 0) + (-1) := by
    rw [hm, eN, Nat.sub_zero, pk_m1]
    rfl
  rw [e1]
  refine g1 _ (sg_X11_matches_7 s1 _ d2 d3 d4 _ ⟨fun _ => rfl, fun z => absurd ?_ z⟩)
  rw [Nat.sub_self]
  decide
/-- the first WAKER that one is given, if WAKERS t are taken -/
def n_fp (C : Nat → Nat) (N i t : Nat) : Nat → Bool := fun w => !(t.testBit w) && decide (C i + n_mw C N (N - (i + 1)) (t ||| 2 ^ w) = n_mw C N (N - i) t)
theorem xW_first {σ : mm_Sg} {R : Nat → Nat} {i t : Nat} (hx : xr σ 10 R) (wf : n_wf 999 R) (T : xTab (n_want R (R 1 + 1)) (R 0) (R 0) 0 σ) (hi : i < R 0) (ht : t < 32) : mm_Ev mm_m_X10_firstMatchOf [.ref 0, .int (nI i), .int (nI t)] σ (some (.int (n_fv (n_fp (n_want R (R 1 + 1)) (R 0) i t) 5 0 9))) σ := by
  have w7 := wf.1
  have d1 := wf.2.1
  have cup := xW_thirst (k := i) (d := R 1 + 1) hx wf hi (by omega)
  obtain ⟨C, eC⟩ : ∃ C, C = n_want R (R 1 + 1) := ⟨_, rfl⟩
  have hC : ∀ k, k < R 0 → C k ≤ 12 := fun k hk => by rw [eC]; exact n_dr_le (wf.2.2.2.2.2.2.2.1 k (by omega)).2.1
  rw [← eC] at T ⊢
  have cup : mm_Ev mm_m_X1_thirstOf [.ref 10, .int (nI i), .int (nI (R 1 + 1))] σ (some (.int (nI (C i)))) σ := by rw [eC]; exact cup
  obtain ⟨N, eN⟩ : ∃ N, N = R 0 := ⟨_, rfl⟩
  rw [← eN] at w7 hC T hi ⊢
  have hl := n_mw_le hC
  have hci := hC i hi
  have tab : ∀ k' t', k' ≤ N → t' < 32 → σ 48 (k' * 32 + t') = nI (n_mw C N (N - k') t') := fun k' t' h1 h2 => T k' t' h1 h2 (Or.inl (by omega))
  have l0 := hl (N - i) (by omega) t
  obtain ⟨P, eP⟩ : ∃ P, P = n_fp C N i t := ⟨_, rfl⟩
  rw [← eP]
  have hP : ∀ w, w < 5 → P w = (!(t.testBit w) && decide (C i + n_mw C N (N - (i + 1)) (t ||| 2 ^ w) = n_mw C N (N - i) t)) := fun w _ => by rw [eP]; rfl
  have one : ∀ w, w < 5 → ∀ X, (P w = true → X = (some (.int (nI w)), σ)) → (P w = false → mm_Go mm_m_X10_firstMatchOf (29, [.ref 0, .int (nI i), .int (nI t), .int (nI (C i)), .int (nI (n_mw C N (N - i) t)), .int (nI (w + 1))], [], σ) X) → mm_Go mm_m_X10_firstMatchOf (29, [.ref 0, .int (nI i), .int (nI t), .int (nI (C i)), .int (nI (n_mw C N (N - i) t)), .int (nI w)], [], σ) X := fun w hw X h1 h2 => by
    refine sg_X10_firstMatchOf_29 σ _ _ _ _ _ X ⟨fun z => absurd z (nI_ge (b := 5) hw (by decide)), fun _ => ?_⟩
    rw [n_has0 t (by omega) w (by omega), nI_1]
    have hb2 := (n_bitx t ht w hw).2
    have l1 := hl (N - (i + 1)) (by omega) (t ||| 2 ^ w)
    rw [hP w hw] at h1 h2
    cases hb : t.testBit w with
    | true =>
      rw [hb] at h2
      exact ⟨fun _ => h2 rfl, fun z => absurd (show ¬ (1 : Int32) = 0 by decide) z⟩
    | false =>
      rw [hb] at h1 h2
      refine ⟨fun z => absurd rfl z, fun _ => ?_⟩
      rw [n_set t ht w hw, nI_1]
      refine ⟨_, σ, xW_mwf (by omega) hb2, ?_⟩
      rw [tab (i + 1) _ (by omega) hb2, nI_add, nI_eq (by omega) (by omega)]
      exact ⟨fun q => h2 (by simp [q]), fun q => h1 (by simp [Classical.not_not.mp q])⟩
  have all : ∀ (d w : Nat), w + d = 5 → mm_Go mm_m_X10_firstMatchOf (29, [.ref 0, .int (nI i), .int (nI t), .int (nI (C i)), .int (nI (n_mw C N (N - i) t)), .int (nI w)], [], σ) (some (.int (n_fv P d w 9)), σ) := by
    intro d
    induction d with
    | zero =>
      intro w e
      obtain rfl : w = 5 := by omega
      exact sg_X10_firstMatchOf_29 σ _ _ _ _ _ _ ⟨fun _ => rfl, fun z => absurd (show (5 : Int32) ≤ nI 5 by decide) z⟩
    | succ d ih =>
      intro w e
      unfold n_fv n_find
      refine one w (by omega) _ (fun h => by rw [if_pos h]) (fun h => ?_)
      rw [if_neg (by rw [h]; decide)]
      exact ih (w + 1) (by omega)
  refine sg_X10_firstMatchOf_0 σ _ _ _ ?_
  rw [hx.2.1, nI_1]
  refine ⟨_, σ, cup, _, σ, xW_mwf (by omega) ht, ?_⟩
  rw [tab i t (by omega) ht]
  exact all 5 0 rfl
theorem mW_first {σ : mm_Sg} {R : Nat → Nat} {i t : Nat} (hm : σ 52 = ra R) (wf : n_wf 999 R) (T : mTab (n_want R (R 1 + 1)) (R 0) (R 3) (R 0 + 1) 0 σ) (hi : i < R 0) (ht : t < 32) : mm_Ev mm_m_X11_wakerOf [.ref 51, .int (nI i), .int (nI t)] σ (some (.int (n_fv (n_fp (n_want R (R 1 + 1)) (R 0) i (t ||| R 3)) 5 0 (-4)))) σ := by
  have w7 := wf.1
  have d1 := wf.2.1
  have a32 := wf.2.2.2.1
  have nx := mW_next (k := i) hm wf (by decide) (by omega)
  obtain ⟨C, eC⟩ : ∃ C, C = n_want R (R 1 + 1) := ⟨_, rfl⟩
  have hC : ∀ k, k < R 0 → C k ≤ 12 := fun k hk => by rw [eC]; exact n_dr_le (wf.2.2.2.2.2.2.2.1 k (by omega)).2.1
  rw [← eC] at T nx ⊢
  obtain ⟨N, eN⟩ : ∃ N, N = R 0 := ⟨_, rfl⟩
  rw [← eN] at w7 hC T hi ⊢
  have hl := n_mw_le hC
  have hci := hC i hi
  have tab : ∀ k' t', k' ≤ N → t' < 32 → σ 58 (k' * 32 + t') = nI (n_mw C N (N - k') (t' ||| R 3)) := fun k' t' h1 h2 => T k' t' h1 h2 (Or.inl (by omega))
  have l0 := hl (N - i) (by omega) (t ||| R 3)
  obtain ⟨P, eP⟩ : ∃ P, P = n_fp C N i (t ||| R 3) := ⟨_, rfl⟩
  rw [← eP]
  have hP : ∀ w, w < 5 → P w = (!((t ||| R 3).testBit w) && decide (C i + n_mw C N (N - (i + 1)) ((t ||| R 3) ||| 2 ^ w) = n_mw C N (N - i) (t ||| R 3))) := fun w _ => by rw [eP]; rfl
  have c1 := n_cell i (by omega) t ht
  have c2 := n_cell (i + 1) (by omega) t ht
  have one : ∀ w, w < 5 → ∀ X, (P w = true → X = (some (.int (nI w)), σ)) → (P w = false → mm_Go mm_m_X11_wakerOf (2, [.ref 51, .int (nI i), .int (nI t), .int (nI (w + 1))], [], σ) X) → mm_Go mm_m_X11_wakerOf (2, [.ref 51, .int (nI i), .int (nI t), .int (nI w)], [], σ) X := fun w hw X h1 h2 => by
    refine sg_X11_wakerOf_2 σ _ _ _ X ⟨fun z => absurd z (nI_ge (b := 5) hw (by decide)), fun _ => ⟨_, σ, ev_X11_canWake σ _ _ (fun _ => by unfold vp_in; decide), ?_⟩⟩
    rw [m_can σ hm a32 hw ht, nI_1]
    rw [hP w hw] at h1 h2
    have eor : (t ||| R 3) ||| 2 ^ w = (t ||| 2 ^ w) ||| R 3 := by rw [Nat.or_assoc, Nat.or_comm (R 3), ← Nat.or_assoc]
    have l1 := hl (N - (i + 1)) (by omega) ((t ||| 2 ^ w) ||| R 3)
    obtain ⟨c3, c4⟩ := n_cell2 (i + 1) (by omega) t ht w hw
    cases hb : (t ||| R 3).testBit w with
    | true =>
      rw [hb] at h2
      exact ⟨fun _ => h2 rfl, fun z => absurd rfl z⟩
    | false =>
      rw [hb, eor] at h1 h2
      refine ⟨fun z => absurd z (show ¬ (1 : Int32) = 0 by decide), fun _ => ⟨_, σ, nx, ?_⟩⟩
      rw [nI_1, c2, c3, c1, nI_clamp (by omega), nI_clamp (by omega), tab _ _ (by omega) c4, tab _ _ (by omega) ht, nI_add, nI_eq (by omega) (by omega)]
      exact ⟨v_in (N := 256) (by omega) (by decide), v_in (N := 256) (by omega) (by decide), fun q => h2 (by simp [q]), fun q => h1 (by simp [Classical.not_not.mp q])⟩
  have all : ∀ (d w : Nat), w + d = 5 → mm_Go mm_m_X11_wakerOf (2, [.ref 51, .int (nI i), .int (nI t), .int (nI w)], [], σ) (some (.int (n_fv P d w (-4))), σ) := by
    intro d
    induction d with
    | zero =>
      intro w e
      obtain rfl : w = 5 := by omega
      exact sg_X11_wakerOf_2 σ _ _ _ _ ⟨fun _ => rfl, fun z => absurd (show (5 : Int32) ≤ nI 5 by decide) z⟩
    | succ d ih =>
      intro w e
      unfold n_fv n_find
      refine one w (by omega) _ (fun h => by rw [if_pos h]) (fun h => ?_)
      rw [if_neg (by rw [h]; decide)]
      exact ih (w + 1) (by omega)
  exact sg_X11_wakerOf_0 σ _ _ _ (all 5 0 rfl)
/-- who is taken once so many have been given theirs -/
def n_tk (C : Nat → Nat) (N A : Nat) : Nat → Nat
  | 0 => 0
  | i + 1 => match n_find (n_fp C N i (n_tk C N A i ||| A)) 5 0 with
    | some w => n_tk C N A i ||| 2 ^ w
    | none => n_tk C N A i
theorem n_tk_lt (C : Nat → Nat) (N A : Nat) : ∀ i, n_tk C N A i < 32
  | 0 => by show 0 < 32; decide
  | i + 1 => by
    have ih := n_tk_lt C N A i
    unfold n_tk
    cases h : n_find (n_fp C N i (n_tk C N A i ||| A)) 5 0 with
    | none => exact ih
    | some w =>
      have := (n_find_lt 5 0 w h).1
      exact (n_bitx _ ih w (by omega)).2
theorem F_match {σ : mm_Sg} (hI : Inv σ) (x1 : Int32) : FQ mm_m_X10_match mm_m_X11_match [.int x1] σ := by
  obtain ⟨⟨R, hcp⟩, hi, z53, z54, z55, hs⟩ := id hI
  obtain ⟨wf, r4, r5, r6, hx, hm⟩ := id hcp
  have h0 : σ 10 6 = nI (R 0) := hx.1
  have m0 : σ 52 0 = nI (R 0) := by rw [hm]; rfl
  have w7 := wf.1
  have d1 := wf.2.1
  have a32 := wf.2.2.2.1
  obtain ⟨σ1, gf, T1, o1⟩ := xW_fillMW hx wf
  have x1' : xr σ1 10 R := xr_same hx (fun q _ _ => o1 q (by omega))
  have hm1 : σ1 52 = ra R := by rw [o1 52 (by decide)]; exact hm
  have m1 : σ1 52 0 = nI (R 0) := by rw [hm1]; rfl
  obtain ⟨σ2, gm, T2, o2⟩ := mW_matches hm1 wf
  have u1 : XQ σ σ1 := fun q _ h => o1 q (by omega)
  have q2 : MQ2 σ1 σ2 := ⟨fun q _ _ _ _ h => o2 q h, by rw [o2 51 (by decide)], fun i hi => by rw [o2 53 (by decide), o1 53 (by decide)]; exact z53 i hi⟩
  have hm2 : σ2 52 = ra R := by rw [o2 52 (by decide)]; exact hm1
  have e10 : σ1 10 7 = nI (R 3) := x1'.2.2.2.1
  by_cases hn1 : x1 = -1
  · subst hn1
    refine FQ.look hI (.int (nI (n_mw (n_want R (R 1 + 1)) (R 0) (R 0) (R 3)))) ?_ ?_ u1 q2
    · refine sg_X10_match_0 σ _ _ ⟨fun _ => sg_X10_match_18 σ _ _ ⟨σ1, gf, fun z => absurd rfl z, fun _ => ?_⟩, fun z => absurd rfl z⟩
      rw [e10]
      have g := xW_mwf (σ := σ1) (k := 0) (t := R 3) (by decide) a32
      rw [T1 0 (R 3) (by omega) a32 (Or.inl (by omega)), Nat.sub_zero] at g
      exact ⟨_, σ1, g, rfl⟩
    · refine sg_X11_match_0 σ1 _ _ ⟨fun _ => ⟨σ2, gm, fun z => absurd z (by decide), fun _ => ?_⟩, fun z => absurd rfl z⟩
      have g := T2 0 0 (by omega) (by decide) (Or.inl (by omega))
      rw [Nat.sub_zero, Nat.zero_or] at g
      rw [show σ2 58 0 = _ from g]
  · by_cases h1 : vp_in x1 (R 0)
    · obtain ⟨k, hk, rfl⟩ := vp_in_of h1 (by omega)
      have tkl := n_tk_lt (n_want R (R 1 + 1)) (R 0) (R 3)
      obtain ⟨Tk, eT⟩ : ∃ Tk, Tk = n_tk (n_want R (R 1 + 1)) (R 0) (R 3) := ⟨_, rfl⟩
      rw [← eT] at tkl
      obtain ⟨O, eO⟩ : ∃ O : Nat → Option Nat, O = fun i => n_find (n_fp (n_want R (R 1 + 1)) (R 0) i (Tk i ||| R 3)) 5 0 := ⟨_, rfl⟩
      have hv : ∀ i z, n_fv (n_fp (n_want R (R 1 + 1)) (R 0) i (Tk i ||| R 3)) 5 0 z = (match O i with | some w => nI w | none => z) := fun i z => by rw [eO]; rfl
      have hO : ∀ i w, O i = some w → w < 5 := fun i w h => by
        rw [eO] at h
        have := (n_find_lt 5 0 w h).1
        omega
      have tS : ∀ i w, O i = some w → Tk (i + 1) = Tk i ||| 2 ^ w := fun i w h => by
        rw [eO, eT] at h
        rw [eT, n_tk]
        dsimp only at h
        rw [h]
      have tN : ∀ i, O i = none → Tk (i + 1) = Tk i := fun i h => by
        rw [eO, eT] at h
        rw [eT, n_tk]
        dsimp only at h
        rw [h]
      have T0 : Tk 0 = 0 := by rw [eT]; rfl
      clear eO eT
      obtain ⟨res, eres⟩ : ∃ res : Int32, res = (match O k with | some w => nI w | none => -4) := ⟨_, rfl⟩
      have hk7 : k < 7 := by omega
      have nk1 : ¬ nI k = (-1 : Int32) := fun z => by
        have := congrArg Int32.toInt z
        rw [nI_toInt (by omega)] at this
        have e : (-1 : Int32).toInt = -1 := by decide
        omega
      refine FQ.look hI (.int res) ?_ ?_ u1 q2
      · have step : ∀ i (ch : Int32) X, i < R 0 → i ≤ k → mm_Go mm_m_X10_match (48, [.ref 0, .int (nI k), .int (nI (Tk (i + 1) ||| R 3)), .int (match O i with | some w => nI w | none => 9), .int (nI (i + 1))], [], σ1) X → mm_Go mm_m_X10_match (48, [.ref 0, .int (nI k), .int (nI (Tk i ||| R 3)), .int ch, .int (nI i)], [], σ1) X := fun i ch X hi hik hX => by
          have tl := n_orb _ (tkl i) _ a32
          have g := xW_first (i := i) (t := Tk i ||| R 3) x1' wf T1 hi tl
          rw [hv] at g
          refine sg_X10_match_48 σ1 _ _ _ _ X ⟨fun z => absurd z (nI_nlt hik (by omega)), fun _ => ⟨_, σ1, g, _, σ1, ev_X10_isWaker σ1 _, ?_⟩⟩
          cases h : O i with
          | none =>
            rw [h, tN i h] at hX
            rw [nI_1]
            exact ⟨fun _ => hX, fun z => absurd (show f_X10_isWaker σ1 9 = 0 from rfl) z⟩
          | some w =>
            have hw := hO i w h
            rw [h, tS i w h] at hX
            dsimp only at hX ⊢
            rw [x_wk σ1 hw, nI_1, n_set _ tl w hw]
            have eor : (Tk i ||| R 3) ||| 2 ^ w = (Tk i ||| 2 ^ w) ||| R 3 := by rw [Nat.or_assoc, Nat.or_comm (R 3), ← Nat.or_assoc]
            rw [eor]
            exact ⟨fun z => absurd z (show ¬ (1 : Int32) = 0 by decide), fun _ => hX⟩
        obtain ⟨ch, -, g⟩ := mm_run (M := mm_m_X10_match) (α := Int32) (fun i ch => (48, [.ref 0, .int (nI k), .int (nI (Tk i ||| R 3)), .int ch, .int (nI i)], [], σ1)) k (fun _ _ => True)
          (fun i ch hi _ => ⟨_, trivial, fun X hX => step i ch X (by omega) (by omega) hX⟩)
          k 0 9 (by omega) trivial
        have g0 : mm_Go mm_m_X10_match (18, [.ref 0, .int (nI k), .null, .null, .null], [], σ) (some (.int res), σ1) := by
          refine sg_X10_match_18 σ _ _ ⟨σ1, gf, fun _ => ?_, fun z => absurd nk1 z⟩
          rw [e10]
          rw [T0, Nat.zero_or] at g
          refine g _ (step k ch _ hk (Nat.le_refl _) (sg_X10_match_48 σ1 _ _ _ _ _ ⟨fun _ => ⟨_, σ1, ev_X10_isWaker σ1 _, ?_⟩, fun z => absurd (nI_lt (by omega) (by omega)) z⟩))
          rw [eres]
          cases h : O k with
          | none => exact ⟨fun _ => rfl, fun z => absurd (show f_X10_isWaker σ1 9 = 0 from rfl) z⟩
          | some w =>
            dsimp only
            rw [x_wk σ1 (hO k w h)]
            exact ⟨fun z => absurd z (show ¬ (1 : Int32) = 0 by decide), fun _ => rfl⟩
        refine sg_X10_match_0 σ _ _ ⟨fun z => absurd z nk1, fun _ => ?_⟩
        refine ⟨_, σ, ev_X1_has σ 10 _ (fun _ => rfl), ?_⟩
        rw [x_has σ h0 wf.1 (by omega), if_pos hk]
        first | refine g1a ?_ | refine g1b ?_ | refine g0a ?_ | refine g0b ?_
        exact g0
      · obtain ⟨d4, -, g⟩ := mm_run (M := mm_m_X11_match) (α := Value) (fun i d4 => (34, [.ref 51, .int (nI k), .int (nI (Tk i)), .int (nI i), d4], [], σ2)) k (fun _ _ => True)
          (fun i d4 hi _ => ⟨.int (match O i with | some w => nI w | none => -4), trivial, fun X hX => by
            have g := mW_first (i := i) (t := Tk i) hm2 wf T2 (by omega) (tkl i)
            rw [hv] at g
            refine sg_X11_match_34 σ2 _ _ _ d4 X ⟨fun z => absurd z (nI_ge hi (by omega)), fun _ => ⟨_, σ2, g, ?_⟩⟩
            cases h : O i with
            | none =>
              rw [h, tN i h] at hX
              rw [nI_1, or0]
              exact ⟨fun z => absurd z (show ¬ (0 : Int32) ≤ -4 by decide), fun _ => hX⟩
            | some w =>
              have hw := hO i w h
              rw [h, tS i w h] at hX
              dsimp only at hX ⊢
              rw [nI_1, n_set _ (tkl i) w hw]
              exact ⟨fun _ => hX, fun z => absurd (nI_pos' (by omega)) z⟩⟩)
          k 0 .null (by omega) trivial
        rw [T0] at g
        have g1 := mW_first (i := k) (t := Tk k) hm2 wf T2 hk (tkl k)
        rw [hv, ← eres] at g1
        refine sg_X11_match_0 σ1 _ _ ⟨fun z => absurd z nk1, fun _ => ?_⟩
        refine ⟨_, σ1, ev_X11_isDrinker σ1 _, ?_⟩
        rw [m_dk σ1 m1 wf.1 hk]
        first | refine g1a ?_ | refine g1b ?_ | refine g0a ?_ | refine g0b ?_
        refine ⟨σ2, gm, fun _ => ?_, fun z => absurd (nI_pos' (by omega)) z⟩
        exact g _ (sg_X11_match_34 σ2 _ _ _ d4 _ ⟨fun _ => ⟨_, σ2, g1, rfl⟩, fun z => absurd (nI_le (Nat.le_refl _) (by omega)) z⟩)
    · refine FQ.refuse hI (.int (-1)) ?_ ?_
      · refine sg_X10_match_0 σ _ _ ⟨fun z => absurd z hn1, fun _ => ?_⟩
        refine ⟨_, σ, ev_X1_has σ 10 _ (fun _ => rfl), ?_⟩
        rw [x_hasf σ h0 wf.1 h1]
        first | refine g1a ?_ | refine g1b ?_ | refine g0a ?_ | refine g0b ?_
        rfl
      · refine sg_X11_match_0 σ _ _ ⟨fun z => absurd z hn1, fun _ => ?_⟩
        refine ⟨_, σ, ev_X11_isDrinker σ _, ?_⟩
        rw [m_dkf σ m0 wf.1 h1]
        first | refine g1a ?_ | refine g1b ?_ | refine g0a ?_ | refine g0b ?_
        rfl
