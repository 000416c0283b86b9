/-! the face: falls -/
def n_fl (R : Nat → Nat) (a : Nat) : Nat → (Nat → Nat)
  | 0 => R
  | i + 1 => n_day (if a.testBit i = true then nup (n_fl R a i) 3 31 else n_fl R a i)
theorem n_wf_fl {R : Nat → Nat} (wf : n_wf 999 R) (a : Nat) : ∀ i, n_wf (999 + i) (n_fl R a i)
  | 0 => wf
  | i + 1 => by
    unfold n_fl
    split
    · exact n_wf_theday (n_wf_asleep (n_wf_fl wf a i) (by decide))
    · exact n_wf_theday (n_wf_fl wf a i)
theorem xW_falls {σ : mm_Sg} {R : Nat → Nat} {n a : Nat} (hcp : cpv σ 10 52 R) (hn : n ≤ 7) (ha : a < 128) : ∃ σ', mm_Ev mm_m_X10_owedBehindFalls [.ref 0, .int (nI n), .int (nI a)] σ (some (.int (nI (n_owed (n_fl R a n))))) σ' ∧ xTh σ σ' := by
  have wf := hcp.1
  obtain ⟨s0, g0, y0, -, t0⟩ := xW_mind hcp
  obtain ⟨s1, ⟨y1, t1⟩, g1⟩ := mm_run (M := mm_m_X10_owedBehindFalls) (α := mm_Sg) (fun j s => (13, [.ref 0, .int (nI n), .int (nI a), .int (nI j)], [], s)) n (fun j s => xr s 24 (n_fl R a j) ∧ xTh σ s)
    (fun j s hj ⟨y, t⟩ => by
      have w := n_wf_fl wf a j
      cases hb : a.testBit j with
      | true =>
        obtain ⟨s', g', y', -, t'⟩ := xW_goMind (n := 1) (σ := mm_u s 24 7 (nI 31)) (xr_asleep (v := 31) y) (n_wf_asleep w (by decide)) (by omega)
        refine ⟨s', ⟨?_, (t.trans (xth_u (by omega))).trans t'⟩, fun X hX => sg_X10_owedBehindFalls_13 s _ _ _ X ⟨fun z => absurd z (nI_ge hj (by omega)), fun _ => ?_⟩⟩
        · rw [n_fl, if_pos hb]
          exact y'
        · rw [n_has0 a ha j (by omega), hb, if_pos rfl]
          refine ⟨fun z => absurd z (by decide), fun _ σ8 e8 => ?_⟩
          rw [e8, nI_1]
          exact ⟨s', g', hX⟩
      | false =>
        obtain ⟨s', g', y', -, t'⟩ := xW_goMind (n := 1) y w (by omega)
        refine ⟨s', ⟨?_, t.trans t'⟩, fun X hX => sg_X10_owedBehindFalls_13 s _ _ _ X ⟨fun z => absurd z (nI_ge hj (by omega)), fun _ => ?_⟩⟩
        · rw [n_fl, if_neg (by rw [hb]; decide)]
          exact y'
        · rw [n_has0 a ha j (by omega), hb, if_neg (by decide)]
          refine ⟨fun _ => ?_, fun z => absurd rfl z⟩
          rw [nI_1]
          exact ⟨s', g', hX⟩)
    n 0 s0 (by omega) ⟨y0, t0⟩
  exact ⟨s1, sg_X10_owedBehindFalls_0 σ _ _ _ ⟨s0, g0, g1 _ (sg_X10_owedBehindFalls_13 s1 _ _ _ _ ⟨fun _ => ⟨_, s1, xW_owed (Or.inr (Or.inr rfl)) y1 (n_wf_fl wf a n), rfl⟩, fun z => absurd (nI_le (Nat.le_refl _) (by omega)) z⟩)⟩, t1⟩
theorem xW_pow {σ : mm_Sg} (b n : Nat) (hn : n < 1000) : mm_Ev mm_m_X10_power [.long (lN b), .int (nI n)] σ (some (.long (lN (b ^ n)))) σ := by
  obtain ⟨-, -, g⟩ := mm_run (M := mm_m_X10_power) (α := Unit) (fun j _ => (5, [.long (lN b), .null, .int (nI n), .long (lN (b ^ j)), .null, .int (nI j)], [], σ)) n (fun _ _ => True)
    (fun j _ hj _ => ⟨(), trivial, fun X hX => sg_X10_power_5 σ _ _ _ _ X ⟨fun z => absurd z (nI_ge hj (by omega)), fun _ => by rw [lN_mul, nI_1, ← Nat.pow_succ]; exact hX⟩⟩)
    n 0 () (by omega) trivial
  exact sg_X10_power_0 σ _ _ _ (g _ (sg_X10_power_5 σ _ _ _ _ _ ⟨fun _ => rfl, fun z => absurd (nI_le (Nat.le_refl _) (by omega)) z⟩))
/-- how many of the first i bits -/
def n_cnt (a : Nat) (i : Nat) : Nat := n_sum (fun k => if a.testBit k = true then 1 else 0) i
theorem n_bc7 : ∀ n, n < 8 → ∀ a, a < 2 ^ n → f_J6_bitCount_0f7a4 (fun _ _ => 0) (nI a) = nI (n_cnt a n) := by decide +kernel
theorem n_bc7' (σ : mm_Sg) {n a : Nat} (hn : n < 8) (ha : a < 2 ^ n) : f_J6_bitCount_0f7a4 σ (nI a) = nI (n_cnt a n) := n_bc7 n hn a ha
theorem n_cnt_le (a : Nat) (i : Nat) : n_cnt a i ≤ i := by
  have := n_sum_le (f := fun k => if a.testBit k = true then 1 else 0) (B := 1) (fun k => by split <;> omega) i
  unfold n_cnt
  omega
theorem n_cnt_s (a i : Nat) : n_cnt a (i + 1) = n_cnt a i + if a.testBit i = true then 1 else 0 := rfl
theorem n_sh7 : ∀ n, n < 8 → (1 : Int32) <<< (nI n &&& 31) = nI (2 ^ n) ∧ 2 ^ n ≤ 128 := by decide +kernel
/-- the weights of those that answer -/
def n_abv (f : Nat → Nat) (v b n : Nat) : Nat → Nat
  | 0 => 0
  | a + 1 => if v ≤ f a then n_abv f v b n a + b ^ (n - n_cnt a n) else n_abv f v b n a
theorem n_abv_le {f : Nat → Nat} {v b n K : Nat} (hK : ∀ e, e ≤ n → b ^ e ≤ K) : ∀ a, n_abv f v b n a ≤ a * K
  | 0 => Nat.zero_le _
  | a + 1 => by
    have ih := n_abv_le (f := f) (v := v) hK a
    have h1 := hK (n - n_cnt a n) (by omega)
    unfold n_abv
    rw [Nat.add_mul, Nat.one_mul]
    split <;> omega
theorem n_pow19 {b e : Nat} (hb : b ≤ 19) (he : e ≤ 7) : b ^ e ≤ 893871739 := Nat.le_trans (Nat.le_trans (Nat.pow_le_pow_left hb _) (Nat.pow_le_pow_right (by decide) he)) (by decide)
theorem n_pow20 {t n : Nat} (ht : t ≤ 20) (hn : n ≤ 7) : t ^ n ≤ 1280000000 := Nat.le_trans (Nat.le_trans (Nat.pow_le_pow_left ht _) (Nat.pow_le_pow_right (by decide) hn)) (by decide)
theorem F_falls {σ : mm_Sg} (hI : Inv σ) (x1 x2 x3 x4 : Int32) : FQ mm_m_X10_falls mm_m_X11_falls [.int x1, .int x2, .int x3, .int x4] σ := by
  obtain ⟨⟨R, hcp⟩, hi, z53, z54, z55, hs⟩ := id hI
  obtain ⟨wf, r4, r5, r6, hx, hm⟩ := id hcp
  have h0 : σ 10 6 = nI (R 0) := hx.1
  have m0 : σ 52 0 = nI (R 0) := by rw [hm]; rfl
  have w7 := wf.1
  rcases bt_c x1 0 7 (by decide) (by decide) with ⟨n, -, hn, rfl⟩ | h1
  · rcases bt_c x2 2 20 (by decide) (by decide) with ⟨t, ht2, ht20, rfl⟩ | h2
    · rcases bt_c x3 0 999 (by decide) (by decide) with ⟨v, -, hv, rfl⟩ | h3
      · rcases bt_c x4 0 1 (by decide) (by decide) with ⟨j4, -, hj4, rfl⟩ | h4
        · obtain ⟨f, ef⟩ : ∃ f : Nat → Nat, f = fun a => n_owed (n_fl R a n) := ⟨_, rfl⟩
          have hf : ∀ a, n_owed (n_fl R a n) = f a := fun a => by rw [ef]
          have hfl : ∀ a, f a ≤ 6993 := fun a => by rw [ef]; exact n_owed_le (n_wf_fl wf a n)
          obtain ⟨p1, p2⟩ := n_sh7 n (by omega)
          obtain ⟨A, eA⟩ : ∃ A, A = n_abv f v (t - 1) n := ⟨_, rfl⟩
          have A0 : A 0 = 0 := by rw [eA]; rfl
          have At : ∀ a, v ≤ f a → A (a + 1) = A a + (t - 1) ^ (n - n_cnt a n) := fun a h => by rw [eA, n_abv, if_pos h]
          have Af : ∀ a, ¬ v ≤ f a → A (a + 1) = A a := fun a h => by rw [eA, n_abv, if_neg h]
          have Al : A (2 ^ n) ≤ 128 * 893871739 := by
            rw [eA]
            have := n_abv_le (f := f) (v := v) (b := t - 1) (n := n) (K := 893871739) (fun e he => n_pow19 (by omega) (by omega)) (2 ^ n)
            exact Nat.le_trans this (Nat.mul_le_mul_right _ p2)
          clear eA
          have hpw := n_pow20 (t := t) (n := n) (by omega) (by omega)
          have hpp : 0 < t ^ n := Nat.pow_pos (by omega)
          obtain ⟨σ1, t1, g1⟩ := mm_run (M := mm_m_X10_falls) (α := mm_Sg) (fun a s => (52, [.ref 0, .int (nI n), .int (nI t), .int (nI v), .int (nI j4), .long (lN (A a)), .null, .int (nI a)], [], s)) (2 ^ n) (fun _ s => xTh σ s)
            (fun a s ha u => by
              obtain ⟨s', g', u'⟩ := xW_falls (n := n) (a := a) (hcp.xth u) (by omega) (by omega)
              rw [hf] at g'
              have hfa := hfl a
              refine ⟨s', u.trans u', fun X hX => sg_X10_falls_52 s _ _ _ _ _ _ X ⟨fun z => absurd (by rw [p1] at z; exact z) (nI_ge ha (by omega)), fun _ => ⟨_, s', g', fun z => ?_, fun z => ?_⟩⟩⟩
              · rw [nI_1]
                rw [Af a (fun l => absurd z (nI_nlt l (by omega)))] at hX
                exact hX
              · have hc := n_cnt_le a n
                have hv : v ≤ f a := by
                  rcases Nat.lt_or_ge (f a) v with l | l
                  · exact absurd (nI_lt l (by omega)) z
                  · exact l
                refine ⟨_, s', ev_J6_bitCount_0f7a4 s' _, lN ((t - 1) ^ (n - n_cnt a n)), s', ?_, ?_⟩
                · rw [n_bc7' s' (by omega) ha, show nI t - (1 : Int32) = nI (t - 1) from pk_sub (b := 1) (by omega), nI_l (by omega), pk_sub hc]
                  exact xW_pow _ _ (by omega)
                · rw [nI_1, lN_add]
                  rw [At a hv] at hX
                  exact hX)
            (2 ^ n) 0 σ (by omega) (fun _ _ => rfl)
          rw [A0] at g1
          have hcp1 := hcp.xth t1
          obtain ⟨-, -, gb⟩ := mm_run (M := mm_m_X11_falls) (α := Unit) (fun j _ => (54, [.ref 51, .int (nI n), .int (nI t), .int (nI v), .int (nI j4), .long (lN 0), .null, .long (lN (t ^ j)), .null, .int (nI j), .null, .null, .null], [], σ1)) n (fun _ _ => True)
            (fun j _ hj _ => ⟨(), trivial, fun X hX => sg_X11_falls_54 σ1 _ _ _ _ _ _ _ X ⟨fun z => absurd z (nI_ge hj (by omega)), fun _ => by rw [nI_l (by omega), lN_mul, nI_1, ← Nat.pow_succ]; exact hX⟩⟩)
            n 0 () (by omega) trivial
          obtain ⟨⟨σ2, d10, d12⟩, ⟨t2, z2⟩, g2⟩ := mm_run (M := mm_m_X11_falls) (α := mm_Sg × Value × Value) (fun a s => (76, [.ref 51, .int (nI n), .int (nI t), .int (nI v), .int (nI j4), .long (lN (A a)), .null, .long (lN (t ^ n)), .null, .int (nI a), s.2.1, .null, s.2.2], [], s.1)) (2 ^ n) (fun _ s => mTh σ1 s.1 ∧ z40 s.1 53)
            (fun a s ha ⟨u, z⟩ => by
              obtain ⟨s, d10, d12⟩ := s
              dsimp only at u z ⊢
              obtain ⟨s3, k3, y3, -, u3⟩ := mW_mind (R := R) (by rw [u 52 (by decide) (by decide)]; exact hcp1.2.2.2.2.2) wf z
              obtain ⟨s4, ⟨y4, u4⟩, k4⟩ := mm_run (M := mm_m_X11_falls) (α := mm_Sg) (fun i s => (101, [.ref 51, .int (nI n), .int (nI t), .int (nI v), .int (nI j4), .long (lN (A a)), .null, .long (lN (t ^ n)), .null, .int (nI a), .long (lN ((t - 1) ^ (i - n_cnt a i))), .null, .int (nI i)], [], s)) n (fun i s => s 53 = ra (n_fl R a i) ∧ mTh σ1 s)
                (fun i s hi ⟨y, u⟩ => by
                  have w := n_wf_fl wf a i
                  have hc := n_cnt_le a i
                  have e1 : nI t - (1 : Int32) = nI (t - 1) := pk_sub (b := 1) (by omega)
                  cases hb : a.testBit i with
                  | true =>
                    obtain ⟨s', g', y', u'⟩ := mW_dayMind (σ := mm_u s 53 3 (nI 31)) (R := nup (n_fl R a i) 3 31) (by rw [mm_u_s, y, ← ra_up]) (n_wf_asleep w (by decide)) (by omega)
                    refine ⟨s', ⟨?_, u.trans (mth_u.trans u')⟩, fun X hX => sg_X11_falls_101 s _ _ _ _ _ _ _ _ _ X ⟨fun z => absurd z (nI_ge hi (by omega)), fun _ => ⟨_, s, ev_X11_has s _ _, ?_⟩⟩⟩
                    · rw [n_fl, if_pos hb]
                      exact y'
                    · rw [n_has s (by omega) (by omega), hb, if_pos rfl]
                      refine ⟨fun z => absurd z (by decide), fun _ => sg_X11_falls_127 s _ _ _ _ _ _ _ _ _ _ _ X ⟨_, s, ev_X11_has s _ _, ?_⟩⟩
                      rw [n_has s (by omega) (by omega), hb, if_pos rfl]
                      refine ⟨fun z => absurd z (by decide), fun _ σ7 e7 => ?_⟩
                      rw [e7]
                      refine ⟨s', g', ?_⟩
                      rw [n_cnt_s, hb, if_pos rfl, show i + 1 - (n_cnt a i + 1) = i - n_cnt a i by omega] at hX
                      rw [nI_1, show (1 : Int64) = lN 1 from rfl, lN_mul, Nat.mul_one]
                      exact hX
                  | false =>
                    obtain ⟨s', g', y', u'⟩ := mW_dayMind y w (by omega)
                    refine ⟨s', ⟨?_, u.trans u'⟩, fun X hX => sg_X11_falls_101 s _ _ _ _ _ _ _ _ _ X ⟨fun z => absurd z (nI_ge hi (by omega)), fun _ => ⟨_, s, ev_X11_has s _ _, ?_⟩⟩⟩
                    · rw [n_fl, if_neg (by rw [hb]; decide)]
                      exact y'
                    · rw [n_has s (by omega) (by omega), hb, if_neg (by decide)]
                      refine ⟨fun _ => sg_X11_falls_127 s _ _ _ _ _ _ _ _ _ _ _ X ⟨_, s, ev_X11_has s _ _, ?_⟩, fun z => absurd rfl z⟩
                      rw [n_has s (by omega) (by omega), hb, if_neg (by decide)]
                      refine ⟨fun _ => ⟨s', g', ?_⟩, fun z => absurd rfl z⟩
                      rw [n_cnt_s, hb, if_neg (by decide), show i + 1 - (n_cnt a i + 0) = (i - n_cnt a i) + 1 by omega, Nat.pow_succ] at hX
                      rw [nI_1, e1, nI_l (by omega), lN_mul]
                      exact hX)
                n 0 s3 (by omega) ⟨y3, u.trans u3⟩
              have hfa := hfl a
              have w4 := n_wf_fl wf a n
              refine ⟨(s4, .long (lN ((t - 1) ^ (n - n_cnt a n))), .int (nI n)), ⟨u4, fun i hi => by show s4 53 i = 0; rw [y4, ra_at, w4.2.2.2.2.2.2.2.2.2 i hi]; rfl⟩, fun X hX => sg_X11_falls_76 s _ _ _ _ _ _ _ d10 d12 X ⟨fun z => absurd (by rw [p1] at z; exact z) (nI_ge ha (by omega)), fun _ => ⟨s3, k3, k4 X (sg_X11_falls_101 s4 _ _ _ _ _ _ _ _ _ X ⟨fun _ => ⟨_, s4, mW_owed rfl y4 w4, ?_⟩, fun z => absurd (nI_le (Nat.le_refl _) (by omega)) z⟩)⟩⟩⟩
              rw [hf]
              dsimp only at hX
              refine ⟨fun z => ?_, fun z => ?_⟩
              · rw [nI_1, show (0 : Int64) = lN 0 from rfl, lN_add, Nat.add_zero]
                rw [Af a (fun l => absurd z (nI_nlt l (by omega)))] at hX
                exact hX
              · have hv : v ≤ f a := by
                  rcases Nat.lt_or_ge (f a) v with l | l
                  · exact absurd (nI_lt l (by omega)) z
                  · exact l
                rw [nI_1, lN_add]
                rw [At a hv] at hX
                exact hX)
            (2 ^ n) 0 (σ1, .null, .null) (by omega) ⟨fun _ _ _ => rfl, z53_think z53 t1⟩
          dsimp only at t2 z2 g2
          rw [A0] at g2
          have q2 : MQ2 σ1 σ2 := ⟨fun q _ h1 h2 _ _ => t2 q h1 h2, by rw [t2 51 (by decide) (by decide)], z2⟩
          refine FQ.look hI (.long (lN (n_part (A (2 ^ n)) (t ^ n) j4))) ?_ ?_ (XQ.think t1) q2
          · refine sg_X10_falls_0 σ _ _ _ _ _ ?_
            refine ⟨_, σ, ev_X10_isBetween σ _ _ _, ?_⟩
            rw [show f_X10_isBetween σ (nI n) (0 : Int32) (7 : Int32) = 1 from bt_t σ (a := 0) (m := 7) ⟨by omega, by omega⟩ (by decide)]
            first | refine g1a ?_ | refine g1b ?_ | refine g0a ?_ | refine g0b ?_
            refine ⟨_, σ, ev_X10_isBetween σ _ _ _, ?_⟩
            rw [show f_X10_isBetween σ (nI t) (2 : Int32) (20 : Int32) = 1 from bt_t σ (a := 2) (m := 20) ⟨by omega, by omega⟩ (by decide)]
            first | refine g1a ?_ | refine g1b ?_ | refine g0a ?_ | refine g0b ?_
            refine ⟨_, σ, ev_X10_isBetween σ _ _ _, ?_⟩
            rw [show f_X10_isBetween σ (nI v) (0 : Int32) (999 : Int32) = 1 from bt_t σ (a := 0) (m := 999) ⟨by omega, by omega⟩ (by decide)]
            first | refine g1a ?_ | refine g1b ?_ | refine g0a ?_ | refine g0b ?_
            refine ⟨_, σ, ev_X10_isBetween σ _ _ _, ?_⟩
            rw [show f_X10_isBetween σ (nI j4) (0 : Int32) (1 : Int32) = 1 from bt_t σ (a := 0) (m := 1) ⟨by omega, by omega⟩ (by decide)]
            first | refine g1a ?_ | refine g1b ?_ | refine g0a ?_ | refine g0b ?_
            refine g1 _ (sg_X10_falls_52 σ1 _ _ _ _ _ _ _ ⟨fun _ => ⟨lN (t ^ n), σ1, ?_, _, σ1, xW_part (by omega) (by omega) hpp (by omega), rfl⟩, fun z => absurd (by rw [p1]; exact nI_le (Nat.le_refl _) (by omega)) z⟩)
            rw [nI_l (by omega)]
            exact xW_pow _ _ (by omega)
          · refine sg_X11_falls_0 σ1 _ _ _ _ _ ?_
            refine ⟨_, σ1, ev_X11_isIn σ1 _ _ _, ?_⟩
            rw [show f_X11_isIn σ1 (nI n) (0 : Int32) (7 : Int32) = 1 from bt_t σ1 (a := 0) (m := 7) ⟨by omega, by omega⟩ (by decide)]
            first | refine g1a ?_ | refine g1b ?_ | refine g0a ?_ | refine g0b ?_
            refine ⟨_, σ1, ev_X11_isIn σ1 _ _ _, ?_⟩
            rw [show f_X11_isIn σ1 (nI t) (2 : Int32) (20 : Int32) = 1 from bt_t σ1 (a := 2) (m := 20) ⟨by omega, by omega⟩ (by decide)]
            first | refine g1a ?_ | refine g1b ?_ | refine g0a ?_ | refine g0b ?_
            refine ⟨_, σ1, ev_X11_isIn σ1 _ _ _, ?_⟩
            rw [show f_X11_isIn σ1 (nI v) (0 : Int32) (999 : Int32) = 1 from bt_t σ1 (a := 0) (m := 999) ⟨by omega, by omega⟩ (by decide)]
            first | refine g1a ?_ | refine g1b ?_ | refine g0a ?_ | refine g0b ?_
            refine ⟨_, σ1, ev_X11_isIn σ1 _ _ _, ?_⟩
            rw [show f_X11_isIn σ1 (nI j4) (0 : Int32) (1 : Int32) = 1 from bt_t σ1 (a := 0) (m := 1) ⟨by omega, by omega⟩ (by decide)]
            first | refine g1a ?_ | refine g1b ?_ | refine g0a ?_ | refine g0b ?_
            refine gb _ (sg_X11_falls_54 σ1 _ _ _ _ _ _ _ _ ⟨fun _ => ?_, fun z => absurd (nI_le (Nat.le_refl _) (by omega)) z⟩)
            exact g2 _ (sg_X11_falls_76 σ2 _ _ _ _ _ _ _ d10 d12 _ ⟨fun _ => ⟨_, σ2, mW_part (by omega) (by omega) hpp (by omega), rfl⟩, fun z => absurd (by rw [p1]; exact nI_le (Nat.le_refl _) (by omega)) z⟩)
        · refine FQ.refuse hI (.long 1000000001) ?_ ?_
          · refine sg_X10_falls_0 σ _ _ _ _ _ ?_
            refine ⟨_, σ, ev_X10_isBetween σ _ _ _, ?_⟩
            rw [show f_X10_isBetween σ (nI n) (0 : Int32) (7 : Int32) = 1 from bt_t σ (a := 0) (m := 7) ⟨by omega, by omega⟩ (by decide)]
            first | refine g1a ?_ | refine g1b ?_ | refine g0a ?_ | refine g0b ?_
            refine ⟨_, σ, ev_X10_isBetween σ _ _ _, ?_⟩
            rw [show f_X10_isBetween σ (nI t) (2 : Int32) (20 : Int32) = 1 from bt_t σ (a := 2) (m := 20) ⟨by omega, by omega⟩ (by decide)]
            first | refine g1a ?_ | refine g1b ?_ | refine g0a ?_ | refine g0b ?_
            refine ⟨_, σ, ev_X10_isBetween σ _ _ _, ?_⟩
            rw [show f_X10_isBetween σ (nI v) (0 : Int32) (999 : Int32) = 1 from bt_t σ (a := 0) (m := 999) ⟨by omega, by omega⟩ (by decide)]
            first | refine g1a ?_ | refine g1b ?_ | refine g0a ?_ | refine g0b ?_
            refine ⟨_, σ, ev_X10_isBetween σ _ _ _, ?_⟩
            rw [show f_X10_isBetween σ x4 (0 : Int32) (1 : Int32) = 0 from h4 σ]
            first | refine g1a ?_ | refine g1b ?_ | refine g0a ?_ | refine g0b ?_
            exact ⟨_, σ, ev_X10_refusedLong σ _, rfl⟩
          · refine sg_X11_falls_0 σ _ _ _ _ _ ?_
            refine ⟨_, σ, ev_X11_isIn σ _ _ _, ?_⟩
            rw [show f_X11_isIn σ (nI n) (0 : Int32) (7 : Int32) = 1 from bt_t σ (a := 0) (m := 7) ⟨by omega, by omega⟩ (by decide)]
            first | refine g1a ?_ | refine g1b ?_ | refine g0a ?_ | refine g0b ?_
            refine ⟨_, σ, ev_X11_isIn σ _ _ _, ?_⟩
            rw [show f_X11_isIn σ (nI t) (2 : Int32) (20 : Int32) = 1 from bt_t σ (a := 2) (m := 20) ⟨by omega, by omega⟩ (by decide)]
            first | refine g1a ?_ | refine g1b ?_ | refine g0a ?_ | refine g0b ?_
            refine ⟨_, σ, ev_X11_isIn σ _ _ _, ?_⟩
            rw [show f_X11_isIn σ (nI v) (0 : Int32) (999 : Int32) = 1 from bt_t σ (a := 0) (m := 999) ⟨by omega, by omega⟩ (by decide)]
            first | refine g1a ?_ | refine g1b ?_ | refine g0a ?_ | refine g0b ?_
            refine ⟨_, σ, ev_X11_isIn σ _ _ _, ?_⟩
            rw [show f_X11_isIn σ x4 (0 : Int32) (1 : Int32) = 0 from h4 σ]
            first | refine g1a ?_ | refine g1b ?_ | refine g0a ?_ | refine g0b ?_
            rfl
      · refine FQ.refuse hI (.long 1000000001) ?_ ?_
        · refine sg_X10_falls_0 σ _ _ _ _ _ ?_
          refine ⟨_, σ, ev_X10_isBetween σ _ _ _, ?_⟩
          rw [show f_X10_isBetween σ (nI n) (0 : Int32) (7 : Int32) = 1 from bt_t σ (a := 0) (m := 7) ⟨by omega, by omega⟩ (by decide)]
          first | refine g1a ?_ | refine g1b ?_ | refine g0a ?_ | refine g0b ?_
          refine ⟨_, σ, ev_X10_isBetween σ _ _ _, ?_⟩
          rw [show f_X10_isBetween σ (nI t) (2 : Int32) (20 : Int32) = 1 from bt_t σ (a := 2) (m := 20) ⟨by omega, by omega⟩ (by decide)]
          first | refine g1a ?_ | refine g1b ?_ | refine g0a ?_ | refine g0b ?_
          refine ⟨_, σ, ev_X10_isBetween σ _ _ _, ?_⟩
          rw [show f_X10_isBetween σ x3 (0 : Int32) (999 : Int32) = 0 from h3 σ]
          first | refine g1a ?_ | refine g1b ?_ | refine g0a ?_ | refine g0b ?_
          exact ⟨_, σ, ev_X10_refusedLong σ _, rfl⟩
        · refine sg_X11_falls_0 σ _ _ _ _ _ ?_
          refine ⟨_, σ, ev_X11_isIn σ _ _ _, ?_⟩
          rw [show f_X11_isIn σ (nI n) (0 : Int32) (7 : Int32) = 1 from bt_t σ (a := 0) (m := 7) ⟨by omega, by omega⟩ (by decide)]
          first | refine g1a ?_ | refine g1b ?_ | refine g0a ?_ | refine g0b ?_
          refine ⟨_, σ, ev_X11_isIn σ _ _ _, ?_⟩
          rw [show f_X11_isIn σ (nI t) (2 : Int32) (20 : Int32) = 1 from bt_t σ (a := 2) (m := 20) ⟨by omega, by omega⟩ (by decide)]
          first | refine g1a ?_ | refine g1b ?_ | refine g0a ?_ | refine g0b ?_
          refine ⟨_, σ, ev_X11_isIn σ _ _ _, ?_⟩
          rw [show f_X11_isIn σ x3 (0 : Int32) (999 : Int32) = 0 from h3 σ]
          first | refine g1a ?_ | refine g1b ?_ | refine g0a ?_ | refine g0b ?_
          rfl
    · refine FQ.refuse hI (.long 1000000001) ?_ ?_
      · refine sg_X10_falls_0 σ _ _ _ _ _ ?_
        refine ⟨_, σ, ev_X10_isBetween σ _ _ _, ?_⟩
        rw [show f_X10_isBetween σ (nI n) (0 : Int32) (7 : Int32) = 1 from bt_t σ (a := 0) (m := 7) ⟨by omega, by omega⟩ (by decide)]
        first | refine g1a ?_ | refine g1b ?_ | refine g0a ?_ | refine g0b ?_
        refine ⟨_, σ, ev_X10_isBetween σ _ _ _, ?_⟩
        rw [show f_X10_isBetween σ x2 (2 : Int32) (20 : Int32) = 0 from h2 σ]
        first | refine g1a ?_ | refine g1b ?_ | refine g0a ?_ | refine g0b ?_
        exact ⟨_, σ, ev_X10_refusedLong σ _, rfl⟩
      · refine sg_X11_falls_0 σ _ _ _ _ _ ?_
        refine ⟨_, σ, ev_X11_isIn σ _ _ _, ?_⟩
        rw [show f_X11_isIn σ (nI n) (0 : Int32) (7 : Int32) = 1 from bt_t σ (a := 0) (m := 7) ⟨by omega, by omega⟩ (by decide)]
        first | refine g1a ?_ | refine g1b ?_ | refine g0a ?_ | refine g0b ?_
        refine ⟨_, σ, ev_X11_isIn σ _ _ _, ?_⟩
        rw [show f_X11_isIn σ x2 (2 : Int32) (20 : Int32) = 0 from h2 σ]
        first | refine g1a ?_ | refine g1b ?_ | refine g0a ?_ | refine g0b ?_
        rfl
  · refine FQ.refuse hI (.long 1000000001) ?_ ?_
    · refine sg_X10_falls_0 σ _ _ _ _ _ ?_
      refine ⟨_, σ, ev_X10_isBetween σ _ _ _, ?_⟩
      rw [show f_X10_isBetween σ x1 (0 : Int32) (7 : Int32) = 0 from h1 σ]
      first | refine g1a ?_ | refine g1b ?_ | refine g0a ?_ | refine g0b ?_
      exact ⟨_, σ, ev_X10_refusedLong σ _, rfl⟩
    · refine sg_X11_falls_0 σ _ _ _ _ _ ?_
      refine ⟨_, σ, ev_X11_isIn σ _ _ _, ?_⟩
      rw [show f_X11_isIn σ x1 (0 : Int32) (7 : Int32) = 0 from h1 σ]
      first | refine g1a ?_ | refine g1b ?_ | refine g0a ?_ | refine g0b ?_
      rfl
