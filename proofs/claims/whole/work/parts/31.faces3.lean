/-! the face: bestWaker, rest, milk -/
theorem cpv.xth {σ s : mm_Sg} {R : Nat → Nat} (h : cpv σ 10 52 R) (t : xTh σ s) : cpv s 10 52 R := cpv_same h (fun q _ _ => t q (by omega)) (t 52 (by omega))
theorem cpv.mth {σ s : mm_Sg} {R : Nat → Nat} (h : cpv σ 10 52 R) (t : mTh σ s) : cpv s 10 52 R := cpv_same h (fun q _ _ => t q (by omega) (by omega)) (t 52 (by decide) (by decide))
theorem n_wf_waker {D : Nat} {R : Nat → Nat} (h : n_wf D R) {k v : Nat} (hk : k < 7) (hv : v < 5 ∨ v = 9) : n_wf D (nup R (9 + 4 * k) v) := by
  obtain ⟨h0, h1, h2, h3, h4, h5, h6, h7, h8, h9⟩ := h
  refine ⟨by rw [nup_o R (by omega)]; exact h0, by rw [nup_o R (by omega)]; exact h1, by rw [nup_o R (by omega)]; exact h2, by rw [nup_o R (by omega)]; exact h3, by rw [nup_o R (by omega)]; exact h4, by rw [nup_o R (by omega)]; exact h5, by rw [nup_o R (by omega)]; exact h6, fun j hj => ?_, fun x hx => ?_, fun i hi => ?_⟩
  · rw [nup_o R (by omega), nup_o R (by omega), nup_o R (k := 9 + 4 * k) (j := 10 + 4 * j) (by omega)]
    refine ⟨(h7 j hj).1, (h7 j hj).2.1, ?_, (h7 j hj).2.2.2⟩
    by_cases e : 9 + 4 * j = 9 + 4 * k
    · rw [e, nup_s]; exact hv
    · rw [nup_o R e]; exact (h7 j hj).2.2.1
  · rw [nup_o R (by omega)]; exact h8 x hx
  · rw [nup_o R (by omega)]; exact h9 i hi
theorem n_wf_milk {D : Nat} {R : Nat → Nat} (h : n_wf D R) {v : Nat} (hv : v < 128) : n_wf D (nup R 4 v) := by
  obtain ⟨h0, h1, h2, h3, h4, h5, h6, h7, h8, h9⟩ := h
  refine ⟨by rw [nup_o R (by omega)]; exact h0, by rw [nup_o R (by omega)]; exact h1, by rw [nup_o R (by omega)]; exact h2, by rw [nup_o R (by omega)]; exact h3, by rw [nup_s]; exact hv, by rw [nup_o R (by omega)]; exact h5, by rw [nup_o R (by omega)]; exact h6, fun k hk => ?_, fun x hx => ?_, fun i hi => ?_⟩
  · rw [nup_o R (by omega), nup_o R (by omega), nup_o R (by omega), nup_o R (by omega)]
    exact h7 k hk
  · rw [nup_o R (by omega)]; exact h8 x hx
  · rw [nup_o R (by omega)]; exact h9 i hi
theorem xr_waker {σ : mm_Sg} {c k v : Nat} {R : Nat → Nat} (h : xr σ c R) (hk : k < 7) : xr (mm_u σ (c + 3) k (nI v)) c (nup R (9 + 4 * k) v) := by
  obtain ⟨h0, h1, h2, h3, h4, h5, h6, h7, h8⟩ := h
  refine ⟨by rw [mm_u_o (by omega), nup_o R (by omega)]; exact h0, by rw [mm_u_o (by omega), nup_o R (by omega)]; exact h1, by rw [mm_u_o (by omega), nup_o R (by omega)]; exact h2, by rw [mm_u_o (by omega), nup_o R (by omega)]; exact h3, by rw [mm_u_o (by omega), nup_o R (by omega)]; exact h4, by rw [mm_u_o (by omega), nup_o R (by omega)]; exact h5, by rw [mm_u_o (by omega), nup_o R (by omega)]; exact h6, fun j hj => ?_, fun x hx => ?_⟩
  · rw [mm_u_o (by omega), mm_u_o (by omega), mm_u_o (q := c + 3) (a := c + 4) (by omega), nup_o R (by omega), nup_o R (by omega), nup_o R (k := 9 + 4 * k) (j := 10 + 4 * j) (by omega)]
    refine ⟨(h7 j hj).1, (h7 j hj).2.1, ?_, (h7 j hj).2.2.2⟩
    by_cases e : j = k
    · subst e; rw [mm_u_kk, nup_s]
    · rw [mm_u_k e, nup_o R (by omega)]; exact (h7 j hj).2.2.1
  · rw [mm_u_o (by omega), nup_o R (by omega)]
    exact h8 x hx
theorem xr_milk {σ : mm_Sg} {c k : Nat} {R : Nat → Nat} (h : xr σ c R) (hk : k < 7) : xr (mm_u σ c 11 (nI k)) c (nup R 4 (2 ^ k)) := by
  obtain ⟨h0, h1, h2, h3, h4, h5, h6, h7, h8⟩ := h
  refine ⟨by rw [mm_u_k (by omega), nup_o R (by omega)]; exact h0, by rw [mm_u_k (by omega), nup_o R (by omega)]; exact h1, by rw [mm_u_k (by omega), nup_o R (by omega)]; exact h2, by rw [mm_u_k (by omega), nup_o R (by omega)]; exact h3, by rw [mm_u_kk, nup_s]; exact Or.inr ⟨k, hk, rfl, rfl⟩, by rw [mm_u_k (by omega), nup_o R (by omega)]; exact h5, by rw [mm_u_k (by omega), nup_o R (by omega)]; exact h6, fun k hk => ?_, fun w hw => ?_⟩
  · rw [mm_u_o (by omega), mm_u_o (by omega), mm_u_o (by omega), mm_u_o (by omega), nup_o R (by omega), nup_o R (by omega), nup_o R (by omega), nup_o R (by omega)]
    exact h7 k hk
  · rw [mm_u_o (by omega), nup_o R (by omega)]
    exact h8 w hw
theorem n_pow7 : ∀ k, k < 7 → 2 ^ k < 128 ∧ (1 : Int32) <<< (nI k &&& 31) = nI (2 ^ k) := by decide +kernel
theorem xth_u {s : mm_Sg} {a k : Nat} {x : Int32} (ha : 24 ≤ a ∧ a ≤ 30) : xTh s (mm_u s a k x) := fun q hq => mm_u_o (by omega)
theorem mth_u {s : mm_Sg} {k : Nat} {x : Int32} : mTh s (mm_u s 53 k x) := fun q hq _ => mm_u_o hq
/-- from a row in mind to what is owed -/
theorem xW_after {s : mm_Sg} {D n : Nat} {T : Nat → Nat} (hT : xr s 24 T) (wf : n_wf D T) (hD : D + n < 2 ^ 19) : ∃ s', mm_Ev mm_m_X1_goDays [.ref 24, .int (nI n)] s none s' ∧ mm_Ev mm_m_X1_owedInAll [.ref 24] s' (some (.int (nI (n_owed (n_days n T))))) s' ∧ xTh s s' := by
  obtain ⟨s', g, y, -, t⟩ := xW_goMind (n := n) hT wf hD
  exact ⟨s', g, xW_owed (Or.inr (Or.inr rfl)) y (n_wf_days wf n), t⟩
theorem mW_after {s : mm_Sg} {D n : Nat} {T : Nat → Nat} (hT : s 53 = ra T) (wf : n_wf D T) (hD : D + n < 2 ^ 19) : ∃ s', mm_Ev mm_m_X11_daysOn [.ref 51, .ref 53, .int (nI n)] s none s' ∧ mm_Ev mm_m_X11_allOwed [.ref 53] s' (some (.int (nI (n_owed (n_days n T))))) s' ∧ mTh s s' ∧ z40 s' 53 := by
  obtain ⟨s', g, y, -, t⟩ := mW_daysMind (n := n) hT wf hD
  have w := n_wf_days wf n
  exact ⟨s', g, mW_owed rfl y w, t, fun i hi => by rw [y, ra_at, w.2.2.2.2.2.2.2.2.2 i hi]; rfl⟩
theorem xW_obW {σ : mm_Sg} {R : Nat → Nat} {k v n : Nat} (h : cpv σ 10 52 R) (hk : k < 7) (hv : v < 5 ∨ v = 9) (hn : n < 1000) : ∃ σ', mm_Ev mm_m_X10_owedBehindWithWaker [.ref 0, .int (nI k), .int (nI v), .int (nI n)] σ (some (.int (nI (n_owed (n_days n (nup R (9 + 4 * k) v)))))) σ' ∧ xTh σ σ' := by
  obtain ⟨s1, g1, y1, -, t1⟩ := xW_mind h
  have wf := n_wf_waker h.1 hk hv
  obtain ⟨s2, g2, g3, t2⟩ := xW_after (n := n) (xr_waker (v := v) y1 hk) wf (by omega)
  refine ⟨s2, sg_X10_owedBehindWithWaker_0 σ _ _ _ _ ⟨s1, g1, v_in (N := 7) hk (by decide), fun σ4 e4 => ?_⟩, (t1.trans (xth_u (by omega))).trans t2⟩
  rw [e4, nI_clamp (by omega)]
  exact ⟨s2, g2, _, s2, g3, rfl⟩
theorem xW_obM {σ : mm_Sg} {R : Nat → Nat} {k n : Nat} (h : cpv σ 10 52 R) (hk : k < 7) (hn : n < 1000) : ∃ σ', mm_Ev mm_m_X10_owedBehindWithMilk [.ref 0, .int (nI k), .int (nI n)] σ (some (.int (nI (n_owed (n_days n (nup R 4 (2 ^ k))))))) σ' ∧ xTh σ σ' := by
  obtain ⟨s1, g1, y1, -, t1⟩ := xW_mind h
  have wf := n_wf_milk h.1 (n_pow7 k hk).1
  obtain ⟨s2, g2, g3, t2⟩ := xW_after (n := n) (xr_milk y1 hk) wf (by omega)
  refine ⟨s2, sg_X10_owedBehindWithMilk_0 σ _ _ _ ⟨s1, g1, fun σ4 e4 => ?_⟩, (t1.trans (xth_u (by omega))).trans t2⟩
  rw [e4]
  exact ⟨s2, g2, _, s2, g3, rfl⟩
theorem xW_obO {σ : mm_Sg} {R : Nat → Nat} {w n : Nat} (h : cpv σ 10 52 R) (hw : w < 5) (hn : n < 1000) : ∃ σ', mm_Ev mm_m_X10_owedBehindWithout [.ref 0, .int (nI w), .int (nI n)] σ (some (.int (nI (n_owed (n_days n (nup R 3 (R 3 ||| 2 ^ w))))))) σ' ∧ xTh σ σ' := by
  obtain ⟨s1, g1, y1, -, t1⟩ := xW_mind h
  have wf := n_wf_asleep h.1 (n_bitx _ h.1.2.2.2.1 w hw).2
  obtain ⟨s2, g2, g3, t2⟩ := xW_after (n := n) (xr_asleep (v := R 3 ||| 2 ^ w) y1) wf (by omega)
  refine ⟨s2, sg_X10_owedBehindWithout_0 σ _ _ _ ⟨s1, g1, fun σ4 e4 => ?_⟩, (t1.trans (xth_u (by omega))).trans t2⟩
  rw [e4, y1.2.2.2.1, n_set _ h.1.2.2.2.1 w hw]
  exact ⟨s2, g2, _, s2, g3, rfl⟩
/-- the first of several least -/
def n_am (f : Nat → Nat) : Nat → Nat × Nat
  | 0 => (0, f 0)
  | i + 1 => if f (i + 1) < (n_am f i).2 then (i + 1, f (i + 1)) else n_am f i
theorem n_am_lt {f : Nat → Nat} {B : Nat} (h : ∀ i, f i ≤ B) : ∀ i, (n_am f i).1 ≤ i ∧ (n_am f i).2 ≤ B
  | 0 => ⟨Nat.le_refl _, h 0⟩
  | i + 1 => by
    have := n_am_lt h i
    unfold n_am
    split
    · exact ⟨Nat.le_refl _, h _⟩
    · exact ⟨by omega, this.2⟩
def n_wv (i : Nat) : Nat := if i < 5 then i else 9
theorem F_bestWaker {σ : mm_Sg} (hI : Inv σ) (x1 x2 x3 : Int32) : FQ mm_m_X10_bestWaker mm_m_X11_bestWaker [.int x1, .int x2, .int x3] σ := by
  obtain ⟨⟨R, hcp⟩, -, z53, -⟩ := id hI
  obtain ⟨wf, r4, r5, r6, hx, hm⟩ := id hcp
  have h0 : σ 10 6 = nI (R 0) := hx.1
  have m0 : σ 52 0 = nI (R 0) := by rw [hm]; rfl
  have w7 := wf.1
  by_cases h1 : vp_in x1 (R 0)
  · obtain ⟨k, hk, rfl⟩ := vp_in_of h1 (by omega)
    by_cases h2 : vp_in x2 61
    · obtain ⟨n, hn, rfl⟩ := vp_in_of h2 (by decide)
      by_cases h3 : vp_in x3 2
      · obtain ⟨j3, hj3, rfl⟩ := vp_in_of h3 (by decide)
        obtain ⟨f, ef⟩ : ∃ f : Nat → Nat, f = fun i => n_owed (n_days n (nup R (9 + 4 * k) (n_wv i))) := ⟨_, rfl⟩
        have hwv : ∀ i, n_wv i < 5 ∨ n_wv i = 9 := fun i => by unfold n_wv; split <;> omega
        have hf : ∀ i, f i ≤ 6993 := fun i => by rw [ef]; exact n_owed_le (n_wf_days (n_wf_waker wf (show k < 7 by omega) (hwv i)) n)
        have hfi : ∀ i, n_owed (n_days n (nup R (9 + 4 * k) (n_wv i))) = f i := fun i => by rw [ef]
        obtain ⟨s0, g0, t0⟩ := xW_obW (k := k) (v := n_wv 0) (n := n) hcp (by omega) (hwv 0) (by omega)
        rw [hfi] at g0
        obtain ⟨⟨σ1, d7, d8⟩, t1, g1⟩ := mm_run (M := mm_m_X10_bestWaker) (α := mm_Sg × Value × Value) (fun j s => (47, [.ref 0, .int (nI k), .int (nI n), .int (nI j3), .int (nI (n_wv (n_am f j).1)), .int (nI (n_am f j).2), .int (nI (j + 1)), s.2.1, s.2.2], [], s.1)) 5 (fun _ s => xTh σ s.1)
          (fun j s hj t => by
            obtain ⟨s, d7, d8⟩ := s
            dsimp only at t ⊢
            have hl := n_am_lt hf j
            obtain ⟨s', g', t'⟩ := xW_obW (k := k) (v := n_wv (j + 1)) (n := n) (hcp.xth t) (by omega) (hwv _) (by omega)
            rw [hfi] at g'
            have hfj := hf (j + 1)
            refine ⟨(s', .int (nI (n_wv (j + 1))), .int (nI (f (j + 1)))), t.trans t', fun X hX => sg_X10_bestWaker_47 s _ _ _ _ _ _ d7 d8 X ⟨fun z => absurd z (nI_nlt (a := 5) (by omega) (by decide)), fun _ => ⟨fun z => ?_, fun z => ?_⟩⟩⟩
            · have e5 : j = 4 := by
                rcases Nat.lt_or_ge j 4 with q | q
                · exact absurd z (nI_ge (b := 5) (by omega) (by decide))
                · omega
              subst e5
              have hf5 := hf 5
              have hl4 := (n_am_lt hf 4).2
              refine ⟨_, s', g', fun q => ?_, fun q => ?_⟩
              · have hn2 : ¬ f 5 < (n_am f 4).2 := fun l => absurd q (nI_ge l (by omega))
                rw [nI_1]
                dsimp only at hX
                rw [show n_am f (4 + 1) = n_am f 4 by rw [n_am, if_neg hn2]] at hX
                exact hX
              · have hn2 : f 5 < (n_am f 4).2 := by
                  rcases Nat.lt_or_ge (f 5) (n_am f 4).2 with l | l
                  · exact l
                  · exact absurd (nI_le l (by omega)) q
                rw [nI_1]
                dsimp only at hX
                rw [show n_am f (4 + 1) = (5, f 5) by rw [n_am, if_pos hn2]] at hX
                exact hX
            · have e5 : j + 1 < 5 := by
                rcases Nat.lt_or_ge (j + 1) 5 with q | q
                · exact q
                · exact absurd (nI_le (a := 5) q (by omega)) z
              have ew : n_wv (j + 1) = j + 1 := by unfold n_wv; rw [if_pos e5]
              rw [ew] at g' hX
              refine ⟨_, s', g', fun q => ?_, fun q => ?_⟩
              · have hn2 : ¬ f (j + 1) < (n_am f j).2 := fun l => absurd q (nI_ge l (by omega))
                rw [nI_1]
                dsimp only at hX
                rw [show n_am f (j + 1) = n_am f j by rw [n_am, if_neg hn2]] at hX
                exact hX
              · have hn2 : f (j + 1) < (n_am f j).2 := by
                  rcases Nat.lt_or_ge (f (j + 1)) (n_am f j).2 with l | l
                  · exact l
                  · exact absurd (nI_le l (by omega)) q
                rw [nI_1]
                dsimp only at hX
                rw [show n_am f (j + 1) = (j + 1, f (j + 1)) by rw [n_am, if_pos hn2]] at hX
                dsimp only at hX
                rw [ew] at hX
                exact hX)
          5 0 (s0, .null, .null) rfl t0
        dsimp only at t1 g1
        have hcp1 := hcp.xth t1
        have m0 : σ1 52 0 = nI (R 0) := by rw [t1 52 (by omega)]; exact m0
        obtain ⟨⟨σ2, fo, be⟩, ⟨t2, z2, e2⟩, g2⟩ := mm_run (M := mm_m_X11_bestWaker) (α := mm_Sg × Int32 × Int32) (fun j s => (37, [.ref 51, .int (nI k), .int (nI n), .int (nI j3), .int s.2.1, .int s.2.2, .int (nI j)], [], s.1)) 6
          (fun j s => mTh σ1 s.1 ∧ z40 s.1 53 ∧ ((j = 0 ∧ s.2.1 = 9 ∧ s.2.2 = 1000000000) ∨ ∃ i, j = i + 1 ∧ s.2.1 = nI (n_wv (n_am f i).1) ∧ s.2.2 = nI (n_am f i).2))
          (fun j s hj ⟨t, z, e⟩ => by
            obtain ⟨s, fo, be⟩ := s
            dsimp only at t z e ⊢
            obtain ⟨s3, g3, y3, -, t3⟩ := mW_mind (R := R) (by rw [t 52 (by decide) (by decide)]; exact hcp1.2.2.2.2.2) wf z
            have o2 := n_ofc s3 2 (show k < 7 by omega) (by decide)
            obtain ⟨s4, g4, g5, t4, z4⟩ := mW_after (n := n) (s := mm_u s3 53 (9 + 4 * k) (nI (n_wv j))) (by rw [mm_u_s, y3, ← ra_up]) (n_wf_waker wf (show k < 7 by omega) (hwv j)) (by omega)
            rw [hfi] at g5
            have hfj := hf j
            have tt : mTh σ1 s4 := (t.trans t3).trans (mth_u.trans t4)
            have pre : ∀ X, mm_Go mm_m_X11_bestWaker (76, [.ref 51, .int (nI k), .int (nI n), .int (nI j3), .int fo, .int be, .int (nI j)], [.int (nI (n_wv j)), .int (f_X11_of s3 (nI k) (2 : Int32)), .ref 53], s3) X → mm_Go mm_m_X11_bestWaker (37, [.ref 51, .int (nI k), .int (nI n), .int (nI j3), .int fo, .int be, .int (nI j)], [], s) X := fun X hX => by
              refine sg_X11_bestWaker_37 s _ _ _ _ _ _ X ⟨fun q => absurd q (nI_nlt (a := 5) (by omega) (by decide)), fun _ => ⟨s3, g3, _, s3, ev_X11_of s3 _ _, fun q => ?_, fun q => ?_⟩⟩
              · rw [show n_wv j = 9 from by
                  unfold n_wv
                  rw [if_neg (fun l => absurd q (nI_ge (b := 5) l (by decide)))]] at hX
                exact hX
              · rw [show n_wv j = j from by
                  unfold n_wv
                  rw [if_pos (by
                    rcases Nat.lt_or_ge j 5 with l | l
                    · exact l
                    · exact absurd (nI_le (a := 5) l (by omega)) q)]] at hX
                exact hX
            have mid : ∀ X, ((nI (f j) < be → mm_Go mm_m_X11_bestWaker (37, [.ref 51, .int (nI k), .int (nI n), .int (nI j3), .int (nI (n_wv j)), .int (nI (f j)), .int (nI (j + 1))], [], s4) X) ∧ (¬ (nI (f j) < be) → mm_Go mm_m_X11_bestWaker (37, [.ref 51, .int (nI k), .int (nI n), .int (nI j3), .int fo, .int be, .int (nI (j + 1))], [], s4) X)) → mm_Go mm_m_X11_bestWaker (37, [.ref 51, .int (nI k), .int (nI n), .int (nI j3), .int fo, .int be, .int (nI j)], [], s) X := fun X hX => by
              refine pre X (sg_X11_bestWaker_76 s3 _ _ _ _ _ _ _ _ _ X ⟨o2.2, fun σ2 e2 => ?_⟩)
              rw [e2, show (f_X11_of s3 (nI k) (2 : Int32)).toNatClampNeg = 9 + 4 * k from by rw [show (2 : Int32) = nI 2 from rfl, o2.1]; omega, nI_1]
              refine ⟨s4, g4, _, s4, g5, fun q => ⟨fun q2 => ⟨_, s4, g5, ?_⟩, fun q2 => ⟨_, s4, g5, ?_⟩⟩, hX.2⟩
              · have := hX.1 q
                rw [show n_wv j = 9 from by
                  unfold n_wv
                  rw [if_neg (fun l => absurd q2 (nI_ge (b := 5) l (by decide)))]] at this
                exact this
              · have := hX.1 q
                rw [show n_wv j = j from by
                  unfold n_wv
                  rw [if_pos (by
                    rcases Nat.lt_or_ge j 5 with l | l
                    · exact l
                    · exact absurd (nI_le (a := 5) l (by omega)) q2)]] at this
                exact this
            rcases e with ⟨rfl, rfl, rfl⟩ | ⟨i, rfl, rfl, rfl⟩
            · refine ⟨(s4, nI (n_wv 0), nI (f 0)), ⟨tt, z4, Or.inr ⟨0, rfl, rfl, rfl⟩⟩, fun X hX => mid X ⟨fun _ => hX, fun q => absurd (nI_lt (b := 1000000000) (by omega) (by decide)) q⟩⟩
            · have hl := n_am_lt hf i
              by_cases hlt : f (i + 1) < (n_am f i).2
              · refine ⟨(s4, nI (n_wv (i + 1)), nI (f (i + 1))), ⟨tt, z4, Or.inr ⟨i + 1, rfl, by rw [n_am, if_pos hlt], by rw [n_am, if_pos hlt]⟩⟩, fun X hX => mid X ⟨fun _ => hX, fun q => absurd (nI_lt hlt (by omega)) q⟩⟩
              · refine ⟨(s4, nI (n_wv (n_am f i).1), nI (n_am f i).2), ⟨tt, z4, Or.inr ⟨i + 1, rfl, by rw [n_am, if_neg hlt], by rw [n_am, if_neg hlt]⟩⟩, fun X hX => mid X ⟨fun q => absurd q (nI_nlt (by omega) (by omega)), fun _ => hX⟩⟩)
          6 0 (σ1, 9, 1000000000) rfl ⟨fun _ _ _ => rfl, z53_think z53 t1, Or.inl ⟨rfl, rfl, rfl⟩⟩
        dsimp only at t2 z2 e2 g2
        obtain ⟨rfl, rfl⟩ : fo = nI (n_wv (n_am f 5).1) ∧ be = nI (n_am f 5).2 := by
          rcases e2 with ⟨e, -⟩ | ⟨i, e, a, b⟩
          · omega
          · obtain rfl : i = 5 := by omega
            exact ⟨a, b⟩
        have q2 : MQ2 σ1 σ2 := ⟨fun q _ h1 h2 _ _ => t2 q h1 h2, by rw [t2 51 (by decide) (by decide)], z2⟩
        refine FQ.look hI (.int (if j3 = 0 then nI (n_wv (n_am f 5).1) else nI (n_am f 5).2)) ?_ ?_ (XQ.think t1) q2
        · refine sg_X10_bestWaker_0 σ _ _ _ _ ?_
          refine ⟨_, σ, ev_X1_has σ 10 _ (fun _ => rfl), ?_⟩
          rw [x_has σ h0 wf.1 (by omega), if_pos hk]
          first | refine g1a ?_ | refine g1b ?_ | refine g0a ?_ | refine g0b ?_
          refine ⟨_, σ, ev_X10_isBetween σ _ _ _, ?_⟩
          rw [show f_X10_isBetween σ (nI n) (0 : Int32) (60 : Int32) = 1 from bt_t σ (a := 0) (m := 60) ⟨by omega, by omega⟩ (by decide)]
          first | refine g1a ?_ | refine g1b ?_ | refine g0a ?_ | refine g0b ?_
          refine ⟨_, σ, ev_X10_isBetween σ _ _ _, ?_⟩
          rw [show f_X10_isBetween σ (nI j3) (0 : Int32) (1 : Int32) = 1 from bt_t σ (a := 0) (m := 1) ⟨by omega, by omega⟩ (by decide)]
          first | refine g1a ?_ | refine g1b ?_ | refine g0a ?_ | refine g0b ?_
          refine ⟨_, s0, g0, g1 _ (sg_X10_bestWaker_47 σ1 _ _ _ _ _ _ d7 d8 _ ⟨fun _ => ?_, fun z => absurd (show (5 : Int32) < nI 6 by decide) z⟩)⟩
          rcases (show j3 = 0 ∨ j3 = 1 by omega) with rfl | rfl
          · exact g0b rfl
          · exact g1b rfl
        · refine sg_X11_bestWaker_0 σ1 _ _ _ _ ?_
          refine ⟨_, σ1, ev_X11_isDrinker σ1 _, ?_⟩
          rw [m_dk σ1 m0 wf.1 hk]
          first | refine g1a ?_ | refine g1b ?_ | refine g0a ?_ | refine g0b ?_
          refine ⟨_, σ1, ev_X11_isLate σ1 _, ?_⟩
          rw [show f_X11_isLate σ1 (nI n) = 1 from bt_t σ1 (a := 0) (m := 60) ⟨by omega, by omega⟩ (by decide)]
          first | refine g1a ?_ | refine g1b ?_ | refine g0a ?_ | refine g0b ?_
          refine ⟨_, σ1, ev_X11_isIn σ1 _ _ _, ?_⟩
          rw [show f_X11_isIn σ1 (nI j3) (0 : Int32) (1 : Int32) = 1 from bt_t σ1 (a := 0) (m := 1) ⟨by omega, by omega⟩ (by decide)]
          first | refine g1a ?_ | refine g1b ?_ | refine g0a ?_ | refine g0b ?_
          refine g2 _ (sg_X11_bestWaker_37 σ2 _ _ _ _ _ _ _ ⟨fun _ => ?_, fun z => absurd (show (5 : Int32) < nI 6 by decide) z⟩)
          rcases (show j3 = 0 ∨ j3 = 1 by omega) with rfl | rfl
          · exact g0b rfl
          · exact g1b rfl
      · refine FQ.refuse hI (.int (-1)) ?_ ?_
        · refine sg_X10_bestWaker_0 σ _ _ _ _ ?_
          refine ⟨_, σ, ev_X1_has σ 10 _ (fun _ => rfl), ?_⟩
          rw [x_has σ h0 wf.1 (by omega), if_pos hk]
          first | refine g1a ?_ | refine g1b ?_ | refine g0a ?_ | refine g0b ?_
          refine ⟨_, σ, ev_X10_isBetween σ _ _ _, ?_⟩
          rw [show f_X10_isBetween σ (nI n) (0 : Int32) (60 : Int32) = 1 from bt_t σ (a := 0) (m := 60) ⟨by omega, by omega⟩ (by decide)]
          first | refine g1a ?_ | refine g1b ?_ | refine g0a ?_ | refine g0b ?_
          refine ⟨_, σ, ev_X10_isBetween σ _ _ _, ?_⟩
          rw [show f_X10_isBetween σ x3 (0 : Int32) (1 : Int32) = 0 from q_btf σ (a := 0) (b := 1) (by decide) (by decide) h3]
          first | refine g1a ?_ | refine g1b ?_ | refine g0a ?_ | refine g0b ?_
          rfl
        · refine sg_X11_bestWaker_0 σ _ _ _ _ ?_
          refine ⟨_, σ, ev_X11_isDrinker σ _, ?_⟩
          rw [m_dk σ m0 wf.1 hk]
          first | refine g1a ?_ | refine g1b ?_ | refine g0a ?_ | refine g0b ?_
          refine ⟨_, σ, ev_X11_isLate σ _, ?_⟩
          rw [show f_X11_isLate σ (nI n) = 1 from bt_t σ (a := 0) (m := 60) ⟨by omega, by omega⟩ (by decide)]
          first | refine g1a ?_ | refine g1b ?_ | refine g0a ?_ | refine g0b ?_
          refine ⟨_, σ, ev_X11_isIn σ _ _ _, ?_⟩
          rw [show f_X11_isIn σ x3 (0 : Int32) (1 : Int32) = 0 from q_btf σ (a := 0) (b := 1) (by decide) (by decide) h3]
          first | refine g1a ?_ | refine g1b ?_ | refine g0a ?_ | refine g0b ?_
          rfl
    · refine FQ.refuse hI (.int (-1)) ?_ ?_
      · refine sg_X10_bestWaker_0 σ _ _ _ _ ?_
        refine ⟨_, σ, ev_X1_has σ 10 _ (fun _ => rfl), ?_⟩
        rw [x_has σ h0 wf.1 (by omega), if_pos hk]
        first | refine g1a ?_ | refine g1b ?_ | refine g0a ?_ | refine g0b ?_
        refine ⟨_, σ, ev_X10_isBetween σ _ _ _, ?_⟩
        rw [show f_X10_isBetween σ x2 (0 : Int32) (60 : Int32) = 0 from q_btf σ (a := 0) (b := 60) (by decide) (by decide) h2]
        first | refine g1a ?_ | refine g1b ?_ | refine g0a ?_ | refine g0b ?_
        rfl
      · refine sg_X11_bestWaker_0 σ _ _ _ _ ?_
        refine ⟨_, σ, ev_X11_isDrinker σ _, ?_⟩
        rw [m_dk σ m0 wf.1 hk]
        first | refine g1a ?_ | refine g1b ?_ | refine g0a ?_ | refine g0b ?_
        refine ⟨_, σ, ev_X11_isLate σ _, ?_⟩
        rw [show f_X11_isLate σ x2 = 0 from q_btf σ (a := 0) (b := 60) (by decide) (by decide) h2]
        first | refine g1a ?_ | refine g1b ?_ | refine g0a ?_ | refine g0b ?_
        rfl
  · refine FQ.refuse hI (.int (-1)) ?_ ?_
    · refine sg_X10_bestWaker_0 σ _ _ _ _ ?_
      refine ⟨_, σ, ev_X1_has σ 10 _ (fun _ => rfl), ?_⟩
      rw [x_hasf σ h0 wf.1 h1]
      first | refine g1a ?_ | refine g1b ?_ | refine g0a ?_ | refine g0b ?_
      rfl
    · refine sg_X11_bestWaker_0 σ _ _ _ _ ?_
      refine ⟨_, σ, ev_X11_isDrinker σ _, ?_⟩
      rw [m_dkf σ m0 wf.1 h1]
      first | refine g1a ?_ | refine g1b ?_ | refine g0a ?_ | refine g0b ?_
      rfl
