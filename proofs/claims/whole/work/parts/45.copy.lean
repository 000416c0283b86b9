/-! the face: copy -/
theorem sub_toInt {a b : Nat} (ha : a < 2 ^ 30) (hb : b < 2 ^ 31) : (nI a - nI b).toInt = (a : Int) - b := by
  rw [Int32.toInt_sub, nI_toInt (by omega), nI_toInt hb]
  exact Int.bmod_eq_of_le (by omega) (by omega)
theorem x_hps {σ : mm_Sg} {d s n i k : Nat} (h : rowOf σ d s n) (hi : i < 2 ^ 31) (hk : k < 2 ^ 31) : f_X8_hasPlaces σ (32 + 2 * d) (nI i) (nI k) = if i + k ≤ n then 1 else 0 := by
  have h4 := h.2.2.2.1
  unfold f_X8_hasPlaces
  rw [if_neg (nI_pos hk), if_neg (nI_pos hi), h.2.2.2.2.2.2.1]
  by_cases c : n < k
  · rw [if_pos (nI_lt c hk), if_neg (by omega)]
  · rw [if_neg (nI_nlt (by omega) (by omega)), pk_sub (by omega)]
    by_cases c2 : n - k < i
    · rw [if_pos (nI_lt c2 hi), if_neg (by omega)]
    · rw [if_neg (nI_nlt (by omega) (by omega)), if_pos (by omega)]
theorem x_hpn {σ : mm_Sg} {q : Nat} {x y : Int32} (h : y < 0 ∨ x < 0) : f_X8_hasPlaces σ q x y = 0 := by
  unfold f_X8_hasPlaces
  by_cases c : y < 0
  · rw [if_pos c]
  · rw [if_neg c, if_pos (by rcases h with h | h; exact absurd h c; exact h)]
theorem m_room {s i n : Nat} (hs : s ≤ 100) (hi : i < 2 ^ 31) (hn : n < 2 ^ 31) : (nI s - nI i < nI n ↔ ¬ i + n ≤ s) := by
  rw [Int32.lt_iff_toInt_lt, sub_toInt (by omega) hi, nI_toInt hn]
  omega
theorem mW_copy {σ : mm_Sg} {d i e j n : Nat} (hd : d < 8) (he : e < 8) (hi : i + n ≤ 100) (hj : j + n ≤ 100) : ∃ σ', mm_Go mm_m_X11_copy (122, [.ref 51, .int (nI d), .int (nI i), .int (nI e), .int (nI j), .int (nI n), .int 0, .null], [], σ) (some (.int (nI n)), σ') ∧ (∀ p, σ' 64 p = if 100 * e + j ≤ p ∧ p < 100 * e + j + n then σ 64 (100 * d + i + (p - (100 * e + j))) else σ 64 p) ∧ ∀ q, q ≠ 64 → σ' q = σ q := by
  obtain ⟨a, ea⟩ : ∃ a, a = 100 * d + i := ⟨_, rfl⟩
  obtain ⟨b, eb⟩ : ∃ b, b = 100 * e + j := ⟨_, rfl⟩
  rw [← ea, ← eb]
  have ca : ∀ k : Nat, (((100 : Int32) * nI d) + nI i) + nI k = nI (a + k) := fun k => by rw [n_hund, nI_add, ea]
  have cb : ∀ k : Nat, (((100 : Int32) * nI e) + nI j) + nI k = nI (b + k) := fun k => by rw [n_hund, nI_add, eb]
  by_cases c : i ≤ j
  · obtain ⟨⟨s, d7⟩, ⟨h1, h2⟩, g⟩ := mm_run (M := mm_m_X11_copy) (α := mm_Sg × Value) (fun k s => (122, [.ref 51, .int (nI d), .int (nI i), .int (nI e), .int (nI j), .int (nI n), .int (nI k), s.2], [], s.1)) n (fun k s => (∀ p, s.1 64 p = if b + n - k ≤ p ∧ p < b + n then σ 64 (a + (p - b)) else σ 64 p) ∧ ∀ q, q ≠ 64 → s.1 q = σ q)
      (fun k s hk ⟨h1, h2⟩ => by
        obtain ⟨s, d7⟩ := s
        dsimp only at h1 h2 ⊢
        refine ⟨(mm_u s 64 (b + (n - 1 - k)) (s 64 (a + (n - 1 - k))), .int (nI (n - 1 - k))), ⟨fun p => ?_, fun q hq => by show (mm_u s 64 (b + (n - 1 - k)) (s 64 (a + (n - 1 - k)))) q = σ q; rw [mm_u_o hq, h2 q hq]⟩, fun X hX => ?_⟩
        · dsimp only
          by_cases ep : p = b + (n - 1 - k)
          · rw [ep, mm_u_kk, h1, if_neg (by omega), if_pos (by omega)]
            congr 1
            omega
          · rw [mm_u_k ep, h1]
            by_cases e2 : b + n - k ≤ p ∧ p < b + n
            · rw [if_pos e2, if_pos (by omega)]
            · rw [if_neg e2, if_neg (by omega)]
        · refine sg_X11_copy_122 s _ _ _ _ _ _ d7 X ⟨fun z => absurd z (nI_ge hk (by omega)), fun _ => ⟨fun _ => ?_, fun z => absurd (nI_le c (by omega)) z⟩⟩
          rw [show (nI n - (1 : Int32)) - nI k = nI (n - 1 - k) from by rw [show nI n - (1 : Int32) = nI (n - 1) from pk_sub (b := 1) (by omega), pk_sub (by omega)]]
          refine sg_X11_copy_147 s _ _ _ _ _ _ d7 _ X ?_
          rw [ca, cb, nI_clamp (by omega), nI_clamp (by omega), nI_1]
          exact ⟨v_in (N := 800) (by omega) (by decide), v_in (N := 800) (by omega) (by decide), fun σ3 e3 => by rw [e3]; exact hX⟩)
      n 0 (σ, .null) (by omega) ⟨fun p => by show σ 64 p = _; rw [if_neg (by omega)], fun _ _ => rfl⟩
    dsimp only at h1 h2 g
    refine ⟨s, g _ (sg_X11_copy_122 s _ _ _ _ _ _ d7 _ ⟨fun _ => rfl, fun z => absurd (nI_le (Nat.le_refl _) (by omega)) z⟩), fun p => ?_, h2⟩
    rw [h1]
    by_cases e2 : b ≤ p ∧ p < b + n
    · rw [if_pos (by omega), if_pos e2]
    · rw [if_neg (by omega), if_neg e2]
  · obtain ⟨⟨s, d7⟩, ⟨h1, h2⟩, g⟩ := mm_run (M := mm_m_X11_copy) (α := mm_Sg × Value) (fun k s => (122, [.ref 51, .int (nI d), .int (nI i), .int (nI e), .int (nI j), .int (nI n), .int (nI k), s.2], [], s.1)) n (fun k s => (∀ p, s.1 64 p = if b ≤ p ∧ p < b + k then σ 64 (a + (p - b)) else σ 64 p) ∧ ∀ q, q ≠ 64 → s.1 q = σ q)
      (fun k s hk ⟨h1, h2⟩ => by
        obtain ⟨s, d7⟩ := s
        dsimp only at h1 h2 ⊢
        refine ⟨(mm_u s 64 (b + k) (s 64 (a + k)), .int (nI k)), ⟨fun p => ?_, fun q hq => by show (mm_u s 64 (b + k) (s 64 (a + k))) q = σ q; rw [mm_u_o hq, h2 q hq]⟩, fun X hX => ?_⟩
        · dsimp only
          by_cases ep : p = b + k
          · rw [ep, mm_u_kk, h1, if_neg (by omega), if_pos (by omega)]
            congr 1
            omega
          · rw [mm_u_k ep, h1]
            by_cases e2 : b ≤ p ∧ p < b + k
            · rw [if_pos e2, if_pos (by omega)]
            · rw [if_neg e2, if_neg (by omega)]
        · refine sg_X11_copy_122 s _ _ _ _ _ _ d7 X ⟨fun z => absurd z (nI_ge hk (by omega)), fun _ => ⟨fun z => absurd z (nI_ge (by omega) (by omega)), fun _ => ?_⟩⟩
          refine sg_X11_copy_147 s _ _ _ _ _ _ d7 _ X ?_
          rw [ca, cb, nI_clamp (by omega), nI_clamp (by omega), nI_1]
          exact ⟨v_in (N := 800) (by omega) (by decide), v_in (N := 800) (by omega) (by decide), fun σ3 e3 => by rw [e3]; exact hX⟩)
      n 0 (σ, .null) (by omega) ⟨fun p => by show σ 64 p = _; rw [if_neg (by omega)], fun _ _ => rfl⟩
    dsimp only at h1 h2 g
    exact ⟨s, g _ (sg_X11_copy_122 s _ _ _ _ _ _ d7 _ ⟨fun _ => rfl, fun z => absurd (nI_le (Nat.le_refl _) (by omega)) z⟩), h1, h2⟩
theorem F_copy {σ : mm_Sg} (hI : Inv σ) (x1 x2 x3 x4 x5 : Int32) : FQ mm_m_X10_copy mm_m_X11_copy [.int x1, .int x2, .int x3, .int x4, .int x5] σ := by
  obtain ⟨⟨R, hcp⟩, hi, z53, z54, z55, hs⟩ := id hI
  obtain ⟨wf, r4, r5, r6, hx, hm⟩ := id hcp
  have h0 : σ 10 6 = nI (R 0) := hx.1
  have m0 : σ 52 0 = nI (R 0) := by rw [hm]; rfl
  have w7 := wf.1
  by_cases h1 : vp_in x1 8
  · by_cases h3 : vp_in x3 8
    · obtain ⟨d, hd, rfl⟩ := vp_in_of h1 (by decide)
      obtain ⟨e, he, rfl⟩ := vp_in_of h3 (by decide)
      have cd := cl_sh d hd
      have ce := cl_sh e he
      have v8 : vp_in (nI d) 8 := v_in hd (by decide)
      have w8 : vp_in (nI e) 8 := v_in he (by decide)
      obtain ⟨qa, qa2, a1, a2, -, ar⟩ := hs d hd
      obtain ⟨qb, qb2, b1, b2, -, br⟩ := hs e he
      rcases (show (qa = 0 ∧ qb = 0) ∨ (qa = 0 ∧ qb = 1) ∨ (qa = 0 ∧ qb = 2) ∨ (qa = 1 ∧ qb = 0) ∨ (qa = 1 ∧ qb = 1) ∨ (qa = 1 ∧ qb = 2) ∨ (qa = 2 ∧ qb = 0) ∨ (qa = 2 ∧ qb = 1) ∨ (qa = 2 ∧ qb = 2) by omega) with ⟨rfl, rfl⟩ | ⟨rfl, rfl⟩ | ⟨rfl, rfl⟩ | ⟨rfl, rfl⟩ | ⟨rfl, rfl⟩ | ⟨rfl, rfl⟩ | ⟨rfl, rfl⟩ | ⟨rfl, rfl⟩ | ⟨rfl, rfl⟩
      · refine FQ.refuse hI (.int (-11)) ?_ ?_
        · refine sg_X10_copy_0 σ _ _ _ _ _ _ ?_
          refine ⟨_, σ, ev_X10_isShelf σ _, ?_⟩
          rw [x_sh σ hd]
          first | refine g1a ?_ | refine g1b ?_ | refine g0a ?_ | refine g0b ?_
          refine ⟨_, σ, ev_X10_isShelf σ _, ?_⟩
          rw [x_sh σ he]
          first | refine g1a ?_ | refine g1b ?_ | refine g0a ?_ | refine g0b ?_
          rw [nI_clamp (by omega), nI_clamp (by omega), a1, b1]
          exact ⟨v8, w8, cd.1, (by first | exact fun _ => rfl | exact fun z => absurd z (by decide) | exact fun z => absurd (by decide) z), (by first | exact fun z => absurd z (by decide) | exact fun z => absurd (by decide) z | exact fun _ => ⟨ce.1, (by first | exact fun z => absurd z (by decide) | exact fun z => absurd (by decide) z | exact fun _ => ⟨(by first | exact fun _ => rfl | exact fun z => absurd z (by decide) | exact fun z => absurd (by decide) z), (by first | exact fun z => absurd z (by decide) | exact fun z => absurd (by decide) z | exact fun _ => ⟨(by first | exact fun _ => rfl | exact fun z => absurd z (by decide) | exact fun z => absurd (by decide) z), (by first | exact fun z => absurd z (by decide) | exact fun z => absurd (by decide) z)⟩)⟩), (by first | exact fun _ => rfl | exact fun z => absurd z (by decide) | exact fun z => absurd (by decide) z)⟩)⟩
        · refine sg_X11_copy_0 σ _ _ _ _ _ _ ?_
          refine ⟨_, σ, ev_X11_isShelf σ _, ?_⟩
          rw [m_sh σ hd]
          first | refine g1a ?_ | refine g1b ?_ | refine g0a ?_ | refine g0b ?_
          refine ⟨_, σ, ev_X11_isShelf σ _, ?_⟩
          rw [m_sh σ he]
          first | refine g1a ?_ | refine g1b ?_ | refine g0a ?_ | refine g0b ?_
          rw [nI_clamp (by omega), nI_clamp (by omega), a2, b2]
          exact ⟨v8, (by first | exact fun _ => rfl | exact fun z => absurd z (by decide) | exact fun z => absurd (by decide) z), (by first | exact fun z => absurd z (by decide) | exact fun z => absurd (by decide) z | exact fun _ => ⟨w8, (by first | exact fun z => absurd z (by decide) | exact fun z => absurd (by decide) z | exact fun _ => ⟨(by first | exact fun _ => rfl | exact fun z => absurd z (by decide) | exact fun z => absurd (by decide) z), (by first | exact fun z => absurd z (by decide) | exact fun z => absurd (by decide) z | exact fun _ => ⟨(by first | exact fun _ => rfl | exact fun z => absurd z (by decide) | exact fun z => absurd (by decide) z), (by first | exact fun z => absurd z (by decide) | exact fun z => absurd (by decide) z)⟩)⟩), (by first | exact fun _ => rfl | exact fun z => absurd z (by decide) | exact fun z => absurd (by decide) z)⟩)⟩
      · refine FQ.refuse hI (.int (-11)) ?_ ?_
        · refine sg_X10_copy_0 σ _ _ _ _ _ _ ?_
          refine ⟨_, σ, ev_X10_isShelf σ _, ?_⟩
          rw [x_sh σ hd]
          first | refine g1a ?_ | refine g1b ?_ | refine g0a ?_ | refine g0b ?_
          refine ⟨_, σ, ev_X10_isShelf σ _, ?_⟩
          rw [x_sh σ he]
          first | refine g1a ?_ | refine g1b ?_ | refine g0a ?_ | refine g0b ?_
          rw [nI_clamp (by omega), nI_clamp (by omega), a1, b1]
          exact ⟨v8, w8, cd.1, (by first | exact fun _ => rfl | exact fun z => absurd z (by decide) | exact fun z => absurd (by decide) z), (by first | exact fun z => absurd z (by decide) | exact fun z => absurd (by decide) z | exact fun _ => ⟨ce.1, (by first | exact fun z => absurd z (by decide) | exact fun z => absurd (by decide) z | exact fun _ => ⟨(by first | exact fun _ => rfl | exact fun z => absurd z (by decide) | exact fun z => absurd (by decide) z), (by first | exact fun z => absurd z (by decide) | exact fun z => absurd (by decide) z | exact fun _ => ⟨(by first | exact fun _ => rfl | exact fun z => absurd z (by decide) | exact fun z => absurd (by decide) z), (by first | exact fun z => absurd z (by decide) | exact fun z => absurd (by decide) z)⟩)⟩), (by first | exact fun _ => rfl | exact fun z => absurd z (by decide) | exact fun z => absurd (by decide) z)⟩)⟩
        · refine sg_X11_copy_0 σ _ _ _ _ _ _ ?_
          refine ⟨_, σ, ev_X11_isShelf σ _, ?_⟩
          rw [m_sh σ hd]
          first | refine g1a ?_ | refine g1b ?_ | refine g0a ?_ | refine g0b ?_
          refine ⟨_, σ, ev_X11_isShelf σ _, ?_⟩
          rw [m_sh σ he]
          first | refine g1a ?_ | refine g1b ?_ | refine g0a ?_ | refine g0b ?_
          rw [nI_clamp (by omega), nI_clamp (by omega), a2, b2]
          exact ⟨v8, (by first | exact fun _ => rfl | exact fun z => absurd z (by decide) | exact fun z => absurd (by decide) z), (by first | exact fun z => absurd z (by decide) | exact fun z => absurd (by decide) z | exact fun _ => ⟨w8, (by first | exact fun z => absurd z (by decide) | exact fun z => absurd (by decide) z | exact fun _ => ⟨(by first | exact fun _ => rfl | exact fun z => absurd z (by decide) | exact fun z => absurd (by decide) z), (by first | exact fun z => absurd z (by decide) | exact fun z => absurd (by decide) z | exact fun _ => ⟨(by first | exact fun _ => rfl | exact fun z => absurd z (by decide) | exact fun z => absurd (by decide) z), (by first | exact fun z => absurd z (by decide) | exact fun z => absurd (by decide) z)⟩)⟩), (by first | exact fun _ => rfl | exact fun z => absurd z (by decide) | exact fun z => absurd (by decide) z)⟩)⟩
      · refine FQ.refuse hI (.int (-11)) ?_ ?_
        · refine sg_X10_copy_0 σ _ _ _ _ _ _ ?_
          refine ⟨_, σ, ev_X10_isShelf σ _, ?_⟩
          rw [x_sh σ hd]
          first | refine g1a ?_ | refine g1b ?_ | refine g0a ?_ | refine g0b ?_
          refine ⟨_, σ, ev_X10_isShelf σ _, ?_⟩
          rw [x_sh σ he]
          first | refine g1a ?_ | refine g1b ?_ | refine g0a ?_ | refine g0b ?_
          rw [nI_clamp (by omega), nI_clamp (by omega), a1, b1]
          exact ⟨v8, w8, cd.1, (by first | exact fun _ => rfl | exact fun z => absurd z (by decide) | exact fun z => absurd (by decide) z), (by first | exact fun z => absurd z (by decide) | exact fun z => absurd (by decide) z | exact fun _ => ⟨ce.1, (by first | exact fun z => absurd z (by decide) | exact fun z => absurd (by decide) z | exact fun _ => ⟨(by first | exact fun _ => rfl | exact fun z => absurd z (by decide) | exact fun z => absurd (by decide) z), (by first | exact fun z => absurd z (by decide) | exact fun z => absurd (by decide) z | exact fun _ => ⟨(by first | exact fun _ => rfl | exact fun z => absurd z (by decide) | exact fun z => absurd (by decide) z), (by first | exact fun z => absurd z (by decide) | exact fun z => absurd (by decide) z)⟩)⟩), (by first | exact fun _ => rfl | exact fun z => absurd z (by decide) | exact fun z => absurd (by decide) z)⟩)⟩
        · refine sg_X11_copy_0 σ _ _ _ _ _ _ ?_
          refine ⟨_, σ, ev_X11_isShelf σ _, ?_⟩
          rw [m_sh σ hd]
          first | refine g1a ?_ | refine g1b ?_ | refine g0a ?_ | refine g0b ?_
          refine ⟨_, σ, ev_X11_isShelf σ _, ?_⟩
          rw [m_sh σ he]
          first | refine g1a ?_ | refine g1b ?_ | refine g0a ?_ | refine g0b ?_
          rw [nI_clamp (by omega), nI_clamp (by omega), a2, b2]
          exact ⟨v8, (by first | exact fun _ => rfl | exact fun z => absurd z (by decide) | exact fun z => absurd (by decide) z), (by first | exact fun z => absurd z (by decide) | exact fun z => absurd (by decide) z | exact fun _ => ⟨w8, (by first | exact fun z => absurd z (by decide) | exact fun z => absurd (by decide) z | exact fun _ => ⟨(by first | exact fun _ => rfl | exact fun z => absurd z (by decide) | exact fun z => absurd (by decide) z), (by first | exact fun z => absurd z (by decide) | exact fun z => absurd (by decide) z | exact fun _ => ⟨(by first | exact fun _ => rfl | exact fun z => absurd z (by decide) | exact fun z => absurd (by decide) z), (by first | exact fun z => absurd z (by decide) | exact fun z => absurd (by decide) z)⟩)⟩), (by first | exact fun _ => rfl | exact fun z => absurd z (by decide) | exact fun z => absurd (by decide) z)⟩)⟩
      · refine FQ.refuse hI (.int (-11)) ?_ ?_
        · refine sg_X10_copy_0 σ _ _ _ _ _ _ ?_
          refine ⟨_, σ, ev_X10_isShelf σ _, ?_⟩
          rw [x_sh σ hd]
          first | refine g1a ?_ | refine g1b ?_ | refine g0a ?_ | refine g0b ?_
          refine ⟨_, σ, ev_X10_isShelf σ _, ?_⟩
          rw [x_sh σ he]
          first | refine g1a ?_ | refine g1b ?_ | refine g0a ?_ | refine g0b ?_
          rw [nI_clamp (by omega), nI_clamp (by omega), a1, b1]
          exact ⟨v8, w8, cd.1, (by first | exact fun _ => rfl | exact fun z => absurd z (by decide) | exact fun z => absurd (by decide) z), (by first | exact fun z => absurd z (by decide) | exact fun z => absurd (by decide) z | exact fun _ => ⟨ce.1, (by first | exact fun z => absurd z (by decide) | exact fun z => absurd (by decide) z | exact fun _ => ⟨(by first | exact fun _ => rfl | exact fun z => absurd z (by decide) | exact fun z => absurd (by decide) z), (by first | exact fun z => absurd z (by decide) | exact fun z => absurd (by decide) z | exact fun _ => ⟨(by first | exact fun _ => rfl | exact fun z => absurd z (by decide) | exact fun z => absurd (by decide) z), (by first | exact fun z => absurd z (by decide) | exact fun z => absurd (by decide) z)⟩)⟩), (by first | exact fun _ => rfl | exact fun z => absurd z (by decide) | exact fun z => absurd (by decide) z)⟩)⟩
        · refine sg_X11_copy_0 σ _ _ _ _ _ _ ?_
          refine ⟨_, σ, ev_X11_isShelf σ _, ?_⟩
          rw [m_sh σ hd]
          first | refine g1a ?_ | refine g1b ?_ | refine g0a ?_ | refine g0b ?_
          refine ⟨_, σ, ev_X11_isShelf σ _, ?_⟩
          rw [m_sh σ he]
          first | refine g1a ?_ | refine g1b ?_ | refine g0a ?_ | refine g0b ?_
          rw [nI_clamp (by omega), nI_clamp (by omega), a2, b2]
          exact ⟨v8, (by first | exact fun _ => rfl | exact fun z => absurd z (by decide) | exact fun z => absurd (by decide) z), (by first | exact fun z => absurd z (by decide) | exact fun z => absurd (by decide) z | exact fun _ => ⟨w8, (by first | exact fun z => absurd z (by decide) | exact fun z => absurd (by decide) z | exact fun _ => ⟨(by first | exact fun _ => rfl | exact fun z => absurd z (by decide) | exact fun z => absurd (by decide) z), (by first | exact fun z => absurd z (by decide) | exact fun z => absurd (by decide) z | exact fun _ => ⟨(by first | exact fun _ => rfl | exact fun z => absurd z (by decide) | exact fun z => absurd (by decide) z), (by first | exact fun z => absurd z (by decide) | exact fun z => absurd (by decide) z)⟩)⟩), (by first | exact fun _ => rfl | exact fun z => absurd z (by decide) | exact fun z => absurd (by decide) z)⟩)⟩
      · refine FQ.refuse hI (.int (-12)) ?_ ?_
        · refine sg_X10_copy_0 σ _ _ _ _ _ _ ?_
          refine ⟨_, σ, ev_X10_isShelf σ _, ?_⟩
          rw [x_sh σ hd]
          first | refine g1a ?_ | refine g1b ?_ | refine g0a ?_ | refine g0b ?_
          refine ⟨_, σ, ev_X10_isShelf σ _, ?_⟩
          rw [x_sh σ he]
          first | refine g1a ?_ | refine g1b ?_ | refine g0a ?_ | refine g0b ?_
          rw [nI_clamp (by omega), nI_clamp (by omega), a1, b1]
          exact ⟨v8, w8, cd.1, (by first | exact fun _ => rfl | exact fun z => absurd z (by decide) | exact fun z => absurd (by decide) z), (by first | exact fun z => absurd z (by decide) | exact fun z => absurd (by decide) z | exact fun _ => ⟨ce.1, (by first | exact fun z => absurd z (by decide) | exact fun z => absurd (by decide) z | exact fun _ => ⟨(by first | exact fun _ => rfl | exact fun z => absurd z (by decide) | exact fun z => absurd (by decide) z), (by first | exact fun z => absurd z (by decide) | exact fun z => absurd (by decide) z | exact fun _ => ⟨(by first | exact fun _ => rfl | exact fun z => absurd z (by decide) | exact fun z => absurd (by decide) z), (by first | exact fun z => absurd z (by decide) | exact fun z => absurd (by decide) z)⟩)⟩), (by first | exact fun _ => rfl | exact fun z => absurd z (by decide) | exact fun z => absurd (by decide) z)⟩)⟩
        · refine sg_X11_copy_0 σ _ _ _ _ _ _ ?_
          refine ⟨_, σ, ev_X11_isShelf σ _, ?_⟩
          rw [m_sh σ hd]
          first | refine g1a ?_ | refine g1b ?_ | refine g0a ?_ | refine g0b ?_
          refine ⟨_, σ, ev_X11_isShelf σ _, ?_⟩
          rw [m_sh σ he]
          first | refine g1a ?_ | refine g1b ?_ | refine g0a ?_ | refine g0b ?_
          rw [nI_clamp (by omega), nI_clamp (by omega), a2, b2]
          exact ⟨v8, (by first | exact fun _ => rfl | exact fun z => absurd z (by decide) | exact fun z => absurd (by decide) z), (by first | exact fun z => absurd z (by decide) | exact fun z => absurd (by decide) z | exact fun _ => ⟨w8, (by first | exact fun z => absurd z (by decide) | exact fun z => absurd (by decide) z | exact fun _ => ⟨(by first | exact fun _ => rfl | exact fun z => absurd z (by decide) | exact fun z => absurd (by decide) z), (by first | exact fun z => absurd z (by decide) | exact fun z => absurd (by decide) z | exact fun _ => ⟨(by first | exact fun _ => rfl | exact fun z => absurd z (by decide) | exact fun z => absurd (by decide) z), (by first | exact fun z => absurd z (by decide) | exact fun z => absurd (by decide) z)⟩)⟩), (by first | exact fun _ => rfl | exact fun z => absurd z (by decide) | exact fun z => absurd (by decide) z)⟩)⟩
      · refine FQ.refuse hI (.int (-12)) ?_ ?_
        · refine sg_X10_copy_0 σ _ _ _ _ _ _ ?_
          refine ⟨_, σ, ev_X10_isShelf σ _, ?_⟩
          rw [x_sh σ hd]
          first | refine g1a ?_ | refine g1b ?_ | refine g0a ?_ | refine g0b ?_
          refine ⟨_, σ, ev_X10_isShelf σ _, ?_⟩
          rw [x_sh σ he]
          first | refine g1a ?_ | refine g1b ?_ | refine g0a ?_ | refine g0b ?_
          rw [nI_clamp (by omega), nI_clamp (by omega), a1, b1]
          exact ⟨v8, w8, cd.1, (by first | exact fun _ => rfl | exact fun z => absurd z (by decide) | exact fun z => absurd (by decide) z), (by first | exact fun z => absurd z (by decide) | exact fun z => absurd (by decide) z | exact fun _ => ⟨ce.1, (by first | exact fun z => absurd z (by decide) | exact fun z => absurd (by decide) z | exact fun _ => ⟨(by first | exact fun _ => rfl | exact fun z => absurd z (by decide) | exact fun z => absurd (by decide) z), (by first | exact fun z => absurd z (by decide) | exact fun z => absurd (by decide) z | exact fun _ => ⟨(by first | exact fun _ => rfl | exact fun z => absurd z (by decide) | exact fun z => absurd (by decide) z), (by first | exact fun z => absurd z (by decide) | exact fun z => absurd (by decide) z)⟩)⟩), (by first | exact fun _ => rfl | exact fun z => absurd z (by decide) | exact fun z => absurd (by decide) z)⟩)⟩
        · refine sg_X11_copy_0 σ _ _ _ _ _ _ ?_
          refine ⟨_, σ, ev_X11_isShelf σ _, ?_⟩
          rw [m_sh σ hd]
          first | refine g1a ?_ | refine g1b ?_ | refine g0a ?_ | refine g0b ?_
          refine ⟨_, σ, ev_X11_isShelf σ _, ?_⟩
          rw [m_sh σ he]
          first | refine g1a ?_ | refine g1b ?_ | refine g0a ?_ | refine g0b ?_
          rw [nI_clamp (by omega), nI_clamp (by omega), a2, b2]
          exact ⟨v8, (by first | exact fun _ => rfl | exact fun z => absurd z (by decide) | exact fun z => absurd (by decide) z), (by first | exact fun z => absurd z (by decide) | exact fun z => absurd (by decide) z | exact fun _ => ⟨w8, (by first | exact fun z => absurd z (by decide) | exact fun z => absurd (by decide) z | exact fun _ => ⟨(by first | exact fun _ => rfl | exact fun z => absurd z (by decide) | exact fun z => absurd (by decide) z), (by first | exact fun z => absurd z (by decide) | exact fun z => absurd (by decide) z | exact fun _ => ⟨(by first | exact fun _ => rfl | exact fun z => absurd z (by decide) | exact fun z => absurd (by decide) z), (by first | exact fun z => absurd z (by decide) | exact fun z => absurd (by decide) z)⟩)⟩), (by first | exact fun _ => rfl | exact fun z => absurd z (by decide) | exact fun z => absurd (by decide) z)⟩)⟩
      · refine FQ.refuse hI (.int (-11)) ?_ ?_
        · refine sg_X10_copy_0 σ _ _ _ _ _ _ ?_
          refine ⟨_, σ, ev_X10_isShelf σ _, ?_⟩
          rw [x_sh σ hd]
          first | refine g1a ?_ | refine g1b ?_ | refine g0a ?_ | refine g0b ?_
          refine ⟨_, σ, ev_X10_isShelf σ _, ?_⟩
          rw [x_sh σ he]
          first | refine g1a ?_ | refine g1b ?_ | refine g0a ?_ | refine g0b ?_
          rw [nI_clamp (by omega), nI_clamp (by omega), a1, b1]
          exact ⟨v8, w8, cd.1, (by first | exact fun _ => rfl | exact fun z => absurd z (by decide) | exact fun z => absurd (by decide) z), (by first | exact fun z => absurd z (by decide) | exact fun z => absurd (by decide) z | exact fun _ => ⟨ce.1, (by first | exact fun z => absurd z (by decide) | exact fun z => absurd (by decide) z | exact fun _ => ⟨(by first | exact fun _ => rfl | exact fun z => absurd z (by decide) | exact fun z => absurd (by decide) z), (by first | exact fun z => absurd z (by decide) | exact fun z => absurd (by decide) z | exact fun _ => ⟨(by first | exact fun _ => rfl | exact fun z => absurd z (by decide) | exact fun z => absurd (by decide) z), (by first | exact fun z => absurd z (by decide) | exact fun z => absurd (by decide) z)⟩)⟩), (by first | exact fun _ => rfl | exact fun z => absurd z (by decide) | exact fun z => absurd (by decide) z)⟩)⟩
        · refine sg_X11_copy_0 σ _ _ _ _ _ _ ?_
          refine ⟨_, σ, ev_X11_isShelf σ _, ?_⟩
          rw [m_sh σ hd]
          first | refine g1a ?_ | refine g1b ?_ | refine g0a ?_ | refine g0b ?_
          refine ⟨_, σ, ev_X11_isShelf σ _, ?_⟩
          rw [m_sh σ he]
          first | refine g1a ?_ | refine g1b ?_ | refine g0a ?_ | refine g0b ?_
          rw [nI_clamp (by omega), nI_clamp (by omega), a2, b2]
          exact ⟨v8, (by first | exact fun _ => rfl | exact fun z => absurd z (by decide) | exact fun z => absurd (by decide) z), (by first | exact fun z => absurd z (by decide) | exact fun z => absurd (by decide) z | exact fun _ => ⟨w8, (by first | exact fun z => absurd z (by decide) | exact fun z => absurd (by decide) z | exact fun _ => ⟨(by first | exact fun _ => rfl | exact fun z => absurd z (by decide) | exact fun z => absurd (by decide) z), (by first | exact fun z => absurd z (by decide) | exact fun z => absurd (by decide) z | exact fun _ => ⟨(by first | exact fun _ => rfl | exact fun z => absurd z (by decide) | exact fun z => absurd (by decide) z), (by first | exact fun z => absurd z (by decide) | exact fun z => absurd (by decide) z)⟩)⟩), (by first | exact fun _ => rfl | exact fun z => absurd z (by decide) | exact fun z => absurd (by decide) z)⟩)⟩
      · refine FQ.refuse hI (.int (-12)) ?_ ?_
        · refine sg_X10_copy_0 σ _ _ _ _ _ _ ?_
          refine ⟨_, σ, ev_X10_isShelf σ _, ?_⟩
          rw [x_sh σ hd]
          first | refine g1a ?_ | refine g1b ?_ | refine g0a ?_ | refine g0b ?_
          refine ⟨_, σ, ev_X10_isShelf σ _, ?_⟩
          rw [x_sh σ he]
          first | refine g1a ?_ | refine g1b ?_ | refine g0a ?_ | refine g0b ?_
          rw [nI_clamp (by omega), nI_clamp (by omega), a1, b1]
          exact ⟨v8, w8, cd.1, (by first | exact fun _ => rfl | exact fun z => absurd z (by decide) | exact fun z => absurd (by decide) z), (by first | exact fun z => absurd z (by decide) | exact fun z => absurd (by decide) z | exact fun _ => ⟨ce.1, (by first | exact fun z => absurd z (by decide) | exact fun z => absurd (by decide) z | exact fun _ => ⟨(by first | exact fun _ => rfl | exact fun z => absurd z (by decide) | exact fun z => absurd (by decide) z), (by first | exact fun z => absurd z (by decide) | exact fun z => absurd (by decide) z | exact fun _ => ⟨(by first | exact fun _ => rfl | exact fun z => absurd z (by decide) | exact fun z => absurd (by decide) z), (by first | exact fun z => absurd z (by decide) | exact fun z => absurd (by decide) z)⟩)⟩), (by first | exact fun _ => rfl | exact fun z => absurd z (by decide) | exact fun z => absurd (by decide) z)⟩)⟩
        · refine sg_X11_copy_0 σ _ _ _ _ _ _ ?_
          refine ⟨_, σ, ev_X11_isShelf σ _, ?_⟩
          rw [m_sh σ hd]
          first | refine g1a ?_ | refine g1b ?_ | refine g0a ?_ | refine g0b ?_
          refine ⟨_, σ, ev_X11_isShelf σ _, ?_⟩
          rw [m_sh σ he]
          first | refine g1a ?_ | refine g1b ?_ | refine g0a ?_ | refine g0b ?_
          rw [nI_clamp (by omega), nI_clamp (by omega), a2, b2]
          exact ⟨v8, (by first | exact fun _ => rfl | exact fun z => absurd z (by decide) | exact fun z => absurd (by decide) z), (by first | exact fun z => absurd z (by decide) | exact fun z => absurd (by decide) z | exact fun _ => ⟨w8, (by first | exact fun z => absurd z (by decide) | exact fun z => absurd (by decide) z | exact fun _ => ⟨(by first | exact fun _ => rfl | exact fun z => absurd z (by decide) | exact fun z => absurd (by decide) z), (by first | exact fun z => absurd z (by decide) | exact fun z => absurd (by decide) z | exact fun _ => ⟨(by first | exact fun _ => rfl | exact fun z => absurd z (by decide) | exact fun z => absurd (by decide) z), (by first | exact fun z => absurd z (by decide) | exact fun z => absurd (by decide) z)⟩)⟩), (by first | exact fun _ => rfl | exact fun z => absurd z (by decide) | exact fun z => absurd (by decide) z)⟩)⟩
      · obtain ⟨s, n1, p1, hsz1, p3, p4, p5, p6, p7, p8⟩ := ar rfl
        obtain ⟨s', n2, q1, hsz2, q3, q4, q5, q6, q7, q8⟩ := br rfl
        have q2 := hsz2
        have ro1 : rowOf σ d s n1 := ⟨a1, a2, p1, hsz1, p3, p4, p5, p6, p7, p8⟩
        have ro2 : rowOf σ e s' n2 := ⟨b1, b2, q1, hsz2, q3, q4, q5, q6, q7, q8⟩
        by_cases hss : s = s'
        · by_cases c5 : x5 < 0
          · refine FQ.refuse hI (.int (-13)) ?_ ?_
            · refine sg_X10_copy_0 σ _ _ _ _ _ _ ?_
              refine ⟨_, σ, ev_X10_isShelf σ _, ?_⟩
              rw [x_sh σ hd]
              first | refine g1a ?_ | refine g1b ?_ | refine g0a ?_ | refine g0b ?_
              refine ⟨_, σ, ev_X10_isShelf σ _, ?_⟩
              rw [x_sh σ he]
              first | refine g1a ?_ | refine g1b ?_ | refine g0a ?_ | refine g0b ?_
              rw [nI_clamp (by omega), nI_clamp (by omega), a1, b1]
              refine ⟨v8, w8, cd.1, fun z => absurd z (show ¬ (nI 2 : Int32) = 0 by decide), fun _ => ⟨ce.1, fun _ => ⟨fun z => absurd rfl z, fun _ => ⟨fun z => absurd rfl z, fun _ => ?_⟩⟩, fun z => absurd (show ¬ (nI 2 : Int32) = 0 by decide) z⟩⟩
              rw [p3, q3, hss]
              refine ⟨fun _ => ?_, fun z => absurd rfl z⟩
              refine ⟨_, σ, ev_X8_hasPlaces σ _ _ _ (fun _ _ => cd.1), ?_⟩
              rw [x_hpn (Or.inl c5)]
              exact g0a rfl
            · refine sg_X11_copy_0 σ _ _ _ _ _ _ ?_
              refine ⟨_, σ, ev_X11_isShelf σ _, ?_⟩
              rw [m_sh σ hd]
              first | refine g1a ?_ | refine g1b ?_ | refine g0a ?_ | refine g0b ?_
              refine ⟨_, σ, ev_X11_isShelf σ _, ?_⟩
              rw [m_sh σ he]
              first | refine g1a ?_ | refine g1b ?_ | refine g0a ?_ | refine g0b ?_
              rw [nI_clamp (by omega), nI_clamp (by omega), a2, b2]
              refine ⟨v8, fun z => absurd z (show ¬ (nI 2 : Int32) = 0 by decide), fun _ => ⟨w8, fun _ => ⟨fun z => absurd rfl z, fun _ => ⟨fun z => absurd rfl z, fun _ => ⟨v8, w8, ?_⟩⟩⟩, fun z => absurd (show ¬ (nI 2 : Int32) = 0 by decide) z⟩⟩
              rw [p4, q4, hss]
              refine ⟨fun _ => ?_, fun z => absurd rfl z⟩
              exact ⟨fun _ => rfl, fun z => absurd c5 z⟩
          · by_cases c2 : x2 < 0
            · refine FQ.refuse hI (.int (-13)) ?_ ?_
              · refine sg_X10_copy_0 σ _ _ _ _ _ _ ?_
                refine ⟨_, σ, ev_X10_isShelf σ _, ?_⟩
                rw [x_sh σ hd]
                first | refine g1a ?_ | refine g1b ?_ | refine g0a ?_ | refine g0b ?_
                refine ⟨_, σ, ev_X10_isShelf σ _, ?_⟩
                rw [x_sh σ he]
                first | refine g1a ?_ | refine g1b ?_ | refine g0a ?_ | refine g0b ?_
                rw [nI_clamp (by omega), nI_clamp (by omega), a1, b1]
                refine ⟨v8, w8, cd.1, fun z => absurd z (show ¬ (nI 2 : Int32) = 0 by decide), fun _ => ⟨ce.1, fun _ => ⟨fun z => absurd rfl z, fun _ => ⟨fun z => absurd rfl z, fun _ => ?_⟩⟩, fun z => absurd (show ¬ (nI 2 : Int32) = 0 by decide) z⟩⟩
                rw [p3, q3, hss]
                refine ⟨fun _ => ?_, fun z => absurd rfl z⟩
                refine ⟨_, σ, ev_X8_hasPlaces σ _ _ _ (fun _ _ => cd.1), ?_⟩
                rw [x_hpn (Or.inr c2)]
                exact g0a rfl
              · refine sg_X11_copy_0 σ _ _ _ _ _ _ ?_
                refine ⟨_, σ, ev_X11_isShelf σ _, ?_⟩
                rw [m_sh σ hd]
                first | refine g1a ?_ | refine g1b ?_ | refine g0a ?_ | refine g0b ?_
                refine ⟨_, σ, ev_X11_isShelf σ _, ?_⟩
                rw [m_sh σ he]
                first | refine g1a ?_ | refine g1b ?_ | refine g0a ?_ | refine g0b ?_
                rw [nI_clamp (by omega), nI_clamp (by omega), a2, b2]
                refine ⟨v8, fun z => absurd z (show ¬ (nI 2 : Int32) = 0 by decide), fun _ => ⟨w8, fun _ => ⟨fun z => absurd rfl z, fun _ => ⟨fun z => absurd rfl z, fun _ => ⟨v8, w8, ?_⟩⟩⟩, fun z => absurd (show ¬ (nI 2 : Int32) = 0 by decide) z⟩⟩
                rw [p4, q4, hss]
                refine ⟨fun _ => ?_, fun z => absurd rfl z⟩
                refine ⟨fun z => absurd z c5, fun _ => ⟨fun _ => rfl, fun z => absurd c2 z⟩⟩
            · obtain ⟨n, hn, rfl⟩ := nI_of c5
              obtain ⟨i, hi, rfl⟩ := nI_of c2
              by_cases c4 : x4 < 0
              · refine FQ.refuse hI (.int (-13)) ?_ ?_
                · refine sg_X10_copy_0 σ _ _ _ _ _ _ ?_
                  refine ⟨_, σ, ev_X10_isShelf σ _, ?_⟩
                  rw [x_sh σ hd]
                  first | refine g1a ?_ | refine g1b ?_ | refine g0a ?_ | refine g0b ?_
                  refine ⟨_, σ, ev_X10_isShelf σ _, ?_⟩
                  rw [x_sh σ he]
                  first | refine g1a ?_ | refine g1b ?_ | refine g0a ?_ | refine g0b ?_
                  rw [nI_clamp (by omega), nI_clamp (by omega), a1, b1]
                  refine ⟨v8, w8, cd.1, fun z => absurd z (show ¬ (nI 2 : Int32) = 0 by decide), fun _ => ⟨ce.1, fun _ => ⟨fun z => absurd rfl z, fun _ => ⟨fun z => absurd rfl z, fun _ => ?_⟩⟩, fun z => absurd (show ¬ (nI 2 : Int32) = 0 by decide) z⟩⟩
                  rw [p3, q3, hss]
                  refine ⟨fun _ => ?_, fun z => absurd rfl z⟩
                  refine ⟨_, σ, ev_X8_hasPlaces σ _ _ _ (fun _ _ => cd.1), ?_⟩
                  rw [x_hps ro1 hi hn]
                  by_cases c : i + n ≤ n1
                  · rw [if_pos c]
                    refine g1a ?_
                    refine ⟨_, σ, ev_X8_hasPlaces σ _ _ _ (fun _ _ => ce.1), ?_⟩
                    rw [x_hpn (Or.inr c4)]
                    exact g0b rfl
                  · rw [if_neg c]
                    exact g0a rfl
                · refine sg_X11_copy_0 σ _ _ _ _ _ _ ?_
                  refine ⟨_, σ, ev_X11_isShelf σ _, ?_⟩
                  rw [m_sh σ hd]
                  first | refine g1a ?_ | refine g1b ?_ | refine g0a ?_ | refine g0b ?_
                  refine ⟨_, σ, ev_X11_isShelf σ _, ?_⟩
                  rw [m_sh σ he]
                  first | refine g1a ?_ | refine g1b ?_ | refine g0a ?_ | refine g0b ?_
                  rw [nI_clamp (by omega), nI_clamp (by omega), a2, b2]
                  refine ⟨v8, fun z => absurd z (show ¬ (nI 2 : Int32) = 0 by decide), fun _ => ⟨w8, fun _ => ⟨fun z => absurd rfl z, fun _ => ⟨fun z => absurd rfl z, fun _ => ⟨v8, w8, ?_⟩⟩⟩, fun z => absurd (show ¬ (nI 2 : Int32) = 0 by decide) z⟩⟩
                  rw [p4, q4, hss]
                  refine ⟨fun _ => ?_, fun z => absurd rfl z⟩
                  refine ⟨fun z => absurd z c5, fun _ => ⟨fun z => absurd z c2, fun _ => ⟨fun _ => rfl, fun z => absurd c4 z⟩⟩⟩
              · obtain ⟨j, hj, rfl⟩ := nI_of c4
                by_cases c1 : i + n ≤ n1
                · by_cases c3 : j + n ≤ n2
                  · obtain ⟨s1, es1⟩ : ∃ s1, s1 = mm_cp σ (32 + 2 * d + 1) i (32 + 2 * e + 1) j n := ⟨_, rfl⟩
                    have f1 : ∀ q, q ≠ 33 + 2 * e → s1 q = σ q := fun q hq => by
                      rw [es1]
                      unfold mm_cp
                      rw [if_neg (by omega)]
                    obtain ⟨σ2, g2, k1, k2⟩ := mW_copy (σ := s1) (d := d) (i := i) (e := e) (j := j) (n := n) hd he (by omega) (by omega)
                    have e64 : s1 64 = σ 64 := f1 64 (by omega)
                    rw [e64] at k1
                    refine ⟨.int (nI n), s1, σ2, ?_, ?_, ?_⟩
                    · refine sg_X10_copy_0 σ _ _ _ _ _ _ ?_
                      refine ⟨_, σ, ev_X10_isShelf σ _, ?_⟩
                      rw [x_sh σ hd]
                      first | refine g1a ?_ | refine g1b ?_ | refine g0a ?_ | refine g0b ?_
                      refine ⟨_, σ, ev_X10_isShelf σ _, ?_⟩
                      rw [x_sh σ he]
                      first | refine g1a ?_ | refine g1b ?_ | refine g0a ?_ | refine g0b ?_
                      rw [nI_clamp (by omega), nI_clamp (by omega), a1, b1]
                      refine ⟨v8, w8, cd.1, fun z => absurd z (show ¬ (nI 2 : Int32) = 0 by decide), fun _ => ⟨ce.1, fun _ => ⟨fun z => absurd rfl z, fun _ => ⟨fun z => absurd rfl z, fun _ => ?_⟩⟩, fun z => absurd (show ¬ (nI 2 : Int32) = 0 by decide) z⟩⟩
                      rw [p3, q3, hss]
                      refine ⟨fun _ => ?_, fun z => absurd rfl z⟩
                      refine ⟨_, σ, ev_X8_hasPlaces σ _ _ _ (fun _ _ => cd.1), ?_⟩
                      rw [x_hps ro1 hi hn, if_pos c1]
                      refine g1a ?_
                      refine ⟨_, σ, ev_X8_hasPlaces σ _ _ _ (fun _ _ => ce.1), ?_⟩
                      rw [x_hps ro2 hj hn, if_pos c3]
                      refine g1b ⟨c2, c4, c5, ?_⟩
                      rw [nI_clamp hi, nI_clamp hj, nI_clamp hn, show mm_len (32 + 2 * d + 1) = 100 from by rw [show 32 + 2 * d + 1 = 33 + 2 * d by omega]; exact cd.2, show mm_len (32 + 2 * e + 1) = 100 from by rw [show 32 + 2 * e + 1 = 33 + 2 * e by omega]; exact ce.2]
                      exact ⟨by omega, by omega, by decide, by decide, fun σ33 e33 => by rw [e33, es1]⟩
                    · refine sg_X11_copy_0 s1 _ _ _ _ _ _ ?_
                      refine ⟨_, s1, ev_X11_isShelf s1 _, ?_⟩
                      rw [m_sh s1 hd]
                      first | refine g1a ?_ | refine g1b ?_ | refine g0a ?_ | refine g0b ?_
                      refine ⟨_, s1, ev_X11_isShelf s1 _, ?_⟩
                      rw [m_sh s1 he]
                      first | refine g1a ?_ | refine g1b ?_ | refine g0a ?_ | refine g0b ?_
                      rw [nI_clamp (by omega), nI_clamp (by omega), f1 59 (by omega), f1 62 (by omega), f1 63 (by omega), a2, b2]
                      refine ⟨v8, fun z => absurd z (show ¬ (nI 2 : Int32) = 0 by decide), fun _ => ⟨w8, fun _ => ⟨fun z => absurd rfl z, fun _ => ⟨fun z => absurd rfl z, fun _ => ⟨v8, w8, ?_⟩⟩⟩, fun z => absurd (show ¬ (nI 2 : Int32) = 0 by decide) z⟩⟩
                      rw [p4, q4, hss]
                      refine ⟨fun _ => ?_, fun z => absurd rfl z⟩
                      refine ⟨fun z => absurd z c5, fun _ => ⟨fun z => absurd z c2, fun _ => ⟨fun z => absurd z c4, fun _ => ⟨v8, ?_⟩⟩⟩⟩
                      rw [p6, q6, m_room hsz1 hi hn]
                      refine ⟨fun z => absurd c1 z, fun _ => ⟨w8, fun _ => g2, fun z => absurd ?_ z⟩⟩
                      exact nlt_le (fun m => ((m_room hsz2 hj hn).mp m) c3)
                    · have tx : ∀ t, s1 (33 + 2 * e) t = if j ≤ t ∧ t < j + n then σ (33 + 2 * d) (i + (t - j)) else σ (33 + 2 * e) t := fun t => by
                        rw [es1]
                        unfold mm_cp
                        rw [if_pos (by omega), show 32 + 2 * d + 1 = 33 + 2 * d by omega, show 32 + 2 * e + 1 = 33 + 2 * e by omega]
                        by_cases ct : j ≤ t ∧ t < j + n
                        · rw [pk_cpy_in ct.1 ct.2, if_pos ct]
                        · rw [pk_cpy_out (by omega), if_neg ct]
                      have tm : ∀ t, t < 100 → σ2 64 (100 * e + t) = if j ≤ t ∧ t < j + n then σ 64 (100 * d + (i + (t - j))) else σ 64 (100 * e + t) := fun t ht => by
                        rw [k1]
                        by_cases ct : j ≤ t ∧ t < j + n
                        · rw [if_pos (by omega), if_pos ct]
                          congr 1
                          omega
                        · rw [if_neg (by omega), if_neg ct]
                      have q32 : σ2 (32 + 2 * e) = σ (32 + 2 * e) := by rw [k2 _ (by omega), f1 _ (by omega)]
                      refine hI.shelf (d := e) ⟨2, by decide, by rw [q32]; exact b1, by rw [k2 59 (by omega), f1 59 (by omega)]; exact b2, fun z => absurd z (by decide), fun _ => ⟨s', n2, q1, q2, by rw [q32]; exact q3, by rw [k2 62 (by omega), f1 62 (by omega)]; exact q4, by rw [q32]; exact q5, by rw [k2 63 (by omega), f1 63 (by omega)]; exact q6, fun t ht => ?_, fun hs0 t ht => ?_⟩⟩ (fun d' h1 h2 => ⟨fun q h3 h4 => by rw [k2 q (by omega), f1 q (by omega)], fun t ht => ?_⟩) (fun q h1 h2 h3 => by rw [k2 q (by omega), f1 q h2]) he
                      · rw [k2 _ (by omega), tx, tm t ht]
                        by_cases ct : j ≤ t ∧ t < j + n
                        · rw [if_pos ct, if_pos ct]; exact p7 _ (by omega)
                        · rw [if_neg ct, if_neg ct]; exact q7 t ht
                      · rw [tm t ht]
                        by_cases ct : j ≤ t ∧ t < j + n
                        · rw [if_pos ct]; exact p8 (by omega) _ (by omega)
                        · rw [if_neg ct]; exact q8 hs0 t ht
                      · rw [k1, if_neg (by omega)]
                  · refine FQ.refuse hI (.int (-13)) ?_ ?_
                    · refine sg_X10_copy_0 σ _ _ _ _ _ _ ?_
                      refine ⟨_, σ, ev_X10_isShelf σ _, ?_⟩
                      rw [x_sh σ hd]
                      first | refine g1a ?_ | refine g1b ?_ | refine g0a ?_ | refine g0b ?_
                      refine ⟨_, σ, ev_X10_isShelf σ _, ?_⟩
                      rw [x_sh σ he]
                      first | refine g1a ?_ | refine g1b ?_ | refine g0a ?_ | refine g0b ?_
                      rw [nI_clamp (by omega), nI_clamp (by omega), a1, b1]
                      refine ⟨v8, w8, cd.1, fun z => absurd z (show ¬ (nI 2 : Int32) = 0 by decide), fun _ => ⟨ce.1, fun _ => ⟨fun z => absurd rfl z, fun _ => ⟨fun z => absurd rfl z, fun _ => ?_⟩⟩, fun z => absurd (show ¬ (nI 2 : Int32) = 0 by decide) z⟩⟩
                      rw [p3, q3, hss]
                      refine ⟨fun _ => ?_, fun z => absurd rfl z⟩
                      refine ⟨_, σ, ev_X8_hasPlaces σ _ _ _ (fun _ _ => cd.1), ?_⟩
                      rw [x_hps ro1 hi hn, if_pos c1]
                      refine g1a ?_
                      refine ⟨_, σ, ev_X8_hasPlaces σ _ _ _ (fun _ _ => ce.1), ?_⟩
                      rw [x_hps ro2 hj hn, if_neg c3]
                      exact g0b rfl
                    · refine sg_X11_copy_0 σ _ _ _ _ _ _ ?_
                      refine ⟨_, σ, ev_X11_isShelf σ _, ?_⟩
                      rw [m_sh σ hd]
                      first | refine g1a ?_ | refine g1b ?_ | refine g0a ?_ | refine g0b ?_
                      refine ⟨_, σ, ev_X11_isShelf σ _, ?_⟩
                      rw [m_sh σ he]
                      first | refine g1a ?_ | refine g1b ?_ | refine g0a ?_ | refine g0b ?_
                      rw [nI_clamp (by omega), nI_clamp (by omega), a2, b2]
                      refine ⟨v8, fun z => absurd z (show ¬ (nI 2 : Int32) = 0 by decide), fun _ => ⟨w8, fun _ => ⟨fun z => absurd rfl z, fun _ => ⟨fun z => absurd rfl z, fun _ => ⟨v8, w8, ?_⟩⟩⟩, fun z => absurd (show ¬ (nI 2 : Int32) = 0 by decide) z⟩⟩
                      rw [p4, q4, hss]
                      refine ⟨fun _ => ?_, fun z => absurd rfl z⟩
                      refine ⟨fun z => absurd z c5, fun _ => ⟨fun z => absurd z c2, fun _ => ⟨fun z => absurd z c4, fun _ => ⟨v8, ?_⟩⟩⟩⟩
                      rw [p6, q6, m_room hsz1 hi hn]
                      refine ⟨fun z => absurd c1 z, fun _ => ⟨w8, fun z => absurd z ?_, fun _ => rfl⟩⟩
                      exact fun l => (m_room hsz2 hj hn).mpr c3 |> fun m => absurd l (fun l => le_nlt l m)
                · refine FQ.refuse hI (.int (-13)) ?_ ?_
                  · refine sg_X10_copy_0 σ _ _ _ _ _ _ ?_
                    refine ⟨_, σ, ev_X10_isShelf σ _, ?_⟩
                    rw [x_sh σ hd]
                    first | refine g1a ?_ | refine g1b ?_ | refine g0a ?_ | refine g0b ?_
                    refine ⟨_, σ, ev_X10_isShelf σ _, ?_⟩
                    rw [x_sh σ he]
                    first | refine g1a ?_ | refine g1b ?_ | refine g0a ?_ | refine g0b ?_
                    rw [nI_clamp (by omega), nI_clamp (by omega), a1, b1]
                    refine ⟨v8, w8, cd.1, fun z => absurd z (show ¬ (nI 2 : Int32) = 0 by decide), fun _ => ⟨ce.1, fun _ => ⟨fun z => absurd rfl z, fun _ => ⟨fun z => absurd rfl z, fun _ => ?_⟩⟩, fun z => absurd (show ¬ (nI 2 : Int32) = 0 by decide) z⟩⟩
                    rw [p3, q3, hss]
                    refine ⟨fun _ => ?_, fun z => absurd rfl z⟩
                    refine ⟨_, σ, ev_X8_hasPlaces σ _ _ _ (fun _ _ => cd.1), ?_⟩
                    rw [x_hps ro1 hi hn, if_neg c1]
                    exact g0a rfl
                  · refine sg_X11_copy_0 σ _ _ _ _ _ _ ?_
                    refine ⟨_, σ, ev_X11_isShelf σ _, ?_⟩
                    rw [m_sh σ hd]
                    first | refine g1a ?_ | refine g1b ?_ | refine g0a ?_ | refine g0b ?_
                    refine ⟨_, σ, ev_X11_isShelf σ _, ?_⟩
                    rw [m_sh σ he]
                    first | refine g1a ?_ | refine g1b ?_ | refine g0a ?_ | refine g0b ?_
                    rw [nI_clamp (by omega), nI_clamp (by omega), a2, b2]
                    refine ⟨v8, fun z => absurd z (show ¬ (nI 2 : Int32) = 0 by decide), fun _ => ⟨w8, fun _ => ⟨fun z => absurd rfl z, fun _ => ⟨fun z => absurd rfl z, fun _ => ⟨v8, w8, ?_⟩⟩⟩, fun z => absurd (show ¬ (nI 2 : Int32) = 0 by decide) z⟩⟩
                    rw [p4, q4, hss]
                    refine ⟨fun _ => ?_, fun z => absurd rfl z⟩
                    refine ⟨fun z => absurd z c5, fun _ => ⟨fun z => absurd z c2, fun _ => ⟨fun z => absurd z c4, fun _ => ⟨v8, ?_⟩⟩⟩⟩
                    rw [p6, q6, m_room hsz1 hi hn]
                    exact ⟨fun _ => rfl, fun z => absurd c1 z⟩
        · refine FQ.refuse hI (.int (-12)) ?_ ?_
          · refine sg_X10_copy_0 σ _ _ _ _ _ _ ?_
            refine ⟨_, σ, ev_X10_isShelf σ _, ?_⟩
            rw [x_sh σ hd]
            first | refine g1a ?_ | refine g1b ?_ | refine g0a ?_ | refine g0b ?_
            refine ⟨_, σ, ev_X10_isShelf σ _, ?_⟩
            rw [x_sh σ he]
            first | refine g1a ?_ | refine g1b ?_ | refine g0a ?_ | refine g0b ?_
            rw [nI_clamp (by omega), nI_clamp (by omega), a1, b1]
            refine ⟨v8, w8, cd.1, fun z => absurd z (show ¬ (nI 2 : Int32) = 0 by decide), fun _ => ⟨ce.1, fun _ => ⟨fun z => absurd rfl z, fun _ => ⟨fun z => absurd rfl z, fun _ => ?_⟩⟩, fun z => absurd (show ¬ (nI 2 : Int32) = 0 by decide) z⟩⟩
            rw [p3, q3]
            exact ⟨fun z => absurd ((nI_eq (by omega) (by omega)).mp z) hss, fun _ => rfl⟩
          · refine sg_X11_copy_0 σ _ _ _ _ _ _ ?_
            refine ⟨_, σ, ev_X11_isShelf σ _, ?_⟩
            rw [m_sh σ hd]
            first | refine g1a ?_ | refine g1b ?_ | refine g0a ?_ | refine g0b ?_
            refine ⟨_, σ, ev_X11_isShelf σ _, ?_⟩
            rw [m_sh σ he]
            first | refine g1a ?_ | refine g1b ?_ | refine g0a ?_ | refine g0b ?_
            rw [nI_clamp (by omega), nI_clamp (by omega), a2, b2]
            refine ⟨v8, fun z => absurd z (show ¬ (nI 2 : Int32) = 0 by decide), fun _ => ⟨w8, fun _ => ⟨fun z => absurd rfl z, fun _ => ⟨fun z => absurd rfl z, fun _ => ⟨v8, w8, ?_⟩⟩⟩, fun z => absurd (show ¬ (nI 2 : Int32) = 0 by decide) z⟩⟩
            rw [p4, q4]
            exact ⟨fun z => absurd ((nI_eq (by omega) (by omega)).mp z) hss, fun _ => rfl⟩
    · obtain ⟨d, hd, rfl⟩ := vp_in_of h1 (by decide)
      refine FQ.refuse hI (.int (-1)) ?_ ?_
      · refine sg_X10_copy_0 σ _ _ _ _ _ _ ?_
        refine ⟨_, σ, ev_X10_isShelf σ _, ?_⟩
        rw [x_sh σ hd]
        first | refine g1a ?_ | refine g1b ?_ | refine g0a ?_ | refine g0b ?_
        refine ⟨_, σ, ev_X10_isShelf σ _, ?_⟩
        rw [x_shf σ h3]
        first | refine g1a ?_ | refine g1b ?_ | refine g0a ?_ | refine g0b ?_
        rfl
      · refine sg_X11_copy_0 σ _ _ _ _ _ _ ?_
        refine ⟨_, σ, ev_X11_isShelf σ _, ?_⟩
        rw [m_sh σ hd]
        first | refine g1a ?_ | refine g1b ?_ | refine g0a ?_ | refine g0b ?_
        refine ⟨_, σ, ev_X11_isShelf σ _, ?_⟩
        rw [m_shf σ h3]
        first | refine g1a ?_ | refine g1b ?_ | refine g0a ?_ | refine g0b ?_
        rfl
  · refine FQ.refuse hI (.int (-1)) ?_ ?_
    · refine sg_X10_copy_0 σ _ _ _ _ _ _ ?_
      refine ⟨_, σ, ev_X10_isShelf σ _, ?_⟩
      rw [x_shf σ h1]
      first | refine g1a ?_ | refine g1b ?_ | refine g0a ?_ | refine g0b ?_
      rfl
    · refine sg_X11_copy_0 σ _ _ _ _ _ _ ?_
      refine ⟨_, σ, ev_X11_isShelf σ _, ?_⟩
      rw [m_shf σ h1]
      first | refine g1a ?_ | refine g1b ?_ | refine g0a ?_ | refine g0b ?_
      rfl
