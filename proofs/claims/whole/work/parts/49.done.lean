/-! the Model obeys -/
theorem mW_done {s : mm_Sg} {T : Nat → Nat} {c : Nat → Nat} {n p : Nat} (hm : s 52 = ra T) (gT : n_good T) (hn : tnum c p s) (hc : ∀ i, n ≤ i → c i = 256) (hb : tbd c p = none) (hpn : p < n) :
    ∃ s', (match n_stm T (c p) (c (p + 1) - 48) (c (p + 2) - 48) (c (p + 3) - 48) with
      | some T' => mm_Ev mm_m_X11_isDone [.ref 51, .int (nI (c p))] s (some (.int 1)) s' ∧ s' 52 = ra T'
      | none => mm_Ev mm_m_X11_isDone [.ref 51, .int (nI (c p))] s (some (.int 0)) s' ∧ s' 52 = ra T) ∧ ∀ q, q ≠ 52 → q ≠ 56 → s' q = s q := by
  have wf := gT.1
  have h7 := wf.1
  have m0 : s 52 0 = nI (T 0) := by rw [hm]; rfl
  obtain ⟨L0, Ln, Ld, -⟩ := (tbd_p (n := n) hc (by omega)).1 hb
  have D1 : 1 ≤ tdg (c p) → c (p + 1) - 48 < 10 := fun h => by
    have q := (Ld 0 (by omega)).2
    rw [Nat.add_zero] at q
    omega
  have D2 : 2 ≤ tdg (c p) → c (p + 2) - 48 < 10 := fun h => by
    have q := (Ld 1 (by omega)).2
    rw [show p + 1 + 1 = p + 2 by omega] at q
    omega
  have D3 : 3 ≤ tdg (c p) → c (p + 3) - 48 < 10 := fun h => by
    have q := (Ld 2 (by omega)).2
    rw [show p + 1 + 2 = p + 3 by omega] at q
    omega
  have hcase : c p = 98 ∨ c p = 100 ∨ c p = 107 ∨ c p = 111 ∨ c p = 116 ∨ c p = 119 ∨ c p = 122 := by
    unfold tdg at L0
    (repeat' split at L0) <;> omega
  obtain ⟨n107, n119, n116, n122, n98, n100⟩ := hn
  obtain ⟨a, ea⟩ : ∃ a, a = c (p + 1) - 48 := ⟨_, rfl⟩
  obtain ⟨b, eb⟩ : ∃ b, b = c (p + 2) - 48 := ⟨_, rfl⟩
  obtain ⟨e, ee⟩ : ∃ e, e = c (p + 3) - 48 := ⟨_, rfl⟩
  rw [← ea] at D1 n107 n119 n116 n122 n98 n100
  rw [← eb] at D2 n107 n119 n116 n98 n100
  rw [← ee] at D3 n107 n116 n98
  rw [← ea, ← eb, ← ee]
  rcases hcase with ec | ec | ec | ec | ec | ec | ec
  · have hL : tdg (c p) = 3 := by rw [ec]; rfl
    have d1 := D1 (by omega)
    have d2 := D2 (by omega)
    have d3 := D3 (by omega)
    have v0 := n98 ec
    rw [ec]
    unfold n_stm
    rw [if_pos rfl]
    refine ⟨mm_u s 52 2 (nI (10 * (10 * a + b) + e)), ⟨?_, by rw [mm_u_s, hm, ← ra_up]⟩, fun q h _ => mm_u_o h⟩
    refine sg_X11_isDone_0 s _ _ ?_
    rw [v0]
    exact ⟨fun _ => fun σ2 e2 => by rw [e2], fun z => absurd rfl z⟩
  · have hL : tdg (c p) = 2 := by rw [ec]; rfl
    have d1 := D1 (by omega)
    have d2 := D2 (by omega)
    have v0 := n100 ec
    rw [ec]
    unfold n_stm
    rw [if_neg (by decide), if_neg (by decide), if_neg (by decide), if_neg (by decide), if_neg (by decide), if_neg (by decide)]
    have dd := wf.2.1
    have i1 : ∀ z : Int32, f_X11_isIn s (nI (10 * a + b)) (1 : Int32) (60 : Int32) = if 1 ≤ 10 * a + b ∧ 10 * a + b ≤ 60 then 1 else 0 := fun _ => q_bt s (a := 1) (b := 60) (by omega) (by decide) (by decide)
    have i1 := i1 0
    by_cases h : 1 ≤ 10 * a + b ∧ 10 * a + b ≤ 60 ∧ T 1 + (10 * a + b) ≤ 999
    · rw [if_pos h]
      rw [if_pos ⟨h.1, h.2.1⟩] at i1
      obtain ⟨s', g, y, -, o⟩ := mW_days (a := 52) (n := 10 * a + b) rfl (by decide) hm wf (by omega)
      refine ⟨s', ⟨?_, y⟩, fun q h1 h2 => o q h1 h2⟩
      refine sg_X11_isDone_0 s _ _ ?_
      rw [v0]
      exact ⟨fun z => absurd z (show ¬ (nI 100 = nI 98) by decide), fun _ => ⟨fun z => absurd z (show ¬ (nI 100 = nI 107) by decide), fun _ => ⟨fun z => absurd z (show ¬ (nI 100 = nI 111) by decide), fun _ => ⟨fun z => absurd z (show ¬ (nI 100 = nI 116) by decide), fun _ => ⟨fun z => absurd z (show ¬ (nI 100 = nI 119) by decide), fun _ => ⟨fun z => absurd z (show ¬ (nI 100 = nI 122) by decide), fun _ => ⟨_, s, ev_X11_isIn s _ _ _, fun z => absurd (i1.symm.trans z) (by decide), fun _ => ⟨fun _ => ⟨s', g, rfl⟩, fun z => absurd (by rw [hm, ra_at, nI_add]; exact nI_le (b := 999) h.2.2 (by decide)) z⟩⟩⟩⟩⟩⟩⟩⟩
    · rw [if_neg h]
      refine ⟨s, ⟨?_, hm⟩, fun _ _ _ => rfl⟩
      by_cases h2 : 1 ≤ 10 * a + b ∧ 10 * a + b ≤ 60
      · rw [if_pos h2] at i1
        refine sg_X11_isDone_0 s _ _ ?_
        rw [v0]
        exact ⟨fun z => absurd z (show ¬ (nI 100 = nI 98) by decide), fun _ => ⟨fun z => absurd z (show ¬ (nI 100 = nI 107) by decide), fun _ => ⟨fun z => absurd z (show ¬ (nI 100 = nI 111) by decide), fun _ => ⟨fun z => absurd z (show ¬ (nI 100 = nI 116) by decide), fun _ => ⟨fun z => absurd z (show ¬ (nI 100 = nI 119) by decide), fun _ => ⟨fun z => absurd z (show ¬ (nI 100 = nI 122) by decide), fun _ => ⟨_, s, ev_X11_isIn s _ _ _, fun z => absurd (i1.symm.trans z) (by decide), fun _ => ⟨fun z => absurd (by rw [hm, ra_at, nI_add] at z; exact z) (nI_ge (a := 999) (by omega) (by omega)), fun _ => rfl⟩⟩⟩⟩⟩⟩⟩⟩
      · rw [if_neg h2] at i1
        refine sg_X11_isDone_0 s _ _ ?_
        rw [v0]
        exact ⟨fun z => absurd z (show ¬ (nI 100 = nI 98) by decide), fun _ => ⟨fun z => absurd z (show ¬ (nI 100 = nI 107) by decide), fun _ => ⟨fun z => absurd z (show ¬ (nI 100 = nI 111) by decide), fun _ => ⟨fun z => absurd z (show ¬ (nI 100 = nI 116) by decide), fun _ => ⟨fun z => absurd z (show ¬ (nI 100 = nI 119) by decide), fun _ => ⟨fun z => absurd z (show ¬ (nI 100 = nI 122) by decide), fun _ => ⟨_, s, ev_X11_isIn s _ _ _, fun _ => rfl, fun z => absurd i1 z⟩⟩⟩⟩⟩⟩⟩
  · have hL : tdg (c p) = 3 := by rw [ec]; rfl
    have d1 := D1 (by omega)
    have d2 := D2 (by omega)
    have d3 := D3 (by omega)
    obtain ⟨v0, v1, v2⟩ := n107 ec
    rw [ec]
    unfold n_stm
    rw [if_neg (by decide), if_pos rfl]
    by_cases h : a < 8 ∧ (e < 5 ∨ e = 9) ∧ T 0 < 7
    · rw [if_pos h]
      obtain ⟨s', g, y, o⟩ := mW_adds (k := a) (f := b) (w := e) hm h.2.2
      refine ⟨s', ⟨?_, y⟩, fun q h1 _ => o q h1⟩
      have w1 : f_X11_isWakerOrNone s (nI e) = 1 := m_wn s (wn_nI h.2.1)
      have n7 : ¬ s 52 0 = 7 := fun z => by
        rw [m0] at z
        have := (nI_eq (b := 7) (by omega) (by decide)).mp z
        omega
      refine sg_X11_isDone_0 s _ _ ?_
      rw [v0, v1, v2]
      exact ⟨fun z => absurd z (show ¬ (nI 107 = nI 98) by decide), fun _ => ⟨fun _ => ⟨fun z => absurd z (nI_ge (b := 8) h.1 (by decide)), fun _ => ⟨_, s, ev_X11_isWakerOrNone s _, fun z => absurd (w1.symm.trans z) (by decide), fun _ => ⟨fun _ => ⟨s', by rw [v2]; exact g, rfl⟩, fun z => absurd n7 z⟩⟩⟩, fun z => absurd rfl z⟩⟩
    · rw [if_neg h]
      refine ⟨s, ⟨?_, hm⟩, fun _ _ _ => rfl⟩
      by_cases h1 : a < 8
      · by_cases h2 : e < 5 ∨ e = 9
        · have h3 : s 52 0 = 7 := by rw [m0, show T 0 = 7 by omega]; rfl
          have w1 : f_X11_isWakerOrNone s (nI e) = 1 := m_wn s (wn_nI h2)
          refine sg_X11_isDone_0 s _ _ ?_
          rw [v0, v1, v2]
          exact ⟨fun z => absurd z (show ¬ (nI 107 = nI 98) by decide), fun _ => ⟨fun _ => ⟨fun z => absurd z (nI_ge (b := 8) h1 (by decide)), fun _ => ⟨_, s, ev_X11_isWakerOrNone s _, fun z => absurd (w1.symm.trans z) (by decide), fun _ => ⟨fun z => absurd h3 z, fun _ => rfl⟩⟩⟩, fun z => absurd rfl z⟩⟩
        · have w0 : f_X11_isWakerOrNone s (nI e) = 0 := m_wnf s (nwn_nI (by omega) h2)
          refine sg_X11_isDone_0 s _ _ ?_
          rw [v0, v1, v2]
          exact ⟨fun z => absurd z (show ¬ (nI 107 = nI 98) by decide), fun _ => ⟨fun _ => ⟨fun z => absurd z (nI_ge (b := 8) h1 (by decide)), fun _ => ⟨_, s, ev_X11_isWakerOrNone s _, fun _ => rfl, fun z => absurd w0 z⟩⟩, fun z => absurd rfl z⟩⟩
      · refine sg_X11_isDone_0 s _ _ ?_
        rw [v0, v1, v2]
        exact ⟨fun z => absurd z (show ¬ (nI 107 = nI 98) by decide), fun _ => ⟨fun _ => ⟨fun _ => rfl, fun z => absurd (nI_le (a := 8) (by omega) (by omega)) z⟩, fun z => absurd rfl z⟩⟩
  · have hL : tdg (c p) = 3 := by rw [ec]; rfl
    have d1 := D1 (by omega)
    have d2 := D2 (by omega)
    have d3 := D3 (by omega)
    obtain ⟨v0, v1⟩ := n116 (Or.inr ec)
    rw [ec]
    unfold n_stm
    rw [if_neg (by decide), if_neg (by decide), if_pos rfl]
    by_cases h : a < T 0
    · rw [if_pos h]
      have o3 := n_ofc s 3 (show a < 7 by omega) (by decide)
      have dk := m_dk s m0 h7 h
      refine ⟨mm_u s 52 (10 + 4 * a) (nI (10 * b + e)), ⟨?_, by rw [mm_u_s, hm, ← ra_up]⟩, fun q h _ => mm_u_o h⟩
      refine sg_X11_isDone_0 s _ _ ?_
      rw [v0, v1]
      exact ⟨fun z => absurd z (show ¬ (nI 111 = nI 98) by decide), fun _ => ⟨fun z => absurd z (show ¬ (nI 111 = nI 107) by decide), fun _ => ⟨fun _ => ⟨_, s, ev_X11_isDrinker s _, fun _ => ⟨_, s, ev_X11_of s _ _, o3.2, fun σ22 e22 => by rw [e22, show (f_X11_of s (nI a) (3 : Int32)).toNatClampNeg = 10 + 4 * a from by rw [show (3 : Int32) = nI 3 from rfl, o3.1]; omega]⟩, fun z => absurd (by rw [dk]; decide) z⟩, fun z => absurd rfl z⟩⟩⟩
    · rw [if_neg h]
      have dk := m_dkf s m0 h7 (nv5 (a := a) (by omega) h)
      refine ⟨s, ⟨?_, hm⟩, fun _ _ _ => rfl⟩
      refine sg_X11_isDone_0 s _ _ ?_
      rw [v0, v1]
      exact ⟨fun z => absurd z (show ¬ (nI 111 = nI 98) by decide), fun _ => ⟨fun z => absurd z (show ¬ (nI 111 = nI 107) by decide), fun _ => ⟨fun _ => ⟨_, s, ev_X11_isDrinker s _, fun z => absurd dk z, fun _ => rfl⟩, fun z => absurd rfl z⟩⟩⟩
  · have hL : tdg (c p) = 3 := by rw [ec]; rfl
    have d1 := D1 (by omega)
    have d2 := D2 (by omega)
    have d3 := D3 (by omega)
    obtain ⟨v0, v1⟩ := n116 (Or.inl ec)
    rw [ec]
    unfold n_stm
    rw [if_neg (by decide), if_neg (by decide), if_neg (by decide), if_pos rfl]
    by_cases h : a < 5
    · rw [if_pos h]
      have dk := m_wk s h
      refine ⟨mm_u s 52 (35 + a) (nI (10 * b + e)), ⟨?_, by rw [mm_u_s, hm, ← ra_up]⟩, fun q h _ => mm_u_o h⟩
      refine sg_X11_isDone_0 s _ _ ?_
      rw [v0, v1]
      exact ⟨fun z => absurd z (show ¬ (nI 116 = nI 98) by decide), fun _ => ⟨fun z => absurd z (show ¬ (nI 116 = nI 107) by decide), fun _ => ⟨fun z => absurd z (show ¬ (nI 116 = nI 111) by decide), fun _ => ⟨fun _ => ⟨_, s, ev_X11_isWaker s _, fun _ => ⟨by rw [n_35]; exact v_in (N := 40) (by omega) (by decide), fun σ30 e30 => by rw [e30, n_35, nI_clamp (by omega)]⟩, fun z => absurd (by rw [dk]; decide) z⟩, fun z => absurd rfl z⟩⟩⟩⟩
    · rw [if_neg h]
      have dk := m_wkf s (nv5 (a := a) (by omega) h)
      refine ⟨s, ⟨?_, hm⟩, fun _ _ _ => rfl⟩
      refine sg_X11_isDone_0 s _ _ ?_
      rw [v0, v1]
      exact ⟨fun z => absurd z (show ¬ (nI 116 = nI 98) by decide), fun _ => ⟨fun z => absurd z (show ¬ (nI 116 = nI 107) by decide), fun _ => ⟨fun z => absurd z (show ¬ (nI 116 = nI 111) by decide), fun _ => ⟨fun _ => ⟨_, s, ev_X11_isWaker s _, fun z => absurd dk z, fun _ => rfl⟩, fun z => absurd rfl z⟩⟩⟩⟩
  · have hL : tdg (c p) = 2 := by rw [ec]; rfl
    have d1 := D1 (by omega)
    have d2 := D2 (by omega)
    obtain ⟨v0, v1⟩ := n119 ec
    rw [ec]
    unfold n_stm
    rw [if_neg (by decide), if_neg (by decide), if_neg (by decide), if_neg (by decide), if_pos rfl]
    by_cases h : a < T 0 ∧ (b < 5 ∨ b = 9)
    · rw [if_pos h]
      have o2 := n_ofc s 2 (show a < 7 by omega) (by decide)
      have dk := m_dk s m0 h7 h.1
      have w1 : f_X11_isWakerOrNone s (nI b) = 1 := m_wn s (wn_nI h.2)
      refine ⟨mm_u s 52 (9 + 4 * a) (nI b), ⟨?_, by rw [mm_u_s, hm, ← ra_up]⟩, fun q h _ => mm_u_o h⟩
      refine sg_X11_isDone_0 s _ _ ?_
      rw [v0, v1]
      exact ⟨fun z => absurd z (show ¬ (nI 119 = nI 98) by decide), fun _ => ⟨fun z => absurd z (show ¬ (nI 119 = nI 107) by decide), fun _ => ⟨fun z => absurd z (show ¬ (nI 119 = nI 111) by decide), fun _ => ⟨fun z => absurd z (show ¬ (nI 119 = nI 116) by decide), fun _ => ⟨fun _ => ⟨_, s, ev_X11_isDrinker s _, fun z => absurd (dk.symm.trans z) (by decide), fun _ => ⟨_, s, ev_X11_isWakerOrNone s _, fun _ => ⟨_, s, ev_X11_of s _ _, o2.2, fun σ45 e45 => by rw [e45, show (f_X11_of s (nI a) (2 : Int32)).toNatClampNeg = 9 + 4 * a from by rw [show (2 : Int32) = nI 2 from rfl, o2.1]; omega]⟩, fun z => absurd (by rw [w1]; decide) z⟩⟩, fun z => absurd rfl z⟩⟩⟩⟩⟩
    · rw [if_neg h]
      refine ⟨s, ⟨?_, hm⟩, fun _ _ _ => rfl⟩
      by_cases h1 : a < T 0
      · have dk := m_dk s m0 h7 h1
        have w0 : f_X11_isWakerOrNone s (nI b) = 0 := m_wnf s (nwn_nI (by omega) (fun z => h ⟨h1, z⟩))
        refine sg_X11_isDone_0 s _ _ ?_
        rw [v0, v1]
        exact ⟨fun z => absurd z (show ¬ (nI 119 = nI 98) by decide), fun _ => ⟨fun z => absurd z (show ¬ (nI 119 = nI 107) by decide), fun _ => ⟨fun z => absurd z (show ¬ (nI 119 = nI 111) by decide), fun _ => ⟨fun z => absurd z (show ¬ (nI 119 = nI 116) by decide), fun _ => ⟨fun _ => ⟨_, s, ev_X11_isDrinker s _, fun z => absurd (dk.symm.trans z) (by decide), fun _ => ⟨_, s, ev_X11_isWakerOrNone s _, fun z => absurd w0 z, fun _ => rfl⟩⟩, fun z => absurd rfl z⟩⟩⟩⟩⟩
      · have dk := m_dkf s m0 h7 (nv5 (a := a) (by omega) h1)
        refine sg_X11_isDone_0 s _ _ ?_
        rw [v0, v1]
        exact ⟨fun z => absurd z (show ¬ (nI 119 = nI 98) by decide), fun _ => ⟨fun z => absurd z (show ¬ (nI 119 = nI 107) by decide), fun _ => ⟨fun z => absurd z (show ¬ (nI 119 = nI 111) by decide), fun _ => ⟨fun z => absurd z (show ¬ (nI 119 = nI 116) by decide), fun _ => ⟨fun _ => ⟨_, s, ev_X11_isDrinker s _, fun _ => rfl, fun z => absurd dk z⟩, fun z => absurd rfl z⟩⟩⟩⟩⟩
  · have hL : tdg (c p) = 1 := by rw [ec]; rfl
    have d1 := D1 (by omega)
    have v0 := n122 ec
    rw [ec]
    unfold n_stm
    rw [if_neg (by decide), if_neg (by decide), if_neg (by decide), if_neg (by decide), if_neg (by decide), if_pos rfl]
    by_cases h : a < 5
    · rw [if_pos h]
      have dk := m_wk s h
      refine ⟨mm_u s 52 3 (nI (T 3 ^^^ 2 ^ a)), ⟨?_, by rw [mm_u_s, hm, ← ra_up]⟩, fun q h _ => mm_u_o h⟩
      refine sg_X11_isDone_0 s _ _ ?_
      rw [v0]
      exact ⟨fun z => absurd z (show ¬ (nI 122 = nI 98) by decide), fun _ => ⟨fun z => absurd z (show ¬ (nI 122 = nI 107) by decide), fun _ => ⟨fun z => absurd z (show ¬ (nI 122 = nI 111) by decide), fun _ => ⟨fun z => absurd z (show ¬ (nI 122 = nI 116) by decide), fun _ => ⟨fun z => absurd z (show ¬ (nI 122 = nI 119) by decide), fun _ => ⟨fun _ => ⟨_, s, ev_X11_isWaker s _, fun _ σ52 e52 => by rw [e52, hm, ra_at, n_xor _ wf.2.2.2.1 a h], fun z => absurd (by rw [dk]; decide) z⟩, fun z => absurd rfl z⟩⟩⟩⟩⟩⟩
    · rw [if_neg h]
      have dk := m_wkf s (nv5 (a := a) (by omega) h)
      refine ⟨s, ⟨?_, hm⟩, fun _ _ _ => rfl⟩
      refine sg_X11_isDone_0 s _ _ ?_
      rw [v0]
      exact ⟨fun z => absurd z (show ¬ (nI 122 = nI 98) by decide), fun _ => ⟨fun z => absurd z (show ¬ (nI 122 = nI 107) by decide), fun _ => ⟨fun z => absurd z (show ¬ (nI 122 = nI 111) by decide), fun _ => ⟨fun z => absurd z (show ¬ (nI 122 = nI 116) by decide), fun _ => ⟨fun z => absurd z (show ¬ (nI 122 = nI 119) by decide), fun _ => ⟨fun _ => ⟨_, s, ev_X11_isWaker s _, fun z => absurd dk z, fun _ => rfl⟩, fun z => absurd rfl z⟩⟩⟩⟩⟩⟩
