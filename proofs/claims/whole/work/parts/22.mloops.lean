/-! loops: from one pass to the end -/
theorem mm_loop {M : mm_Me} {α : Type} (St : Nat → α → mm_St) (n : Nat) (I : Nat → α → Prop) (Post : Option Value × mm_Sg → Prop)
    (hs : ∀ j s, j < n → I j s → ∃ s', I (j + 1) s' ∧ ∀ X, mm_Go M (St (j + 1) s') X → mm_Go M (St j s) X) (hx : ∀ s, I n s → ∃ X, mm_Go M (St n s) X ∧ Post X) :
    ∀ (d j : Nat) (s : α), j + d = n → I j s → ∃ X, mm_Go M (St j s) X ∧ Post X
  | 0, j, s, e, h => by
    have e : j = n := e
    subst e
    exact hx s h
  | d + 1, j, s, e, h => by
    obtain ⟨s', h1, h2⟩ := hs j s (by omega) h
    obtain ⟨X, h3, h4⟩ := mm_loop St n I Post hs hx d (j + 1) s' (by omega) h1
    exact ⟨X, h2 X h3, h4⟩
def n_sum (f : Nat → Nat) : Nat → Nat
  | 0 => 0
  | n + 1 => n_sum f n + f n
theorem n_sum_le {f : Nat → Nat} {B : Nat} (h : ∀ k, f k ≤ B) : ∀ n, n_sum f n ≤ n * B
  | 0 => Nat.zero_le _
  | n + 1 => by
    have := n_sum_le h n
    have h2 := h n
    unfold n_sum
    rw [Nat.add_mul, Nat.one_mul]
    omega
theorem n_sum_le' {f : Nat → Nat} {B : Nat} : ∀ n, (∀ k, k < n → f k ≤ B) → n_sum f n ≤ n * B
  | 0, _ => Nat.zero_le _
  | n + 1, h => by
    have := n_sum_le' n (fun k hk => h k (by omega))
    have h2 := h n (by omega)
    unfold n_sum
    rw [Nat.add_mul, Nat.one_mul]
    omega
def n_owed (R : Nat → Nat) : Nat := n_sum (fun k => R (10 + 4 * k)) (R 0)
def n_tiredAll (R : Nat → Nat) : Nat := n_sum (fun w => R (35 + w)) 5
/-- the cups that one drinks on the day that comes -/
def n_cd (R : Nat → Nat) (k : Nat) : Nat := if k < n_dawn R 0 then n_cups (n_it n_drink k (n_dawn R)) k else 0
def n_cds : Nat → (Nat → Nat) → Nat → Nat
  | 0, _, _ => 0
  | n + 1, R, k => n_cds n R k + n_cd (n_days n R) k
def z40 (σ : mm_Sg) (q : Nat) : Prop := ∀ i, 40 ≤ i → σ q i = 0
theorem n_owed_le {D : Nat} {R : Nat → Nat} (h : n_wf D R) : n_owed R ≤ 6993 := by
  have h0 := h.1
  have := n_sum_le' (f := fun k => R (10 + 4 * k)) (B := 999) (R 0) (fun k hk => (h.2.2.2.2.2.2.2.1 k (by omega)).2.2.2)
  unfold n_owed
  omega
theorem mW_copies {σ : mm_Sg} {a b : Nat} (ha : mm_len a = 40) (hb : mm_len b = 40) (hab : a ≠ b) (za : z40 σ a) (zb : z40 σ b) : ∃ σ', mm_Ev mm_m_X11_copies [.ref a, .ref b] σ none σ' ∧ σ' b = σ a ∧ ∀ q, q ≠ b → σ' q = σ q := by
  obtain ⟨X, g, h1, h2⟩ := mm_loop (M := mm_m_X11_copies) (α := mm_Sg) (fun j s => (2, [.ref a, .ref b, .int (nI j)], [], s)) 40
    (fun j s => (∀ i, s b i = if i < j then σ a i else σ b i) ∧ ∀ q, q ≠ b → s q = σ q) (fun X => ∃ σ', X = (none, σ') ∧ σ' b = σ a ∧ ∀ q, q ≠ b → σ' q = σ q)
    (fun j s hj ⟨h1, h2⟩ => by
      have hcl : (nI j).toNatClampNeg = j := nI_clamp (by omega)
      refine ⟨mm_u s b j (s a j), ⟨fun i => ?_, fun q hq => by rw [mm_u_o hq, h2 q hq]⟩, fun X hX => ?_⟩
      · rw [mm_u_s]
        unfold upd
        by_cases e : i = j
        · subst e
          rw [if_pos rfl, if_pos (by omega), h2 a hab]
        · rw [if_neg e, h1 i]
          by_cases e2 : i < j
          · rw [if_pos e2, if_pos (by omega)]
          · rw [if_neg e2, if_neg (by omega)]
      · refine sg_X11_copies_2 s a b (nI j) X ⟨fun z => absurd z (nI_ge (b := 40) hj (by decide)), fun _ => ⟨by rw [ha]; exact v_in hj (by decide), by rw [hb]; exact v_in hj (by decide), fun σ4 e4 => ?_⟩⟩
        rw [e4, hcl, nI_1]
        exact hX)
    (fun s ⟨h1, h2⟩ => ⟨(none, s), sg_X11_copies_2 s a b (nI 40) (none, s) ⟨fun _ => rfl, fun z => absurd (show (40 : Int32) ≤ nI 40 by decide) z⟩, s, rfl, by
      funext i
      rw [h1 i]
      by_cases e : i < 40
      · rw [if_pos e]
      · rw [if_neg e, za i (by omega), zb i (by omega)], h2⟩)
    40 0 σ rfl ⟨fun i => by rw [if_neg (by omega)], fun _ _ => rfl⟩
  obtain ⟨e, h3, h4⟩ := h2
  subst e
  exact ⟨h1, sg_X11_copies_0 σ a b _ g, h3, h4⟩
theorem mW_day {σ : mm_Sg} {a D : Nat} {R : Nat → Nat} (hl : mm_len a = 40) (ha56 : a ≠ 56) (hR : σ a = ra R) (hwf : n_wf D R) (hD : D < 2 ^ 19) : ∃ σ', mm_Ev mm_m_X11_day [.ref 51, .ref a] σ none σ' ∧ σ' a = ra (n_day R) ∧ (∀ k, σ' 56 k = σ 56 k + nI (n_cd R k)) ∧ ∀ q, q ≠ a → q ≠ 56 → σ' q = σ q := by
  have w1 : n_wf (D + 1) (nup R 1 (R 1 + 1)) := n_wf_day hwf (by have := hwf.2.1; omega)
  have wd : n_wf (D + 1) (n_dawn R) := n_wf_dawn hwf
  have wn : n_wf (D + 1) (n_noon R) := n_wf_noon hwf
  have fin : ∀ (j d : Nat) (s : mm_Sg), j + d = 5 → s a = ra (n_it n_lie j (n_noon R)) → ∃ X, mm_Go mm_m_X11_day (48, [.ref 51, .ref a, .int (nI j)], [], s) X ∧ ∃ σ', X = (none, σ') ∧ σ' a = ra (n_day R) ∧ ∀ q, q ≠ a → σ' q = s q := by
    intro j d s e h
    obtain ⟨X, g, s', e1, h1, h2⟩ := mm_loop (M := mm_m_X11_day) (α := mm_Sg) (fun j s => (48, [.ref 51, .ref a, .int (nI j)], [], s)) 5
      (fun j' s' => s' a = ra (n_it n_lie j' (n_noon R)) ∧ ∀ q, q ≠ a → s' q = s q) (fun X => ∃ σ', X = (none, σ') ∧ σ' a = ra (n_day R) ∧ ∀ q, q ≠ a → σ' q = s q)
      (fun j' s' hj ⟨h1, h2⟩ => by
        have wf := n_wf_it (N := 5) (fun R k h hk => n_wf_lie h hk) j' _ (by omega) wn
        obtain ⟨s2, g, k1, k2⟩ := mW_lie hl h1 wf hj
        refine ⟨s2, ⟨k1, fun q hq => by rw [k2 q hq, h2 q hq]⟩, fun X hX => sg_X11_day_48 s' a (nI j') X ⟨fun z => absurd z (nI_ge (b := 5) hj (by decide)), fun _ => ⟨s2, g, ?_⟩⟩⟩
        rw [nI_1]
        exact hX)
      (fun s' ⟨h1, h2⟩ => ⟨(none, s'), sg_X11_day_48 s' a (nI 5) _ ⟨fun _ => rfl, fun z => absurd (show (5 : Int32) ≤ nI 5 by decide) z⟩, s', rfl, h1, h2⟩) d j s e ⟨h, fun _ _ => rfl⟩
    exact ⟨X, g, s', e1, h1, h2⟩
  have e0 : ∀ n, n ≤ 7 → n_it n_drink n (n_dawn R) 0 = n_dawn R 0 := by
    intro n
    induction n with
    | zero => intro _; rfl
    | succ n ih =>
      intro hn
      show n_drink (n_it n_drink n (n_dawn R)) n 0 = _
      unfold n_drink
      split <;> (rw [nup_o _ (by omega), nup_o _ (by omega)]; exact ih (by omega))
  have noon : ∀ (j d : Nat) (s : mm_Sg), j + d = n_dawn R 0 → s a = ra (n_it n_drink j (n_dawn R)) → ∃ X, mm_Go mm_m_X11_day (27, [.ref 51, .ref a, .int (nI j)], [], s) X ∧ ∃ σ', X = (none, σ') ∧ σ' a = ra (n_day R) ∧ (∀ k, σ' 56 k = s 56 k + nI (if j ≤ k ∧ k < n_dawn R 0 then n_cups (n_it n_drink k (n_dawn R)) k else 0)) ∧ ∀ q, q ≠ a → q ≠ 56 → σ' q = s q := by
    intro j d s e h
    obtain ⟨X, g, s', e1, h1, h2, h3⟩ := mm_loop (M := mm_m_X11_day) (α := mm_Sg) (fun j s => (27, [.ref 51, .ref a, .int (nI j)], [], s)) (n_dawn R 0)
      (fun j' s' => j ≤ j' ∧ s' a = ra (n_it n_drink j' (n_dawn R)) ∧ (∀ k, s' 56 k = s 56 k + nI (if j ≤ k ∧ k < j' then n_cups (n_it n_drink k (n_dawn R)) k else 0)) ∧ ∀ q, q ≠ a → q ≠ 56 → s' q = s q) (fun X => ∃ σ', X = (none, σ') ∧ σ' a = ra (n_day R) ∧ (∀ k, σ' 56 k = s 56 k + nI (if j ≤ k ∧ k < n_dawn R 0 then n_cups (n_it n_drink k (n_dawn R)) k else 0)) ∧ ∀ q, q ≠ a → q ≠ 56 → σ' q = s q)
      (fun j' s' hj ⟨hjj, h1, h2, h3⟩ => by
        have h7 := wd.1
        have wf := n_wf_it (N := 7) (fun R k h hk => n_wf_drink h hk) j' _ (by omega) wd
        obtain ⟨s2, g, k1, k2, k3⟩ := mW_drink hl ha56 h1 wf (by omega) (show j' < 7 by omega)
        refine ⟨s2, ⟨by omega, k1, fun k => ?_, fun q q1 q2 => by rw [k3 q q1 q2, h3 q q1 q2]⟩, fun X hX => sg_X11_day_27 s' a (nI j') X ⟨by rw [hl]; unfold vp_in; decide, fun z => ?_, fun _ => ⟨s2, g, ?_⟩⟩⟩
        · rw [k2]
          unfold upd
          by_cases e : k = j'
          · subst e
            by_cases ej : j ≤ k
            · rw [if_pos rfl, h2 k, if_neg (by omega), if_pos ⟨ej, by omega⟩, nI_0]
              simp
            · exact absurd hjj ej
          · rw [if_neg e, h2 k]
            by_cases e2 : j ≤ k ∧ k < j'
            · rw [if_pos e2, if_pos (by omega)]
            · rw [if_neg e2, if_neg (by omega)]
        · rw [h1, ra_at, e0 j' (by omega)] at z
          exact absurd z (nI_ge hj (by omega))
        · rw [nI_1]
          exact hX)
      (fun s' ⟨_, h1, h2, h3⟩ => by
        have h7 := wd.1
        have e9 : s' a 0 = nI (n_dawn R 0) := by rw [h1, ra_at, e0 _ h7]
        obtain ⟨X, g, s2, e1, k1, k2⟩ := fin 0 5 s' rfl h1
        refine ⟨X, sg_X11_day_27 s' a (nI (n_dawn R 0)) X ⟨by rw [hl]; unfold vp_in; decide, fun _ => g, fun z => ?_⟩, s2, e1, k1, fun k => by rw [k2 56 (fun e => ha56 e.symm)]; exact h2 k, fun q q1 q2 => by rw [k2 q q1, h3 q q1 q2]⟩
        exact absurd (by rw [e9]; exact nI_le (Nat.le_refl _) (by omega)) z) d j s e ⟨Nat.le_refl _, h, fun k => by rw [if_neg (by omega), nI_0]; simp, fun _ _ _ => rfl⟩
    exact ⟨X, g, s', e1, h1, h2, h3⟩
  have dawn : ∀ (j d : Nat) (s : mm_Sg), j + d = 5 → s a = ra (n_it n_wake j (nup R 1 (R 1 + 1))) → ∃ X, mm_Go mm_m_X11_day (9, [.ref 51, .ref a, .int (nI j)], [], s) X ∧ ∃ σ', X = (none, σ') ∧ σ' a = ra (n_day R) ∧ (∀ k, σ' 56 k = s 56 k + nI (n_cd R k)) ∧ ∀ q, q ≠ a → q ≠ 56 → σ' q = s q := by
    intro j d s e h
    obtain ⟨X, g, s', e1, h1, h2, h3⟩ := mm_loop (M := mm_m_X11_day) (α := mm_Sg) (fun j s => (9, [.ref 51, .ref a, .int (nI j)], [], s)) 5
      (fun j' s' => s' a = ra (n_it n_wake j' (nup R 1 (R 1 + 1))) ∧ ∀ q, q ≠ a → s' q = s q) (fun X => ∃ σ', X = (none, σ') ∧ σ' a = ra (n_day R) ∧ (∀ k, σ' 56 k = s 56 k + nI (n_cd R k)) ∧ ∀ q, q ≠ a → q ≠ 56 → σ' q = s q)
      (fun j' s' hj ⟨h1, h2⟩ => by
        have wf := n_wf_it (N := 5) (fun R k h hk => n_wf_wake h hk) j' _ (by omega) w1
        obtain ⟨s2, g, k1, k2⟩ := mW_wake hl h1 wf hj
        refine ⟨s2, ⟨k1, fun q hq => by rw [k2 q hq, h2 q hq]⟩, fun X hX => sg_X11_day_9 s' a (nI j') X ⟨fun z => absurd z (nI_ge (b := 5) hj (by decide)), fun _ => ⟨s2, g, ?_⟩⟩⟩
        rw [nI_1]
        exact hX)
      (fun s' ⟨h1, h2⟩ => by
        obtain ⟨X, g, s2, e1, k1, k2, k3⟩ := noon 0 (n_dawn R 0) s' (by omega) h1
        exact ⟨X, sg_X11_day_9 s' a (nI 5) X ⟨fun _ => g, fun z => absurd (show (5 : Int32) ≤ nI 5 by decide) z⟩, s2, e1, k1, fun k => by
          rw [k2 k, h2 56 (fun e => ha56 e.symm)]
          unfold n_cd
          by_cases e : k < n_dawn R 0
          · rw [if_pos ⟨Nat.zero_le _, e⟩, if_pos e]
          · rw [if_neg (fun z => e z.2), if_neg e], fun q q1 q2 => by rw [k3 q q1 q2, h2 q q1]⟩) d j s e ⟨h, fun _ _ => rfl⟩
    exact ⟨X, g, s', e1, h1, h2, h3⟩
  have e1 : (σ a 1) + (1 : Int32) = nI (R 1 + 1) := by rw [hR, ra_at, nI_1]
  obtain ⟨X, g, s', e2, h1, h2, h3⟩ := dawn 0 5 (mm_u σ a 1 (nI (R 1 + 1))) rfl (by rw [mm_u_s, hR, ← ra_up]; rfl)
  subst e2
  refine ⟨s', sg_X11_day_0 σ a _ ⟨by rw [hl]; unfold vp_in; decide, fun σ2 e => ?_⟩, h1, fun k => by rw [h2 k, mm_u_o (fun e => ha56 e.symm)], fun q q1 q2 => by rw [h3 q q1 q2, mm_u_o q1]⟩
  rw [e, e1]
  exact g
