/-! the face: mean, falls -/
theorem lc0 {n : Nat} (h : n < 2 ^ 63) : lg_cmp (lN n) (0 : Int64) = (0 : Int32) ↔ n = 0 := by
  rw [lg_cmp_eq]
  exact pk_lEQ (b := 0) h (by decide)
theorem ln0 {n : Nat} (h : n < 2 ^ 63) (h0 : n ≠ 0) : ¬ lN n = 0 := fun z => h0 ((pk_lEQ (b := 0) h (by decide)).mp z)
theorem mW_gcd {σ : mm_Sg} {l0 l2 : Int64} : ∀ (b a : Nat) (d8 : Value), a < 2 ^ 63 → b < 2 ^ 63 → mm_Go mm_m_X11_gcd (6, [.long l0, .null, .long l2, .null, .long (lN a), .null, .long (lN b), .null, d8, .null], [], σ) (some (.long (lN (Nat.gcd b a))), σ) := by
  intro b
  induction b using Nat.strongRecOn with
  | _ b ih =>
    intro a d8 ha hb
    refine sg_X11_gcd_6 σ _ _ _ _ d8 _ ?_
    rw [lc0 hb]
    refine ⟨fun e => by subst e; rw [Nat.gcd_zero_left], fun e => ⟨ln0 hb e, ?_⟩⟩
    have hm : a % b < b := Nat.mod_lt _ (by omega)
    rw [pk_lRem ha (by omega) hb, Nat.gcd_rec]
    exact ih (a % b) hm b _ hb (by omega)
theorem xW_gcd {σ : mm_Sg} {l0 l2 : Int64} {x4 : Int32} {X : Option Value × mm_Sg} : ∀ (m a b i : Nat) (d10 : Value), a < 2 ^ 63 → b < 2 ^ 63 → b < 2 ^ m → i + 2 * m ≤ 100 →
    (∀ (i' : Nat) (d' : Value), i' ≤ 100 → mm_Go mm_m_X10_partOfFraction (9, [.long l0, .null, .long l2, .null, .int x4, .long (lN (Nat.gcd b a)), .null, .long (lN 0), .null, .int (nI i'), d', .null], [], σ) X) →
    mm_Go mm_m_X10_partOfFraction (9, [.long l0, .null, .long l2, .null, .int x4, .long (lN a), .null, .long (lN b), .null, .int (nI i), d10, .null], [], σ) X
  | 0, a, b, i, d10, ha, hb, hm, hi, h => by
    have : b = 0 := by
      rw [Nat.pow_zero] at hm
      omega
    subst this
    rw [Nat.gcd_zero_left] at h
    exact h i d10 (by omega)
  | m + 1, a, b, i, d10, ha, hb, hm, hi, h => by
    by_cases b0 : b = 0
    · subst b0
      rw [Nat.gcd_zero_left] at h
      exact h i d10 (by omega)
    · have h1 : a % b < b := Nat.mod_lt _ (by omega)
      refine sg_X10_partOfFraction_9 σ _ _ _ _ _ _ d10 X ⟨fun z => absurd z (nI_ge (b := 100) (by omega) (by decide)), fun _ => ?_⟩
      rw [lc0 hb]
      refine ⟨fun z => absurd z b0, fun _ => ⟨ln0 hb b0, ?_⟩⟩
      rw [pk_lRem ha (by omega) hb, nI_1]
      rw [Nat.gcd_rec] at h
      by_cases c0 : a % b = 0
      · rw [c0] at h ⊢
        rw [Nat.gcd_zero_left] at h
        exact h (i + 1) _ (by omega)
      · have h2 : b % (a % b) < a % b := Nat.mod_lt _ (by omega)
        have h3 : b % (a % b) < 2 ^ m := by
          have e := Nat.div_add_mod b (a % b)
          have e2 : 1 ≤ b / (a % b) := (Nat.one_le_div_iff (by omega)).mpr (by omega)
          have e3 : (a % b) * 1 ≤ (a % b) * (b / (a % b)) := Nat.mul_le_mul_left _ e2
          rw [Nat.pow_succ] at hm
          omega
        refine sg_X10_partOfFraction_9 σ _ _ _ _ _ _ _ X ⟨fun z => absurd z (nI_ge (b := 100) (by omega) (by decide)), fun _ => ?_⟩
        rw [lc0 (by omega)]
        refine ⟨fun z => absurd z c0, fun _ => ⟨ln0 (by omega) c0, ?_⟩⟩
        rw [pk_lRem hb (by omega) (by omega), nI_1]
        rw [Nat.gcd_rec] at h
        exact xW_gcd m (a % b) (b % (a % b)) (i + 2) _ (by omega) (by omega) h3 (by omega) h
def n_part (a b j : Nat) : Nat := if a = 0 then j else (if j = 0 then a else b) / Nat.gcd b a
theorem xW_part {σ : mm_Sg} {a b j : Nat} (ha : a < 2 ^ 63) (hb : b < 2 ^ 45) (b0 : 0 < b) (hj : j < 2) : mm_Ev mm_m_X10_partOfFraction [.long (lN a), .long (lN b), .int (nI j)] σ (some (.long (lN (n_part a b j)))) σ := by
  refine sg_X10_partOfFraction_0 σ _ _ _ _ (xW_gcd 45 a b 0 .null ha (by omega) hb (by decide) (fun i' d' hi => ?_))
  have g0 : Nat.gcd b a ≠ 0 := by
    intro z
    have := (Nat.gcd_eq_zero_iff.mp z).1
    omega
  have gl : Nat.gcd b a < 2 ^ 63 := by
    have := Nat.gcd_le_left a b0
    omega
  have gl' : Nat.gcd b a ≤ b := Nat.gcd_le_left a b0
  have fin : ¬ lg_cmp (lN (Nat.gcd b a)) (0 : Int64) = (0 : Int32) := fun z => g0 ((lc0 gl).mp z)
  have e : ∀ c, c < 2 ^ 63 → lN c / lN (Nat.gcd b a) = lN (c / Nat.gcd b a) := fun c hc => pk_lDiv hc (by omega) gl
  have end1 : (((¬ nI j = (0 : Int32) → ((¬ lN (Nat.gcd b a) = 0) ∧ (some (.long (lN (n_part a b j))), σ) = ((some (.long (lN b / lN (Nat.gcd b a))), σ) : Option Value × mm_Sg))) ∧ (¬ (¬ nI j = (0 : Int32)) → ((¬ lN (Nat.gcd b a) = 0) ∧ (some (.long (lN (n_part a b j))), σ) = ((some (.long (lN a / lN (Nat.gcd b a))), σ) : Option Value × mm_Sg))))) := by
    rw [e b (by omega), e a ha]
    rcases (show j = 0 ∨ j = 1 by omega) with rfl | rfl
    · refine ⟨fun z => absurd rfl z, fun _ => ⟨ln0 gl g0, ?_⟩⟩
      unfold n_part
      by_cases a0 : a = 0
      · rw [if_pos a0, a0, Nat.zero_div]
      · rw [if_neg a0, if_pos rfl]
    · refine ⟨fun _ => ⟨ln0 gl g0, ?_⟩, fun z => absurd (show ¬ (nI 1 : Int32) = 0 by decide) z⟩
      unfold n_part
      by_cases a0 : a = 0
      · rw [if_pos a0, a0, Nat.gcd_zero_right, Nat.div_self b0]
      · rw [if_neg a0, if_neg (by decide)]
  refine sg_X10_partOfFraction_9 σ _ _ _ _ _ _ d' _ ⟨fun _ => ⟨fun _ => end1, fun z => absurd fin z⟩, fun _ => ⟨fun _ => ⟨fun _ => end1, fun z => absurd fin z⟩, fun z => absurd (by decide) z⟩⟩
theorem mW_part {σ : mm_Sg} {a b j : Nat} (ha : a < 2 ^ 63) (hb : b < 2 ^ 45) (b0 : 0 < b) (hj : j < 2) : mm_Ev mm_m_X11_partOf [.long (lN a), .long (lN b), .int (nI j)] σ (some (.long (lN (n_part a b j)))) σ := by
  have gl' : Nat.gcd b a ≤ b := Nat.gcd_le_left a b0
  have g0 : Nat.gcd b a ≠ 0 := by
    intro z
    have := (Nat.gcd_eq_zero_iff.mp z).1
    omega
  have g : mm_Ev mm_m_X11_gcd [.long (lN a), .long (lN b)] σ (some (.long (lN (Nat.gcd b a)))) σ := sg_X11_gcd_0 σ _ _ _ (mW_gcd b a .null ha (by omega))
  have e : ∀ c, c < 2 ^ 63 → lN c / lN (Nat.gcd b a) = lN (c / Nat.gcd b a) := fun c hc => pk_lDiv hc (by omega) (by omega)
  refine sg_X11_partOf_0 σ _ _ _ _ ?_
  rw [lc0 ha]
  by_cases a0 : a = 0
  · refine ⟨fun z => absurd a0 z, fun _ => ?_⟩
    unfold n_part
    rw [if_pos a0, nI_l (by omega)]
  · refine ⟨fun _ => ?_, fun z => absurd a0 z⟩
    unfold n_part
    rw [if_neg a0]
    rcases (show j = 0 ∨ j = 1 by omega) with rfl | rfl
    · exact ⟨fun z => absurd rfl z, fun _ => ⟨_, σ, g, ln0 (by omega) g0, by rw [e a ha, if_pos rfl]⟩⟩
    · exact ⟨fun _ => ⟨_, σ, g, ln0 (by omega) g0, by rw [e b (by omega), if_neg (by decide)]⟩, fun z => absurd (show ¬ (nI 1 : Int32) = 0 by decide) z⟩
theorem n_tiredAll_le {D : Nat} {R : Nat → Nat} (h : n_wf D R) : n_tiredAll R ≤ 495 := by
  have := n_sum_le' (f := fun w => R (35 + w)) (B := 99) 5 (fun w hw => h.2.2.2.2.2.2.2.2.1 w hw)
  unfold n_tiredAll
  omega
theorem F_mean {σ : mm_Sg} (hI : Inv σ) (x1 : Int32) : FQ mm_m_X10_mean mm_m_X11_mean [.int x1] σ := by
  obtain ⟨⟨R, hcp⟩, hi, z53, z54, z55, hs⟩ := id hI
  obtain ⟨wf, r4, r5, r6, hx, hm⟩ := id hcp
  have h0 : σ 10 6 = nI (R 0) := hx.1
  have m0 : σ 52 0 = nI (R 0) := by rw [hm]; rfl
  have w7 := wf.1
  rcases bt_c x1 0 1 (by decide) (by decide) with ⟨j, -, hj, rfl⟩ | h1
  · have ht := n_tiredAll_le wf
    refine FQ.refuse hI (.long (lN (n_part (n_tiredAll R) 5 j))) ?_ ?_
    · refine sg_X10_mean_0 σ _ _ ?_
      refine ⟨_, σ, ev_X10_isBetween σ _ _ _, ?_⟩
      rw [show f_X10_isBetween σ (nI j) (0 : Int32) (1 : Int32) = 1 from bt_t σ (a := 0) (m := 1) ⟨by omega, by omega⟩ (by decide)]
      first | refine g1a ?_ | refine g1b ?_ | refine g0a ?_ | refine g0b ?_
      refine ⟨_, σ, xW_tired (Or.inl rfl) hx, _, σ, ?_, rfl⟩
      rw [nI_l (by omega)]
      exact xW_part (b := 5) (by omega) (by decide) (by decide) (by omega)
    · refine sg_X11_mean_0 σ _ _ ?_
      refine ⟨_, σ, ev_X11_isIn σ _ _ _, ?_⟩
      rw [show f_X11_isIn σ (nI j) (0 : Int32) (1 : Int32) = 1 from bt_t σ (a := 0) (m := 1) ⟨by omega, by omega⟩ (by decide)]
      first | refine g1a ?_ | refine g1b ?_ | refine g0a ?_ | refine g0b ?_
      refine ⟨_, σ, mW_tired (D := 999) rfl hm, _, σ, ?_, rfl⟩
      rw [nI_l (by omega)]
      exact mW_part (b := 5) (by omega) (by decide) (by decide) (by omega)
  · refine FQ.refuse hI (.long 1000000001) ?_ ?_
    · refine sg_X10_mean_0 σ _ _ ?_
      refine ⟨_, σ, ev_X10_isBetween σ _ _ _, ?_⟩
      rw [show f_X10_isBetween σ x1 (0 : Int32) (1 : Int32) = 0 from h1 σ]
      first | refine g1a ?_ | refine g1b ?_ | refine g0a ?_ | refine g0b ?_
      exact ⟨_, σ, ev_X10_refusedLong σ _, rfl⟩
    · refine sg_X11_mean_0 σ _ _ ?_
      refine ⟨_, σ, ev_X11_isIn σ _ _ _, ?_⟩
      rw [show f_X11_isIn σ x1 (0 : Int32) (1 : Int32) = 0 from h1 σ]
      first | refine g1a ?_ | refine g1b ?_ | refine g0a ?_ | refine g0b ?_
      rfl
