/-! the Model reads -/
def mS (s : mm_Sg) (d n p : Nat) : Prop := s 51 7 = nI (100 * d) ∧ s 51 8 = nI n ∧ s 51 6 = nI p
/-- what reading may change -/
def rF (σ s : mm_Sg) : Prop := (∀ q, q ≠ 51 → q ≠ 57 → s q = σ q) ∧ ∀ k, k ≠ 6 → s 51 k = σ 51 k
theorem rF.rf (σ : mm_Sg) : rF σ σ := ⟨fun _ _ _ => rfl, fun _ _ => rfl⟩
theorem rF.tr {σ s s' : mm_Sg} (h : rF σ s) (h2 : rF s s') : rF σ s' := ⟨fun q a b => by rw [h2.1 q a b, h.1 q a b], fun k a => by rw [h2.2 k a, h.2 k a]⟩
theorem rF.pl {σ s : mm_Sg} {x : Int32} (h : rF σ s) : rF σ (mm_u s 51 6 x) := ⟨fun q a b => by rw [mm_u_o a, h.1 q a b], fun k a => by rw [mm_u_k a, h.2 k a]⟩
theorem rF.nu {σ s : mm_Sg} {k : Nat} {x : Int32} (h : rF σ s) : rF σ (mm_u s 57 k x) := ⟨fun q a b => by rw [mm_u_o b, h.1 q a b], fun j a => by rw [mm_u_o (by decide), h.2 j a]⟩
theorem mS.mv {σ s : mm_Sg} {d n p p' : Nat} (h : mS σ d n p) (t : rF σ s) (h6 : s 51 6 = nI p') : mS s d n p' := ⟨by rw [t.2 7 (by decide)]; exact h.1, by rw [t.2 8 (by decide)]; exact h.2.1, h6⟩
theorem rowOf.rf {σ s : mm_Sg} {d n : Nat} (h : rowOf σ d 0 n) (hd : d < 8) (t : rF σ s) : rowOf s d 0 n := rowOf_same h (t.1 _ (by omega) (by omega)) (t.1 _ (by omega) (by omega)) (fun q _ _ => t.1 q (by omega) (by omega))
theorem txc_same {σ s : mm_Sg} {d n : Nat} (h : s 64 = σ 64) : txc s d n = txc σ d n := by
  funext i
  unfold txc
  rw [h]
theorem m_here {s : mm_Sg} {d n p : Nat} (hro : rowOf s d 0 n) (hd : d < 8) (hm : mS s d n p) (hp : p ≤ n) : mm_Ev mm_m_X11_here [.ref 51] s (some (.int (if p < n then nI (txc s d n p) else -1))) s := by
  have h4 := hro.2.2.2.1
  refine sg_X11_here_0 s _ ?_
  rw [hm.1, hm.2.1, hm.2.2, nI_add]
  by_cases l : p < n
  · refine ⟨fun z => absurd z (nI_ge l (by omega)), fun _ => ⟨v_in (N := 800) (by omega) (by decide), ?_⟩⟩
    rw [nI_clamp (by omega), tch_and, if_pos l]
    unfold txc
    rw [if_pos l]
  · refine ⟨fun _ => by rw [if_neg l], fun z => absurd (nI_le (by omega) (by omega)) z⟩
theorem m_dig (s : mm_Sg) {c n p : Nat} (hc : c < 256 ∨ ¬ p < n) (hc2 : ¬ p < n → c = 256) : f_X11_isIn s (if p < n then nI c else -1) (48 : Int32) (57 : Int32) = if tdi c then 1 else 0 := by
  by_cases l : p < n
  · rw [if_pos l, m_in]
    have hc : c < 256 := by rcases hc with h | h; exact h; exact absurd l h
    rw [show f_X10_isBetween s (nI c) (48 : Int32) (57 : Int32) = if 48 ≤ c ∧ c ≤ 57 then 1 else 0 from q_bt s (by omega) (by decide) (by decide)]
  · rw [if_neg l, hc2 l, if_neg (by decide)]
    rfl
theorem txc_lt (s : mm_Sg) (d n p : Nat) : txc s d n p < 256 ∨ ¬ p < n := by
  unfold txc
  by_cases l : p < n
  · rw [if_pos l]; exact Or.inl (tch_lt _)
  · exact Or.inr l
theorem txc_end (s : mm_Sg) (d n p : Nat) (h : ¬ p < n) : txc s d n p = 256 := by
  unfold txc
  rw [if_neg h]
/-- the number that so many digits tell -/
def tnv (c : Nat → Nat) : Nat → Nat → Nat → Nat
  | _, 0, a => a
  | p, k + 1, a => tnv c (p + 1) k (10 * a + (c p - 48))
theorem mW_rn {σ : mm_Sg} {d n : Nat} (hro : rowOf σ d 0 n) (hd : d < 8) (c : Nat → Nat) (hc : c = txc σ d n) {ix L : Nat} (hix : ix < 3) : ∀ (k j p a : Nat) (s : mm_Sg), j + k = L → L ≤ 3 → a < 10 ^ j → p ≤ n → rF σ s → mS s d n p → s 57 ix = nI a →
    ∃ s', mm_Go mm_m_X11_readsNumber (9, [.ref 51, .int (nI ix), .int (nI L), .int (nI j)], [], s) (some (.int (if tds c k p = none then 1 else 0)), s') ∧ rF σ s' ∧ (∀ i, i ≠ ix → s' 57 i = s 57 i) ∧ (tds c k p = none → mS s' d n (p + k) ∧ s' 57 ix = nI (tnv c p k a)) ∧ (∀ q, tds c k p = some q → mS s' d n q) := by
  have h4 := hro.2.2.2.1
  intro k
  induction k with
  | zero =>
    intro j p a s e hL ha hp t hm h57
    obtain rfl : j = L := e
    exact ⟨s, sg_X11_readsNumber_9 s _ _ _ _ ⟨fun _ => by rw [if_pos (show tds c 0 p = none from rfl)], fun z => absurd (nI_le (Nat.le_refl _) (by omega)) z⟩, t, fun _ _ => rfl, fun _ => ⟨hm, h57⟩, fun q h => absurd h (by unfold tds; simp)⟩
  | succ k ih =>
    intro j p a s e hL ha hp t hm h57
    have ro := hro.rf hd t
    have ecs : txc s d n = c := by rw [hc]; exact txc_same (t.1 64 (by decide) (by decide))
    have hh := m_here ro hd hm hp
    rw [ecs] at hh
    have h10 : (10 : Nat) ^ (j + 1) = 10 ^ j * 10 := Nat.pow_succ _ _
    have h1000 : (10 : Nat) ^ j ≤ 100 := by
      have : (10 : Nat) ^ j ≤ 10 ^ 2 := Nat.pow_le_pow_right (by decide) (by omega)
      exact this
    have dg := m_dig s (c := c p) (n := n) (p := p) (by rw [hc]; exact txc_lt _ _ _ _) (by rw [hc]; exact txc_end _ _ _ _)
    unfold tds
    by_cases hd2 : tdi (c p)
    · have l : p < n := by
        rcases Nat.lt_or_ge p n with l | l
        · exact l
        · rw [hc, txc_end σ d n p (by omega)] at hd2
          exact absurd hd2 (by decide)
      rw [if_pos hd2] at dg
      rw [if_pos hd2]
      obtain ⟨x0, x9⟩ := hd2
      obtain ⟨s', g, t', o', r1, r2⟩ := ih (j + 1) (p + 1) (10 * a + (c p - 48)) (mm_u (mm_u s 57 ix (nI (10 * a + (c p - 48)))) 51 6 (nI (p + 1))) (by omega) hL (by omega) (by omega) (t.nu).pl (hm.mv ((rF.rf s).nu).pl (by rw [mm_u_kk])) (by rw [mm_u_o (by decide), mm_u_kk])
      refine ⟨s', sg_X11_readsNumber_9 s _ _ _ _ ⟨fun z => absurd z (nI_ge (by omega) (by omega)), fun _ => ⟨_, s, hh, _, s, ev_X11_isIn s _ _ _, ?_⟩⟩, t', fun i hi => by rw [o' i hi, mm_u_o (by decide), mm_u_k hi], fun z => ?_, r2⟩
      · rw [dg]
        refine g1b ⟨v_in (N := 3) hix (by decide), _, s, hh, fun σ13 e13 σ15 e15 => ?_⟩
        rw [nI_clamp (by omega), h57, if_pos l, show (10 : Int32) = nI 10 from rfl, pk_mul, nI_add, show (48 : Int32) = nI 48 from rfl, pk_sub (by omega), show 10 * a + c p - 48 = 10 * a + (c p - 48) by omega] at e13
        rw [e13, mm_u_o (by decide), hm.2.2, nI_1] at e15
        rw [e15, nI_1]
        exact g
      · have := r1 z
        rw [show p + (k + 1) = p + 1 + k by omega]
        exact this
    · rw [if_neg hd2] at dg
      rw [if_neg hd2]
      refine ⟨s, sg_X11_readsNumber_9 s _ _ _ _ ⟨fun z => absurd z (nI_ge (by omega) (by omega)), fun _ => ⟨_, s, hh, _, s, ev_X11_isIn s _ _ _, ?_⟩⟩, t, fun _ _ => rfl, fun z => absurd z (by simp), fun q z => ?_⟩
      · rw [dg]
        exact g0b rfl
      · obtain rfl : p = q := by simpa using z
        exact hm
/-- one number read -/
theorem mW_num {σ s : mm_Sg} {d n : Nat} (hro : rowOf σ d 0 n) (hd : d < 8) (c : Nat → Nat) (hc : c = txc σ d n) {ix L p : Nat} (hix : ix < 3) (hL : L ≤ 3) (hp : p ≤ n) (t : rF σ s) (hm : mS s d n p) :
    (∃ s', mm_Ev mm_m_X11_readsNumber [.ref 51, .int (nI ix), .int (nI L)] s (some (.int 1)) s' ∧ rF σ s' ∧ (∀ i, i ≠ ix → s' 57 i = s 57 i) ∧ tds c L p = none ∧ mS s' d n (p + L) ∧ p + L ≤ n ∧ s' 57 ix = nI (tnv c p L 0)) ∨
    (∃ s' q, mm_Ev mm_m_X11_readsNumber [.ref 51, .int (nI ix), .int (nI L)] s (some (.int 0)) s' ∧ rF σ s' ∧ tds c L p = some q ∧ mS s' d n q ∧ p ≤ q ∧ q ≤ n) := by
  obtain ⟨s', g, t', o', r1, r2⟩ := mW_rn hro hd c hc (ix := ix) (L := L) hix L 0 p 0 (mm_u s 57 ix (nI 0)) (by omega) hL (by decide) hp t.nu (hm.mv (rF.rf s).nu (by rw [mm_u_o (by decide)]; exact hm.2.2)) (by rw [mm_u_kk])
  have ent : ∀ X, mm_Go mm_m_X11_readsNumber (9, [.ref 51, .int (nI ix), .int (nI L), .int (nI 0)], [], mm_u s 57 ix (nI 0)) X → mm_Go mm_m_X11_readsNumber (0, [.ref 51, .int (nI ix), .int (nI L), .null], [], s) X := fun X hX => sg_X11_readsNumber_0 s _ _ X ⟨v_in (N := 3) hix (by decide), fun σ2 e2 => by
    rw [nI_clamp (by omega)] at e2
    rw [e2]
    exact hX⟩
  have tl := tds_lt (c := c) (n := n) (fun i hi => by rw [hc]; exact txc_end _ _ _ _ (by omega)) L p hp
  cases h : tds c L p with
  | none =>
    rw [h, if_pos rfl] at g
    have := r1 h
    exact Or.inl ⟨s', ent _ g, t', fun i hi => by rw [o' i hi, mm_u_k hi], rfl, this.1, tl.1 h, this.2⟩
  | some q =>
    rw [h, if_neg (by simp)] at g
    exact Or.inr ⟨s', q, ent _ g, t', rfl, r2 q h, (tl.2 q h).1, (tl.2 q h).2⟩
/-- the end of a statement -/
theorem mW_semi {σ s : mm_Sg} {d n p : Nat} (hro : rowOf σ d 0 n) (hd : d < 8) (c : Nat → Nat) (hc : c = txc σ d n) (hp : p ≤ n) (t : rF σ s) (hm : mS s d n p) (x1 : Int32) :
    ∃ s', mm_Go mm_m_X11_readsStatement (264, [.ref 51, .int x1, .int 1], [], s) (some (.int (if c p = 59 then 1 else 0)), s') ∧ rF σ s' ∧ (∀ i, s' 57 i = s 57 i) ∧ mS s' d n (if c p = 59 then p + 1 else p) := by
  have h4 := hro.2.2.2.1
  have ro := hro.rf hd t
  have ecs : txc s d n = c := by rw [hc]; exact txc_same (t.1 64 (by decide) (by decide))
  have hh := m_here ro hd hm hp
  rw [ecs] at hh
  by_cases e : c p = 59
  · have l : p < n := by
      rcases Nat.lt_or_ge p n with l | l
      · exact l
      · rw [hc, txc_end σ d n p (by omega)] at e
        omega
    rw [if_pos l, e] at hh
    rw [if_pos e, if_pos e]
    refine ⟨mm_u s 51 6 (nI (p + 1)), sg_X11_readsStatement_264 s _ _ _ ⟨fun z => absurd z (by decide), fun _ => ⟨_, s, hh, fun _ σ6 e6 => ?_, fun z => absurd rfl z⟩⟩, t.pl, fun i => by rw [mm_u_o (by decide)], hm.mv (rF.rf s).pl (by rw [mm_u_kk])⟩
    rw [hm.2.2, nI_1] at e6
    rw [e6]
  · rw [if_neg e, if_neg e]
    refine ⟨s, sg_X11_readsStatement_264 s _ _ _ ⟨fun z => absurd z (by decide), fun _ => ⟨_, s, hh, fun z => absurd z ?_, fun _ => rfl⟩⟩, t, fun _ => rfl, hm⟩
    by_cases l : p < n
    · rw [if_pos l]
      have hb : c p < 256 := by rw [hc]; rcases txc_lt σ d n p with q | q; exact q; exact absurd l q
      intro z
      exact e ((nI_eq (b := 59) (by omega) (by decide)).mp z)
    · rw [if_neg l]
      decide
/-- what the numbers are, by letter -/
def tnum (c : Nat → Nat) (p : Nat) (s : mm_Sg) : Prop :=
  (c p = 107 → s 57 0 = nI (c (p + 1) - 48) ∧ s 57 1 = nI (c (p + 2) - 48) ∧ s 57 2 = nI (c (p + 3) - 48)) ∧
  (c p = 119 → s 57 0 = nI (c (p + 1) - 48) ∧ s 57 1 = nI (c (p + 2) - 48)) ∧
  ((c p = 116 ∨ c p = 111) → s 57 0 = nI (c (p + 1) - 48) ∧ s 57 1 = nI (10 * (c (p + 2) - 48) + (c (p + 3) - 48))) ∧
  (c p = 122 → s 57 0 = nI (c (p + 1) - 48)) ∧
  (c p = 98 → s 57 0 = nI (10 * (10 * (c (p + 1) - 48) + (c (p + 2) - 48)) + (c (p + 3) - 48))) ∧
  (c p = 100 → s 57 0 = nI (10 * (c (p + 1) - 48) + (c (p + 2) - 48)))
theorem tnv1 (c : Nat → Nat) (p : Nat) : tnv c p 1 0 = c p - 48 := by show 10 * 0 + (c p - 48) = _; omega
theorem tnv2 (c : Nat → Nat) (p : Nat) : tnv c p 2 0 = 10 * (c p - 48) + (c (p + 1) - 48) := by show 10 * (10 * 0 + (c p - 48)) + (c (p + 1) - 48) = _; omega
theorem tnv3 (c : Nat → Nat) (p : Nat) : tnv c p 3 0 = 10 * (10 * (c p - 48) + (c (p + 1) - 48)) + (c (p + 2) - 48) := by show 10 * (10 * (10 * 0 + (c p - 48)) + (c (p + 1) - 48)) + (c (p + 2) - 48) = _; omega
theorem tds_1 {c : Nat → Nat} {a b p q : Nat} (h : tds c a p = some q) : tds c (a + b) p = some q := by rw [tds_add, h]
theorem tds_2 {c : Nat → Nat} {a b p : Nat} (h : tds c a p = none) : tds c (a + b) p = tds c b (p + a) := by rw [tds_add, h]
theorem z264 (s : mm_Sg) (x1 : Int32) : mm_Go mm_m_X11_readsStatement (264, [.ref 51, .int x1, .int 0], [], s) (some (.int 0), s) := sg_X11_readsStatement_264 s _ _ _ ⟨fun _ => rfl, fun z => absurd rfl z⟩
/-- one statement read by the Model -/
theorem mW_stm {σ s : mm_Sg} {d n p : Nat} (hro : rowOf σ d 0 n) (hd : d < 8) (c : Nat → Nat) (hc : c = txc σ d n) (hp : p ≤ n) (t : rF σ s) (hm : mS s d n p) :
    ∃ s', mm_Ev mm_m_X11_readsStatement [.ref 51] s (some (.int (if tbd c p = none then 1 else 0))) s' ∧ rF σ s' ∧ mS s' d n (match tbd c p with | some q => q | none => p + tdg (c p) + 2) ∧ (tbd c p = none → tnum c p s') := by
  have h4 := hro.2.2.2.1
  have ro := hro.rf hd t
  have ecs : txc s d n = c := by rw [hc]; exact txc_same (t.1 64 (by decide) (by decide))
  have hh := m_here ro hd hm hp
  rw [ecs] at hh
  obtain ⟨hv, ehv⟩ : ∃ x, x = (if p < n then nI (c p) else -1) := ⟨_, rfl⟩
  rw [← ehv] at hh
  have tt0 : rF σ (mm_u s 51 6 (nI (p + 1))) := t.pl
  by_cases hl : tdg (c p) = 0
  · have nl : ∀ k, k < 128 → 0 < tdg k → ¬ hv = nI k := fun k hk h z => by
      rw [ehv] at z
      by_cases l : p < n
      · rw [if_pos l] at z
        have hb : c p < 256 := by rw [hc]; rcases txc_lt σ d n p with q | q; exact q; exact absurd l q
        have := (nI_eq (by omega) (by omega)).mp z
        rw [this] at hl
        omega
      · rw [if_neg l] at z
        have := congrArg Int32.toInt z
        rw [nI_toInt (by omega)] at this
        have e : (-1 : Int32).toInt = -1 := by decide
        omega
    have eb : tbd c p = some p := by unfold tbd; rw [if_pos hl]
    rw [eb]
    refine ⟨mm_u (mm_u s 51 6 (nI (p + 1))) 51 6 (nI p), ?_, t.pl.pl, hm.mv (rF.rf s).pl.pl (by rw [mm_u_kk]), fun z => absurd z (by simp)⟩
    refine sg_X11_readsStatement_0 s _ ⟨_, s, hh, fun σ4 e4 => ?_⟩
    rw [hm.2.2, nI_1] at e4
    have back : ∀ σ11 : mm_Sg, σ11 = mm_u σ4 51 6 ((σ4 51 6) - (1 : Int32)) → ((some (.int (if (some p : Option Nat) = none then 1 else 0)), mm_u (mm_u s 51 6 (nI (p + 1))) 51 6 (nI p)) : Option Value × mm_Sg) = (some (.int (0 : Int32)), σ11) := fun σ11 e11 => by
      rw [e4, mm_u_kk, nI_pred] at e11
      rw [e11, if_neg (by simp)]
    exact ⟨fun z => absurd z (nl 98 (by decide) (by decide)), fun _ => ⟨fun _ => back, fun _ => ⟨fun z => absurd z (nl 100 (by decide) (by decide)), fun _ => ⟨fun _ => back, fun _ => ⟨fun _ => back, fun _ => ⟨fun _ => back, fun _ => ⟨fun _ => back, fun _ => ⟨fun _ => back, fun _ => ⟨fun _ => back, fun _ => ⟨fun z => absurd z (nl 107 (by decide) (by decide)), fun _ => ⟨fun _ => back, fun _ => ⟨fun _ => back, fun _ => ⟨fun _ => back, fun _ => ⟨fun z => absurd z (nl 111 (by decide) (by decide)), fun _ => ⟨fun _ => back, fun _ => ⟨fun _ => back, fun _ => ⟨fun _ => back, fun _ => ⟨fun _ => back, fun _ => ⟨fun z => absurd z (nl 116 (by decide) (by decide)), fun _ => ⟨fun _ => back, fun _ => ⟨fun _ => back, fun _ => ⟨fun z => absurd z (nl 119 (by decide) (by decide)), fun _ => ⟨fun _ => back, fun _ => ⟨fun _ => back, fun _ => ⟨fun z => absurd z (nl 122 (by decide) (by decide)), fun _ => back⟩⟩⟩⟩⟩⟩⟩⟩⟩⟩⟩⟩⟩⟩⟩⟩⟩⟩⟩⟩⟩⟩⟩⟩⟩
  · have l : p < n := by
      rcases Nat.lt_or_ge p n with l | l
      · exact l
      · rw [hc, txc_end σ d n p (by omega)] at hl
        exact absurd (by decide) hl
    rw [if_pos l] at ehv
    have mm0 : mS (mm_u s 51 6 (nI (p + 1))) d n (p + 1) := hm.mv (rF.rf s).pl (by rw [mm_u_kk])
    have hcase : c p = 98 ∨ c p = 100 ∨ c p = 107 ∨ c p = 111 ∨ c p = 116 ∨ c p = 119 ∨ c p = 122 := by
      unfold tdg at hl
      (repeat' split at hl) <;> omega
    rcases hcase with ec | ec | ec | ec | ec | ec | ec
    · rw [ec] at ehv
      subst ehv
      have el : tbd c p = tbs c 3 (p + 1) := by
        unfold tbd
        rw [ec, if_neg (by decide)]
        rfl
      have en : tdg (c p) = 3 := by rw [ec]; rfl
      rcases mW_num hro hd c hc (ix := 0) (L := 3) (p := p + 1) (by decide) (by decide) (by omega) tt0 mm0 with ⟨a1, g0, t0, o0, d0, m0, l0, v0⟩ | ⟨b, q, g0, t0, d0, m0, l0, l0'⟩
      · obtain ⟨s2, h1, h2, h3, h4⟩ := mW_semi hro hd c hc (p := p + 1 + 3) (by omega) t0 m0 (nI 98)
        have td : tds c 3 (p + 1) = none := by
          exact d0
        have ep : p + 1 + 3 = p + 1 + 3 := by omega
        rw [ep] at h1 h4
        by_cases e59 : c (p + 1 + 3) = 59
        · rw [if_pos e59] at h1 h4
          have eb : tbd c p = none := by
            rw [el]
            unfold tbs
            rw [td]
            dsimp only
            rw [if_pos e59]
          rw [eb, if_pos rfl]
          refine ⟨s2, ?_, h2, ?_, fun _ => ?_⟩
          · refine sg_X11_readsStatement_0 s _ ⟨_, s, hh, fun σ4 e4 => ?_⟩
            rw [hm.2.2, nI_1] at e4
            subst e4
            exact (⟨fun _ => ⟨_, _, g0, h1⟩, fun z => absurd rfl z⟩)
          · dsimp only
            rw [en, show p + 3 + 2 = p + 1 + 3 + 1 by omega]
            exact h4
          · unfold tnum
            rw [ec]
            exact ⟨fun z => absurd z (by decide), fun z => absurd z (by decide), fun z => absurd z (by decide), fun z => absurd z (by decide), fun _ => by rw [h3, v0, tnv3], fun z => absurd z (by decide)⟩
        · rw [if_neg e59] at h1 h4
          have eb : tbd c p = some (p + 1 + 3) := by
            rw [el]
            unfold tbs
            rw [td]
            dsimp only
            rw [if_neg e59]
          rw [eb, if_neg (by simp)]
          refine ⟨s2, ?_, h2, h4, fun z => absurd z (by simp)⟩
          refine sg_X11_readsStatement_0 s _ ⟨_, s, hh, fun σ4 e4 => ?_⟩
          rw [hm.2.2, nI_1] at e4
          subst e4
          exact (⟨fun _ => ⟨_, _, g0, h1⟩, fun z => absurd rfl z⟩)
      · have td : tds c 3 (p + 1) = some q := by
          exact d0
        have eb : tbd c p = some q := by
          rw [el]
          unfold tbs
          rw [td]
        rw [eb, if_neg (by simp)]
        refine ⟨b, ?_, t0, m0, fun z => absurd z (by simp)⟩
        refine sg_X11_readsStatement_0 s _ ⟨_, s, hh, fun σ4 e4 => ?_⟩
        rw [hm.2.2, nI_1] at e4
        subst e4
        exact (⟨fun _ => ⟨_, _, g0, z264 _ _⟩, fun z => absurd rfl z⟩)
    · rw [ec] at ehv
      subst ehv
      have el : tbd c p = tbs c 2 (p + 1) := by
        unfold tbd
        rw [ec, if_neg (by decide)]
        rfl
      have en : tdg (c p) = 2 := by rw [ec]; rfl
      rcases mW_num hro hd c hc (ix := 0) (L := 2) (p := p + 1) (by decide) (by decide) (by omega) tt0 mm0 with ⟨a1, g0, t0, o0, d0, m0, l0, v0⟩ | ⟨b, q, g0, t0, d0, m0, l0, l0'⟩
      · obtain ⟨s2, h1, h2, h3, h4⟩ := mW_semi hro hd c hc (p := p + 1 + 2) (by omega) t0 m0 (nI 100)
        have td : tds c 2 (p + 1) = none := by
          exact d0
        have ep : p + 1 + 2 = p + 1 + 2 := by omega
        rw [ep] at h1 h4
        by_cases e59 : c (p + 1 + 2) = 59
        · rw [if_pos e59] at h1 h4
          have eb : tbd c p = none := by
            rw [el]
            unfold tbs
            rw [td]
            dsimp only
            rw [if_pos e59]
          rw [eb, if_pos rfl]
          refine ⟨s2, ?_, h2, ?_, fun _ => ?_⟩
          · refine sg_X11_readsStatement_0 s _ ⟨_, s, hh, fun σ4 e4 => ?_⟩
            rw [hm.2.2, nI_1] at e4
            subst e4
            exact (⟨fun z => absurd z (show ¬ (nI 100 = nI 98) by decide), fun _ => ⟨fun z => absurd z (show ¬ (nI 100 = nI 99) by decide), fun _ => ⟨fun _ => ⟨_, _, g0, h1⟩, fun z => absurd rfl z⟩⟩⟩)
          · dsimp only
            rw [en, show p + 2 + 2 = p + 1 + 2 + 1 by omega]
            exact h4
          · unfold tnum
            rw [ec]
            exact ⟨fun z => absurd z (by decide), fun z => absurd z (by decide), fun z => absurd z (by decide), fun z => absurd z (by decide), fun z => absurd z (by decide), fun _ => by rw [h3, v0, tnv2]⟩
        · rw [if_neg e59] at h1 h4
          have eb : tbd c p = some (p + 1 + 2) := by
            rw [el]
            unfold tbs
            rw [td]
            dsimp only
            rw [if_neg e59]
          rw [eb, if_neg (by simp)]
          refine ⟨s2, ?_, h2, h4, fun z => absurd z (by simp)⟩
          refine sg_X11_readsStatement_0 s _ ⟨_, s, hh, fun σ4 e4 => ?_⟩
          rw [hm.2.2, nI_1] at e4
          subst e4
          exact (⟨fun z => absurd z (show ¬ (nI 100 = nI 98) by decide), fun _ => ⟨fun z => absurd z (show ¬ (nI 100 = nI 99) by decide), fun _ => ⟨fun _ => ⟨_, _, g0, h1⟩, fun z => absurd rfl z⟩⟩⟩)
      · have td : tds c 2 (p + 1) = some q := by
          exact d0
        have eb : tbd c p = some q := by
          rw [el]
          unfold tbs
          rw [td]
        rw [eb, if_neg (by simp)]
        refine ⟨b, ?_, t0, m0, fun z => absurd z (by simp)⟩
        refine sg_X11_readsStatement_0 s _ ⟨_, s, hh, fun σ4 e4 => ?_⟩
        rw [hm.2.2, nI_1] at e4
        subst e4
        exact (⟨fun z => absurd z (show ¬ (nI 100 = nI 98) by decide), fun _ => ⟨fun z => absurd z (show ¬ (nI 100 = nI 99) by decide), fun _ => ⟨fun _ => ⟨_, _, g0, z264 _ _⟩, fun z => absurd rfl z⟩⟩⟩)
    · rw [ec] at ehv
      subst ehv
      have el : tbd c p = tbs c 3 (p + 1) := by
        unfold tbd
        rw [ec, if_neg (by decide)]
        rfl
      have en : tdg (c p) = 3 := by rw [ec]; rfl
      rcases mW_num hro hd c hc (ix := 0) (L := 1) (p := p + 1) (by decide) (by decide) (by omega) tt0 mm0 with ⟨a1, g0, t0, o0, d0, m0, l0, v0⟩ | ⟨b, q, g0, t0, d0, m0, l0, l0'⟩
      · have tt1 := t0
        have mm1 := m0
        rcases mW_num hro hd c hc (ix := 1) (L := 1) (p := p + 1 + 1) (by decide) (by decide) (by omega) tt1 mm1 with ⟨a2, g1, t1, o1, d1, m1, l1, v1⟩ | ⟨b, q, g1, t1, d1, m1, l1, l1'⟩
        · have tt2 := t1
          have mm2 := m1
          rcases mW_num hro hd c hc (ix := 2) (L := 1) (p := p + 1 + 1 + 1) (by decide) (by decide) (by omega) tt2 mm2 with ⟨a3, g2, t2, o2, d2, m2, l2, v2⟩ | ⟨b, q, g2, t2, d2, m2, l2, l2'⟩
          · obtain ⟨s2, h1, h2, h3, h4⟩ := mW_semi hro hd c hc (p := p + 1 + 1 + 1 + 1) (by omega) t2 m2 (nI 107)
            have td : tds c 3 (p + 1) = none := by
              rw [show 3 = 1 + 2 by omega, tds_2 d0, show 2 = 1 + 1 by omega, tds_2 d1]
              exact d2
            have ep : p + 1 + 1 + 1 + 1 = p + 1 + 3 := by omega
            rw [ep] at h1 h4
            by_cases e59 : c (p + 1 + 3) = 59
            · rw [if_pos e59] at h1 h4
              have eb : tbd c p = none := by
                rw [el]
                unfold tbs
                rw [td]
                dsimp only
                rw [if_pos e59]
              rw [eb, if_pos rfl]
              refine ⟨s2, ?_, h2, ?_, fun _ => ?_⟩
              · refine sg_X11_readsStatement_0 s _ ⟨_, s, hh, fun σ4 e4 => ?_⟩
                rw [hm.2.2, nI_1] at e4
                subst e4
                exact (⟨fun z => absurd z (show ¬ (nI 107 = nI 98) by decide), fun _ => ⟨fun z => absurd z (show ¬ (nI 107 = nI 99) by decide), fun _ => ⟨fun z => absurd z (show ¬ (nI 107 = nI 100) by decide), fun _ => ⟨fun z => absurd z (show ¬ (nI 107 = nI 101) by decide), fun _ => ⟨fun z => absurd z (show ¬ (nI 107 = nI 102) by decide), fun _ => ⟨fun z => absurd z (show ¬ (nI 107 = nI 103) by decide), fun _ => ⟨fun z => absurd z (show ¬ (nI 107 = nI 104) by decide), fun _ => ⟨fun z => absurd z (show ¬ (nI 107 = nI 105) by decide), fun _ => ⟨fun z => absurd z (show ¬ (nI 107 = nI 106) by decide), fun _ => ⟨fun _ => ⟨_, _, g0, g1a ⟨_, _, g1, g1a ⟨_, _, g2, g1a h1⟩⟩⟩, fun z => absurd rfl z⟩⟩⟩⟩⟩⟩⟩⟩⟩⟩)
              · dsimp only
                rw [en, show p + 3 + 2 = p + 1 + 3 + 1 by omega]
                exact h4
              · unfold tnum
                rw [ec]
                exact ⟨fun _ => ⟨by rw [h3, o2 0 (by decide), o1 0 (by decide), v0, tnv1], by rw [h3, o2 1 (by decide), v1, tnv1], by rw [h3, v2, tnv1]⟩, fun z => absurd z (by decide), fun z => absurd z (by decide), fun z => absurd z (by decide), fun z => absurd z (by decide), fun z => absurd z (by decide)⟩
            · rw [if_neg e59] at h1 h4
              have eb : tbd c p = some (p + 1 + 3) := by
                rw [el]
                unfold tbs
                rw [td]
                dsimp only
                rw [if_neg e59]
              rw [eb, if_neg (by simp)]
              refine ⟨s2, ?_, h2, h4, fun z => absurd z (by simp)⟩
              refine sg_X11_readsStatement_0 s _ ⟨_, s, hh, fun σ4 e4 => ?_⟩
              rw [hm.2.2, nI_1] at e4
              subst e4
              exact (⟨fun z => absurd z (show ¬ (nI 107 = nI 98) by decide), fun _ => ⟨fun z => absurd z (show ¬ (nI 107 = nI 99) by decide), fun _ => ⟨fun z => absurd z (show ¬ (nI 107 = nI 100) by decide), fun _ => ⟨fun z => absurd z (show ¬ (nI 107 = nI 101) by decide), fun _ => ⟨fun z => absurd z (show ¬ (nI 107 = nI 102) by decide), fun _ => ⟨fun z => absurd z (show ¬ (nI 107 = nI 103) by decide), fun _ => ⟨fun z => absurd z (show ¬ (nI 107 = nI 104) by decide), fun _ => ⟨fun z => absurd z (show ¬ (nI 107 = nI 105) by decide), fun _ => ⟨fun z => absurd z (show ¬ (nI 107 = nI 106) by decide), fun _ => ⟨fun _ => ⟨_, _, g0, g1a ⟨_, _, g1, g1a ⟨_, _, g2, g1a h1⟩⟩⟩, fun z => absurd rfl z⟩⟩⟩⟩⟩⟩⟩⟩⟩⟩)
          · have td : tds c 3 (p + 1) = some q := by
              rw [show 3 = 1 + 2 by omega, tds_2 d0, show 2 = 1 + 1 by omega, tds_2 d1]
              exact d2
            have eb : tbd c p = some q := by
              rw [el]
              unfold tbs
              rw [td]
            rw [eb, if_neg (by simp)]
            refine ⟨b, ?_, t2, m2, fun z => absurd z (by simp)⟩
            refine sg_X11_readsStatement_0 s _ ⟨_, s, hh, fun σ4 e4 => ?_⟩
            rw [hm.2.2, nI_1] at e4
            subst e4
            exact (⟨fun z => absurd z (show ¬ (nI 107 = nI 98) by decide), fun _ => ⟨fun z => absurd z (show ¬ (nI 107 = nI 99) by decide), fun _ => ⟨fun z => absurd z (show ¬ (nI 107 = nI 100) by decide), fun _ => ⟨fun z => absurd z (show ¬ (nI 107 = nI 101) by decide), fun _ => ⟨fun z => absurd z (show ¬ (nI 107 = nI 102) by decide), fun _ => ⟨fun z => absurd z (show ¬ (nI 107 = nI 103) by decide), fun _ => ⟨fun z => absurd z (show ¬ (nI 107 = nI 104) by decide), fun _ => ⟨fun z => absurd z (show ¬ (nI 107 = nI 105) by decide), fun _ => ⟨fun z => absurd z (show ¬ (nI 107 = nI 106) by decide), fun _ => ⟨fun _ => ⟨_, _, g0, g1a ⟨_, _, g1, g1a ⟨_, _, g2, g0a (z264 _ _)⟩⟩⟩, fun z => absurd rfl z⟩⟩⟩⟩⟩⟩⟩⟩⟩⟩)
        · have td : tds c 3 (p + 1) = some q := by
            rw [show 3 = 1 + 2 by omega, tds_2 d0]
            exact tds_1 (b := 1) d1
          have eb : tbd c p = some q := by
            rw [el]
            unfold tbs
            rw [td]
          rw [eb, if_neg (by simp)]
          refine ⟨b, ?_, t1, m1, fun z => absurd z (by simp)⟩
          refine sg_X11_readsStatement_0 s _ ⟨_, s, hh, fun σ4 e4 => ?_⟩
          rw [hm.2.2, nI_1] at e4
          subst e4
          exact (⟨fun z => absurd z (show ¬ (nI 107 = nI 98) by decide), fun _ => ⟨fun z => absurd z (show ¬ (nI 107 = nI 99) by decide), fun _ => ⟨fun z => absurd z (show ¬ (nI 107 = nI 100) by decide), fun _ => ⟨fun z => absurd z (show ¬ (nI 107 = nI 101) by decide), fun _ => ⟨fun z => absurd z (show ¬ (nI 107 = nI 102) by decide), fun _ => ⟨fun z => absurd z (show ¬ (nI 107 = nI 103) by decide), fun _ => ⟨fun z => absurd z (show ¬ (nI 107 = nI 104) by decide), fun _ => ⟨fun z => absurd z (show ¬ (nI 107 = nI 105) by decide), fun _ => ⟨fun z => absurd z (show ¬ (nI 107 = nI 106) by decide), fun _ => ⟨fun _ => ⟨_, _, g0, g1a ⟨_, _, g1, g0a (z264 _ _)⟩⟩, fun z => absurd rfl z⟩⟩⟩⟩⟩⟩⟩⟩⟩⟩)
      · have td : tds c 3 (p + 1) = some q := by
          exact tds_1 (b := 2) d0
        have eb : tbd c p = some q := by
          rw [el]
          unfold tbs
          rw [td]
        rw [eb, if_neg (by simp)]
        refine ⟨b, ?_, t0, m0, fun z => absurd z (by simp)⟩
        refine sg_X11_readsStatement_0 s _ ⟨_, s, hh, fun σ4 e4 => ?_⟩
        rw [hm.2.2, nI_1] at e4
        subst e4
        exact (⟨fun z => absurd z (show ¬ (nI 107 = nI 98) by decide), fun _ => ⟨fun z => absurd z (show ¬ (nI 107 = nI 99) by decide), fun _ => ⟨fun z => absurd z (show ¬ (nI 107 = nI 100) by decide), fun _ => ⟨fun z => absurd z (show ¬ (nI 107 = nI 101) by decide), fun _ => ⟨fun z => absurd z (show ¬ (nI 107 = nI 102) by decide), fun _ => ⟨fun z => absurd z (show ¬ (nI 107 = nI 103) by decide), fun _ => ⟨fun z => absurd z (show ¬ (nI 107 = nI 104) by decide), fun _ => ⟨fun z => absurd z (show ¬ (nI 107 = nI 105) by decide), fun _ => ⟨fun z => absurd z (show ¬ (nI 107 = nI 106) by decide), fun _ => ⟨fun _ => ⟨_, _, g0, g0a (z264 _ _)⟩, fun z => absurd rfl z⟩⟩⟩⟩⟩⟩⟩⟩⟩⟩)
    · rw [ec] at ehv
      subst ehv
      have el : tbd c p = tbs c 3 (p + 1) := by
        unfold tbd
        rw [ec, if_neg (by decide)]
        rfl
      have en : tdg (c p) = 3 := by rw [ec]; rfl
      rcases mW_num hro hd c hc (ix := 0) (L := 1) (p := p + 1) (by decide) (by decide) (by omega) tt0 mm0 with ⟨a1, g0, t0, o0, d0, m0, l0, v0⟩ | ⟨b, q, g0, t0, d0, m0, l0, l0'⟩
      · have tt1 := t0
        have mm1 := m0
        rcases mW_num hro hd c hc (ix := 1) (L := 2) (p := p + 1 + 1) (by decide) (by decide) (by omega) tt1 mm1 with ⟨a2, g1, t1, o1, d1, m1, l1, v1⟩ | ⟨b, q, g1, t1, d1, m1, l1, l1'⟩
        · obtain ⟨s2, h1, h2, h3, h4⟩ := mW_semi hro hd c hc (p := p + 1 + 1 + 2) (by omega) t1 m1 (nI 111)
          have td : tds c 3 (p + 1) = none := by
            rw [show 3 = 1 + 2 by omega, tds_2 d0]
            exact d1
          have ep : p + 1 + 1 + 2 = p + 1 + 3 := by omega
          rw [ep] at h1 h4
          by_cases e59 : c (p + 1 + 3) = 59
          · rw [if_pos e59] at h1 h4
            have eb : tbd c p = none := by
              rw [el]
              unfold tbs
              rw [td]
              dsimp only
              rw [if_pos e59]
            rw [eb, if_pos rfl]
            refine ⟨s2, ?_, h2, ?_, fun _ => ?_⟩
            · refine sg_X11_readsStatement_0 s _ ⟨_, s, hh, fun σ4 e4 => ?_⟩
              rw [hm.2.2, nI_1] at e4
              subst e4
              exact (⟨fun z => absurd z (show ¬ (nI 111 = nI 98) by decide), fun _ => ⟨fun z => absurd z (show ¬ (nI 111 = nI 99) by decide), fun _ => ⟨fun z => absurd z (show ¬ (nI 111 = nI 100) by decide), fun _ => ⟨fun z => absurd z (show ¬ (nI 111 = nI 101) by decide), fun _ => ⟨fun z => absurd z (show ¬ (nI 111 = nI 102) by decide), fun _ => ⟨fun z => absurd z (show ¬ (nI 111 = nI 103) by decide), fun _ => ⟨fun z => absurd z (show ¬ (nI 111 = nI 104) by decide), fun _ => ⟨fun z => absurd z (show ¬ (nI 111 = nI 105) by decide), fun _ => ⟨fun z => absurd z (show ¬ (nI 111 = nI 106) by decide), fun _ => ⟨fun z => absurd z (show ¬ (nI 111 = nI 107) by decide), fun _ => ⟨fun z => absurd z (show ¬ (nI 111 = nI 108) by decide), fun _ => ⟨fun z => absurd z (show ¬ (nI 111 = nI 109) by decide), fun _ => ⟨fun z => absurd z (show ¬ (nI 111 = nI 110) by decide), fun _ => ⟨fun _ => ⟨_, _, g0, g1a ⟨_, _, g1, g1a h1⟩⟩, fun z => absurd rfl z⟩⟩⟩⟩⟩⟩⟩⟩⟩⟩⟩⟩⟩⟩)
            · dsimp only
              rw [en, show p + 3 + 2 = p + 1 + 3 + 1 by omega]
              exact h4
            · unfold tnum
              rw [ec]
              exact ⟨fun z => absurd z (by decide), fun z => absurd z (by decide), fun _ => ⟨by rw [h3, o1 0 (by decide), v0, tnv1], by rw [h3, v1, tnv2]⟩, fun z => absurd z (by decide), fun z => absurd z (by decide), fun z => absurd z (by decide)⟩
          · rw [if_neg e59] at h1 h4
            have eb : tbd c p = some (p + 1 + 3) := by
              rw [el]
              unfold tbs
              rw [td]
              dsimp only
              rw [if_neg e59]
            rw [eb, if_neg (by simp)]
            refine ⟨s2, ?_, h2, h4, fun z => absurd z (by simp)⟩
            refine sg_X11_readsStatement_0 s _ ⟨_, s, hh, fun σ4 e4 => ?_⟩
            rw [hm.2.2, nI_1] at e4
            subst e4
            exact (⟨fun z => absurd z (show ¬ (nI 111 = nI 98) by decide), fun _ => ⟨fun z => absurd z (show ¬ (nI 111 = nI 99) by decide), fun _ => ⟨fun z => absurd z (show ¬ (nI 111 = nI 100) by decide), fun _ => ⟨fun z => absurd z (show ¬ (nI 111 = nI 101) by decide), fun _ => ⟨fun z => absurd z (show ¬ (nI 111 = nI 102) by decide), fun _ => ⟨fun z => absurd z (show ¬ (nI 111 = nI 103) by decide), fun _ => ⟨fun z => absurd z (show ¬ (nI 111 = nI 104) by decide), fun _ => ⟨fun z => absurd z (show ¬ (nI 111 = nI 105) by decide), fun _ => ⟨fun z => absurd z (show ¬ (nI 111 = nI 106) by decide), fun _ => ⟨fun z => absurd z (show ¬ (nI 111 = nI 107) by decide), fun _ => ⟨fun z => absurd z (show ¬ (nI 111 = nI 108) by decide), fun _ => ⟨fun z => absurd z (show ¬ (nI 111 = nI 109) by decide), fun _ => ⟨fun z => absurd z (show ¬ (nI 111 = nI 110) by decide), fun _ => ⟨fun _ => ⟨_, _, g0, g1a ⟨_, _, g1, g1a h1⟩⟩, fun z => absurd rfl z⟩⟩⟩⟩⟩⟩⟩⟩⟩⟩⟩⟩⟩⟩)
        · have td : tds c 3 (p + 1) = some q := by
            rw [show 3 = 1 + 2 by omega, tds_2 d0]
            exact d1
          have eb : tbd c p = some q := by
            rw [el]
            unfold tbs
            rw [td]
          rw [eb, if_neg (by simp)]
          refine ⟨b, ?_, t1, m1, fun z => absurd z (by simp)⟩
          refine sg_X11_readsStatement_0 s _ ⟨_, s, hh, fun σ4 e4 => ?_⟩
          rw [hm.2.2, nI_1] at e4
          subst e4
          exact (⟨fun z => absurd z (show ¬ (nI 111 = nI 98) by decide), fun _ => ⟨fun z => absurd z (show ¬ (nI 111 = nI 99) by decide), fun _ => ⟨fun z => absurd z (show ¬ (nI 111 = nI 100) by decide), fun _ => ⟨fun z => absurd z (show ¬ (nI 111 = nI 101) by decide), fun _ => ⟨fun z => absurd z (show ¬ (nI 111 = nI 102) by decide), fun _ => ⟨fun z => absurd z (show ¬ (nI 111 = nI 103) by decide), fun _ => ⟨fun z => absurd z (show ¬ (nI 111 = nI 104) by decide), fun _ => ⟨fun z => absurd z (show ¬ (nI 111 = nI 105) by decide), fun _ => ⟨fun z => absurd z (show ¬ (nI 111 = nI 106) by decide), fun _ => ⟨fun z => absurd z (show ¬ (nI 111 = nI 107) by decide), fun _ => ⟨fun z => absurd z (show ¬ (nI 111 = nI 108) by decide), fun _ => ⟨fun z => absurd z (show ¬ (nI 111 = nI 109) by decide), fun _ => ⟨fun z => absurd z (show ¬ (nI 111 = nI 110) by decide), fun _ => ⟨fun _ => ⟨_, _, g0, g1a ⟨_, _, g1, g0a (z264 _ _)⟩⟩, fun z => absurd rfl z⟩⟩⟩⟩⟩⟩⟩⟩⟩⟩⟩⟩⟩⟩)
      · have td : tds c 3 (p + 1) = some q := by
          exact tds_1 (b := 2) d0
        have eb : tbd c p = some q := by
          rw [el]
          unfold tbs
          rw [td]
        rw [eb, if_neg (by simp)]
        refine ⟨b, ?_, t0, m0, fun z => absurd z (by simp)⟩
        refine sg_X11_readsStatement_0 s _ ⟨_, s, hh, fun σ4 e4 => ?_⟩
        rw [hm.2.2, nI_1] at e4
        subst e4
        exact (⟨fun z => absurd z (show ¬ (nI 111 = nI 98) by decide), fun _ => ⟨fun z => absurd z (show ¬ (nI 111 = nI 99) by decide), fun _ => ⟨fun z => absurd z (show ¬ (nI 111 = nI 100) by decide), fun _ => ⟨fun z => absurd z (show ¬ (nI 111 = nI 101) by decide), fun _ => ⟨fun z => absurd z (show ¬ (nI 111 = nI 102) by decide), fun _ => ⟨fun z => absurd z (show ¬ (nI 111 = nI 103) by decide), fun _ => ⟨fun z => absurd z (show ¬ (nI 111 = nI 104) by decide), fun _ => ⟨fun z => absurd z (show ¬ (nI 111 = nI 105) by decide), fun _ => ⟨fun z => absurd z (show ¬ (nI 111 = nI 106) by decide), fun _ => ⟨fun z => absurd z (show ¬ (nI 111 = nI 107) by decide), fun _ => ⟨fun z => absurd z (show ¬ (nI 111 = nI 108) by decide), fun _ => ⟨fun z => absurd z (show ¬ (nI 111 = nI 109) by decide), fun _ => ⟨fun z => absurd z (show ¬ (nI 111 = nI 110) by decide), fun _ => ⟨fun _ => ⟨_, _, g0, g0a (z264 _ _)⟩, fun z => absurd rfl z⟩⟩⟩⟩⟩⟩⟩⟩⟩⟩⟩⟩⟩⟩)
    · rw [ec] at ehv
      subst ehv
      have el : tbd c p = tbs c 3 (p + 1) := by
        unfold tbd
        rw [ec, if_neg (by decide)]
        rfl
      have en : tdg (c p) = 3 := by rw [ec]; rfl
      rcases mW_num hro hd c hc (ix := 0) (L := 1) (p := p + 1) (by decide) (by decide) (by omega) tt0 mm0 with ⟨a1, g0, t0, o0, d0, m0, l0, v0⟩ | ⟨b, q, g0, t0, d0, m0, l0, l0'⟩
      · have tt1 := t0
        have mm1 := m0
        rcases mW_num hro hd c hc (ix := 1) (L := 2) (p := p + 1 + 1) (by decide) (by decide) (by omega) tt1 mm1 with ⟨a2, g1, t1, o1, d1, m1, l1, v1⟩ | ⟨b, q, g1, t1, d1, m1, l1, l1'⟩
        · obtain ⟨s2, h1, h2, h3, h4⟩ := mW_semi hro hd c hc (p := p + 1 + 1 + 2) (by omega) t1 m1 (nI 116)
          have td : tds c 3 (p + 1) = none := by
            rw [show 3 = 1 + 2 by omega, tds_2 d0]
            exact d1
          have ep : p + 1 + 1 + 2 = p + 1 + 3 := by omega
          rw [ep] at h1 h4
          by_cases e59 : c (p + 1 + 3) = 59
          · rw [if_pos e59] at h1 h4
            have eb : tbd c p = none := by
              rw [el]
              unfold tbs
              rw [td]
              dsimp only
              rw [if_pos e59]
            rw [eb, if_pos rfl]
            refine ⟨s2, ?_, h2, ?_, fun _ => ?_⟩
            · refine sg_X11_readsStatement_0 s _ ⟨_, s, hh, fun σ4 e4 => ?_⟩
              rw [hm.2.2, nI_1] at e4
              subst e4
              exact (⟨fun z => absurd z (show ¬ (nI 116 = nI 98) by decide), fun _ => ⟨fun z => absurd z (show ¬ (nI 116 = nI 99) by decide), fun _ => ⟨fun z => absurd z (show ¬ (nI 116 = nI 100) by decide), fun _ => ⟨fun z => absurd z (show ¬ (nI 116 = nI 101) by decide), fun _ => ⟨fun z => absurd z (show ¬ (nI 116 = nI 102) by decide), fun _ => ⟨fun z => absurd z (show ¬ (nI 116 = nI 103) by decide), fun _ => ⟨fun z => absurd z (show ¬ (nI 116 = nI 104) by decide), fun _ => ⟨fun z => absurd z (show ¬ (nI 116 = nI 105) by decide), fun _ => ⟨fun z => absurd z (show ¬ (nI 116 = nI 106) by decide), fun _ => ⟨fun z => absurd z (show ¬ (nI 116 = nI 107) by decide), fun _ => ⟨fun z => absurd z (show ¬ (nI 116 = nI 108) by decide), fun _ => ⟨fun z => absurd z (show ¬ (nI 116 = nI 109) by decide), fun _ => ⟨fun z => absurd z (show ¬ (nI 116 = nI 110) by decide), fun _ => ⟨fun z => absurd z (show ¬ (nI 116 = nI 111) by decide), fun _ => ⟨fun z => absurd z (show ¬ (nI 116 = nI 112) by decide), fun _ => ⟨fun z => absurd z (show ¬ (nI 116 = nI 113) by decide), fun _ => ⟨fun z => absurd z (show ¬ (nI 116 = nI 114) by decide), fun _ => ⟨fun z => absurd z (show ¬ (nI 116 = nI 115) by decide), fun _ => ⟨fun _ => ⟨_, _, g0, g1a ⟨_, _, g1, g1a h1⟩⟩, fun z => absurd rfl z⟩⟩⟩⟩⟩⟩⟩⟩⟩⟩⟩⟩⟩⟩⟩⟩⟩⟩⟩)
            · dsimp only
              rw [en, show p + 3 + 2 = p + 1 + 3 + 1 by omega]
              exact h4
            · unfold tnum
              rw [ec]
              exact ⟨fun z => absurd z (by decide), fun z => absurd z (by decide), fun _ => ⟨by rw [h3, o1 0 (by decide), v0, tnv1], by rw [h3, v1, tnv2]⟩, fun z => absurd z (by decide), fun z => absurd z (by decide), fun z => absurd z (by decide)⟩
          · rw [if_neg e59] at h1 h4
            have eb : tbd c p = some (p + 1 + 3) := by
              rw [el]
              unfold tbs
              rw [td]
              dsimp only
              rw [if_neg e59]
            rw [eb, if_neg (by simp)]
            refine ⟨s2, ?_, h2, h4, fun z => absurd z (by simp)⟩
            refine sg_X11_readsStatement_0 s _ ⟨_, s, hh, fun σ4 e4 => ?_⟩
            rw [hm.2.2, nI_1] at e4
            subst e4
            exact (⟨fun z => absurd z (show ¬ (nI 116 = nI 98) by decide), fun _ => ⟨fun z => absurd z (show ¬ (nI 116 = nI 99) by decide), fun _ => ⟨fun z => absurd z (show ¬ (nI 116 = nI 100) by decide), fun _ => ⟨fun z => absurd z (show ¬ (nI 116 = nI 101) by decide), fun _ => ⟨fun z => absurd z (show ¬ (nI 116 = nI 102) by decide), fun _ => ⟨fun z => absurd z (show ¬ (nI 116 = nI 103) by decide), fun _ => ⟨fun z => absurd z (show ¬ (nI 116 = nI 104) by decide), fun _ => ⟨fun z => absurd z (show ¬ (nI 116 = nI 105) by decide), fun _ => ⟨fun z => absurd z (show ¬ (nI 116 = nI 106) by decide), fun _ => ⟨fun z => absurd z (show ¬ (nI 116 = nI 107) by decide), fun _ => ⟨fun z => absurd z (show ¬ (nI 116 = nI 108) by decide), fun _ => ⟨fun z => absurd z (show ¬ (nI 116 = nI 109) by decide), fun _ => ⟨fun z => absurd z (show ¬ (nI 116 = nI 110) by decide), fun _ => ⟨fun z => absurd z (show ¬ (nI 116 = nI 111) by decide), fun _ => ⟨fun z => absurd z (show ¬ (nI 116 = nI 112) by decide), fun _ => ⟨fun z => absurd z (show ¬ (nI 116 = nI 113) by decide), fun _ => ⟨fun z => absurd z (show ¬ (nI 116 = nI 114) by decide), fun _ => ⟨fun z => absurd z (show ¬ (nI 116 = nI 115) by decide), fun _ => ⟨fun _ => ⟨_, _, g0, g1a ⟨_, _, g1, g1a h1⟩⟩, fun z => absurd rfl z⟩⟩⟩⟩⟩⟩⟩⟩⟩⟩⟩⟩⟩⟩⟩⟩⟩⟩⟩)
        · have td : tds c 3 (p + 1) = some q := by
            rw [show 3 = 1 + 2 by omega, tds_2 d0]
            exact d1
          have eb : tbd c p = some q := by
            rw [el]
            unfold tbs
            rw [td]
          rw [eb, if_neg (by simp)]
          refine ⟨b, ?_, t1, m1, fun z => absurd z (by simp)⟩
          refine sg_X11_readsStatement_0 s _ ⟨_, s, hh, fun σ4 e4 => ?_⟩
          rw [hm.2.2, nI_1] at e4
          subst e4
          exact (⟨fun z => absurd z (show ¬ (nI 116 = nI 98) by decide), fun _ => ⟨fun z => absurd z (show ¬ (nI 116 = nI 99) by decide), fun _ => ⟨fun z => absurd z (show ¬ (nI 116 = nI 100) by decide), fun _ => ⟨fun z => absurd z (show ¬ (nI 116 = nI 101) by decide), fun _ => ⟨fun z => absurd z (show ¬ (nI 116 = nI 102) by decide), fun _ => ⟨fun z => absurd z (show ¬ (nI 116 = nI 103) by decide), fun _ => ⟨fun z => absurd z (show ¬ (nI 116 = nI 104) by decide), fun _ => ⟨fun z => absurd z (show ¬ (nI 116 = nI 105) by decide), fun _ => ⟨fun z => absurd z (show ¬ (nI 116 = nI 106) by decide), fun _ => ⟨fun z => absurd z (show ¬ (nI 116 = nI 107) by decide), fun _ => ⟨fun z => absurd z (show ¬ (nI 116 = nI 108) by decide), fun _ => ⟨fun z => absurd z (show ¬ (nI 116 = nI 109) by decide), fun _ => ⟨fun z => absurd z (show ¬ (nI 116 = nI 110) by decide), fun _ => ⟨fun z => absurd z (show ¬ (nI 116 = nI 111) by decide), fun _ => ⟨fun z => absurd z (show ¬ (nI 116 = nI 112) by decide), fun _ => ⟨fun z => absurd z (show ¬ (nI 116 = nI 113) by decide), fun _ => ⟨fun z => absurd z (show ¬ (nI 116 = nI 114) by decide), fun _ => ⟨fun z => absurd z (show ¬ (nI 116 = nI 115) by decide), fun _ => ⟨fun _ => ⟨_, _, g0, g1a ⟨_, _, g1, g0a (z264 _ _)⟩⟩, fun z => absurd rfl z⟩⟩⟩⟩⟩⟩⟩⟩⟩⟩⟩⟩⟩⟩⟩⟩⟩⟩⟩)
      · have td : tds c 3 (p + 1) = some q := by
          exact tds_1 (b := 2) d0
        have eb : tbd c p = some q := by
          rw [el]
          unfold tbs
          rw [td]
        rw [eb, if_neg (by simp)]
        refine ⟨b, ?_, t0, m0, fun z => absurd z (by simp)⟩
        refine sg_X11_readsStatement_0 s _ ⟨_, s, hh, fun σ4 e4 => ?_⟩
        rw [hm.2.2, nI_1] at e4
        subst e4
        exact (⟨fun z => absurd z (show ¬ (nI 116 = nI 98) by decide), fun _ => ⟨fun z => absurd z (show ¬ (nI 116 = nI 99) by decide), fun _ => ⟨fun z => absurd z (show ¬ (nI 116 = nI 100) by decide), fun _ => ⟨fun z => absurd z (show ¬ (nI 116 = nI 101) by decide), fun _ => ⟨fun z => absurd z (show ¬ (nI 116 = nI 102) by decide), fun _ => ⟨fun z => absurd z (show ¬ (nI 116 = nI 103) by decide), fun _ => ⟨fun z => absurd z (show ¬ (nI 116 = nI 104) by decide), fun _ => ⟨fun z => absurd z (show ¬ (nI 116 = nI 105) by decide), fun _ => ⟨fun z => absurd z (show ¬ (nI 116 = nI 106) by decide), fun _ => ⟨fun z => absurd z (show ¬ (nI 116 = nI 107) by decide), fun _ => ⟨fun z => absurd z (show ¬ (nI 116 = nI 108) by decide), fun _ => ⟨fun z => absurd z (show ¬ (nI 116 = nI 109) by decide), fun _ => ⟨fun z => absurd z (show ¬ (nI 116 = nI 110) by decide), fun _ => ⟨fun z => absurd z (show ¬ (nI 116 = nI 111) by decide), fun _ => ⟨fun z => absurd z (show ¬ (nI 116 = nI 112) by decide), fun _ => ⟨fun z => absurd z (show ¬ (nI 116 = nI 113) by decide), fun _ => ⟨fun z => absurd z (show ¬ (nI 116 = nI 114) by decide), fun _ => ⟨fun z => absurd z (show ¬ (nI 116 = nI 115) by decide), fun _ => ⟨fun _ => ⟨_, _, g0, g0a (z264 _ _)⟩, fun z => absurd rfl z⟩⟩⟩⟩⟩⟩⟩⟩⟩⟩⟩⟩⟩⟩⟩⟩⟩⟩⟩)
    · rw [ec] at ehv
      subst ehv
      have el : tbd c p = tbs c 2 (p + 1) := by
        unfold tbd
        rw [ec, if_neg (by decide)]
        rfl
      have en : tdg (c p) = 2 := by rw [ec]; rfl
      rcases mW_num hro hd c hc (ix := 0) (L := 1) (p := p + 1) (by decide) (by decide) (by omega) tt0 mm0 with ⟨a1, g0, t0, o0, d0, m0, l0, v0⟩ | ⟨b, q, g0, t0, d0, m0, l0, l0'⟩
      · have tt1 := t0
        have mm1 := m0
        rcases mW_num hro hd c hc (ix := 1) (L := 1) (p := p + 1 + 1) (by decide) (by decide) (by omega) tt1 mm1 with ⟨a2, g1, t1, o1, d1, m1, l1, v1⟩ | ⟨b, q, g1, t1, d1, m1, l1, l1'⟩
        · obtain ⟨s2, h1, h2, h3, h4⟩ := mW_semi hro hd c hc (p := p + 1 + 1 + 1) (by omega) t1 m1 (nI 119)
          have td : tds c 2 (p + 1) = none := by
            rw [show 2 = 1 + 1 by omega, tds_2 d0]
            exact d1
          have ep : p + 1 + 1 + 1 = p + 1 + 2 := by omega
          rw [ep] at h1 h4
          by_cases e59 : c (p + 1 + 2) = 59
          · rw [if_pos e59] at h1 h4
            have eb : tbd c p = none := by
              rw [el]
              unfold tbs
              rw [td]
              dsimp only
              rw [if_pos e59]
            rw [eb, if_pos rfl]
            refine ⟨s2, ?_, h2, ?_, fun _ => ?_⟩
            · refine sg_X11_readsStatement_0 s _ ⟨_, s, hh, fun σ4 e4 => ?_⟩
              rw [hm.2.2, nI_1] at e4
              subst e4
              exact (⟨fun z => absurd z (show ¬ (nI 119 = nI 98) by decide), fun _ => ⟨fun z => absurd z (show ¬ (nI 119 = nI 99) by decide), fun _ => ⟨fun z => absurd z (show ¬ (nI 119 = nI 100) by decide), fun _ => ⟨fun z => absurd z (show ¬ (nI 119 = nI 101) by decide), fun _ => ⟨fun z => absurd z (show ¬ (nI 119 = nI 102) by decide), fun _ => ⟨fun z => absurd z (show ¬ (nI 119 = nI 103) by decide), fun _ => ⟨fun z => absurd z (show ¬ (nI 119 = nI 104) by decide), fun _ => ⟨fun z => absurd z (show ¬ (nI 119 = nI 105) by decide), fun _ => ⟨fun z => absurd z (show ¬ (nI 119 = nI 106) by decide), fun _ => ⟨fun z => absurd z (show ¬ (nI 119 = nI 107) by decide), fun _ => ⟨fun z => absurd z (show ¬ (nI 119 = nI 108) by decide), fun _ => ⟨fun z => absurd z (show ¬ (nI 119 = nI 109) by decide), fun _ => ⟨fun z => absurd z (show ¬ (nI 119 = nI 110) by decide), fun _ => ⟨fun z => absurd z (show ¬ (nI 119 = nI 111) by decide), fun _ => ⟨fun z => absurd z (show ¬ (nI 119 = nI 112) by decide), fun _ => ⟨fun z => absurd z (show ¬ (nI 119 = nI 113) by decide), fun _ => ⟨fun z => absurd z (show ¬ (nI 119 = nI 114) by decide), fun _ => ⟨fun z => absurd z (show ¬ (nI 119 = nI 115) by decide), fun _ => ⟨fun z => absurd z (show ¬ (nI 119 = nI 116) by decide), fun _ => ⟨fun z => absurd z (show ¬ (nI 119 = nI 117) by decide), fun _ => ⟨fun z => absurd z (show ¬ (nI 119 = nI 118) by decide), fun _ => ⟨fun _ => ⟨_, _, g0, g1a ⟨_, _, g1, g1a h1⟩⟩, fun z => absurd rfl z⟩⟩⟩⟩⟩⟩⟩⟩⟩⟩⟩⟩⟩⟩⟩⟩⟩⟩⟩⟩⟩⟩)
            · dsimp only
              rw [en, show p + 2 + 2 = p + 1 + 2 + 1 by omega]
              exact h4
            · unfold tnum
              rw [ec]
              exact ⟨fun z => absurd z (by decide), fun _ => ⟨by rw [h3, o1 0 (by decide), v0, tnv1], by rw [h3, v1, tnv1]⟩, fun z => absurd z (by decide), fun z => absurd z (by decide), fun z => absurd z (by decide), fun z => absurd z (by decide)⟩
          · rw [if_neg e59] at h1 h4
            have eb : tbd c p = some (p + 1 + 2) := by
              rw [el]
              unfold tbs
              rw [td]
              dsimp only
              rw [if_neg e59]
            rw [eb, if_neg (by simp)]
            refine ⟨s2, ?_, h2, h4, fun z => absurd z (by simp)⟩
            refine sg_X11_readsStatement_0 s _ ⟨_, s, hh, fun σ4 e4 => ?_⟩
            rw [hm.2.2, nI_1] at e4
            subst e4
            exact (⟨fun z => absurd z (show ¬ (nI 119 = nI 98) by decide), fun _ => ⟨fun z => absurd z (show ¬ (nI 119 = nI 99) by decide), fun _ => ⟨fun z => absurd z (show ¬ (nI 119 = nI 100) by decide), fun _ => ⟨fun z => absurd z (show ¬ (nI 119 = nI 101) by decide), fun _ => ⟨fun z => absurd z (show ¬ (nI 119 = nI 102) by decide), fun _ => ⟨fun z => absurd z (show ¬ (nI 119 = nI 103) by decide), fun _ => ⟨fun z => absurd z (show ¬ (nI 119 = nI 104) by decide), fun _ => ⟨fun z => absurd z (show ¬ (nI 119 = nI 105) by decide), fun _ => ⟨fun z => absurd z (show ¬ (nI 119 = nI 106) by decide), fun _ => ⟨fun z => absurd z (show ¬ (nI 119 = nI 107) by decide), fun _ => ⟨fun z => absurd z (show ¬ (nI 119 = nI 108) by decide), fun _ => ⟨fun z => absurd z (show ¬ (nI 119 = nI 109) by decide), fun _ => ⟨fun z => absurd z (show ¬ (nI 119 = nI 110) by decide), fun _ => ⟨fun z => absurd z (show ¬ (nI 119 = nI 111) by decide), fun _ => ⟨fun z => absurd z (show ¬ (nI 119 = nI 112) by decide), fun _ => ⟨fun z => absurd z (show ¬ (nI 119 = nI 113) by decide), fun _ => ⟨fun z => absurd z (show ¬ (nI 119 = nI 114) by decide), fun _ => ⟨fun z => absurd z (show ¬ (nI 119 = nI 115) by decide), fun _ => ⟨fun z => absurd z (show ¬ (nI 119 = nI 116) by decide), fun _ => ⟨fun z => absurd z (show ¬ (nI 119 = nI 117) by decide), fun _ => ⟨fun z => absurd z (show ¬ (nI 119 = nI 118) by decide), fun _ => ⟨fun _ => ⟨_, _, g0, g1a ⟨_, _, g1, g1a h1⟩⟩, fun z => absurd rfl z⟩⟩⟩⟩⟩⟩⟩⟩⟩⟩⟩⟩⟩⟩⟩⟩⟩⟩⟩⟩⟩⟩)
        · have td : tds c 2 (p + 1) = some q := by
            rw [show 2 = 1 + 1 by omega, tds_2 d0]
            exact d1
          have eb : tbd c p = some q := by
            rw [el]
            unfold tbs
            rw [td]
          rw [eb, if_neg (by simp)]
          refine ⟨b, ?_, t1, m1, fun z => absurd z (by simp)⟩
          refine sg_X11_readsStatement_0 s _ ⟨_, s, hh, fun σ4 e4 => ?_⟩
          rw [hm.2.2, nI_1] at e4
          subst e4
          exact (⟨fun z => absurd z (show ¬ (nI 119 = nI 98) by decide), fun _ => ⟨fun z => absurd z (show ¬ (nI 119 = nI 99) by decide), fun _ => ⟨fun z => absurd z (show ¬ (nI 119 = nI 100) by decide), fun _ => ⟨fun z => absurd z (show ¬ (nI 119 = nI 101) by decide), fun _ => ⟨fun z => absurd z (show ¬ (nI 119 = nI 102) by decide), fun _ => ⟨fun z => absurd z (show ¬ (nI 119 = nI 103) by decide), fun _ => ⟨fun z => absurd z (show ¬ (nI 119 = nI 104) by decide), fun _ => ⟨fun z => absurd z (show ¬ (nI 119 = nI 105) by decide), fun _ => ⟨fun z => absurd z (show ¬ (nI 119 = nI 106) by decide), fun _ => ⟨fun z => absurd z (show ¬ (nI 119 = nI 107) by decide), fun _ => ⟨fun z => absurd z (show ¬ (nI 119 = nI 108) by decide), fun _ => ⟨fun z => absurd z (show ¬ (nI 119 = nI 109) by decide), fun _ => ⟨fun z => absurd z (show ¬ (nI 119 = nI 110) by decide), fun _ => ⟨fun z => absurd z (show ¬ (nI 119 = nI 111) by decide), fun _ => ⟨fun z => absurd z (show ¬ (nI 119 = nI 112) by decide), fun _ => ⟨fun z => absurd z (show ¬ (nI 119 = nI 113) by decide), fun _ => ⟨fun z => absurd z (show ¬ (nI 119 = nI 114) by decide), fun _ => ⟨fun z => absurd z (show ¬ (nI 119 = nI 115) by decide), fun _ => ⟨fun z => absurd z (show ¬ (nI 119 = nI 116) by decide), fun _ => ⟨fun z => absurd z (show ¬ (nI 119 = nI 117) by decide), fun _ => ⟨fun z => absurd z (show ¬ (nI 119 = nI 118) by decide), fun _ => ⟨fun _ => ⟨_, _, g0, g1a ⟨_, _, g1, g0a (z264 _ _)⟩⟩, fun z => absurd rfl z⟩⟩⟩⟩⟩⟩⟩⟩⟩⟩⟩⟩⟩⟩⟩⟩⟩⟩⟩⟩⟩⟩)
      · have td : tds c 2 (p + 1) = some q := by
          exact tds_1 (b := 1) d0
        have eb : tbd c p = some q := by
          rw [el]
          unfold tbs
          rw [td]
        rw [eb, if_neg (by simp)]
        refine ⟨b, ?_, t0, m0, fun z => absurd z (by simp)⟩
        refine sg_X11_readsStatement_0 s _ ⟨_, s, hh, fun σ4 e4 => ?_⟩
        rw [hm.2.2, nI_1] at e4
        subst e4
        exact (⟨fun z => absurd z (show ¬ (nI 119 = nI 98) by decide), fun _ => ⟨fun z => absurd z (show ¬ (nI 119 = nI 99) by decide), fun _ => ⟨fun z => absurd z (show ¬ (nI 119 = nI 100) by decide), fun _ => ⟨fun z => absurd z (show ¬ (nI 119 = nI 101) by decide), fun _ => ⟨fun z => absurd z (show ¬ (nI 119 = nI 102) by decide), fun _ => ⟨fun z => absurd z (show ¬ (nI 119 = nI 103) by decide), fun _ => ⟨fun z => absurd z (show ¬ (nI 119 = nI 104) by decide), fun _ => ⟨fun z => absurd z (show ¬ (nI 119 = nI 105) by decide), fun _ => ⟨fun z => absurd z (show ¬ (nI 119 = nI 106) by decide), fun _ => ⟨fun z => absurd z (show ¬ (nI 119 = nI 107) by decide), fun _ => ⟨fun z => absurd z (show ¬ (nI 119 = nI 108) by decide), fun _ => ⟨fun z => absurd z (show ¬ (nI 119 = nI 109) by decide), fun _ => ⟨fun z => absurd z (show ¬ (nI 119 = nI 110) by decide), fun _ => ⟨fun z => absurd z (show ¬ (nI 119 = nI 111) by decide), fun _ => ⟨fun z => absurd z (show ¬ (nI 119 = nI 112) by decide), fun _ => ⟨fun z => absurd z (show ¬ (nI 119 = nI 113) by decide), fun _ => ⟨fun z => absurd z (show ¬ (nI 119 = nI 114) by decide), fun _ => ⟨fun z => absurd z (show ¬ (nI 119 = nI 115) by decide), fun _ => ⟨fun z => absurd z (show ¬ (nI 119 = nI 116) by decide), fun _ => ⟨fun z => absurd z (show ¬ (nI 119 = nI 117) by decide), fun _ => ⟨fun z => absurd z (show ¬ (nI 119 = nI 118) by decide), fun _ => ⟨fun _ => ⟨_, _, g0, g0a (z264 _ _)⟩, fun z => absurd rfl z⟩⟩⟩⟩⟩⟩⟩⟩⟩⟩⟩⟩⟩⟩⟩⟩⟩⟩⟩⟩⟩⟩)
    · rw [ec] at ehv
      subst ehv
      have el : tbd c p = tbs c 1 (p + 1) := by
        unfold tbd
        rw [ec, if_neg (by decide)]
        rfl
      have en : tdg (c p) = 1 := by rw [ec]; rfl
      rcases mW_num hro hd c hc (ix := 0) (L := 1) (p := p + 1) (by decide) (by decide) (by omega) tt0 mm0 with ⟨a1, g0, t0, o0, d0, m0, l0, v0⟩ | ⟨b, q, g0, t0, d0, m0, l0, l0'⟩
      · obtain ⟨s2, h1, h2, h3, h4⟩ := mW_semi hro hd c hc (p := p + 1 + 1) (by omega) t0 m0 (nI 122)
        have td : tds c 1 (p + 1) = none := by
          exact d0
        have ep : p + 1 + 1 = p + 1 + 1 := by omega
        rw [ep] at h1 h4
        by_cases e59 : c (p + 1 + 1) = 59
        · rw [if_pos e59] at h1 h4
          have eb : tbd c p = none := by
            rw [el]
            unfold tbs
            rw [td]
            dsimp only
            rw [if_pos e59]
          rw [eb, if_pos rfl]
          refine ⟨s2, ?_, h2, ?_, fun _ => ?_⟩
          · refine sg_X11_readsStatement_0 s _ ⟨_, s, hh, fun σ4 e4 => ?_⟩
            rw [hm.2.2, nI_1] at e4
            subst e4
            exact (⟨fun z => absurd z (show ¬ (nI 122 = nI 98) by decide), fun _ => ⟨fun z => absurd z (show ¬ (nI 122 = nI 99) by decide), fun _ => ⟨fun z => absurd z (show ¬ (nI 122 = nI 100) by decide), fun _ => ⟨fun z => absurd z (show ¬ (nI 122 = nI 101) by decide), fun _ => ⟨fun z => absurd z (show ¬ (nI 122 = nI 102) by decide), fun _ => ⟨fun z => absurd z (show ¬ (nI 122 = nI 103) by decide), fun _ => ⟨fun z => absurd z (show ¬ (nI 122 = nI 104) by decide), fun _ => ⟨fun z => absurd z (show ¬ (nI 122 = nI 105) by decide), fun _ => ⟨fun z => absurd z (show ¬ (nI 122 = nI 106) by decide), fun _ => ⟨fun z => absurd z (show ¬ (nI 122 = nI 107) by decide), fun _ => ⟨fun z => absurd z (show ¬ (nI 122 = nI 108) by decide), fun _ => ⟨fun z => absurd z (show ¬ (nI 122 = nI 109) by decide), fun _ => ⟨fun z => absurd z (show ¬ (nI 122 = nI 110) by decide), fun _ => ⟨fun z => absurd z (show ¬ (nI 122 = nI 111) by decide), fun _ => ⟨fun z => absurd z (show ¬ (nI 122 = nI 112) by decide), fun _ => ⟨fun z => absurd z (show ¬ (nI 122 = nI 113) by decide), fun _ => ⟨fun z => absurd z (show ¬ (nI 122 = nI 114) by decide), fun _ => ⟨fun z => absurd z (show ¬ (nI 122 = nI 115) by decide), fun _ => ⟨fun z => absurd z (show ¬ (nI 122 = nI 116) by decide), fun _ => ⟨fun z => absurd z (show ¬ (nI 122 = nI 117) by decide), fun _ => ⟨fun z => absurd z (show ¬ (nI 122 = nI 118) by decide), fun _ => ⟨fun z => absurd z (show ¬ (nI 122 = nI 119) by decide), fun _ => ⟨fun z => absurd z (show ¬ (nI 122 = nI 120) by decide), fun _ => ⟨fun z => absurd z (show ¬ (nI 122 = nI 121) by decide), fun _ => ⟨fun _ => ⟨_, _, g0, h1⟩, fun z => absurd rfl z⟩⟩⟩⟩⟩⟩⟩⟩⟩⟩⟩⟩⟩⟩⟩⟩⟩⟩⟩⟩⟩⟩⟩⟩⟩)
          · dsimp only
            rw [en, show p + 1 + 2 = p + 1 + 1 + 1 by omega]
            exact h4
          · unfold tnum
            rw [ec]
            exact ⟨fun z => absurd z (by decide), fun z => absurd z (by decide), fun z => absurd z (by decide), fun _ => by rw [h3, v0, tnv1], fun z => absurd z (by decide), fun z => absurd z (by decide)⟩
        · rw [if_neg e59] at h1 h4
          have eb : tbd c p = some (p + 1 + 1) := by
            rw [el]
            unfold tbs
            rw [td]
            dsimp only
            rw [if_neg e59]
          rw [eb, if_neg (by simp)]
          refine ⟨s2, ?_, h2, h4, fun z => absurd z (by simp)⟩
          refine sg_X11_readsStatement_0 s _ ⟨_, s, hh, fun σ4 e4 => ?_⟩
          rw [hm.2.2, nI_1] at e4
          subst e4
          exact (⟨fun z => absurd z (show ¬ (nI 122 = nI 98) by decide), fun _ => ⟨fun z => absurd z (show ¬ (nI 122 = nI 99) by decide), fun _ => ⟨fun z => absurd z (show ¬ (nI 122 = nI 100) by decide), fun _ => ⟨fun z => absurd z (show ¬ (nI 122 = nI 101) by decide), fun _ => ⟨fun z => absurd z (show ¬ (nI 122 = nI 102) by decide), fun _ => ⟨fun z => absurd z (show ¬ (nI 122 = nI 103) by decide), fun _ => ⟨fun z => absurd z (show ¬ (nI 122 = nI 104) by decide), fun _ => ⟨fun z => absurd z (show ¬ (nI 122 = nI 105) by decide), fun _ => ⟨fun z => absurd z (show ¬ (nI 122 = nI 106) by decide), fun _ => ⟨fun z => absurd z (show ¬ (nI 122 = nI 107) by decide), fun _ => ⟨fun z => absurd z (show ¬ (nI 122 = nI 108) by decide), fun _ => ⟨fun z => absurd z (show ¬ (nI 122 = nI 109) by decide), fun _ => ⟨fun z => absurd z (show ¬ (nI 122 = nI 110) by decide), fun _ => ⟨fun z => absurd z (show ¬ (nI 122 = nI 111) by decide), fun _ => ⟨fun z => absurd z (show ¬ (nI 122 = nI 112) by decide), fun _ => ⟨fun z => absurd z (show ¬ (nI 122 = nI 113) by decide), fun _ => ⟨fun z => absurd z (show ¬ (nI 122 = nI 114) by decide), fun _ => ⟨fun z => absurd z (show ¬ (nI 122 = nI 115) by decide), fun _ => ⟨fun z => absurd z (show ¬ (nI 122 = nI 116) by decide), fun _ => ⟨fun z => absurd z (show ¬ (nI 122 = nI 117) by decide), fun _ => ⟨fun z => absurd z (show ¬ (nI 122 = nI 118) by decide), fun _ => ⟨fun z => absurd z (show ¬ (nI 122 = nI 119) by decide), fun _ => ⟨fun z => absurd z (show ¬ (nI 122 = nI 120) by decide), fun _ => ⟨fun z => absurd z (show ¬ (nI 122 = nI 121) by decide), fun _ => ⟨fun _ => ⟨_, _, g0, h1⟩, fun z => absurd rfl z⟩⟩⟩⟩⟩⟩⟩⟩⟩⟩⟩⟩⟩⟩⟩⟩⟩⟩⟩⟩⟩⟩⟩⟩⟩)
      · have td : tds c 1 (p + 1) = some q := by
          exact d0
        have eb : tbd c p = some q := by
          rw [el]
          unfold tbs
          rw [td]
        rw [eb, if_neg (by simp)]
        refine ⟨b, ?_, t0, m0, fun z => absurd z (by simp)⟩
        refine sg_X11_readsStatement_0 s _ ⟨_, s, hh, fun σ4 e4 => ?_⟩
        rw [hm.2.2, nI_1] at e4
        subst e4
        exact (⟨fun z => absurd z (show ¬ (nI 122 = nI 98) by decide), fun _ => ⟨fun z => absurd z (show ¬ (nI 122 = nI 99) by decide), fun _ => ⟨fun z => absurd z (show ¬ (nI 122 = nI 100) by decide), fun _ => ⟨fun z => absurd z (show ¬ (nI 122 = nI 101) by decide), fun _ => ⟨fun z => absurd z (show ¬ (nI 122 = nI 102) by decide), fun _ => ⟨fun z => absurd z (show ¬ (nI 122 = nI 103) by decide), fun _ => ⟨fun z => absurd z (show ¬ (nI 122 = nI 104) by decide), fun _ => ⟨fun z => absurd z (show ¬ (nI 122 = nI 105) by decide), fun _ => ⟨fun z => absurd z (show ¬ (nI 122 = nI 106) by decide), fun _ => ⟨fun z => absurd z (show ¬ (nI 122 = nI 107) by decide), fun _ => ⟨fun z => absurd z (show ¬ (nI 122 = nI 108) by decide), fun _ => ⟨fun z => absurd z (show ¬ (nI 122 = nI 109) by decide), fun _ => ⟨fun z => absurd z (show ¬ (nI 122 = nI 110) by decide), fun _ => ⟨fun z => absurd z (show ¬ (nI 122 = nI 111) by decide), fun _ => ⟨fun z => absurd z (show ¬ (nI 122 = nI 112) by decide), fun _ => ⟨fun z => absurd z (show ¬ (nI 122 = nI 113) by decide), fun _ => ⟨fun z => absurd z (show ¬ (nI 122 = nI 114) by decide), fun _ => ⟨fun z => absurd z (show ¬ (nI 122 = nI 115) by decide), fun _ => ⟨fun z => absurd z (show ¬ (nI 122 = nI 116) by decide), fun _ => ⟨fun z => absurd z (show ¬ (nI 122 = nI 117) by decide), fun _ => ⟨fun z => absurd z (show ¬ (nI 122 = nI 118) by decide), fun _ => ⟨fun z => absurd z (show ¬ (nI 122 = nI 119) by decide), fun _ => ⟨fun z => absurd z (show ¬ (nI 122 = nI 120) by decide), fun _ => ⟨fun z => absurd z (show ¬ (nI 122 = nI 121) by decide), fun _ => ⟨fun _ => ⟨_, _, g0, z264 _ _⟩, fun z => absurd rfl z⟩⟩⟩⟩⟩⟩⟩⟩⟩⟩⟩⟩⟩⟩⟩⟩⟩⟩⟩⟩⟩⟩⟩⟩⟩)
