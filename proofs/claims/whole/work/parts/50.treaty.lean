/-! the face: treaty -/
def tsc (c : Nat → Nat) (n : Nat) : Nat → Nat → Option Nat
  | 0, _ => none
  | k + 1, p => match tbd c p with
    | some z => some z
    | none => if p + tdg (c p) + 2 < n then tsc c n k (p + tdg (c p) + 2) else none
def tct (c : Nat → Nat) (n : Nat) : Nat → Nat → Nat
  | 0, _ => 0
  | k + 1, p => if p + tdg (c p) + 2 < n then tct c n k (p + tdg (c p) + 2) + 1 else 1
def tdo (c : Nat → Nat) (n : Nat) : Nat → Nat → (Nat → Nat) → Nat ⊕ (Nat → Nat)
  | 0, _, T => .inr T
  | k + 1, p, T => match n_stm T (c p) (c (p + 1) - 48) (c (p + 2) - 48) (c (p + 3) - 48) with
    | none => .inl p
    | some T' => if p + tdg (c p) + 2 < n then tdo c n k (p + tdg (c p) + 2) T' else .inr T'
theorem tdg_z {b : Nat} (h : tdi b ∨ b = 59) : tdg b = 0 := by
  have h1 : b < 98 := by
    rcases h with h | h
    · have := h.2; omega
    · omega
  unfold tdg
  rw [if_neg (by omega), if_neg (by omega), if_neg (by omega)]
theorem tdg_c {x : Nat} (h : 0 < tdg x) : x = 98 ∨ x = 100 ∨ x = 107 ∨ x = 111 ∨ x = 116 ∨ x = 119 ∨ x = 122 := by
  unfold tdg at h
  (repeat' split at h) <;> omega
theorem tsc_le {c : Nat → Nat} {n : Nat} (hc : ∀ i, n ≤ i → c i = 256) : ∀ k p z, p ≤ n → tsc c n k p = some z → z ≤ n
  | 0, p, z, _, h => absurd h (by simp [tsc])
  | k + 1, p, z, hp, h => by
    cases e : tbd c p with
    | some y =>
      simp only [tsc, e, Option.some.injEq] at h
      subst h
      exact ((tbd_p hc hp).2 _ e).2
    | none =>
      simp only [tsc, e] at h
      by_cases l : p + tdg (c p) + 2 < n
      · rw [if_pos l] at h
        exact tsc_le hc k _ z (by omega) h
      · rw [if_neg l] at h
        exact absurd h (by simp)
theorem n_stm_good2 {T T' : Nat → Nat} {x a b e : Nat} (h : n_good T) (hx : 0 < tdg x) (ha : 1 ≤ tdg x → a < 10) (hb : 2 ≤ tdg x → b < 10) (he : 3 ≤ tdg x → e < 10) (hs : n_stm T x a b e = some T') : n_good T' := by
  rcases tdg_c hx with rfl | rfl | rfl | rfl | rfl | rfl | rfl
  · exact n_stm_good h (ha (by decide)) (hb (by decide)) (he (by decide)) hs
  · exact n_stm_good h (ha (by decide)) (hb (by decide)) (show 0 < 10 by decide) (show n_stm T 100 a b 0 = some T' from hs)
  · exact n_stm_good h (ha (by decide)) (hb (by decide)) (he (by decide)) hs
  · exact n_stm_good h (ha (by decide)) (hb (by decide)) (he (by decide)) hs
  · exact n_stm_good h (ha (by decide)) (hb (by decide)) (he (by decide)) hs
  · exact n_stm_good h (ha (by decide)) (hb (by decide)) (show 0 < 10 by decide) (show n_stm T 119 a b 0 = some T' from hs)
  · exact n_stm_good h (ha (by decide)) (show 0 < 10 by decide) (show 0 < 10 by decide) (show n_stm T 122 a 0 0 = some T' from hs)
/-- the class looks for the first bad byte -/
theorem xW_sc {σ : mm_Sg} {d n : Nat} (h : rowOf σ d 0 n) (hd : d < 8) (c : Nat → Nat) (hc : c = txc σ d n) : ∀ (k p : Nat) (d4 : Value), p < n → n < p + k →
    mm_Go mm_m_X10_firstBadByte (6, [.ref (32 + 2 * d), .int 1, .int (nI 0), .int (nI p), d4], [], σ) (some (.int (match tsc c n k p with | some z => nI z | none => -1)), σ)
  | 0, p, d4, hp, hk => absurd hk (by omega)
  | k + 1, p, d4, hp, hk => by
    have h4 := h.2.2.2.1
    have hsz := h.2.2.2.2.2.2.1
    have st := xW_stm h hd c hc hp d4
    have bp := tbd_p (c := c) (n := n) (fun i hi => by rw [hc]; exact txc_end σ d n i (by omega)) (show p ≤ n by omega)
    cases e : tbd c p with
    | some z =>
      simp only [tsc, e]
      exact st.1 z e
    | none =>
      obtain ⟨-, b2, -⟩ := bp.1 e
      simp only [tsc, e]
      refine st.2 e _ (fun d' => ?_)
      by_cases l : p + tdg (c p) + 2 < n
      · rw [if_pos l]
        exact xW_sc h hd c hc k _ d' l (by omega)
      · rw [if_neg l]
        exact sg_X10_firstBadByte_6 σ _ _ _ _ d' _ ⟨(cl_sh d hd).1, fun _ => ⟨fun z => absurd z (show ¬ (1 : Int32) = 0 by decide), fun _ => ⟨fun z => absurd (by rw [hsz] at z; exact z) (nI_nle (by omega) (by omega)), fun _ => rfl⟩⟩, fun z => absurd (by rw [hsz]; exact nI_le (by omega) (by omega)) z⟩
theorem xW_bad {σ : mm_Sg} {d n : Nat} (h : rowOf σ d 0 n) (hd : d < 8) (c : Nat → Nat) (hc : c = txc σ d n) : mm_Ev mm_m_X10_firstBadByte [.ref (32 + 2 * d)] σ (some (.int (match tsc c n 101 0 with | some z => nI z | none => -1))) σ := by
  have h4 := h.2.2.2.1
  have hsz := h.2.2.2.2.2.2.1
  refine sg_X10_firstBadByte_0 σ _ _ ?_
  rcases Nat.eq_zero_or_pos n with h0 | h0
  · have e : tbd c 0 = some 0 := by
      have : c 0 = 256 := by rw [hc]; exact txc_end σ d n 0 (by omega)
      unfold tbd
      rw [this]
      rfl
    have e2 : tsc c n 101 0 = some 0 := by
      rw [tsc, e]
    rw [e2]
    have e3 : σ (32 + 2 * d) 4 = 0 := by rw [hsz, h0]; rfl
    refine sg_X10_firstBadByte_6 σ _ _ _ _ _ _ ⟨(cl_sh d hd).1, fun _ => ⟨fun z => absurd z (show ¬ (1 : Int32) = 0 by decide), fun _ => ⟨fun _ => by rw [e3]; rfl, fun z => absurd (by rw [e3]; decide) z⟩⟩, fun z => absurd (by rw [e3]; decide) z⟩
  · exact xW_sc h hd c hc 101 0 _ h0 (by omega)
/-- bytes that are no letters are passed over -/
theorem xW_skip {s : mm_Sg} {d n : Nat} (h : rowOf s d 0 n) (hd : d < 8) (c : Nat → Nat) (hc : c = txc s d n) (x1 x2 x4 x5 : Int32) (X : Option Value × mm_Sg) : ∀ j i, i + j ≤ n → (∀ u, u < j → tdg (c (i + u)) = 0) →
    mm_Go mm_m_X10_treaty (65, [.ref 0, .int x1, .int x2, .ref (32 + 2 * d), .int x4, .int x5, .int (nI (i + j))], [], s) X →
    mm_Go mm_m_X10_treaty (65, [.ref 0, .int x1, .int x2, .ref (32 + 2 * d), .int x4, .int x5, .int (nI i)], [], s) X
  | 0, i, _, _, g => g
  | j + 1, i, hi, hu, g => by
    have h4 := h.2.2.2.1
    have hsz := h.2.2.2.2.2.2.1
    have l : i < n := by omega
    have r := tx_r h l
    have ec : c i = tch (s 64 (100 * d + i)) := by rw [hc]; unfold txc; rw [if_pos l]
    have g2 := xW_skip h hd c hc x1 x2 x4 x5 X j (i + 1) (by omega) (fun u q => by rw [show i + 1 + u = i + (u + 1) by omega]; exact hu (u + 1) (by omega)) (by rw [show i + 1 + j = i + (j + 1) by omega]; exact g)
    refine sg_X10_treaty_65 s _ _ _ _ _ _ _ ⟨(cl_sh d hd).1, fun z => absurd (by rw [hsz] at z; exact z) (nI_ge l (by omega)), fun _ => ⟨_, s, ev_at h hd l, _, s, ev_X10_isLetter s _, ?_⟩⟩
    rw [x_let s r.1 r.2, ← ec, if_pos (by have := hu 0 (by omega); rw [Nat.add_zero] at this; exact this), nI_1]
    exact ⟨fun _ => g2, fun z => absurd rfl z⟩
theorem rowOf.xth {σ σ' : mm_Sg} {d s n : Nat} (h : rowOf σ d s n) (hd : d < 8) (t : xTh σ σ') : rowOf σ' d s n := rowOf_same h (t _ (by omega)) (t _ (by omega)) (fun q _ _ => t q (by omega))
/-- the class does the statements, in mind -/
theorem xW_tr {d n : Nat} (hd : d < 8) (c : Nat → Nat) (x1 x2 x4 : Int32) : ∀ (k p cnt : Nat) (s : mm_Sg) (T : Nat → Nat), p < n → n < p + k → tsc c n k p = none → rowOf s d 0 n → c = txc s d n → xr s 24 T → n_good T →
    (∀ z, tdo c n k p T = .inl z → ∃ s', mm_Go mm_m_X10_treaty (65, [.ref 0, .int x1, .int x2, .ref (32 + 2 * d), .int x4, .int (nI cnt), .int (nI p)], [], s) (some (.int ((-2000 : Int32) - nI z)), s') ∧ xTh s s') ∧
    (∀ T', tdo c n k p T = .inr T' → ∃ s', xTh s s' ∧ xr s' 24 T' ∧ n_good T' ∧ ∀ X, mm_Go mm_m_X10_treaty (65, [.ref 0, .int x1, .int x2, .ref (32 + 2 * d), .int x4, .int (nI (cnt + tct c n k p)), .int (nI n)], [], s') X → mm_Go mm_m_X10_treaty (65, [.ref 0, .int x1, .int x2, .ref (32 + 2 * d), .int x4, .int (nI cnt), .int (nI p)], [], s) X)
  | 0, p, cnt, s, T, hp, hk, _, _, _, _, _ => absurd hk (by omega)
  | k + 1, p, cnt, s, T, hp, hk, hsc, h, hc, hx, gT => by
    have h4 := h.2.2.2.1
    have hsz := h.2.2.2.2.2.2.1
    have r := tx_r h hp
    have hend : ∀ i, n ≤ i → c i = 256 := fun i hi => by rw [hc]; exact txc_end s d n i (by omega)
    have ec : c p = tch (s 64 (100 * d + p)) := by rw [hc]; unfold txc; rw [if_pos hp]
    have e : tbd c p = none := by
      cases e : tbd c p with
      | none => rfl
      | some z =>
        simp only [tsc, e] at hsc
        exact absurd hsc (by simp)
    simp only [tsc, e] at hsc
    obtain ⟨b1, b2, b3, b4⟩ := (tbd_p hend (show p ≤ n by omega)).1 e
    obtain ⟨s1, g1, t1⟩ := xW_obeys hx gT h hd c hc e hp
    have ro1 := h.xth hd t1
    have hc1 : c = txc s1 d n := by rw [hc]; exact (txc_same (t1 64 (by omega))).symm
    have pre : ∀ (v : Int32) (X : Option Value × mm_Sg), mm_Ev mm_m_X1_obeys [.ref 24, .ref (32 + 2 * d), .int (nI p)] s (some (.int v)) s1 → ((¬ v = 0 → mm_Go mm_m_X10_treaty (65, [.ref 0, .int x1, .int x2, .ref (32 + 2 * d), .int x4, .int (nI (cnt + 1)), .int (nI (p + 1))], [], s1) X) ∧ (¬ ¬ v = 0 → X = (some (.int ((-2000 : Int32) - nI p)), s1))) → mm_Go mm_m_X10_treaty (65, [.ref 0, .int x1, .int x2, .ref (32 + 2 * d), .int x4, .int (nI cnt), .int (nI p)], [], s) X := fun v X ho hX => by
      refine sg_X10_treaty_65 s _ _ _ _ _ _ _ ⟨(cl_sh d hd).1, fun z => absurd (by rw [hsz] at z; exact z) (nI_ge hp (by omega)), fun _ => ⟨_, s, ev_at h hd hp, _, s, ev_X10_isLetter s _, ?_⟩⟩
      rw [x_let s r.1 r.2, ← ec, if_neg (by omega)]
      refine ⟨fun z => absurd z (show ¬ (1 : Int32) = 0 by decide), fun _ => ⟨v, s1, ho, ?_⟩⟩
      rw [nI_1, nI_1]
      exact hX
    cases eo : n_stm T (c p) (c (p + 1) - 48) (c (p + 2) - 48) (c (p + 3) - 48) with
    | none =>
      rw [eo] at g1
      dsimp only at g1
      have et : tdo c n (k + 1) p T = .inl p := by simp only [tdo, eo]
      rw [et]
      refine ⟨fun z q => ?_, fun T' q => absurd q (by simp)⟩
      obtain rfl : p = z := by simpa using q
      exact ⟨s1, pre 0 _ g1 ⟨fun z => absurd rfl z, fun _ => rfl⟩, t1⟩
    | some T1 =>
      rw [eo] at g1
      dsimp only at g1
      obtain ⟨g1, x1'⟩ := g1
      have gT1 : n_good T1 := by
        refine n_stm_good2 gT b1 (fun q => ?_) (fun q => ?_) (fun q => ?_) eo
        · have := (b3 0 (by omega)).2
          rw [Nat.add_zero] at this
          omega
        · have := (b3 1 (by omega)).2
          rw [show p + 1 + 1 = p + 2 by omega] at this
          omega
        · have := (b3 2 (by omega)).2
          rw [show p + 1 + 2 = p + 3 by omega] at this
          omega
      have skip : ∀ X, mm_Go mm_m_X10_treaty (65, [.ref 0, .int x1, .int x2, .ref (32 + 2 * d), .int x4, .int (nI (cnt + 1)), .int (nI (p + tdg (c p) + 2))], [], s1) X → mm_Go mm_m_X10_treaty (65, [.ref 0, .int x1, .int x2, .ref (32 + 2 * d), .int x4, .int (nI cnt), .int (nI p)], [], s) X := fun X g => by
        refine pre 1 X g1 ⟨fun _ => xW_skip ro1 hd c hc1 _ _ _ _ X (tdg (c p) + 1) (p + 1) (by omega) (fun u hu => ?_) ?_, fun z => absurd (show ¬ (1 : Int32) = 0 by decide) z⟩
        · rcases Nat.lt_or_ge u (tdg (c p)) with l | l
          · exact tdg_z (Or.inl (b3 u l))
          · rw [show u = tdg (c p) by omega]
            exact tdg_z (Or.inr b4)
        · rw [show p + 1 + (tdg (c p) + 1) = p + tdg (c p) + 2 by omega]
          exact g
      by_cases l : p + tdg (c p) + 2 < n
      · rw [if_pos l] at hsc
        have et : tdo c n (k + 1) p T = tdo c n k (p + tdg (c p) + 2) T1 := by simp only [tdo, eo]; rw [if_pos l]
        have ec2 : tct c n (k + 1) p = tct c n k (p + tdg (c p) + 2) + 1 := by rw [tct, if_pos l]
        have ih := xW_tr hd c x1 x2 x4 k (p + tdg (c p) + 2) (cnt + 1) s1 T1 l (by omega) hsc ro1 hc1 x1' gT1
        rw [et, ec2]
        refine ⟨fun z q => ?_, fun T' q => ?_⟩
        · obtain ⟨s', g', t'⟩ := ih.1 z q
          exact ⟨s', skip _ g', t1.trans t'⟩
        · obtain ⟨s', t', y', gd', g'⟩ := ih.2 T' q
          refine ⟨s', t1.trans t', y', gd', fun X hX => skip _ (g' X ?_)⟩
          rw [show cnt + 1 + tct c n k (p + tdg (c p) + 2) = cnt + (tct c n k (p + tdg (c p) + 2) + 1) by omega]
          exact hX
      · have et : tdo c n (k + 1) p T = .inr T1 := by simp only [tdo, eo]; rw [if_neg l]
        have ec2 : tct c n (k + 1) p = 1 := by rw [tct, if_neg l]
        rw [et, ec2]
        refine ⟨fun z q => absurd q (by simp), fun T' q => ?_⟩
        obtain rfl : T1 = T' := by simpa using q
        refine ⟨s1, t1, x1', gT1, fun X hX => skip _ ?_⟩
        rw [show p + tdg (c p) + 2 = n by omega]
        exact hX
/-- what the Model may change while it reads and does a text -/
def wF (σ s : mm_Sg) : Prop := (∀ q, q ≠ 51 → q ≠ 52 → q ≠ 55 → q ≠ 56 → q ≠ 57 → s q = σ q) ∧ ∀ j, j ≠ 6 → s 51 j = σ 51 j
theorem k_ne0 : ∀ z, z < 101 → ¬ (-1000 : Int32) - nI z = 0 := by decide +kernel
theorem k_ne1 : ∀ z, z < 101 → ¬ (-2000 : Int32) - nI z = 0 := by decide +kernel
theorem mW_rd {σ : mm_Sg} {d n : Nat} (hro : rowOf σ d 0 n) (hd : d < 8) (c : Nat → Nat) (hc : c = txc σ d n) (z52 : z40 σ 52) (z55 : z40 σ 55) (x1 x2 : Int32) : ∀ (k p cnt : Nat) (s : mm_Sg), p ≤ n → n < p + k → rF σ s → mS s d n p →
    (∀ z, tsc c n k p = some z → ∃ s', mm_Go mm_m_X11_treaty (41, [.ref 51, .int x1, .int x2, .int (nI cnt), .int 0, .null, .null, .null], [], s) (some (.int ((-1000 : Int32) - nI z)), s') ∧ s' 52 = σ 52 ∧ s' 55 = σ 52 ∧ wF σ s') ∧
    (tsc c n k p = none → ∃ s', s' 52 = σ 52 ∧ s' 55 = σ 52 ∧ mS s' d n 0 ∧ wF σ s' ∧ ∀ X, mm_Go mm_m_X11_treaty (93, [.ref 51, .int x1, .int x2, .int (nI (cnt + tct c n k p)), .int 0, .null, .null, .null], [], s') X → mm_Go mm_m_X11_treaty (41, [.ref 51, .int x1, .int x2, .int (nI cnt), .int 0, .null, .null, .null], [], s) X)
  | 0, p, cnt, s, hp, hk, _, _ => absurd hk (by omega)
  | k + 1, p, cnt, s, hp, hk, t, hm => by
    have h4 := hro.2.2.2.1
    have hend : ∀ i, n ≤ i → c i = 256 := fun i hi => by rw [hc]; exact txc_end σ d n i (by omega)
    obtain ⟨s1, g1, t1, m1, -⟩ := mW_stm hro hd c hc hp t hm
    have e52 : s1 52 = σ 52 := t1.1 52 (by decide) (by decide)
    have e55 : s1 55 = σ 55 := t1.1 55 (by decide) (by decide)
    obtain ⟨s2, g2, y2, o2⟩ := mW_copies (σ := s1) (a := 52) (b := 55) rfl rfl (by decide) (fun i hi => by rw [e52]; exact z52 i hi) (fun i hi => by rw [e55]; exact z55 i hi)
    have e2 : ∀ q, q ≠ 55 → s2 q = s1 q := o2
    have f52 : s2 52 = σ 52 := by rw [e2 52 (by decide)]; exact e52
    have f55 : s2 55 = σ 52 := y2.trans e52
    have fr : wF σ (mm_u s2 51 6 (0 : Int32)) := ⟨fun q a b cc dd ee => by rw [mm_u_o a, e2 q cc, t1.1 q a ee], fun j a => by rw [mm_u_k a, e2 51 (by decide), t1.2 j a]⟩
    cases e : tbd c p with
    | some z =>
      rw [e] at g1 m1
      dsimp only at m1
      simp only [tsc, e]
      refine ⟨fun z' q => ?_, fun q => absurd q (by simp)⟩
      obtain rfl : z = z' := by simpa using q
      have hz := ((tbd_p hend hp).2 _ e).2
      have ne := k_ne0 z (by omega)
      refine ⟨mm_u s2 51 6 (0 : Int32), ?_, by rw [mm_u_o (by decide)]; exact f52, by rw [mm_u_o (by decide)]; exact f55, fr⟩
      refine sg_X11_treaty_41 s _ _ _ _ _ ⟨_, s1, g1, fun q => absurd (by rw [if_neg (by simp)]) q, fun _ => ?_⟩
      rw [m1.2.2]
      exact sg_X11_treaty_58 s1 _ _ _ _ _ ⟨fun _ => ⟨s2, g2, fun s4 e4 => by rw [e4]; exact sg_X11_treaty_93 _ _ _ _ _ _ _ _ _ ⟨fun _ => ⟨fun _ => rfl, fun q => absurd ne q⟩, fun q => absurd ne q⟩⟩, fun q => absurd ne q⟩
    | none =>
      rw [e] at g1 m1
      dsimp only at m1
      obtain ⟨b1, b2, -, -⟩ := (tbd_p hend hp).1 e
      simp only [tsc, e]
      by_cases l : p + tdg (c p) + 2 < n
      · rw [if_pos l]
        have ec2 : tct c n (k + 1) p = tct c n k (p + tdg (c p) + 2) + 1 := by rw [tct, if_pos l]
        have ih := mW_rd hro hd c hc z52 z55 x1 x2 k (p + tdg (c p) + 2) (cnt + 1) s1 (by omega) (by omega) t1 m1
        have pre : ∀ X, mm_Go mm_m_X11_treaty (41, [.ref 51, .int x1, .int x2, .int (nI (cnt + 1)), .int 0, .null, .null, .null], [], s1) X → mm_Go mm_m_X11_treaty (41, [.ref 51, .int x1, .int x2, .int (nI cnt), .int 0, .null, .null, .null], [], s) X := fun X g => by
          refine sg_X11_treaty_41 s _ _ _ _ _ ⟨_, s1, g1, fun _ => ?_, fun q => absurd (show ¬ (1 : Int32) = 0 by decide) q⟩
          refine sg_X11_treaty_58 s1 _ _ _ _ _ ⟨fun q => absurd rfl q, fun _ => ⟨fun _ => ?_, fun q => absurd (by rw [m1.2.2, m1.2.1]; exact nI_lt l (by omega)) q⟩⟩
          rw [nI_1]
          exact g
        rw [ec2]
        refine ⟨fun z q => ?_, fun q => ?_⟩
        · obtain ⟨s', g', r'⟩ := ih.1 z q
          exact ⟨s', pre _ g', r'⟩
        · obtain ⟨s', a1, a2, a3, a4, g'⟩ := ih.2 q
          refine ⟨s', a1, a2, a3, a4, fun X hX => pre _ (g' X ?_)⟩
          rw [show cnt + 1 + tct c n k (p + tdg (c p) + 2) = cnt + (tct c n k (p + tdg (c p) + 2) + 1) by omega]
          exact hX
      · rw [if_neg l]
        have ec2 : tct c n (k + 1) p = 1 := by rw [tct, if_neg l]
        rw [ec2]
        refine ⟨fun z q => absurd q (by simp), fun _ => ⟨mm_u s2 51 6 (0 : Int32), by rw [mm_u_o (by decide)]; exact f52, by rw [mm_u_o (by decide)]; exact f55, ⟨?_, ?_, ?_⟩, fr, fun X hX => ?_⟩⟩
        · rw [mm_u_k (by decide), e2 51 (by decide)]; exact m1.1
        · rw [mm_u_k (by decide), e2 51 (by decide)]; exact m1.2.1
        · rw [mm_u_kk]; rfl
        · refine sg_X11_treaty_41 s _ _ _ _ _ ⟨_, s1, g1, fun _ => ?_, fun q => absurd (show ¬ (1 : Int32) = 0 by decide) q⟩
          refine sg_X11_treaty_58 s1 _ _ _ _ _ ⟨fun q => absurd rfl q, fun _ => ⟨fun q => absurd (by rw [m1.2.2, m1.2.1] at q; exact q) (nI_nlt (by omega) (by omega)), fun _ => ⟨s2, g2, fun s4 e4 => ?_⟩⟩⟩
          rw [e4, nI_1]
          exact hX
theorem wF.tr {σ s s' : mm_Sg} (h : wF σ s) (h2 : wF s s') : wF σ s' := ⟨fun q a b c d e => by rw [h2.1 q a b c d e, h.1 q a b c d e], fun j a => by rw [h2.2 j a, h.2 j a]⟩
theorem rowOf.wf {σ s : mm_Sg} {d n : Nat} (h : rowOf σ d 0 n) (hd : d < 8) (t : wF σ s) : rowOf s d 0 n := rowOf_same h (t.1 _ (by omega) (by omega) (by omega) (by omega) (by omega)) (t.1 _ (by omega) (by omega) (by omega) (by omega) (by omega)) (fun q _ _ => t.1 q (by omega) (by omega) (by omega) (by omega) (by omega))
theorem z_ra {s : mm_Sg} {q : Nat} {T : Nat → Nat} (h : s q = ra T) (wf : n_wf 999 T) : z40 s q := fun i hi => by rw [h, ra_at, wf.2.2.2.2.2.2.2.2.2 i hi]; rfl
/-- the Model does the statements -/
theorem mW_tr {d n : Nat} (hd : d < 8) (c : Nat → Nat) (R : Nat → Nat) (wR : n_wf 999 R) (x1 x2 x3 : Int32) : ∀ (k p : Nat) (s : mm_Sg) (T : Nat → Nat) (d5 d6 d7 : Value), p < n → n < p + k → tsc c n k p = none → rowOf s d 0 n → c = txc s d n → mS s d n p → s 52 = ra T → n_good T → s 55 = ra R →
    (∀ z, tdo c n k p T = .inl z → ∃ s', mm_Go mm_m_X11_treaty (93, [.ref 51, .int x1, .int x2, .int x3, .int 0, d5, d6, d7], [], s) (some (.int ((-2000 : Int32) - nI z)), s') ∧ s' 52 = ra R ∧ s' 55 = ra R ∧ wF s s') ∧
    (∀ T', tdo c n k p T = .inr T' → ∃ s', mm_Go mm_m_X11_treaty (93, [.ref 51, .int x1, .int x2, .int x3, .int 0, d5, d6, d7], [], s) (some (.int x3), s') ∧ s' 52 = ra T' ∧ s' 55 = ra R ∧ wF s s')
  | 0, p, s, T, _, _, _, hp, hk, _, _, _, _, _, _, _ => absurd hk (by omega)
  | k + 1, p, s, T, d5, d6, d7, hp, hk, hsc, h, hc, hm, h52, gT, h55 => by
    have h4 := h.2.2.2.1
    have hend : ∀ i, n ≤ i → c i = 256 := fun i hi => by rw [hc]; exact txc_end s d n i (by omega)
    have e : tbd c p = none := by
      cases e : tbd c p with
      | none => rfl
      | some z =>
        simp only [tsc, e] at hsc
        exact absurd hsc (by simp)
    simp only [tsc, e] at hsc
    obtain ⟨b1, b2, b3, b4⟩ := (tbd_p hend (show p ≤ n by omega)).1 e
    have gh := m_here h hd hm (show p ≤ n by omega)
    rw [if_pos hp, ← hc] at gh
    obtain ⟨s1, g1, t1, m1, tn⟩ := mW_stm h hd c hc (show p ≤ n by omega) (rF.rf s) hm
    rw [e] at g1 m1
    dsimp only at m1
    have q52 : s1 52 = ra T := by rw [t1.1 52 (by decide) (by decide)]; exact h52
    obtain ⟨s2, g2, o2⟩ := mW_done q52 gT (tn e) hend e hp
    have q55 : s2 55 = ra R := by rw [o2 55 (by decide) (by decide), t1.1 55 (by decide) (by decide)]; exact h55
    have w2 : wF s s2 := ⟨fun q a b _ cc dd => by rw [o2 q b cc, t1.1 q a dd], fun j a => by rw [o2 51 (by decide) (by decide), t1.2 j a]⟩
    have m2 : mS s2 d n (p + tdg (c p) + 2) := by
      unfold mS
      rw [o2 51 (by decide) (by decide)]
      exact m1
    have pre : ∀ (v : Int32) (X : Option Value × mm_Sg), mm_Ev mm_m_X11_isDone [.ref 51, .int (nI (c p))] s1 (some (.int v)) s2 →
        ((v = 0 → ∃ σ15, mm_Ev mm_m_X11_copies [.ref 55, .ref 52] s2 none σ15 ∧ mm_Go mm_m_X11_treaty (93, [.ref 51, .int x1, .int x2, .int x3, .int ((-2000 : Int32) - nI p), .int (nI p), .int (nI (c p)), .int 1], [], σ15) X) ∧ (¬ v = 0 → mm_Go mm_m_X11_treaty (93, [.ref 51, .int x1, .int x2, .int x3, .int 0, .int (nI p), .int (nI (c p)), .int 1], [], s2) X)) → mm_Go mm_m_X11_treaty (93, [.ref 51, .int x1, .int x2, .int x3, .int 0, d5, d6, d7], [], s) X := fun v X ho hX => by
      refine sg_X11_treaty_93 s _ _ _ _ _ _ _ _ ⟨fun q => absurd rfl q, fun _ => ⟨fun q => absurd (by rw [hm.2.2, hm.2.1] at q; exact q) (nI_ge hp (by omega)), fun _ => ⟨_, s, gh, _, s1, g1, v, s2, ho, ?_⟩⟩⟩
      rw [hm.2.2]
      exact hX
    cases eo : n_stm T (c p) (c (p + 1) - 48) (c (p + 2) - 48) (c (p + 3) - 48) with
    | none =>
      rw [eo] at g2
      dsimp only at g2
      obtain ⟨g2, r52⟩ := g2
      obtain ⟨s3, g3, y3, o3⟩ := mW_copies (σ := s2) (a := 55) (b := 52) rfl rfl (by decide) (z_ra q55 wR) (z_ra r52 gT.1)
      have et : tdo c n (k + 1) p T = .inl p := by simp only [tdo, eo]
      rw [et]
      refine ⟨fun z q => ?_, fun T' q => absurd q (by simp)⟩
      obtain rfl : p = z := by simpa using q
      have ne := k_ne1 p (by omega)
      refine ⟨s3, pre 0 _ g2 ⟨fun _ => ⟨s3, g3, ?_⟩, fun z => absurd rfl z⟩, y3.trans q55, by rw [o3 55 (by decide)]; exact q55, w2.tr ⟨fun q a b _ _ _ => o3 q b, fun j _ => by rw [o3 51 (by decide)]⟩⟩
      exact sg_X11_treaty_93 _ _ _ _ _ _ _ _ _ ⟨fun _ => ⟨fun _ => rfl, fun q => absurd ne q⟩, fun q => absurd ne q⟩
    | some T1 =>
      rw [eo] at g2
      dsimp only at g2
      obtain ⟨g2, r52⟩ := g2
      have gT1 : n_good T1 := by
        refine n_stm_good2 gT b1 (fun q => ?_) (fun q => ?_) (fun q => ?_) eo
        · have := (b3 0 (by omega)).2
          rw [Nat.add_zero] at this
          omega
        · have := (b3 1 (by omega)).2
          rw [show p + 1 + 1 = p + 2 by omega] at this
          omega
        · have := (b3 2 (by omega)).2
          rw [show p + 1 + 2 = p + 3 by omega] at this
          omega
      have ro2 := h.wf hd w2
      have hc2 : c = txc s2 d n := by rw [hc]; exact (txc_same (w2.1 64 (by decide) (by decide) (by decide) (by decide) (by decide))).symm
      have go : ∀ X, mm_Go mm_m_X11_treaty (93, [.ref 51, .int x1, .int x2, .int x3, .int 0, .int (nI p), .int (nI (c p)), .int 1], [], s2) X → mm_Go mm_m_X11_treaty (93, [.ref 51, .int x1, .int x2, .int x3, .int 0, d5, d6, d7], [], s) X := fun X g => pre 1 X g2 ⟨fun z => absurd z (show ¬ (1 : Int32) = 0 by decide), fun _ => g⟩
      by_cases l : p + tdg (c p) + 2 < n
      · rw [if_pos l] at hsc
        have et : tdo c n (k + 1) p T = tdo c n k (p + tdg (c p) + 2) T1 := by simp only [tdo, eo]; rw [if_pos l]
        have ih := mW_tr hd c R wR x1 x2 x3 k (p + tdg (c p) + 2) s2 T1 (.int (nI p)) (.int (nI (c p))) (.int 1) l (by omega) hsc ro2 hc2 m2 r52 gT1 q55
        rw [et]
        refine ⟨fun z q => ?_, fun T' q => ?_⟩
        · obtain ⟨s', g', a1, a2, a3⟩ := ih.1 z q
          exact ⟨s', go _ g', a1, a2, w2.tr a3⟩
        · obtain ⟨s', g', a1, a2, a3⟩ := ih.2 T' q
          exact ⟨s', go _ g', a1, a2, w2.tr a3⟩
      · have et : tdo c n (k + 1) p T = .inr T1 := by simp only [tdo, eo]; rw [if_neg l]
        rw [et]
        refine ⟨fun z q => absurd q (by simp), fun T' q => ?_⟩
        obtain rfl : T1 = T' := by simpa using q
        refine ⟨s2, go _ ?_, r52, q55, w2⟩
        exact sg_X11_treaty_93 _ _ _ _ _ _ _ _ _ ⟨fun q => absurd rfl q, fun _ => ⟨fun _ => ⟨fun q => absurd rfl q, fun _ => rfl⟩, fun q => absurd (by rw [m2.2.2, m2.2.1]; exact nI_le (by omega) (by omega)) q⟩⟩
theorem wr_0 {σ : mm_Sg} {x v : Int32} (h : f_X11_wrongRow σ 51 x (-1) = v) (hv : ¬ v = 0) : f_X11_wrongRow σ 51 x 0 = v := by
  rw [← h] at hv ⊢
  unfold f_X11_wrongRow at hv ⊢
  by_cases h1 : ¬ f_X11_isShelf σ x = (0 : Int32)
  · rw [if_pos h1] at hv ⊢
    rw [if_pos h1]
    by_cases h2 : ¬ σ 59 x.toNatClampNeg = (0 : Int32)
    · rw [if_pos h2] at hv ⊢
      rw [if_pos h2]
      by_cases h3 : ¬ σ 59 x.toNatClampNeg = (2 : Int32)
      · rw [if_pos h3, if_pos h3]
      · rw [if_neg h3, if_pos (show (-1 : Int32) < 0 by decide)] at hv
        exact absurd rfl hv
    · rw [if_neg h2, if_neg h2]
  · rw [if_neg h1, if_neg h1]
theorem wr_row {σ : mm_Sg} {d s n : Nat} (h : rowOf σ d s n) (hd : d < 8) : f_X11_wrongRow σ 51 (nI d) 0 = if s = 0 then 0 else -12 := by
  have h3 := h.2.2.1
  unfold f_X11_wrongRow
  rw [m_sh σ hd, if_pos (by decide), nI_clamp (by omega), h.2.1, if_pos (by decide), if_neg (by decide), if_neg (by decide), h.2.2.2.2.2.1]
  by_cases e : s = 0
  · rw [if_pos e, if_pos (by rw [e]; rfl)]
  · rw [if_neg e, if_neg (show ¬ nI s = 0 from fun z => e ((nI_eq (b := 0) (by omega) (by decide)).mp z))]
/-- what holds after a treaty -/
theorem Inv.tre {σ σ1 s10 s' : mm_Sg} {R T : Nat → Nat} (hI : Inv σ) (hx : xr σ1 10 T) (gT : n_good T) (wR : n_wf 999 R) (o1 : ∀ q, ¬ (10 ≤ q ∧ q ≤ 16) → ¬ (24 ≤ q ∧ q ≤ 30) → σ1 q = σ q) (w0 : (∀ q, q ≠ 51 → s10 q = σ1 q) ∧ s10 51 5 = σ1 51 5) (w : wF s10 s') (h52 : s' 52 = ra T) (h55 : s' 55 = ra R) : Inv s' := by
  obtain ⟨-, -, z53, -⟩ := id hI
  have fr : ∀ q, ¬ (10 ≤ q ∧ q ≤ 16) → ¬ (24 ≤ q ∧ q ≤ 30) → ¬ (51 ≤ q ∧ q ≤ 52) → ¬ (55 ≤ q ∧ q ≤ 57) → s' q = σ q := fun q a b c d => by rw [w.1 q (by omega) (by omega) (by omega) (by omega) (by omega), w0.1 q (by omega), o1 q a b]
  refine hI.now (R' := T) ⟨gT.1, gT.2.1, gT.2.2.1, gT.2.2.2, xr_same hx (fun q _ _ => by rw [w.1 q (by omega) (by omega) (by omega) (by omega) (by omega), w0.1 q (by omega)]), h52⟩ (fun i hi => ?_) (z_ra h55 wR) ?_ (fun q a b c d => fr q a b (by omega) (by omega))
  · rw [fr 53 (by omega) (by omega) (by omega) (by omega)]; exact z53 i hi
  · rw [w.2 5 (by decide), w0.2, o1 51 (by omega) (by omega)]
theorem F_treaty {σ : mm_Sg} (hI : Inv σ) (x1 : Int32) : FQ mm_m_X10_treaty mm_m_X11_treaty [.int x1] σ := by
  obtain ⟨⟨R, hcp⟩, hi, z53, z54, z55, hs⟩ := id hI
  obtain ⟨wf, r4, r5, r6, hx, hm⟩ := id hcp
  rcases row_c hs x1 with ⟨d, sr, n, hd, rfl, hro, ru, wr⟩ | ⟨v, v0, ru, wr⟩
  · have hn : n ≤ 100 := hro.2.2.2.1
    have h3 := hro.2.2.1
    by_cases es : sr = 0
    · subst es
      have gR : n_good R := ⟨wf, r4, r5, r6⟩
      obtain ⟨c, hc⟩ : ∃ c, c = txc σ d n := ⟨_, rfl⟩
      have hend : ∀ i, n ≤ i → c i = 256 := fun i hi => by rw [hc]; exact txc_end σ d n i (by omega)
      have gb := xW_bad hro hd c hc
      -- the Model's start, over any heap that the class leaves
      have mpre : ∀ σ1 : mm_Sg, rowOf σ1 d 0 n → σ1 64 = σ 64 → σ1 52 = ra R → z40 σ1 55 → ∃ s10 : mm_Sg, ((∀ q, q ≠ 51 → s10 q = σ1 q) ∧ s10 51 5 = σ1 51 5) ∧ rowOf s10 d 0 n ∧ c = txc s10 d n ∧ mS s10 d n 0 ∧ s10 52 = ra R ∧ z40 s10 55 ∧ ∀ X, mm_Go mm_m_X11_treaty (41, [.ref 51, .int (nI d), .int 0, .int (nI 0), .int 0, .null, .null, .null], [], s10) X → mm_Go mm_m_X11_treaty (0, [.ref 51, .int (nI d), .null, .null, .null, .null, .null, .null], [], σ1) X := fun σ1 ro h64 h52 h55 => by
        obtain ⟨s10, e10⟩ : ∃ s10, s10 = mm_u (mm_u (mm_u σ1 51 7 ((100 : Int32) * nI d)) 51 8 (nI n)) 51 6 (0 : Int32) := ⟨_, rfl⟩
        have o : ∀ q, q ≠ 51 → s10 q = σ1 q := fun q a => by rw [e10, mm_u_o a, mm_u_o a, mm_u_o a]
        refine ⟨s10, ⟨o, by rw [e10, mm_u_k (by decide), mm_u_k (by decide), mm_u_k (by decide)]⟩, rowOf_same ro (o _ (by omega)) (o _ (by omega)) (fun q _ _ => o q (by omega)), by rw [hc]; exact (txc_same (by rw [o 64 (by decide)]; exact h64)).symm, ⟨?_, ?_, ?_⟩, by rw [o 52 (by decide)]; exact h52, fun i hi => by rw [o 55 (by decide)]; exact h55 i hi, fun X g => ?_⟩
        · rw [e10, mm_u_k (by decide), mm_u_k (by decide), mm_u_kk, show (100 : Int32) = nI 100 from rfl, pk_mul]
        · rw [e10, mm_u_k (by decide), mm_u_kk]
        · rw [e10, mm_u_kk]; rfl
        · refine sg_X11_treaty_0 σ1 _ _ ⟨_, σ1, ev_WR σ1 _ _, ?_⟩
          rw [wr_row ro hd, if_pos rfl]
          refine g0a (fun s5 e5 => ⟨v_in (N := 8) hd (by decide), fun s8 e8 s10' e10' => ?_⟩)
          have : s10' = s10 := by
            rw [e10', e8, e5, e10, mm_u_o (by decide), nI_clamp (by omega), ro.2.2.2.2.2.2.2.1]
          rw [this]
          exact g
      have xpre : ∀ X, ((∀ z, tsc c n 101 0 = some z → X = (some (.int ((-1000 : Int32) - nI z)), σ)) ∧ (tsc c n 101 0 = none → ∃ s0, mm_Ev mm_m_X1_becomeLike [.ref 24, .ref 10] σ none s0 ∧ mm_Go mm_m_X10_treaty (65, [.ref 0, .int (nI d), .int 0, .ref (32 + 2 * d), .int (-1), .int (nI 0), .int (nI 0)], [], s0) X)) → mm_Ev mm_m_X10_treaty [.ref 0, .int (nI d)] σ X.1 X.2 := fun X hX => by
        refine sg_X10_treaty_0 σ _ _ ⟨_, σ, ev_RU σ _ _, ?_⟩
        rw [ru]
        refine g0a ⟨v_in hd (by decide), by rw [nI_clamp (by omega)]; exact (cl_sh d hd).1, ?_⟩
        rw [nI_clamp (by omega), hro.2.2.2.2.1]
        refine ⟨fun _ => ⟨_, σ, gb, ?_⟩, fun z => absurd rfl z⟩
        cases e : tsc c n 101 0 with
        | some z =>
          have hz := tsc_le hend 101 0 z (by omega) e
          exact ⟨fun q => absurd q (nI_pos (by omega)), fun _ => hX.1 z e⟩
        | none => exact ⟨fun _ => hX.2 e, fun q => absurd (show (-1 : Int32) < 0 by decide) q⟩
      cases e : tsc c n 101 0 with
      | some z =>
        obtain ⟨s10, w0, ro10, hc10, m10, h52, h55, g10⟩ := mpre σ hro rfl hm z55
        obtain ⟨s', g', a1, a2, a3⟩ := (mW_rd ro10 hd c hc10 (z_ra h52 wf) h55 (nI d) 0 101 0 0 s10 (by omega) (by omega) (rF.rf s10) m10).1 z e
        refine ⟨.int ((-1000 : Int32) - nI z), σ, s', xpre (_, σ) ⟨fun z' q => ?_, fun q => absurd (e.symm.trans q) (by simp)⟩, g10 _ g', ?_⟩
        · obtain rfl : z = z' := by simpa [e] using q
          rfl
        · exact Inv.tre hI hx gR wf (fun _ _ _ => rfl) w0 a3 (a1.trans h52) (a2.trans h52)
      | none =>
        have n0 : 0 < n := by
          rcases Nat.eq_zero_or_pos n with h0 | h0
          · have e2 : tbd c 0 = some 0 := by
              have : c 0 = 256 := hend 0 (by omega)
              unfold tbd
              rw [this]
              rfl
            rw [tsc, e2] at e
            exact absurd e (by simp)
          · exact h0
        obtain ⟨s0, gm, y0, -, t0⟩ := xW_mind hcp
        have ro0 := hro.xth hd t0
        have hc0 : c = txc s0 d n := by rw [hc]; exact (txc_same (t0 64 (by omega))).symm
        have X := xW_tr hd c (nI d) 0 (-1) 101 0 0 s0 R n0 (by omega) e ro0 hc0 y0 gR
        cases ed : tdo c n 101 0 R with
        | inl z =>
          obtain ⟨σ1, g1, t1⟩ := X.1 z ed
          have tt := t0.trans t1
          obtain ⟨s10, w0, ro10, hc10, m10, h52, h55, g10⟩ := mpre σ1 (hro.xth hd tt) (tt 64 (by omega)) (by rw [tt 52 (by omega)]; exact hm) (fun i hi => by rw [tt 55 (by omega)]; exact z55 i hi)
          obtain ⟨s2, b1, b2, b3, b4, g2⟩ := (mW_rd ro10 hd c hc10 (z_ra h52 wf) h55 (nI d) 0 101 0 0 s10 (by omega) (by omega) (rF.rf s10) m10).2 e
          obtain ⟨s', g', a1, a2, a3⟩ := (mW_tr hd c R wf (nI d) 0 (nI (0 + tct c n 101 0)) 101 0 s2 R .null .null .null n0 (by omega) e (ro10.wf hd b4) (by rw [hc10]; exact (txc_same (b4.1 64 (by decide) (by decide) (by decide) (by decide) (by decide))).symm) b3 (b1.trans h52) gR (b2.trans h52)).1 z ed
          exact ⟨.int ((-2000 : Int32) - nI z), σ1, s', xpre (_, σ1) ⟨fun z' q => absurd (e.symm.trans q) (by simp), fun _ => ⟨s0, gm, g1⟩⟩, g10 _ (g2 _ g'), Inv.tre hI (xr_same hx (fun q _ _ => tt q (by omega))) gR wf (fun q a b => tt q (by omega)) w0 (b4.tr a3) a1 a2⟩
        | inr T =>
          obtain ⟨s1, t1, y1, gT, g1⟩ := X.2 T ed
          have tt := t0.trans t1
          obtain ⟨σ1, g3, y3, -, o3⟩ := xW_like (c := 10) (d := 24) (Or.inl rfl) (Or.inr (Or.inr rfl)) (by decide) y1 gT.2.1 gT.2.2.1 gT.2.2.2
          have oo : ∀ q, ¬ (10 ≤ q ∧ q ≤ 16) → ¬ (24 ≤ q ∧ q ≤ 30) → σ1 q = σ q := fun q a b => by rw [o3 q (by omega), tt q (by omega)]
          obtain ⟨s10, w0, ro10, hc10, m10, h52, h55, g10⟩ := mpre σ1 (rowOf_same hro (oo _ (by omega) (by omega)) (oo _ (by omega) (by omega)) (fun q _ _ => oo q (by omega) (by omega))) (oo 64 (by omega) (by omega)) (by rw [oo 52 (by omega) (by omega)]; exact hm) (fun i hi => by rw [oo 55 (by omega) (by omega)]; exact z55 i hi)
          obtain ⟨s2, b1, b2, b3, b4, g2⟩ := (mW_rd ro10 hd c hc10 (z_ra h52 wf) h55 (nI d) 0 101 0 0 s10 (by omega) (by omega) (rF.rf s10) m10).2 e
          obtain ⟨s', g', a1, a2, a3⟩ := (mW_tr hd c R wf (nI d) 0 (nI (0 + tct c n 101 0)) 101 0 s2 R .null .null .null n0 (by omega) e (ro10.wf hd b4) (by rw [hc10]; exact (txc_same (b4.1 64 (by decide) (by decide) (by decide) (by decide) (by decide))).symm) b3 (b1.trans h52) gR (b2.trans h52)).2 T ed
          have ro1 := hro.xth hd tt
          refine ⟨.int (nI (0 + tct c n 101 0)), σ1, s', xpre (_, σ1) ⟨fun z' q => absurd (e.symm.trans q) (by simp), fun _ => ⟨s0, gm, g1 _ ?_⟩⟩, g10 _ (g2 _ g'), Inv.tre hI y3 gT wf oo w0 (b4.tr a3) a1 a2⟩
          exact sg_X10_treaty_65 s1 _ _ _ _ _ _ _ ⟨(cl_sh d hd).1, fun _ => ⟨σ1, g3, rfl⟩, fun q => absurd (by rw [ro1.2.2.2.2.2.2.1]; exact nI_le (Nat.le_refl _) (by omega)) q⟩
    · refine FQ.refuse hI (.int (-12)) ?_ ?_
      · refine sg_X10_treaty_0 σ _ _ ⟨_, σ, ev_RU σ _ _, ?_⟩
        rw [ru]
        refine g0a ⟨v_in hd (by decide), by rw [nI_clamp (by omega)]; exact (cl_sh d hd).1, ?_⟩
        rw [nI_clamp (by omega), hro.2.2.2.2.1]
        exact ⟨fun z => absurd ((nI_eq (b := 0) (by omega) (by decide)).mp z) es, fun _ => rfl⟩
      · refine sg_X11_treaty_0 σ _ _ ⟨_, σ, ev_WR σ _ _, ?_⟩
        rw [wr_row hro hd, if_neg es]
        exact ⟨fun z => absurd z (by decide), fun _ => rfl⟩
  · refine FQ.refuse hI (.int v) ?_ ?_
    · refine sg_X10_treaty_0 σ _ _ ⟨_, σ, ev_RU σ _ _, ?_⟩
      rw [ru]
      exact ⟨fun z => absurd z v0, fun _ => rfl⟩
    · refine sg_X11_treaty_0 σ _ _ ⟨_, σ, ev_WR σ _ _, ?_⟩
      rw [wr_0 wr v0]
      exact ⟨fun z => absurd z v0, fun _ => rfl⟩
