/-! treaties: bytes, letters, digits -/
/-- the byte of an element -/
def tch (x : Int32) : Nat := x.toBitVec.toNat % 256
theorem tch_and (x : Int32) : x &&& (255 : Int32) = nI (tch x) := pk_and x (m := 255) 8 (by decide)
theorem tch_lt (x : Int32) : tch x < 256 := Nat.mod_lt _ (by decide)
theorem tch_eq {x : Int32} (h1 : -128 ≤ x.toInt) (h2 : x.toInt ≤ 127) {k : Nat} (hk : k < 128) : x = nI k ↔ tch x = k := by
  have e : x.toInt = x.toBitVec.toInt := rfl
  have e2 := BitVec.toInt_eq_toNat_cond x.toBitVec
  have hl := x.toBitVec.isLt
  unfold tch
  constructor
  · intro h
    have e3 : x.toInt = (k : Int) := by rw [h, nI_toInt (by omega)]
    rw [e, e2] at e3
    split at e3 <;> omega
  · intro h
    apply Int32.toInt_inj.mp
    rw [nI_toInt (by omega), e, e2]
    rw [e, e2] at h1 h2
    split at h1 <;> split <;> omega
def tdg (c : Nat) : Nat := if c = 98 ∨ c = 107 ∨ c = 111 ∨ c = 116 then 3 else if c = 100 ∨ c = 119 then 2 else if c = 122 then 1 else 0
theorem tdg_le (c : Nat) : tdg c ≤ 3 := by unfold tdg; (repeat' split) <;> omega
theorem tdg0 : ∀ c, c < 256 → (if c = 98 then (3 : Int32) else if c = 100 then (2 : Int32) else if c = 107 then (3 : Int32) else if c = 111 then (3 : Int32) else if c = 116 then (3 : Int32) else if c = 119 then (2 : Int32) else if c = 122 then (1 : Int32) else (0 : Int32)) = nI (tdg c) := by decide +kernel
theorem ite_cong {p q : Prop} [Decidable p] [Decidable q] {α : Type} {a b : α} (h : p ↔ q) : (if p then a else b) = if q then a else b := by
  by_cases c : p
  · rw [if_pos c, if_pos (h.mp c)]
  · rw [if_neg c, if_neg (fun z => c (h.mpr z))]
theorem x_dg (σ : mm_Sg) {x : Int32} (h1 : -128 ≤ x.toInt) (h2 : x.toInt ≤ 127) : f_X10_digitsBehind σ x = nI (tdg (tch x)) := by
  rw [← tdg0 _ (tch_lt x)]
  have h : ∀ k, k < 128 → (x = nI k ↔ tch x = k) := fun k hk => tch_eq h1 h2 hk
  unfold f_X10_digitsBehind
  rw [ite_cong (h 98 (by decide)), ite_cong (h 99 (by decide)), ite_cong (h 100 (by decide)), ite_cong (h 101 (by decide)), ite_cong (h 102 (by decide)), ite_cong (h 103 (by decide)), ite_cong (h 104 (by decide)), ite_cong (h 105 (by decide)), ite_cong (h 106 (by decide)), ite_cong (h 107 (by decide)), ite_cong (h 108 (by decide)), ite_cong (h 109 (by decide)), ite_cong (h 110 (by decide)), ite_cong (h 111 (by decide)), ite_cong (h 112 (by decide)), ite_cong (h 113 (by decide)), ite_cong (h 114 (by decide)), ite_cong (h 115 (by decide)), ite_cong (h 116 (by decide)), ite_cong (h 117 (by decide)), ite_cong (h 118 (by decide)), ite_cong (h 119 (by decide)), ite_cong (h 120 (by decide)), ite_cong (h 121 (by decide)), ite_cong (h 122 (by decide))]
  by_cases c98 : tch x = 98
  · rw [if_pos c98, if_pos c98]
  rw [if_neg c98, if_neg c98]
  by_cases c99 : tch x = 99
  · rw [if_pos c99, if_neg (by omega), if_neg (by omega), if_neg (by omega), if_neg (by omega), if_neg (by omega), if_neg (by omega)]
  rw [if_neg c99]
  by_cases c100 : tch x = 100
  · rw [if_pos c100, if_pos c100]
  rw [if_neg c100, if_neg c100]
  by_cases c101 : tch x = 101
  · rw [if_pos c101, if_neg (by omega), if_neg (by omega), if_neg (by omega), if_neg (by omega), if_neg (by omega)]
  rw [if_neg c101]
  by_cases c102 : tch x = 102
  · rw [if_pos c102, if_neg (by omega), if_neg (by omega), if_neg (by omega), if_neg (by omega), if_neg (by omega)]
  rw [if_neg c102]
  by_cases c103 : tch x = 103
  · rw [if_pos c103, if_neg (by omega), if_neg (by omega), if_neg (by omega), if_neg (by omega), if_neg (by omega)]
  rw [if_neg c103]
  by_cases c104 : tch x = 104
  · rw [if_pos c104, if_neg (by omega), if_neg (by omega), if_neg (by omega), if_neg (by omega), if_neg (by omega)]
  rw [if_neg c104]
  by_cases c105 : tch x = 105
  · rw [if_pos c105, if_neg (by omega), if_neg (by omega), if_neg (by omega), if_neg (by omega), if_neg (by omega)]
  rw [if_neg c105]
  by_cases c106 : tch x = 106
  · rw [if_pos c106, if_neg (by omega), if_neg (by omega), if_neg (by omega), if_neg (by omega), if_neg (by omega)]
  rw [if_neg c106]
  by_cases c107 : tch x = 107
  · rw [if_pos c107, if_pos c107]
  rw [if_neg c107, if_neg c107]
  by_cases c108 : tch x = 108
  · rw [if_pos c108, if_neg (by omega), if_neg (by omega), if_neg (by omega), if_neg (by omega)]
  rw [if_neg c108]
  by_cases c109 : tch x = 109
  · rw [if_pos c109, if_neg (by omega), if_neg (by omega), if_neg (by omega), if_neg (by omega)]
  rw [if_neg c109]
  by_cases c110 : tch x = 110
  · rw [if_pos c110, if_neg (by omega), if_neg (by omega), if_neg (by omega), if_neg (by omega)]
  rw [if_neg c110]
  by_cases c111 : tch x = 111
  · rw [if_pos c111, if_pos c111]
  rw [if_neg c111, if_neg c111]
  by_cases c112 : tch x = 112
  · rw [if_pos c112, if_neg (by omega), if_neg (by omega), if_neg (by omega)]
  rw [if_neg c112]
  by_cases c113 : tch x = 113
  · rw [if_pos c113, if_neg (by omega), if_neg (by omega), if_neg (by omega)]
  rw [if_neg c113]
  by_cases c114 : tch x = 114
  · rw [if_pos c114, if_neg (by omega), if_neg (by omega), if_neg (by omega)]
  rw [if_neg c114]
  by_cases c115 : tch x = 115
  · rw [if_pos c115, if_neg (by omega), if_neg (by omega), if_neg (by omega)]
  rw [if_neg c115]
  by_cases c116 : tch x = 116
  · rw [if_pos c116, if_pos c116]
  rw [if_neg c116, if_neg c116]
  by_cases c117 : tch x = 117
  · rw [if_pos c117, if_neg (by omega), if_neg (by omega)]
  rw [if_neg c117]
  by_cases c118 : tch x = 118
  · rw [if_pos c118, if_neg (by omega), if_neg (by omega)]
  rw [if_neg c118]
  by_cases c119 : tch x = 119
  · rw [if_pos c119, if_pos c119]
  rw [if_neg c119, if_neg c119]
  by_cases c120 : tch x = 120
  · rw [if_pos c120, if_neg (by omega)]
  rw [if_neg c120]
  by_cases c121 : tch x = 121
  · rw [if_pos c121, if_neg (by omega)]
  rw [if_neg c121]
/-- the bytes of a text; 256 behind its end -/
def txc (σ : mm_Sg) (d n i : Nat) : Nat := if i < n then tch (σ 64 (100 * d + i)) else 256
abbrev tdi (c : Nat) : Prop := 48 ≤ c ∧ c ≤ 57
/-- the first place that is no digit, of so many -/
def tds (c : Nat → Nat) : Nat → Nat → Option Nat
  | 0, _ => none
  | k + 1, p => if tdi (c p) then tds c k (p + 1) else some p
def tbs (c : Nat → Nat) (k p : Nat) : Option Nat := match tds c k p with
  | some q => some q
  | none => if c (p + k) = 59 then none else some (p + k)
/-- the first place with which the statement at a place can't go on -/
def tbd (c : Nat → Nat) (p : Nat) : Option Nat := if tdg (c p) = 0 then some p else tbs c (tdg (c p)) (p + 1)
theorem tds_add (c : Nat → Nat) (b : Nat) : ∀ a p, tds c (a + b) p = match tds c a p with
    | some q => some q
    | none => tds c b (p + a)
  | 0, p => by rw [Nat.zero_add, Nat.add_zero]; rfl
  | a + 1, p => by
    rw [show a + 1 + b = (a + b) + 1 by omega]
    show (if tdi (c p) then tds c (a + b) (p + 1) else some p) = match (if tdi (c p) then tds c a (p + 1) else some p) with
      | some q => some q
      | none => tds c b (p + (a + 1))
    by_cases h : tdi (c p)
    · rw [if_pos h, if_pos h, tds_add c b a (p + 1), show p + 1 + a = p + (a + 1) by omega]
    · rw [if_neg h, if_neg h]
theorem tds_lt {c : Nat → Nat} {n : Nat} (hc : ∀ i, n ≤ i → c i = 256) : ∀ k p, p ≤ n → (tds c k p = none → p + k ≤ n) ∧ (∀ q, tds c k p = some q → p ≤ q ∧ q ≤ n)
  | 0, p, hp => ⟨fun _ => hp, fun q h => by unfold tds at h; exact absurd h (by simp)⟩
  | k + 1, p, hp => by
    unfold tds
    by_cases h : tdi (c p)
    · have : p < n := by
        rcases Nat.lt_or_ge p n with l | l
        · exact l
        · rw [hc p l] at h
          exact absurd h (by decide)
      have ih := tds_lt hc k (p + 1) (by omega)
      rw [if_pos h]
      exact ⟨fun z => by have := ih.1 z; omega, fun q z => by have := ih.2 q z; omega⟩
    · rw [if_neg h]
      refine ⟨fun z => absurd z (by simp), fun q z => ?_⟩
      have : p = q := by simpa using z
      omega
theorem tds_dig {c : Nat → Nat} : ∀ k p, tds c k p = none → ∀ i, i < k → tdi (c (p + i))
  | 0, _, _, i, hi => absurd hi (by omega)
  | k + 1, p, h, i, hi => by
    unfold tds at h
    by_cases e : tdi (c p)
    · rw [if_pos e] at h
      cases i with
      | zero => exact e
      | succ i =>
        have := tds_dig k (p + 1) h i (by omega)
        rw [show p + 1 + i = p + (i + 1) by omega] at this
        exact this
    · rw [if_neg e] at h
      exact absurd h (by simp)
theorem tbd_p {c : Nat → Nat} {n p : Nat} (hc : ∀ i, n ≤ i → c i = 256) (hp : p ≤ n) : (tbd c p = none → 0 < tdg (c p) ∧ p + tdg (c p) + 2 ≤ n ∧ (∀ i, i < tdg (c p) → tdi (c (p + 1 + i))) ∧ c (p + 1 + tdg (c p)) = 59) ∧ (∀ q, tbd c p = some q → p ≤ q ∧ q ≤ n) := by
  unfold tbd
  by_cases e : tdg (c p) = 0
  · rw [if_pos e]
    refine ⟨fun z => absurd z (by simp), fun q z => ?_⟩
    have : p = q := by simpa using z
    omega
  · rw [if_neg e]
    have hpn : p < n := by
      rcases Nat.lt_or_ge p n with l | l
      · exact l
      · rw [hc p l] at e
        exact absurd (by decide) e
    have t := tds_lt hc (tdg (c p)) (p + 1) (by omega)
    unfold tbs
    cases h : tds c (tdg (c p)) (p + 1) with
    | some q =>
      have := t.2 q h
      refine ⟨fun z => absurd z (by simp), fun q' z => ?_⟩
      have : q = q' := by simpa using z
      omega
    | none =>
      have h1 := t.1 h
      dsimp only
      by_cases s : c (p + 1 + tdg (c p)) = 59
      · rw [if_pos s]
        have : p + 1 + tdg (c p) < n := by
          rcases Nat.lt_or_ge (p + 1 + tdg (c p)) n with l | l
          · exact l
          · rw [hc _ l] at s
            omega
        exact ⟨fun _ => ⟨by omega, by omega, tds_dig _ _ h, s⟩, fun q z => absurd z (by simp)⟩
      · rw [if_neg s]
        refine ⟨fun z => absurd z (by simp), fun q z => ?_⟩
        have : p + 1 + tdg (c p) = q := by simpa using z
        omega
/-! the class reads -/
theorem tx_r {σ : mm_Sg} {d n i : Nat} (h : rowOf σ d 0 n) (hi : i < n) : -128 ≤ (σ 64 (100 * d + i)).toInt ∧ (σ 64 (100 * d + i)).toInt ≤ 127 := h.2.2.2.2.2.2.2.2.2 rfl i (by have := h.2.2.2.1; omega)
theorem ev_at {σ : mm_Sg} {d s n i : Nat} (h : rowOf σ d s n) (hd : d < 8) (hi : i < n) : mm_Ev mm_m_X8_at [.ref (32 + 2 * d), .int (nI i)] σ (some (.int (σ 64 (100 * d + i)))) σ := by
  have h4 := h.2.2.2.1
  rw [← x_at h hi]
  exact ev_X8_at σ _ _ (cl_sh d hd).1 (fun _ => by rw [show 32 + 2 * d + 1 = 33 + 2 * d by omega, (cl_sh d hd).2]; exact v_in (by omega) (by decide))
theorem ev_at2 {σ : mm_Sg} {d s n i : Nat} (h : rowOf σ d s n) (hd : d < 8) (hi : i < 2 ^ 30) : mm_Ev mm_m_X8_at [.ref (32 + 2 * d), .int (nI i)] σ (some (.int (f_X8_at σ (32 + 2 * d) (nI i)))) σ := by
  have h4 := h.2.2.2.1
  refine ev_X8_at σ _ _ (cl_sh d hd).1 (fun z => ?_)
  rw [show 32 + 2 * d + 1 = 33 + 2 * d by omega, (cl_sh d hd).2]
  unfold f_X8_hasPlace at z
  rw [if_neg (nI_pos (by omega))] at z
  by_cases c : (100 : Int32) ≤ nI i
  · exact absurd (by split <;> first | rfl | (rw [if_pos c])) z
  · refine v_in ?_ (by decide)
    rcases Nat.lt_or_ge i 100 with l | l
    · exact l
    · exact absurd (nI_le (a := 100) l (by omega)) c
theorem x_let (σ : mm_Sg) {x : Int32} (h1 : -128 ≤ x.toInt) (h2 : x.toInt ≤ 127) : f_X10_isLetter σ x = if tdg (tch x) = 0 then 0 else 1 := by
  have := tdg_le (tch x)
  unfold f_X10_isLetter
  rw [x_dg σ h1 h2]
  by_cases e : tdg (tch x) = 0
  · rw [if_pos (by rw [e]; decide), if_pos e]
  · rw [if_neg (nI_nle (by omega) (by omega)), if_neg e]
theorem x_dig (σ : mm_Sg) {x : Int32} (h1 : -128 ≤ x.toInt) (h2 : x.toInt ≤ 127) : f_X10_isBetween σ x (48 : Int32) (57 : Int32) = if tdi (tch x) then 1 else 0 := by
  rcases bt_c x 48 57 (by decide) (by decide) with ⟨j, j1, j2, rfl⟩ | h
  · have e := (tch_eq h1 h2 (k := j) (by omega)).mp rfl
    rw [show f_X10_isBetween σ (nI j) (48 : Int32) (57 : Int32) = 1 from bt_t σ (a := 48) (m := 57) ⟨j1, j2⟩ (by decide), if_pos (by rw [e]; exact ⟨j1, j2⟩)]
  · rw [show f_X10_isBetween σ x (48 : Int32) (57 : Int32) = 0 from h σ, if_neg]
    intro z
    have e := (tch_eq h1 h2 (k := tch x) (by have := z.2; omega)).mpr rfl
    have hb := h σ
    rw [e, q_bt σ (by have := z.2; omega) (by decide) (by decide), if_pos (show 48 ≤ tch x ∧ tch x ≤ 57 from z)] at hb
    exact absurd hb (by decide)
theorem xW_scan {σ : mm_Sg} {d n : Nat} (h : rowOf σ d 0 n) (hd : d < 8) (c : Nat → Nat) (hc : c = txc σ d n) : ∀ (k i : Nat) (d4 : Value), k ≤ 3 → i ≤ n →
    (∀ z, tbs c k i = some z → mm_Go mm_m_X10_firstBadByte (6, [.ref (32 + 2 * d), .int 0, .int (nI k), .int (nI i), d4], [], σ) (some (.int (nI z)), σ)) ∧
    (tbs c k i = none → ∀ X, (∀ d', mm_Go mm_m_X10_firstBadByte (6, [.ref (32 + 2 * d), .int 1, .int (nI 0), .int (nI (i + k + 1)), d'], [], σ) X) → mm_Go mm_m_X10_firstBadByte (6, [.ref (32 + 2 * d), .int 0, .int (nI k), .int (nI i), d4], [], σ) X) := by
  have h4 := h.2.2.2.1
  have hsz := h.2.2.2.2.2.2.1
  intro k
  induction k with
  | zero =>
    intro i d4 _ hi
    unfold tbs tds
    dsimp only
    rw [Nat.add_zero]
    rcases Nat.lt_or_ge i n with l | l
    · have r := tx_r h l
      have ec : c i = tch (σ 64 (100 * d + i)) := by rw [hc]; unfold txc; rw [if_pos l]
      have e59 : σ 64 (100 * d + i) = (59 : Int32) ↔ c i = 59 := by rw [ec]; exact tch_eq (k := 59) r.1 r.2 (by decide)
      have pre : ∀ X, ((c i = 59 → mm_Go mm_m_X10_firstBadByte (6, [.ref (32 + 2 * d), .int 1, .int (nI 0), .int (nI (i + 1)), .int (σ 64 (100 * d + i))], [], σ) X) ∧ (¬ c i = 59 → X = (some (.int (nI i)), σ))) → mm_Go mm_m_X10_firstBadByte (6, [.ref (32 + 2 * d), .int 0, .int (nI 0), .int (nI i), d4], [], σ) X := fun X hX => by
        refine sg_X10_firstBadByte_6 σ _ _ _ _ d4 X ⟨(cl_sh d hd).1, fun z => absurd (by rw [hsz] at z; exact z) (nI_ge l (by omega)), fun _ => ⟨_, σ, ev_at h hd l, fun _ => ⟨fun _ => ?_, fun z => absurd (show nI 0 ≤ (0 : Int32) by decide) z⟩, fun z => absurd rfl z⟩⟩
        rw [e59, nI_1]
        exact hX
      by_cases s : c i = 59
      · rw [if_pos s]
        exact ⟨fun z q => absurd q (by simp), fun _ X hX => pre X ⟨fun _ => hX _, fun q => absurd s q⟩⟩
      · rw [if_neg s]
        refine ⟨fun z q => ?_, fun q => absurd q (by simp)⟩
        obtain rfl : i = z := by simpa using q
        exact pre _ ⟨fun q => absurd q s, fun _ => rfl⟩
    · obtain rfl : i = n := by omega
      have ec : c i = 256 := by rw [hc]; unfold txc; rw [if_neg (by omega)]
      rw [if_neg (by rw [ec]; decide)]
      refine ⟨fun z q => ?_, fun q => absurd q (by simp)⟩
      obtain rfl : i = z := by simpa using q
      exact sg_X10_firstBadByte_6 σ _ _ _ _ d4 _ ⟨(cl_sh d hd).1, fun _ => ⟨fun _ => by rw [hsz], fun z => absurd rfl z⟩, fun z => absurd (by rw [hsz]; exact nI_le (Nat.le_refl _) (by omega)) z⟩
  | succ k ih =>
    intro i d4 hk hi
    rcases Nat.lt_or_ge i n with l | l
    · have r := tx_r h l
      have ec : c i = tch (σ 64 (100 * d + i)) := by rw [hc]; unfold txc; rw [if_pos l]
      have pre : ∀ X, ((tdi (c i) → mm_Go mm_m_X10_firstBadByte (6, [.ref (32 + 2 * d), .int 0, .int (nI k), .int (nI (i + 1)), .int (σ 64 (100 * d + i))], [], σ) X) ∧ (¬ tdi (c i) → X = (some (.int (nI i)), σ))) → mm_Go mm_m_X10_firstBadByte (6, [.ref (32 + 2 * d), .int 0, .int (nI (k + 1)), .int (nI i), d4], [], σ) X := fun X hX => by
        refine sg_X10_firstBadByte_6 σ _ _ _ _ d4 X ⟨(cl_sh d hd).1, fun z => absurd (by rw [hsz] at z; exact z) (nI_ge l (by omega)), fun _ => ⟨_, σ, ev_at h hd l, fun _ => ⟨fun z => absurd z (nI_nle (by omega) (by omega)), fun _ => ⟨_, σ, ev_X10_isBetween σ _ _ _, ?_⟩⟩, fun z => absurd rfl z⟩⟩
        rw [x_dig σ r.1 r.2, ← ec, nI_1, pk_m1]
        by_cases s : tdi (c i)
        · rw [if_pos s]
          exact ⟨fun _ => hX.1 s, fun z => absurd (show ¬ (1 : Int32) = 0 by decide) z⟩
        · rw [if_neg s]
          exact ⟨fun z => absurd rfl z, fun _ => hX.2 s⟩
      have ih := ih (i + 1) (.int (σ 64 (100 * d + i))) (by omega) (by omega)
      have eb : tbs c (k + 1) i = if tdi (c i) then tbs c k (i + 1) else some i := by
        unfold tbs
        rw [tds]
        by_cases s : tdi (c i)
        · rw [if_pos s, if_pos s, show i + (k + 1) = i + 1 + k by omega]
        · rw [if_neg s, if_neg s]
      rw [eb]
      by_cases s : tdi (c i)
      · rw [if_pos s]
        refine ⟨fun z q => pre _ ⟨fun _ => ih.1 z q, fun q2 => absurd s q2⟩, fun q X hX => pre _ ⟨fun _ => ih.2 q X (fun d' => ?_), fun q2 => absurd s q2⟩⟩
        rw [show i + 1 + k + 1 = i + (k + 1) + 1 by omega]
        exact hX d'
      · rw [if_neg s]
        refine ⟨fun z q => ?_, fun q => absurd q (by simp)⟩
        obtain rfl : i = z := by simpa using q
        exact pre _ ⟨fun q => absurd q s, fun _ => rfl⟩
    · obtain rfl : i = n := by omega
      have ec : c i = 256 := by rw [hc]; unfold txc; rw [if_neg (by omega)]
      have eb : tbs c (k + 1) i = some i := by
        unfold tbs
        rw [tds, if_neg (by rw [ec]; decide)]
      rw [eb]
      refine ⟨fun z q => ?_, fun q => absurd q (by simp)⟩
      obtain rfl : i = z := by simpa using q
      exact sg_X10_firstBadByte_6 σ _ _ _ _ d4 _ ⟨(cl_sh d hd).1, fun _ => ⟨fun _ => by rw [hsz], fun z => absurd rfl z⟩, fun z => absurd (by rw [hsz]; exact nI_le (Nat.le_refl _) (by omega)) z⟩
/-- one statement read by the class -/
theorem xW_stm {σ : mm_Sg} {d n p : Nat} (h : rowOf σ d 0 n) (hd : d < 8) (c : Nat → Nat) (hc : c = txc σ d n) (hp : p < n) (d4 : Value) :
    (∀ z, tbd c p = some z → mm_Go mm_m_X10_firstBadByte (6, [.ref (32 + 2 * d), .int 1, .int (nI 0), .int (nI p), d4], [], σ) (some (.int (nI z)), σ)) ∧
    (tbd c p = none → ∀ X, (∀ d', mm_Go mm_m_X10_firstBadByte (6, [.ref (32 + 2 * d), .int 1, .int (nI 0), .int (nI (p + tdg (c p) + 2)), d'], [], σ) X) → mm_Go mm_m_X10_firstBadByte (6, [.ref (32 + 2 * d), .int 1, .int (nI 0), .int (nI p), d4], [], σ) X) := by
  have h4 := h.2.2.2.1
  have hsz := h.2.2.2.2.2.2.1
  have r := tx_r h hp
  have ec : c p = tch (σ 64 (100 * d + p)) := by rw [hc]; unfold txc; rw [if_pos hp]
  have pre : ∀ X, ((tdg (c p) = 0 → X = (some (.int (nI p)), σ)) ∧ (¬ tdg (c p) = 0 → mm_Go mm_m_X10_firstBadByte (6, [.ref (32 + 2 * d), .int 0, .int (nI (tdg (c p))), .int (nI (p + 1)), .int (σ 64 (100 * d + p))], [], σ) X)) → mm_Go mm_m_X10_firstBadByte (6, [.ref (32 + 2 * d), .int 1, .int (nI 0), .int (nI p), d4], [], σ) X := fun X hX => by
    refine sg_X10_firstBadByte_6 σ _ _ _ _ d4 X ⟨(cl_sh d hd).1, fun z => absurd (by rw [hsz] at z; exact z) (nI_ge hp (by omega)), fun _ => ⟨_, σ, ev_at h hd hp, fun z => absurd z (show ¬ (1 : Int32) = 0 by decide), fun _ => ⟨_, σ, ev_X10_isLetter σ _, ?_⟩⟩⟩
    rw [x_let σ r.1 r.2, ← ec, nI_1]
    by_cases s : tdg (c p) = 0
    · rw [if_pos s]
      exact ⟨fun z => absurd rfl z, fun _ => hX.1 s⟩
    · rw [if_neg s]
      refine ⟨fun _ => ⟨_, σ, ev_X10_digitsBehind σ _, ?_⟩, fun z => absurd (show ¬ (1 : Int32) = 0 by decide) z⟩
      rw [x_dg σ r.1 r.2, ← ec]
      exact hX.2 s
  have sc := xW_scan h hd c hc (tdg (c p)) (p + 1) (.int (σ 64 (100 * d + p))) (tdg_le _) (by omega)
  unfold tbd
  by_cases s : tdg (c p) = 0
  · rw [if_pos s]
    refine ⟨fun z q => ?_, fun q => absurd q (by simp)⟩
    obtain rfl : p = z := by simpa using q
    exact pre _ ⟨fun _ => rfl, fun q => absurd s q⟩
  · rw [if_neg s]
    refine ⟨fun z q => pre _ ⟨fun q2 => absurd q2 s, fun _ => sc.1 z q⟩, fun q X hX => pre _ ⟨fun q2 => absurd q2 s, fun _ => sc.2 q X (fun d' => ?_)⟩⟩
    rw [show p + 1 + tdg (c p) + 1 = p + tdg (c p) + 2 by omega]
    exact hX d'
