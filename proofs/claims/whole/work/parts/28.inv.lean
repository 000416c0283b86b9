/-! numbers in range or not, on both sides -/
theorem ne_vp {x : Int32} {n : Nat} (h : ¬ vp_in x n) : x.toInt < 0 ∨ (n : Int) ≤ x.toInt := by
  rw [vp_in_iff] at h
  omega
theorem q_bt (σ : mm_Sg) {j a b : Nat} (hj : j < 2 ^ 31) (ha : a < 2 ^ 31) (hb : b < 2 ^ 31) : f_X10_isBetween σ (nI j) (nI a) (nI b) = if a ≤ j ∧ j ≤ b then 1 else 0 := by
  unfold f_X10_isBetween
  by_cases h1 : a ≤ j
  · rw [if_neg (nI_nlt h1 hj)]
    by_cases h2 : j ≤ b
    · rw [if_neg (nI_nlt h2 hb), if_pos ⟨h1, h2⟩]
    · rw [if_pos (nI_lt (by omega) hj), if_neg (fun z => h2 z.2)]
  · rw [if_pos (nI_lt (by omega) ha), if_neg (fun z => h1 z.1)]
theorem q_btf (σ : mm_Sg) {x : Int32} {a b : Nat} (ha : a < 2 ^ 31) (hb : b < 2 ^ 31) (h : ¬ vp_in x (b + 1)) : f_X10_isBetween σ x (nI a) (nI b) = 0 := by
  have h1 := ne_vp h
  unfold f_X10_isBetween
  by_cases h2 : x < nI a
  · rw [if_pos h2]
  · rw [if_neg h2, if_pos]
    rw [Int32.lt_iff_toInt_lt, nI_toInt ha] at h2
    rw [Int32.lt_iff_toInt_lt, nI_toInt hb]
    omega
theorem m_in (σ : mm_Sg) (x a b : Int32) : f_X11_isIn σ x a b = f_X10_isBetween σ x a b := rfl
theorem x_hasf (σ : mm_Sg) {c n : Nat} {x : Int32} (h6 : σ c 6 = nI n) (hn : n ≤ 7) (h : ¬ vp_in x n) : f_X1_has σ c x = 0 := by
  have h1 := ne_vp h
  unfold f_X1_has
  rw [h6]
  by_cases h2 : x < 0
  · rw [if_pos h2]
  · rw [if_neg h2, if_pos]
    rw [Int32.lt_iff_toInt_lt] at h2
    rw [Int32.le_iff_toInt_le, nI_toInt (by omega)]
    have : (0 : Int32).toInt = 0 := rfl
    omega
theorem m_dk (σ : mm_Sg) {n k : Nat} (h0 : σ 52 0 = nI n) (hn : n ≤ 7) (hk : k < n) : f_X11_isDrinker σ 51 (nI k) = 1 := by
  unfold f_X11_isDrinker
  rw [m_in, h0, show nI n - (1 : Int32) = nI (n - 1) from pk_sub (b := 1) (by omega)]
  have := q_bt σ (j := k) (a := 0) (b := n - 1) (by omega) (by decide) (by omega)
  rw [if_pos ⟨Nat.zero_le _, by omega⟩] at this
  exact this
theorem m_dkf (σ : mm_Sg) {n : Nat} {x : Int32} (h0 : σ 52 0 = nI n) (hn : n ≤ 7) (h : ¬ vp_in x n) : f_X11_isDrinker σ 51 x = 0 := by
  unfold f_X11_isDrinker
  rw [m_in, h0]
  cases n with
  | zero =>
    unfold f_X10_isBetween
    by_cases h2 : x < 0
    · rw [if_pos h2]
    · rw [if_neg h2, if_pos]
      rw [Int32.lt_iff_toInt_lt] at h2
      rw [Int32.lt_iff_toInt_lt]
      have e1 : (0 : Int32).toInt = 0 := rfl
      have e2 : (nI 0 - (1 : Int32)).toInt = -1 := by decide
      omega
  | succ n =>
    rw [show nI (n + 1) - (1 : Int32) = nI n from nI_pred n]
    exact q_btf σ (a := 0) (by decide) (by omega) h
theorem x_wk (σ : mm_Sg) {w : Nat} (hw : w < 5) : f_X10_isWaker σ (nI w) = 1 := by
  unfold f_X10_isWaker
  rw [x_isW0 w (by omega), if_pos hw]
theorem x_wkf (σ : mm_Sg) {x : Int32} (h : ¬ vp_in x 5) : f_X10_isWaker σ x = 0 := by
  have h1 := ne_vp h
  unfold f_X10_isWaker
  by_cases h2 : x < 0
  · rw [if_pos h2]
  · rw [if_neg h2, if_pos]
    rw [Int32.lt_iff_toInt_lt] at h2
    rw [Int32.le_iff_toInt_le]
    have e1 : (0 : Int32).toInt = 0 := rfl
    have e2 : (5 : Int32).toInt = 5 := rfl
    omega
theorem m_wk (σ : mm_Sg) {w : Nat} (hw : w < 5) : f_X11_isWaker σ (nI w) = 1 := by
  unfold f_X11_isWaker
  have := q_bt σ (j := w) (a := 0) (b := 4) (by omega) (by decide) (by decide)
  rw [if_pos ⟨Nat.zero_le _, by omega⟩] at this
  exact this
theorem m_wkf (σ : mm_Sg) {x : Int32} (h : ¬ vp_in x 5) : f_X11_isWaker σ x = 0 := q_btf σ (a := 0) (b := 4) (by decide) (by decide) h
/-- a WAKER or nobody -/
def wn (x : Int32) : Prop := vp_in x 5 ∨ x = 9
theorem x_wn (σ : mm_Sg) {x : Int32} (h : wn x) : f_X10_isWakerOrNobody σ x = 1 := by
  unfold f_X10_isWakerOrNobody
  rcases h with h | rfl
  · obtain ⟨w, hw, rfl⟩ := vp_in_of h (by decide)
    rw [x_wk σ hw]; rfl
  · rfl
theorem x_wnf (σ : mm_Sg) {x : Int32} (h : ¬ wn x) : f_X10_isWakerOrNobody σ x = 0 := by
  unfold f_X10_isWakerOrNobody
  rw [x_wkf σ (fun z => h (Or.inl z)), if_neg (fun z => z rfl), if_pos (fun z => h (Or.inr z))]
theorem m_wn (σ : mm_Sg) {x : Int32} (h : wn x) : f_X11_isWakerOrNone σ x = 1 := by
  unfold f_X11_isWakerOrNone
  rcases h with h | rfl
  · obtain ⟨w, hw, rfl⟩ := vp_in_of h (by decide)
    rw [m_wk σ hw]; rfl
  · rfl
theorem m_wnf (σ : mm_Sg) {x : Int32} (h : ¬ wn x) : f_X11_isWakerOrNone σ x = 0 := by
  unfold f_X11_isWakerOrNone
  rw [m_wkf σ (fun z => h (Or.inl z)), if_neg (fun z => z rfl), if_pos (fun z => h (Or.inr z))]
theorem x_sh (σ : mm_Sg) {d : Nat} (hd : d < 8) : f_X10_isShelf σ (nI d) = 1 := by
  have : ∀ d, d < 8 → (if nI d < (0 : Int32) then (0 : Int32) else (if (8 : Int32) ≤ nI d then (0 : Int32) else (1 : Int32))) = 1 := by decide +kernel
  exact this d hd
theorem x_shf (σ : mm_Sg) {x : Int32} (h : ¬ vp_in x 8) : f_X10_isShelf σ x = 0 := by
  have h1 := ne_vp h
  unfold f_X10_isShelf
  by_cases h2 : x < 0
  · rw [if_pos h2]
  · rw [if_neg h2, if_pos]
    rw [Int32.lt_iff_toInt_lt] at h2
    rw [Int32.le_iff_toInt_le]
    have e1 : (0 : Int32).toInt = 0 := rfl
    have e2 : (8 : Int32).toInt = 8 := rfl
    omega
theorem m_sh (σ : mm_Sg) {d : Nat} (hd : d < 8) : f_X11_isShelf σ (nI d) = 1 := by
  have := q_bt σ (j := d) (a := 0) (b := 7) (by omega) (by decide) (by decide)
  rw [if_pos ⟨Nat.zero_le _, by omega⟩] at this
  exact this
theorem m_shf (σ : mm_Sg) {x : Int32} (h : ¬ vp_in x 8) : f_X11_isShelf σ x = 0 := q_btf σ (a := 0) (b := 7) (by decide) (by decide) h
/-! WHAT HOLDS BETWEEN CALLS -/
/-- a SHELF, on both sides -/
def shv (σ : mm_Sg) (d : Nat) : Prop := ∃ h : Nat, h ≤ 2 ∧ σ (32 + 2 * d) 0 = nI h ∧ σ 59 d = nI h ∧
  (h = 1 → ∃ k f : Nat, k < 8 ∧ f < 10 ∧ σ (32 + 2 * d) 1 = nI k ∧ σ 60 d = nI k ∧ σ (32 + 2 * d) 2 = nI f ∧ σ 61 d = nI f) ∧
  (h = 2 → ∃ s n : Nat, s < 3 ∧ n ≤ 100 ∧ σ (32 + 2 * d) 3 = nI s ∧ σ 62 d = nI s ∧ σ (32 + 2 * d) 4 = nI n ∧ σ 63 d = nI n ∧ (∀ i, i < 100 → σ (33 + 2 * d) i = σ 64 (100 * d + i)) ∧ (s = 0 → ∀ i, i < 100 → -128 ≤ (σ 64 (100 * d + i)).toInt ∧ (σ 64 (100 * d + i)).toInt ≤ 127))
/-- a camp that is kept, on both sides -/
def cpv (σ : mm_Sg) (c a : Nat) (R : Nat → Nat) : Prop := n_wf 999 R ∧ R 4 = 0 ∧ R 5 = 0 ∧ R 6 = 0 ∧ xr σ c R ∧ σ a = ra R
def Inv (σ : mm_Sg) : Prop := (∃ R, cpv σ 10 52 R) ∧ ((σ 0 7 = 0 ∧ σ 51 5 = 0) ∨ (σ 0 7 = 1 ∧ σ 51 5 = 1 ∧ ∃ R, cpv σ 17 54 R)) ∧ z40 σ 53 ∧ z40 σ 54 ∧ z40 σ 55 ∧ ∀ d, d < 8 → shv σ d
theorem cpv_same {σ σ' : mm_Sg} {c a : Nat} {R : Nat → Nat} (h : cpv σ c a R) (hs : ∀ q, c ≤ q → q ≤ c + 5 → σ' q = σ q) (ha : σ' a = σ a) : cpv σ' c a R := ⟨h.1, h.2.1, h.2.2.1, h.2.2.2.1, xr_same h.2.2.2.2.1 hs, by rw [ha]; exact h.2.2.2.2.2⟩
theorem shv_same {σ σ' : mm_Sg} {d : Nat} (h : shv σ d) (h0 : σ' (32 + 2 * d) = σ (32 + 2 * d)) (h1 : σ' (33 + 2 * d) = σ (33 + 2 * d)) (h2 : ∀ q, 59 ≤ q → q ≤ 64 → σ' q = σ q) : shv σ' d := by
  unfold shv
  rw [h0, h1, h2 59 (by omega) (by omega), h2 60 (by omega) (by omega), h2 61 (by omega) (by omega), h2 62 (by omega) (by omega), h2 63 (by omega) (by omega), h2 64 (by omega) (by omega)]
  exact h
/-- the class only looked -/
def XQ (σ σ' : mm_Sg) : Prop := ∀ q, ¬ (24 ≤ q ∧ q ≤ 30) → ¬ (48 ≤ q ∧ q ≤ 50) → σ' q = σ q
/-- the Model only looked -/
def MQ2 (σ σ' : mm_Sg) : Prop := (∀ q, q ≠ 51 → q ≠ 53 → q ≠ 56 → q ≠ 57 → q ≠ 58 → σ' q = σ q) ∧ σ' 51 5 = σ 51 5 ∧ z40 σ' 53
theorem XQ.rf {σ : mm_Sg} : XQ σ σ := fun _ _ _ => rfl
theorem XQ.think {σ σ' : mm_Sg} (h : xTh σ σ') : XQ σ σ' := fun q h1 _ => h q (by omega)
theorem XQ.trans {σ σ' σ2 : mm_Sg} (h : XQ σ σ') (h2 : XQ σ' σ2) : XQ σ σ2 := fun q a b => by rw [h2 q a b, h q a b]
theorem MQ2.think {σ σ' : mm_Sg} {R : Nat → Nat} {D : Nat} (h : mTh σ σ') (hR : σ' 53 = ra R) (hwf : n_wf D R) : MQ2 σ σ' := ⟨fun q _ h1 h2 _ _ => h q h1 h2, by rw [h 51 (by decide) (by decide)], fun i hi => by rw [hR, ra_at, hwf.2.2.2.2.2.2.2.2.2 i hi]; rfl⟩
theorem Inv.look {σ σ1 σ2 : mm_Sg} (h : Inv σ) (hx : XQ σ σ1) (hm : MQ2 σ1 σ2) : Inv σ2 := by
  obtain ⟨⟨R, hR⟩, hi, z53, z54, z55, hs⟩ := h
  have e : ∀ q, ¬ (24 ≤ q ∧ q ≤ 30) → ¬ (48 ≤ q ∧ q ≤ 51) → q ≠ 53 → q ≠ 56 → q ≠ 57 → q ≠ 58 → σ2 q = σ q := fun q a b c d f g => by
    rw [hm.1 q (by omega) c d f g, hx q a (by omega)]
  have e5 : σ2 51 5 = σ 51 5 := by rw [hm.2.1, hx 51 (by omega) (by omega)]
  have z : ∀ q, ¬ (24 ≤ q ∧ q ≤ 30) → ¬ (48 ≤ q ∧ q ≤ 51) → q ≠ 53 → q ≠ 56 → q ≠ 57 → q ≠ 58 → z40 σ q → z40 σ2 q := fun q a b c d f g h i hi => by
    rw [e q a b c d f g]; exact h i hi
  refine ⟨⟨R, cpv_same hR (fun q _ _ => e q (by omega) (by omega) (by omega) (by omega) (by omega) (by omega)) (e 52 (by omega) (by omega) (by omega) (by omega) (by omega) (by omega))⟩, ?_, hm.2.2, z 54 (by omega) (by omega) (by omega) (by omega) (by omega) (by omega) z54, z 55 (by omega) (by omega) (by omega) (by omega) (by omega) (by omega) z55, fun d hd => shv_same (hs d hd) (e _ (by omega) (by omega) (by omega) (by omega) (by omega) (by omega)) (e _ (by omega) (by omega) (by omega) (by omega) (by omega) (by omega)) (fun q _ _ => e q (by omega) (by omega) (by omega) (by omega) (by omega) (by omega))⟩
  rw [e 0 (by omega) (by omega) (by omega) (by omega) (by omega) (by omega), e5]
  rcases hi with hi | ⟨i1, i2, R', hR'⟩
  · exact Or.inl hi
  · exact Or.inr ⟨i1, i2, R', cpv_same hR' (fun q _ _ => e q (by omega) (by omega) (by omega) (by omega) (by omega) (by omega)) (e 54 (by omega) (by omega) (by omega) (by omega) (by omega) (by omega))⟩
theorem MQ2.rf {σ σ1 : mm_Sg} (h : Inv σ) (hx : XQ σ σ1) : MQ2 σ1 σ1 := ⟨fun _ _ _ _ _ _ => rfl, rfl, fun i hi => by rw [hx 53 (by omega) (by omega)]; exact h.2.2.1 i hi⟩
/-- both answer alike, and what holds between calls holds again -/
def FQ (X M : mm_Me) (as : List Value) (σ : mm_Sg) : Prop := ∃ (v : Value) (σ1 σ2 : mm_Sg), mm_Ev X (.ref 0 :: as) σ (some v) σ1 ∧ mm_Ev M (.ref 51 :: as) σ1 (some v) σ2 ∧ Inv σ2
theorem FQ.refuse {X M : mm_Me} {as : List Value} {σ : mm_Sg} (hI : Inv σ) (v : Value) (hx : mm_Ev X (.ref 0 :: as) σ (some v) σ) (hm : mm_Ev M (.ref 51 :: as) σ (some v) σ) : FQ X M as σ := ⟨v, σ, σ, hx, hm, hI⟩
theorem FQ.look {X M : mm_Me} {as : List Value} {σ σ1 σ2 : mm_Sg} (hI : Inv σ) (v : Value) (hx : mm_Ev X (.ref 0 :: as) σ (some v) σ1) (hm : mm_Ev M (.ref 51 :: as) σ1 (some v) σ2) (q1 : XQ σ σ1) (q2 : MQ2 σ1 σ2) : FQ X M as σ := ⟨v, σ1, σ2, hx, hm, hI.look q1 q2⟩
