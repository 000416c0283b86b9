/-! toss and element, of the Model -/
theorem n_toss0 : ∀ k, k < 8 → ∀ f, f < 10 → x_toss (fun _ _ => 0) k f = if nI k = 3 then -15 else if nI k = 7 then -15 else if ¬ nI f = 0 then (if ¬ nI k = 6 then (if nI k = 2 then (100 : Int32) + nI f else if ¬ nI k = 4 then nI f else (100 : Int32) + nI f) else (200 : Int32) + f_X11_costBy (fun _ _ => 0) (nI k) (nI f)) else -15 := by decide +kernel
theorem T_toss {σ : mm_Sg} (hI : Inv σ) (x1 : Int32) : ∃ v, ((∃ d k f, d < 8 ∧ x1 = nI d ∧ k < 8 ∧ f < 10 ∧ σ (32 + 2 * d) 1 = nI k ∧ σ (32 + 2 * d) 2 = nI f ∧ f_X10_refusalUnless σ 0 1 x1 = 0 ∧ v = x_toss σ k f) ∨ (¬ v = 0 ∧ f_X10_refusalUnless σ 0 1 x1 = v)) ∧ mm_Ev mm_m_X11_toss [.ref 51, .int x1] σ (some (.int v)) σ := by
  obtain ⟨-, -, -, -, -, hs⟩ := id hI
  rcases kind_c hs x1 with ⟨d, k, f, hd, rfl, hk, hf, ⟨e1, e2, e3, e4⟩, ru, wk⟩ | ⟨v, v0, ru, wk⟩
  · refine ⟨x_toss σ k f, Or.inl ⟨d, k, f, hd, rfl, hk, hf, e1, e3, ru, rfl⟩, ?_⟩
    have n0 : x_toss σ k f = _ := n_toss0 k hk f hf
    rw [n0]
    refine sg_X11_toss_0 σ _ _ ⟨_, σ, ev_WK σ _, ?_⟩
    rw [wk]
    refine g0a ⟨v_in (N := 8) hd (by decide), v_in (N := 8) hd (by decide), ?_⟩
    rw [nI_clamp (by omega), e2, e4]
    refine ⟨fun h => by rw [if_pos h], fun h => ⟨fun h2 => by rw [if_neg h, if_pos h2], fun h2 => ⟨fun h3 => ⟨fun h4 => ⟨fun h5 => by rw [if_neg h, if_neg h2, if_pos h3, if_pos h4, if_pos h5], fun h5 => ⟨fun h6 => by rw [if_neg h, if_neg h2, if_pos h3, if_pos h4, if_neg h5, if_pos h6], fun h6 => by rw [if_neg h, if_neg h2, if_pos h3, if_pos h4, if_neg h5, if_neg h6]⟩⟩, fun h4 => ⟨_, σ, ev_X11_costBy σ _ _, by rw [if_neg h, if_neg h2, if_pos h3, if_neg h4]; rfl⟩⟩, fun h3 => by rw [if_neg h, if_neg h2, if_neg h3]⟩⟩⟩
  · refine ⟨v, Or.inr ⟨v0, ru⟩, ?_⟩
    refine sg_X11_toss_0 σ _ _ ⟨_, σ, ev_WK σ _, ?_⟩
    rw [wk]
    exact ⟨fun z => absurd z v0, fun _ => rfl⟩
theorem el_inv {σ : mm_Sg} (hI : Inv σ) (x : Int32) : Inv (mm_u σ 51 18 x) := hI.look XQ.rf ⟨fun q h1 _ _ _ _ => mm_u_o h1, mm_u_k (by decide), fun i hi => by rw [mm_u_o (by decide)]; exact hI.2.2.1 i hi⟩
theorem el_np {σ : mm_Sg} {d s n : Nat} {x2 : Int32} (h : rowOf σ d s n) (h2 : ¬ vp_in x2 n) : f_X8_hasPlace σ (32 + 2 * d) x2 = 0 := by
  have h1 := ne_vp h2
  have h4 := h.2.2.2.1
  unfold f_X8_hasPlace
  by_cases c : x2 < 0
  · rw [if_pos c]
  · rw [if_neg c, if_pos]
    rw [h.2.2.2.2.2.2.1]
    rw [Int32.lt_iff_toInt_lt] at c
    have e0 : (0 : Int32).toInt = 0 := rfl
    rw [Int32.le_iff_toInt_le, nI_toInt (by omega)]
    omega
theorem el_nm {σ : mm_Sg} {n : Nat} {x2 : Int32} (hn : n ≤ 100) (h2 : ¬ vp_in x2 n) : f_X11_isIn σ x2 (0 : Int32) (nI n - (1 : Int32)) = 0 := by
  have h1 := ne_vp h2
  have h3 := pk_sub_toInt (a := n) (b := 1) (by omega) (by decide)
  unfold f_X11_isIn
  by_cases c : x2 < 0
  · rw [if_pos c]
  · rw [if_neg c, if_pos]
    rw [Int32.lt_iff_toInt_lt] at c ⊢
    have e0 : (0 : Int32).toInt = 0 := rfl
    rw [show (nI n - (1 : Int32)).toInt = (n : Int) - 1 from h3]
    omega
theorem T_element {σ : mm_Sg} (hI : Inv σ) (x1 x2 : Int32) : ∃ (kk : Nat) (v : Int64) (w : Int64), el_H σ x1 x2 kk v ∧ kk ≤ 2 ∧ mm_Ev mm_m_X11_element [.ref 51, .int x1, .int x2] σ (some (.long w)) (mm_u σ 51 18 (nI kk)) ∧ (kk = 0 → w = v) := by
  obtain ⟨-, -, -, -, -, hs⟩ := id hI
  by_cases h : vp_in x1 8
  · obtain ⟨d, hd, rfl⟩ := vp_in_of h (by decide)
    obtain ⟨q, q2, a, b, -, c2⟩ := hs d hd
    by_cases e2 : q = 2
    · subst e2
      obtain ⟨s, n, p1, p2, p3, p4, p5, p6, p7, p8⟩ := c2 rfl
      have hro : rowOf σ d s n := ⟨a, b, p1, p2, p3, p4, p5, p6, p7, p8⟩
      by_cases h2 : vp_in x2 n
      · obtain ⟨i, hi, rfl⟩ := vp_in_of h2 (by omega)
        refine ⟨0, (σ 64 (100 * d + i)).toInt64, (σ 64 (100 * d + i)).toInt64, Or.inr (Or.inr ⟨d, s, n, i, hd, rfl, hro, hi, rfl, rfl, rfl⟩), by decide, ?_, fun _ => rfl⟩
        refine sg_X11_element_0 σ _ _ _ ⟨_, σ, ev_X11_isShelf σ _, ?_⟩
        rw [m_sh σ hd]
        refine ⟨fun _ => ⟨v_in (N := 8) hd (by decide), ?_⟩, fun z => absurd (show ¬ (1 : Int32) = 0 by decide) z⟩
        rw [nI_clamp (by omega), b, p6]
        refine ⟨fun z => absurd rfl z, fun _ => ⟨v_in (N := 8) hd (by decide), _, σ, ev_X11_isIn σ _ _ _, ?_⟩⟩
        rw [show nI n - (1 : Int32) = nI (n - 1) from pk_sub (b := 1) (by omega), show f_X11_isIn σ (nI i) (0 : Int32) (nI (n - 1)) = 1 from bt_t σ (a := 0) (m := n - 1) ⟨by omega, by omega⟩ (by omega)]
        refine ⟨fun _ => fun σ16 e16 => ⟨fun z => absurd (by rw [e16, mm_u_kk]) z, fun _ => ?_⟩, fun z => absurd (show ¬ (1 : Int32) = 0 by decide) z⟩
        rw [n_hund]
        refine ⟨v_in (N := 800) (by omega) (by decide), ?_⟩
        rw [nI_clamp (by omega), e16, mm_u_o (by decide)]
        rfl
      · refine ⟨2, 0, 0, Or.inr (Or.inl ⟨d, hd, rfl, Or.inr (el_np hro h2), rfl⟩), by decide, ?_, fun z => by omega⟩
        refine sg_X11_element_0 σ _ _ _ ⟨_, σ, ev_X11_isShelf σ _, ?_⟩
        rw [m_sh σ hd]
        refine ⟨fun _ => ⟨v_in (N := 8) hd (by decide), ?_⟩, fun z => absurd (show ¬ (1 : Int32) = 0 by decide) z⟩
        rw [nI_clamp (by omega), b, p6]
        refine ⟨fun z => absurd rfl z, fun _ => ⟨v_in (N := 8) hd (by decide), _, σ, ev_X11_isIn σ _ _ _, ?_⟩⟩
        rw [el_nm p2 h2]
        exact ⟨fun z => absurd rfl z, fun _ => fun σ20 e20 => ⟨fun _ => by rw [e20]; rfl, fun z => absurd (by rw [e20, mm_u_kk]; decide) z⟩⟩
    · have ne : ¬ nI q = (2 : Int32) := fun z => e2 ((nI_eq (b := 2) (by omega) (by decide)).mp z)
      refine ⟨2, 0, 0, Or.inr (Or.inl ⟨d, hd, rfl, Or.inl (by rw [a]; exact ne), rfl⟩), by decide, ?_, fun z => by omega⟩
      refine sg_X11_element_0 σ _ _ _ ⟨_, σ, ev_X11_isShelf σ _, ?_⟩
      rw [m_sh σ hd]
      refine ⟨fun _ => ⟨v_in (N := 8) hd (by decide), ?_⟩, fun z => absurd (show ¬ (1 : Int32) = 0 by decide) z⟩
      rw [nI_clamp (by omega), b]
      exact ⟨fun _ => fun σ7 e7 => ⟨fun _ => by rw [e7]; rfl, fun z => absurd (by rw [e7, mm_u_kk]; decide) z⟩, fun z => absurd ne z⟩
  · refine ⟨1, 0, 0, Or.inl ⟨x_shf σ h, rfl⟩, by decide, ?_, fun z => by omega⟩
    refine sg_X11_element_0 σ _ _ _ ⟨_, σ, ev_X11_isShelf σ _, ?_⟩
    rw [m_shf σ h]
    exact ⟨fun z => absurd rfl z, fun _ => fun σ24 e24 => ⟨fun _ => by rw [e24]; rfl, fun z => absurd (by rw [e24, mm_u_kk]; decide) z⟩⟩
theorem T_thrown (σ : mm_Sg) : mm_Ev mm_m_X11_thrown [.ref 51] σ (some (.int (σ 51 18))) σ := sg_X11_thrown_0 σ _ rfl
