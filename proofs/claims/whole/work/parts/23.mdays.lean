theorem mW_days {σ : mm_Sg} {a D n : Nat} {R : Nat → Nat} (hl : mm_len a = 40) (ha56 : a ≠ 56) (hR : σ a = ra R) (hwf : n_wf D R) (hD : D + n < 2 ^ 19) : ∃ σ', mm_Ev mm_m_X11_daysOn [.ref 51, .ref a, .int (nI n)] σ none σ' ∧ σ' a = ra (n_days n R) ∧ (∀ k, σ' 56 k = σ 56 k + nI (n_cds n R k)) ∧ ∀ q, q ≠ a → q ≠ 56 → σ' q = σ q := by
  obtain ⟨X, g, s', e1, h1, h2, h3⟩ := mm_loop (M := mm_m_X11_daysOn) (α := mm_Sg) (fun j s => (2, [.ref 51, .ref a, .int (nI n), .int (nI j)], [], s)) n
    (fun j s => s a = ra (n_days j R) ∧ (∀ k, s 56 k = σ 56 k + nI (n_cds j R k)) ∧ ∀ q, q ≠ a → q ≠ 56 → s q = σ q) (fun X => ∃ σ', X = (none, σ') ∧ σ' a = ra (n_days n R) ∧ (∀ k, σ' 56 k = σ 56 k + nI (n_cds n R k)) ∧ ∀ q, q ≠ a → q ≠ 56 → σ' q = σ q)
    (fun j s hj ⟨h1, h2, h3⟩ => by
      obtain ⟨s2, g, k1, k2, k3⟩ := mW_day hl ha56 h1 (n_wf_days hwf j) (by omega)
      refine ⟨s2, ⟨k1, fun k => ?_, fun q q1 q2 => by rw [k3 q q1 q2, h3 q q1 q2]⟩, fun X hX => sg_X11_daysOn_2 s a (nI n) (nI j) X ⟨fun z => absurd z (nI_ge hj (by omega)), fun _ => ⟨s2, g, ?_⟩⟩⟩
      · rw [k2 k, h2 k, Int32.add_assoc, nI_add]
        rfl
      · rw [nI_1]
        exact hX)
    (fun s ⟨h1, h2, h3⟩ => ⟨(none, s), sg_X11_daysOn_2 s a (nI n) (nI n) _ ⟨fun _ => rfl, fun z => absurd (nI_le (Nat.le_refl n) (by omega)) z⟩, s, rfl, h1, h2, h3⟩) n 0 σ (by omega) ⟨hR, fun k => by show _ = σ 56 k + nI 0; rw [nI_0]; simp, fun _ _ _ => rfl⟩
  subst e1
  exact ⟨s', sg_X11_daysOn_0 σ a (nI n) _ g, h1, h2, h3⟩
theorem mW_owed {σ : mm_Sg} {a D : Nat} {R : Nat → Nat} (hl : mm_len a = 40) (hR : σ a = ra R) (hwf : n_wf D R) : mm_Ev mm_m_X11_allOwed [.ref a] σ (some (.int (nI (n_owed R)))) σ := by
  have h7 := hwf.1
  have c0 : σ a 0 = nI (R 0) := by rw [hR]; rfl
  obtain ⟨X, g, e1⟩ := mm_loop (M := mm_m_X11_allOwed) (α := Unit) (fun j _ => (4, [.ref a, .int (nI (n_sum (fun k => R (10 + 4 * k)) j)), .int (nI j)], [], σ)) (R 0) (fun _ _ => True) (fun X => X = (some (.int (nI (n_owed R))), σ))
    (fun j _ hj _ => by
      have o3 := n_ofc σ 3 (show j < 7 by omega) (by decide)
      refine ⟨(), trivial, fun X hX => sg_X11_allOwed_4 σ a _ (nI j) X ⟨by rw [hl]; unfold vp_in; decide, fun z => ?_, fun _ => ⟨_, σ, ev_X11_of σ _ _, by rw [hl]; exact o3.2, ?_⟩⟩⟩
      · rw [c0] at z
        exact absurd z (nI_ge hj (by omega))
      · rw [show (f_X11_of σ (nI j) (3 : Int32)).toNatClampNeg = 10 + 4 * j from by rw [show (3 : Int32) = nI 3 from rfl, o3.1]; omega, hR, ra_at, nI_add, nI_1]
        exact hX)
    (fun _ _ => ⟨_, sg_X11_allOwed_4 σ a _ (nI (R 0)) _ ⟨by rw [hl]; unfold vp_in; decide, fun _ => rfl, fun z => absurd (by rw [c0]; exact nI_le (Nat.le_refl _) (by omega)) z⟩, rfl⟩) (R 0) 0 () (by omega) trivial
  subst e1
  exact sg_X11_allOwed_0 σ a _ g
theorem mW_tired {σ : mm_Sg} {a D : Nat} {R : Nat → Nat} (hl : mm_len a = 40) (hR : σ a = ra R) : mm_Ev mm_m_X11_allTired [.ref a] σ (some (.int (nI (n_tiredAll R)))) σ := by
  obtain ⟨X, g, e1⟩ := mm_loop (M := mm_m_X11_allTired) (α := Unit) (fun j _ => (4, [.ref a, .int (nI (n_sum (fun w => R (35 + w)) j)), .int (nI j)], [], σ)) 5 (fun _ _ => True) (fun X => X = (some (.int (nI (n_tiredAll R))), σ))
    (fun j _ hj _ => by
      refine ⟨(), trivial, fun X hX => sg_X11_allTired_4 σ a _ (nI j) X ⟨fun z => absurd z (nI_ge (b := 5) hj (by decide)), fun _ => ⟨by rw [hl, n_35]; exact v_in (by omega) (by decide), ?_⟩⟩⟩
      rw [n_35, nI_clamp (by omega), hR, ra_at, nI_add, nI_1]
      exact hX)
    (fun _ _ => ⟨_, sg_X11_allTired_4 σ a _ (nI 5) _ ⟨fun _ => rfl, fun z => absurd (show (5 : Int32) ≤ nI 5 by decide) z⟩, rfl⟩) 5 0 () rfl trivial
  subst e1
  exact sg_X11_allTired_0 σ a _ g
def n_bits (a : Nat) : Nat := n_sum (fun k => a / 2 ^ k % 2) 5
theorem n_shr0 : ∀ a, a < 32 → ∀ k, k < 5 → ((nI a >>> (nI k &&& 31)) &&& (1 : Int32)) = nI (a / 2 ^ k % 2) := by decide +kernel
theorem mW_bits (σ : mm_Sg) {a : Nat} (ha : a < 32) : mm_Ev mm_m_X11_bits [.int (nI a)] σ (some (.int (nI (n_bits a)))) σ := by
  obtain ⟨X, g, e1⟩ := mm_loop (M := mm_m_X11_bits) (α := Unit) (fun j _ => (4, [.int (nI a), .int (nI (n_sum (fun k => a / 2 ^ k % 2) j)), .int (nI j)], [], σ)) 5 (fun _ _ => True) (fun X => X = (some (.int (nI (n_bits a))), σ))
    (fun j _ hj _ => by
      refine ⟨(), trivial, fun X hX => sg_X11_bits_4 σ _ _ (nI j) X ⟨fun z => absurd z (nI_ge (b := 5) hj (by decide)), fun _ => ?_⟩⟩
      rw [n_shr0 a ha j hj, nI_add, nI_1]
      exact hX)
    (fun _ _ => ⟨_, sg_X11_bits_4 σ _ _ (nI 5) _ ⟨fun _ => rfl, fun z => absurd (show (5 : Int32) ≤ nI 5 by decide) z⟩, rfl⟩) 5 0 () rfl trivial
  subst e1
  exact sg_X11_bits_0 σ _ _ g
/-- what is only thought of: row 53 (and what was drunk) may change -/
def mTh (σ σ' : mm_Sg) : Prop := ∀ q, q ≠ 53 → q ≠ 56 → σ' q = σ q
theorem mW_takes {σ : mm_Sg} {D n : Nat} {R : Nat → Nat} (hR : σ 52 = ra R) (hwf : n_wf D R) (z53 : z40 σ 53) (hD : D + n < 2 ^ 19) : ∃ σ', mm_Ev mm_m_X11_takes [.ref 51, .int (nI n)] σ none σ' ∧ σ' 53 = ra (n_days n R) ∧ mTh σ σ' := by
  have z52 : z40 σ 52 := fun i hi => by rw [hR, ra_at, hwf.2.2.2.2.2.2.2.2.2 i hi]; rfl
  obtain ⟨s1, g1, h1, h2⟩ := mW_copies (a := 52) (b := 53) rfl rfl (by decide) z52 z53
  obtain ⟨s2, g2, k1, -, k3⟩ := mW_days (a := 53) (n := n) (σ := s1) rfl (by decide) (h1.trans hR) hwf hD
  exact ⟨s2, sg_X11_takes_0 σ (nI n) _ ⟨s1, g1, s2, g2, rfl⟩, k1, fun q q1 q2 => by rw [k3 q q1 q2, h2 q q1]⟩
theorem mW_owedNow {σ : mm_Sg} {D n : Nat} {R : Nat → Nat} (hR : σ 52 = ra R) (hwf : n_wf D R) (z53 : z40 σ 53) (hD : D + n < 2 ^ 19) : ∃ σ', mm_Ev mm_m_X11_owedNow [.ref 51, .int (nI n)] σ (some (.int (nI (n_owed (n_days n R))))) σ' ∧ σ' 53 = ra (n_days n R) ∧ mTh σ σ' := by
  obtain ⟨s1, g1, h1, h2⟩ := mW_takes hR hwf z53 hD
  exact ⟨s1, sg_X11_owedNow_0 σ (nI n) _ ⟨s1, g1, _, s1, mW_owed (a := 53) rfl h1 (n_wf_days hwf n), rfl⟩, h1, h2⟩
