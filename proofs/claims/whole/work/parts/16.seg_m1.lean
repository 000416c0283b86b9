/-! pieces of runs, by program -/
theorem sg_X11_isIn_0 (σ : mm_Sg) (x0 : Int32) (x1 : Int32) (x2 : Int32) (R : Option Value × mm_Sg) (h : (((x0 < x1 → (R = (some (.int (0 : Int32)), σ))) ∧ (¬ (x0 < x1) → (((x2 < x0 → (R = (some (.int (0 : Int32)), σ))) ∧ (¬ (x2 < x0) → (R = (some (.int (1 : Int32)), σ))))))))) : mm_Go mm_m_X11_isIn (0, [.int x0, .int x1, .int x2], [], σ) R := by
  refine mm_blk (M := mm_m_X11_isIn) 3 (S' := ((if x0 < x1 then 14 else 5), [.int x0, .int x1, .int x2], [], σ)) (P := []) rfl trivial ?_
  by_cases b1 : x0 < x1
  · rw [if_pos b1]
    have h := h.1 b1
    refine mm_blk (M := mm_m_X11_isIn) 1 (S' := (15, [.int x0, .int x1, .int x2], [.int (0 : Int32)], σ)) (P := []) rfl trivial ?_
    subst h
    exact mm_rt_ ⟨_, _, _, rfl, ⟨_, _, rfl, rfl, rfl, rfl⟩⟩
  · rw [if_neg b1]
    have h := h.2 b1
    refine mm_blk (M := mm_m_X11_isIn) 3 (S' := ((if x2 < x0 then 14 else 10), [.int x0, .int x1, .int x2], [], σ)) (P := []) rfl trivial ?_
    by_cases b2 : x2 < x0
    · rw [if_pos b2]
      have h := h.1 b2
      refine mm_blk (M := mm_m_X11_isIn) 1 (S' := (15, [.int x0, .int x1, .int x2], [.int (0 : Int32)], σ)) (P := []) rfl trivial ?_
      subst h
      exact mm_rt_ ⟨_, _, _, rfl, ⟨_, _, rfl, rfl, rfl, rfl⟩⟩
    · rw [if_neg b2]
      have h := h.2 b2
      refine mm_blk (M := mm_m_X11_isIn) 2 (S' := (15, [.int x0, .int x1, .int x2], [.int (1 : Int32)], σ)) (P := []) rfl trivial ?_
      subst h
      exact mm_rt_ ⟨_, _, _, rfl, ⟨_, _, rfl, rfl, rfl, rfl⟩⟩
theorem sg_X11_least_0 (σ : mm_Sg) (x0 : Int32) (x1 : Int32) (R : Option Value × mm_Sg) (h : (((x1 ≤ x0 → (R = (some (.int x1), σ))) ∧ (¬ (x1 ≤ x0) → (R = (some (.int x0), σ)))))) : mm_Go mm_m_X11_least (0, [.int x0, .int x1], [], σ) R := by
  refine mm_blk (M := mm_m_X11_least) 3 (S' := ((if x1 ≤ x0 then 9 else 5), [.int x0, .int x1], [], σ)) (P := []) rfl trivial ?_
  by_cases b1 : x1 ≤ x0
  · rw [if_pos b1]
    have h := h.1 b1
    refine mm_blk (M := mm_m_X11_least) 1 (S' := (10, [.int x0, .int x1], [.int x1], σ)) (P := []) rfl trivial ?_
    subst h
    exact mm_rt_ ⟨_, _, _, rfl, ⟨_, _, rfl, rfl, rfl, rfl⟩⟩
  · rw [if_neg b1]
    have h := h.2 b1
    refine mm_blk (M := mm_m_X11_least) 2 (S' := (10, [.int x0, .int x1], [.int x0], σ)) (P := []) rfl trivial ?_
    subst h
    exact mm_rt_ ⟨_, _, _, rfl, ⟨_, _, rfl, rfl, rfl, rfl⟩⟩
theorem sg_X11_lessBy_0 (σ : mm_Sg) (x0 : Int32) (x1 : Int32) (R : Option Value × mm_Sg) (h : (((x1 ≤ x0 → (R = (some (.int (x0 - x1)), σ))) ∧ (¬ (x1 ≤ x0) → (R = (some (.int (0 : Int32)), σ)))))) : mm_Go mm_m_X11_lessBy (0, [.int x0, .int x1], [], σ) R := by
  refine mm_blk (M := mm_m_X11_lessBy) 3 (S' := ((if x1 ≤ x0 then 9 else 5), [.int x0, .int x1], [], σ)) (P := []) rfl trivial ?_
  by_cases b1 : x1 ≤ x0
  · rw [if_pos b1]
    have h := h.1 b1
    refine mm_blk (M := mm_m_X11_lessBy) 3 (S' := (12, [.int x0, .int x1], [.int (x0 - x1)], σ)) (P := []) rfl trivial ?_
    subst h
    exact mm_rt_ ⟨_, _, _, rfl, ⟨_, _, rfl, rfl, rfl, rfl⟩⟩
  · rw [if_neg b1]
    have h := h.2 b1
    refine mm_blk (M := mm_m_X11_lessBy) 2 (S' := (12, [.int x0, .int x1], [.int (0 : Int32)], σ)) (P := []) rfl trivial ?_
    subst h
    exact mm_rt_ ⟨_, _, _, rfl, ⟨_, _, rfl, rfl, rfl, rfl⟩⟩
theorem sg_X11_copies_0 (σ : mm_Sg) (q0 : Nat) (q1 : Nat) (R : Option Value × mm_Sg) (h : mm_Go mm_m_X11_copies (2, [.ref q0, .ref q1, .int (0 : Int32)], [], σ) R) : mm_Go mm_m_X11_copies (0, [.ref q0, .ref q1, .null], [], σ) R := by
  refine mm_blk (M := mm_m_X11_copies) 2 (S' := (2, [.ref q0, .ref q1, .int (0 : Int32)], [], σ)) (P := []) rfl trivial ?_
  exact h
theorem sg_X11_copies_2 (σ : mm_Sg) (q0 : Nat) (q1 : Nat) (x2 : Int32) (R : Option Value × mm_Sg) (h : ((((40 : Int32) ≤ x2 → (R = (none, σ))) ∧ (¬ ((40 : Int32) ≤ x2) → ((vp_in x2 (mm_len q0)) ∧ (vp_in x2 (mm_len q1)) ∧ ∀ σ4 : mm_Sg, σ4 = mm_u σ q1 x2.toNatClampNeg (σ q0 x2.toNatClampNeg) → mm_Go mm_m_X11_copies (2, [.ref q0, .ref q1, .int (x2 + (1 : Int32))], [], σ4) R))))) : mm_Go mm_m_X11_copies (2, [.ref q0, .ref q1, .int x2], [], σ) R := by
  refine mm_blk (M := mm_m_X11_copies) 3 (S' := ((if (40 : Int32) ≤ x2 then 20 else 8), [.ref q0, .ref q1, .int x2], [], σ)) (P := []) rfl trivial ?_
  by_cases b1 : (40 : Int32) ≤ x2
  · rw [if_pos b1]
    have h := h.1 b1
    subst h
    exact mm_rt_ ⟨_, _, _, rfl, ⟨rfl, rfl, rfl⟩⟩
  · rw [if_neg b1]
    have h := h.2 b1
    obtain ⟨c2, h⟩ := h
    obtain ⟨c3, h⟩ := h
    refine mm_blk (M := mm_m_X11_copies) 6 (S' := (14, [.ref q0, .ref q1, .int x2], [], mm_u σ q1 x2.toNatClampNeg (σ q0 x2.toNatClampNeg))) (P := [vp_in x2 (mm_len q0), vp_in x2 (mm_len q1)]) rfl ⟨c2, c3, trivial⟩ ?_
    obtain ⟨σ4, e5⟩ : ∃ z, z = mm_u σ q1 x2.toNatClampNeg (σ q0 x2.toNatClampNeg) := ⟨_, rfl⟩
    rw [← e5]
    have h := h σ4 e5
    refine mm_blk (M := mm_m_X11_copies) 2 (S' := (2, [.ref q0, .ref q1, .int (x2 + (1 : Int32))], [], σ4)) (P := []) rfl trivial ?_
    exact h
theorem sg_X11_of_0 (σ : mm_Sg) (x0 : Int32) (x1 : Int32) (R : Option Value × mm_Sg) (h : (R = (some (.int (((7 : Int32) + ((4 : Int32) * x0)) + x1)), σ))) : mm_Go mm_m_X11_of (0, [.int x0, .int x1], [], σ) R := by
  refine mm_blk (M := mm_m_X11_of) 7 (S' := (8, [.int x0, .int x1], [.int (((7 : Int32) + ((4 : Int32) * x0)) + x1)], σ)) (P := []) rfl trivial ?_
  subst h
  exact mm_rt_ ⟨_, _, _, rfl, ⟨_, _, rfl, rfl, rfl, rfl⟩⟩
theorem sg_X11_isDrinker_0 (σ : mm_Sg) (x1 : Int32) (R : Option Value × mm_Sg) (h : (∃ (v3 : Int32) (σ1 : mm_Sg), mm_Ev mm_m_X11_isIn [.int x1, .int (0 : Int32), .int ((σ 52 0) - (1 : Int32))] σ (some (.int v3)) σ1 ∧ ((v3 = 0 ∨ v3 = 1) ∧ R = (some (.int v3), σ1)))) : mm_Go mm_m_X11_isDrinker (0, [.ref 51, .int x1], [], σ) R := by
  refine mm_blk (M := mm_m_X11_isDrinker) 8 (S' := (10, [.ref 51, .int x1], [.int ((σ 52 0) - (1 : Int32)), .int (0 : Int32), .int x1], σ)) (P := [mm_cl 51 = 11, vp_in (0 : Int32) (mm_len 52)]) rfl ⟨rfl, (by unfold vp_in; decide), trivial⟩ ?_
  obtain ⟨v3, σ1, e2, h⟩ := h
  refine mm_cl_ (rest := []) e2 ⟨_, _, _, rfl, rfl, mm_tb_X11_isIn, rfl, rfl, Nat.le_of_ble_eq_true rfl, Nat.le_of_ble_eq_true rfl, trivial⟩ ?_
  obtain ⟨c4, h⟩ := h
  subst h
  exact mm_rt_ ⟨_, _, _, rfl, ⟨_, _, rfl, rfl, rfl, (mm_nb c4)⟩⟩
theorem sg_X11_isWaker_0 (σ : mm_Sg) (x0 : Int32) (R : Option Value × mm_Sg) (h : (∃ (v3 : Int32) (σ1 : mm_Sg), mm_Ev mm_m_X11_isIn [.int x0, .int (0 : Int32), .int (4 : Int32)] σ (some (.int v3)) σ1 ∧ ((v3 = 0 ∨ v3 = 1) ∧ R = (some (.int v3), σ1)))) : mm_Go mm_m_X11_isWaker (0, [.int x0], [], σ) R := by
  refine mm_blk (M := mm_m_X11_isWaker) 3 (S' := (3, [.int x0], [.int (4 : Int32), .int (0 : Int32), .int x0], σ)) (P := []) rfl trivial ?_
  obtain ⟨v3, σ1, e2, h⟩ := h
  refine mm_cl_ (rest := []) e2 ⟨_, _, _, rfl, rfl, mm_tb_X11_isIn, rfl, rfl, Nat.le_of_ble_eq_true rfl, Nat.le_of_ble_eq_true rfl, trivial⟩ ?_
  obtain ⟨c4, h⟩ := h
  subst h
  exact mm_rt_ ⟨_, _, _, rfl, ⟨_, _, rfl, rfl, rfl, (mm_nb c4)⟩⟩
theorem sg_X11_isWakerOrNone_0 (σ : mm_Sg) (x0 : Int32) (R : Option Value × mm_Sg) (h : (∃ (v3 : Int32) (σ1 : mm_Sg), mm_Ev mm_m_X11_isWaker [.int x0] σ (some (.int v3)) σ1 ∧ (((¬ v3 = (0 : Int32) → (R = (some (.int (1 : Int32)), σ1))) ∧ (¬ (¬ v3 = (0 : Int32)) → (((¬ x0 = (9 : Int32) → (R = (some (.int (0 : Int32)), σ1))) ∧ (¬ (¬ x0 = (9 : Int32)) → (R = (some (.int (1 : Int32)), σ1)))))))))) : mm_Go mm_m_X11_isWakerOrNone (0, [.int x0], [], σ) R := by
  refine mm_blk (M := mm_m_X11_isWakerOrNone) 1 (S' := (1, [.int x0], [.int x0], σ)) (P := []) rfl trivial ?_
  obtain ⟨v3, σ1, e2, h⟩ := h
  refine mm_cl_ (rest := []) e2 ⟨_, _, _, rfl, rfl, mm_tb_X11_isWaker, rfl, rfl, Nat.le_of_ble_eq_true rfl, Nat.le_of_ble_eq_true rfl, trivial⟩ ?_
  refine mm_blk (M := mm_m_X11_isWakerOrNone) 1 (S' := ((if ¬ v3 = (0 : Int32) then 13 else 7), [.int x0], [], σ1)) (P := []) rfl trivial ?_
  by_cases b4 : ¬ v3 = (0 : Int32)
  · rw [if_pos b4]
    have h := h.1 b4
    refine mm_blk (M := mm_m_X11_isWakerOrNone) 2 (S' := (18, [.int x0], [.int (1 : Int32)], σ1)) (P := []) rfl trivial ?_
    subst h
    exact mm_rt_ ⟨_, _, _, rfl, ⟨_, _, rfl, rfl, rfl, rfl⟩⟩
  · rw [if_neg b4]
    have h := h.2 b4
    refine mm_blk (M := mm_m_X11_isWakerOrNone) 3 (S' := ((if ¬ x0 = (9 : Int32) then 17 else 13), [.int x0], [], σ1)) (P := []) rfl trivial ?_
    by_cases b5 : ¬ x0 = (9 : Int32)
    · rw [if_pos b5]
      have h := h.1 b5
      refine mm_blk (M := mm_m_X11_isWakerOrNone) 1 (S' := (18, [.int x0], [.int (0 : Int32)], σ1)) (P := []) rfl trivial ?_
      subst h
      exact mm_rt_ ⟨_, _, _, rfl, ⟨_, _, rfl, rfl, rfl, rfl⟩⟩
    · rw [if_neg b5]
      have h := h.2 b5
      refine mm_blk (M := mm_m_X11_isWakerOrNone) 2 (S' := (18, [.int x0], [.int (1 : Int32)], σ1)) (P := []) rfl trivial ?_
      subst h
      exact mm_rt_ ⟨_, _, _, rfl, ⟨_, _, rfl, rfl, rfl, rfl⟩⟩
theorem sg_X11_has_0 (σ : mm_Sg) (x0 : Int32) (x1 : Int32) (R : Option Value × mm_Sg) (h : (((¬ ((x0 >>> (x1 &&& 31)) &&& (1 : Int32)) = (1 : Int32) → (R = (some (.int (0 : Int32)), σ))) ∧ (¬ (¬ ((x0 >>> (x1 &&& 31)) &&& (1 : Int32)) = (1 : Int32)) → (R = (some (.int (1 : Int32)), σ)))))) : mm_Go mm_m_X11_has (0, [.int x0, .int x1], [], σ) R := by
  refine mm_blk (M := mm_m_X11_has) 7 (S' := ((if ¬ ((x0 >>> (x1 &&& 31)) &&& (1 : Int32)) = (1 : Int32) then 13 else 9), [.int x0, .int x1], [], σ)) (P := []) rfl trivial ?_
  by_cases b1 : ¬ ((x0 >>> (x1 &&& 31)) &&& (1 : Int32)) = (1 : Int32)
  · rw [if_pos b1]
    have h := h.1 b1
    refine mm_blk (M := mm_m_X11_has) 1 (S' := (14, [.int x0, .int x1], [.int (0 : Int32)], σ)) (P := []) rfl trivial ?_
    subst h
    exact mm_rt_ ⟨_, _, _, rfl, ⟨_, _, rfl, rfl, rfl, rfl⟩⟩
  · rw [if_neg b1]
    have h := h.2 b1
    refine mm_blk (M := mm_m_X11_has) 2 (S' := (14, [.int x0, .int x1], [.int (1 : Int32)], σ)) (P := []) rfl trivial ?_
    subst h
    exact mm_rt_ ⟨_, _, _, rfl, ⟨_, _, rfl, rfl, rfl, rfl⟩⟩
theorem sg_X11_bits_0 (σ : mm_Sg) (x0 : Int32) (R : Option Value × mm_Sg) (h : mm_Go mm_m_X11_bits (4, [.int x0, .int (0 : Int32), .int (0 : Int32)], [], σ) R) : mm_Go mm_m_X11_bits (0, [.int x0, .null, .null], [], σ) R := by
  refine mm_blk (M := mm_m_X11_bits) 4 (S' := (4, [.int x0, .int (0 : Int32), .int (0 : Int32)], [], σ)) (P := []) rfl trivial ?_
  exact h
theorem sg_X11_bits_4 (σ : mm_Sg) (x0 : Int32) (x1 : Int32) (x2 : Int32) (R : Option Value × mm_Sg) (h : ((((5 : Int32) ≤ x2 → (R = (some (.int x1), σ))) ∧ (¬ ((5 : Int32) ≤ x2) → mm_Go mm_m_X11_bits (4, [.int x0, .int (x1 + ((x0 >>> (x2 &&& 31)) &&& (1 : Int32))), .int (x2 + (1 : Int32))], [], σ) R)))) : mm_Go mm_m_X11_bits (4, [.int x0, .int x1, .int x2], [], σ) R := by
  refine mm_blk (M := mm_m_X11_bits) 3 (S' := ((if (5 : Int32) ≤ x2 then 23 else 9), [.int x0, .int x1, .int x2], [], σ)) (P := []) rfl trivial ?_
  by_cases b1 : (5 : Int32) ≤ x2
  · rw [if_pos b1]
    have h := h.1 b1
    refine mm_blk (M := mm_m_X11_bits) 1 (S' := (24, [.int x0, .int x1, .int x2], [.int x1], σ)) (P := []) rfl trivial ?_
    subst h
    exact mm_rt_ ⟨_, _, _, rfl, ⟨_, _, rfl, rfl, rfl, rfl⟩⟩
  · rw [if_neg b1]
    have h := h.2 b1
    refine mm_blk (M := mm_m_X11_bits) 10 (S' := (4, [.int x0, .int (x1 + ((x0 >>> (x2 &&& 31)) &&& (1 : Int32))), .int (x2 + (1 : Int32))], [], σ)) (P := []) rfl trivial ?_
    exact h
theorem sg_X11_drinksBy_0 (σ : mm_Sg) (x0 : Int32) (x1 : Int32) (x2 : Int32) (R : Option Value × mm_Sg) (h : (((x0 = nI 1 → (R = (some (.int ((2 : Int32) + (x2 - x2 / (2 : Int32) * (2 : Int32)))), σ))) ∧ (¬ (x0 = nI 1) → ((x0 = nI 2 → (R = (some (.int ((2 : Int32) + (x1 / (2 : Int32)))), σ))) ∧ (¬ (x0 = nI 2) → ((x0 = nI 3 → (R = (some (.int (1 : Int32)), σ))) ∧ (¬ (x0 = nI 3) → ((x0 = nI 4 → (R = (some (.int ((2 : Int32) * ((2 : Int32) + (x1 / (2 : Int32))))), σ))) ∧ (¬ (x0 = nI 4) → ((x0 = nI 5 → (((¬ (x2 - x2 / (3 : Int32) * (3 : Int32)) = (0 : Int32) → (R = (some (.int ((2 : Int32) + (x2 - x2 / (2 : Int32) * (2 : Int32)))), σ))) ∧ (¬ (¬ (x2 - x2 / (3 : Int32) * (3 : Int32)) = (0 : Int32)) → (R = (some (.int (0 : Int32)), σ)))))) ∧ (¬ (x0 = nI 5) → ((x0 = nI 6 → (R = (some (.int (((2 : Int32) * ((2 : Int32) + (x1 / (2 : Int32)))) - (1 : Int32))), σ))) ∧ (¬ (x0 = nI 6) → ((x0 = nI 7 → (R = (some (.int (0 : Int32)), σ))) ∧ (¬ (x0 = nI 7) → (R = (some (.int (2 : Int32)), σ)))))))))))))))))) : mm_Go mm_m_X11_drinksBy (0, [.int x0, .int x1, .int x2, .null, .null], [], σ) R := by
  refine mm_blk (M := mm_m_X11_drinksBy) 14 (S' := ((mm_tsw x0 89 1 [56, 58, 61, 63, 68, 80, 87]), [.int x0, .int x1, .int x2, .int ((2 : Int32) + (x2 - x2 / (2 : Int32) * (2 : Int32))), .int ((2 : Int32) + (x1 / (2 : Int32)))], [], σ)) (P := [¬ (2 : Int32) = 0, ¬ (2 : Int32) = 0]) rfl ⟨(by decide), (by decide), trivial⟩ ?_
  by_cases b1 : x0 = nI 1
  · rw [show mm_tsw x0 89 1 [56, 58, 61, 63, 68, 80, 87] = 56 from mm_tsw_t b1]
    have h := h.1 b1
    refine mm_blk (M := mm_m_X11_drinksBy) 1 (S' := (57, [.int x0, .int x1, .int x2, .int ((2 : Int32) + (x2 - x2 / (2 : Int32) * (2 : Int32))), .int ((2 : Int32) + (x1 / (2 : Int32)))], [.int ((2 : Int32) + (x2 - x2 / (2 : Int32) * (2 : Int32)))], σ)) (P := []) rfl trivial ?_
    subst h
    exact mm_rt_ ⟨_, _, _, rfl, ⟨_, _, rfl, rfl, rfl, rfl⟩⟩
  rw [show mm_tsw x0 89 1 [56, 58, 61, 63, 68, 80, 87] = mm_tsw x0 89 2 [58, 61, 63, 68, 80, 87] from mm_tsw_f b1]
  have h := h.2 b1
  by_cases b2 : x0 = nI 2
  · rw [show mm_tsw x0 89 2 [58, 61, 63, 68, 80, 87] = 58 from mm_tsw_t b2]
    have h := h.1 b2
    refine mm_blk (M := mm_m_X11_drinksBy) 1 (S' := (60, [.int x0, .int x1, .int x2, .int ((2 : Int32) + (x2 - x2 / (2 : Int32) * (2 : Int32))), .int ((2 : Int32) + (x1 / (2 : Int32)))], [.int ((2 : Int32) + (x1 / (2 : Int32)))], σ)) (P := []) rfl trivial ?_
    subst h
    exact mm_rt_ ⟨_, _, _, rfl, ⟨_, _, rfl, rfl, rfl, rfl⟩⟩
  rw [show mm_tsw x0 89 2 [58, 61, 63, 68, 80, 87] = mm_tsw x0 89 3 [61, 63, 68, 80, 87] from mm_tsw_f b2]
  have h := h.2 b2
  by_cases b3 : x0 = nI 3
  · rw [show mm_tsw x0 89 3 [61, 63, 68, 80, 87] = 61 from mm_tsw_t b3]
    have h := h.1 b3
    refine mm_blk (M := mm_m_X11_drinksBy) 1 (S' := (62, [.int x0, .int x1, .int x2, .int ((2 : Int32) + (x2 - x2 / (2 : Int32) * (2 : Int32))), .int ((2 : Int32) + (x1 / (2 : Int32)))], [.int (1 : Int32)], σ)) (P := []) rfl trivial ?_
    subst h
    exact mm_rt_ ⟨_, _, _, rfl, ⟨_, _, rfl, rfl, rfl, rfl⟩⟩
  rw [show mm_tsw x0 89 3 [61, 63, 68, 80, 87] = mm_tsw x0 89 4 [63, 68, 80, 87] from mm_tsw_f b3]
  have h := h.2 b3
  by_cases b4 : x0 = nI 4
  · rw [show mm_tsw x0 89 4 [63, 68, 80, 87] = 63 from mm_tsw_t b4]
    have h := h.1 b4
    refine mm_blk (M := mm_m_X11_drinksBy) 3 (S' := (67, [.int x0, .int x1, .int x2, .int ((2 : Int32) + (x2 - x2 / (2 : Int32) * (2 : Int32))), .int ((2 : Int32) + (x1 / (2 : Int32)))], [.int ((2 : Int32) * ((2 : Int32) + (x1 / (2 : Int32))))], σ)) (P := []) rfl trivial ?_
    subst h
    exact mm_rt_ ⟨_, _, _, rfl, ⟨_, _, rfl, rfl, rfl, rfl⟩⟩
  rw [show mm_tsw x0 89 4 [63, 68, 80, 87] = mm_tsw x0 89 5 [68, 80, 87] from mm_tsw_f b4]
  have h := h.2 b4
  by_cases b5 : x0 = nI 5
  · rw [show mm_tsw x0 89 5 [68, 80, 87] = 68 from mm_tsw_t b5]
    have h := h.1 b5
    refine mm_blk (M := mm_m_X11_drinksBy) 4 (S' := ((if ¬ (x2 - x2 / (3 : Int32) * (3 : Int32)) = (0 : Int32) then 78 else 74), [.int x0, .int x1, .int x2, .int ((2 : Int32) + (x2 - x2 / (2 : Int32) * (2 : Int32))), .int ((2 : Int32) + (x1 / (2 : Int32)))], [], σ)) (P := [¬ (3 : Int32) = 0]) rfl ⟨(by decide), trivial⟩ ?_
    by_cases b6 : ¬ (x2 - x2 / (3 : Int32) * (3 : Int32)) = (0 : Int32)
    · rw [if_pos b6]
      have h := h.1 b6
      refine mm_blk (M := mm_m_X11_drinksBy) 1 (S' := (79, [.int x0, .int x1, .int x2, .int ((2 : Int32) + (x2 - x2 / (2 : Int32) * (2 : Int32))), .int ((2 : Int32) + (x1 / (2 : Int32)))], [.int ((2 : Int32) + (x2 - x2 / (2 : Int32) * (2 : Int32)))], σ)) (P := []) rfl trivial ?_
      subst h
      exact mm_rt_ ⟨_, _, _, rfl, ⟨_, _, rfl, rfl, rfl, rfl⟩⟩
    · rw [if_neg b6]
      have h := h.2 b6
      refine mm_blk (M := mm_m_X11_drinksBy) 2 (S' := (79, [.int x0, .int x1, .int x2, .int ((2 : Int32) + (x2 - x2 / (2 : Int32) * (2 : Int32))), .int ((2 : Int32) + (x1 / (2 : Int32)))], [.int (0 : Int32)], σ)) (P := []) rfl trivial ?_
      subst h
      exact mm_rt_ ⟨_, _, _, rfl, ⟨_, _, rfl, rfl, rfl, rfl⟩⟩
  rw [show mm_tsw x0 89 5 [68, 80, 87] = mm_tsw x0 89 6 [80, 87] from mm_tsw_f b5]
  have h := h.2 b5
  by_cases b7 : x0 = nI 6
  · rw [show mm_tsw x0 89 6 [80, 87] = 80 from mm_tsw_t b7]
    have h := h.1 b7
    refine mm_blk (M := mm_m_X11_drinksBy) 5 (S' := (86, [.int x0, .int x1, .int x2, .int ((2 : Int32) + (x2 - x2 / (2 : Int32) * (2 : Int32))), .int ((2 : Int32) + (x1 / (2 : Int32)))], [.int (((2 : Int32) * ((2 : Int32) + (x1 / (2 : Int32)))) - (1 : Int32))], σ)) (P := []) rfl trivial ?_
    subst h
    exact mm_rt_ ⟨_, _, _, rfl, ⟨_, _, rfl, rfl, rfl, rfl⟩⟩
  rw [show mm_tsw x0 89 6 [80, 87] = mm_tsw x0 89 7 [87] from mm_tsw_f b7]
  have h := h.2 b7
  by_cases b8 : x0 = nI 7
  · rw [show mm_tsw x0 89 7 [87] = 87 from mm_tsw_t b8]
    have h := h.1 b8
    refine mm_blk (M := mm_m_X11_drinksBy) 1 (S' := (88, [.int x0, .int x1, .int x2, .int ((2 : Int32) + (x2 - x2 / (2 : Int32) * (2 : Int32))), .int ((2 : Int32) + (x1 / (2 : Int32)))], [.int (0 : Int32)], σ)) (P := []) rfl trivial ?_
    subst h
    exact mm_rt_ ⟨_, _, _, rfl, ⟨_, _, rfl, rfl, rfl, rfl⟩⟩
  rw [show mm_tsw x0 89 7 [87] = mm_tsw x0 89 8 [] from mm_tsw_f b8]
  have h := h.2 b8
  change mm_Go mm_m_X11_drinksBy (89, [.int x0, .int x1, .int x2, .int ((2 : Int32) + (x2 - x2 / (2 : Int32) * (2 : Int32))), .int ((2 : Int32) + (x1 / (2 : Int32)))], [], σ) R
  refine mm_blk (M := mm_m_X11_drinksBy) 1 (S' := (90, [.int x0, .int x1, .int x2, .int ((2 : Int32) + (x2 - x2 / (2 : Int32) * (2 : Int32))), .int ((2 : Int32) + (x1 / (2 : Int32)))], [.int (2 : Int32)], σ)) (P := []) rfl trivial ?_
  subst h
  exact mm_rt_ ⟨_, _, _, rfl, ⟨_, _, rfl, rfl, rfl, rfl⟩⟩
theorem sg_X11_tiresBy_0 (σ : mm_Sg) (x0 : Int32) (x1 : Int32) (x2 : Int32) (R : Option Value × mm_Sg) (h : (((x0 = nI 1 → (R = (some (.int ((2 : Int32) * x2)), σ))) ∧ (¬ (x0 = nI 1) → ((x0 = nI 2 → (R = (some (.int ((4 : Int32) * x2)), σ))) ∧ (¬ (x0 = nI 2) → ((x0 = nI 3 → (R = (some (.int x2), σ))) ∧ (¬ (x0 = nI 3) → ((x0 = nI 4 → (R = (some (.int ((4 : Int32) * x2)), σ))) ∧ (¬ (x0 = nI 4) → ((x0 = nI 5 → (∃ (v8 : Int32) (σ6 : mm_Sg), mm_Ev mm_m_X11_lessBy [.int ((2 : Int32) * x2), .int x1] σ (some (.int v8)) σ6 ∧ (R = (some (.int v8), σ6)))) ∧ (¬ (x0 = nI 5) → ((x0 = nI 6 → (R = (some (.int (0 : Int32)), σ))) ∧ (¬ (x0 = nI 6) → ((x0 = nI 7 → (R = (some (.int (5 : Int32)), σ))) ∧ (¬ (x0 = nI 7) → (R = (some (.int ((3 : Int32) * x2)), σ)))))))))))))))))) : mm_Go mm_m_X11_tiresBy (0, [.int x0, .int x1, .int x2], [], σ) R := by
  refine mm_blk (M := mm_m_X11_tiresBy) 2 (S' := ((mm_tsw x0 66 1 [44, 48, 52, 48, 54, 62, 64]), [.int x0, .int x1, .int x2], [], σ)) (P := []) rfl trivial ?_
  by_cases b1 : x0 = nI 1
  · rw [show mm_tsw x0 66 1 [44, 48, 52, 48, 54, 62, 64] = 44 from mm_tsw_t b1]
    have h := h.1 b1
    refine mm_blk (M := mm_m_X11_tiresBy) 3 (S' := (47, [.int x0, .int x1, .int x2], [.int ((2 : Int32) * x2)], σ)) (P := []) rfl trivial ?_
    subst h
    exact mm_rt_ ⟨_, _, _, rfl, ⟨_, _, rfl, rfl, rfl, rfl⟩⟩
  rw [show mm_tsw x0 66 1 [44, 48, 52, 48, 54, 62, 64] = mm_tsw x0 66 2 [48, 52, 48, 54, 62, 64] from mm_tsw_f b1]
  have h := h.2 b1
  by_cases b2 : x0 = nI 2
  · rw [show mm_tsw x0 66 2 [48, 52, 48, 54, 62, 64] = 48 from mm_tsw_t b2]
    have h := h.1 b2
    refine mm_blk (M := mm_m_X11_tiresBy) 3 (S' := (51, [.int x0, .int x1, .int x2], [.int ((4 : Int32) * x2)], σ)) (P := []) rfl trivial ?_
    subst h
    exact mm_rt_ ⟨_, _, _, rfl, ⟨_, _, rfl, rfl, rfl, rfl⟩⟩
  rw [show mm_tsw x0 66 2 [48, 52, 48, 54, 62, 64] = mm_tsw x0 66 3 [52, 48, 54, 62, 64] from mm_tsw_f b2]
  have h := h.2 b2
  by_cases b3 : x0 = nI 3
  · rw [show mm_tsw x0 66 3 [52, 48, 54, 62, 64] = 52 from mm_tsw_t b3]
    have h := h.1 b3
    refine mm_blk (M := mm_m_X11_tiresBy) 1 (S' := (53, [.int x0, .int x1, .int x2], [.int x2], σ)) (P := []) rfl trivial ?_
    subst h
    exact mm_rt_ ⟨_, _, _, rfl, ⟨_, _, rfl, rfl, rfl, rfl⟩⟩
  rw [show mm_tsw x0 66 3 [52, 48, 54, 62, 64] = mm_tsw x0 66 4 [48, 54, 62, 64] from mm_tsw_f b3]
  have h := h.2 b3
  by_cases b4 : x0 = nI 4
  · rw [show mm_tsw x0 66 4 [48, 54, 62, 64] = 48 from mm_tsw_t b4]
    have h := h.1 b4
    refine mm_blk (M := mm_m_X11_tiresBy) 3 (S' := (51, [.int x0, .int x1, .int x2], [.int ((4 : Int32) * x2)], σ)) (P := []) rfl trivial ?_
    subst h
    exact mm_rt_ ⟨_, _, _, rfl, ⟨_, _, rfl, rfl, rfl, rfl⟩⟩
  rw [show mm_tsw x0 66 4 [48, 54, 62, 64] = mm_tsw x0 66 5 [54, 62, 64] from mm_tsw_f b4]
  have h := h.2 b4
  by_cases b5 : x0 = nI 5
  · rw [show mm_tsw x0 66 5 [54, 62, 64] = 54 from mm_tsw_t b5]
    have h := h.1 b5
    refine mm_blk (M := mm_m_X11_tiresBy) 4 (S' := (58, [.int x0, .int x1, .int x2], [.int x1, .int ((2 : Int32) * x2)], σ)) (P := []) rfl trivial ?_
    obtain ⟨v8, σ6, e7, h⟩ := h
    refine mm_cl_ (rest := []) e7 ⟨_, _, _, rfl, rfl, mm_tb_X11_lessBy, rfl, rfl, Nat.le_of_ble_eq_true rfl, Nat.le_of_ble_eq_true rfl, trivial⟩ ?_
    subst h
    exact mm_rt_ ⟨_, _, _, rfl, ⟨_, _, rfl, rfl, rfl, rfl⟩⟩
  rw [show mm_tsw x0 66 5 [54, 62, 64] = mm_tsw x0 66 6 [62, 64] from mm_tsw_f b5]
  have h := h.2 b5
  by_cases b9 : x0 = nI 6
  · rw [show mm_tsw x0 66 6 [62, 64] = 62 from mm_tsw_t b9]
    have h := h.1 b9
    refine mm_blk (M := mm_m_X11_tiresBy) 1 (S' := (63, [.int x0, .int x1, .int x2], [.int (0 : Int32)], σ)) (P := []) rfl trivial ?_
    subst h
    exact mm_rt_ ⟨_, _, _, rfl, ⟨_, _, rfl, rfl, rfl, rfl⟩⟩
  rw [show mm_tsw x0 66 6 [62, 64] = mm_tsw x0 66 7 [64] from mm_tsw_f b9]
  have h := h.2 b9
  by_cases b10 : x0 = nI 7
  · rw [show mm_tsw x0 66 7 [64] = 64 from mm_tsw_t b10]
    have h := h.1 b10
    refine mm_blk (M := mm_m_X11_tiresBy) 1 (S' := (65, [.int x0, .int x1, .int x2], [.int (5 : Int32)], σ)) (P := []) rfl trivial ?_
    subst h
    exact mm_rt_ ⟨_, _, _, rfl, ⟨_, _, rfl, rfl, rfl, rfl⟩⟩
  rw [show mm_tsw x0 66 7 [64] = mm_tsw x0 66 8 [] from mm_tsw_f b10]
  have h := h.2 b10
  change mm_Go mm_m_X11_tiresBy (66, [.int x0, .int x1, .int x2], [], σ) R
  refine mm_blk (M := mm_m_X11_tiresBy) 3 (S' := (69, [.int x0, .int x1, .int x2], [.int ((3 : Int32) * x2)], σ)) (P := []) rfl trivial ?_
  subst h
  exact mm_rt_ ⟨_, _, _, rfl, ⟨_, _, rfl, rfl, rfl, rfl⟩⟩
theorem sg_X11_owesBy_0 (σ : mm_Sg) (x0 : Int32) (x1 : Int32) (x2 : Int32) (R : Option Value × mm_Sg) (h : (((x0 = nI 2 → (R = (some (.int ((2 : Int32) * x2)), σ))) ∧ (¬ (x0 = nI 2) → ((x0 = nI 3 → (R = (some (.int x2), σ))) ∧ (¬ (x0 = nI 3) → ((x0 = nI 4 → (R = (some (.int ((2 : Int32) * x2)), σ))) ∧ (¬ (x0 = nI 4) → ((x0 = nI 5 → (R = (some (.int x2), σ))) ∧ (¬ (x0 = nI 5) → ((x0 = nI 6 → (((x2 ≤ (0 : Int32) → (R = (some (.int (0 : Int32)), σ))) ∧ (¬ (x2 ≤ (0 : Int32)) → (R = (some (.int (((2 : Int32) * x2) + x1)), σ)))))) ∧ (¬ (x0 = nI 6) → ((x0 = nI 7 → (R = (some (.int (0 : Int32)), σ))) ∧ (¬ (x0 = nI 7) → (R = (some (.int x2), σ)))))))))))))))) : mm_Go mm_m_X11_owesBy (0, [.int x0, .int x1, .int x2], [], σ) R := by
  refine mm_blk (M := mm_m_X11_owesBy) 2 (S' := ((mm_tsw x0 60 2 [40, 60, 40, 60, 44, 58]), [.int x0, .int x1, .int x2], [], σ)) (P := []) rfl trivial ?_
  by_cases b1 : x0 = nI 2
  · rw [show mm_tsw x0 60 2 [40, 60, 40, 60, 44, 58] = 40 from mm_tsw_t b1]
    have h := h.1 b1
    refine mm_blk (M := mm_m_X11_owesBy) 3 (S' := (43, [.int x0, .int x1, .int x2], [.int ((2 : Int32) * x2)], σ)) (P := []) rfl trivial ?_
    subst h
    exact mm_rt_ ⟨_, _, _, rfl, ⟨_, _, rfl, rfl, rfl, rfl⟩⟩
  rw [show mm_tsw x0 60 2 [40, 60, 40, 60, 44, 58] = mm_tsw x0 60 3 [60, 40, 60, 44, 58] from mm_tsw_f b1]
  have h := h.2 b1
  by_cases b2 : x0 = nI 3
  · rw [show mm_tsw x0 60 3 [60, 40, 60, 44, 58] = 60 from mm_tsw_t b2]
    have h := h.1 b2
    refine mm_blk (M := mm_m_X11_owesBy) 1 (S' := (61, [.int x0, .int x1, .int x2], [.int x2], σ)) (P := []) rfl trivial ?_
    subst h
    exact mm_rt_ ⟨_, _, _, rfl, ⟨_, _, rfl, rfl, rfl, rfl⟩⟩
  rw [show mm_tsw x0 60 3 [60, 40, 60, 44, 58] = mm_tsw x0 60 4 [40, 60, 44, 58] from mm_tsw_f b2]
  have h := h.2 b2
  by_cases b3 : x0 = nI 4
  · rw [show mm_tsw x0 60 4 [40, 60, 44, 58] = 40 from mm_tsw_t b3]
    have h := h.1 b3
    refine mm_blk (M := mm_m_X11_owesBy) 3 (S' := (43, [.int x0, .int x1, .int x2], [.int ((2 : Int32) * x2)], σ)) (P := []) rfl trivial ?_
    subst h
    exact mm_rt_ ⟨_, _, _, rfl, ⟨_, _, rfl, rfl, rfl, rfl⟩⟩
  rw [show mm_tsw x0 60 4 [40, 60, 44, 58] = mm_tsw x0 60 5 [60, 44, 58] from mm_tsw_f b3]
  have h := h.2 b3
  by_cases b4 : x0 = nI 5
  · rw [show mm_tsw x0 60 5 [60, 44, 58] = 60 from mm_tsw_t b4]
    have h := h.1 b4
    refine mm_blk (M := mm_m_X11_owesBy) 1 (S' := (61, [.int x0, .int x1, .int x2], [.int x2], σ)) (P := []) rfl trivial ?_
    subst h
    exact mm_rt_ ⟨_, _, _, rfl, ⟨_, _, rfl, rfl, rfl, rfl⟩⟩
  rw [show mm_tsw x0 60 5 [60, 44, 58] = mm_tsw x0 60 6 [44, 58] from mm_tsw_f b4]
  have h := h.2 b4
  by_cases b5 : x0 = nI 6
  · rw [show mm_tsw x0 60 6 [44, 58] = 44 from mm_tsw_t b5]
    have h := h.1 b5
    refine mm_blk (M := mm_m_X11_owesBy) 2 (S' := ((if x2 ≤ (0 : Int32) then 56 else 48), [.int x0, .int x1, .int x2], [], σ)) (P := []) rfl trivial ?_
    by_cases b6 : x2 ≤ (0 : Int32)
    · rw [if_pos b6]
      have h := h.1 b6
      refine mm_blk (M := mm_m_X11_owesBy) 1 (S' := (57, [.int x0, .int x1, .int x2], [.int (0 : Int32)], σ)) (P := []) rfl trivial ?_
      subst h
      exact mm_rt_ ⟨_, _, _, rfl, ⟨_, _, rfl, rfl, rfl, rfl⟩⟩
    · rw [if_neg b6]
      have h := h.2 b6
      refine mm_blk (M := mm_m_X11_owesBy) 6 (S' := (57, [.int x0, .int x1, .int x2], [.int (((2 : Int32) * x2) + x1)], σ)) (P := []) rfl trivial ?_
      subst h
      exact mm_rt_ ⟨_, _, _, rfl, ⟨_, _, rfl, rfl, rfl, rfl⟩⟩
  rw [show mm_tsw x0 60 6 [44, 58] = mm_tsw x0 60 7 [58] from mm_tsw_f b5]
  have h := h.2 b5
  by_cases b7 : x0 = nI 7
  · rw [show mm_tsw x0 60 7 [58] = 58 from mm_tsw_t b7]
    have h := h.1 b7
    refine mm_blk (M := mm_m_X11_owesBy) 1 (S' := (59, [.int x0, .int x1, .int x2], [.int (0 : Int32)], σ)) (P := []) rfl trivial ?_
    subst h
    exact mm_rt_ ⟨_, _, _, rfl, ⟨_, _, rfl, rfl, rfl, rfl⟩⟩
  rw [show mm_tsw x0 60 7 [58] = mm_tsw x0 60 8 [] from mm_tsw_f b7]
  have h := h.2 b7
  change mm_Go mm_m_X11_owesBy (60, [.int x0, .int x1, .int x2], [], σ) R
  refine mm_blk (M := mm_m_X11_owesBy) 1 (S' := (61, [.int x0, .int x1, .int x2], [.int x2], σ)) (P := []) rfl trivial ?_
  subst h
  exact mm_rt_ ⟨_, _, _, rfl, ⟨_, _, rfl, rfl, rfl, rfl⟩⟩
theorem sg_X11_isAwake_0 (σ : mm_Sg) (q0 : Nat) (x1 : Int32) (R : Option Value × mm_Sg) (h : (((x1 = (9 : Int32) → (R = (some (.int (0 : Int32)), σ))) ∧ (¬ (x1 = (9 : Int32)) → ((vp_in (3 : Int32) (mm_len q0)) ∧ ∃ (v5 : Int32) (σ3 : mm_Sg), mm_Ev mm_m_X11_has [.int (σ q0 3), .int x1] σ (some (.int v5)) σ3 ∧ (((¬ v5 = (0 : Int32) → (R = (some (.int (0 : Int32)), σ3))) ∧ (¬ (¬ v5 = (0 : Int32)) → (R = (some (.int (1 : Int32)), σ3)))))))))) : mm_Go mm_m_X11_isAwake (0, [.ref q0, .int x1], [], σ) R := by
  refine mm_blk (M := mm_m_X11_isAwake) 3 (S' := ((if x1 = (9 : Int32) then 20 else 6), [.ref q0, .int x1], [], σ)) (P := []) rfl trivial ?_
  by_cases b1 : x1 = (9 : Int32)
  · rw [if_pos b1]
    have h := h.1 b1
    refine mm_blk (M := mm_m_X11_isAwake) 1 (S' := (21, [.ref q0, .int x1], [.int (0 : Int32)], σ)) (P := []) rfl trivial ?_
    subst h
    exact mm_rt_ ⟨_, _, _, rfl, ⟨_, _, rfl, rfl, rfl, rfl⟩⟩
  · rw [if_neg b1]
    have h := h.2 b1
    obtain ⟨c2, h⟩ := h
    refine mm_blk (M := mm_m_X11_isAwake) 4 (S' := (10, [.ref q0, .int x1], [.int x1, .int (σ q0 3)], σ)) (P := [vp_in (3 : Int32) (mm_len q0)]) rfl ⟨c2, trivial⟩ ?_
    obtain ⟨v5, σ3, e4, h⟩ := h
    refine mm_cl_ (rest := []) e4 ⟨_, _, _, rfl, rfl, mm_tb_X11_has, rfl, rfl, Nat.le_of_ble_eq_true rfl, Nat.le_of_ble_eq_true rfl, trivial⟩ ?_
    refine mm_blk (M := mm_m_X11_isAwake) 1 (S' := ((if ¬ v5 = (0 : Int32) then 20 else 16), [.ref q0, .int x1], [], σ3)) (P := []) rfl trivial ?_
    by_cases b6 : ¬ v5 = (0 : Int32)
    · rw [if_pos b6]
      have h := h.1 b6
      refine mm_blk (M := mm_m_X11_isAwake) 1 (S' := (21, [.ref q0, .int x1], [.int (0 : Int32)], σ3)) (P := []) rfl trivial ?_
      subst h
      exact mm_rt_ ⟨_, _, _, rfl, ⟨_, _, rfl, rfl, rfl, rfl⟩⟩
    · rw [if_neg b6]
      have h := h.2 b6
      refine mm_blk (M := mm_m_X11_isAwake) 2 (S' := (21, [.ref q0, .int x1], [.int (1 : Int32)], σ3)) (P := []) rfl trivial ?_
      subst h
      exact mm_rt_ ⟨_, _, _, rfl, ⟨_, _, rfl, rfl, rfl, rfl⟩⟩
theorem sg_X11_wakesUp_0 (σ : mm_Sg) (q0 : Nat) (x1 : Int32) (R : Option Value × mm_Sg) (h : (∃ (v3 : Int32) (σ1 : mm_Sg), mm_Ev mm_m_X11_isAwake [.ref q0, .int x1] σ (some (.int v3)) σ1 ∧ (((v3 = (0 : Int32) → ((vp_in ((35 : Int32) + x1) (mm_len q0)) ∧ ∃ (v8 : Int32) (σ6 : mm_Sg), mm_Ev mm_m_X11_lessBy [.int (σ1 q0 ((35 : Int32) + x1).toNatClampNeg), .int (15 : Int32)] σ1 (some (.int v8)) σ6 ∧ (∀ σ9 : mm_Sg, σ9 = mm_u σ6 q0 ((35 : Int32) + x1).toNatClampNeg v8 → ((((20 : Int32) ≤ (σ9 q0 ((35 : Int32) + x1).toNatClampNeg) → (R = (none, σ9))) ∧ (¬ ((20 : Int32) ≤ (σ9 q0 ((35 : Int32) + x1).toNatClampNeg)) → ((vp_in (6 : Int32) (mm_len q0)) ∧ ∃ (v15 : Int32) (σ13 : mm_Sg), mm_Ev mm_m_X11_has [.int (σ9 q0 6), .int x1] σ9 (some (.int v15)) σ13 ∧ (((¬ v15 = (0 : Int32) → (R = (none, σ13))) ∧ (¬ (¬ v15 = (0 : Int32)) → ((vp_in (3 : Int32) (mm_len q0)) ∧ ∀ σ18 : mm_Sg, σ18 = mm_u σ13 q0 3 ((σ13 q0 3) &&& (((1 : Int32) <<< (x1 &&& 31)) ^^^ (-1 : Int32))) → (R = (none, σ18))))))))))))) ∧ (¬ (v3 = (0 : Int32)) → (R = (none, σ1))))))) : mm_Go mm_m_X11_wakesUp (0, [.ref q0, .int x1], [], σ) R := by
  refine mm_blk (M := mm_m_X11_wakesUp) 2 (S' := (2, [.ref q0, .int x1], [.int x1, .ref q0], σ)) (P := []) rfl trivial ?_
  obtain ⟨v3, σ1, e2, h⟩ := h
  refine mm_cl_ (rest := []) e2 ⟨_, _, _, rfl, rfl, mm_tb_X11_isAwake, rfl, rfl, Nat.le_of_ble_eq_true rfl, Nat.le_of_ble_eq_true rfl, trivial⟩ ?_
  refine mm_blk (M := mm_m_X11_wakesUp) 1 (S' := ((if v3 = (0 : Int32) then 9 else 8), [.ref q0, .int x1], [], σ1)) (P := []) rfl trivial ?_
  by_cases b4 : v3 = (0 : Int32)
  · rw [if_pos b4]
    have h := h.1 b4
    obtain ⟨c5, h⟩ := h
    refine mm_blk (M := mm_m_X11_wakesUp) 10 (S' := (22, [.ref q0, .int x1], [.int (15 : Int32), .int (σ1 q0 ((35 : Int32) + x1).toNatClampNeg), .int ((35 : Int32) + x1), .ref q0], σ1)) (P := [vp_in ((35 : Int32) + x1) (mm_len q0)]) rfl ⟨c5, trivial⟩ ?_
    obtain ⟨v8, σ6, e7, h⟩ := h
    refine mm_cl_ (rest := [.int ((35 : Int32) + x1), .ref q0]) e7 ⟨_, _, _, rfl, rfl, mm_tb_X11_lessBy, rfl, rfl, Nat.le_of_ble_eq_true rfl, Nat.le_of_ble_eq_true rfl, trivial⟩ ?_
    refine mm_blk (M := mm_m_X11_wakesUp) 1 (S' := (26, [.ref q0, .int x1], [], mm_u σ6 q0 ((35 : Int32) + x1).toNatClampNeg v8)) (P := [vp_in ((35 : Int32) + x1) (mm_len q0)]) rfl ⟨c5, trivial⟩ ?_
    obtain ⟨σ9, e10⟩ : ∃ z, z = mm_u σ6 q0 ((35 : Int32) + x1).toNatClampNeg v8 := ⟨_, rfl⟩
    rw [← e10]
    have h := h σ9 e10
    refine mm_blk (M := mm_m_X11_wakesUp) 7 (S' := ((if (20 : Int32) ≤ (σ9 q0 ((35 : Int32) + x1).toNatClampNeg) then 59 else 37), [.ref q0, .int x1], [], σ9)) (P := [vp_in ((35 : Int32) + x1) (mm_len q0)]) rfl ⟨c5, trivial⟩ ?_
    by_cases b11 : (20 : Int32) ≤ (σ9 q0 ((35 : Int32) + x1).toNatClampNeg)
    · rw [if_pos b11]
      have h := h.1 b11
      subst h
      exact mm_rt_ ⟨_, _, _, rfl, ⟨rfl, rfl, rfl⟩⟩
    · rw [if_neg b11]
      have h := h.2 b11
      obtain ⟨c12, h⟩ := h
      refine mm_blk (M := mm_m_X11_wakesUp) 4 (S' := (42, [.ref q0, .int x1], [.int x1, .int (σ9 q0 6)], σ9)) (P := [vp_in (6 : Int32) (mm_len q0)]) rfl ⟨c12, trivial⟩ ?_
      obtain ⟨v15, σ13, e14, h⟩ := h
      refine mm_cl_ (rest := []) e14 ⟨_, _, _, rfl, rfl, mm_tb_X11_has, rfl, rfl, Nat.le_of_ble_eq_true rfl, Nat.le_of_ble_eq_true rfl, trivial⟩ ?_
      refine mm_blk (M := mm_m_X11_wakesUp) 1 (S' := ((if ¬ v15 = (0 : Int32) then 59 else 48), [.ref q0, .int x1], [], σ13)) (P := []) rfl trivial ?_
      by_cases b16 : ¬ v15 = (0 : Int32)
      · rw [if_pos b16]
        have h := h.1 b16
        subst h
        exact mm_rt_ ⟨_, _, _, rfl, ⟨rfl, rfl, rfl⟩⟩
      · rw [if_neg b16]
        have h := h.2 b16
        obtain ⟨c17, h⟩ := h
        refine mm_blk (M := mm_m_X11_wakesUp) 11 (S' := (59, [.ref q0, .int x1], [], mm_u σ13 q0 3 ((σ13 q0 3) &&& (((1 : Int32) <<< (x1 &&& 31)) ^^^ (-1 : Int32))))) (P := [vp_in (3 : Int32) (mm_len q0), vp_in (3 : Int32) (mm_len q0)]) rfl ⟨c17, c17, trivial⟩ ?_
        obtain ⟨σ18, e19⟩ : ∃ z, z = mm_u σ13 q0 3 ((σ13 q0 3) &&& (((1 : Int32) <<< (x1 &&& 31)) ^^^ (-1 : Int32))) := ⟨_, rfl⟩
        rw [← e19]
        have h := h σ18 e19
        subst h
        exact mm_rt_ ⟨_, _, _, rfl, ⟨rfl, rfl, rfl⟩⟩
  · rw [if_neg b4]
    have h := h.2 b4
    subst h
    exact mm_rt_ ⟨_, _, _, rfl, ⟨rfl, rfl, rfl⟩⟩
theorem sg_X11_drinks_0 (σ : mm_Sg) (q1 : Nat) (x2 : Int32) (R : Option Value × mm_Sg) (h : (∃ (v3 : Int32) (σ1 : mm_Sg), mm_Ev mm_m_X11_of [.int x2, .int (0 : Int32)] σ (some (.int v3)) σ1 ∧ ((vp_in v3 (mm_len q1)) ∧ ∃ (v7 : Int32) (σ5 : mm_Sg), mm_Ev mm_m_X11_of [.int x2, .int (1 : Int32)] σ1 (some (.int v7)) σ5 ∧ ((vp_in v7 (mm_len q1)) ∧ (vp_in (5 : Int32) (mm_len q1)) ∧ ∃ (v12 : Int32) (σ10 : mm_Sg), mm_Ev mm_m_X11_has [.int (σ5 q1 5), .int x2] σ5 (some (.int v12)) σ10 ∧ (((v12 = (0 : Int32) → ((vp_in (1 : Int32) (mm_len q1)) ∧ ∃ (v17 : Int32) (σ15 : mm_Sg), mm_Ev mm_m_X11_drinksBy [.int (σ1 q1 v3.toNatClampNeg), .int (σ5 q1 v7.toNatClampNeg), .int (σ10 q1 1)] σ10 (some (.int v17)) σ15 ∧ ((vp_in (4 : Int32) (mm_len q1)) ∧ ∃ (v21 : Int32) (σ19 : mm_Sg), mm_Ev mm_m_X11_has [.int (σ15 q1 4), .int x2] σ15 (some (.int v21)) σ19 ∧ (((v21 = (0 : Int32) → mm_Go mm_m_X11_drinks (56, [.ref 51, .ref q1, .int x2, .int (σ1 q1 v3.toNatClampNeg), .int (σ5 q1 v7.toNatClampNeg), .null, .null, .null], [.int (v17 / (1 : Int32))], σ19) R) ∧ (¬ (v21 = (0 : Int32)) → mm_Go mm_m_X11_drinks (56, [.ref 51, .ref q1, .int x2, .int (σ1 q1 v3.toNatClampNeg), .int (σ5 q1 v7.toNatClampNeg), .null, .null, .null], [.int (v17 / (2 : Int32))], σ19) R)))))) ∧ (¬ (v12 = (0 : Int32)) → mm_Go mm_m_X11_drinks (56, [.ref 51, .ref q1, .int x2, .int (σ1 q1 v3.toNatClampNeg), .int (σ5 q1 v7.toNatClampNeg), .null, .null, .null], [.int (0 : Int32)], σ10) R))))))) : mm_Go mm_m_X11_drinks (0, [.ref 51, .ref q1, .int x2, .null, .null, .null, .null, .null], [], σ) R := by
  refine mm_blk (M := mm_m_X11_drinks) 3 (S' := (3, [.ref 51, .ref q1, .int x2, .null, .null, .null, .null, .null], [.int (0 : Int32), .int x2, .ref q1], σ)) (P := []) rfl trivial ?_
  obtain ⟨v3, σ1, e2, h⟩ := h
  refine mm_cl_ (rest := [.ref q1]) e2 ⟨_, _, _, rfl, rfl, mm_tb_X11_of, rfl, rfl, Nat.le_of_ble_eq_true rfl, Nat.le_of_ble_eq_true rfl, trivial⟩ ?_
  obtain ⟨c4, h⟩ := h
  refine mm_blk (M := mm_m_X11_drinks) 5 (S' := (11, [.ref 51, .ref q1, .int x2, .int (σ1 q1 v3.toNatClampNeg), .null, .null, .null, .null], [.int (1 : Int32), .int x2, .ref q1], σ1)) (P := [vp_in v3 (mm_len q1)]) rfl ⟨c4, trivial⟩ ?_
  obtain ⟨v7, σ5, e6, h⟩ := h
  refine mm_cl_ (rest := [.ref q1]) e6 ⟨_, _, _, rfl, rfl, mm_tb_X11_of, rfl, rfl, Nat.le_of_ble_eq_true rfl, Nat.le_of_ble_eq_true rfl, trivial⟩ ?_
  obtain ⟨c8, h⟩ := h
  obtain ⟨c9, h⟩ := h
  refine mm_blk (M := mm_m_X11_drinks) 6 (S' := (21, [.ref 51, .ref q1, .int x2, .int (σ1 q1 v3.toNatClampNeg), .int (σ5 q1 v7.toNatClampNeg), .null, .null, .null], [.int x2, .int (σ5 q1 5)], σ5)) (P := [vp_in v7 (mm_len q1), vp_in (5 : Int32) (mm_len q1)]) rfl ⟨c8, c9, trivial⟩ ?_
  obtain ⟨v12, σ10, e11, h⟩ := h
  refine mm_cl_ (rest := []) e11 ⟨_, _, _, rfl, rfl, mm_tb_X11_has, rfl, rfl, Nat.le_of_ble_eq_true rfl, Nat.le_of_ble_eq_true rfl, trivial⟩ ?_
  refine mm_blk (M := mm_m_X11_drinks) 1 (S' := ((if v12 = (0 : Int32) then 31 else 27), [.ref 51, .ref q1, .int x2, .int (σ1 q1 v3.toNatClampNeg), .int (σ5 q1 v7.toNatClampNeg), .null, .null, .null], [], σ10)) (P := []) rfl trivial ?_
  by_cases b13 : v12 = (0 : Int32)
  · rw [if_pos b13]
    have h := h.1 b13
    obtain ⟨c14, h⟩ := h
    refine mm_blk (M := mm_m_X11_drinks) 5 (S' := (37, [.ref 51, .ref q1, .int x2, .int (σ1 q1 v3.toNatClampNeg), .int (σ5 q1 v7.toNatClampNeg), .null, .null, .null], [.int (σ10 q1 1), .int (σ5 q1 v7.toNatClampNeg), .int (σ1 q1 v3.toNatClampNeg)], σ10)) (P := [vp_in (1 : Int32) (mm_len q1)]) rfl ⟨c14, trivial⟩ ?_
    obtain ⟨v17, σ15, e16, h⟩ := h
    refine mm_cl_ (rest := []) e16 ⟨_, _, _, rfl, rfl, mm_tb_X11_drinksBy, rfl, rfl, Nat.le_of_ble_eq_true rfl, Nat.le_of_ble_eq_true rfl, trivial⟩ ?_
    obtain ⟨c18, h⟩ := h
    refine mm_blk (M := mm_m_X11_drinks) 4 (S' := (44, [.ref 51, .ref q1, .int x2, .int (σ1 q1 v3.toNatClampNeg), .int (σ5 q1 v7.toNatClampNeg), .null, .null, .null], [.int x2, .int (σ15 q1 4), .int v17], σ15)) (P := [vp_in (4 : Int32) (mm_len q1)]) rfl ⟨c18, trivial⟩ ?_
    obtain ⟨v21, σ19, e20, h⟩ := h
    refine mm_cl_ (rest := [.int v17]) e20 ⟨_, _, _, rfl, rfl, mm_tb_X11_has, rfl, rfl, Nat.le_of_ble_eq_true rfl, Nat.le_of_ble_eq_true rfl, trivial⟩ ?_
    refine mm_blk (M := mm_m_X11_drinks) 1 (S' := ((if v21 = (0 : Int32) then 54 else 50), [.ref 51, .ref q1, .int x2, .int (σ1 q1 v3.toNatClampNeg), .int (σ5 q1 v7.toNatClampNeg), .null, .null, .null], [.int v17], σ19)) (P := []) rfl trivial ?_
    by_cases b22 : v21 = (0 : Int32)
    · rw [if_pos b22]
      have h := h.1 b22
      refine mm_blk (M := mm_m_X11_drinks) 2 (S' := (56, [.ref 51, .ref q1, .int x2, .int (σ1 q1 v3.toNatClampNeg), .int (σ5 q1 v7.toNatClampNeg), .null, .null, .null], [.int (v17 / (1 : Int32))], σ19)) (P := [¬ (1 : Int32) = 0]) rfl ⟨(by decide), trivial⟩ ?_
      exact h
    · rw [if_neg b22]
      have h := h.2 b22
      refine mm_blk (M := mm_m_X11_drinks) 3 (S' := (56, [.ref 51, .ref q1, .int x2, .int (σ1 q1 v3.toNatClampNeg), .int (σ5 q1 v7.toNatClampNeg), .null, .null, .null], [.int (v17 / (2 : Int32))], σ19)) (P := [¬ (2 : Int32) = 0]) rfl ⟨(by decide), trivial⟩ ?_
      exact h
  · rw [if_neg b13]
    have h := h.2 b13
    refine mm_blk (M := mm_m_X11_drinks) 2 (S' := (56, [.ref 51, .ref q1, .int x2, .int (σ1 q1 v3.toNatClampNeg), .int (σ5 q1 v7.toNatClampNeg), .null, .null, .null], [.int (0 : Int32)], σ10)) (P := []) rfl trivial ?_
    exact h
theorem sg_X11_drinks_56 (σ : mm_Sg) (q1 : Nat) (x2 : Int32) (x3 : Int32) (x4 : Int32) (s0 : Int32) (R : Option Value × mm_Sg) (h : ((vp_in (2 : Int32) (mm_len q1)) ∧ ∃ (v4 : Int32) (σ2 : mm_Sg), mm_Ev mm_m_X11_least [.int s0, .int (σ q1 2)] σ (some (.int v4)) σ2 ∧ (∃ (v7 : Int32) (σ5 : mm_Sg), mm_Ev mm_m_X11_of [.int x2, .int (2 : Int32)] σ2 (some (.int v7)) σ5 ∧ ((vp_in v7 (mm_len q1)) ∧ ∀ σ9 : mm_Sg, σ9 = mm_u σ5 q1 2 ((σ5 q1 2) - v4) → ((vp_in x2 (mm_len 56)) ∧ ∀ σ12 : mm_Sg, σ12 = mm_u σ9 56 x2.toNatClampNeg ((σ9 56 x2.toNatClampNeg) + v4) → (∃ (v16 : Int32) (σ14 : mm_Sg), mm_Ev mm_m_X11_isAwake [.ref q1, .int (σ5 q1 v7.toNatClampNeg)] σ12 (some (.int v16)) σ14 ∧ (((v16 = (0 : Int32) → (∃ (v20 : Int32) (σ18 : mm_Sg), mm_Ev mm_m_X11_of [.int x2, .int (3 : Int32)] σ14 (some (.int v20)) σ18 ∧ (∃ (v23 : Int32) (σ21 : mm_Sg), mm_Ev mm_m_X11_of [.int x2, .int (3 : Int32)] σ18 (some (.int v23)) σ21 ∧ ((vp_in v23 (mm_len q1)) ∧ ∃ (v27 : Int32) (σ25 : mm_Sg), mm_Ev mm_m_X11_owesBy [.int x3, .int x4, .int v4] σ21 (some (.int v27)) σ25 ∧ (∃ (v30 : Int32) (σ28 : mm_Sg), mm_Ev mm_m_X11_least [.int (999 : Int32), .int ((σ21 q1 v23.toNatClampNeg) + v27)] σ25 (some (.int v30)) σ28 ∧ ((vp_in v20 (mm_len q1)) ∧ ∀ σ32 : mm_Sg, σ32 = mm_u σ28 q1 v20.toNatClampNeg v30 → (R = (none, σ32)))))))) ∧ (¬ (v16 = (0 : Int32)) → ((vp_in ((35 : Int32) + (σ5 q1 v7.toNatClampNeg)) (mm_len q1)) ∧ ∃ (v37 : Int32) (σ35 : mm_Sg), mm_Ev mm_m_X11_tiresBy [.int x3, .int x4, .int v4] σ14 (some (.int v37)) σ35 ∧ (∃ (v40 : Int32) (σ38 : mm_Sg), mm_Ev mm_m_X11_least [.int (99 : Int32), .int ((σ14 q1 ((35 : Int32) + (σ5 q1 v7.toNatClampNeg)).toNatClampNeg) + v37)] σ35 (some (.int v40)) σ38 ∧ (∀ σ41 : mm_Sg, σ41 = mm_u σ38 q1 ((35 : Int32) + (σ5 q1 v7.toNatClampNeg)).toNatClampNeg v40 → (R = (none, σ41)))))))))))))) : mm_Go mm_m_X11_drinks (56, [.ref 51, .ref q1, .int x2, .int x3, .int x4, .null, .null, .null], [.int s0], σ) R := by
  obtain ⟨c1, h⟩ := h
  refine mm_blk (M := mm_m_X11_drinks) 5 (S' := (63, [.ref 51, .ref q1, .int x2, .int x3, .int x4, .int s0, .null, .null], [.int (σ q1 2), .int s0], σ)) (P := [vp_in (2 : Int32) (mm_len q1)]) rfl ⟨c1, trivial⟩ ?_
  obtain ⟨v4, σ2, e3, h⟩ := h
  refine mm_cl_ (rest := []) e3 ⟨_, _, _, rfl, rfl, mm_tb_X11_least, rfl, rfl, Nat.le_of_ble_eq_true rfl, Nat.le_of_ble_eq_true rfl, trivial⟩ ?_
  refine mm_blk (M := mm_m_X11_drinks) 4 (S' := (71, [.ref 51, .ref q1, .int x2, .int x3, .int x4, .int s0, .int v4, .null], [.int (2 : Int32), .int x2, .ref q1], σ2)) (P := []) rfl trivial ?_
  obtain ⟨v7, σ5, e6, h⟩ := h
  refine mm_cl_ (rest := [.ref q1]) e6 ⟨_, _, _, rfl, rfl, mm_tb_X11_of, rfl, rfl, Nat.le_of_ble_eq_true rfl, Nat.le_of_ble_eq_true rfl, trivial⟩ ?_
  obtain ⟨c8, h⟩ := h
  refine mm_blk (M := mm_m_X11_drinks) 9 (S' := (85, [.ref 51, .ref q1, .int x2, .int x3, .int x4, .int s0, .int v4, .int (σ5 q1 v7.toNatClampNeg)], [], mm_u σ5 q1 2 ((σ5 q1 2) - v4))) (P := [vp_in v7 (mm_len q1), vp_in (2 : Int32) (mm_len q1), vp_in (2 : Int32) (mm_len q1)]) rfl ⟨c8, c1, c1, trivial⟩ ?_
  obtain ⟨σ9, e10⟩ : ∃ z, z = mm_u σ5 q1 2 ((σ5 q1 2) - v4) := ⟨_, rfl⟩
  rw [← e10]
  have h := h σ9 e10
  obtain ⟨c11, h⟩ := h
  refine mm_blk (M := mm_m_X11_drinks) 8 (S' := (96, [.ref 51, .ref q1, .int x2, .int x3, .int x4, .int s0, .int v4, .int (σ5 q1 v7.toNatClampNeg)], [], mm_u σ9 56 x2.toNatClampNeg ((σ9 56 x2.toNatClampNeg) + v4))) (P := [mm_cl 51 = 11, vp_in x2 (mm_len 56), vp_in x2 (mm_len 56)]) rfl ⟨rfl, c11, c11, trivial⟩ ?_
  obtain ⟨σ12, e13⟩ : ∃ z, z = mm_u σ9 56 x2.toNatClampNeg ((σ9 56 x2.toNatClampNeg) + v4) := ⟨_, rfl⟩
  rw [← e13]
  have h := h σ12 e13
  refine mm_blk (M := mm_m_X11_drinks) 2 (S' := (99, [.ref 51, .ref q1, .int x2, .int x3, .int x4, .int s0, .int v4, .int (σ5 q1 v7.toNatClampNeg)], [.int (σ5 q1 v7.toNatClampNeg), .ref q1], σ12)) (P := []) rfl trivial ?_
  obtain ⟨v16, σ14, e15, h⟩ := h
  refine mm_cl_ (rest := []) e15 ⟨_, _, _, rfl, rfl, mm_tb_X11_isAwake, rfl, rfl, Nat.le_of_ble_eq_true rfl, Nat.le_of_ble_eq_true rfl, trivial⟩ ?_
  refine mm_blk (M := mm_m_X11_drinks) 1 (S' := ((if v16 = (0 : Int32) then 136 else 105), [.ref 51, .ref q1, .int x2, .int x3, .int x4, .int s0, .int v4, .int (σ5 q1 v7.toNatClampNeg)], [], σ14)) (P := []) rfl trivial ?_
  by_cases b17 : v16 = (0 : Int32)
  · rw [if_pos b17]
    have h := h.1 b17
    refine mm_blk (M := mm_m_X11_drinks) 3 (S' := (139, [.ref 51, .ref q1, .int x2, .int x3, .int x4, .int s0, .int v4, .int (σ5 q1 v7.toNatClampNeg)], [.int (3 : Int32), .int x2, .ref q1], σ14)) (P := []) rfl trivial ?_
    obtain ⟨v20, σ18, e19, h⟩ := h
    refine mm_cl_ (rest := [.ref q1]) e19 ⟨_, _, _, rfl, rfl, mm_tb_X11_of, rfl, rfl, Nat.le_of_ble_eq_true rfl, Nat.le_of_ble_eq_true rfl, trivial⟩ ?_
    refine mm_blk (M := mm_m_X11_drinks) 4 (S' := (148, [.ref 51, .ref q1, .int x2, .int x3, .int x4, .int s0, .int v4, .int (σ5 q1 v7.toNatClampNeg)], [.int (3 : Int32), .int x2, .ref q1, .int (999 : Int32), .int v20, .ref q1], σ18)) (P := []) rfl trivial ?_
    obtain ⟨v23, σ21, e22, h⟩ := h
    refine mm_cl_ (rest := [.ref q1, .int (999 : Int32), .int v20, .ref q1]) e22 ⟨_, _, _, rfl, rfl, mm_tb_X11_of, rfl, rfl, Nat.le_of_ble_eq_true rfl, Nat.le_of_ble_eq_true rfl, trivial⟩ ?_
    obtain ⟨c24, h⟩ := h
    refine mm_blk (M := mm_m_X11_drinks) 4 (S' := (157, [.ref 51, .ref q1, .int x2, .int x3, .int x4, .int s0, .int v4, .int (σ5 q1 v7.toNatClampNeg)], [.int v4, .int x4, .int x3, .int (σ21 q1 v23.toNatClampNeg), .int (999 : Int32), .int v20, .ref q1], σ21)) (P := [vp_in v23 (mm_len q1)]) rfl ⟨c24, trivial⟩ ?_
    obtain ⟨v27, σ25, e26, h⟩ := h
    refine mm_cl_ (rest := [.int (σ21 q1 v23.toNatClampNeg), .int (999 : Int32), .int v20, .ref q1]) e26 ⟨_, _, _, rfl, rfl, mm_tb_X11_owesBy, rfl, rfl, Nat.le_of_ble_eq_true rfl, Nat.le_of_ble_eq_true rfl, trivial⟩ ?_
    refine mm_blk (M := mm_m_X11_drinks) 1 (S' := (161, [.ref 51, .ref q1, .int x2, .int x3, .int x4, .int s0, .int v4, .int (σ5 q1 v7.toNatClampNeg)], [.int ((σ21 q1 v23.toNatClampNeg) + v27), .int (999 : Int32), .int v20, .ref q1], σ25)) (P := []) rfl trivial ?_
    obtain ⟨v30, σ28, e29, h⟩ := h
    refine mm_cl_ (rest := [.int v20, .ref q1]) e29 ⟨_, _, _, rfl, rfl, mm_tb_X11_least, rfl, rfl, Nat.le_of_ble_eq_true rfl, Nat.le_of_ble_eq_true rfl, trivial⟩ ?_
    obtain ⟨c31, h⟩ := h
    refine mm_blk (M := mm_m_X11_drinks) 1 (S' := (165, [.ref 51, .ref q1, .int x2, .int x3, .int x4, .int s0, .int v4, .int (σ5 q1 v7.toNatClampNeg)], [], mm_u σ28 q1 v20.toNatClampNeg v30)) (P := [vp_in v20 (mm_len q1)]) rfl ⟨c31, trivial⟩ ?_
    obtain ⟨σ32, e33⟩ : ∃ z, z = mm_u σ28 q1 v20.toNatClampNeg v30 := ⟨_, rfl⟩
    rw [← e33]
    have h := h σ32 e33
    subst h
    exact mm_rt_ ⟨_, _, _, rfl, ⟨rfl, rfl, rfl⟩⟩
  · rw [if_neg b17]
    have h := h.2 b17
    obtain ⟨c34, h⟩ := h
    refine mm_blk (M := mm_m_X11_drinks) 13 (S' := (125, [.ref 51, .ref q1, .int x2, .int x3, .int x4, .int s0, .int v4, .int (σ5 q1 v7.toNatClampNeg)], [.int v4, .int x4, .int x3, .int (σ14 q1 ((35 : Int32) + (σ5 q1 v7.toNatClampNeg)).toNatClampNeg), .int (99 : Int32), .int ((35 : Int32) + (σ5 q1 v7.toNatClampNeg)), .ref q1], σ14)) (P := [vp_in ((35 : Int32) + (σ5 q1 v7.toNatClampNeg)) (mm_len q1)]) rfl ⟨c34, trivial⟩ ?_
    obtain ⟨v37, σ35, e36, h⟩ := h
    refine mm_cl_ (rest := [.int (σ14 q1 ((35 : Int32) + (σ5 q1 v7.toNatClampNeg)).toNatClampNeg), .int (99 : Int32), .int ((35 : Int32) + (σ5 q1 v7.toNatClampNeg)), .ref q1]) e36 ⟨_, _, _, rfl, rfl, mm_tb_X11_tiresBy, rfl, rfl, Nat.le_of_ble_eq_true rfl, Nat.le_of_ble_eq_true rfl, trivial⟩ ?_
    refine mm_blk (M := mm_m_X11_drinks) 1 (S' := (129, [.ref 51, .ref q1, .int x2, .int x3, .int x4, .int s0, .int v4, .int (σ5 q1 v7.toNatClampNeg)], [.int ((σ14 q1 ((35 : Int32) + (σ5 q1 v7.toNatClampNeg)).toNatClampNeg) + v37), .int (99 : Int32), .int ((35 : Int32) + (σ5 q1 v7.toNatClampNeg)), .ref q1], σ35)) (P := []) rfl trivial ?_
    obtain ⟨v40, σ38, e39, h⟩ := h
    refine mm_cl_ (rest := [.int ((35 : Int32) + (σ5 q1 v7.toNatClampNeg)), .ref q1]) e39 ⟨_, _, _, rfl, rfl, mm_tb_X11_least, rfl, rfl, Nat.le_of_ble_eq_true rfl, Nat.le_of_ble_eq_true rfl, trivial⟩ ?_
    refine mm_blk (M := mm_m_X11_drinks) 1 (S' := (133, [.ref 51, .ref q1, .int x2, .int x3, .int x4, .int s0, .int v4, .int (σ5 q1 v7.toNatClampNeg)], [], mm_u σ38 q1 ((35 : Int32) + (σ5 q1 v7.toNatClampNeg)).toNatClampNeg v40)) (P := [vp_in ((35 : Int32) + (σ5 q1 v7.toNatClampNeg)) (mm_len q1)]) rfl ⟨c34, trivial⟩ ?_
    obtain ⟨σ41, e42⟩ : ∃ z, z = mm_u σ38 q1 ((35 : Int32) + (σ5 q1 v7.toNatClampNeg)).toNatClampNeg v40 := ⟨_, rfl⟩
    rw [← e42]
    have h := h σ41 e42
    refine mm_blk (M := mm_m_X11_drinks) 1 (S' := (165, [.ref 51, .ref q1, .int x2, .int x3, .int x4, .int s0, .int v4, .int (σ5 q1 v7.toNatClampNeg)], [], σ41)) (P := []) rfl trivial ?_
    subst h
    exact mm_rt_ ⟨_, _, _, rfl, ⟨rfl, rfl, rfl⟩⟩
theorem sg_X11_liesDown_0 (σ : mm_Sg) (q0 : Nat) (x1 : Int32) (R : Option Value × mm_Sg) (h : (∃ (v3 : Int32) (σ1 : mm_Sg), mm_Ev mm_m_X11_isAwake [.ref q0, .int x1] σ (some (.int v3)) σ1 ∧ (((¬ v3 = (0 : Int32) → ((vp_in ((35 : Int32) + x1) (mm_len q0)) ∧ (((σ1 q0 ((35 : Int32) + x1).toNatClampNeg) < (60 : Int32) → (∃ (v9 : Int32) (σ7 : mm_Sg), mm_Ev mm_m_X11_lessBy [.int (σ1 q0 ((35 : Int32) + x1).toNatClampNeg), .int (2 : Int32)] σ1 (some (.int v9)) σ7 ∧ (∀ σ10 : mm_Sg, σ10 = mm_u σ7 q0 ((35 : Int32) + x1).toNatClampNeg v9 → (R = (none, σ10))))) ∧ (¬ ((σ1 q0 ((35 : Int32) + x1).toNatClampNeg) < (60 : Int32)) → ((vp_in (3 : Int32) (mm_len q0)) ∧ ∀ σ13 : mm_Sg, σ13 = mm_u σ1 q0 3 ((σ1 q0 3) ||| ((1 : Int32) <<< (x1 &&& 31))) → (R = (none, σ13))))))) ∧ (¬ (¬ v3 = (0 : Int32)) → (R = (none, σ1))))))) : mm_Go mm_m_X11_liesDown (0, [.ref q0, .int x1], [], σ) R := by
  refine mm_blk (M := mm_m_X11_liesDown) 2 (S' := (2, [.ref q0, .int x1], [.int x1, .ref q0], σ)) (P := []) rfl trivial ?_
  obtain ⟨v3, σ1, e2, h⟩ := h
  refine mm_cl_ (rest := []) e2 ⟨_, _, _, rfl, rfl, mm_tb_X11_isAwake, rfl, rfl, Nat.le_of_ble_eq_true rfl, Nat.le_of_ble_eq_true rfl, trivial⟩ ?_
  refine mm_blk (M := mm_m_X11_liesDown) 1 (S' := ((if ¬ v3 = (0 : Int32) then 9 else 8), [.ref q0, .int x1], [], σ1)) (P := []) rfl trivial ?_
  by_cases b4 : ¬ v3 = (0 : Int32)
  · rw [if_pos b4]
    have h := h.1 b4
    obtain ⟨c5, h⟩ := h
    refine mm_blk (M := mm_m_X11_liesDown) 7 (S' := ((if (σ1 q0 ((35 : Int32) + x1).toNatClampNeg) < (60 : Int32) then 32 else 20), [.ref q0, .int x1], [], σ1)) (P := [vp_in ((35 : Int32) + x1) (mm_len q0)]) rfl ⟨c5, trivial⟩ ?_
    by_cases b6 : (σ1 q0 ((35 : Int32) + x1).toNatClampNeg) < (60 : Int32)
    · rw [if_pos b6]
      have h := h.1 b6
      refine mm_blk (M := mm_m_X11_liesDown) 10 (S' := (44, [.ref q0, .int x1], [.int (2 : Int32), .int (σ1 q0 ((35 : Int32) + x1).toNatClampNeg), .int ((35 : Int32) + x1), .ref q0], σ1)) (P := [vp_in ((35 : Int32) + x1) (mm_len q0)]) rfl ⟨c5, trivial⟩ ?_
      obtain ⟨v9, σ7, e8, h⟩ := h
      refine mm_cl_ (rest := [.int ((35 : Int32) + x1), .ref q0]) e8 ⟨_, _, _, rfl, rfl, mm_tb_X11_lessBy, rfl, rfl, Nat.le_of_ble_eq_true rfl, Nat.le_of_ble_eq_true rfl, trivial⟩ ?_
      refine mm_blk (M := mm_m_X11_liesDown) 1 (S' := (48, [.ref q0, .int x1], [], mm_u σ7 q0 ((35 : Int32) + x1).toNatClampNeg v9)) (P := [vp_in ((35 : Int32) + x1) (mm_len q0)]) rfl ⟨c5, trivial⟩ ?_
      obtain ⟨σ10, e11⟩ : ∃ z, z = mm_u σ7 q0 ((35 : Int32) + x1).toNatClampNeg v9 := ⟨_, rfl⟩
      rw [← e11]
      have h := h σ10 e11
      subst h
      exact mm_rt_ ⟨_, _, _, rfl, ⟨rfl, rfl, rfl⟩⟩
    · rw [if_neg b6]
      have h := h.2 b6
      obtain ⟨c12, h⟩ := h
      refine mm_blk (M := mm_m_X11_liesDown) 9 (S' := (29, [.ref q0, .int x1], [], mm_u σ1 q0 3 ((σ1 q0 3) ||| ((1 : Int32) <<< (x1 &&& 31))))) (P := [vp_in (3 : Int32) (mm_len q0), vp_in (3 : Int32) (mm_len q0)]) rfl ⟨c12, c12, trivial⟩ ?_
      obtain ⟨σ13, e14⟩ : ∃ z, z = mm_u σ1 q0 3 ((σ1 q0 3) ||| ((1 : Int32) <<< (x1 &&& 31))) := ⟨_, rfl⟩
      rw [← e14]
      have h := h σ13 e14
      refine mm_blk (M := mm_m_X11_liesDown) 1 (S' := (48, [.ref q0, .int x1], [], σ13)) (P := []) rfl trivial ?_
      subst h
      exact mm_rt_ ⟨_, _, _, rfl, ⟨rfl, rfl, rfl⟩⟩
  · rw [if_neg b4]
    have h := h.2 b4
    subst h
    exact mm_rt_ ⟨_, _, _, rfl, ⟨rfl, rfl, rfl⟩⟩
theorem sg_X11_day_0 (σ : mm_Sg) (q1 : Nat) (R : Option Value × mm_Sg) (h : ((vp_in (1 : Int32) (mm_len q1)) ∧ ∀ σ2 : mm_Sg, σ2 = mm_u σ q1 1 ((σ q1 1) + (1 : Int32)) → mm_Go mm_m_X11_day (9, [.ref 51, .ref q1, .int (0 : Int32)], [], σ2) R)) : mm_Go mm_m_X11_day (0, [.ref 51, .ref q1, .null], [], σ) R := by
  obtain ⟨c1, h⟩ := h
  refine mm_blk (M := mm_m_X11_day) 7 (S' := (7, [.ref 51, .ref q1, .null], [], mm_u σ q1 1 ((σ q1 1) + (1 : Int32)))) (P := [vp_in (1 : Int32) (mm_len q1), vp_in (1 : Int32) (mm_len q1)]) rfl ⟨c1, c1, trivial⟩ ?_
  obtain ⟨σ2, e3⟩ : ∃ z, z = mm_u σ q1 1 ((σ q1 1) + (1 : Int32)) := ⟨_, rfl⟩
  rw [← e3]
  have h := h σ2 e3
  refine mm_blk (M := mm_m_X11_day) 2 (S' := (9, [.ref 51, .ref q1, .int (0 : Int32)], [], σ2)) (P := []) rfl trivial ?_
  exact h
theorem sg_X11_day_9 (σ : mm_Sg) (q1 : Nat) (x2 : Int32) (R : Option Value × mm_Sg) (h : ((((5 : Int32) ≤ x2 → mm_Go mm_m_X11_day (27, [.ref 51, .ref q1, .int (0 : Int32)], [], σ) R) ∧ (¬ ((5 : Int32) ≤ x2) → (∃ (σ2 : mm_Sg), mm_Ev mm_m_X11_wakesUp [.ref q1, .int x2] σ none σ2 ∧ mm_Go mm_m_X11_day (9, [.ref 51, .ref q1, .int (x2 + (1 : Int32))], [], σ2) R))))) : mm_Go mm_m_X11_day (9, [.ref 51, .ref q1, .int x2], [], σ) R := by
  refine mm_blk (M := mm_m_X11_day) 3 (S' := ((if (5 : Int32) ≤ x2 then 25 else 14), [.ref 51, .ref q1, .int x2], [], σ)) (P := []) rfl trivial ?_
  by_cases b1 : (5 : Int32) ≤ x2
  · rw [if_pos b1]
    have h := h.1 b1
    refine mm_blk (M := mm_m_X11_day) 2 (S' := (27, [.ref 51, .ref q1, .int (0 : Int32)], [], σ)) (P := []) rfl trivial ?_
    exact h
  · rw [if_neg b1]
    have h := h.2 b1
    refine mm_blk (M := mm_m_X11_day) 2 (S' := (16, [.ref 51, .ref q1, .int x2], [.int x2, .ref q1], σ)) (P := []) rfl trivial ?_
    obtain ⟨σ2, e3, h⟩ := h
    refine mm_cl_ (rest := []) e3 ⟨_, _, _, rfl, rfl, mm_tb_X11_wakesUp, rfl, rfl, Nat.le_of_ble_eq_true rfl, Nat.le_of_ble_eq_true rfl, trivial⟩ ?_
    refine mm_blk (M := mm_m_X11_day) 2 (S' := (9, [.ref 51, .ref q1, .int (x2 + (1 : Int32))], [], σ2)) (P := []) rfl trivial ?_
    exact h
theorem sg_X11_day_27 (σ : mm_Sg) (q1 : Nat) (x2 : Int32) (R : Option Value × mm_Sg) (h : ((vp_in (0 : Int32) (mm_len q1)) ∧ (((σ q1 0) ≤ x2 → mm_Go mm_m_X11_day (48, [.ref 51, .ref q1, .int (0 : Int32)], [], σ) R) ∧ (¬ ((σ q1 0) ≤ x2) → (∃ (σ3 : mm_Sg), mm_Ev mm_m_X11_drinks [.ref 51, .ref q1, .int x2] σ none σ3 ∧ mm_Go mm_m_X11_day (27, [.ref 51, .ref q1, .int (x2 + (1 : Int32))], [], σ3) R))))) : mm_Go mm_m_X11_day (27, [.ref 51, .ref q1, .int x2], [], σ) R := by
  obtain ⟨c1, h⟩ := h
  refine mm_blk (M := mm_m_X11_day) 5 (S' := ((if (σ q1 0) ≤ x2 then 46 else 34), [.ref 51, .ref q1, .int x2], [], σ)) (P := [vp_in (0 : Int32) (mm_len q1)]) rfl ⟨c1, trivial⟩ ?_
  by_cases b2 : (σ q1 0) ≤ x2
  · rw [if_pos b2]
    have h := h.1 b2
    refine mm_blk (M := mm_m_X11_day) 2 (S' := (48, [.ref 51, .ref q1, .int (0 : Int32)], [], σ)) (P := []) rfl trivial ?_
    exact h
  · rw [if_neg b2]
    have h := h.2 b2
    refine mm_blk (M := mm_m_X11_day) 3 (S' := (37, [.ref 51, .ref q1, .int x2], [.int x2, .ref q1, .ref 51], σ)) (P := []) rfl trivial ?_
    obtain ⟨σ3, e4, h⟩ := h
    refine mm_cl_ (rest := []) e4 ⟨_, _, _, rfl, rfl, mm_tb_X11_drinks, rfl, rfl, Nat.le_of_ble_eq_true rfl, Nat.le_of_ble_eq_true rfl, ⟨_, rfl, rfl⟩⟩ ?_
    refine mm_blk (M := mm_m_X11_day) 2 (S' := (27, [.ref 51, .ref q1, .int (x2 + (1 : Int32))], [], σ3)) (P := []) rfl trivial ?_
    exact h
theorem sg_X11_day_48 (σ : mm_Sg) (q1 : Nat) (x2 : Int32) (R : Option Value × mm_Sg) (h : ((((5 : Int32) ≤ x2 → (R = (none, σ))) ∧ (¬ ((5 : Int32) ≤ x2) → (∃ (σ2 : mm_Sg), mm_Ev mm_m_X11_liesDown [.ref q1, .int x2] σ none σ2 ∧ mm_Go mm_m_X11_day (48, [.ref 51, .ref q1, .int (x2 + (1 : Int32))], [], σ2) R))))) : mm_Go mm_m_X11_day (48, [.ref 51, .ref q1, .int x2], [], σ) R := by
  refine mm_blk (M := mm_m_X11_day) 3 (S' := ((if (5 : Int32) ≤ x2 then 64 else 53), [.ref 51, .ref q1, .int x2], [], σ)) (P := []) rfl trivial ?_
  by_cases b1 : (5 : Int32) ≤ x2
  · rw [if_pos b1]
    have h := h.1 b1
    subst h
    exact mm_rt_ ⟨_, _, _, rfl, ⟨rfl, rfl, rfl⟩⟩
  · rw [if_neg b1]
    have h := h.2 b1
    refine mm_blk (M := mm_m_X11_day) 2 (S' := (55, [.ref 51, .ref q1, .int x2], [.int x2, .ref q1], σ)) (P := []) rfl trivial ?_
    obtain ⟨σ2, e3, h⟩ := h
    refine mm_cl_ (rest := []) e3 ⟨_, _, _, rfl, rfl, mm_tb_X11_liesDown, rfl, rfl, Nat.le_of_ble_eq_true rfl, Nat.le_of_ble_eq_true rfl, trivial⟩ ?_
    refine mm_blk (M := mm_m_X11_day) 2 (S' := (48, [.ref 51, .ref q1, .int (x2 + (1 : Int32))], [], σ2)) (P := []) rfl trivial ?_
    exact h
theorem sg_X11_daysOn_0 (σ : mm_Sg) (q1 : Nat) (x2 : Int32) (R : Option Value × mm_Sg) (h : mm_Go mm_m_X11_daysOn (2, [.ref 51, .ref q1, .int x2, .int (0 : Int32)], [], σ) R) : mm_Go mm_m_X11_daysOn (0, [.ref 51, .ref q1, .int x2, .null], [], σ) R := by
  refine mm_blk (M := mm_m_X11_daysOn) 2 (S' := (2, [.ref 51, .ref q1, .int x2, .int (0 : Int32)], [], σ)) (P := []) rfl trivial ?_
  exact h
theorem sg_X11_daysOn_2 (σ : mm_Sg) (q1 : Nat) (x2 : Int32) (x3 : Int32) (R : Option Value × mm_Sg) (h : (((x2 ≤ x3 → (R = (none, σ))) ∧ (¬ (x2 ≤ x3) → (∃ (σ2 : mm_Sg), mm_Ev mm_m_X11_day [.ref 51, .ref q1] σ none σ2 ∧ mm_Go mm_m_X11_daysOn (2, [.ref 51, .ref q1, .int x2, .int (x3 + (1 : Int32))], [], σ2) R))))) : mm_Go mm_m_X11_daysOn (2, [.ref 51, .ref q1, .int x2, .int x3], [], σ) R := by
  refine mm_blk (M := mm_m_X11_daysOn) 3 (S' := ((if x2 ≤ x3 then 18 else 7), [.ref 51, .ref q1, .int x2, .int x3], [], σ)) (P := []) rfl trivial ?_
  by_cases b1 : x2 ≤ x3
  · rw [if_pos b1]
    have h := h.1 b1
    subst h
    exact mm_rt_ ⟨_, _, _, rfl, ⟨rfl, rfl, rfl⟩⟩
  · rw [if_neg b1]
    have h := h.2 b1
    refine mm_blk (M := mm_m_X11_daysOn) 2 (S' := (9, [.ref 51, .ref q1, .int x2, .int x3], [.ref q1, .ref 51], σ)) (P := []) rfl trivial ?_
    obtain ⟨σ2, e3, h⟩ := h
    refine mm_cl_ (rest := []) e3 ⟨_, _, _, rfl, rfl, mm_tb_X11_day, rfl, rfl, Nat.le_of_ble_eq_true rfl, Nat.le_of_ble_eq_true rfl, ⟨_, rfl, rfl⟩⟩ ?_
    refine mm_blk (M := mm_m_X11_daysOn) 2 (S' := (2, [.ref 51, .ref q1, .int x2, .int (x3 + (1 : Int32))], [], σ2)) (P := []) rfl trivial ?_
    exact h
theorem sg_X11_allOwed_0 (σ : mm_Sg) (q0 : Nat) (R : Option Value × mm_Sg) (h : mm_Go mm_m_X11_allOwed (4, [.ref q0, .int (0 : Int32), .int (0 : Int32)], [], σ) R) : mm_Go mm_m_X11_allOwed (0, [.ref q0, .null, .null], [], σ) R := by
  refine mm_blk (M := mm_m_X11_allOwed) 4 (S' := (4, [.ref q0, .int (0 : Int32), .int (0 : Int32)], [], σ)) (P := []) rfl trivial ?_
  exact h
theorem sg_X11_allOwed_4 (σ : mm_Sg) (q0 : Nat) (x1 : Int32) (x2 : Int32) (R : Option Value × mm_Sg) (h : ((vp_in (0 : Int32) (mm_len q0)) ∧ (((σ q0 0) ≤ x2 → (R = (some (.int x1), σ))) ∧ (¬ ((σ q0 0) ≤ x2) → (∃ (v5 : Int32) (σ3 : mm_Sg), mm_Ev mm_m_X11_of [.int x2, .int (3 : Int32)] σ (some (.int v5)) σ3 ∧ ((vp_in v5 (mm_len q0)) ∧ mm_Go mm_m_X11_allOwed (4, [.ref q0, .int (x1 + (σ3 q0 v5.toNatClampNeg)), .int (x2 + (1 : Int32))], [], σ3) R)))))) : mm_Go mm_m_X11_allOwed (4, [.ref q0, .int x1, .int x2], [], σ) R := by
  obtain ⟨c1, h⟩ := h
  refine mm_blk (M := mm_m_X11_allOwed) 5 (S' := ((if (σ q0 0) ≤ x2 then 27 else 11), [.ref q0, .int x1, .int x2], [], σ)) (P := [vp_in (0 : Int32) (mm_len q0)]) rfl ⟨c1, trivial⟩ ?_
  by_cases b2 : (σ q0 0) ≤ x2
  · rw [if_pos b2]
    have h := h.1 b2
    refine mm_blk (M := mm_m_X11_allOwed) 1 (S' := (28, [.ref q0, .int x1, .int x2], [.int x1], σ)) (P := []) rfl trivial ?_
    subst h
    exact mm_rt_ ⟨_, _, _, rfl, ⟨_, _, rfl, rfl, rfl, rfl⟩⟩
  · rw [if_neg b2]
    have h := h.2 b2
    refine mm_blk (M := mm_m_X11_allOwed) 4 (S' := (15, [.ref q0, .int x1, .int x2], [.int (3 : Int32), .int x2, .ref q0, .int x1], σ)) (P := []) rfl trivial ?_
    obtain ⟨v5, σ3, e4, h⟩ := h
    refine mm_cl_ (rest := [.ref q0, .int x1]) e4 ⟨_, _, _, rfl, rfl, mm_tb_X11_of, rfl, rfl, Nat.le_of_ble_eq_true rfl, Nat.le_of_ble_eq_true rfl, trivial⟩ ?_
    obtain ⟨c6, h⟩ := h
    refine mm_blk (M := mm_m_X11_allOwed) 5 (S' := (4, [.ref q0, .int (x1 + (σ3 q0 v5.toNatClampNeg)), .int (x2 + (1 : Int32))], [], σ3)) (P := [vp_in v5 (mm_len q0)]) rfl ⟨c6, trivial⟩ ?_
    exact h
theorem sg_X11_allTired_0 (σ : mm_Sg) (q0 : Nat) (R : Option Value × mm_Sg) (h : mm_Go mm_m_X11_allTired (4, [.ref q0, .int (0 : Int32), .int (0 : Int32)], [], σ) R) : mm_Go mm_m_X11_allTired (0, [.ref q0, .null, .null], [], σ) R := by
  refine mm_blk (M := mm_m_X11_allTired) 4 (S' := (4, [.ref q0, .int (0 : Int32), .int (0 : Int32)], [], σ)) (P := []) rfl trivial ?_
  exact h
theorem sg_X11_allTired_4 (σ : mm_Sg) (q0 : Nat) (x1 : Int32) (x2 : Int32) (R : Option Value × mm_Sg) (h : ((((5 : Int32) ≤ x2 → (R = (some (.int x1), σ))) ∧ (¬ ((5 : Int32) ≤ x2) → ((vp_in ((35 : Int32) + x2) (mm_len q0)) ∧ mm_Go mm_m_X11_allTired (4, [.ref q0, .int (x1 + (σ q0 ((35 : Int32) + x2).toNatClampNeg)), .int (x2 + (1 : Int32))], [], σ) R))))) : mm_Go mm_m_X11_allTired (4, [.ref q0, .int x1, .int x2], [], σ) R := by
  refine mm_blk (M := mm_m_X11_allTired) 3 (S' := ((if (5 : Int32) ≤ x2 then 24 else 9), [.ref q0, .int x1, .int x2], [], σ)) (P := []) rfl trivial ?_
  by_cases b1 : (5 : Int32) ≤ x2
  · rw [if_pos b1]
    have h := h.1 b1
    refine mm_blk (M := mm_m_X11_allTired) 1 (S' := (25, [.ref q0, .int x1, .int x2], [.int x1], σ)) (P := []) rfl trivial ?_
    subst h
    exact mm_rt_ ⟨_, _, _, rfl, ⟨_, _, rfl, rfl, rfl, rfl⟩⟩
  · rw [if_neg b1]
    have h := h.2 b1
    obtain ⟨c2, h⟩ := h
    refine mm_blk (M := mm_m_X11_allTired) 10 (S' := (4, [.ref q0, .int (x1 + (σ q0 ((35 : Int32) + x2).toNatClampNeg)), .int (x2 + (1 : Int32))], [], σ)) (P := [vp_in ((35 : Int32) + x2) (mm_len q0)]) rfl ⟨c2, trivial⟩ ?_
    exact h
theorem sg_X11_here_0 (σ : mm_Sg) (R : Option Value × mm_Sg) (h : ((((σ 51 8) ≤ (σ 51 6) → (R = (some (.int (-1 : Int32)), σ))) ∧ (¬ ((σ 51 8) ≤ (σ 51 6)) → ((vp_in ((σ 51 7) + (σ 51 6)) (mm_len 64)) ∧ R = (some (.int ((σ 64 ((σ 51 7) + (σ 51 6)).toNatClampNeg) &&& (255 : Int32))), σ)))))) : mm_Go mm_m_X11_here (0, [.ref 51], [], σ) R := by
  refine mm_blk (M := mm_m_X11_here) 5 (S' := ((if (σ 51 8) ≤ (σ 51 6) then 32 else 11), [.ref 51], [], σ)) (P := [mm_cl 51 = 11, mm_cl 51 = 11]) rfl ⟨rfl, rfl, trivial⟩ ?_
  by_cases b1 : (σ 51 8) ≤ (σ 51 6)
  · rw [if_pos b1]
    have h := h.1 b1
    refine mm_blk (M := mm_m_X11_here) 1 (S' := (33, [.ref 51], [.int (-1 : Int32)], σ)) (P := []) rfl trivial ?_
    subst h
    exact mm_rt_ ⟨_, _, _, rfl, ⟨_, _, rfl, rfl, rfl, rfl⟩⟩
  · rw [if_neg b1]
    have h := h.2 b1
    obtain ⟨c2, h⟩ := h
    refine mm_blk (M := mm_m_X11_here) 11 (S' := (33, [.ref 51], [.int ((σ 64 ((σ 51 7) + (σ 51 6)).toNatClampNeg) &&& (255 : Int32))], σ)) (P := [mm_cl 51 = 11, mm_cl 51 = 11, mm_cl 51 = 11, vp_in ((σ 51 7) + (σ 51 6)) (mm_len 64)]) rfl ⟨rfl, rfl, rfl, c2, trivial⟩ ?_
    subst h
    exact mm_rt_ ⟨_, _, _, rfl, ⟨_, _, rfl, rfl, rfl, rfl⟩⟩
theorem sg_X11_readsNumber_0 (σ : mm_Sg) (x1 : Int32) (x2 : Int32) (R : Option Value × mm_Sg) (h : ((vp_in x1 (mm_len 57)) ∧ ∀ σ2 : mm_Sg, σ2 = mm_u σ 57 x1.toNatClampNeg (0 : Int32) → mm_Go mm_m_X11_readsNumber (9, [.ref 51, .int x1, .int x2, .int (0 : Int32)], [], σ2) R)) : mm_Go mm_m_X11_readsNumber (0, [.ref 51, .int x1, .int x2, .null], [], σ) R := by
  obtain ⟨c1, h⟩ := h
  refine mm_blk (M := mm_m_X11_readsNumber) 5 (S' := (7, [.ref 51, .int x1, .int x2, .null], [], mm_u σ 57 x1.toNatClampNeg (0 : Int32))) (P := [mm_cl 51 = 11, vp_in x1 (mm_len 57)]) rfl ⟨rfl, c1, trivial⟩ ?_
  obtain ⟨σ2, e3⟩ : ∃ z, z = mm_u σ 57 x1.toNatClampNeg (0 : Int32) := ⟨_, rfl⟩
  rw [← e3]
  have h := h σ2 e3
  refine mm_blk (M := mm_m_X11_readsNumber) 2 (S' := (9, [.ref 51, .int x1, .int x2, .int (0 : Int32)], [], σ2)) (P := []) rfl trivial ?_
  exact h
theorem sg_X11_readsNumber_9 (σ : mm_Sg) (x1 : Int32) (x2 : Int32) (x3 : Int32) (R : Option Value × mm_Sg) (h : (((x2 ≤ x3 → (R = (some (.int (1 : Int32)), σ))) ∧ (¬ (x2 ≤ x3) → (∃ (v4 : Int32) (σ2 : mm_Sg), mm_Ev mm_m_X11_here [.ref 51] σ (some (.int v4)) σ2 ∧ (∃ (v7 : Int32) (σ5 : mm_Sg), mm_Ev mm_m_X11_isIn [.int v4, .int (48 : Int32), .int (57 : Int32)] σ2 (some (.int v7)) σ5 ∧ (((¬ v7 = (0 : Int32) → ((vp_in x1 (mm_len 57)) ∧ ∃ (v12 : Int32) (σ10 : mm_Sg), mm_Ev mm_m_X11_here [.ref 51] σ5 (some (.int v12)) σ10 ∧ (∀ σ13 : mm_Sg, σ13 = mm_u σ10 57 x1.toNatClampNeg ((((10 : Int32) * (σ5 57 x1.toNatClampNeg)) + v12) - (48 : Int32)) → (∀ σ15 : mm_Sg, σ15 = mm_u σ13 51 6 ((σ13 51 6) + (1 : Int32)) → mm_Go mm_m_X11_readsNumber (9, [.ref 51, .int x1, .int x2, .int (x3 + (1 : Int32))], [], σ15) R)))) ∧ (¬ (¬ v7 = (0 : Int32)) → (R = (some (.int (0 : Int32)), σ5))))))))))) : mm_Go mm_m_X11_readsNumber (9, [.ref 51, .int x1, .int x2, .int x3], [], σ) R := by
  refine mm_blk (M := mm_m_X11_readsNumber) 3 (S' := ((if x2 ≤ x3 then 69 else 14), [.ref 51, .int x1, .int x2, .int x3], [], σ)) (P := []) rfl trivial ?_
  by_cases b1 : x2 ≤ x3
  · rw [if_pos b1]
    have h := h.1 b1
    refine mm_blk (M := mm_m_X11_readsNumber) 1 (S' := (70, [.ref 51, .int x1, .int x2, .int x3], [.int (1 : Int32)], σ)) (P := []) rfl trivial ?_
    subst h
    exact mm_rt_ ⟨_, _, _, rfl, ⟨_, _, rfl, rfl, rfl, rfl⟩⟩
  · rw [if_neg b1]
    have h := h.2 b1
    refine mm_blk (M := mm_m_X11_readsNumber) 1 (S' := (15, [.ref 51, .int x1, .int x2, .int x3], [.ref 51], σ)) (P := []) rfl trivial ?_
    obtain ⟨v4, σ2, e3, h⟩ := h
    refine mm_cl_ (rest := []) e3 ⟨_, _, _, rfl, rfl, mm_tb_X11_here, rfl, rfl, Nat.le_of_ble_eq_true rfl, Nat.le_of_ble_eq_true rfl, ⟨_, rfl, rfl⟩⟩ ?_
    refine mm_blk (M := mm_m_X11_readsNumber) 2 (S' := (22, [.ref 51, .int x1, .int x2, .int x3], [.int (57 : Int32), .int (48 : Int32), .int v4], σ2)) (P := []) rfl trivial ?_
    obtain ⟨v7, σ5, e6, h⟩ := h
    refine mm_cl_ (rest := []) e6 ⟨_, _, _, rfl, rfl, mm_tb_X11_isIn, rfl, rfl, Nat.le_of_ble_eq_true rfl, Nat.le_of_ble_eq_true rfl, trivial⟩ ?_
    refine mm_blk (M := mm_m_X11_readsNumber) 1 (S' := ((if ¬ v7 = (0 : Int32) then 30 else 28), [.ref 51, .int x1, .int x2, .int x3], [], σ5)) (P := []) rfl trivial ?_
    by_cases b8 : ¬ v7 = (0 : Int32)
    · rw [if_pos b8]
      have h := h.1 b8
      obtain ⟨c9, h⟩ := h
      refine mm_blk (M := mm_m_X11_readsNumber) 10 (S' := (45, [.ref 51, .int x1, .int x2, .int x3], [.ref 51, .int ((10 : Int32) * (σ5 57 x1.toNatClampNeg)), .int x1, .ref 57], σ5)) (P := [mm_cl 51 = 11, mm_cl 51 = 11, vp_in x1 (mm_len 57)]) rfl ⟨rfl, rfl, c9, trivial⟩ ?_
      obtain ⟨v12, σ10, e11, h⟩ := h
      refine mm_cl_ (rest := [.int ((10 : Int32) * (σ5 57 x1.toNatClampNeg)), .int x1, .ref 57]) e11 ⟨_, _, _, rfl, rfl, mm_tb_X11_here, rfl, rfl, Nat.le_of_ble_eq_true rfl, Nat.le_of_ble_eq_true rfl, ⟨_, rfl, rfl⟩⟩ ?_
      refine mm_blk (M := mm_m_X11_readsNumber) 4 (S' := (53, [.ref 51, .int x1, .int x2, .int x3], [], mm_u σ10 57 x1.toNatClampNeg ((((10 : Int32) * (σ5 57 x1.toNatClampNeg)) + v12) - (48 : Int32)))) (P := [vp_in x1 (mm_len 57)]) rfl ⟨c9, trivial⟩ ?_
      obtain ⟨σ13, e14⟩ : ∃ z, z = mm_u σ10 57 x1.toNatClampNeg ((((10 : Int32) * (σ5 57 x1.toNatClampNeg)) + v12) - (48 : Int32)) := ⟨_, rfl⟩
      rw [← e14]
      have h := h σ13 e14
      refine mm_blk (M := mm_m_X11_readsNumber) 6 (S' := (63, [.ref 51, .int x1, .int x2, .int x3], [], mm_u σ13 51 6 ((σ13 51 6) + (1 : Int32)))) (P := [mm_cl 51 = 11, mm_cl 51 = 11]) rfl ⟨rfl, rfl, trivial⟩ ?_
      obtain ⟨σ15, e16⟩ : ∃ z, z = mm_u σ13 51 6 ((σ13 51 6) + (1 : Int32)) := ⟨_, rfl⟩
      rw [← e16]
      have h := h σ15 e16
      refine mm_blk (M := mm_m_X11_readsNumber) 2 (S' := (9, [.ref 51, .int x1, .int x2, .int (x3 + (1 : Int32))], [], σ15)) (P := []) rfl trivial ?_
      exact h
    · rw [if_neg b8]
      have h := h.2 b8
      refine mm_blk (M := mm_m_X11_readsNumber) 1 (S' := (29, [.ref 51, .int x1, .int x2, .int x3], [.int (0 : Int32)], σ5)) (P := []) rfl trivial ?_
      subst h
      exact mm_rt_ ⟨_, _, _, rfl, ⟨_, _, rfl, rfl, rfl, rfl⟩⟩
theorem sg_X11_readsStatement_0 (σ : mm_Sg) (R : Option Value × mm_Sg) (h : (∃ (v3 : Int32) (σ1 : mm_Sg), mm_Ev mm_m_X11_here [.ref 51] σ (some (.int v3)) σ1 ∧ (∀ σ4 : mm_Sg, σ4 = mm_u σ1 51 6 ((σ1 51 6) + (1 : Int32)) → (((v3 = nI 98 → (∃ (v9 : Int32) (σ7 : mm_Sg), mm_Ev mm_m_X11_readsNumber [.ref 51, .int (0 : Int32), .int (3 : Int32)] σ4 (some (.int v9)) σ7 ∧ mm_Go mm_m_X11_readsStatement (264, [.ref 51, .int v3, .int v9], [], σ7) R)) ∧ (¬ (v3 = nI 98) → ((v3 = nI 99 → (∀ σ11 : mm_Sg, σ11 = mm_u σ4 51 6 ((σ4 51 6) - (1 : Int32)) → (R = (some (.int (0 : Int32)), σ11)))) ∧ (¬ (v3 = nI 99) → ((v3 = nI 100 → (∃ (v16 : Int32) (σ14 : mm_Sg), mm_Ev mm_m_X11_readsNumber [.ref 51, .int (0 : Int32), .int (2 : Int32)] σ4 (some (.int v16)) σ14 ∧ mm_Go mm_m_X11_readsStatement (264, [.ref 51, .int v3, .int v16], [], σ14) R)) ∧ (¬ (v3 = nI 100) → ((v3 = nI 101 → (∀ σ18 : mm_Sg, σ18 = mm_u σ4 51 6 ((σ4 51 6) - (1 : Int32)) → (R = (some (.int (0 : Int32)), σ18)))) ∧ (¬ (v3 = nI 101) → ((v3 = nI 102 → (∀ σ21 : mm_Sg, σ21 = mm_u σ4 51 6 ((σ4 51 6) - (1 : Int32)) → (R = (some (.int (0 : Int32)), σ21)))) ∧ (¬ (v3 = nI 102) → ((v3 = nI 103 → (∀ σ24 : mm_Sg, σ24 = mm_u σ4 51 6 ((σ4 51 6) - (1 : Int32)) → (R = (some (.int (0 : Int32)), σ24)))) ∧ (¬ (v3 = nI 103) → ((v3 = nI 104 → (∀ σ27 : mm_Sg, σ27 = mm_u σ4 51 6 ((σ4 51 6) - (1 : Int32)) → (R = (some (.int (0 : Int32)), σ27)))) ∧ (¬ (v3 = nI 104) → ((v3 = nI 105 → (∀ σ30 : mm_Sg, σ30 = mm_u σ4 51 6 ((σ4 51 6) - (1 : Int32)) → (R = (some (.int (0 : Int32)), σ30)))) ∧ (¬ (v3 = nI 105) → ((v3 = nI 106 → (∀ σ33 : mm_Sg, σ33 = mm_u σ4 51 6 ((σ4 51 6) - (1 : Int32)) → (R = (some (.int (0 : Int32)), σ33)))) ∧ (¬ (v3 = nI 106) → ((v3 = nI 107 → (∃ (v38 : Int32) (σ36 : mm_Sg), mm_Ev mm_m_X11_readsNumber [.ref 51, .int (0 : Int32), .int (1 : Int32)] σ4 (some (.int v38)) σ36 ∧ (((v38 = (0 : Int32) → mm_Go mm_m_X11_readsStatement (264, [.ref 51, .int v3, .int (0 : Int32)], [], σ36) R) ∧ (¬ (v38 = (0 : Int32)) → (∃ (v42 : Int32) (σ40 : mm_Sg), mm_Ev mm_m_X11_readsNumber [.ref 51, .int (1 : Int32), .int (1 : Int32)] σ36 (some (.int v42)) σ40 ∧ (((v42 = (0 : Int32) → mm_Go mm_m_X11_readsStatement (264, [.ref 51, .int v3, .int (0 : Int32)], [], σ40) R) ∧ (¬ (v42 = (0 : Int32)) → (∃ (v46 : Int32) (σ44 : mm_Sg), mm_Ev mm_m_X11_readsNumber [.ref 51, .int (2 : Int32), .int (1 : Int32)] σ40 (some (.int v46)) σ44 ∧ (((v46 = (0 : Int32) → mm_Go mm_m_X11_readsStatement (264, [.ref 51, .int v3, .int (0 : Int32)], [], σ44) R) ∧ (¬ (v46 = (0 : Int32)) → mm_Go mm_m_X11_readsStatement (264, [.ref 51, .int v3, .int (1 : Int32)], [], σ44) R))))))))))))) ∧ (¬ (v3 = nI 107) → ((v3 = nI 108 → (∀ σ49 : mm_Sg, σ49 = mm_u σ4 51 6 ((σ4 51 6) - (1 : Int32)) → (R = (some (.int (0 : Int32)), σ49)))) ∧ (¬ (v3 = nI 108) → ((v3 = nI 109 → (∀ σ52 : mm_Sg, σ52 = mm_u σ4 51 6 ((σ4 51 6) - (1 : Int32)) → (R = (some (.int (0 : Int32)), σ52)))) ∧ (¬ (v3 = nI 109) → ((v3 = nI 110 → (∀ σ55 : mm_Sg, σ55 = mm_u σ4 51 6 ((σ4 51 6) - (1 : Int32)) → (R = (some (.int (0 : Int32)), σ55)))) ∧ (¬ (v3 = nI 110) → ((v3 = nI 111 → (∃ (v60 : Int32) (σ58 : mm_Sg), mm_Ev mm_m_X11_readsNumber [.ref 51, .int (0 : Int32), .int (1 : Int32)] σ4 (some (.int v60)) σ58 ∧ (((v60 = (0 : Int32) → mm_Go mm_m_X11_readsStatement (264, [.ref 51, .int v3, .int (0 : Int32)], [], σ58) R) ∧ (¬ (v60 = (0 : Int32)) → (∃ (v64 : Int32) (σ62 : mm_Sg), mm_Ev mm_m_X11_readsNumber [.ref 51, .int (1 : Int32), .int (2 : Int32)] σ58 (some (.int v64)) σ62 ∧ (((v64 = (0 : Int32) → mm_Go mm_m_X11_readsStatement (264, [.ref 51, .int v3, .int (0 : Int32)], [], σ62) R) ∧ (¬ (v64 = (0 : Int32)) → mm_Go mm_m_X11_readsStatement (264, [.ref 51, .int v3, .int (1 : Int32)], [], σ62) R))))))))) ∧ (¬ (v3 = nI 111) → ((v3 = nI 112 → (∀ σ67 : mm_Sg, σ67 = mm_u σ4 51 6 ((σ4 51 6) - (1 : Int32)) → (R = (some (.int (0 : Int32)), σ67)))) ∧ (¬ (v3 = nI 112) → ((v3 = nI 113 → (∀ σ70 : mm_Sg, σ70 = mm_u σ4 51 6 ((σ4 51 6) - (1 : Int32)) → (R = (some (.int (0 : Int32)), σ70)))) ∧ (¬ (v3 = nI 113) → ((v3 = nI 114 → (∀ σ73 : mm_Sg, σ73 = mm_u σ4 51 6 ((σ4 51 6) - (1 : Int32)) → (R = (some (.int (0 : Int32)), σ73)))) ∧ (¬ (v3 = nI 114) → ((v3 = nI 115 → (∀ σ76 : mm_Sg, σ76 = mm_u σ4 51 6 ((σ4 51 6) - (1 : Int32)) → (R = (some (.int (0 : Int32)), σ76)))) ∧ (¬ (v3 = nI 115) → ((v3 = nI 116 → (∃ (v81 : Int32) (σ79 : mm_Sg), mm_Ev mm_m_X11_readsNumber [.ref 51, .int (0 : Int32), .int (1 : Int32)] σ4 (some (.int v81)) σ79 ∧ (((v81 = (0 : Int32) → mm_Go mm_m_X11_readsStatement (264, [.ref 51, .int v3, .int (0 : Int32)], [], σ79) R) ∧ (¬ (v81 = (0 : Int32)) → (∃ (v85 : Int32) (σ83 : mm_Sg), mm_Ev mm_m_X11_readsNumber [.ref 51, .int (1 : Int32), .int (2 : Int32)] σ79 (some (.int v85)) σ83 ∧ (((v85 = (0 : Int32) → mm_Go mm_m_X11_readsStatement (264, [.ref 51, .int v3, .int (0 : Int32)], [], σ83) R) ∧ (¬ (v85 = (0 : Int32)) → mm_Go mm_m_X11_readsStatement (264, [.ref 51, .int v3, .int (1 : Int32)], [], σ83) R))))))))) ∧ (¬ (v3 = nI 116) → ((v3 = nI 117 → (∀ σ88 : mm_Sg, σ88 = mm_u σ4 51 6 ((σ4 51 6) - (1 : Int32)) → (R = (some (.int (0 : Int32)), σ88)))) ∧ (¬ (v3 = nI 117) → ((v3 = nI 118 → (∀ σ91 : mm_Sg, σ91 = mm_u σ4 51 6 ((σ4 51 6) - (1 : Int32)) → (R = (some (.int (0 : Int32)), σ91)))) ∧ (¬ (v3 = nI 118) → ((v3 = nI 119 → (∃ (v96 : Int32) (σ94 : mm_Sg), mm_Ev mm_m_X11_readsNumber [.ref 51, .int (0 : Int32), .int (1 : Int32)] σ4 (some (.int v96)) σ94 ∧ (((v96 = (0 : Int32) → mm_Go mm_m_X11_readsStatement (264, [.ref 51, .int v3, .int (0 : Int32)], [], σ94) R) ∧ (¬ (v96 = (0 : Int32)) → (∃ (v100 : Int32) (σ98 : mm_Sg), mm_Ev mm_m_X11_readsNumber [.ref 51, .int (1 : Int32), .int (1 : Int32)] σ94 (some (.int v100)) σ98 ∧ (((v100 = (0 : Int32) → mm_Go mm_m_X11_readsStatement (264, [.ref 51, .int v3, .int (0 : Int32)], [], σ98) R) ∧ (¬ (v100 = (0 : Int32)) → mm_Go mm_m_X11_readsStatement (264, [.ref 51, .int v3, .int (1 : Int32)], [], σ98) R))))))))) ∧ (¬ (v3 = nI 119) → ((v3 = nI 120 → (∀ σ103 : mm_Sg, σ103 = mm_u σ4 51 6 ((σ4 51 6) - (1 : Int32)) → (R = (some (.int (0 : Int32)), σ103)))) ∧ (¬ (v3 = nI 120) → ((v3 = nI 121 → (∀ σ106 : mm_Sg, σ106 = mm_u σ4 51 6 ((σ4 51 6) - (1 : Int32)) → (R = (some (.int (0 : Int32)), σ106)))) ∧ (¬ (v3 = nI 121) → ((v3 = nI 122 → (∃ (v111 : Int32) (σ109 : mm_Sg), mm_Ev mm_m_X11_readsNumber [.ref 51, .int (0 : Int32), .int (1 : Int32)] σ4 (some (.int v111)) σ109 ∧ mm_Go mm_m_X11_readsStatement (264, [.ref 51, .int v3, .int v111], [], σ109) R)) ∧ (¬ (v3 = nI 122) → (∀ σ112 : mm_Sg, σ112 = mm_u σ4 51 6 ((σ4 51 6) - (1 : Int32)) → (R = (some (.int (0 : Int32)), σ112))))))))))))))))))))))))))))))))))))))))))))))))))))))))) : mm_Go mm_m_X11_readsStatement (0, [.ref 51, .null, .null], [], σ) R := by
  refine mm_blk (M := mm_m_X11_readsStatement) 1 (S' := (1, [.ref 51, .null, .null], [.ref 51], σ)) (P := []) rfl trivial ?_
  obtain ⟨v3, σ1, e2, h⟩ := h
  refine mm_cl_ (rest := []) e2 ⟨_, _, _, rfl, rfl, mm_tb_X11_here, rfl, rfl, Nat.le_of_ble_eq_true rfl, Nat.le_of_ble_eq_true rfl, ⟨_, rfl, rfl⟩⟩ ?_
  refine mm_blk (M := mm_m_X11_readsStatement) 7 (S' := (15, [.ref 51, .int v3, .null], [], mm_u σ1 51 6 ((σ1 51 6) + (1 : Int32)))) (P := [mm_cl 51 = 11, mm_cl 51 = 11]) rfl ⟨rfl, rfl, trivial⟩ ?_
  obtain ⟨σ4, e5⟩ : ∃ z, z = mm_u σ1 51 6 ((σ1 51 6) + (1 : Int32)) := ⟨_, rfl⟩
  rw [← e5]
  have h := h σ4 e5
  refine mm_blk (M := mm_m_X11_readsStatement) 2 (S' := ((mm_tsw v3 252 98 [232, 252, 242, 252, 252, 252, 252, 252, 252, 132, 252, 252, 252, 195, 252, 252, 252, 252, 195, 252, 252, 168, 252, 252, 222]), [.ref 51, .int v3, .null], [], σ4)) (P := []) rfl trivial ?_
  by_cases b6 : v3 = nI 98
  · rw [show mm_tsw v3 252 98 [232, 252, 242, 252, 252, 252, 252, 252, 252, 132, 252, 252, 252, 195, 252, 252, 252, 252, 195, 252, 252, 168, 252, 252, 222] = 232 from mm_tsw_t b6]
    have h := h.1 b6
    refine mm_blk (M := mm_m_X11_readsStatement) 3 (S' := (235, [.ref 51, .int v3, .null], [.int (3 : Int32), .int (0 : Int32), .ref 51], σ4)) (P := []) rfl trivial ?_
    obtain ⟨v9, σ7, e8, h⟩ := h
    refine mm_cl_ (rest := []) e8 ⟨_, _, _, rfl, rfl, mm_tb_X11_readsNumber, rfl, rfl, Nat.le_of_ble_eq_true rfl, Nat.le_of_ble_eq_true rfl, ⟨_, rfl, rfl⟩⟩ ?_
    refine mm_blk (M := mm_m_X11_readsStatement) 2 (S' := (264, [.ref 51, .int v3, .int v9], [], σ7)) (P := []) rfl trivial ?_
    exact h
  rw [show mm_tsw v3 252 98 [232, 252, 242, 252, 252, 252, 252, 252, 252, 132, 252, 252, 252, 195, 252, 252, 252, 252, 195, 252, 252, 168, 252, 252, 222] = mm_tsw v3 252 99 [252, 242, 252, 252, 252, 252, 252, 252, 132, 252, 252, 252, 195, 252, 252, 252, 252, 195, 252, 252, 168, 252, 252, 222] from mm_tsw_f b6]
  have h := h.2 b6
  by_cases b10 : v3 = nI 99
  · rw [show mm_tsw v3 252 99 [252, 242, 252, 252, 252, 252, 252, 252, 132, 252, 252, 252, 195, 252, 252, 252, 252, 195, 252, 252, 168, 252, 252, 222] = 252 from mm_tsw_t b10]
    have h := h.1 b10
    refine mm_blk (M := mm_m_X11_readsStatement) 6 (S' := (262, [.ref 51, .int v3, .null], [], mm_u σ4 51 6 ((σ4 51 6) - (1 : Int32)))) (P := [mm_cl 51 = 11, mm_cl 51 = 11]) rfl ⟨rfl, rfl, trivial⟩ ?_
    obtain ⟨σ11, e12⟩ : ∃ z, z = mm_u σ4 51 6 ((σ4 51 6) - (1 : Int32)) := ⟨_, rfl⟩
    rw [← e12]
    have h := h σ11 e12
    refine mm_blk (M := mm_m_X11_readsStatement) 1 (S' := (263, [.ref 51, .int v3, .null], [.int (0 : Int32)], σ11)) (P := []) rfl trivial ?_
    subst h
    exact mm_rt_ ⟨_, _, _, rfl, ⟨_, _, rfl, rfl, rfl, rfl⟩⟩
  rw [show mm_tsw v3 252 99 [252, 242, 252, 252, 252, 252, 252, 252, 132, 252, 252, 252, 195, 252, 252, 252, 252, 195, 252, 252, 168, 252, 252, 222] = mm_tsw v3 252 100 [242, 252, 252, 252, 252, 252, 252, 132, 252, 252, 252, 195, 252, 252, 252, 252, 195, 252, 252, 168, 252, 252, 222] from mm_tsw_f b10]
  have h := h.2 b10
  by_cases b13 : v3 = nI 100
  · rw [show mm_tsw v3 252 100 [242, 252, 252, 252, 252, 252, 252, 132, 252, 252, 252, 195, 252, 252, 252, 252, 195, 252, 252, 168, 252, 252, 222] = 242 from mm_tsw_t b13]
    have h := h.1 b13
    refine mm_blk (M := mm_m_X11_readsStatement) 3 (S' := (245, [.ref 51, .int v3, .null], [.int (2 : Int32), .int (0 : Int32), .ref 51], σ4)) (P := []) rfl trivial ?_
    obtain ⟨v16, σ14, e15, h⟩ := h
    refine mm_cl_ (rest := []) e15 ⟨_, _, _, rfl, rfl, mm_tb_X11_readsNumber, rfl, rfl, Nat.le_of_ble_eq_true rfl, Nat.le_of_ble_eq_true rfl, ⟨_, rfl, rfl⟩⟩ ?_
    refine mm_blk (M := mm_m_X11_readsStatement) 2 (S' := (264, [.ref 51, .int v3, .int v16], [], σ14)) (P := []) rfl trivial ?_
    exact h
  rw [show mm_tsw v3 252 100 [242, 252, 252, 252, 252, 252, 252, 132, 252, 252, 252, 195, 252, 252, 252, 252, 195, 252, 252, 168, 252, 252, 222] = mm_tsw v3 252 101 [252, 252, 252, 252, 252, 252, 132, 252, 252, 252, 195, 252, 252, 252, 252, 195, 252, 252, 168, 252, 252, 222] from mm_tsw_f b13]
  have h := h.2 b13
  by_cases b17 : v3 = nI 101
  · rw [show mm_tsw v3 252 101 [252, 252, 252, 252, 252, 252, 132, 252, 252, 252, 195, 252, 252, 252, 252, 195, 252, 252, 168, 252, 252, 222] = 252 from mm_tsw_t b17]
    have h := h.1 b17
    refine mm_blk (M := mm_m_X11_readsStatement) 6 (S' := (262, [.ref 51, .int v3, .null], [], mm_u σ4 51 6 ((σ4 51 6) - (1 : Int32)))) (P := [mm_cl 51 = 11, mm_cl 51 = 11]) rfl ⟨rfl, rfl, trivial⟩ ?_
    obtain ⟨σ18, e19⟩ : ∃ z, z = mm_u σ4 51 6 ((σ4 51 6) - (1 : Int32)) := ⟨_, rfl⟩
    rw [← e19]
    have h := h σ18 e19
    refine mm_blk (M := mm_m_X11_readsStatement) 1 (S' := (263, [.ref 51, .int v3, .null], [.int (0 : Int32)], σ18)) (P := []) rfl trivial ?_
    subst h
    exact mm_rt_ ⟨_, _, _, rfl, ⟨_, _, rfl, rfl, rfl, rfl⟩⟩
  rw [show mm_tsw v3 252 101 [252, 252, 252, 252, 252, 252, 132, 252, 252, 252, 195, 252, 252, 252, 252, 195, 252, 252, 168, 252, 252, 222] = mm_tsw v3 252 102 [252, 252, 252, 252, 252, 132, 252, 252, 252, 195, 252, 252, 252, 252, 195, 252, 252, 168, 252, 252, 222] from mm_tsw_f b17]
  have h := h.2 b17
  by_cases b20 : v3 = nI 102
  · rw [show mm_tsw v3 252 102 [252, 252, 252, 252, 252, 132, 252, 252, 252, 195, 252, 252, 252, 252, 195, 252, 252, 168, 252, 252, 222] = 252 from mm_tsw_t b20]
    have h := h.1 b20
    refine mm_blk (M := mm_m_X11_readsStatement) 6 (S' := (262, [.ref 51, .int v3, .null], [], mm_u σ4 51 6 ((σ4 51 6) - (1 : Int32)))) (P := [mm_cl 51 = 11, mm_cl 51 = 11]) rfl ⟨rfl, rfl, trivial⟩ ?_
    obtain ⟨σ21, e22⟩ : ∃ z, z = mm_u σ4 51 6 ((σ4 51 6) - (1 : Int32)) := ⟨_, rfl⟩
    rw [← e22]
    have h := h σ21 e22
    refine mm_blk (M := mm_m_X11_readsStatement) 1 (S' := (263, [.ref 51, .int v3, .null], [.int (0 : Int32)], σ21)) (P := []) rfl trivial ?_
    subst h
    exact mm_rt_ ⟨_, _, _, rfl, ⟨_, _, rfl, rfl, rfl, rfl⟩⟩
  rw [show mm_tsw v3 252 102 [252, 252, 252, 252, 252, 132, 252, 252, 252, 195, 252, 252, 252, 252, 195, 252, 252, 168, 252, 252, 222] = mm_tsw v3 252 103 [252, 252, 252, 252, 132, 252, 252, 252, 195, 252, 252, 252, 252, 195, 252, 252, 168, 252, 252, 222] from mm_tsw_f b20]
  have h := h.2 b20
  by_cases b23 : v3 = nI 103
  · rw [show mm_tsw v3 252 103 [252, 252, 252, 252, 132, 252, 252, 252, 195, 252, 252, 252, 252, 195, 252, 252, 168, 252, 252, 222] = 252 from mm_tsw_t b23]
    have h := h.1 b23
    refine mm_blk (M := mm_m_X11_readsStatement) 6 (S' := (262, [.ref 51, .int v3, .null], [], mm_u σ4 51 6 ((σ4 51 6) - (1 : Int32)))) (P := [mm_cl 51 = 11, mm_cl 51 = 11]) rfl ⟨rfl, rfl, trivial⟩ ?_
    obtain ⟨σ24, e25⟩ : ∃ z, z = mm_u σ4 51 6 ((σ4 51 6) - (1 : Int32)) := ⟨_, rfl⟩
    rw [← e25]
    have h := h σ24 e25
    refine mm_blk (M := mm_m_X11_readsStatement) 1 (S' := (263, [.ref 51, .int v3, .null], [.int (0 : Int32)], σ24)) (P := []) rfl trivial ?_
    subst h
    exact mm_rt_ ⟨_, _, _, rfl, ⟨_, _, rfl, rfl, rfl, rfl⟩⟩
  rw [show mm_tsw v3 252 103 [252, 252, 252, 252, 132, 252, 252, 252, 195, 252, 252, 252, 252, 195, 252, 252, 168, 252, 252, 222] = mm_tsw v3 252 104 [252, 252, 252, 132, 252, 252, 252, 195, 252, 252, 252, 252, 195, 252, 252, 168, 252, 252, 222] from mm_tsw_f b23]
  have h := h.2 b23
  by_cases b26 : v3 = nI 104
  · rw [show mm_tsw v3 252 104 [252, 252, 252, 132, 252, 252, 252, 195, 252, 252, 252, 252, 195, 252, 252, 168, 252, 252, 222] = 252 from mm_tsw_t b26]
    have h := h.1 b26
    refine mm_blk (M := mm_m_X11_readsStatement) 6 (S' := (262, [.ref 51, .int v3, .null], [], mm_u σ4 51 6 ((σ4 51 6) - (1 : Int32)))) (P := [mm_cl 51 = 11, mm_cl 51 = 11]) rfl ⟨rfl, rfl, trivial⟩ ?_
    obtain ⟨σ27, e28⟩ : ∃ z, z = mm_u σ4 51 6 ((σ4 51 6) - (1 : Int32)) := ⟨_, rfl⟩
    rw [← e28]
    have h := h σ27 e28
    refine mm_blk (M := mm_m_X11_readsStatement) 1 (S' := (263, [.ref 51, .int v3, .null], [.int (0 : Int32)], σ27)) (P := []) rfl trivial ?_
    subst h
    exact mm_rt_ ⟨_, _, _, rfl, ⟨_, _, rfl, rfl, rfl, rfl⟩⟩
  rw [show mm_tsw v3 252 104 [252, 252, 252, 132, 252, 252, 252, 195, 252, 252, 252, 252, 195, 252, 252, 168, 252, 252, 222] = mm_tsw v3 252 105 [252, 252, 132, 252, 252, 252, 195, 252, 252, 252, 252, 195, 252, 252, 168, 252, 252, 222] from mm_tsw_f b26]
  have h := h.2 b26
  by_cases b29 : v3 = nI 105
  · rw [show mm_tsw v3 252 105 [252, 252, 132, 252, 252, 252, 195, 252, 252, 252, 252, 195, 252, 252, 168, 252, 252, 222] = 252 from mm_tsw_t b29]
    have h := h.1 b29
    refine mm_blk (M := mm_m_X11_readsStatement) 6 (S' := (262, [.ref 51, .int v3, .null], [], mm_u σ4 51 6 ((σ4 51 6) - (1 : Int32)))) (P := [mm_cl 51 = 11, mm_cl 51 = 11]) rfl ⟨rfl, rfl, trivial⟩ ?_
    obtain ⟨σ30, e31⟩ : ∃ z, z = mm_u σ4 51 6 ((σ4 51 6) - (1 : Int32)) := ⟨_, rfl⟩
    rw [← e31]
    have h := h σ30 e31
    refine mm_blk (M := mm_m_X11_readsStatement) 1 (S' := (263, [.ref 51, .int v3, .null], [.int (0 : Int32)], σ30)) (P := []) rfl trivial ?_
    subst h
    exact mm_rt_ ⟨_, _, _, rfl, ⟨_, _, rfl, rfl, rfl, rfl⟩⟩
  rw [show mm_tsw v3 252 105 [252, 252, 132, 252, 252, 252, 195, 252, 252, 252, 252, 195, 252, 252, 168, 252, 252, 222] = mm_tsw v3 252 106 [252, 132, 252, 252, 252, 195, 252, 252, 252, 252, 195, 252, 252, 168, 252, 252, 222] from mm_tsw_f b29]
  have h := h.2 b29
  by_cases b32 : v3 = nI 106
  · rw [show mm_tsw v3 252 106 [252, 132, 252, 252, 252, 195, 252, 252, 252, 252, 195, 252, 252, 168, 252, 252, 222] = 252 from mm_tsw_t b32]
    have h := h.1 b32
    refine mm_blk (M := mm_m_X11_readsStatement) 6 (S' := (262, [.ref 51, .int v3, .null], [], mm_u σ4 51 6 ((σ4 51 6) - (1 : Int32)))) (P := [mm_cl 51 = 11, mm_cl 51 = 11]) rfl ⟨rfl, rfl, trivial⟩ ?_
    obtain ⟨σ33, e34⟩ : ∃ z, z = mm_u σ4 51 6 ((σ4 51 6) - (1 : Int32)) := ⟨_, rfl⟩
    rw [← e34]
    have h := h σ33 e34
    refine mm_blk (M := mm_m_X11_readsStatement) 1 (S' := (263, [.ref 51, .int v3, .null], [.int (0 : Int32)], σ33)) (P := []) rfl trivial ?_
    subst h
    exact mm_rt_ ⟨_, _, _, rfl, ⟨_, _, rfl, rfl, rfl, rfl⟩⟩
  rw [show mm_tsw v3 252 106 [252, 132, 252, 252, 252, 195, 252, 252, 252, 252, 195, 252, 252, 168, 252, 252, 222] = mm_tsw v3 252 107 [132, 252, 252, 252, 195, 252, 252, 252, 252, 195, 252, 252, 168, 252, 252, 222] from mm_tsw_f b32]
  have h := h.2 b32
  by_cases b35 : v3 = nI 107
  · rw [show mm_tsw v3 252 107 [132, 252, 252, 252, 195, 252, 252, 252, 252, 195, 252, 252, 168, 252, 252, 222] = 132 from mm_tsw_t b35]
    have h := h.1 b35
    refine mm_blk (M := mm_m_X11_readsStatement) 3 (S' := (135, [.ref 51, .int v3, .null], [.int (1 : Int32), .int (0 : Int32), .ref 51], σ4)) (P := []) rfl trivial ?_
    obtain ⟨v38, σ36, e37, h⟩ := h
    refine mm_cl_ (rest := []) e37 ⟨_, _, _, rfl, rfl, mm_tb_X11_readsNumber, rfl, rfl, Nat.le_of_ble_eq_true rfl, Nat.le_of_ble_eq_true rfl, ⟨_, rfl, rfl⟩⟩ ?_
    refine mm_blk (M := mm_m_X11_readsStatement) 1 (S' := ((if v38 = (0 : Int32) then 163 else 141), [.ref 51, .int v3, .null], [], σ36)) (P := []) rfl trivial ?_
    by_cases b39 : v38 = (0 : Int32)
    · rw [if_pos b39]
      have h := h.1 b39
      refine mm_blk (M := mm_m_X11_readsStatement) 3 (S' := (264, [.ref 51, .int v3, .int (0 : Int32)], [], σ36)) (P := []) rfl trivial ?_
      exact h
    · rw [if_neg b39]
      have h := h.2 b39
      refine mm_blk (M := mm_m_X11_readsStatement) 3 (S' := (144, [.ref 51, .int v3, .null], [.int (1 : Int32), .int (1 : Int32), .ref 51], σ36)) (P := []) rfl trivial ?_
      obtain ⟨v42, σ40, e41, h⟩ := h
      refine mm_cl_ (rest := []) e41 ⟨_, _, _, rfl, rfl, mm_tb_X11_readsNumber, rfl, rfl, Nat.le_of_ble_eq_true rfl, Nat.le_of_ble_eq_true rfl, ⟨_, rfl, rfl⟩⟩ ?_
      refine mm_blk (M := mm_m_X11_readsStatement) 1 (S' := ((if v42 = (0 : Int32) then 163 else 150), [.ref 51, .int v3, .null], [], σ40)) (P := []) rfl trivial ?_
      by_cases b43 : v42 = (0 : Int32)
      · rw [if_pos b43]
        have h := h.1 b43
        refine mm_blk (M := mm_m_X11_readsStatement) 3 (S' := (264, [.ref 51, .int v3, .int (0 : Int32)], [], σ40)) (P := []) rfl trivial ?_
        exact h
      · rw [if_neg b43]
        have h := h.2 b43
        refine mm_blk (M := mm_m_X11_readsStatement) 3 (S' := (153, [.ref 51, .int v3, .null], [.int (1 : Int32), .int (2 : Int32), .ref 51], σ40)) (P := []) rfl trivial ?_
        obtain ⟨v46, σ44, e45, h⟩ := h
        refine mm_cl_ (rest := []) e45 ⟨_, _, _, rfl, rfl, mm_tb_X11_readsNumber, rfl, rfl, Nat.le_of_ble_eq_true rfl, Nat.le_of_ble_eq_true rfl, ⟨_, rfl, rfl⟩⟩ ?_
        refine mm_blk (M := mm_m_X11_readsStatement) 1 (S' := ((if v46 = (0 : Int32) then 163 else 159), [.ref 51, .int v3, .null], [], σ44)) (P := []) rfl trivial ?_
        by_cases b47 : v46 = (0 : Int32)
        · rw [if_pos b47]
          have h := h.1 b47
          refine mm_blk (M := mm_m_X11_readsStatement) 3 (S' := (264, [.ref 51, .int v3, .int (0 : Int32)], [], σ44)) (P := []) rfl trivial ?_
          exact h
        · rw [if_neg b47]
          have h := h.2 b47
          refine mm_blk (M := mm_m_X11_readsStatement) 4 (S' := (264, [.ref 51, .int v3, .int (1 : Int32)], [], σ44)) (P := []) rfl trivial ?_
          exact h
  rw [show mm_tsw v3 252 107 [132, 252, 252, 252, 195, 252, 252, 252, 252, 195, 252, 252, 168, 252, 252, 222] = mm_tsw v3 252 108 [252, 252, 252, 195, 252, 252, 252, 252, 195, 252, 252, 168, 252, 252, 222] from mm_tsw_f b35]
  have h := h.2 b35
  by_cases b48 : v3 = nI 108
  · rw [show mm_tsw v3 252 108 [252, 252, 252, 195, 252, 252, 252, 252, 195, 252, 252, 168, 252, 252, 222] = 252 from mm_tsw_t b48]
    have h := h.1 b48
    refine mm_blk (M := mm_m_X11_readsStatement) 6 (S' := (262, [.ref 51, .int v3, .null], [], mm_u σ4 51 6 ((σ4 51 6) - (1 : Int32)))) (P := [mm_cl 51 = 11, mm_cl 51 = 11]) rfl ⟨rfl, rfl, trivial⟩ ?_
    obtain ⟨σ49, e50⟩ : ∃ z, z = mm_u σ4 51 6 ((σ4 51 6) - (1 : Int32)) := ⟨_, rfl⟩
    rw [← e50]
    have h := h σ49 e50
    refine mm_blk (M := mm_m_X11_readsStatement) 1 (S' := (263, [.ref 51, .int v3, .null], [.int (0 : Int32)], σ49)) (P := []) rfl trivial ?_
    subst h
    exact mm_rt_ ⟨_, _, _, rfl, ⟨_, _, rfl, rfl, rfl, rfl⟩⟩
  rw [show mm_tsw v3 252 108 [252, 252, 252, 195, 252, 252, 252, 252, 195, 252, 252, 168, 252, 252, 222] = mm_tsw v3 252 109 [252, 252, 195, 252, 252, 252, 252, 195, 252, 252, 168, 252, 252, 222] from mm_tsw_f b48]
  have h := h.2 b48
  by_cases b51 : v3 = nI 109
  · rw [show mm_tsw v3 252 109 [252, 252, 195, 252, 252, 252, 252, 195, 252, 252, 168, 252, 252, 222] = 252 from mm_tsw_t b51]
    have h := h.1 b51
    refine mm_blk (M := mm_m_X11_readsStatement) 6 (S' := (262, [.ref 51, .int v3, .null], [], mm_u σ4 51 6 ((σ4 51 6) - (1 : Int32)))) (P := [mm_cl 51 = 11, mm_cl 51 = 11]) rfl ⟨rfl, rfl, trivial⟩ ?_
    obtain ⟨σ52, e53⟩ : ∃ z, z = mm_u σ4 51 6 ((σ4 51 6) - (1 : Int32)) := ⟨_, rfl⟩
    rw [← e53]
    have h := h σ52 e53
    refine mm_blk (M := mm_m_X11_readsStatement) 1 (S' := (263, [.ref 51, .int v3, .null], [.int (0 : Int32)], σ52)) (P := []) rfl trivial ?_
    subst h
    exact mm_rt_ ⟨_, _, _, rfl, ⟨_, _, rfl, rfl, rfl, rfl⟩⟩
  rw [show mm_tsw v3 252 109 [252, 252, 195, 252, 252, 252, 252, 195, 252, 252, 168, 252, 252, 222] = mm_tsw v3 252 110 [252, 195, 252, 252, 252, 252, 195, 252, 252, 168, 252, 252, 222] from mm_tsw_f b51]
  have h := h.2 b51
  by_cases b54 : v3 = nI 110
  · rw [show mm_tsw v3 252 110 [252, 195, 252, 252, 252, 252, 195, 252, 252, 168, 252, 252, 222] = 252 from mm_tsw_t b54]
    have h := h.1 b54
    refine mm_blk (M := mm_m_X11_readsStatement) 6 (S' := (262, [.ref 51, .int v3, .null], [], mm_u σ4 51 6 ((σ4 51 6) - (1 : Int32)))) (P := [mm_cl 51 = 11, mm_cl 51 = 11]) rfl ⟨rfl, rfl, trivial⟩ ?_
    obtain ⟨σ55, e56⟩ : ∃ z, z = mm_u σ4 51 6 ((σ4 51 6) - (1 : Int32)) := ⟨_, rfl⟩
    rw [← e56]
    have h := h σ55 e56
    refine mm_blk (M := mm_m_X11_readsStatement) 1 (S' := (263, [.ref 51, .int v3, .null], [.int (0 : Int32)], σ55)) (P := []) rfl trivial ?_
    subst h
    exact mm_rt_ ⟨_, _, _, rfl, ⟨_, _, rfl, rfl, rfl, rfl⟩⟩
  rw [show mm_tsw v3 252 110 [252, 195, 252, 252, 252, 252, 195, 252, 252, 168, 252, 252, 222] = mm_tsw v3 252 111 [195, 252, 252, 252, 252, 195, 252, 252, 168, 252, 252, 222] from mm_tsw_f b54]
  have h := h.2 b54
  by_cases b57 : v3 = nI 111
  · rw [show mm_tsw v3 252 111 [195, 252, 252, 252, 252, 195, 252, 252, 168, 252, 252, 222] = 195 from mm_tsw_t b57]
    have h := h.1 b57
    refine mm_blk (M := mm_m_X11_readsStatement) 3 (S' := (198, [.ref 51, .int v3, .null], [.int (1 : Int32), .int (0 : Int32), .ref 51], σ4)) (P := []) rfl trivial ?_
    obtain ⟨v60, σ58, e59, h⟩ := h
    refine mm_cl_ (rest := []) e59 ⟨_, _, _, rfl, rfl, mm_tb_X11_readsNumber, rfl, rfl, Nat.le_of_ble_eq_true rfl, Nat.le_of_ble_eq_true rfl, ⟨_, rfl, rfl⟩⟩ ?_
    refine mm_blk (M := mm_m_X11_readsStatement) 1 (S' := ((if v60 = (0 : Int32) then 217 else 204), [.ref 51, .int v3, .null], [], σ58)) (P := []) rfl trivial ?_
    by_cases b61 : v60 = (0 : Int32)
    · rw [if_pos b61]
      have h := h.1 b61
      refine mm_blk (M := mm_m_X11_readsStatement) 3 (S' := (264, [.ref 51, .int v3, .int (0 : Int32)], [], σ58)) (P := []) rfl trivial ?_
      exact h
    · rw [if_neg b61]
      have h := h.2 b61
      refine mm_blk (M := mm_m_X11_readsStatement) 3 (S' := (207, [.ref 51, .int v3, .null], [.int (2 : Int32), .int (1 : Int32), .ref 51], σ58)) (P := []) rfl trivial ?_
      obtain ⟨v64, σ62, e63, h⟩ := h
      refine mm_cl_ (rest := []) e63 ⟨_, _, _, rfl, rfl, mm_tb_X11_readsNumber, rfl, rfl, Nat.le_of_ble_eq_true rfl, Nat.le_of_ble_eq_true rfl, ⟨_, rfl, rfl⟩⟩ ?_
      refine mm_blk (M := mm_m_X11_readsStatement) 1 (S' := ((if v64 = (0 : Int32) then 217 else 213), [.ref 51, .int v3, .null], [], σ62)) (P := []) rfl trivial ?_
      by_cases b65 : v64 = (0 : Int32)
      · rw [if_pos b65]
        have h := h.1 b65
        refine mm_blk (M := mm_m_X11_readsStatement) 3 (S' := (264, [.ref 51, .int v3, .int (0 : Int32)], [], σ62)) (P := []) rfl trivial ?_
        exact h
      · rw [if_neg b65]
        have h := h.2 b65
        refine mm_blk (M := mm_m_X11_readsStatement) 4 (S' := (264, [.ref 51, .int v3, .int (1 : Int32)], [], σ62)) (P := []) rfl trivial ?_
        exact h
  rw [show mm_tsw v3 252 111 [195, 252, 252, 252, 252, 195, 252, 252, 168, 252, 252, 222] = mm_tsw v3 252 112 [252, 252, 252, 252, 195, 252, 252, 168, 252, 252, 222] from mm_tsw_f b57]
  have h := h.2 b57
  by_cases b66 : v3 = nI 112
  · rw [show mm_tsw v3 252 112 [252, 252, 252, 252, 195, 252, 252, 168, 252, 252, 222] = 252 from mm_tsw_t b66]
    have h := h.1 b66
    refine mm_blk (M := mm_m_X11_readsStatement) 6 (S' := (262, [.ref 51, .int v3, .null], [], mm_u σ4 51 6 ((σ4 51 6) - (1 : Int32)))) (P := [mm_cl 51 = 11, mm_cl 51 = 11]) rfl ⟨rfl, rfl, trivial⟩ ?_
    obtain ⟨σ67, e68⟩ : ∃ z, z = mm_u σ4 51 6 ((σ4 51 6) - (1 : Int32)) := ⟨_, rfl⟩
    rw [← e68]
    have h := h σ67 e68
    refine mm_blk (M := mm_m_X11_readsStatement) 1 (S' := (263, [.ref 51, .int v3, .null], [.int (0 : Int32)], σ67)) (P := []) rfl trivial ?_
    subst h
    exact mm_rt_ ⟨_, _, _, rfl, ⟨_, _, rfl, rfl, rfl, rfl⟩⟩
  rw [show mm_tsw v3 252 112 [252, 252, 252, 252, 195, 252, 252, 168, 252, 252, 222] = mm_tsw v3 252 113 [252, 252, 252, 195, 252, 252, 168, 252, 252, 222] from mm_tsw_f b66]
  have h := h.2 b66
  by_cases b69 : v3 = nI 113
  · rw [show mm_tsw v3 252 113 [252, 252, 252, 195, 252, 252, 168, 252, 252, 222] = 252 from mm_tsw_t b69]
    have h := h.1 b69
    refine mm_blk (M := mm_m_X11_readsStatement) 6 (S' := (262, [.ref 51, .int v3, .null], [], mm_u σ4 51 6 ((σ4 51 6) - (1 : Int32)))) (P := [mm_cl 51 = 11, mm_cl 51 = 11]) rfl ⟨rfl, rfl, trivial⟩ ?_
    obtain ⟨σ70, e71⟩ : ∃ z, z = mm_u σ4 51 6 ((σ4 51 6) - (1 : Int32)) := ⟨_, rfl⟩
    rw [← e71]
    have h := h σ70 e71
    refine mm_blk (M := mm_m_X11_readsStatement) 1 (S' := (263, [.ref 51, .int v3, .null], [.int (0 : Int32)], σ70)) (P := []) rfl trivial ?_
    subst h
    exact mm_rt_ ⟨_, _, _, rfl, ⟨_, _, rfl, rfl, rfl, rfl⟩⟩
  rw [show mm_tsw v3 252 113 [252, 252, 252, 195, 252, 252, 168, 252, 252, 222] = mm_tsw v3 252 114 [252, 252, 195, 252, 252, 168, 252, 252, 222] from mm_tsw_f b69]
  have h := h.2 b69
  by_cases b72 : v3 = nI 114
  · rw [show mm_tsw v3 252 114 [252, 252, 195, 252, 252, 168, 252, 252, 222] = 252 from mm_tsw_t b72]
    have h := h.1 b72
    refine mm_blk (M := mm_m_X11_readsStatement) 6 (S' := (262, [.ref 51, .int v3, .null], [], mm_u σ4 51 6 ((σ4 51 6) - (1 : Int32)))) (P := [mm_cl 51 = 11, mm_cl 51 = 11]) rfl ⟨rfl, rfl, trivial⟩ ?_
    obtain ⟨σ73, e74⟩ : ∃ z, z = mm_u σ4 51 6 ((σ4 51 6) - (1 : Int32)) := ⟨_, rfl⟩
    rw [← e74]
    have h := h σ73 e74
    refine mm_blk (M := mm_m_X11_readsStatement) 1 (S' := (263, [.ref 51, .int v3, .null], [.int (0 : Int32)], σ73)) (P := []) rfl trivial ?_
    subst h
    exact mm_rt_ ⟨_, _, _, rfl, ⟨_, _, rfl, rfl, rfl, rfl⟩⟩
  rw [show mm_tsw v3 252 114 [252, 252, 195, 252, 252, 168, 252, 252, 222] = mm_tsw v3 252 115 [252, 195, 252, 252, 168, 252, 252, 222] from mm_tsw_f b72]
  have h := h.2 b72
  by_cases b75 : v3 = nI 115
  · rw [show mm_tsw v3 252 115 [252, 195, 252, 252, 168, 252, 252, 222] = 252 from mm_tsw_t b75]
    have h := h.1 b75
    refine mm_blk (M := mm_m_X11_readsStatement) 6 (S' := (262, [.ref 51, .int v3, .null], [], mm_u σ4 51 6 ((σ4 51 6) - (1 : Int32)))) (P := [mm_cl 51 = 11, mm_cl 51 = 11]) rfl ⟨rfl, rfl, trivial⟩ ?_
    obtain ⟨σ76, e77⟩ : ∃ z, z = mm_u σ4 51 6 ((σ4 51 6) - (1 : Int32)) := ⟨_, rfl⟩
    rw [← e77]
    have h := h σ76 e77
    refine mm_blk (M := mm_m_X11_readsStatement) 1 (S' := (263, [.ref 51, .int v3, .null], [.int (0 : Int32)], σ76)) (P := []) rfl trivial ?_
    subst h
    exact mm_rt_ ⟨_, _, _, rfl, ⟨_, _, rfl, rfl, rfl, rfl⟩⟩
  rw [show mm_tsw v3 252 115 [252, 195, 252, 252, 168, 252, 252, 222] = mm_tsw v3 252 116 [195, 252, 252, 168, 252, 252, 222] from mm_tsw_f b75]
  have h := h.2 b75
  by_cases b78 : v3 = nI 116
  · rw [show mm_tsw v3 252 116 [195, 252, 252, 168, 252, 252, 222] = 195 from mm_tsw_t b78]
    have h := h.1 b78
    refine mm_blk (M := mm_m_X11_readsStatement) 3 (S' := (198, [.ref 51, .int v3, .null], [.int (1 : Int32), .int (0 : Int32), .ref 51], σ4)) (P := []) rfl trivial ?_
    obtain ⟨v81, σ79, e80, h⟩ := h
    refine mm_cl_ (rest := []) e80 ⟨_, _, _, rfl, rfl, mm_tb_X11_readsNumber, rfl, rfl, Nat.le_of_ble_eq_true rfl, Nat.le_of_ble_eq_true rfl, ⟨_, rfl, rfl⟩⟩ ?_
    refine mm_blk (M := mm_m_X11_readsStatement) 1 (S' := ((if v81 = (0 : Int32) then 217 else 204), [.ref 51, .int v3, .null], [], σ79)) (P := []) rfl trivial ?_
    by_cases b82 : v81 = (0 : Int32)
    · rw [if_pos b82]
      have h := h.1 b82
      refine mm_blk (M := mm_m_X11_readsStatement) 3 (S' := (264, [.ref 51, .int v3, .int (0 : Int32)], [], σ79)) (P := []) rfl trivial ?_
      exact h
    · rw [if_neg b82]
      have h := h.2 b82
      refine mm_blk (M := mm_m_X11_readsStatement) 3 (S' := (207, [.ref 51, .int v3, .null], [.int (2 : Int32), .int (1 : Int32), .ref 51], σ79)) (P := []) rfl trivial ?_
      obtain ⟨v85, σ83, e84, h⟩ := h
      refine mm_cl_ (rest := []) e84 ⟨_, _, _, rfl, rfl, mm_tb_X11_readsNumber, rfl, rfl, Nat.le_of_ble_eq_true rfl, Nat.le_of_ble_eq_true rfl, ⟨_, rfl, rfl⟩⟩ ?_
      refine mm_blk (M := mm_m_X11_readsStatement) 1 (S' := ((if v85 = (0 : Int32) then 217 else 213), [.ref 51, .int v3, .null], [], σ83)) (P := []) rfl trivial ?_
      by_cases b86 : v85 = (0 : Int32)
      · rw [if_pos b86]
        have h := h.1 b86
        refine mm_blk (M := mm_m_X11_readsStatement) 3 (S' := (264, [.ref 51, .int v3, .int (0 : Int32)], [], σ83)) (P := []) rfl trivial ?_
        exact h
      · rw [if_neg b86]
        have h := h.2 b86
        refine mm_blk (M := mm_m_X11_readsStatement) 4 (S' := (264, [.ref 51, .int v3, .int (1 : Int32)], [], σ83)) (P := []) rfl trivial ?_
        exact h
  rw [show mm_tsw v3 252 116 [195, 252, 252, 168, 252, 252, 222] = mm_tsw v3 252 117 [252, 252, 168, 252, 252, 222] from mm_tsw_f b78]
  have h := h.2 b78
  by_cases b87 : v3 = nI 117
  · rw [show mm_tsw v3 252 117 [252, 252, 168, 252, 252, 222] = 252 from mm_tsw_t b87]
    have h := h.1 b87
    refine mm_blk (M := mm_m_X11_readsStatement) 6 (S' := (262, [.ref 51, .int v3, .null], [], mm_u σ4 51 6 ((σ4 51 6) - (1 : Int32)))) (P := [mm_cl 51 = 11, mm_cl 51 = 11]) rfl ⟨rfl, rfl, trivial⟩ ?_
    obtain ⟨σ88, e89⟩ : ∃ z, z = mm_u σ4 51 6 ((σ4 51 6) - (1 : Int32)) := ⟨_, rfl⟩
    rw [← e89]
    have h := h σ88 e89
    refine mm_blk (M := mm_m_X11_readsStatement) 1 (S' := (263, [.ref 51, .int v3, .null], [.int (0 : Int32)], σ88)) (P := []) rfl trivial ?_
    subst h
    exact mm_rt_ ⟨_, _, _, rfl, ⟨_, _, rfl, rfl, rfl, rfl⟩⟩
  rw [show mm_tsw v3 252 117 [252, 252, 168, 252, 252, 222] = mm_tsw v3 252 118 [252, 168, 252, 252, 222] from mm_tsw_f b87]
  have h := h.2 b87
  by_cases b90 : v3 = nI 118
  · rw [show mm_tsw v3 252 118 [252, 168, 252, 252, 222] = 252 from mm_tsw_t b90]
    have h := h.1 b90
    refine mm_blk (M := mm_m_X11_readsStatement) 6 (S' := (262, [.ref 51, .int v3, .null], [], mm_u σ4 51 6 ((σ4 51 6) - (1 : Int32)))) (P := [mm_cl 51 = 11, mm_cl 51 = 11]) rfl ⟨rfl, rfl, trivial⟩ ?_
    obtain ⟨σ91, e92⟩ : ∃ z, z = mm_u σ4 51 6 ((σ4 51 6) - (1 : Int32)) := ⟨_, rfl⟩
    rw [← e92]
    have h := h σ91 e92
    refine mm_blk (M := mm_m_X11_readsStatement) 1 (S' := (263, [.ref 51, .int v3, .null], [.int (0 : Int32)], σ91)) (P := []) rfl trivial ?_
    subst h
    exact mm_rt_ ⟨_, _, _, rfl, ⟨_, _, rfl, rfl, rfl, rfl⟩⟩
  rw [show mm_tsw v3 252 118 [252, 168, 252, 252, 222] = mm_tsw v3 252 119 [168, 252, 252, 222] from mm_tsw_f b90]
  have h := h.2 b90
  by_cases b93 : v3 = nI 119
  · rw [show mm_tsw v3 252 119 [168, 252, 252, 222] = 168 from mm_tsw_t b93]
    have h := h.1 b93
    refine mm_blk (M := mm_m_X11_readsStatement) 3 (S' := (171, [.ref 51, .int v3, .null], [.int (1 : Int32), .int (0 : Int32), .ref 51], σ4)) (P := []) rfl trivial ?_
    obtain ⟨v96, σ94, e95, h⟩ := h
    refine mm_cl_ (rest := []) e95 ⟨_, _, _, rfl, rfl, mm_tb_X11_readsNumber, rfl, rfl, Nat.le_of_ble_eq_true rfl, Nat.le_of_ble_eq_true rfl, ⟨_, rfl, rfl⟩⟩ ?_
    refine mm_blk (M := mm_m_X11_readsStatement) 1 (S' := ((if v96 = (0 : Int32) then 190 else 177), [.ref 51, .int v3, .null], [], σ94)) (P := []) rfl trivial ?_
    by_cases b97 : v96 = (0 : Int32)
    · rw [if_pos b97]
      have h := h.1 b97
      refine mm_blk (M := mm_m_X11_readsStatement) 3 (S' := (264, [.ref 51, .int v3, .int (0 : Int32)], [], σ94)) (P := []) rfl trivial ?_
      exact h
    · rw [if_neg b97]
      have h := h.2 b97
      refine mm_blk (M := mm_m_X11_readsStatement) 3 (S' := (180, [.ref 51, .int v3, .null], [.int (1 : Int32), .int (1 : Int32), .ref 51], σ94)) (P := []) rfl trivial ?_
      obtain ⟨v100, σ98, e99, h⟩ := h
      refine mm_cl_ (rest := []) e99 ⟨_, _, _, rfl, rfl, mm_tb_X11_readsNumber, rfl, rfl, Nat.le_of_ble_eq_true rfl, Nat.le_of_ble_eq_true rfl, ⟨_, rfl, rfl⟩⟩ ?_
      refine mm_blk (M := mm_m_X11_readsStatement) 1 (S' := ((if v100 = (0 : Int32) then 190 else 186), [.ref 51, .int v3, .null], [], σ98)) (P := []) rfl trivial ?_
      by_cases b101 : v100 = (0 : Int32)
      · rw [if_pos b101]
        have h := h.1 b101
        refine mm_blk (M := mm_m_X11_readsStatement) 3 (S' := (264, [.ref 51, .int v3, .int (0 : Int32)], [], σ98)) (P := []) rfl trivial ?_
        exact h
      · rw [if_neg b101]
        have h := h.2 b101
        refine mm_blk (M := mm_m_X11_readsStatement) 4 (S' := (264, [.ref 51, .int v3, .int (1 : Int32)], [], σ98)) (P := []) rfl trivial ?_
        exact h
  rw [show mm_tsw v3 252 119 [168, 252, 252, 222] = mm_tsw v3 252 120 [252, 252, 222] from mm_tsw_f b93]
  have h := h.2 b93
  by_cases b102 : v3 = nI 120
  · rw [show mm_tsw v3 252 120 [252, 252, 222] = 252 from mm_tsw_t b102]
    have h := h.1 b102
    refine mm_blk (M := mm_m_X11_readsStatement) 6 (S' := (262, [.ref 51, .int v3, .null], [], mm_u σ4 51 6 ((σ4 51 6) - (1 : Int32)))) (P := [mm_cl 51 = 11, mm_cl 51 = 11]) rfl ⟨rfl, rfl, trivial⟩ ?_
    obtain ⟨σ103, e104⟩ : ∃ z, z = mm_u σ4 51 6 ((σ4 51 6) - (1 : Int32)) := ⟨_, rfl⟩
    rw [← e104]
    have h := h σ103 e104
    refine mm_blk (M := mm_m_X11_readsStatement) 1 (S' := (263, [.ref 51, .int v3, .null], [.int (0 : Int32)], σ103)) (P := []) rfl trivial ?_
    subst h
    exact mm_rt_ ⟨_, _, _, rfl, ⟨_, _, rfl, rfl, rfl, rfl⟩⟩
  rw [show mm_tsw v3 252 120 [252, 252, 222] = mm_tsw v3 252 121 [252, 222] from mm_tsw_f b102]
  have h := h.2 b102
  by_cases b105 : v3 = nI 121
  · rw [show mm_tsw v3 252 121 [252, 222] = 252 from mm_tsw_t b105]
    have h := h.1 b105
    refine mm_blk (M := mm_m_X11_readsStatement) 6 (S' := (262, [.ref 51, .int v3, .null], [], mm_u σ4 51 6 ((σ4 51 6) - (1 : Int32)))) (P := [mm_cl 51 = 11, mm_cl 51 = 11]) rfl ⟨rfl, rfl, trivial⟩ ?_
    obtain ⟨σ106, e107⟩ : ∃ z, z = mm_u σ4 51 6 ((σ4 51 6) - (1 : Int32)) := ⟨_, rfl⟩
    rw [← e107]
    have h := h σ106 e107
    refine mm_blk (M := mm_m_X11_readsStatement) 1 (S' := (263, [.ref 51, .int v3, .null], [.int (0 : Int32)], σ106)) (P := []) rfl trivial ?_
    subst h
    exact mm_rt_ ⟨_, _, _, rfl, ⟨_, _, rfl, rfl, rfl, rfl⟩⟩
  rw [show mm_tsw v3 252 121 [252, 222] = mm_tsw v3 252 122 [222] from mm_tsw_f b105]
  have h := h.2 b105
  by_cases b108 : v3 = nI 122
  · rw [show mm_tsw v3 252 122 [222] = 222 from mm_tsw_t b108]
    have h := h.1 b108
    refine mm_blk (M := mm_m_X11_readsStatement) 3 (S' := (225, [.ref 51, .int v3, .null], [.int (1 : Int32), .int (0 : Int32), .ref 51], σ4)) (P := []) rfl trivial ?_
    obtain ⟨v111, σ109, e110, h⟩ := h
    refine mm_cl_ (rest := []) e110 ⟨_, _, _, rfl, rfl, mm_tb_X11_readsNumber, rfl, rfl, Nat.le_of_ble_eq_true rfl, Nat.le_of_ble_eq_true rfl, ⟨_, rfl, rfl⟩⟩ ?_
    refine mm_blk (M := mm_m_X11_readsStatement) 2 (S' := (264, [.ref 51, .int v3, .int v111], [], σ109)) (P := []) rfl trivial ?_
    exact h
  rw [show mm_tsw v3 252 122 [222] = mm_tsw v3 252 123 [] from mm_tsw_f b108]
  have h := h.2 b108
  change mm_Go mm_m_X11_readsStatement (252, [.ref 51, .int v3, .null], [], σ4) R
  refine mm_blk (M := mm_m_X11_readsStatement) 6 (S' := (262, [.ref 51, .int v3, .null], [], mm_u σ4 51 6 ((σ4 51 6) - (1 : Int32)))) (P := [mm_cl 51 = 11, mm_cl 51 = 11]) rfl ⟨rfl, rfl, trivial⟩ ?_
  obtain ⟨σ112, e113⟩ : ∃ z, z = mm_u σ4 51 6 ((σ4 51 6) - (1 : Int32)) := ⟨_, rfl⟩
  rw [← e113]
  have h := h σ112 e113
  refine mm_blk (M := mm_m_X11_readsStatement) 1 (S' := (263, [.ref 51, .int v3, .null], [.int (0 : Int32)], σ112)) (P := []) rfl trivial ?_
  subst h
  exact mm_rt_ ⟨_, _, _, rfl, ⟨_, _, rfl, rfl, rfl, rfl⟩⟩
theorem sg_X11_readsStatement_264 (σ : mm_Sg) (x1 : Int32) (x2 : Int32) (R : Option Value × mm_Sg) (h : (((x2 = (0 : Int32) → (R = (some (.int (0 : Int32)), σ))) ∧ (¬ (x2 = (0 : Int32)) → (∃ (v4 : Int32) (σ2 : mm_Sg), mm_Ev mm_m_X11_here [.ref 51] σ (some (.int v4)) σ2 ∧ (((v4 = (59 : Int32) → (∀ σ6 : mm_Sg, σ6 = mm_u σ2 51 6 ((σ2 51 6) + (1 : Int32)) → (R = (some (.int (1 : Int32)), σ6)))) ∧ (¬ (v4 = (59 : Int32)) → (R = (some (.int (0 : Int32)), σ2)))))))))) : mm_Go mm_m_X11_readsStatement (264, [.ref 51, .int x1, .int x2], [], σ) R := by
  refine mm_blk (M := mm_m_X11_readsStatement) 2 (S' := ((if x2 = (0 : Int32) then 277 else 268), [.ref 51, .int x1, .int x2], [], σ)) (P := []) rfl trivial ?_
  by_cases b1 : x2 = (0 : Int32)
  · rw [if_pos b1]
    have h := h.1 b1
    refine mm_blk (M := mm_m_X11_readsStatement) 1 (S' := (278, [.ref 51, .int x1, .int x2], [.int (0 : Int32)], σ)) (P := []) rfl trivial ?_
    subst h
    exact mm_rt_ ⟨_, _, _, rfl, ⟨_, _, rfl, rfl, rfl, rfl⟩⟩
  · rw [if_neg b1]
    have h := h.2 b1
    refine mm_blk (M := mm_m_X11_readsStatement) 1 (S' := (269, [.ref 51, .int x1, .int x2], [.ref 51], σ)) (P := []) rfl trivial ?_
    obtain ⟨v4, σ2, e3, h⟩ := h
    refine mm_cl_ (rest := []) e3 ⟨_, _, _, rfl, rfl, mm_tb_X11_here, rfl, rfl, Nat.le_of_ble_eq_true rfl, Nat.le_of_ble_eq_true rfl, ⟨_, rfl, rfl⟩⟩ ?_
    refine mm_blk (M := mm_m_X11_readsStatement) 2 (S' := ((if v4 = (59 : Int32) then 279 else 277), [.ref 51, .int x1, .int x2], [], σ2)) (P := []) rfl trivial ?_
    by_cases b5 : v4 = (59 : Int32)
    · rw [if_pos b5]
      have h := h.1 b5
      refine mm_blk (M := mm_m_X11_readsStatement) 6 (S' := (289, [.ref 51, .int x1, .int x2], [], mm_u σ2 51 6 ((σ2 51 6) + (1 : Int32)))) (P := [mm_cl 51 = 11, mm_cl 51 = 11]) rfl ⟨rfl, rfl, trivial⟩ ?_
      obtain ⟨σ6, e7⟩ : ∃ z, z = mm_u σ2 51 6 ((σ2 51 6) + (1 : Int32)) := ⟨_, rfl⟩
      rw [← e7]
      have h := h σ6 e7
      refine mm_blk (M := mm_m_X11_readsStatement) 1 (S' := (290, [.ref 51, .int x1, .int x2], [.int (1 : Int32)], σ6)) (P := []) rfl trivial ?_
      subst h
      exact mm_rt_ ⟨_, _, _, rfl, ⟨_, _, rfl, rfl, rfl, rfl⟩⟩
    · rw [if_neg b5]
      have h := h.2 b5
      refine mm_blk (M := mm_m_X11_readsStatement) 1 (S' := (278, [.ref 51, .int x1, .int x2], [.int (0 : Int32)], σ2)) (P := []) rfl trivial ?_
      subst h
      exact mm_rt_ ⟨_, _, _, rfl, ⟨_, _, rfl, rfl, rfl, rfl⟩⟩
theorem sg_X11_adds_0 (σ : mm_Sg) (x1 : Int32) (x2 : Int32) (x3 : Int32) (R : Option Value × mm_Sg) (h : (∃ (v3 : Int32) (σ1 : mm_Sg), mm_Ev mm_m_X11_of [.int (σ 52 0), .int (0 : Int32)] σ (some (.int v3)) σ1 ∧ ((vp_in v3 (mm_len 52)) ∧ ∀ σ5 : mm_Sg, σ5 = mm_u σ1 52 v3.toNatClampNeg x1 → (∃ (v9 : Int32) (σ7 : mm_Sg), mm_Ev mm_m_X11_of [.int (σ 52 0), .int (1 : Int32)] σ5 (some (.int v9)) σ7 ∧ ((vp_in v9 (mm_len 52)) ∧ ∀ σ11 : mm_Sg, σ11 = mm_u σ7 52 v9.toNatClampNeg x2 → (∃ (v15 : Int32) (σ13 : mm_Sg), mm_Ev mm_m_X11_of [.int (σ 52 0), .int (2 : Int32)] σ11 (some (.int v15)) σ13 ∧ ((vp_in v15 (mm_len 52)) ∧ ∀ σ17 : mm_Sg, σ17 = mm_u σ13 52 v15.toNatClampNeg x3 → (∃ (v21 : Int32) (σ19 : mm_Sg), mm_Ev mm_m_X11_of [.int (σ 52 0), .int (3 : Int32)] σ17 (some (.int v21)) σ19 ∧ ((vp_in v21 (mm_len 52)) ∧ ∀ σ23 : mm_Sg, σ23 = mm_u σ19 52 v21.toNatClampNeg (0 : Int32) → (∀ σ25 : mm_Sg, σ25 = mm_u σ23 52 0 ((σ23 52 0) + (1 : Int32)) → (R = (none, σ25)))))))))))) : mm_Go mm_m_X11_adds (0, [.ref 51, .int x1, .int x2, .int x3, .null], [], σ) R := by
  refine mm_blk (M := mm_m_X11_adds) 9 (S' := (15, [.ref 51, .int x1, .int x2, .int x3, .int (σ 52 0)], [.int (0 : Int32), .int (σ 52 0), .ref 52], σ)) (P := [mm_cl 51 = 11, vp_in (0 : Int32) (mm_len 52), mm_cl 51 = 11]) rfl ⟨rfl, (by unfold vp_in; decide), rfl, trivial⟩ ?_
  obtain ⟨v3, σ1, e2, h⟩ := h
  refine mm_cl_ (rest := [.ref 52]) e2 ⟨_, _, _, rfl, rfl, mm_tb_X11_of, rfl, rfl, Nat.le_of_ble_eq_true rfl, Nat.le_of_ble_eq_true rfl, trivial⟩ ?_
  obtain ⟨c4, h⟩ := h
  refine mm_blk (M := mm_m_X11_adds) 2 (S' := (20, [.ref 51, .int x1, .int x2, .int x3, .int (σ 52 0)], [], mm_u σ1 52 v3.toNatClampNeg x1)) (P := [vp_in v3 (mm_len 52)]) rfl ⟨c4, trivial⟩ ?_
  obtain ⟨σ5, e6⟩ : ∃ z, z = mm_u σ1 52 v3.toNatClampNeg x1 := ⟨_, rfl⟩
  rw [← e6]
  have h := h σ5 e6
  refine mm_blk (M := mm_m_X11_adds) 4 (S' := (27, [.ref 51, .int x1, .int x2, .int x3, .int (σ 52 0)], [.int (1 : Int32), .int (σ 52 0), .ref 52], σ5)) (P := [mm_cl 51 = 11]) rfl ⟨rfl, trivial⟩ ?_
  obtain ⟨v9, σ7, e8, h⟩ := h
  refine mm_cl_ (rest := [.ref 52]) e8 ⟨_, _, _, rfl, rfl, mm_tb_X11_of, rfl, rfl, Nat.le_of_ble_eq_true rfl, Nat.le_of_ble_eq_true rfl, trivial⟩ ?_
  obtain ⟨c10, h⟩ := h
  refine mm_blk (M := mm_m_X11_adds) 2 (S' := (32, [.ref 51, .int x1, .int x2, .int x3, .int (σ 52 0)], [], mm_u σ7 52 v9.toNatClampNeg x2)) (P := [vp_in v9 (mm_len 52)]) rfl ⟨c10, trivial⟩ ?_
  obtain ⟨σ11, e12⟩ : ∃ z, z = mm_u σ7 52 v9.toNatClampNeg x2 := ⟨_, rfl⟩
  rw [← e12]
  have h := h σ11 e12
  refine mm_blk (M := mm_m_X11_adds) 4 (S' := (39, [.ref 51, .int x1, .int x2, .int x3, .int (σ 52 0)], [.int (2 : Int32), .int (σ 52 0), .ref 52], σ11)) (P := [mm_cl 51 = 11]) rfl ⟨rfl, trivial⟩ ?_
  obtain ⟨v15, σ13, e14, h⟩ := h
  refine mm_cl_ (rest := [.ref 52]) e14 ⟨_, _, _, rfl, rfl, mm_tb_X11_of, rfl, rfl, Nat.le_of_ble_eq_true rfl, Nat.le_of_ble_eq_true rfl, trivial⟩ ?_
  obtain ⟨c16, h⟩ := h
  refine mm_blk (M := mm_m_X11_adds) 2 (S' := (44, [.ref 51, .int x1, .int x2, .int x3, .int (σ 52 0)], [], mm_u σ13 52 v15.toNatClampNeg x3)) (P := [vp_in v15 (mm_len 52)]) rfl ⟨c16, trivial⟩ ?_
  obtain ⟨σ17, e18⟩ : ∃ z, z = mm_u σ13 52 v15.toNatClampNeg x3 := ⟨_, rfl⟩
  rw [← e18]
  have h := h σ17 e18
  refine mm_blk (M := mm_m_X11_adds) 4 (S' := (51, [.ref 51, .int x1, .int x2, .int x3, .int (σ 52 0)], [.int (3 : Int32), .int (σ 52 0), .ref 52], σ17)) (P := [mm_cl 51 = 11]) rfl ⟨rfl, trivial⟩ ?_
  obtain ⟨v21, σ19, e20, h⟩ := h
  refine mm_cl_ (rest := [.ref 52]) e20 ⟨_, _, _, rfl, rfl, mm_tb_X11_of, rfl, rfl, Nat.le_of_ble_eq_true rfl, Nat.le_of_ble_eq_true rfl, trivial⟩ ?_
  obtain ⟨c22, h⟩ := h
  refine mm_blk (M := mm_m_X11_adds) 2 (S' := (56, [.ref 51, .int x1, .int x2, .int x3, .int (σ 52 0)], [], mm_u σ19 52 v21.toNatClampNeg (0 : Int32))) (P := [vp_in v21 (mm_len 52)]) rfl ⟨c22, trivial⟩ ?_
  obtain ⟨σ23, e24⟩ : ∃ z, z = mm_u σ19 52 v21.toNatClampNeg (0 : Int32) := ⟨_, rfl⟩
  rw [← e24]
  have h := h σ23 e24
  refine mm_blk (M := mm_m_X11_adds) 8 (S' := (66, [.ref 51, .int x1, .int x2, .int x3, .int (σ 52 0)], [], mm_u σ23 52 0 ((σ23 52 0) + (1 : Int32)))) (P := [mm_cl 51 = 11, vp_in (0 : Int32) (mm_len 52), vp_in (0 : Int32) (mm_len 52)]) rfl ⟨rfl, (by unfold vp_in; decide), (by unfold vp_in; decide), trivial⟩ ?_
  obtain ⟨σ25, e26⟩ : ∃ z, z = mm_u σ23 52 0 ((σ23 52 0) + (1 : Int32)) := ⟨_, rfl⟩
  rw [← e26]
  have h := h σ25 e26
  subst h
  exact mm_rt_ ⟨_, _, _, rfl, ⟨rfl, rfl, rfl⟩⟩
theorem sg_X11_isDone_0 (σ : mm_Sg) (x1 : Int32) (R : Option Value × mm_Sg) (h : (((x1 = nI 98 → (∀ σ2 : mm_Sg, σ2 = mm_u σ 52 2 (σ 57 0) → (R = (some (.int (1 : Int32)), σ2)))) ∧ (¬ (x1 = nI 98) → ((x1 = nI 107 → ((((8 : Int32) ≤ (σ 57 0) → (R = (some (.int (0 : Int32)), σ))) ∧ (¬ ((8 : Int32) ≤ (σ 57 0)) → (∃ (v8 : Int32) (σ6 : mm_Sg), mm_Ev mm_m_X11_isWakerOrNone [.int (σ 57 2)] σ (some (.int v8)) σ6 ∧ (((v8 = (0 : Int32) → (R = (some (.int (0 : Int32)), σ6))) ∧ (¬ (v8 = (0 : Int32)) → (((¬ (σ6 52 0) = (7 : Int32) → (∃ (σ11 : mm_Sg), mm_Ev mm_m_X11_adds [.ref 51, .int (σ 57 0), .int (σ 57 1), .int (σ6 57 2)] σ6 none σ11 ∧ (R = (some (.int (1 : Int32)), σ11)))) ∧ (¬ (¬ (σ6 52 0) = (7 : Int32)) → (R = (some (.int (0 : Int32)), σ6))))))))))))) ∧ (¬ (x1 = nI 107) → ((x1 = nI 111 → (∃ (v16 : Int32) (σ14 : mm_Sg), mm_Ev mm_m_X11_isDrinker [.ref 51, .int (σ 57 0)] σ (some (.int v16)) σ14 ∧ (((¬ v16 = (0 : Int32) → (∃ (v20 : Int32) (σ18 : mm_Sg), mm_Ev mm_m_X11_of [.int (σ 57 0), .int (3 : Int32)] σ14 (some (.int v20)) σ18 ∧ ((vp_in v20 (mm_len 52)) ∧ ∀ σ22 : mm_Sg, σ22 = mm_u σ18 52 v20.toNatClampNeg (σ 57 1) → (R = (some (.int (1 : Int32)), σ22))))) ∧ (¬ (¬ v16 = (0 : Int32)) → (R = (some (.int (0 : Int32)), σ14))))))) ∧ (¬ (x1 = nI 111) → ((x1 = nI 116 → (∃ (v27 : Int32) (σ25 : mm_Sg), mm_Ev mm_m_X11_isWaker [.int (σ 57 0)] σ (some (.int v27)) σ25 ∧ (((¬ v27 = (0 : Int32) → ((vp_in ((35 : Int32) + (σ 57 0)) (mm_len 52)) ∧ ∀ σ30 : mm_Sg, σ30 = mm_u σ25 52 ((35 : Int32) + (σ 57 0)).toNatClampNeg (σ 57 1) → (R = (some (.int (1 : Int32)), σ30)))) ∧ (¬ (¬ v27 = (0 : Int32)) → (R = (some (.int (0 : Int32)), σ25))))))) ∧ (¬ (x1 = nI 116) → ((x1 = nI 119 → (∃ (v35 : Int32) (σ33 : mm_Sg), mm_Ev mm_m_X11_isDrinker [.ref 51, .int (σ 57 0)] σ (some (.int v35)) σ33 ∧ (((v35 = (0 : Int32) → (R = (some (.int (0 : Int32)), σ33))) ∧ (¬ (v35 = (0 : Int32)) → (∃ (v39 : Int32) (σ37 : mm_Sg), mm_Ev mm_m_X11_isWakerOrNone [.int (σ 57 1)] σ33 (some (.int v39)) σ37 ∧ (((¬ v39 = (0 : Int32) → (∃ (v43 : Int32) (σ41 : mm_Sg), mm_Ev mm_m_X11_of [.int (σ 57 0), .int (2 : Int32)] σ37 (some (.int v43)) σ41 ∧ ((vp_in v43 (mm_len 52)) ∧ ∀ σ45 : mm_Sg, σ45 = mm_u σ41 52 v43.toNatClampNeg (σ 57 1) → (R = (some (.int (1 : Int32)), σ45))))) ∧ (¬ (¬ v39 = (0 : Int32)) → (R = (some (.int (0 : Int32)), σ37))))))))))) ∧ (¬ (x1 = nI 119) → ((x1 = nI 122 → (∃ (v50 : Int32) (σ48 : mm_Sg), mm_Ev mm_m_X11_isWaker [.int (σ 57 0)] σ (some (.int v50)) σ48 ∧ (((¬ v50 = (0 : Int32) → (∀ σ52 : mm_Sg, σ52 = mm_u σ48 52 3 ((σ48 52 3) ^^^ ((1 : Int32) <<< ((σ 57 0) &&& 31))) → (R = (some (.int (1 : Int32)), σ52)))) ∧ (¬ (¬ v50 = (0 : Int32)) → (R = (some (.int (0 : Int32)), σ48))))))) ∧ (¬ (x1 = nI 122) → (∃ (v56 : Int32) (σ54 : mm_Sg), mm_Ev mm_m_X11_isIn [.int (σ 57 0), .int (1 : Int32), .int (60 : Int32)] σ (some (.int v56)) σ54 ∧ (((v56 = (0 : Int32) → (R = (some (.int (0 : Int32)), σ54))) ∧ (¬ (v56 = (0 : Int32)) → (((((σ54 52 1) + (σ 57 0)) ≤ (999 : Int32) → (∃ (σ59 : mm_Sg), mm_Ev mm_m_X11_daysOn [.ref 51, .ref 52, .int (σ 57 0)] σ54 none σ59 ∧ (R = (some (.int (1 : Int32)), σ59)))) ∧ (¬ (((σ54 52 1) + (σ 57 0)) ≤ (999 : Int32)) → (R = (some (.int (0 : Int32)), σ54))))))))))))))))))))))) : mm_Go mm_m_X11_isDone (0, [.ref 51, .int x1, .null, .null], [], σ) R := by
  refine mm_blk (M := mm_m_X11_isDone) 12 (S' := ((mm_lsw x1 223 [98, 191, 107, 72, 111, 200, 116, 147, 119, 117, 122, 168]), [.ref 51, .int x1, .int (σ 57 0), .int (σ 57 1)], [], σ)) (P := [mm_cl 51 = 11, vp_in (0 : Int32) (mm_len 57), mm_cl 51 = 11, vp_in (1 : Int32) (mm_len 57)]) rfl ⟨rfl, (by unfold vp_in; decide), rfl, (by unfold vp_in; decide), trivial⟩ ?_
  by_cases b1 : x1 = nI 98
  · rw [show mm_lsw x1 223 [98, 191, 107, 72, 111, 200, 116, 147, 119, 117, 122, 168] = 191 from mm_lsw_t b1]
    have h := h.1 b1
    refine mm_blk (M := mm_m_X11_isDone) 5 (S' := (198, [.ref 51, .int x1, .int (σ 57 0), .int (σ 57 1)], [], mm_u σ 52 2 (σ 57 0))) (P := [mm_cl 51 = 11, vp_in (2 : Int32) (mm_len 52)]) rfl ⟨rfl, (by unfold vp_in; decide), trivial⟩ ?_
    obtain ⟨σ2, e3⟩ : ∃ z, z = mm_u σ 52 2 (σ 57 0) := ⟨_, rfl⟩
    rw [← e3]
    have h := h σ2 e3
    refine mm_blk (M := mm_m_X11_isDone) 1 (S' := (199, [.ref 51, .int x1, .int (σ 57 0), .int (σ 57 1)], [.int (1 : Int32)], σ2)) (P := []) rfl trivial ?_
    subst h
    exact mm_rt_ ⟨_, _, _, rfl, ⟨_, _, rfl, rfl, rfl, rfl⟩⟩
  rw [show mm_lsw x1 223 [98, 191, 107, 72, 111, 200, 116, 147, 119, 117, 122, 168] = mm_lsw x1 223 [107, 72, 111, 200, 116, 147, 119, 117, 122, 168] from mm_lsw_f b1]
  have h := h.2 b1
  by_cases b4 : x1 = nI 107
  · rw [show mm_lsw x1 223 [107, 72, 111, 200, 116, 147, 119, 117, 122, 168] = 72 from mm_lsw_t b4]
    have h := h.1 b4
    refine mm_blk (M := mm_m_X11_isDone) 3 (S' := ((if (8 : Int32) ≤ (σ 57 0) then 101 else 78), [.ref 51, .int x1, .int (σ 57 0), .int (σ 57 1)], [], σ)) (P := []) rfl trivial ?_
    by_cases b5 : (8 : Int32) ≤ (σ 57 0)
    · rw [if_pos b5]
      have h := h.1 b5
      refine mm_blk (M := mm_m_X11_isDone) 1 (S' := (102, [.ref 51, .int x1, .int (σ 57 0), .int (σ 57 1)], [.int (0 : Int32)], σ)) (P := []) rfl trivial ?_
      subst h
      exact mm_rt_ ⟨_, _, _, rfl, ⟨_, _, rfl, rfl, rfl, rfl⟩⟩
    · rw [if_neg b5]
      have h := h.2 b5
      refine mm_blk (M := mm_m_X11_isDone) 4 (S' := (84, [.ref 51, .int x1, .int (σ 57 0), .int (σ 57 1)], [.int (σ 57 2)], σ)) (P := [mm_cl 51 = 11, vp_in (2 : Int32) (mm_len 57)]) rfl ⟨rfl, (by unfold vp_in; decide), trivial⟩ ?_
      obtain ⟨v8, σ6, e7, h⟩ := h
      refine mm_cl_ (rest := []) e7 ⟨_, _, _, rfl, rfl, mm_tb_X11_isWakerOrNone, rfl, rfl, Nat.le_of_ble_eq_true rfl, Nat.le_of_ble_eq_true rfl, trivial⟩ ?_
      refine mm_blk (M := mm_m_X11_isDone) 1 (S' := ((if v8 = (0 : Int32) then 101 else 90), [.ref 51, .int x1, .int (σ 57 0), .int (σ 57 1)], [], σ6)) (P := []) rfl trivial ?_
      by_cases b9 : v8 = (0 : Int32)
      · rw [if_pos b9]
        have h := h.1 b9
        refine mm_blk (M := mm_m_X11_isDone) 1 (S' := (102, [.ref 51, .int x1, .int (σ 57 0), .int (σ 57 1)], [.int (0 : Int32)], σ6)) (P := []) rfl trivial ?_
        subst h
        exact mm_rt_ ⟨_, _, _, rfl, ⟨_, _, rfl, rfl, rfl, rfl⟩⟩
      · rw [if_neg b9]
        have h := h.2 b9
        refine mm_blk (M := mm_m_X11_isDone) 6 (S' := ((if ¬ (σ6 52 0) = (7 : Int32) then 103 else 101), [.ref 51, .int x1, .int (σ 57 0), .int (σ 57 1)], [], σ6)) (P := [mm_cl 51 = 11, vp_in (0 : Int32) (mm_len 52)]) rfl ⟨rfl, (by unfold vp_in; decide), trivial⟩ ?_
        by_cases b10 : ¬ (σ6 52 0) = (7 : Int32)
        · rw [if_pos b10]
          have h := h.1 b10
          refine mm_blk (M := mm_m_X11_isDone) 7 (S' := (112, [.ref 51, .int x1, .int (σ 57 0), .int (σ 57 1)], [.int (σ6 57 2), .int (σ 57 1), .int (σ 57 0), .ref 51], σ6)) (P := [mm_cl 51 = 11, vp_in (2 : Int32) (mm_len 57)]) rfl ⟨rfl, (by unfold vp_in; decide), trivial⟩ ?_
          obtain ⟨σ11, e12, h⟩ := h
          refine mm_cl_ (rest := []) e12 ⟨_, _, _, rfl, rfl, mm_tb_X11_adds, rfl, rfl, Nat.le_of_ble_eq_true rfl, Nat.le_of_ble_eq_true rfl, ⟨_, rfl, rfl⟩⟩ ?_
          refine mm_blk (M := mm_m_X11_isDone) 1 (S' := (116, [.ref 51, .int x1, .int (σ 57 0), .int (σ 57 1)], [.int (1 : Int32)], σ11)) (P := []) rfl trivial ?_
          subst h
          exact mm_rt_ ⟨_, _, _, rfl, ⟨_, _, rfl, rfl, rfl, rfl⟩⟩
        · rw [if_neg b10]
          have h := h.2 b10
          refine mm_blk (M := mm_m_X11_isDone) 1 (S' := (102, [.ref 51, .int x1, .int (σ 57 0), .int (σ 57 1)], [.int (0 : Int32)], σ6)) (P := []) rfl trivial ?_
          subst h
          exact mm_rt_ ⟨_, _, _, rfl, ⟨_, _, rfl, rfl, rfl, rfl⟩⟩
  rw [show mm_lsw x1 223 [107, 72, 111, 200, 116, 147, 119, 117, 122, 168] = mm_lsw x1 223 [111, 200, 116, 147, 119, 117, 122, 168] from mm_lsw_f b4]
  have h := h.2 b4
  by_cases b13 : x1 = nI 111
  · rw [show mm_lsw x1 223 [111, 200, 116, 147, 119, 117, 122, 168] = 200 from mm_lsw_t b13]
    have h := h.1 b13
    refine mm_blk (M := mm_m_X11_isDone) 2 (S' := (202, [.ref 51, .int x1, .int (σ 57 0), .int (σ 57 1)], [.int (σ 57 0), .ref 51], σ)) (P := []) rfl trivial ?_
    obtain ⟨v16, σ14, e15, h⟩ := h
    refine mm_cl_ (rest := []) e15 ⟨_, _, _, rfl, rfl, mm_tb_X11_isDrinker, rfl, rfl, Nat.le_of_ble_eq_true rfl, Nat.le_of_ble_eq_true rfl, ⟨_, rfl, rfl⟩⟩ ?_
    refine mm_blk (M := mm_m_X11_isDone) 1 (S' := ((if ¬ v16 = (0 : Int32) then 210 else 208), [.ref 51, .int x1, .int (σ 57 0), .int (σ 57 1)], [], σ14)) (P := []) rfl trivial ?_
    by_cases b17 : ¬ v16 = (0 : Int32)
    · rw [if_pos b17]
      have h := h.1 b17
      refine mm_blk (M := mm_m_X11_isDone) 4 (S' := (216, [.ref 51, .int x1, .int (σ 57 0), .int (σ 57 1)], [.int (3 : Int32), .int (σ 57 0), .ref 52], σ14)) (P := [mm_cl 51 = 11]) rfl ⟨rfl, trivial⟩ ?_
      obtain ⟨v20, σ18, e19, h⟩ := h
      refine mm_cl_ (rest := [.ref 52]) e19 ⟨_, _, _, rfl, rfl, mm_tb_X11_of, rfl, rfl, Nat.le_of_ble_eq_true rfl, Nat.le_of_ble_eq_true rfl, trivial⟩ ?_
      obtain ⟨c21, h⟩ := h
      refine mm_blk (M := mm_m_X11_isDone) 2 (S' := (221, [.ref 51, .int x1, .int (σ 57 0), .int (σ 57 1)], [], mm_u σ18 52 v20.toNatClampNeg (σ 57 1))) (P := [vp_in v20 (mm_len 52)]) rfl ⟨c21, trivial⟩ ?_
      obtain ⟨σ22, e23⟩ : ∃ z, z = mm_u σ18 52 v20.toNatClampNeg (σ 57 1) := ⟨_, rfl⟩
      rw [← e23]
      have h := h σ22 e23
      refine mm_blk (M := mm_m_X11_isDone) 1 (S' := (222, [.ref 51, .int x1, .int (σ 57 0), .int (σ 57 1)], [.int (1 : Int32)], σ22)) (P := []) rfl trivial ?_
      subst h
      exact mm_rt_ ⟨_, _, _, rfl, ⟨_, _, rfl, rfl, rfl, rfl⟩⟩
    · rw [if_neg b17]
      have h := h.2 b17
      refine mm_blk (M := mm_m_X11_isDone) 1 (S' := (209, [.ref 51, .int x1, .int (σ 57 0), .int (σ 57 1)], [.int (0 : Int32)], σ14)) (P := []) rfl trivial ?_
      subst h
      exact mm_rt_ ⟨_, _, _, rfl, ⟨_, _, rfl, rfl, rfl, rfl⟩⟩
  rw [show mm_lsw x1 223 [111, 200, 116, 147, 119, 117, 122, 168] = mm_lsw x1 223 [116, 147, 119, 117, 122, 168] from mm_lsw_f b13]
  have h := h.2 b13
  by_cases b24 : x1 = nI 116
  · rw [show mm_lsw x1 223 [116, 147, 119, 117, 122, 168] = 147 from mm_lsw_t b24]
    have h := h.1 b24
    refine mm_blk (M := mm_m_X11_isDone) 1 (S' := (148, [.ref 51, .int x1, .int (σ 57 0), .int (σ 57 1)], [.int (σ 57 0)], σ)) (P := []) rfl trivial ?_
    obtain ⟨v27, σ25, e26, h⟩ := h
    refine mm_cl_ (rest := []) e26 ⟨_, _, _, rfl, rfl, mm_tb_X11_isWaker, rfl, rfl, Nat.le_of_ble_eq_true rfl, Nat.le_of_ble_eq_true rfl, trivial⟩ ?_
    refine mm_blk (M := mm_m_X11_isDone) 1 (S' := ((if ¬ v27 = (0 : Int32) then 156 else 154), [.ref 51, .int x1, .int (σ 57 0), .int (σ 57 1)], [], σ25)) (P := []) rfl trivial ?_
    by_cases b28 : ¬ v27 = (0 : Int32)
    · rw [if_pos b28]
      have h := h.1 b28
      obtain ⟨c29, h⟩ := h
      refine mm_blk (M := mm_m_X11_isDone) 7 (S' := (166, [.ref 51, .int x1, .int (σ 57 0), .int (σ 57 1)], [], mm_u σ25 52 ((35 : Int32) + (σ 57 0)).toNatClampNeg (σ 57 1))) (P := [mm_cl 51 = 11, vp_in ((35 : Int32) + (σ 57 0)) (mm_len 52)]) rfl ⟨rfl, c29, trivial⟩ ?_
      obtain ⟨σ30, e31⟩ : ∃ z, z = mm_u σ25 52 ((35 : Int32) + (σ 57 0)).toNatClampNeg (σ 57 1) := ⟨_, rfl⟩
      rw [← e31]
      have h := h σ30 e31
      refine mm_blk (M := mm_m_X11_isDone) 1 (S' := (167, [.ref 51, .int x1, .int (σ 57 0), .int (σ 57 1)], [.int (1 : Int32)], σ30)) (P := []) rfl trivial ?_
      subst h
      exact mm_rt_ ⟨_, _, _, rfl, ⟨_, _, rfl, rfl, rfl, rfl⟩⟩
    · rw [if_neg b28]
      have h := h.2 b28
      refine mm_blk (M := mm_m_X11_isDone) 1 (S' := (155, [.ref 51, .int x1, .int (σ 57 0), .int (σ 57 1)], [.int (0 : Int32)], σ25)) (P := []) rfl trivial ?_
      subst h
      exact mm_rt_ ⟨_, _, _, rfl, ⟨_, _, rfl, rfl, rfl, rfl⟩⟩
  rw [show mm_lsw x1 223 [116, 147, 119, 117, 122, 168] = mm_lsw x1 223 [119, 117, 122, 168] from mm_lsw_f b24]
  have h := h.2 b24
  by_cases b32 : x1 = nI 119
  · rw [show mm_lsw x1 223 [119, 117, 122, 168] = 117 from mm_lsw_t b32]
    have h := h.1 b32
    refine mm_blk (M := mm_m_X11_isDone) 2 (S' := (119, [.ref 51, .int x1, .int (σ 57 0), .int (σ 57 1)], [.int (σ 57 0), .ref 51], σ)) (P := []) rfl trivial ?_
    obtain ⟨v35, σ33, e34, h⟩ := h
    refine mm_cl_ (rest := []) e34 ⟨_, _, _, rfl, rfl, mm_tb_X11_isDrinker, rfl, rfl, Nat.le_of_ble_eq_true rfl, Nat.le_of_ble_eq_true rfl, ⟨_, rfl, rfl⟩⟩ ?_
    refine mm_blk (M := mm_m_X11_isDone) 1 (S' := ((if v35 = (0 : Int32) then 132 else 125), [.ref 51, .int x1, .int (σ 57 0), .int (σ 57 1)], [], σ33)) (P := []) rfl trivial ?_
    by_cases b36 : v35 = (0 : Int32)
    · rw [if_pos b36]
      have h := h.1 b36
      refine mm_blk (M := mm_m_X11_isDone) 1 (S' := (133, [.ref 51, .int x1, .int (σ 57 0), .int (σ 57 1)], [.int (0 : Int32)], σ33)) (P := []) rfl trivial ?_
      subst h
      exact mm_rt_ ⟨_, _, _, rfl, ⟨_, _, rfl, rfl, rfl, rfl⟩⟩
    · rw [if_neg b36]
      have h := h.2 b36
      refine mm_blk (M := mm_m_X11_isDone) 1 (S' := (126, [.ref 51, .int x1, .int (σ 57 0), .int (σ 57 1)], [.int (σ 57 1)], σ33)) (P := []) rfl trivial ?_
      obtain ⟨v39, σ37, e38, h⟩ := h
      refine mm_cl_ (rest := []) e38 ⟨_, _, _, rfl, rfl, mm_tb_X11_isWakerOrNone, rfl, rfl, Nat.le_of_ble_eq_true rfl, Nat.le_of_ble_eq_true rfl, trivial⟩ ?_
      refine mm_blk (M := mm_m_X11_isDone) 1 (S' := ((if ¬ v39 = (0 : Int32) then 134 else 132), [.ref 51, .int x1, .int (σ 57 0), .int (σ 57 1)], [], σ37)) (P := []) rfl trivial ?_
      by_cases b40 : ¬ v39 = (0 : Int32)
      · rw [if_pos b40]
        have h := h.1 b40
        refine mm_blk (M := mm_m_X11_isDone) 4 (S' := (140, [.ref 51, .int x1, .int (σ 57 0), .int (σ 57 1)], [.int (2 : Int32), .int (σ 57 0), .ref 52], σ37)) (P := [mm_cl 51 = 11]) rfl ⟨rfl, trivial⟩ ?_
        obtain ⟨v43, σ41, e42, h⟩ := h
        refine mm_cl_ (rest := [.ref 52]) e42 ⟨_, _, _, rfl, rfl, mm_tb_X11_of, rfl, rfl, Nat.le_of_ble_eq_true rfl, Nat.le_of_ble_eq_true rfl, trivial⟩ ?_
        obtain ⟨c44, h⟩ := h
        refine mm_blk (M := mm_m_X11_isDone) 2 (S' := (145, [.ref 51, .int x1, .int (σ 57 0), .int (σ 57 1)], [], mm_u σ41 52 v43.toNatClampNeg (σ 57 1))) (P := [vp_in v43 (mm_len 52)]) rfl ⟨c44, trivial⟩ ?_
        obtain ⟨σ45, e46⟩ : ∃ z, z = mm_u σ41 52 v43.toNatClampNeg (σ 57 1) := ⟨_, rfl⟩
        rw [← e46]
        have h := h σ45 e46
        refine mm_blk (M := mm_m_X11_isDone) 1 (S' := (146, [.ref 51, .int x1, .int (σ 57 0), .int (σ 57 1)], [.int (1 : Int32)], σ45)) (P := []) rfl trivial ?_
        subst h
        exact mm_rt_ ⟨_, _, _, rfl, ⟨_, _, rfl, rfl, rfl, rfl⟩⟩
      · rw [if_neg b40]
        have h := h.2 b40
        refine mm_blk (M := mm_m_X11_isDone) 1 (S' := (133, [.ref 51, .int x1, .int (σ 57 0), .int (σ 57 1)], [.int (0 : Int32)], σ37)) (P := []) rfl trivial ?_
        subst h
        exact mm_rt_ ⟨_, _, _, rfl, ⟨_, _, rfl, rfl, rfl, rfl⟩⟩
  rw [show mm_lsw x1 223 [119, 117, 122, 168] = mm_lsw x1 223 [122, 168] from mm_lsw_f b32]
  have h := h.2 b32
  by_cases b47 : x1 = nI 122
  · rw [show mm_lsw x1 223 [122, 168] = 168 from mm_lsw_t b47]
    have h := h.1 b47
    refine mm_blk (M := mm_m_X11_isDone) 1 (S' := (169, [.ref 51, .int x1, .int (σ 57 0), .int (σ 57 1)], [.int (σ 57 0)], σ)) (P := []) rfl trivial ?_
    obtain ⟨v50, σ48, e49, h⟩ := h
    refine mm_cl_ (rest := []) e49 ⟨_, _, _, rfl, rfl, mm_tb_X11_isWaker, rfl, rfl, Nat.le_of_ble_eq_true rfl, Nat.le_of_ble_eq_true rfl, trivial⟩ ?_
    refine mm_blk (M := mm_m_X11_isDone) 1 (S' := ((if ¬ v50 = (0 : Int32) then 177 else 175), [.ref 51, .int x1, .int (σ 57 0), .int (σ 57 1)], [], σ48)) (P := []) rfl trivial ?_
    by_cases b51 : ¬ v50 = (0 : Int32)
    · rw [if_pos b51]
      have h := h.1 b51
      refine mm_blk (M := mm_m_X11_isDone) 10 (S' := (189, [.ref 51, .int x1, .int (σ 57 0), .int (σ 57 1)], [], mm_u σ48 52 3 ((σ48 52 3) ^^^ ((1 : Int32) <<< ((σ 57 0) &&& 31))))) (P := [mm_cl 51 = 11, vp_in (3 : Int32) (mm_len 52), vp_in (3 : Int32) (mm_len 52)]) rfl ⟨rfl, (by unfold vp_in; decide), (by unfold vp_in; decide), trivial⟩ ?_
      obtain ⟨σ52, e53⟩ : ∃ z, z = mm_u σ48 52 3 ((σ48 52 3) ^^^ ((1 : Int32) <<< ((σ 57 0) &&& 31))) := ⟨_, rfl⟩
      rw [← e53]
      have h := h σ52 e53
      refine mm_blk (M := mm_m_X11_isDone) 1 (S' := (190, [.ref 51, .int x1, .int (σ 57 0), .int (σ 57 1)], [.int (1 : Int32)], σ52)) (P := []) rfl trivial ?_
      subst h
      exact mm_rt_ ⟨_, _, _, rfl, ⟨_, _, rfl, rfl, rfl, rfl⟩⟩
    · rw [if_neg b51]
      have h := h.2 b51
      refine mm_blk (M := mm_m_X11_isDone) 1 (S' := (176, [.ref 51, .int x1, .int (σ 57 0), .int (σ 57 1)], [.int (0 : Int32)], σ48)) (P := []) rfl trivial ?_
      subst h
      exact mm_rt_ ⟨_, _, _, rfl, ⟨_, _, rfl, rfl, rfl, rfl⟩⟩
  rw [show mm_lsw x1 223 [122, 168] = mm_lsw x1 223 [] from mm_lsw_f b47]
  have h := h.2 b47
  change mm_Go mm_m_X11_isDone (223, [.ref 51, .int x1, .int (σ 57 0), .int (σ 57 1)], [], σ) R
  refine mm_blk (M := mm_m_X11_isDone) 3 (S' := (227, [.ref 51, .int x1, .int (σ 57 0), .int (σ 57 1)], [.int (60 : Int32), .int (1 : Int32), .int (σ 57 0)], σ)) (P := []) rfl trivial ?_
  obtain ⟨v56, σ54, e55, h⟩ := h
  refine mm_cl_ (rest := []) e55 ⟨_, _, _, rfl, rfl, mm_tb_X11_isIn, rfl, rfl, Nat.le_of_ble_eq_true rfl, Nat.le_of_ble_eq_true rfl, trivial⟩ ?_
  refine mm_blk (M := mm_m_X11_isDone) 1 (S' := ((if v56 = (0 : Int32) then 247 else 233), [.ref 51, .int x1, .int (σ 57 0), .int (σ 57 1)], [], σ54)) (P := []) rfl trivial ?_
  by_cases b57 : v56 = (0 : Int32)
  · rw [if_pos b57]
    have h := h.1 b57
    refine mm_blk (M := mm_m_X11_isDone) 1 (S' := (248, [.ref 51, .int x1, .int (σ 57 0), .int (σ 57 1)], [.int (0 : Int32)], σ54)) (P := []) rfl trivial ?_
    subst h
    exact mm_rt_ ⟨_, _, _, rfl, ⟨_, _, rfl, rfl, rfl, rfl⟩⟩
  · rw [if_neg b57]
    have h := h.2 b57
    refine mm_blk (M := mm_m_X11_isDone) 8 (S' := ((if ((σ54 52 1) + (σ 57 0)) ≤ (999 : Int32) then 249 else 247), [.ref 51, .int x1, .int (σ 57 0), .int (σ 57 1)], [], σ54)) (P := [mm_cl 51 = 11, vp_in (1 : Int32) (mm_len 52)]) rfl ⟨rfl, (by unfold vp_in; decide), trivial⟩ ?_
    by_cases b58 : ((σ54 52 1) + (σ 57 0)) ≤ (999 : Int32)
    · rw [if_pos b58]
      have h := h.1 b58
      refine mm_blk (M := mm_m_X11_isDone) 4 (S' := (255, [.ref 51, .int x1, .int (σ 57 0), .int (σ 57 1)], [.int (σ 57 0), .ref 52, .ref 51], σ54)) (P := [mm_cl 51 = 11]) rfl ⟨rfl, trivial⟩ ?_
      obtain ⟨σ59, e60, h⟩ := h
      refine mm_cl_ (rest := []) e60 ⟨_, _, _, rfl, rfl, mm_tb_X11_daysOn, rfl, rfl, Nat.le_of_ble_eq_true rfl, Nat.le_of_ble_eq_true rfl, ⟨_, rfl, rfl⟩⟩ ?_
      refine mm_blk (M := mm_m_X11_isDone) 1 (S' := (259, [.ref 51, .int x1, .int (σ 57 0), .int (σ 57 1)], [.int (1 : Int32)], σ59)) (P := []) rfl trivial ?_
      subst h
      exact mm_rt_ ⟨_, _, _, rfl, ⟨_, _, rfl, rfl, rfl, rfl⟩⟩
    · rw [if_neg b58]
      have h := h.2 b58
      refine mm_blk (M := mm_m_X11_isDone) 1 (S' := (248, [.ref 51, .int x1, .int (σ 57 0), .int (σ 57 1)], [.int (0 : Int32)], σ54)) (P := []) rfl trivial ?_
      subst h
      exact mm_rt_ ⟨_, _, _, rfl, ⟨_, _, rfl, rfl, rfl, rfl⟩⟩
theorem sg_X11_treaty_0 (σ : mm_Sg) (x1 : Int32) (R : Option Value × mm_Sg) (h : (∃ (v3 : Int32) (σ1 : mm_Sg), mm_Ev mm_m_X11_wrongRow [.ref 51, .int x1, .int (0 : Int32)] σ (some (.int v3)) σ1 ∧ (((v3 = (0 : Int32) → (∀ σ5 : mm_Sg, σ5 = mm_u σ1 51 7 ((100 : Int32) * x1) → ((vp_in x1 (mm_len 63)) ∧ ∀ σ8 : mm_Sg, σ8 = mm_u σ5 51 8 (σ5 63 x1.toNatClampNeg) → (∀ σ10 : mm_Sg, σ10 = mm_u σ8 51 6 (0 : Int32) → mm_Go mm_m_X11_treaty (41, [.ref 51, .int x1, .int v3, .int (0 : Int32), .int (0 : Int32), .null, .null, .null], [], σ10) R)))) ∧ (¬ (v3 = (0 : Int32)) → (R = (some (.int v3), σ1))))))) : mm_Go mm_m_X11_treaty (0, [.ref 51, .int x1, .null, .null, .null, .null, .null, .null], [], σ) R := by
  refine mm_blk (M := mm_m_X11_treaty) 3 (S' := (3, [.ref 51, .int x1, .null, .null, .null, .null, .null, .null], [.int (0 : Int32), .int x1, .ref 51], σ)) (P := []) rfl trivial ?_
  obtain ⟨v3, σ1, e2, h⟩ := h
  refine mm_cl_ (rest := []) e2 ⟨_, _, _, rfl, rfl, mm_tb_X11_wrongRow, rfl, rfl, Nat.le_of_ble_eq_true rfl, Nat.le_of_ble_eq_true rfl, ⟨_, rfl, rfl⟩⟩ ?_
  refine mm_blk (M := mm_m_X11_treaty) 3 (S' := ((if v3 = (0 : Int32) then 13 else 11), [.ref 51, .int x1, .int v3, .null, .null, .null, .null, .null], [], σ1)) (P := []) rfl trivial ?_
  by_cases b4 : v3 = (0 : Int32)
  · rw [if_pos b4]
    have h := h.1 b4
    refine mm_blk (M := mm_m_X11_treaty) 5 (S' := (21, [.ref 51, .int x1, .int v3, .null, .null, .null, .null, .null], [], mm_u σ1 51 7 ((100 : Int32) * x1))) (P := [mm_cl 51 = 11]) rfl ⟨rfl, trivial⟩ ?_
    obtain ⟨σ5, e6⟩ : ∃ z, z = mm_u σ1 51 7 ((100 : Int32) * x1) := ⟨_, rfl⟩
    rw [← e6]
    have h := h σ5 e6
    obtain ⟨c7, h⟩ := h
    refine mm_blk (M := mm_m_X11_treaty) 6 (S' := (31, [.ref 51, .int x1, .int v3, .null, .null, .null, .null, .null], [], mm_u σ5 51 8 (σ5 63 x1.toNatClampNeg))) (P := [mm_cl 51 = 11, vp_in x1 (mm_len 63), mm_cl 51 = 11]) rfl ⟨rfl, c7, rfl, trivial⟩ ?_
    obtain ⟨σ8, e9⟩ : ∃ z, z = mm_u σ5 51 8 (σ5 63 x1.toNatClampNeg) := ⟨_, rfl⟩
    rw [← e9]
    have h := h σ8 e9
    refine mm_blk (M := mm_m_X11_treaty) 3 (S' := (36, [.ref 51, .int x1, .int v3, .null, .null, .null, .null, .null], [], mm_u σ8 51 6 (0 : Int32))) (P := [mm_cl 51 = 11]) rfl ⟨rfl, trivial⟩ ?_
    obtain ⟨σ10, e11⟩ : ∃ z, z = mm_u σ8 51 6 (0 : Int32) := ⟨_, rfl⟩
    rw [← e11]
    have h := h σ10 e11
    refine mm_blk (M := mm_m_X11_treaty) 4 (S' := (41, [.ref 51, .int x1, .int v3, .int (0 : Int32), .int (0 : Int32), .null, .null, .null], [], σ10)) (P := []) rfl trivial ?_
    exact h
  · rw [if_neg b4]
    have h := h.2 b4
    refine mm_blk (M := mm_m_X11_treaty) 1 (S' := (12, [.ref 51, .int x1, .int v3, .null, .null, .null, .null, .null], [.int v3], σ1)) (P := []) rfl trivial ?_
    subst h
    exact mm_rt_ ⟨_, _, _, rfl, ⟨_, _, rfl, rfl, rfl, rfl⟩⟩
theorem sg_X11_treaty_41 (σ : mm_Sg) (x1 : Int32) (x2 : Int32) (x3 : Int32) (x4 : Int32) (R : Option Value × mm_Sg) (h : (∃ (v3 : Int32) (σ1 : mm_Sg), mm_Ev mm_m_X11_readsStatement [.ref 51] σ (some (.int v3)) σ1 ∧ (((¬ v3 = (0 : Int32) → mm_Go mm_m_X11_treaty (58, [.ref 51, .int x1, .int x2, .int x3, .int x4, .null, .null, .null], [], σ1) R) ∧ (¬ (¬ v3 = (0 : Int32)) → mm_Go mm_m_X11_treaty (58, [.ref 51, .int x1, .int x2, .int x3, .int ((-1000 : Int32) - (σ1 51 6)), .null, .null, .null], [], σ1) R))))) : mm_Go mm_m_X11_treaty (41, [.ref 51, .int x1, .int x2, .int x3, .int x4, .null, .null, .null], [], σ) R := by
  refine mm_blk (M := mm_m_X11_treaty) 1 (S' := (42, [.ref 51, .int x1, .int x2, .int x3, .int x4, .null, .null, .null], [.ref 51], σ)) (P := []) rfl trivial ?_
  obtain ⟨v3, σ1, e2, h⟩ := h
  refine mm_cl_ (rest := []) e2 ⟨_, _, _, rfl, rfl, mm_tb_X11_readsStatement, rfl, rfl, Nat.le_of_ble_eq_true rfl, Nat.le_of_ble_eq_true rfl, ⟨_, rfl, rfl⟩⟩ ?_
  refine mm_blk (M := mm_m_X11_treaty) 1 (S' := ((if ¬ v3 = (0 : Int32) then 58 else 48), [.ref 51, .int x1, .int x2, .int x3, .int x4, .null, .null, .null], [], σ1)) (P := []) rfl trivial ?_
  by_cases b4 : ¬ v3 = (0 : Int32)
  · rw [if_pos b4]
    have h := h.1 b4
    exact h
  · rw [if_neg b4]
    have h := h.2 b4
    refine mm_blk (M := mm_m_X11_treaty) 5 (S' := (58, [.ref 51, .int x1, .int x2, .int x3, .int ((-1000 : Int32) - (σ1 51 6)), .null, .null, .null], [], σ1)) (P := [mm_cl 51 = 11]) rfl ⟨rfl, trivial⟩ ?_
    exact h
theorem sg_X11_treaty_58 (σ : mm_Sg) (x1 : Int32) (x2 : Int32) (x3 : Int32) (x4 : Int32) (R : Option Value × mm_Sg) (h : (((¬ x4 = (0 : Int32) → (∃ (σ2 : mm_Sg), mm_Ev mm_m_X11_copies [.ref 52, .ref 55] σ none σ2 ∧ (∀ σ4 : mm_Sg, σ4 = mm_u σ2 51 6 (0 : Int32) → mm_Go mm_m_X11_treaty (93, [.ref 51, .int x1, .int x2, .int (x3 + (1 : Int32)), .int x4, .null, .null, .null], [], σ4) R))) ∧ (¬ (¬ x4 = (0 : Int32)) → ((((σ 51 6) < (σ 51 8) → mm_Go mm_m_X11_treaty (41, [.ref 51, .int x1, .int x2, .int (x3 + (1 : Int32)), .int x4, .null, .null, .null], [], σ) R) ∧ (¬ ((σ 51 6) < (σ 51 8)) → (∃ (σ7 : mm_Sg), mm_Ev mm_m_X11_copies [.ref 52, .ref 55] σ none σ7 ∧ (∀ σ9 : mm_Sg, σ9 = mm_u σ7 51 6 (0 : Int32) → mm_Go mm_m_X11_treaty (93, [.ref 51, .int x1, .int x2, .int (x3 + (1 : Int32)), .int x4, .null, .null, .null], [], σ9) R))))))))) : mm_Go mm_m_X11_treaty (58, [.ref 51, .int x1, .int x2, .int x3, .int x4, .null, .null, .null], [], σ) R := by
  refine mm_blk (M := mm_m_X11_treaty) 3 (S' := ((if ¬ x4 = (0 : Int32) then 77 else 66), [.ref 51, .int x1, .int x2, .int (x3 + (1 : Int32)), .int x4, .null, .null, .null], [], σ)) (P := []) rfl trivial ?_
  by_cases b1 : ¬ x4 = (0 : Int32)
  · rw [if_pos b1]
    have h := h.1 b1
    refine mm_blk (M := mm_m_X11_treaty) 4 (S' := (85, [.ref 51, .int x1, .int x2, .int (x3 + (1 : Int32)), .int x4, .null, .null, .null], [.ref 55, .ref 52], σ)) (P := [mm_cl 51 = 11, mm_cl 51 = 11]) rfl ⟨rfl, rfl, trivial⟩ ?_
    obtain ⟨σ2, e3, h⟩ := h
    refine mm_cl_ (rest := []) e3 ⟨_, _, _, rfl, rfl, mm_tb_X11_copies, rfl, rfl, Nat.le_of_ble_eq_true rfl, Nat.le_of_ble_eq_true rfl, trivial⟩ ?_
    refine mm_blk (M := mm_m_X11_treaty) 3 (S' := (93, [.ref 51, .int x1, .int x2, .int (x3 + (1 : Int32)), .int x4, .null, .null, .null], [], mm_u σ2 51 6 (0 : Int32))) (P := [mm_cl 51 = 11]) rfl ⟨rfl, trivial⟩ ?_
    obtain ⟨σ4, e5⟩ : ∃ z, z = mm_u σ2 51 6 (0 : Int32) := ⟨_, rfl⟩
    rw [← e5]
    have h := h σ4 e5
    exact h
  · rw [if_neg b1]
    have h := h.2 b1
    refine mm_blk (M := mm_m_X11_treaty) 5 (S' := ((if (σ 51 6) < (σ 51 8) then 41 else 77), [.ref 51, .int x1, .int x2, .int (x3 + (1 : Int32)), .int x4, .null, .null, .null], [], σ)) (P := [mm_cl 51 = 11, mm_cl 51 = 11]) rfl ⟨rfl, rfl, trivial⟩ ?_
    by_cases b6 : (σ 51 6) < (σ 51 8)
    · rw [if_pos b6]
      have h := h.1 b6
      exact h
    · rw [if_neg b6]
      have h := h.2 b6
      refine mm_blk (M := mm_m_X11_treaty) 4 (S' := (85, [.ref 51, .int x1, .int x2, .int (x3 + (1 : Int32)), .int x4, .null, .null, .null], [.ref 55, .ref 52], σ)) (P := [mm_cl 51 = 11, mm_cl 51 = 11]) rfl ⟨rfl, rfl, trivial⟩ ?_
      obtain ⟨σ7, e8, h⟩ := h
      refine mm_cl_ (rest := []) e8 ⟨_, _, _, rfl, rfl, mm_tb_X11_copies, rfl, rfl, Nat.le_of_ble_eq_true rfl, Nat.le_of_ble_eq_true rfl, trivial⟩ ?_
      refine mm_blk (M := mm_m_X11_treaty) 3 (S' := (93, [.ref 51, .int x1, .int x2, .int (x3 + (1 : Int32)), .int x4, .null, .null, .null], [], mm_u σ7 51 6 (0 : Int32))) (P := [mm_cl 51 = 11]) rfl ⟨rfl, trivial⟩ ?_
      obtain ⟨σ9, e10⟩ : ∃ z, z = mm_u σ7 51 6 (0 : Int32) := ⟨_, rfl⟩
      rw [← e10]
      have h := h σ9 e10
      exact h
theorem sg_X11_treaty_93 (σ : mm_Sg) (x1 : Int32) (x2 : Int32) (x3 : Int32) (x4 : Int32) (d5 : Value) (d6 : Value) (d7 : Value) (R : Option Value × mm_Sg) (h : (((¬ x4 = (0 : Int32) → (((¬ x4 = (0 : Int32) → (R = (some (.int x4), σ))) ∧ (¬ (¬ x4 = (0 : Int32)) → (R = (some (.int x3), σ)))))) ∧ (¬ (¬ x4 = (0 : Int32)) → ((((σ 51 8) ≤ (σ 51 6) → (((¬ x4 = (0 : Int32) → (R = (some (.int x4), σ))) ∧ (¬ (¬ x4 = (0 : Int32)) → (R = (some (.int x3), σ)))))) ∧ (¬ ((σ 51 8) ≤ (σ 51 6)) → (∃ (v7 : Int32) (σ5 : mm_Sg), mm_Ev mm_m_X11_here [.ref 51] σ (some (.int v7)) σ5 ∧ (∃ (v10 : Int32) (σ8 : mm_Sg), mm_Ev mm_m_X11_readsStatement [.ref 51] σ5 (some (.int v10)) σ8 ∧ (∃ (v13 : Int32) (σ11 : mm_Sg), mm_Ev mm_m_X11_isDone [.ref 51, .int v7] σ8 (some (.int v13)) σ11 ∧ (((v13 = (0 : Int32) → (∃ (σ15 : mm_Sg), mm_Ev mm_m_X11_copies [.ref 55, .ref 52] σ11 none σ15 ∧ mm_Go mm_m_X11_treaty (93, [.ref 51, .int x1, .int x2, .int x3, .int ((-2000 : Int32) - (σ 51 6)), .int (σ 51 6), .int v7, .int v10], [], σ15) R)) ∧ (¬ (v13 = (0 : Int32)) → mm_Go mm_m_X11_treaty (93, [.ref 51, .int x1, .int x2, .int x3, .int x4, .int (σ 51 6), .int v7, .int v10], [], σ11) R))))))))))))) : mm_Go mm_m_X11_treaty (93, [.ref 51, .int x1, .int x2, .int x3, .int x4, d5, d6, d7], [], σ) R := by
  refine mm_blk (M := mm_m_X11_treaty) 2 (S' := ((if ¬ x4 = (0 : Int32) then 161 else 98), [.ref 51, .int x1, .int x2, .int x3, .int x4, d5, d6, d7], [], σ)) (P := []) rfl trivial ?_
  by_cases b1 : ¬ x4 = (0 : Int32)
  · rw [if_pos b1]
    have h := h.1 b1
    refine mm_blk (M := mm_m_X11_treaty) 2 (S' := ((if ¬ x4 = (0 : Int32) then 170 else 166), [.ref 51, .int x1, .int x2, .int x3, .int x4, d5, d6, d7], [], σ)) (P := []) rfl trivial ?_
    by_cases b2 : ¬ x4 = (0 : Int32)
    · rw [if_pos b2]
      have h := h.1 b2
      refine mm_blk (M := mm_m_X11_treaty) 1 (S' := (172, [.ref 51, .int x1, .int x2, .int x3, .int x4, d5, d6, d7], [.int x4], σ)) (P := []) rfl trivial ?_
      subst h
      exact mm_rt_ ⟨_, _, _, rfl, ⟨_, _, rfl, rfl, rfl, rfl⟩⟩
    · rw [if_neg b2]
      have h := h.2 b2
      refine mm_blk (M := mm_m_X11_treaty) 2 (S' := (172, [.ref 51, .int x1, .int x2, .int x3, .int x4, d5, d6, d7], [.int x3], σ)) (P := []) rfl trivial ?_
      subst h
      exact mm_rt_ ⟨_, _, _, rfl, ⟨_, _, rfl, rfl, rfl, rfl⟩⟩
  · rw [if_neg b1]
    have h := h.2 b1
    refine mm_blk (M := mm_m_X11_treaty) 5 (S' := ((if (σ 51 8) ≤ (σ 51 6) then 161 else 109), [.ref 51, .int x1, .int x2, .int x3, .int x4, d5, d6, d7], [], σ)) (P := [mm_cl 51 = 11, mm_cl 51 = 11]) rfl ⟨rfl, rfl, trivial⟩ ?_
    by_cases b3 : (σ 51 8) ≤ (σ 51 6)
    · rw [if_pos b3]
      have h := h.1 b3
      refine mm_blk (M := mm_m_X11_treaty) 2 (S' := ((if ¬ x4 = (0 : Int32) then 170 else 166), [.ref 51, .int x1, .int x2, .int x3, .int x4, d5, d6, d7], [], σ)) (P := []) rfl trivial ?_
      by_cases b4 : ¬ x4 = (0 : Int32)
      · rw [if_pos b4]
        have h := h.1 b4
        refine mm_blk (M := mm_m_X11_treaty) 1 (S' := (172, [.ref 51, .int x1, .int x2, .int x3, .int x4, d5, d6, d7], [.int x4], σ)) (P := []) rfl trivial ?_
        subst h
        exact mm_rt_ ⟨_, _, _, rfl, ⟨_, _, rfl, rfl, rfl, rfl⟩⟩
      · rw [if_neg b4]
        have h := h.2 b4
        refine mm_blk (M := mm_m_X11_treaty) 2 (S' := (172, [.ref 51, .int x1, .int x2, .int x3, .int x4, d5, d6, d7], [.int x3], σ)) (P := []) rfl trivial ?_
        subst h
        exact mm_rt_ ⟨_, _, _, rfl, ⟨_, _, rfl, rfl, rfl, rfl⟩⟩
    · rw [if_neg b3]
      have h := h.2 b3
      refine mm_blk (M := mm_m_X11_treaty) 4 (S' := (116, [.ref 51, .int x1, .int x2, .int x3, .int x4, .int (σ 51 6), d6, d7], [.ref 51], σ)) (P := [mm_cl 51 = 11]) rfl ⟨rfl, trivial⟩ ?_
      obtain ⟨v7, σ5, e6, h⟩ := h
      refine mm_cl_ (rest := []) e6 ⟨_, _, _, rfl, rfl, mm_tb_X11_here, rfl, rfl, Nat.le_of_ble_eq_true rfl, Nat.le_of_ble_eq_true rfl, ⟨_, rfl, rfl⟩⟩ ?_
      refine mm_blk (M := mm_m_X11_treaty) 2 (S' := (122, [.ref 51, .int x1, .int x2, .int x3, .int x4, .int (σ 51 6), .int v7, d7], [.ref 51], σ5)) (P := []) rfl trivial ?_
      obtain ⟨v10, σ8, e9, h⟩ := h
      refine mm_cl_ (rest := []) e9 ⟨_, _, _, rfl, rfl, mm_tb_X11_readsStatement, rfl, rfl, Nat.le_of_ble_eq_true rfl, Nat.le_of_ble_eq_true rfl, ⟨_, rfl, rfl⟩⟩ ?_
      refine mm_blk (M := mm_m_X11_treaty) 3 (S' := (130, [.ref 51, .int x1, .int x2, .int x3, .int x4, .int (σ 51 6), .int v7, .int v10], [.int v7, .ref 51], σ8)) (P := []) rfl trivial ?_
      obtain ⟨v13, σ11, e12, h⟩ := h
      refine mm_cl_ (rest := []) e12 ⟨_, _, _, rfl, rfl, mm_tb_X11_isDone, rfl, rfl, Nat.le_of_ble_eq_true rfl, Nat.le_of_ble_eq_true rfl, ⟨_, rfl, rfl⟩⟩ ?_
      refine mm_blk (M := mm_m_X11_treaty) 1 (S' := ((if v13 = (0 : Int32) then 139 else 136), [.ref 51, .int x1, .int x2, .int x3, .int x4, .int (σ 51 6), .int v7, .int v10], [], σ11)) (P := []) rfl trivial ?_
      by_cases b14 : v13 = (0 : Int32)
      · rw [if_pos b14]
        have h := h.1 b14
        refine mm_blk (M := mm_m_X11_treaty) 8 (S' := (155, [.ref 51, .int x1, .int x2, .int x3, .int ((-2000 : Int32) - (σ 51 6)), .int (σ 51 6), .int v7, .int v10], [.ref 52, .ref 55], σ11)) (P := [mm_cl 51 = 11, mm_cl 51 = 11]) rfl ⟨rfl, rfl, trivial⟩ ?_
        obtain ⟨σ15, e16, h⟩ := h
        refine mm_cl_ (rest := []) e16 ⟨_, _, _, rfl, rfl, mm_tb_X11_copies, rfl, rfl, Nat.le_of_ble_eq_true rfl, Nat.le_of_ble_eq_true rfl, trivial⟩ ?_
        refine mm_blk (M := mm_m_X11_treaty) 1 (S' := (93, [.ref 51, .int x1, .int x2, .int x3, .int ((-2000 : Int32) - (σ 51 6)), .int (σ 51 6), .int v7, .int v10], [], σ15)) (P := []) rfl trivial ?_
        exact h
      · rw [if_neg b14]
        have h := h.2 b14
        refine mm_blk (M := mm_m_X11_treaty) 1 (S' := (93, [.ref 51, .int x1, .int x2, .int x3, .int x4, .int (σ 51 6), .int v7, .int v10], [], σ11)) (P := []) rfl trivial ?_
        exact h
theorem sg_X11_nextOf_0 (σ : mm_Sg) (x1 : Int32) (R : Option Value × mm_Sg) (h : (∃ (v3 : Int32) (σ1 : mm_Sg), mm_Ev mm_m_X11_of [.int x1, .int (0 : Int32)] σ (some (.int v3)) σ1 ∧ ((vp_in v3 (mm_len 52)) ∧ ∃ (v7 : Int32) (σ5 : mm_Sg), mm_Ev mm_m_X11_of [.int x1, .int (1 : Int32)] σ1 (some (.int v7)) σ5 ∧ ((vp_in v7 (mm_len 52)) ∧ ∃ (v11 : Int32) (σ9 : mm_Sg), mm_Ev mm_m_X11_drinksBy [.int (σ1 52 v3.toNatClampNeg), .int (σ5 52 v7.toNatClampNeg), .int ((σ5 52 1) + (1 : Int32))] σ5 (some (.int v11)) σ9 ∧ (R = (some (.int v11), σ9)))))) : mm_Go mm_m_X11_nextOf (0, [.ref 51, .int x1], [], σ) R := by
  refine mm_blk (M := mm_m_X11_nextOf) 4 (S' := (6, [.ref 51, .int x1], [.int (0 : Int32), .int x1, .ref 52], σ)) (P := [mm_cl 51 = 11]) rfl ⟨rfl, trivial⟩ ?_
  obtain ⟨v3, σ1, e2, h⟩ := h
  refine mm_cl_ (rest := [.ref 52]) e2 ⟨_, _, _, rfl, rfl, mm_tb_X11_of, rfl, rfl, Nat.le_of_ble_eq_true rfl, Nat.le_of_ble_eq_true rfl, trivial⟩ ?_
  obtain ⟨c4, h⟩ := h
  refine mm_blk (M := mm_m_X11_nextOf) 5 (S' := (16, [.ref 51, .int x1], [.int (1 : Int32), .int x1, .ref 52, .int (σ1 52 v3.toNatClampNeg)], σ1)) (P := [vp_in v3 (mm_len 52), mm_cl 51 = 11]) rfl ⟨c4, rfl, trivial⟩ ?_
  obtain ⟨v7, σ5, e6, h⟩ := h
  refine mm_cl_ (rest := [.ref 52, .int (σ1 52 v3.toNatClampNeg)]) e6 ⟨_, _, _, rfl, rfl, mm_tb_X11_of, rfl, rfl, Nat.le_of_ble_eq_true rfl, Nat.le_of_ble_eq_true rfl, trivial⟩ ?_
  obtain ⟨c8, h⟩ := h
  refine mm_blk (M := mm_m_X11_nextOf) 7 (S' := (28, [.ref 51, .int x1], [.int ((σ5 52 1) + (1 : Int32)), .int (σ5 52 v7.toNatClampNeg), .int (σ1 52 v3.toNatClampNeg)], σ5)) (P := [vp_in v7 (mm_len 52), mm_cl 51 = 11, vp_in (1 : Int32) (mm_len 52)]) rfl ⟨c8, rfl, (by unfold vp_in; decide), trivial⟩ ?_
  obtain ⟨v11, σ9, e10, h⟩ := h
  refine mm_cl_ (rest := []) e10 ⟨_, _, _, rfl, rfl, mm_tb_X11_drinksBy, rfl, rfl, Nat.le_of_ble_eq_true rfl, Nat.le_of_ble_eq_true rfl, trivial⟩ ?_
  subst h
  exact mm_rt_ ⟨_, _, _, rfl, ⟨_, _, rfl, rfl, rfl, rfl⟩⟩
