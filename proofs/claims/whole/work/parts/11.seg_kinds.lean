/-! pieces of runs, by program -/
theorem sg_X0_cupsOn_0 (σ : mm_Sg) (q0 : Nat) (x1 : Int32) (x2 : Int32) (R : Option Value × mm_Sg) (h : ((mm_cl q0 < 12) ∧ ∃ (v3 : Int32) (σ1 : mm_Sg), mm_Ev mm_m_X4_cupsOn [.ref q0, .int x1, .int x2] σ (some (.int v3)) σ1 ∧ (R = (some (.int (v3 + (x2 / (2 : Int32)))), σ1)))) : mm_Go mm_m_X0_cupsOn (0, [.ref q0, .int x1, .int x2], [], σ) R := by
  refine mm_blk (M := mm_m_X0_cupsOn) 3 (S' := (3, [.ref q0, .int x1, .int x2], [.int x2, .int x1, .ref q0], σ)) (P := []) rfl trivial ?_
  obtain ⟨c4, h⟩ := h
  obtain ⟨v3, σ1, e2, h⟩ := h
  refine mm_cl_ (rest := []) e2 ⟨_, _, _, rfl, rfl, mm_tb_X4_cupsOn, rfl, rfl, Nat.le_of_ble_eq_true rfl, Nat.le_of_ble_eq_true rfl, ⟨_, rfl, c4⟩⟩ ?_
  refine mm_blk (M := mm_m_X0_cupsOn) 4 (S' := (10, [.ref q0, .int x1, .int x2], [.int (v3 + (x2 / (2 : Int32)))], σ1)) (P := [¬ (2 : Int32) = 0]) rfl ⟨(by decide), trivial⟩ ?_
  subst h
  exact mm_rt_ ⟨_, _, _, rfl, ⟨_, _, rfl, rfl, rfl, rfl⟩⟩
theorem sg_X0_tiringFor_0 (σ : mm_Sg) (q0 : Nat) (x1 : Int32) (x2 : Int32) (R : Option Value × mm_Sg) (h : ((mm_cl q0 < 12) ∧ ∃ (v3 : Int32) (σ1 : mm_Sg), mm_Ev mm_m_X4_tiringFor [.ref q0, .int x1, .int x2] σ (some (.int v3)) σ1 ∧ (R = (some (.int (v3 + x1)), σ1)))) : mm_Go mm_m_X0_tiringFor (0, [.ref q0, .int x1, .int x2], [], σ) R := by
  refine mm_blk (M := mm_m_X0_tiringFor) 3 (S' := (3, [.ref q0, .int x1, .int x2], [.int x2, .int x1, .ref q0], σ)) (P := []) rfl trivial ?_
  obtain ⟨c4, h⟩ := h
  obtain ⟨v3, σ1, e2, h⟩ := h
  refine mm_cl_ (rest := []) e2 ⟨_, _, _, rfl, rfl, mm_tb_X4_tiringFor, rfl, rfl, Nat.le_of_ble_eq_true rfl, Nat.le_of_ble_eq_true rfl, ⟨_, rfl, c4⟩⟩ ?_
  refine mm_blk (M := mm_m_X0_tiringFor) 2 (S' := (8, [.ref q0, .int x1, .int x2], [.int (v3 + x1)], σ1)) (P := []) rfl trivial ?_
  subst h
  exact mm_rt_ ⟨_, _, _, rfl, ⟨_, _, rfl, rfl, rfl, rfl⟩⟩
theorem sg_X0_debtFor_0 (σ : mm_Sg) (q0 : Nat) (x1 : Int32) (x2 : Int32) (R : Option Value × mm_Sg) (h : ((mm_cl q0 < 12) ∧ ∃ (v3 : Int32) (σ1 : mm_Sg), mm_Ev mm_m_X4_debtFor [.ref q0, .int x1, .int x2] σ (some (.int v3)) σ1 ∧ (R = (some (.int ((2 : Int32) * v3)), σ1)))) : mm_Go mm_m_X0_debtFor (0, [.ref q0, .int x1, .int x2], [], σ) R := by
  refine mm_blk (M := mm_m_X0_debtFor) 4 (S' := (4, [.ref q0, .int x1, .int x2], [.int x2, .int x1, .ref q0, .int (2 : Int32)], σ)) (P := []) rfl trivial ?_
  obtain ⟨c4, h⟩ := h
  obtain ⟨v3, σ1, e2, h⟩ := h
  refine mm_cl_ (rest := [.int (2 : Int32)]) e2 ⟨_, _, _, rfl, rfl, mm_tb_X4_debtFor, rfl, rfl, Nat.le_of_ble_eq_true rfl, Nat.le_of_ble_eq_true rfl, ⟨_, rfl, c4⟩⟩ ?_
  refine mm_blk (M := mm_m_X0_debtFor) 1 (S' := (8, [.ref q0, .int x1, .int x2], [.int ((2 : Int32) * v3)], σ1)) (P := []) rfl trivial ?_
  subst h
  exact mm_rt_ ⟨_, _, _, rfl, ⟨_, _, rfl, rfl, rfl, rfl⟩⟩
theorem sg_X0_priceOf_0 (σ : mm_Sg) (q0 : Nat) (x1 : Int32) (R : Option Value × mm_Sg) (h : ((mm_cl q0 < 12) ∧ ∃ (v3 : Int32) (σ1 : mm_Sg), mm_Ev mm_m_X4_priceOf [.ref q0, .int x1] σ (some (.int v3)) σ1 ∧ (R = (some (.int (v3 + x1)), σ1)))) : mm_Go mm_m_X0_priceOf (0, [.ref q0, .int x1], [], σ) R := by
  refine mm_blk (M := mm_m_X0_priceOf) 2 (S' := (2, [.ref q0, .int x1], [.int x1, .ref q0], σ)) (P := []) rfl trivial ?_
  obtain ⟨c4, h⟩ := h
  obtain ⟨v3, σ1, e2, h⟩ := h
  refine mm_cl_ (rest := []) e2 ⟨_, _, _, rfl, rfl, mm_tb_X4_priceOf, rfl, rfl, Nat.le_of_ble_eq_true rfl, Nat.le_of_ble_eq_true rfl, ⟨_, rfl, c4⟩⟩ ?_
  refine mm_blk (M := mm_m_X0_priceOf) 2 (S' := (7, [.ref q0, .int x1], [.int (v3 + x1)], σ1)) (P := []) rfl trivial ?_
  subst h
  exact mm_rt_ ⟨_, _, _, rfl, ⟨_, _, rfl, rfl, rfl, rfl⟩⟩
theorem sg_X0_failureOf_0 (σ : mm_Sg) (q0 : Nat) (x1 : Int32) (R : Option Value × mm_Sg) (h : ((mm_cl q0 < 12) ∧ ∃ (v3 : Int32) (σ1 : mm_Sg), mm_Ev mm_m_X4_failureOf [.ref q0, .int x1] σ (some (.int v3)) σ1 ∧ (R = (some (.int (v3 + (100 : Int32))), σ1)))) : mm_Go mm_m_X0_failureOf (0, [.ref q0, .int x1], [], σ) R := by
  refine mm_blk (M := mm_m_X0_failureOf) 2 (S' := (2, [.ref q0, .int x1], [.int x1, .ref q0], σ)) (P := []) rfl trivial ?_
  obtain ⟨c4, h⟩ := h
  obtain ⟨v3, σ1, e2, h⟩ := h
  refine mm_cl_ (rest := []) e2 ⟨_, _, _, rfl, rfl, mm_tb_X4_failureOf, rfl, rfl, Nat.le_of_ble_eq_true rfl, Nat.le_of_ble_eq_true rfl, ⟨_, rfl, c4⟩⟩ ?_
  refine mm_blk (M := mm_m_X0_failureOf) 2 (S' := (8, [.ref q0, .int x1], [.int (v3 + (100 : Int32))], σ1)) (P := []) rfl trivial ?_
  subst h
  exact mm_rt_ ⟨_, _, _, rfl, ⟨_, _, rfl, rfl, rfl, rfl⟩⟩
theorem sg_X2_cupsOn_0 (σ : mm_Sg) (q0 : Nat) (x1 : Int32) (x2 : Int32) (R : Option Value × mm_Sg) (h : ((mm_cl q0 < 12) ∧ ∃ (v3 : Int32) (σ1 : mm_Sg), mm_Ev mm_m_X0_cupsOn [.ref q0, .int x1, .int x2] σ (some (.int v3)) σ1 ∧ (R = (some (.int ((2 : Int32) * v3)), σ1)))) : mm_Go mm_m_X2_cupsOn (0, [.ref q0, .int x1, .int x2], [], σ) R := by
  refine mm_blk (M := mm_m_X2_cupsOn) 4 (S' := (4, [.ref q0, .int x1, .int x2], [.int x2, .int x1, .ref q0, .int (2 : Int32)], σ)) (P := []) rfl trivial ?_
  obtain ⟨c4, h⟩ := h
  obtain ⟨v3, σ1, e2, h⟩ := h
  refine mm_cl_ (rest := [.int (2 : Int32)]) e2 ⟨_, _, _, rfl, rfl, mm_tb_X0_cupsOn, rfl, rfl, Nat.le_of_ble_eq_true rfl, Nat.le_of_ble_eq_true rfl, ⟨_, rfl, c4⟩⟩ ?_
  refine mm_blk (M := mm_m_X2_cupsOn) 1 (S' := (8, [.ref q0, .int x1, .int x2], [.int ((2 : Int32) * v3)], σ1)) (P := []) rfl trivial ?_
  subst h
  exact mm_rt_ ⟨_, _, _, rfl, ⟨_, _, rfl, rfl, rfl, rfl⟩⟩
theorem sg_X2_priceOf_0 (σ : mm_Sg) (q0 : Nat) (x1 : Int32) (R : Option Value × mm_Sg) (h : ((mm_cl q0 < 12) ∧ ∃ (v3 : Int32) (σ1 : mm_Sg), mm_Ev mm_m_X0_priceOf [.ref q0, .int x1] σ (some (.int v3)) σ1 ∧ (R = (some (.int ((2 : Int32) * v3)), σ1)))) : mm_Go mm_m_X2_priceOf (0, [.ref q0, .int x1], [], σ) R := by
  refine mm_blk (M := mm_m_X2_priceOf) 3 (S' := (3, [.ref q0, .int x1], [.int x1, .ref q0, .int (2 : Int32)], σ)) (P := []) rfl trivial ?_
  obtain ⟨c4, h⟩ := h
  obtain ⟨v3, σ1, e2, h⟩ := h
  refine mm_cl_ (rest := [.int (2 : Int32)]) e2 ⟨_, _, _, rfl, rfl, mm_tb_X0_priceOf, rfl, rfl, Nat.le_of_ble_eq_true rfl, Nat.le_of_ble_eq_true rfl, ⟨_, rfl, c4⟩⟩ ?_
  refine mm_blk (M := mm_m_X2_priceOf) 1 (S' := (7, [.ref q0, .int x1], [.int ((2 : Int32) * v3)], σ1)) (P := []) rfl trivial ?_
  subst h
  exact mm_rt_ ⟨_, _, _, rfl, ⟨_, _, rfl, rfl, rfl, rfl⟩⟩
theorem sg_X3_cupsOn_0 (σ : mm_Sg) (q0 : Nat) (x1 : Int32) (x2 : Int32) (R : Option Value × mm_Sg) (h : ((mm_cl q0 < 12) ∧ ∃ (v3 : Int32) (σ1 : mm_Sg), mm_Ev mm_m_X4_cupsOn [.ref q0, .int x1, .int x2] σ (some (.int v3)) σ1 ∧ ((((x1 - x1 / (2 : Int32) * (2 : Int32)) = (0 : Int32) → (R = (some (.int (v3 + (0 : Int32))), σ1))) ∧ (¬ ((x1 - x1 / (2 : Int32) * (2 : Int32)) = (0 : Int32)) → (R = (some (.int (v3 + (1 : Int32))), σ1))))))) : mm_Go mm_m_X3_cupsOn (0, [.ref q0, .int x1, .int x2], [], σ) R := by
  refine mm_blk (M := mm_m_X3_cupsOn) 3 (S' := (3, [.ref q0, .int x1, .int x2], [.int x2, .int x1, .ref q0], σ)) (P := []) rfl trivial ?_
  obtain ⟨c4, h⟩ := h
  obtain ⟨v3, σ1, e2, h⟩ := h
  refine mm_cl_ (rest := []) e2 ⟨_, _, _, rfl, rfl, mm_tb_X4_cupsOn, rfl, rfl, Nat.le_of_ble_eq_true rfl, Nat.le_of_ble_eq_true rfl, ⟨_, rfl, c4⟩⟩ ?_
  refine mm_blk (M := mm_m_X3_cupsOn) 4 (S' := ((if (x1 - x1 / (2 : Int32) * (2 : Int32)) = (0 : Int32) then 16 else 12), [.ref q0, .int x1, .int x2], [.int v3], σ1)) (P := [¬ (2 : Int32) = 0]) rfl ⟨(by decide), trivial⟩ ?_
  by_cases b5 : (x1 - x1 / (2 : Int32) * (2 : Int32)) = (0 : Int32)
  · rw [if_pos b5]
    have h := h.1 b5
    refine mm_blk (M := mm_m_X3_cupsOn) 2 (S' := (18, [.ref q0, .int x1, .int x2], [.int (v3 + (0 : Int32))], σ1)) (P := []) rfl trivial ?_
    subst h
    exact mm_rt_ ⟨_, _, _, rfl, ⟨_, _, rfl, rfl, rfl, rfl⟩⟩
  · rw [if_neg b5]
    have h := h.2 b5
    refine mm_blk (M := mm_m_X3_cupsOn) 3 (S' := (18, [.ref q0, .int x1, .int x2], [.int (v3 + (1 : Int32))], σ1)) (P := []) rfl trivial ?_
    subst h
    exact mm_rt_ ⟨_, _, _, rfl, ⟨_, _, rfl, rfl, rfl, rfl⟩⟩
theorem sg_X3_tiringFor_0 (σ : mm_Sg) (q0 : Nat) (x1 : Int32) (x2 : Int32) (R : Option Value × mm_Sg) (h : (R = (some (.int ((2 : Int32) * x1)), σ))) : mm_Go mm_m_X3_tiringFor (0, [.ref q0, .int x1, .int x2], [], σ) R := by
  refine mm_blk (M := mm_m_X3_tiringFor) 3 (S' := (3, [.ref q0, .int x1, .int x2], [.int ((2 : Int32) * x1)], σ)) (P := []) rfl trivial ?_
  subst h
  exact mm_rt_ ⟨_, _, _, rfl, ⟨_, _, rfl, rfl, rfl, rfl⟩⟩
theorem sg_X3_priceOf_0 (σ : mm_Sg) (q0 : Nat) (x1 : Int32) (R : Option Value × mm_Sg) (h : ((mm_cl q0 < 12) ∧ ∃ (v3 : Int32) (σ1 : mm_Sg), mm_Ev mm_m_X4_priceOf [.ref q0, .int x1] σ (some (.int v3)) σ1 ∧ (R = (some (.int (v3 + (1 : Int32))), σ1)))) : mm_Go mm_m_X3_priceOf (0, [.ref q0, .int x1], [], σ) R := by
  refine mm_blk (M := mm_m_X3_priceOf) 2 (S' := (2, [.ref q0, .int x1], [.int x1, .ref q0], σ)) (P := []) rfl trivial ?_
  obtain ⟨c4, h⟩ := h
  obtain ⟨v3, σ1, e2, h⟩ := h
  refine mm_cl_ (rest := []) e2 ⟨_, _, _, rfl, rfl, mm_tb_X4_priceOf, rfl, rfl, Nat.le_of_ble_eq_true rfl, Nat.le_of_ble_eq_true rfl, ⟨_, rfl, c4⟩⟩ ?_
  refine mm_blk (M := mm_m_X3_priceOf) 2 (S' := (7, [.ref q0, .int x1], [.int (v3 + (1 : Int32))], σ1)) (P := []) rfl trivial ?_
  subst h
  exact mm_rt_ ⟨_, _, _, rfl, ⟨_, _, rfl, rfl, rfl, rfl⟩⟩
theorem sg_X4_cupsOn_0 (σ : mm_Sg) (q0 : Nat) (x1 : Int32) (x2 : Int32) (R : Option Value × mm_Sg) (h : (R = (some (.int (2 : Int32)), σ))) : mm_Go mm_m_X4_cupsOn (0, [.ref q0, .int x1, .int x2], [], σ) R := by
  refine mm_blk (M := mm_m_X4_cupsOn) 1 (S' := (1, [.ref q0, .int x1, .int x2], [.int (2 : Int32)], σ)) (P := []) rfl trivial ?_
  subst h
  exact mm_rt_ ⟨_, _, _, rfl, ⟨_, _, rfl, rfl, rfl, rfl⟩⟩
theorem sg_X4_tiringFor_0 (σ : mm_Sg) (q0 : Nat) (x1 : Int32) (x2 : Int32) (R : Option Value × mm_Sg) (h : (R = (some (.int ((3 : Int32) * x1)), σ))) : mm_Go mm_m_X4_tiringFor (0, [.ref q0, .int x1, .int x2], [], σ) R := by
  refine mm_blk (M := mm_m_X4_tiringFor) 3 (S' := (3, [.ref q0, .int x1, .int x2], [.int ((3 : Int32) * x1)], σ)) (P := []) rfl trivial ?_
  subst h
  exact mm_rt_ ⟨_, _, _, rfl, ⟨_, _, rfl, rfl, rfl, rfl⟩⟩
theorem sg_X4_debtFor_0 (σ : mm_Sg) (q0 : Nat) (x1 : Int32) (x2 : Int32) (R : Option Value × mm_Sg) (h : (R = (some (.int x1), σ))) : mm_Go mm_m_X4_debtFor (0, [.ref q0, .int x1, .int x2], [], σ) R := by
  refine mm_blk (M := mm_m_X4_debtFor) 1 (S' := (1, [.ref q0, .int x1, .int x2], [.int x1], σ)) (P := []) rfl trivial ?_
  subst h
  exact mm_rt_ ⟨_, _, _, rfl, ⟨_, _, rfl, rfl, rfl, rfl⟩⟩
theorem sg_X4_priceOf_0 (σ : mm_Sg) (q0 : Nat) (x1 : Int32) (R : Option Value × mm_Sg) (h : (R = (some (.int (3 : Int32)), σ))) : mm_Go mm_m_X4_priceOf (0, [.ref q0, .int x1], [], σ) R := by
  refine mm_blk (M := mm_m_X4_priceOf) 1 (S' := (1, [.ref q0, .int x1], [.int (3 : Int32)], σ)) (P := []) rfl trivial ?_
  subst h
  exact mm_rt_ ⟨_, _, _, rfl, ⟨_, _, rfl, rfl, rfl, rfl⟩⟩
theorem sg_X4_failureOf_0 (σ : mm_Sg) (q0 : Nat) (x1 : Int32) (R : Option Value × mm_Sg) (h : (R = (some (.int x1), σ))) : mm_Go mm_m_X4_failureOf (0, [.ref q0, .int x1], [], σ) R := by
  refine mm_blk (M := mm_m_X4_failureOf) 1 (S' := (1, [.ref q0, .int x1], [.int x1], σ)) (P := []) rfl trivial ?_
  subst h
  exact mm_rt_ ⟨_, _, _, rfl, ⟨_, _, rfl, rfl, rfl, rfl⟩⟩
theorem sg_X5_cupsOn_0 (σ : mm_Sg) (q0 : Nat) (x1 : Int32) (x2 : Int32) (R : Option Value × mm_Sg) (h : (((¬ (x1 - x1 / (3 : Int32) * (3 : Int32)) = (0 : Int32) → ((mm_cl q0 < 12) ∧ ∃ (v4 : Int32) (σ2 : mm_Sg), mm_Ev mm_m_X3_cupsOn [.ref q0, .int x1, .int x2] σ (some (.int v4)) σ2 ∧ (R = (some (.int v4), σ2)))) ∧ (¬ (¬ (x1 - x1 / (3 : Int32) * (3 : Int32)) = (0 : Int32)) → (R = (some (.int (0 : Int32)), σ)))))) : mm_Go mm_m_X5_cupsOn (0, [.ref q0, .int x1, .int x2], [], σ) R := by
  refine mm_blk (M := mm_m_X5_cupsOn) 4 (S' := ((if ¬ (x1 - x1 / (3 : Int32) * (3 : Int32)) = (0 : Int32) then 10 else 6), [.ref q0, .int x1, .int x2], [], σ)) (P := [¬ (3 : Int32) = 0]) rfl ⟨(by decide), trivial⟩ ?_
  by_cases b1 : ¬ (x1 - x1 / (3 : Int32) * (3 : Int32)) = (0 : Int32)
  · rw [if_pos b1]
    have h := h.1 b1
    refine mm_blk (M := mm_m_X5_cupsOn) 3 (S' := (13, [.ref q0, .int x1, .int x2], [.int x2, .int x1, .ref q0], σ)) (P := []) rfl trivial ?_
    obtain ⟨c5, h⟩ := h
    obtain ⟨v4, σ2, e3, h⟩ := h
    refine mm_cl_ (rest := []) e3 ⟨_, _, _, rfl, rfl, mm_tb_X3_cupsOn, rfl, rfl, Nat.le_of_ble_eq_true rfl, Nat.le_of_ble_eq_true rfl, ⟨_, rfl, c5⟩⟩ ?_
    subst h
    exact mm_rt_ ⟨_, _, _, rfl, ⟨_, _, rfl, rfl, rfl, rfl⟩⟩
  · rw [if_neg b1]
    have h := h.2 b1
    refine mm_blk (M := mm_m_X5_cupsOn) 2 (S' := (16, [.ref q0, .int x1, .int x2], [.int (0 : Int32)], σ)) (P := []) rfl trivial ?_
    subst h
    exact mm_rt_ ⟨_, _, _, rfl, ⟨_, _, rfl, rfl, rfl, rfl⟩⟩
theorem sg_X5_tiringFor_0 (σ : mm_Sg) (q0 : Nat) (x1 : Int32) (x2 : Int32) (R : Option Value × mm_Sg) (h : ((mm_cl q0 < 12) ∧ ∃ (v3 : Int32) (σ1 : mm_Sg), mm_Ev mm_m_X3_tiringFor [.ref q0, .int x1, .int x2] σ (some (.int v3)) σ1 ∧ (R = (some (.int (if (0 : Int32) < (v3 - x2) then (v3 - x2) else (0 : Int32))), σ1)))) : mm_Go mm_m_X5_tiringFor (0, [.ref q0, .int x1, .int x2], [], σ) R := by
  refine mm_blk (M := mm_m_X5_tiringFor) 4 (S' := (4, [.ref q0, .int x1, .int x2], [.int x2, .int x1, .ref q0, .int (0 : Int32)], σ)) (P := []) rfl trivial ?_
  obtain ⟨c4, h⟩ := h
  obtain ⟨v3, σ1, e2, h⟩ := h
  refine mm_cl_ (rest := [.int (0 : Int32)]) e2 ⟨_, _, _, rfl, rfl, mm_tb_X3_tiringFor, rfl, rfl, Nat.le_of_ble_eq_true rfl, Nat.le_of_ble_eq_true rfl, ⟨_, rfl, c4⟩⟩ ?_
  refine mm_blk (M := mm_m_X5_tiringFor) 3 (S' := (12, [.ref q0, .int x1, .int x2], [.int (if (0 : Int32) < (v3 - x2) then (v3 - x2) else (0 : Int32))], σ1)) (P := []) rfl trivial ?_
  subst h
  exact mm_rt_ ⟨_, _, _, rfl, ⟨_, _, rfl, rfl, rfl, rfl⟩⟩
theorem sg_X6_cupsOn_0 (σ : mm_Sg) (q0 : Nat) (x1 : Int32) (x2 : Int32) (R : Option Value × mm_Sg) (h : (R = (some (.int (1 : Int32)), σ))) : mm_Go mm_m_X6_cupsOn (0, [.ref q0, .int x1, .int x2], [], σ) R := by
  refine mm_blk (M := mm_m_X6_cupsOn) 1 (S' := (1, [.ref q0, .int x1, .int x2], [.int (1 : Int32)], σ)) (P := []) rfl trivial ?_
  subst h
  exact mm_rt_ ⟨_, _, _, rfl, ⟨_, _, rfl, rfl, rfl, rfl⟩⟩
theorem sg_X6_tiringFor_0 (σ : mm_Sg) (q0 : Nat) (x1 : Int32) (x2 : Int32) (R : Option Value × mm_Sg) (h : (R = (some (.int x1), σ))) : mm_Go mm_m_X6_tiringFor (0, [.ref q0, .int x1, .int x2], [], σ) R := by
  refine mm_blk (M := mm_m_X6_tiringFor) 1 (S' := (1, [.ref q0, .int x1, .int x2], [.int x1], σ)) (P := []) rfl trivial ?_
  subst h
  exact mm_rt_ ⟨_, _, _, rfl, ⟨_, _, rfl, rfl, rfl, rfl⟩⟩
theorem sg_X6_priceOf_0 (σ : mm_Sg) (q0 : Nat) (x1 : Int32) (R : Option Value × mm_Sg) (h : (R = (some (.int (2 : Int32)), σ))) : mm_Go mm_m_X6_priceOf (0, [.ref q0, .int x1], [], σ) R := by
  refine mm_blk (M := mm_m_X6_priceOf) 1 (S' := (1, [.ref q0, .int x1], [.int (2 : Int32)], σ)) (P := []) rfl trivial ?_
  subst h
  exact mm_rt_ ⟨_, _, _, rfl, ⟨_, _, rfl, rfl, rfl, rfl⟩⟩
theorem sg_X7_cupsOn_0 (σ : mm_Sg) (q0 : Nat) (x1 : Int32) (x2 : Int32) (R : Option Value × mm_Sg) (h : (R = (some (.int (0 : Int32)), σ))) : mm_Go mm_m_X7_cupsOn (0, [.ref q0, .int x1, .int x2], [], σ) R := by
  refine mm_blk (M := mm_m_X7_cupsOn) 1 (S' := (1, [.ref q0, .int x1, .int x2], [.int (0 : Int32)], σ)) (P := []) rfl trivial ?_
  subst h
  exact mm_rt_ ⟨_, _, _, rfl, ⟨_, _, rfl, rfl, rfl, rfl⟩⟩
theorem sg_X7_tiringFor_0 (σ : mm_Sg) (q0 : Nat) (x1 : Int32) (x2 : Int32) (R : Option Value × mm_Sg) (h : (R = (some (.int (5 : Int32)), σ))) : mm_Go mm_m_X7_tiringFor (0, [.ref q0, .int x1, .int x2], [], σ) R := by
  refine mm_blk (M := mm_m_X7_tiringFor) 1 (S' := (1, [.ref q0, .int x1, .int x2], [.int (5 : Int32)], σ)) (P := []) rfl trivial ?_
  subst h
  exact mm_rt_ ⟨_, _, _, rfl, ⟨_, _, rfl, rfl, rfl, rfl⟩⟩
theorem sg_X7_debtFor_0 (σ : mm_Sg) (q0 : Nat) (x1 : Int32) (x2 : Int32) (R : Option Value × mm_Sg) (h : (R = (some (.int (0 : Int32)), σ))) : mm_Go mm_m_X7_debtFor (0, [.ref q0, .int x1, .int x2], [], σ) R := by
  refine mm_blk (M := mm_m_X7_debtFor) 1 (S' := (1, [.ref q0, .int x1, .int x2], [.int (0 : Int32)], σ)) (P := []) rfl trivial ?_
  subst h
  exact mm_rt_ ⟨_, _, _, rfl, ⟨_, _, rfl, rfl, rfl, rfl⟩⟩
theorem sg_X7_priceOf_0 (σ : mm_Sg) (q0 : Nat) (x1 : Int32) (R : Option Value × mm_Sg) (h : ((mm_cl q0 < 12) ∧ ∃ (v3 : Int32) (σ1 : mm_Sg), mm_Ev mm_m_X6_priceOf [.ref q0, .int x1] σ (some (.int v3)) σ1 ∧ (R = (some (.int (v3 / (2 : Int32))), σ1)))) : mm_Go mm_m_X7_priceOf (0, [.ref q0, .int x1], [], σ) R := by
  refine mm_blk (M := mm_m_X7_priceOf) 2 (S' := (2, [.ref q0, .int x1], [.int x1, .ref q0], σ)) (P := []) rfl trivial ?_
  obtain ⟨c4, h⟩ := h
  obtain ⟨v3, σ1, e2, h⟩ := h
  refine mm_cl_ (rest := []) e2 ⟨_, _, _, rfl, rfl, mm_tb_X6_priceOf, rfl, rfl, Nat.le_of_ble_eq_true rfl, Nat.le_of_ble_eq_true rfl, ⟨_, rfl, c4⟩⟩ ?_
  refine mm_blk (M := mm_m_X7_priceOf) 2 (S' := (7, [.ref q0, .int x1], [.int (v3 / (2 : Int32))], σ1)) (P := [¬ (2 : Int32) = 0]) rfl ⟨(by decide), trivial⟩ ?_
  subst h
  exact mm_rt_ ⟨_, _, _, rfl, ⟨_, _, rfl, rfl, rfl, rfl⟩⟩
theorem sg_X8_becomeRow_0 (σ : mm_Sg) (q0 : Nat) (x1 : Int32) (x2 : Int32) (R : Option Value × mm_Sg) (h : ((mm_cl q0 = 8) ∧ ∀ σ2 : mm_Sg, σ2 = mm_u σ q0 0 (2 : Int32) → (∀ σ4 : mm_Sg, σ4 = mm_u σ2 q0 3 x1 → (∀ σ6 : mm_Sg, σ6 = mm_u σ4 q0 4 (if (0 : Int32) < (if (100 : Int32) < x2 then (100 : Int32) else x2) then (if (100 : Int32) < x2 then (100 : Int32) else x2) else (0 : Int32)) → (∃ (σ8 : mm_Sg), mm_Ev mm_m_J7_fill_53178 [.ref (q0 + 1), .int (0 : Int32)] σ6 none σ8 ∧ (R = (none, σ8))))))) : mm_Go mm_m_X8_becomeRow (0, [.ref q0, .int x1, .int x2], [], σ) R := by
  obtain ⟨c1, h⟩ := h
  refine mm_blk (M := mm_m_X8_becomeRow) 3 (S' := (5, [.ref q0, .int x1, .int x2], [], mm_u σ q0 0 (2 : Int32))) (P := [mm_cl q0 = 8]) rfl ⟨c1, trivial⟩ ?_
  obtain ⟨σ2, e3⟩ : ∃ z, z = mm_u σ q0 0 (2 : Int32) := ⟨_, rfl⟩
  rw [← e3]
  have h := h σ2 e3
  refine mm_blk (M := mm_m_X8_becomeRow) 3 (S' := (10, [.ref q0, .int x1, .int x2], [], mm_u σ2 q0 3 x1)) (P := [mm_cl q0 = 8]) rfl ⟨c1, trivial⟩ ?_
  obtain ⟨σ4, e5⟩ : ∃ z, z = mm_u σ2 q0 3 x1 := ⟨_, rfl⟩
  rw [← e5]
  have h := h σ4 e5
  refine mm_blk (M := mm_m_X8_becomeRow) 7 (S' := (24, [.ref q0, .int x1, .int x2], [], mm_u σ4 q0 4 (if (0 : Int32) < (if (100 : Int32) < x2 then (100 : Int32) else x2) then (if (100 : Int32) < x2 then (100 : Int32) else x2) else (0 : Int32)))) (P := [mm_cl q0 = 8]) rfl ⟨c1, trivial⟩ ?_
  obtain ⟨σ6, e7⟩ : ∃ z, z = mm_u σ4 q0 4 (if (0 : Int32) < (if (100 : Int32) < x2 then (100 : Int32) else x2) then (if (100 : Int32) < x2 then (100 : Int32) else x2) else (0 : Int32)) := ⟨_, rfl⟩
  rw [← e7]
  have h := h σ6 e7
  refine mm_blk (M := mm_m_X8_becomeRow) 3 (S' := (29, [.ref q0, .int x1, .int x2], [.int (0 : Int32), .ref (q0 + 1)], σ6)) (P := [mm_cl q0 = 8]) rfl ⟨c1, trivial⟩ ?_
  obtain ⟨σ8, e9, h⟩ := h
  refine mm_cl_ (rest := []) e9 ⟨_, _, _, rfl, rfl, mm_tb_J7_fill_53178, rfl, rfl, Nat.le_of_ble_eq_true rfl, Nat.le_of_ble_eq_true rfl, trivial⟩ ?_
  subst h
  exact mm_rt_ ⟨_, _, _, rfl, ⟨rfl, rfl, rfl⟩⟩
theorem sg_X8_hasPlace_0 (σ : mm_Sg) (q0 : Nat) (x1 : Int32) (R : Option Value × mm_Sg) (h : (((x1 < (0 : Int32) → (R = (some (.int (0 : Int32)), σ))) ∧ (¬ (x1 < (0 : Int32)) → ((mm_cl q0 = 8) ∧ (((σ q0 4) ≤ x1 → (R = (some (.int (0 : Int32)), σ))) ∧ (¬ ((σ q0 4) ≤ x1) → ((((100 : Int32) ≤ x1 → (R = (some (.int (0 : Int32)), σ))) ∧ (¬ ((100 : Int32) ≤ x1) → (R = (some (.int (1 : Int32)), σ)))))))))))) : mm_Go mm_m_X8_hasPlace (0, [.ref q0, .int x1], [], σ) R := by
  refine mm_blk (M := mm_m_X8_hasPlace) 2 (S' := ((if x1 < (0 : Int32) then 22 else 4), [.ref q0, .int x1], [], σ)) (P := []) rfl trivial ?_
  by_cases b1 : x1 < (0 : Int32)
  · rw [if_pos b1]
    have h := h.1 b1
    refine mm_blk (M := mm_m_X8_hasPlace) 1 (S' := (23, [.ref q0, .int x1], [.int (0 : Int32)], σ)) (P := []) rfl trivial ?_
    subst h
    exact mm_rt_ ⟨_, _, _, rfl, ⟨_, _, rfl, rfl, rfl, rfl⟩⟩
  · rw [if_neg b1]
    have h := h.2 b1
    obtain ⟨c2, h⟩ := h
    refine mm_blk (M := mm_m_X8_hasPlace) 4 (S' := ((if (σ q0 4) ≤ x1 then 22 else 12), [.ref q0, .int x1], [], σ)) (P := [mm_cl q0 = 8]) rfl ⟨c2, trivial⟩ ?_
    by_cases b3 : (σ q0 4) ≤ x1
    · rw [if_pos b3]
      have h := h.1 b3
      refine mm_blk (M := mm_m_X8_hasPlace) 1 (S' := (23, [.ref q0, .int x1], [.int (0 : Int32)], σ)) (P := []) rfl trivial ?_
      subst h
      exact mm_rt_ ⟨_, _, _, rfl, ⟨_, _, rfl, rfl, rfl, rfl⟩⟩
    · rw [if_neg b3]
      have h := h.2 b3
      refine mm_blk (M := mm_m_X8_hasPlace) 3 (S' := ((if (100 : Int32) ≤ x1 then 22 else 18), [.ref q0, .int x1], [], σ)) (P := []) rfl trivial ?_
      by_cases b4 : (100 : Int32) ≤ x1
      · rw [if_pos b4]
        have h := h.1 b4
        refine mm_blk (M := mm_m_X8_hasPlace) 1 (S' := (23, [.ref q0, .int x1], [.int (0 : Int32)], σ)) (P := []) rfl trivial ?_
        subst h
        exact mm_rt_ ⟨_, _, _, rfl, ⟨_, _, rfl, rfl, rfl, rfl⟩⟩
      · rw [if_neg b4]
        have h := h.2 b4
        refine mm_blk (M := mm_m_X8_hasPlace) 2 (S' := (23, [.ref q0, .int x1], [.int (1 : Int32)], σ)) (P := []) rfl trivial ?_
        subst h
        exact mm_rt_ ⟨_, _, _, rfl, ⟨_, _, rfl, rfl, rfl, rfl⟩⟩
theorem sg_X8_hasPlaces_0 (σ : mm_Sg) (q0 : Nat) (x1 : Int32) (x2 : Int32) (R : Option Value × mm_Sg) (h : (((x2 < (0 : Int32) → (R = (some (.int (0 : Int32)), σ))) ∧ (¬ (x2 < (0 : Int32)) → (((x1 < (0 : Int32) → (R = (some (.int (0 : Int32)), σ))) ∧ (¬ (x1 < (0 : Int32)) → ((mm_cl q0 = 8) ∧ (((σ q0 4) < x2 → (R = (some (.int (0 : Int32)), σ))) ∧ (¬ ((σ q0 4) < x2) → (((((σ q0 4) - x2) < x1 → (R = (some (.int (0 : Int32)), σ))) ∧ (¬ (((σ q0 4) - x2) < x1) → (R = (some (.int (1 : Int32)), σ))))))))))))))) : mm_Go mm_m_X8_hasPlaces (0, [.ref q0, .int x1, .int x2], [], σ) R := by
  refine mm_blk (M := mm_m_X8_hasPlaces) 2 (S' := ((if x2 < (0 : Int32) then 30 else 4), [.ref q0, .int x1, .int x2], [], σ)) (P := []) rfl trivial ?_
  by_cases b1 : x2 < (0 : Int32)
  · rw [if_pos b1]
    have h := h.1 b1
    refine mm_blk (M := mm_m_X8_hasPlaces) 1 (S' := (31, [.ref q0, .int x1, .int x2], [.int (0 : Int32)], σ)) (P := []) rfl trivial ?_
    subst h
    exact mm_rt_ ⟨_, _, _, rfl, ⟨_, _, rfl, rfl, rfl, rfl⟩⟩
  · rw [if_neg b1]
    have h := h.2 b1
    refine mm_blk (M := mm_m_X8_hasPlaces) 2 (S' := ((if x1 < (0 : Int32) then 30 else 8), [.ref q0, .int x1, .int x2], [], σ)) (P := []) rfl trivial ?_
    by_cases b2 : x1 < (0 : Int32)
    · rw [if_pos b2]
      have h := h.1 b2
      refine mm_blk (M := mm_m_X8_hasPlaces) 1 (S' := (31, [.ref q0, .int x1, .int x2], [.int (0 : Int32)], σ)) (P := []) rfl trivial ?_
      subst h
      exact mm_rt_ ⟨_, _, _, rfl, ⟨_, _, rfl, rfl, rfl, rfl⟩⟩
    · rw [if_neg b2]
      have h := h.2 b2
      obtain ⟨c3, h⟩ := h
      refine mm_blk (M := mm_m_X8_hasPlaces) 4 (S' := ((if (σ q0 4) < x2 then 30 else 16), [.ref q0, .int x1, .int x2], [], σ)) (P := [mm_cl q0 = 8]) rfl ⟨c3, trivial⟩ ?_
      by_cases b4 : (σ q0 4) < x2
      · rw [if_pos b4]
        have h := h.1 b4
        refine mm_blk (M := mm_m_X8_hasPlaces) 1 (S' := (31, [.ref q0, .int x1, .int x2], [.int (0 : Int32)], σ)) (P := []) rfl trivial ?_
        subst h
        exact mm_rt_ ⟨_, _, _, rfl, ⟨_, _, rfl, rfl, rfl, rfl⟩⟩
      · rw [if_neg b4]
        have h := h.2 b4
        refine mm_blk (M := mm_m_X8_hasPlaces) 6 (S' := ((if ((σ q0 4) - x2) < x1 then 30 else 26), [.ref q0, .int x1, .int x2], [], σ)) (P := [mm_cl q0 = 8]) rfl ⟨c3, trivial⟩ ?_
        by_cases b5 : ((σ q0 4) - x2) < x1
        · rw [if_pos b5]
          have h := h.1 b5
          refine mm_blk (M := mm_m_X8_hasPlaces) 1 (S' := (31, [.ref q0, .int x1, .int x2], [.int (0 : Int32)], σ)) (P := []) rfl trivial ?_
          subst h
          exact mm_rt_ ⟨_, _, _, rfl, ⟨_, _, rfl, rfl, rfl, rfl⟩⟩
        · rw [if_neg b5]
          have h := h.2 b5
          refine mm_blk (M := mm_m_X8_hasPlaces) 2 (S' := (31, [.ref q0, .int x1, .int x2], [.int (1 : Int32)], σ)) (P := []) rfl trivial ?_
          subst h
          exact mm_rt_ ⟨_, _, _, rfl, ⟨_, _, rfl, rfl, rfl, rfl⟩⟩
theorem sg_X8_at_0 (σ : mm_Sg) (q0 : Nat) (x1 : Int32) (R : Option Value × mm_Sg) (h : ((mm_cl q0 = 8) ∧ ∃ (v3 : Int32) (σ1 : mm_Sg), mm_Ev mm_m_X8_hasPlace [.ref q0, .int x1] σ (some (.int v3)) σ1 ∧ (((v3 = (0 : Int32) → (R = (some (.int (0 : Int32)), σ1))) ∧ (¬ (v3 = (0 : Int32)) → ((vp_in x1 (mm_len (q0 + 1))) ∧ R = (some (.int (σ1 (q0 + 1) x1.toNatClampNeg)), σ1))))))) : mm_Go mm_m_X8_at (0, [.ref q0, .int x1], [], σ) R := by
  refine mm_blk (M := mm_m_X8_at) 2 (S' := (2, [.ref q0, .int x1], [.int x1, .ref q0], σ)) (P := []) rfl trivial ?_
  obtain ⟨c4, h⟩ := h
  obtain ⟨v3, σ1, e2, h⟩ := h
  refine mm_cl_ (rest := []) e2 ⟨_, _, _, rfl, rfl, mm_tb_X8_hasPlace, rfl, rfl, Nat.le_of_ble_eq_true rfl, Nat.le_of_ble_eq_true rfl, ⟨_, rfl, c4⟩⟩ ?_
  refine mm_blk (M := mm_m_X8_at) 1 (S' := ((if v3 = (0 : Int32) then 17 else 8), [.ref q0, .int x1], [], σ1)) (P := []) rfl trivial ?_
  by_cases b5 : v3 = (0 : Int32)
  · rw [if_pos b5]
    have h := h.1 b5
    refine mm_blk (M := mm_m_X8_at) 1 (S' := (18, [.ref q0, .int x1], [.int (0 : Int32)], σ1)) (P := []) rfl trivial ?_
    subst h
    exact mm_rt_ ⟨_, _, _, rfl, ⟨_, _, rfl, rfl, rfl, rfl⟩⟩
  · rw [if_neg b5]
    have h := h.2 b5
    obtain ⟨c6, h⟩ := h
    refine mm_blk (M := mm_m_X8_at) 5 (S' := (18, [.ref q0, .int x1], [.int (σ1 (q0 + 1) x1.toNatClampNeg)], σ1)) (P := [mm_cl q0 = 8, vp_in x1 (mm_len (q0 + 1))]) rfl ⟨c4, c6, trivial⟩ ?_
    subst h
    exact mm_rt_ ⟨_, _, _, rfl, ⟨_, _, rfl, rfl, rfl, rfl⟩⟩
theorem sg_X8_setAt_0 (σ : mm_Sg) (q0 : Nat) (x1 : Int32) (x2 : Int32) (R : Option Value × mm_Sg) (h : ((mm_cl q0 = 8) ∧ ∃ (v3 : Int32) (σ1 : mm_Sg), mm_Ev mm_m_X8_hasPlace [.ref q0, .int x1] σ (some (.int v3)) σ1 ∧ (((¬ v3 = (0 : Int32) → (((¬ (σ1 q0 3) = (0 : Int32) → (((¬ (σ1 q0 3) = (1 : Int32) → ((vp_in x1 (mm_len (q0 + 1))) ∧ ∀ σ9 : mm_Sg, σ9 = mm_u σ1 (q0 + 1) x1.toNatClampNeg x2 → (R = (none, σ9)))) ∧ (¬ (¬ (σ1 q0 3) = (1 : Int32)) → ((vp_in x1 (mm_len (q0 + 1))) ∧ ∀ σ12 : mm_Sg, σ12 = mm_u σ1 (q0 + 1) x1.toNatClampNeg (x2.toInt16.toInt32) → (R = (none, σ12))))))) ∧ (¬ (¬ (σ1 q0 3) = (0 : Int32)) → ((vp_in x1 (mm_len (q0 + 1))) ∧ ∀ σ15 : mm_Sg, σ15 = mm_u σ1 (q0 + 1) x1.toNatClampNeg (x2.toInt8.toInt32) → (R = (none, σ15))))))) ∧ (¬ (¬ v3 = (0 : Int32)) → (R = (none, σ1))))))) : mm_Go mm_m_X8_setAt (0, [.ref q0, .int x1, .int x2], [], σ) R := by
  refine mm_blk (M := mm_m_X8_setAt) 2 (S' := (2, [.ref q0, .int x1, .int x2], [.int x1, .ref q0], σ)) (P := []) rfl trivial ?_
  obtain ⟨c4, h⟩ := h
  obtain ⟨v3, σ1, e2, h⟩ := h
  refine mm_cl_ (rest := []) e2 ⟨_, _, _, rfl, rfl, mm_tb_X8_hasPlace, rfl, rfl, Nat.le_of_ble_eq_true rfl, Nat.le_of_ble_eq_true rfl, ⟨_, rfl, c4⟩⟩ ?_
  refine mm_blk (M := mm_m_X8_setAt) 1 (S' := ((if ¬ v3 = (0 : Int32) then 9 else 8), [.ref q0, .int x1, .int x2], [], σ1)) (P := []) rfl trivial ?_
  by_cases b5 : ¬ v3 = (0 : Int32)
  · rw [if_pos b5]
    have h := h.1 b5
    refine mm_blk (M := mm_m_X8_setAt) 3 (S' := ((if ¬ (σ1 q0 3) = (0 : Int32) then 27 else 16), [.ref q0, .int x1, .int x2], [], σ1)) (P := [mm_cl q0 = 8]) rfl ⟨c4, trivial⟩ ?_
    by_cases b6 : ¬ (σ1 q0 3) = (0 : Int32)
    · rw [if_pos b6]
      have h := h.1 b6
      refine mm_blk (M := mm_m_X8_setAt) 4 (S' := ((if ¬ (σ1 q0 3) = (1 : Int32) then 46 else 35), [.ref q0, .int x1, .int x2], [], σ1)) (P := [mm_cl q0 = 8]) rfl ⟨c4, trivial⟩ ?_
      by_cases b7 : ¬ (σ1 q0 3) = (1 : Int32)
      · rw [if_pos b7]
        have h := h.1 b7
        obtain ⟨c8, h⟩ := h
        refine mm_blk (M := mm_m_X8_setAt) 5 (S' := (53, [.ref q0, .int x1, .int x2], [], mm_u σ1 (q0 + 1) x1.toNatClampNeg x2)) (P := [mm_cl q0 = 8, vp_in x1 (mm_len (q0 + 1))]) rfl ⟨c4, c8, trivial⟩ ?_
        obtain ⟨σ9, e10⟩ : ∃ z, z = mm_u σ1 (q0 + 1) x1.toNatClampNeg x2 := ⟨_, rfl⟩
        rw [← e10]
        have h := h σ9 e10
        subst h
        exact mm_rt_ ⟨_, _, _, rfl, ⟨rfl, rfl, rfl⟩⟩
      · rw [if_neg b7]
        have h := h.2 b7
        obtain ⟨c11, h⟩ := h
        refine mm_blk (M := mm_m_X8_setAt) 6 (S' := (43, [.ref q0, .int x1, .int x2], [], mm_u σ1 (q0 + 1) x1.toNatClampNeg (x2.toInt16.toInt32))) (P := [mm_cl q0 = 8, vp_in x1 (mm_len (q0 + 1))]) rfl ⟨c4, c11, trivial⟩ ?_
        obtain ⟨σ12, e13⟩ : ∃ z, z = mm_u σ1 (q0 + 1) x1.toNatClampNeg (x2.toInt16.toInt32) := ⟨_, rfl⟩
        rw [← e13]
        have h := h σ12 e13
        refine mm_blk (M := mm_m_X8_setAt) 1 (S' := (53, [.ref q0, .int x1, .int x2], [], σ12)) (P := []) rfl trivial ?_
        subst h
        exact mm_rt_ ⟨_, _, _, rfl, ⟨rfl, rfl, rfl⟩⟩
    · rw [if_neg b6]
      have h := h.2 b6
      obtain ⟨c14, h⟩ := h
      refine mm_blk (M := mm_m_X8_setAt) 6 (S' := (24, [.ref q0, .int x1, .int x2], [], mm_u σ1 (q0 + 1) x1.toNatClampNeg (x2.toInt8.toInt32))) (P := [mm_cl q0 = 8, vp_in x1 (mm_len (q0 + 1))]) rfl ⟨c4, c14, trivial⟩ ?_
      obtain ⟨σ15, e16⟩ : ∃ z, z = mm_u σ1 (q0 + 1) x1.toNatClampNeg (x2.toInt8.toInt32) := ⟨_, rfl⟩
      rw [← e16]
      have h := h σ15 e16
      refine mm_blk (M := mm_m_X8_setAt) 1 (S' := (53, [.ref q0, .int x1, .int x2], [], σ15)) (P := []) rfl trivial ?_
      subst h
      exact mm_rt_ ⟨_, _, _, rfl, ⟨rfl, rfl, rfl⟩⟩
  · rw [if_neg b5]
    have h := h.2 b5
    subst h
    exact mm_rt_ ⟨_, _, _, rfl, ⟨rfl, rfl, rfl⟩⟩
theorem sg_X8_numberAt_0 (σ : mm_Sg) (q0 : Nat) (x1 : Int32) (x2 : Int32) (R : Option Value × mm_Sg) (h : mm_Go mm_m_X8_numberAt (5, [.ref q0, .int x1, .int x2, .int (0 : Int32), .int (0 : Int32)], [], σ) R) : mm_Go mm_m_X8_numberAt (0, [.ref q0, .int x1, .int x2, .null, .null], [], σ) R := by
  refine mm_blk (M := mm_m_X8_numberAt) 4 (S' := (5, [.ref q0, .int x1, .int x2, .int (0 : Int32), .int (0 : Int32)], [], σ)) (P := []) rfl trivial ?_
  exact h
theorem sg_X8_numberAt_5 (σ : mm_Sg) (q0 : Nat) (x1 : Int32) (x2 : Int32) (x3 : Int32) (x4 : Int32) (R : Option Value × mm_Sg) (h : (((x2 ≤ x4 → (R = (some (.int x3), σ))) ∧ (¬ (x2 ≤ x4) → ((mm_cl q0 = 8) ∧ ∃ (v4 : Int32) (σ2 : mm_Sg), mm_Ev mm_m_X8_at [.ref q0, .int (x1 + x4)] σ (some (.int v4)) σ2 ∧ mm_Go mm_m_X8_numberAt (5, [.ref q0, .int x1, .int x2, .int ((((10 : Int32) * x3) + v4) - (48 : Int32)), .int (x4 + (1 : Int32))], [], σ2) R))))) : mm_Go mm_m_X8_numberAt (5, [.ref q0, .int x1, .int x2, .int x3, .int x4], [], σ) R := by
  refine mm_blk (M := mm_m_X8_numberAt) 3 (S' := ((if x2 ≤ x4 then 34 else 11), [.ref q0, .int x1, .int x2, .int x3, .int x4], [], σ)) (P := []) rfl trivial ?_
  by_cases b1 : x2 ≤ x4
  · rw [if_pos b1]
    have h := h.1 b1
    refine mm_blk (M := mm_m_X8_numberAt) 1 (S' := (35, [.ref q0, .int x1, .int x2, .int x3, .int x4], [.int x3], σ)) (P := []) rfl trivial ?_
    subst h
    exact mm_rt_ ⟨_, _, _, rfl, ⟨_, _, rfl, rfl, rfl, rfl⟩⟩
  · rw [if_neg b1]
    have h := h.2 b1
    refine mm_blk (M := mm_m_X8_numberAt) 7 (S' := (20, [.ref q0, .int x1, .int x2, .int x3, .int x4], [.int (x1 + x4), .ref q0, .int ((10 : Int32) * x3)], σ)) (P := []) rfl trivial ?_
    obtain ⟨c5, h⟩ := h
    obtain ⟨v4, σ2, e3, h⟩ := h
    refine mm_cl_ (rest := [.int ((10 : Int32) * x3)]) e3 ⟨_, _, _, rfl, rfl, mm_tb_X8_at, rfl, rfl, Nat.le_of_ble_eq_true rfl, Nat.le_of_ble_eq_true rfl, ⟨_, rfl, c5⟩⟩ ?_
    refine mm_blk (M := mm_m_X8_numberAt) 6 (S' := (5, [.ref q0, .int x1, .int x2, .int ((((10 : Int32) * x3) + v4) - (48 : Int32)), .int (x4 + (1 : Int32))], [], σ2)) (P := []) rfl trivial ?_
    exact h
theorem sg_X8_leastOfSort_0 (σ : mm_Sg) (q0 : Nat) (R : Option Value × mm_Sg) (h : ((mm_cl q0 = 8) ∧ ((¬ (σ q0 3) = (0 : Int32) → (((¬ (σ q0 3) = (1 : Int32) → (R = (some (.int (-2147483648 : Int32)), σ))) ∧ (¬ (¬ (σ q0 3) = (1 : Int32)) → (R = (some (.int (-32768 : Int32)), σ)))))) ∧ (¬ (¬ (σ q0 3) = (0 : Int32)) → (R = (some (.int (-128 : Int32)), σ)))))) : mm_Go mm_m_X8_leastOfSort (0, [.ref q0], [], σ) R := by
  obtain ⟨c1, h⟩ := h
  refine mm_blk (M := mm_m_X8_leastOfSort) 3 (S' := ((if ¬ (σ q0 3) = (0 : Int32) then 10 else 7), [.ref q0], [], σ)) (P := [mm_cl q0 = 8]) rfl ⟨c1, trivial⟩ ?_
  by_cases b2 : ¬ (σ q0 3) = (0 : Int32)
  · rw [if_pos b2]
    have h := h.1 b2
    refine mm_blk (M := mm_m_X8_leastOfSort) 4 (S' := ((if ¬ (σ q0 3) = (1 : Int32) then 24 else 18), [.ref q0], [], σ)) (P := [mm_cl q0 = 8]) rfl ⟨c1, trivial⟩ ?_
    by_cases b3 : ¬ (σ q0 3) = (1 : Int32)
    · rw [if_pos b3]
      have h := h.1 b3
      refine mm_blk (M := mm_m_X8_leastOfSort) 1 (S' := (26, [.ref q0], [.int (-2147483648 : Int32)], σ)) (P := []) rfl trivial ?_
      subst h
      exact mm_rt_ ⟨_, _, _, rfl, ⟨_, _, rfl, rfl, rfl, rfl⟩⟩
    · rw [if_neg b3]
      have h := h.2 b3
      refine mm_blk (M := mm_m_X8_leastOfSort) 2 (S' := (26, [.ref q0], [.int (-32768 : Int32)], σ)) (P := []) rfl trivial ?_
      subst h
      exact mm_rt_ ⟨_, _, _, rfl, ⟨_, _, rfl, rfl, rfl, rfl⟩⟩
  · rw [if_neg b2]
    have h := h.2 b2
    refine mm_blk (M := mm_m_X8_leastOfSort) 1 (S' := (9, [.ref q0], [.int (-128 : Int32)], σ)) (P := []) rfl trivial ?_
    subst h
    exact mm_rt_ ⟨_, _, _, rfl, ⟨_, _, rfl, rfl, rfl, rfl⟩⟩
theorem sg_X8_allows_0 (σ : mm_Sg) (q0 : Nat) (x1 : Int32) (x2 : Int32) (R : Option Value × mm_Sg) (h : ((mm_cl q0 = 8) ∧ ∃ (v3 : Int32) (σ1 : mm_Sg), mm_Ev mm_m_X8_at [.ref q0, .int x1] σ (some (.int v3)) σ1 ∧ (((v3 = x2 → (R = (some (.int (1 : Int32)), σ1))) ∧ (¬ (v3 = x2) → (∃ (v8 : Int32) (σ6 : mm_Sg), mm_Ev mm_m_X8_at [.ref q0, .int x1] σ1 (some (.int v8)) σ6 ∧ (∃ (v11 : Int32) (σ9 : mm_Sg), mm_Ev mm_m_X8_leastOfSort [.ref q0] σ6 (some (.int v11)) σ9 ∧ (((¬ v8 = v11 → (R = (some (.int (0 : Int32)), σ9))) ∧ (¬ (¬ v8 = v11) → (R = (some (.int (1 : Int32)), σ9)))))))))))) : mm_Go mm_m_X8_allows (0, [.ref q0, .int x1, .int x2], [], σ) R := by
  refine mm_blk (M := mm_m_X8_allows) 2 (S' := (2, [.ref q0, .int x1, .int x2], [.int x1, .ref q0], σ)) (P := []) rfl trivial ?_
  obtain ⟨c4, h⟩ := h
  obtain ⟨v3, σ1, e2, h⟩ := h
  refine mm_cl_ (rest := []) e2 ⟨_, _, _, rfl, rfl, mm_tb_X8_at, rfl, rfl, Nat.le_of_ble_eq_true rfl, Nat.le_of_ble_eq_true rfl, ⟨_, rfl, c4⟩⟩ ?_
  refine mm_blk (M := mm_m_X8_allows) 2 (S' := ((if v3 = x2 then 21 else 9), [.ref q0, .int x1, .int x2], [], σ1)) (P := []) rfl trivial ?_
  by_cases b5 : v3 = x2
  · rw [if_pos b5]
    have h := h.1 b5
    refine mm_blk (M := mm_m_X8_allows) 2 (S' := (26, [.ref q0, .int x1, .int x2], [.int (1 : Int32)], σ1)) (P := []) rfl trivial ?_
    subst h
    exact mm_rt_ ⟨_, _, _, rfl, ⟨_, _, rfl, rfl, rfl, rfl⟩⟩
  · rw [if_neg b5]
    have h := h.2 b5
    refine mm_blk (M := mm_m_X8_allows) 2 (S' := (11, [.ref q0, .int x1, .int x2], [.int x1, .ref q0], σ1)) (P := []) rfl trivial ?_
    obtain ⟨v8, σ6, e7, h⟩ := h
    refine mm_cl_ (rest := []) e7 ⟨_, _, _, rfl, rfl, mm_tb_X8_at, rfl, rfl, Nat.le_of_ble_eq_true rfl, Nat.le_of_ble_eq_true rfl, ⟨_, rfl, c4⟩⟩ ?_
    refine mm_blk (M := mm_m_X8_allows) 1 (S' := (15, [.ref q0, .int x1, .int x2], [.ref q0, .int v8], σ6)) (P := []) rfl trivial ?_
    obtain ⟨v11, σ9, e10, h⟩ := h
    refine mm_cl_ (rest := [.int v8]) e10 ⟨_, _, _, rfl, rfl, mm_tb_X8_leastOfSort, rfl, rfl, Nat.le_of_ble_eq_true rfl, Nat.le_of_ble_eq_true rfl, ⟨_, rfl, c4⟩⟩ ?_
    refine mm_blk (M := mm_m_X8_allows) 1 (S' := ((if ¬ v8 = v11 then 25 else 21), [.ref q0, .int x1, .int x2], [], σ9)) (P := []) rfl trivial ?_
    by_cases b12 : ¬ v8 = v11
    · rw [if_pos b12]
      have h := h.1 b12
      refine mm_blk (M := mm_m_X8_allows) 1 (S' := (26, [.ref q0, .int x1, .int x2], [.int (0 : Int32)], σ9)) (P := []) rfl trivial ?_
      subst h
      exact mm_rt_ ⟨_, _, _, rfl, ⟨_, _, rfl, rfl, rfl, rfl⟩⟩
    · rw [if_neg b12]
      have h := h.2 b12
      refine mm_blk (M := mm_m_X8_allows) 2 (S' := (26, [.ref q0, .int x1, .int x2], [.int (1 : Int32)], σ9)) (P := []) rfl trivial ?_
      subst h
      exact mm_rt_ ⟨_, _, _, rfl, ⟨_, _, rfl, rfl, rfl, rfl⟩⟩
theorem sg_X9_cupsOn_0 (σ : mm_Sg) (q0 : Nat) (x1 : Int32) (x2 : Int32) (R : Option Value × mm_Sg) (h : ((mm_cl q0 < 12) ∧ ∃ (v3 : Int32) (σ1 : mm_Sg), mm_Ev mm_m_X2_cupsOn [.ref q0, .int x1, .int x2] σ (some (.int v3)) σ1 ∧ (R = (some (.int (v3 - (1 : Int32))), σ1)))) : mm_Go mm_m_X9_cupsOn (0, [.ref q0, .int x1, .int x2], [], σ) R := by
  refine mm_blk (M := mm_m_X9_cupsOn) 3 (S' := (3, [.ref q0, .int x1, .int x2], [.int x2, .int x1, .ref q0], σ)) (P := []) rfl trivial ?_
  obtain ⟨c4, h⟩ := h
  obtain ⟨v3, σ1, e2, h⟩ := h
  refine mm_cl_ (rest := []) e2 ⟨_, _, _, rfl, rfl, mm_tb_X2_cupsOn, rfl, rfl, Nat.le_of_ble_eq_true rfl, Nat.le_of_ble_eq_true rfl, ⟨_, rfl, c4⟩⟩ ?_
  refine mm_blk (M := mm_m_X9_cupsOn) 2 (S' := (8, [.ref q0, .int x1, .int x2], [.int (v3 - (1 : Int32))], σ1)) (P := []) rfl trivial ?_
  subst h
  exact mm_rt_ ⟨_, _, _, rfl, ⟨_, _, rfl, rfl, rfl, rfl⟩⟩
theorem sg_X9_tiringFor_0 (σ : mm_Sg) (q0 : Nat) (x1 : Int32) (x2 : Int32) (R : Option Value × mm_Sg) (h : (R = (some (.int (0 : Int32)), σ))) : mm_Go mm_m_X9_tiringFor (0, [.ref q0, .int x1, .int x2], [], σ) R := by
  refine mm_blk (M := mm_m_X9_tiringFor) 1 (S' := (1, [.ref q0, .int x1, .int x2], [.int (0 : Int32)], σ)) (P := []) rfl trivial ?_
  subst h
  exact mm_rt_ ⟨_, _, _, rfl, ⟨_, _, rfl, rfl, rfl, rfl⟩⟩
theorem sg_X9_debtFor_0 (σ : mm_Sg) (q0 : Nat) (x1 : Int32) (x2 : Int32) (R : Option Value × mm_Sg) (h : (((x1 ≤ (0 : Int32) → (R = (some (.int (0 : Int32)), σ))) ∧ (¬ (x1 ≤ (0 : Int32)) → ((mm_cl q0 < 12) ∧ ∃ (v4 : Int32) (σ2 : mm_Sg), mm_Ev mm_m_X0_debtFor [.ref q0, .int x1, .int x2] σ (some (.int v4)) σ2 ∧ (R = (some (.int (v4 + x2)), σ2))))))) : mm_Go mm_m_X9_debtFor (0, [.ref q0, .int x1, .int x2], [], σ) R := by
  refine mm_blk (M := mm_m_X9_debtFor) 2 (S' := ((if x1 ≤ (0 : Int32) then 15 else 4), [.ref q0, .int x1, .int x2], [], σ)) (P := []) rfl trivial ?_
  by_cases b1 : x1 ≤ (0 : Int32)
  · rw [if_pos b1]
    have h := h.1 b1
    refine mm_blk (M := mm_m_X9_debtFor) 1 (S' := (16, [.ref q0, .int x1, .int x2], [.int (0 : Int32)], σ)) (P := []) rfl trivial ?_
    subst h
    exact mm_rt_ ⟨_, _, _, rfl, ⟨_, _, rfl, rfl, rfl, rfl⟩⟩
  · rw [if_neg b1]
    have h := h.2 b1
    refine mm_blk (M := mm_m_X9_debtFor) 3 (S' := (7, [.ref q0, .int x1, .int x2], [.int x2, .int x1, .ref q0], σ)) (P := []) rfl trivial ?_
    obtain ⟨c5, h⟩ := h
    obtain ⟨v4, σ2, e3, h⟩ := h
    refine mm_cl_ (rest := []) e3 ⟨_, _, _, rfl, rfl, mm_tb_X0_debtFor, rfl, rfl, Nat.le_of_ble_eq_true rfl, Nat.le_of_ble_eq_true rfl, ⟨_, rfl, c5⟩⟩ ?_
    refine mm_blk (M := mm_m_X9_debtFor) 3 (S' := (16, [.ref q0, .int x1, .int x2], [.int (v4 + x2)], σ2)) (P := []) rfl trivial ?_
    subst h
    exact mm_rt_ ⟨_, _, _, rfl, ⟨_, _, rfl, rfl, rfl, rfl⟩⟩
theorem sg_X9_priceOf_0 (σ : mm_Sg) (q0 : Nat) (x1 : Int32) (R : Option Value × mm_Sg) (h : ((mm_cl q0 < 12) ∧ ∃ (v3 : Int32) (σ1 : mm_Sg), mm_Ev mm_m_X2_priceOf [.ref q0, .int x1] σ (some (.int v3)) σ1 ∧ (R = (some (.int (v3 - (5 : Int32))), σ1)))) : mm_Go mm_m_X9_priceOf (0, [.ref q0, .int x1], [], σ) R := by
  refine mm_blk (M := mm_m_X9_priceOf) 2 (S' := (2, [.ref q0, .int x1], [.int x1, .ref q0], σ)) (P := []) rfl trivial ?_
  obtain ⟨c4, h⟩ := h
  obtain ⟨v3, σ1, e2, h⟩ := h
  refine mm_cl_ (rest := []) e2 ⟨_, _, _, rfl, rfl, mm_tb_X2_priceOf, rfl, rfl, Nat.le_of_ble_eq_true rfl, Nat.le_of_ble_eq_true rfl, ⟨_, rfl, c4⟩⟩ ?_
  refine mm_blk (M := mm_m_X9_priceOf) 2 (S' := (7, [.ref q0, .int x1], [.int (v3 - (5 : Int32))], σ1)) (P := []) rfl trivial ?_
  subst h
  exact mm_rt_ ⟨_, _, _, rfl, ⟨_, _, rfl, rfl, rfl, rfl⟩⟩
theorem sg_X9_failureOf_0 (σ : mm_Sg) (q0 : Nat) (x1 : Int32) (R : Option Value × mm_Sg) (h : ((mm_cl q0 = 9) ∧ ∃ (v3 : Int32) (σ1 : mm_Sg), mm_Ev mm_m_X9_priceOf [.ref q0, .int x1] σ (some (.int v3)) σ1 ∧ (R = (some (.int ((200 : Int32) + v3)), σ1)))) : mm_Go mm_m_X9_failureOf (0, [.ref q0, .int x1], [], σ) R := by
  refine mm_blk (M := mm_m_X9_failureOf) 3 (S' := (5, [.ref q0, .int x1], [.int x1, .ref q0, .int (200 : Int32)], σ)) (P := []) rfl trivial ?_
  obtain ⟨c4, h⟩ := h
  obtain ⟨v3, σ1, e2, h⟩ := h
  refine mm_cl_ (rest := [.int (200 : Int32)]) e2 ⟨_, _, _, rfl, rfl, mm_tb_X9_priceOf, rfl, rfl, Nat.le_of_ble_eq_true rfl, Nat.le_of_ble_eq_true rfl, ⟨_, rfl, c4⟩⟩ ?_
  refine mm_blk (M := mm_m_X9_failureOf) 1 (S' := (9, [.ref q0, .int x1], [.int ((200 : Int32) + v3)], σ1)) (P := []) rfl trivial ?_
  subst h
  exact mm_rt_ ⟨_, _, _, rfl, ⟨_, _, rfl, rfl, rfl, rfl⟩⟩
theorem sg_J6_bitCount_0f7a4_0 (σ : mm_Sg) (x0 : Int32) (R : Option Value × mm_Sg) (h : (R = (some (.int ((((((((x0 - (((x0.toUInt32 >>> (((1 : Int32) : Int32).toUInt32 &&& Int32.toUInt32 31)).toInt32) &&& (1431655765 : Int32))) &&& (858993459 : Int32)) + ((((x0 - (((x0.toUInt32 >>> (((1 : Int32) : Int32).toUInt32 &&& Int32.toUInt32 31)).toInt32) &&& (1431655765 : Int32))).toUInt32 >>> (((2 : Int32) : Int32).toUInt32 &&& Int32.toUInt32 31)).toInt32) &&& (858993459 : Int32))) + (((((x0 - (((x0.toUInt32 >>> (((1 : Int32) : Int32).toUInt32 &&& Int32.toUInt32 31)).toInt32) &&& (1431655765 : Int32))) &&& (858993459 : Int32)) + ((((x0 - (((x0.toUInt32 >>> (((1 : Int32) : Int32).toUInt32 &&& Int32.toUInt32 31)).toInt32) &&& (1431655765 : Int32))).toUInt32 >>> (((2 : Int32) : Int32).toUInt32 &&& Int32.toUInt32 31)).toInt32) &&& (858993459 : Int32))).toUInt32 >>> (((4 : Int32) : Int32).toUInt32 &&& Int32.toUInt32 31)).toInt32)) &&& (252645135 : Int32)) + (((((((x0 - (((x0.toUInt32 >>> (((1 : Int32) : Int32).toUInt32 &&& Int32.toUInt32 31)).toInt32) &&& (1431655765 : Int32))) &&& (858993459 : Int32)) + ((((x0 - (((x0.toUInt32 >>> (((1 : Int32) : Int32).toUInt32 &&& Int32.toUInt32 31)).toInt32) &&& (1431655765 : Int32))).toUInt32 >>> (((2 : Int32) : Int32).toUInt32 &&& Int32.toUInt32 31)).toInt32) &&& (858993459 : Int32))) + (((((x0 - (((x0.toUInt32 >>> (((1 : Int32) : Int32).toUInt32 &&& Int32.toUInt32 31)).toInt32) &&& (1431655765 : Int32))) &&& (858993459 : Int32)) + ((((x0 - (((x0.toUInt32 >>> (((1 : Int32) : Int32).toUInt32 &&& Int32.toUInt32 31)).toInt32) &&& (1431655765 : Int32))).toUInt32 >>> (((2 : Int32) : Int32).toUInt32 &&& Int32.toUInt32 31)).toInt32) &&& (858993459 : Int32))).toUInt32 >>> (((4 : Int32) : Int32).toUInt32 &&& Int32.toUInt32 31)).toInt32)) &&& (252645135 : Int32)).toUInt32 >>> (((8 : Int32) : Int32).toUInt32 &&& Int32.toUInt32 31)).toInt32)) + ((((((((x0 - (((x0.toUInt32 >>> (((1 : Int32) : Int32).toUInt32 &&& Int32.toUInt32 31)).toInt32) &&& (1431655765 : Int32))) &&& (858993459 : Int32)) + ((((x0 - (((x0.toUInt32 >>> (((1 : Int32) : Int32).toUInt32 &&& Int32.toUInt32 31)).toInt32) &&& (1431655765 : Int32))).toUInt32 >>> (((2 : Int32) : Int32).toUInt32 &&& Int32.toUInt32 31)).toInt32) &&& (858993459 : Int32))) + (((((x0 - (((x0.toUInt32 >>> (((1 : Int32) : Int32).toUInt32 &&& Int32.toUInt32 31)).toInt32) &&& (1431655765 : Int32))) &&& (858993459 : Int32)) + ((((x0 - (((x0.toUInt32 >>> (((1 : Int32) : Int32).toUInt32 &&& Int32.toUInt32 31)).toInt32) &&& (1431655765 : Int32))).toUInt32 >>> (((2 : Int32) : Int32).toUInt32 &&& Int32.toUInt32 31)).toInt32) &&& (858993459 : Int32))).toUInt32 >>> (((4 : Int32) : Int32).toUInt32 &&& Int32.toUInt32 31)).toInt32)) &&& (252645135 : Int32)) + (((((((x0 - (((x0.toUInt32 >>> (((1 : Int32) : Int32).toUInt32 &&& Int32.toUInt32 31)).toInt32) &&& (1431655765 : Int32))) &&& (858993459 : Int32)) + ((((x0 - (((x0.toUInt32 >>> (((1 : Int32) : Int32).toUInt32 &&& Int32.toUInt32 31)).toInt32) &&& (1431655765 : Int32))).toUInt32 >>> (((2 : Int32) : Int32).toUInt32 &&& Int32.toUInt32 31)).toInt32) &&& (858993459 : Int32))) + (((((x0 - (((x0.toUInt32 >>> (((1 : Int32) : Int32).toUInt32 &&& Int32.toUInt32 31)).toInt32) &&& (1431655765 : Int32))) &&& (858993459 : Int32)) + ((((x0 - (((x0.toUInt32 >>> (((1 : Int32) : Int32).toUInt32 &&& Int32.toUInt32 31)).toInt32) &&& (1431655765 : Int32))).toUInt32 >>> (((2 : Int32) : Int32).toUInt32 &&& Int32.toUInt32 31)).toInt32) &&& (858993459 : Int32))).toUInt32 >>> (((4 : Int32) : Int32).toUInt32 &&& Int32.toUInt32 31)).toInt32)) &&& (252645135 : Int32)).toUInt32 >>> (((8 : Int32) : Int32).toUInt32 &&& Int32.toUInt32 31)).toInt32)).toUInt32 >>> (((16 : Int32) : Int32).toUInt32 &&& Int32.toUInt32 31)).toInt32)) &&& (63 : Int32))), σ))) : mm_Go mm_m_J6_bitCount_0f7a4 (0, [.int x0], [], σ) R := by
  refine mm_blk (M := mm_m_J6_bitCount_0f7a4) 41 (S' := (52, [.int (((((((x0 - (((x0.toUInt32 >>> (((1 : Int32) : Int32).toUInt32 &&& Int32.toUInt32 31)).toInt32) &&& (1431655765 : Int32))) &&& (858993459 : Int32)) + ((((x0 - (((x0.toUInt32 >>> (((1 : Int32) : Int32).toUInt32 &&& Int32.toUInt32 31)).toInt32) &&& (1431655765 : Int32))).toUInt32 >>> (((2 : Int32) : Int32).toUInt32 &&& Int32.toUInt32 31)).toInt32) &&& (858993459 : Int32))) + (((((x0 - (((x0.toUInt32 >>> (((1 : Int32) : Int32).toUInt32 &&& Int32.toUInt32 31)).toInt32) &&& (1431655765 : Int32))) &&& (858993459 : Int32)) + ((((x0 - (((x0.toUInt32 >>> (((1 : Int32) : Int32).toUInt32 &&& Int32.toUInt32 31)).toInt32) &&& (1431655765 : Int32))).toUInt32 >>> (((2 : Int32) : Int32).toUInt32 &&& Int32.toUInt32 31)).toInt32) &&& (858993459 : Int32))).toUInt32 >>> (((4 : Int32) : Int32).toUInt32 &&& Int32.toUInt32 31)).toInt32)) &&& (252645135 : Int32)) + (((((((x0 - (((x0.toUInt32 >>> (((1 : Int32) : Int32).toUInt32 &&& Int32.toUInt32 31)).toInt32) &&& (1431655765 : Int32))) &&& (858993459 : Int32)) + ((((x0 - (((x0.toUInt32 >>> (((1 : Int32) : Int32).toUInt32 &&& Int32.toUInt32 31)).toInt32) &&& (1431655765 : Int32))).toUInt32 >>> (((2 : Int32) : Int32).toUInt32 &&& Int32.toUInt32 31)).toInt32) &&& (858993459 : Int32))) + (((((x0 - (((x0.toUInt32 >>> (((1 : Int32) : Int32).toUInt32 &&& Int32.toUInt32 31)).toInt32) &&& (1431655765 : Int32))) &&& (858993459 : Int32)) + ((((x0 - (((x0.toUInt32 >>> (((1 : Int32) : Int32).toUInt32 &&& Int32.toUInt32 31)).toInt32) &&& (1431655765 : Int32))).toUInt32 >>> (((2 : Int32) : Int32).toUInt32 &&& Int32.toUInt32 31)).toInt32) &&& (858993459 : Int32))).toUInt32 >>> (((4 : Int32) : Int32).toUInt32 &&& Int32.toUInt32 31)).toInt32)) &&& (252645135 : Int32)).toUInt32 >>> (((8 : Int32) : Int32).toUInt32 &&& Int32.toUInt32 31)).toInt32)) + ((((((((x0 - (((x0.toUInt32 >>> (((1 : Int32) : Int32).toUInt32 &&& Int32.toUInt32 31)).toInt32) &&& (1431655765 : Int32))) &&& (858993459 : Int32)) + ((((x0 - (((x0.toUInt32 >>> (((1 : Int32) : Int32).toUInt32 &&& Int32.toUInt32 31)).toInt32) &&& (1431655765 : Int32))).toUInt32 >>> (((2 : Int32) : Int32).toUInt32 &&& Int32.toUInt32 31)).toInt32) &&& (858993459 : Int32))) + (((((x0 - (((x0.toUInt32 >>> (((1 : Int32) : Int32).toUInt32 &&& Int32.toUInt32 31)).toInt32) &&& (1431655765 : Int32))) &&& (858993459 : Int32)) + ((((x0 - (((x0.toUInt32 >>> (((1 : Int32) : Int32).toUInt32 &&& Int32.toUInt32 31)).toInt32) &&& (1431655765 : Int32))).toUInt32 >>> (((2 : Int32) : Int32).toUInt32 &&& Int32.toUInt32 31)).toInt32) &&& (858993459 : Int32))).toUInt32 >>> (((4 : Int32) : Int32).toUInt32 &&& Int32.toUInt32 31)).toInt32)) &&& (252645135 : Int32)) + (((((((x0 - (((x0.toUInt32 >>> (((1 : Int32) : Int32).toUInt32 &&& Int32.toUInt32 31)).toInt32) &&& (1431655765 : Int32))) &&& (858993459 : Int32)) + ((((x0 - (((x0.toUInt32 >>> (((1 : Int32) : Int32).toUInt32 &&& Int32.toUInt32 31)).toInt32) &&& (1431655765 : Int32))).toUInt32 >>> (((2 : Int32) : Int32).toUInt32 &&& Int32.toUInt32 31)).toInt32) &&& (858993459 : Int32))) + (((((x0 - (((x0.toUInt32 >>> (((1 : Int32) : Int32).toUInt32 &&& Int32.toUInt32 31)).toInt32) &&& (1431655765 : Int32))) &&& (858993459 : Int32)) + ((((x0 - (((x0.toUInt32 >>> (((1 : Int32) : Int32).toUInt32 &&& Int32.toUInt32 31)).toInt32) &&& (1431655765 : Int32))).toUInt32 >>> (((2 : Int32) : Int32).toUInt32 &&& Int32.toUInt32 31)).toInt32) &&& (858993459 : Int32))).toUInt32 >>> (((4 : Int32) : Int32).toUInt32 &&& Int32.toUInt32 31)).toInt32)) &&& (252645135 : Int32)).toUInt32 >>> (((8 : Int32) : Int32).toUInt32 &&& Int32.toUInt32 31)).toInt32)).toUInt32 >>> (((16 : Int32) : Int32).toUInt32 &&& Int32.toUInt32 31)).toInt32))], [.int ((((((((x0 - (((x0.toUInt32 >>> (((1 : Int32) : Int32).toUInt32 &&& Int32.toUInt32 31)).toInt32) &&& (1431655765 : Int32))) &&& (858993459 : Int32)) + ((((x0 - (((x0.toUInt32 >>> (((1 : Int32) : Int32).toUInt32 &&& Int32.toUInt32 31)).toInt32) &&& (1431655765 : Int32))).toUInt32 >>> (((2 : Int32) : Int32).toUInt32 &&& Int32.toUInt32 31)).toInt32) &&& (858993459 : Int32))) + (((((x0 - (((x0.toUInt32 >>> (((1 : Int32) : Int32).toUInt32 &&& Int32.toUInt32 31)).toInt32) &&& (1431655765 : Int32))) &&& (858993459 : Int32)) + ((((x0 - (((x0.toUInt32 >>> (((1 : Int32) : Int32).toUInt32 &&& Int32.toUInt32 31)).toInt32) &&& (1431655765 : Int32))).toUInt32 >>> (((2 : Int32) : Int32).toUInt32 &&& Int32.toUInt32 31)).toInt32) &&& (858993459 : Int32))).toUInt32 >>> (((4 : Int32) : Int32).toUInt32 &&& Int32.toUInt32 31)).toInt32)) &&& (252645135 : Int32)) + (((((((x0 - (((x0.toUInt32 >>> (((1 : Int32) : Int32).toUInt32 &&& Int32.toUInt32 31)).toInt32) &&& (1431655765 : Int32))) &&& (858993459 : Int32)) + ((((x0 - (((x0.toUInt32 >>> (((1 : Int32) : Int32).toUInt32 &&& Int32.toUInt32 31)).toInt32) &&& (1431655765 : Int32))).toUInt32 >>> (((2 : Int32) : Int32).toUInt32 &&& Int32.toUInt32 31)).toInt32) &&& (858993459 : Int32))) + (((((x0 - (((x0.toUInt32 >>> (((1 : Int32) : Int32).toUInt32 &&& Int32.toUInt32 31)).toInt32) &&& (1431655765 : Int32))) &&& (858993459 : Int32)) + ((((x0 - (((x0.toUInt32 >>> (((1 : Int32) : Int32).toUInt32 &&& Int32.toUInt32 31)).toInt32) &&& (1431655765 : Int32))).toUInt32 >>> (((2 : Int32) : Int32).toUInt32 &&& Int32.toUInt32 31)).toInt32) &&& (858993459 : Int32))).toUInt32 >>> (((4 : Int32) : Int32).toUInt32 &&& Int32.toUInt32 31)).toInt32)) &&& (252645135 : Int32)).toUInt32 >>> (((8 : Int32) : Int32).toUInt32 &&& Int32.toUInt32 31)).toInt32)) + ((((((((x0 - (((x0.toUInt32 >>> (((1 : Int32) : Int32).toUInt32 &&& Int32.toUInt32 31)).toInt32) &&& (1431655765 : Int32))) &&& (858993459 : Int32)) + ((((x0 - (((x0.toUInt32 >>> (((1 : Int32) : Int32).toUInt32 &&& Int32.toUInt32 31)).toInt32) &&& (1431655765 : Int32))).toUInt32 >>> (((2 : Int32) : Int32).toUInt32 &&& Int32.toUInt32 31)).toInt32) &&& (858993459 : Int32))) + (((((x0 - (((x0.toUInt32 >>> (((1 : Int32) : Int32).toUInt32 &&& Int32.toUInt32 31)).toInt32) &&& (1431655765 : Int32))) &&& (858993459 : Int32)) + ((((x0 - (((x0.toUInt32 >>> (((1 : Int32) : Int32).toUInt32 &&& Int32.toUInt32 31)).toInt32) &&& (1431655765 : Int32))).toUInt32 >>> (((2 : Int32) : Int32).toUInt32 &&& Int32.toUInt32 31)).toInt32) &&& (858993459 : Int32))).toUInt32 >>> (((4 : Int32) : Int32).toUInt32 &&& Int32.toUInt32 31)).toInt32)) &&& (252645135 : Int32)) + (((((((x0 - (((x0.toUInt32 >>> (((1 : Int32) : Int32).toUInt32 &&& Int32.toUInt32 31)).toInt32) &&& (1431655765 : Int32))) &&& (858993459 : Int32)) + ((((x0 - (((x0.toUInt32 >>> (((1 : Int32) : Int32).toUInt32 &&& Int32.toUInt32 31)).toInt32) &&& (1431655765 : Int32))).toUInt32 >>> (((2 : Int32) : Int32).toUInt32 &&& Int32.toUInt32 31)).toInt32) &&& (858993459 : Int32))) + (((((x0 - (((x0.toUInt32 >>> (((1 : Int32) : Int32).toUInt32 &&& Int32.toUInt32 31)).toInt32) &&& (1431655765 : Int32))) &&& (858993459 : Int32)) + ((((x0 - (((x0.toUInt32 >>> (((1 : Int32) : Int32).toUInt32 &&& Int32.toUInt32 31)).toInt32) &&& (1431655765 : Int32))).toUInt32 >>> (((2 : Int32) : Int32).toUInt32 &&& Int32.toUInt32 31)).toInt32) &&& (858993459 : Int32))).toUInt32 >>> (((4 : Int32) : Int32).toUInt32 &&& Int32.toUInt32 31)).toInt32)) &&& (252645135 : Int32)).toUInt32 >>> (((8 : Int32) : Int32).toUInt32 &&& Int32.toUInt32 31)).toInt32)).toUInt32 >>> (((16 : Int32) : Int32).toUInt32 &&& Int32.toUInt32 31)).toInt32)) &&& (63 : Int32))], σ)) (P := []) rfl trivial ?_
  subst h
  exact mm_rt_ ⟨_, _, _, rfl, ⟨_, _, rfl, rfl, rfl, rfl⟩⟩
theorem sg_J7_fill_53178_0 (σ : mm_Sg) (q0 : Nat) (x1 : Int32) (R : Option Value × mm_Sg) (h : ((0 < mm_len q0) ∧ mm_Go mm_m_J7_fill_53178 (5, [.ref q0, .int x1, .int (0 : Int32), .int (nI (mm_len q0))], [], σ) R)) : mm_Go mm_m_J7_fill_53178 (0, [.ref q0, .int x1, .null, .null], [], σ) R := by
  obtain ⟨c1, h⟩ := h
  refine mm_blk (M := mm_m_J7_fill_53178) 5 (S' := (5, [.ref q0, .int x1, .int (0 : Int32), .int (nI (mm_len q0))], [], σ)) (P := [0 < mm_len q0]) rfl ⟨c1, trivial⟩ ?_
  exact h
theorem sg_J7_fill_53178_5 (σ : mm_Sg) (q0 : Nat) (x1 : Int32) (x2 : Int32) (x3 : Int32) (R : Option Value × mm_Sg) (h : (((x3 ≤ x2 → (R = (none, σ))) ∧ (¬ (x3 ≤ x2) → ((vp_in x2 (mm_len q0)) ∧ ∀ σ3 : mm_Sg, σ3 = mm_u σ q0 x2.toNatClampNeg x1 → mm_Go mm_m_J7_fill_53178 (5, [.ref q0, .int x1, .int (x2 + (1 : Int32)), .int x3], [], σ3) R))))) : mm_Go mm_m_J7_fill_53178 (5, [.ref q0, .int x1, .int x2, .int x3], [], σ) R := by
  refine mm_blk (M := mm_m_J7_fill_53178) 3 (S' := ((if x3 ≤ x2 then 20 else 10), [.ref q0, .int x1, .int x2, .int x3], [], σ)) (P := []) rfl trivial ?_
  by_cases b1 : x3 ≤ x2
  · rw [if_pos b1]
    have h := h.1 b1
    subst h
    exact mm_rt_ ⟨_, _, _, rfl, ⟨rfl, rfl, rfl⟩⟩
  · rw [if_neg b1]
    have h := h.2 b1
    obtain ⟨c2, h⟩ := h
    refine mm_blk (M := mm_m_J7_fill_53178) 4 (S' := (14, [.ref q0, .int x1, .int x2, .int x3], [], mm_u σ q0 x2.toNatClampNeg x1)) (P := [vp_in x2 (mm_len q0)]) rfl ⟨c2, trivial⟩ ?_
    obtain ⟨σ3, e4⟩ : ∃ z, z = mm_u σ q0 x2.toNatClampNeg x1 := ⟨_, rfl⟩
    rw [← e4]
    have h := h σ3 e4
    refine mm_blk (M := mm_m_J7_fill_53178) 2 (S' := (5, [.ref q0, .int x1, .int (x2 + (1 : Int32)), .int x3], [], σ3)) (P := []) rfl trivial ?_
    exact h
