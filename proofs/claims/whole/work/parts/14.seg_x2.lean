/-! pieces of runs, by program -/
theorem sg_X10_shed_0 (σ : mm_Sg) (x1 : Int32) (x2 : Int32) (R : Option Value × mm_Sg) (h : (∃ (v3 : Int32) (σ1 : mm_Sg), mm_Ev mm_m_X10_isShelf [.int x1] σ (some (.int v3)) σ1 ∧ (((v3 = (0 : Int32) → (R = (some (.int (-1 : Int32)), σ1))) ∧ (¬ (v3 = (0 : Int32)) → (∃ (v7 : Int32) (σ5 : mm_Sg), mm_Ev mm_m_X10_isBetween [.int x2, .int (0 : Int32), .int (2 : Int32)] σ1 (some (.int v7)) σ5 ∧ (((¬ v7 = (0 : Int32) → (∃ (v11 : Int32) (σ9 : mm_Sg), mm_Ev mm_m_X10_refusalUnless [.ref 0, .int (2 : Int32), .int x1] σ5 (some (.int v11)) σ9 ∧ (((v11 = (0 : Int32) → (∃ (σ13 : mm_Sg), mm_Ev mm_m_X10_fillDrunkBehind [.ref 0] σ9 none σ13 ∧ mm_Go mm_m_X10_shed (49, [.ref 0, .int x1, .int x2, .int v11, .int (0 : Int32), .int (-4 : Int32), .int (-4 : Int32), .int (0 : Int32)], [], σ13) R)) ∧ (¬ (v11 = (0 : Int32)) → (R = (some (.int v11), σ9))))))) ∧ (¬ (¬ v7 = (0 : Int32)) → (R = (some (.int (-1 : Int32)), σ5))))))))))) : mm_Go mm_m_X10_shed (0, [.ref 0, .int x1, .int x2, .null, .null, .null, .null, .null], [], σ) R := by
  refine mm_blk (M := mm_m_X10_shed) 1 (S' := (1, [.ref 0, .int x1, .int x2, .null, .null, .null, .null, .null], [.int x1], σ)) (P := []) rfl trivial ?_
  obtain ⟨v3, σ1, e2, h⟩ := h
  refine mm_cl_ (rest := []) e2 ⟨_, _, _, rfl, rfl, mm_tb_X10_isShelf, rfl, rfl, Nat.le_of_ble_eq_true rfl, Nat.le_of_ble_eq_true rfl, trivial⟩ ?_
  refine mm_blk (M := mm_m_X10_shed) 1 (S' := ((if v3 = (0 : Int32) then 16 else 7), [.ref 0, .int x1, .int x2, .null, .null, .null, .null, .null], [], σ1)) (P := []) rfl trivial ?_
  by_cases b4 : v3 = (0 : Int32)
  · rw [if_pos b4]
    have h := h.1 b4
    refine mm_blk (M := mm_m_X10_shed) 1 (S' := (17, [.ref 0, .int x1, .int x2, .null, .null, .null, .null, .null], [.int (-1 : Int32)], σ1)) (P := []) rfl trivial ?_
    subst h
    exact mm_rt_ ⟨_, _, _, rfl, ⟨_, _, rfl, rfl, rfl, rfl⟩⟩
  · rw [if_neg b4]
    have h := h.2 b4
    refine mm_blk (M := mm_m_X10_shed) 3 (S' := (10, [.ref 0, .int x1, .int x2, .null, .null, .null, .null, .null], [.int (2 : Int32), .int (0 : Int32), .int x2], σ1)) (P := []) rfl trivial ?_
    obtain ⟨v7, σ5, e6, h⟩ := h
    refine mm_cl_ (rest := []) e6 ⟨_, _, _, rfl, rfl, mm_tb_X10_isBetween, rfl, rfl, Nat.le_of_ble_eq_true rfl, Nat.le_of_ble_eq_true rfl, trivial⟩ ?_
    refine mm_blk (M := mm_m_X10_shed) 1 (S' := ((if ¬ v7 = (0 : Int32) then 18 else 16), [.ref 0, .int x1, .int x2, .null, .null, .null, .null, .null], [], σ5)) (P := []) rfl trivial ?_
    by_cases b8 : ¬ v7 = (0 : Int32)
    · rw [if_pos b8]
      have h := h.1 b8
      refine mm_blk (M := mm_m_X10_shed) 3 (S' := (21, [.ref 0, .int x1, .int x2, .null, .null, .null, .null, .null], [.int x1, .int (2 : Int32), .ref 0], σ5)) (P := []) rfl trivial ?_
      obtain ⟨v11, σ9, e10, h⟩ := h
      refine mm_cl_ (rest := []) e10 ⟨_, _, _, rfl, rfl, mm_tb_X10_refusalUnless, rfl, rfl, Nat.le_of_ble_eq_true rfl, Nat.le_of_ble_eq_true rfl, ⟨_, rfl, rfl⟩⟩ ?_
      refine mm_blk (M := mm_m_X10_shed) 3 (S' := ((if v11 = (0 : Int32) then 31 else 29), [.ref 0, .int x1, .int x2, .int v11, .null, .null, .null, .null], [], σ9)) (P := []) rfl trivial ?_
      by_cases b12 : v11 = (0 : Int32)
      · rw [if_pos b12]
        have h := h.1 b12
        refine mm_blk (M := mm_m_X10_shed) 1 (S' := (32, [.ref 0, .int x1, .int x2, .int v11, .null, .null, .null, .null], [.ref 0], σ9)) (P := []) rfl trivial ?_
        obtain ⟨σ13, e14, h⟩ := h
        refine mm_cl_ (rest := []) e14 ⟨_, _, _, rfl, rfl, mm_tb_X10_fillDrunkBehind, rfl, rfl, Nat.le_of_ble_eq_true rfl, Nat.le_of_ble_eq_true rfl, ⟨_, rfl, rfl⟩⟩ ?_
        refine mm_blk (M := mm_m_X10_shed) 8 (S' := (49, [.ref 0, .int x1, .int x2, .int v11, .int (0 : Int32), .int (-4 : Int32), .int (-4 : Int32), .int (0 : Int32)], [], σ13)) (P := []) rfl trivial ?_
        exact h
      · rw [if_neg b12]
        have h := h.2 b12
        refine mm_blk (M := mm_m_X10_shed) 1 (S' := (30, [.ref 0, .int x1, .int x2, .int v11, .null, .null, .null, .null], [.int v11], σ9)) (P := []) rfl trivial ?_
        subst h
        exact mm_rt_ ⟨_, _, _, rfl, ⟨_, _, rfl, rfl, rfl, rfl⟩⟩
    · rw [if_neg b8]
      have h := h.2 b8
      refine mm_blk (M := mm_m_X10_shed) 1 (S' := (17, [.ref 0, .int x1, .int x2, .null, .null, .null, .null, .null], [.int (-1 : Int32)], σ5)) (P := []) rfl trivial ?_
      subst h
      exact mm_rt_ ⟨_, _, _, rfl, ⟨_, _, rfl, rfl, rfl, rfl⟩⟩
theorem sg_X10_shed_49 (σ : mm_Sg) (x1 : Int32) (x2 : Int32) (x3 : Int32) (x4 : Int32) (x5 : Int32) (x6 : Int32) (x7 : Int32) (R : Option Value × mm_Sg) (h : ((((200 : Int32) < x7 → (((¬ x2 = (0 : Int32) → (((¬ x2 = (1 : Int32) → (R = (some (.int x6), σ))) ∧ (¬ (¬ x2 = (1 : Int32)) → (R = (some (.int x5), σ)))))) ∧ (¬ (¬ x2 = (0 : Int32)) → (R = (some (.int x4), σ)))))) ∧ (¬ ((200 : Int32) < x7) → ((vp_in x1 8) ∧ ∃ (v7 : Int32) (σ5 : mm_Sg), mm_Ev mm_m_X10_bagsGoAsTold [.ref 0, .int x7, .ref (32 + 2 * x1.toNatClampNeg)] σ (some (.int v7)) σ5 ∧ (((v7 = (0 : Int32) → mm_Go mm_m_X10_shed (49, [.ref 0, .int x1, .int x2, .int x3, .int x4, .int x5, .int x6, .int (x7 + (1 : Int32))], [], σ5) R) ∧ (¬ (v7 = (0 : Int32)) → (((¬ x5 = (-4 : Int32) → mm_Go mm_m_X10_shed (49, [.ref 0, .int x1, .int x2, .int x3, .int (x4 + (1 : Int32)), .int x5, .int x7, .int (x7 + (1 : Int32))], [], σ5) R) ∧ (¬ (¬ x5 = (-4 : Int32)) → mm_Go mm_m_X10_shed (49, [.ref 0, .int x1, .int x2, .int x3, .int (x4 + (1 : Int32)), .int x7, .int x7, .int (x7 + (1 : Int32))], [], σ5) R))))))))))) : mm_Go mm_m_X10_shed (49, [.ref 0, .int x1, .int x2, .int x3, .int x4, .int x5, .int x6, .int x7], [], σ) R := by
  refine mm_blk (M := mm_m_X10_shed) 3 (S' := ((if (200 : Int32) < x7 then 101 else 57), [.ref 0, .int x1, .int x2, .int x3, .int x4, .int x5, .int x6, .int x7], [], σ)) (P := []) rfl trivial ?_
  by_cases b1 : (200 : Int32) < x7
  · rw [if_pos b1]
    have h := h.1 b1
    refine mm_blk (M := mm_m_X10_shed) 2 (S' := ((if ¬ x2 = (0 : Int32) then 108 else 105), [.ref 0, .int x1, .int x2, .int x3, .int x4, .int x5, .int x6, .int x7], [], σ)) (P := []) rfl trivial ?_
    by_cases b2 : ¬ x2 = (0 : Int32)
    · rw [if_pos b2]
      have h := h.1 b2
      refine mm_blk (M := mm_m_X10_shed) 3 (S' := ((if ¬ x2 = (1 : Int32) then 118 else 113), [.ref 0, .int x1, .int x2, .int x3, .int x4, .int x5, .int x6, .int x7], [], σ)) (P := []) rfl trivial ?_
      by_cases b3 : ¬ x2 = (1 : Int32)
      · rw [if_pos b3]
        have h := h.1 b3
        refine mm_blk (M := mm_m_X10_shed) 1 (S' := (120, [.ref 0, .int x1, .int x2, .int x3, .int x4, .int x5, .int x6, .int x7], [.int x6], σ)) (P := []) rfl trivial ?_
        subst h
        exact mm_rt_ ⟨_, _, _, rfl, ⟨_, _, rfl, rfl, rfl, rfl⟩⟩
      · rw [if_neg b3]
        have h := h.2 b3
        refine mm_blk (M := mm_m_X10_shed) 2 (S' := (120, [.ref 0, .int x1, .int x2, .int x3, .int x4, .int x5, .int x6, .int x7], [.int x5], σ)) (P := []) rfl trivial ?_
        subst h
        exact mm_rt_ ⟨_, _, _, rfl, ⟨_, _, rfl, rfl, rfl, rfl⟩⟩
    · rw [if_neg b2]
      have h := h.2 b2
      refine mm_blk (M := mm_m_X10_shed) 1 (S' := (107, [.ref 0, .int x1, .int x2, .int x3, .int x4, .int x5, .int x6, .int x7], [.int x4], σ)) (P := []) rfl trivial ?_
      subst h
      exact mm_rt_ ⟨_, _, _, rfl, ⟨_, _, rfl, rfl, rfl, rfl⟩⟩
  · rw [if_neg b1]
    have h := h.2 b1
    obtain ⟨c4, h⟩ := h
    refine mm_blk (M := mm_m_X10_shed) 6 (S' := (66, [.ref 0, .int x1, .int x2, .int x3, .int x4, .int x5, .int x6, .int x7], [.ref (32 + 2 * x1.toNatClampNeg), .int x7, .ref 0], σ)) (P := [mm_cl 0 = 10, vp_in x1 8, 31 = 1 ∨ 31 = 31 ∨ 31 = 65 ∨ 31 = 74]) rfl ⟨rfl, c4, (by decide), trivial⟩ ?_
    obtain ⟨v7, σ5, e6, h⟩ := h
    refine mm_cl_ (rest := []) e6 ⟨_, _, _, rfl, rfl, mm_tb_X10_bagsGoAsTold, rfl, rfl, Nat.le_of_ble_eq_true rfl, Nat.le_of_ble_eq_true rfl, ⟨_, rfl, rfl⟩⟩ ?_
    refine mm_blk (M := mm_m_X10_shed) 1 (S' := ((if v7 = (0 : Int32) then 95 else 72), [.ref 0, .int x1, .int x2, .int x3, .int x4, .int x5, .int x6, .int x7], [], σ5)) (P := []) rfl trivial ?_
    by_cases b8 : v7 = (0 : Int32)
    · rw [if_pos b8]
      have h := h.1 b8
      refine mm_blk (M := mm_m_X10_shed) 2 (S' := (49, [.ref 0, .int x1, .int x2, .int x3, .int x4, .int x5, .int x6, .int (x7 + (1 : Int32))], [], σ5)) (P := []) rfl trivial ?_
      exact h
    · rw [if_neg b8]
      have h := h.2 b8
      refine mm_blk (M := mm_m_X10_shed) 4 (S' := ((if ¬ x5 = (-4 : Int32) then 87 else 82), [.ref 0, .int x1, .int x2, .int x3, .int (x4 + (1 : Int32)), .int x5, .int x6, .int x7], [], σ5)) (P := []) rfl trivial ?_
      by_cases b9 : ¬ x5 = (-4 : Int32)
      · rw [if_pos b9]
        have h := h.1 b9
        refine mm_blk (M := mm_m_X10_shed) 6 (S' := (49, [.ref 0, .int x1, .int x2, .int x3, .int (x4 + (1 : Int32)), .int x5, .int x7, .int (x7 + (1 : Int32))], [], σ5)) (P := []) rfl trivial ?_
        exact h
      · rw [if_neg b9]
        have h := h.2 b9
        refine mm_blk (M := mm_m_X10_shed) 7 (S' := (49, [.ref 0, .int x1, .int x2, .int x3, .int (x4 + (1 : Int32)), .int x7, .int x7, .int (x7 + (1 : Int32))], [], σ5)) (P := []) rfl trivial ?_
        exact h
theorem sg_X10_two_0 (σ : mm_Sg) (x1 : Int32) (x2 : Int32) (x3 : Int32) (R : Option Value × mm_Sg) (h : (∃ (v3 : Int32) (σ1 : mm_Sg), mm_Ev mm_m_X1_has [.ref 10, .int x1] σ (some (.int v3)) σ1 ∧ (((v3 = (0 : Int32) → (R = (some (.int (-1 : Int32)), σ1))) ∧ (¬ (v3 = (0 : Int32)) → (∃ (v7 : Int32) (σ5 : mm_Sg), mm_Ev mm_m_X1_has [.ref 10, .int x2] σ1 (some (.int v7)) σ5 ∧ (((v7 = (0 : Int32) → (R = (some (.int (-1 : Int32)), σ5))) ∧ (¬ (v7 = (0 : Int32)) → (((x1 = x2 → (R = (some (.int (-1 : Int32)), σ5))) ∧ (¬ (x1 = x2) → (∃ (v12 : Int32) (σ10 : mm_Sg), mm_Ev mm_m_X10_isBetween [.int x3, .int (1 : Int32), .int (30 : Int32)] σ5 (some (.int v12)) σ10 ∧ (((¬ v12 = (0 : Int32) → mm_Go mm_m_X10_two (42, [.ref 0, .int x1, .int x2, .int x3, .int (0 : Int32), .null, .null], [], σ10) R) ∧ (¬ (¬ v12 = (0 : Int32)) → (R = (some (.int (-1 : Int32)), σ10)))))))))))))))))) : mm_Go mm_m_X10_two (0, [.ref 0, .int x1, .int x2, .int x3, .null, .null, .null], [], σ) R := by
  refine mm_blk (M := mm_m_X10_two) 3 (S' := (5, [.ref 0, .int x1, .int x2, .int x3, .null, .null, .null], [.int x1, .ref 10], σ)) (P := [mm_cl 0 = 10]) rfl ⟨rfl, trivial⟩ ?_
  obtain ⟨v3, σ1, e2, h⟩ := h
  refine mm_cl_ (rest := []) e2 ⟨_, _, _, rfl, rfl, mm_tb_X1_has, rfl, rfl, Nat.le_of_ble_eq_true rfl, Nat.le_of_ble_eq_true rfl, ⟨_, rfl, rfl⟩⟩ ?_
  refine mm_blk (M := mm_m_X10_two) 1 (S' := ((if v3 = (0 : Int32) then 37 else 11), [.ref 0, .int x1, .int x2, .int x3, .null, .null, .null], [], σ1)) (P := []) rfl trivial ?_
  by_cases b4 : v3 = (0 : Int32)
  · rw [if_pos b4]
    have h := h.1 b4
    refine mm_blk (M := mm_m_X10_two) 1 (S' := (38, [.ref 0, .int x1, .int x2, .int x3, .null, .null, .null], [.int (-1 : Int32)], σ1)) (P := []) rfl trivial ?_
    subst h
    exact mm_rt_ ⟨_, _, _, rfl, ⟨_, _, rfl, rfl, rfl, rfl⟩⟩
  · rw [if_neg b4]
    have h := h.2 b4
    refine mm_blk (M := mm_m_X10_two) 3 (S' := (16, [.ref 0, .int x1, .int x2, .int x3, .null, .null, .null], [.int x2, .ref 10], σ1)) (P := [mm_cl 0 = 10]) rfl ⟨rfl, trivial⟩ ?_
    obtain ⟨v7, σ5, e6, h⟩ := h
    refine mm_cl_ (rest := []) e6 ⟨_, _, _, rfl, rfl, mm_tb_X1_has, rfl, rfl, Nat.le_of_ble_eq_true rfl, Nat.le_of_ble_eq_true rfl, ⟨_, rfl, rfl⟩⟩ ?_
    refine mm_blk (M := mm_m_X10_two) 1 (S' := ((if v7 = (0 : Int32) then 37 else 22), [.ref 0, .int x1, .int x2, .int x3, .null, .null, .null], [], σ5)) (P := []) rfl trivial ?_
    by_cases b8 : v7 = (0 : Int32)
    · rw [if_pos b8]
      have h := h.1 b8
      refine mm_blk (M := mm_m_X10_two) 1 (S' := (38, [.ref 0, .int x1, .int x2, .int x3, .null, .null, .null], [.int (-1 : Int32)], σ5)) (P := []) rfl trivial ?_
      subst h
      exact mm_rt_ ⟨_, _, _, rfl, ⟨_, _, rfl, rfl, rfl, rfl⟩⟩
    · rw [if_neg b8]
      have h := h.2 b8
      refine mm_blk (M := mm_m_X10_two) 3 (S' := ((if x1 = x2 then 37 else 27), [.ref 0, .int x1, .int x2, .int x3, .null, .null, .null], [], σ5)) (P := []) rfl trivial ?_
      by_cases b9 : x1 = x2
      · rw [if_pos b9]
        have h := h.1 b9
        refine mm_blk (M := mm_m_X10_two) 1 (S' := (38, [.ref 0, .int x1, .int x2, .int x3, .null, .null, .null], [.int (-1 : Int32)], σ5)) (P := []) rfl trivial ?_
        subst h
        exact mm_rt_ ⟨_, _, _, rfl, ⟨_, _, rfl, rfl, rfl, rfl⟩⟩
      · rw [if_neg b9]
        have h := h.2 b9
        refine mm_blk (M := mm_m_X10_two) 3 (S' := (31, [.ref 0, .int x1, .int x2, .int x3, .null, .null, .null], [.int (30 : Int32), .int (1 : Int32), .int x3], σ5)) (P := []) rfl trivial ?_
        obtain ⟨v12, σ10, e11, h⟩ := h
        refine mm_cl_ (rest := []) e11 ⟨_, _, _, rfl, rfl, mm_tb_X10_isBetween, rfl, rfl, Nat.le_of_ble_eq_true rfl, Nat.le_of_ble_eq_true rfl, trivial⟩ ?_
        refine mm_blk (M := mm_m_X10_two) 1 (S' := ((if ¬ v12 = (0 : Int32) then 39 else 37), [.ref 0, .int x1, .int x2, .int x3, .null, .null, .null], [], σ10)) (P := []) rfl trivial ?_
        by_cases b13 : ¬ v12 = (0 : Int32)
        · rw [if_pos b13]
          have h := h.1 b13
          refine mm_blk (M := mm_m_X10_two) 2 (S' := (42, [.ref 0, .int x1, .int x2, .int x3, .int (0 : Int32), .null, .null], [], σ10)) (P := []) rfl trivial ?_
          exact h
        · rw [if_neg b13]
          have h := h.2 b13
          refine mm_blk (M := mm_m_X10_two) 1 (S' := (38, [.ref 0, .int x1, .int x2, .int x3, .null, .null, .null], [.int (-1 : Int32)], σ10)) (P := []) rfl trivial ?_
          subst h
          exact mm_rt_ ⟨_, _, _, rfl, ⟨_, _, rfl, rfl, rfl, rfl⟩⟩
theorem sg_X10_two_42 (σ : mm_Sg) (x1 : Int32) (x2 : Int32) (x3 : Int32) (x4 : Int32) (d5 : Value) (d6 : Value) (R : Option Value × mm_Sg) (h : ((((4 : Int32) ≤ x4 → mm_Go mm_m_X10_two (166, [.ref 0, .int x1, .int x2, .int x3, .int (0 : Int32), d5, d6], [], σ) R) ∧ (¬ ((4 : Int32) ≤ x4) → (((x4 < (2 : Int32) → (((¬ (x4 - x4 / (2 : Int32) * (2 : Int32)) = (1 : Int32) → mm_Go mm_m_X10_two (74, [.ref 0, .int x1, .int x2, .int x3, .int x4, .int (0 : Int32), d6], [.int (0 : Int32)], σ) R) ∧ (¬ (¬ (x4 - x4 / (2 : Int32) * (2 : Int32)) = (1 : Int32)) → mm_Go mm_m_X10_two (74, [.ref 0, .int x1, .int x2, .int x3, .int x4, .int (0 : Int32), d6], [.int (1 : Int32)], σ) R)))) ∧ (¬ (x4 < (2 : Int32)) → (((¬ (x4 - x4 / (2 : Int32) * (2 : Int32)) = (1 : Int32) → mm_Go mm_m_X10_two (74, [.ref 0, .int x1, .int x2, .int x3, .int x4, .int (1 : Int32), d6], [.int (0 : Int32)], σ) R) ∧ (¬ (¬ (x4 - x4 / (2 : Int32) * (2 : Int32)) = (1 : Int32)) → mm_Go mm_m_X10_two (74, [.ref 0, .int x1, .int x2, .int x3, .int x4, .int (1 : Int32), d6], [.int (1 : Int32)], σ) R)))))))))) : mm_Go mm_m_X10_two (42, [.ref 0, .int x1, .int x2, .int x3, .int x4, d5, d6], [], σ) R := by
  refine mm_blk (M := mm_m_X10_two) 3 (S' := ((if (4 : Int32) ≤ x4 then 163 else 48), [.ref 0, .int x1, .int x2, .int x3, .int x4, d5, d6], [], σ)) (P := []) rfl trivial ?_
  by_cases b1 : (4 : Int32) ≤ x4
  · rw [if_pos b1]
    have h := h.1 b1
    refine mm_blk (M := mm_m_X10_two) 2 (S' := (166, [.ref 0, .int x1, .int x2, .int x3, .int (0 : Int32), d5, d6], [], σ)) (P := []) rfl trivial ?_
    exact h
  · rw [if_neg b1]
    have h := h.2 b1
    refine mm_blk (M := mm_m_X10_two) 3 (S' := ((if x4 < (2 : Int32) then 58 else 54), [.ref 0, .int x1, .int x2, .int x3, .int x4, d5, d6], [], σ)) (P := []) rfl trivial ?_
    by_cases b2 : x4 < (2 : Int32)
    · rw [if_pos b2]
      have h := h.1 b2
      refine mm_blk (M := mm_m_X10_two) 7 (S' := ((if ¬ (x4 - x4 / (2 : Int32) * (2 : Int32)) = (1 : Int32) then 73 else 69), [.ref 0, .int x1, .int x2, .int x3, .int x4, .int (0 : Int32), d6], [], σ)) (P := [¬ (2 : Int32) = 0]) rfl ⟨(by decide), trivial⟩ ?_
      by_cases b3 : ¬ (x4 - x4 / (2 : Int32) * (2 : Int32)) = (1 : Int32)
      · rw [if_pos b3]
        have h := h.1 b3
        refine mm_blk (M := mm_m_X10_two) 1 (S' := (74, [.ref 0, .int x1, .int x2, .int x3, .int x4, .int (0 : Int32), d6], [.int (0 : Int32)], σ)) (P := []) rfl trivial ?_
        exact h
      · rw [if_neg b3]
        have h := h.2 b3
        refine mm_blk (M := mm_m_X10_two) 2 (S' := (74, [.ref 0, .int x1, .int x2, .int x3, .int x4, .int (0 : Int32), d6], [.int (1 : Int32)], σ)) (P := []) rfl trivial ?_
        exact h
    · rw [if_neg b2]
      have h := h.2 b2
      refine mm_blk (M := mm_m_X10_two) 8 (S' := ((if ¬ (x4 - x4 / (2 : Int32) * (2 : Int32)) = (1 : Int32) then 73 else 69), [.ref 0, .int x1, .int x2, .int x3, .int x4, .int (1 : Int32), d6], [], σ)) (P := [¬ (2 : Int32) = 0]) rfl ⟨(by decide), trivial⟩ ?_
      by_cases b4 : ¬ (x4 - x4 / (2 : Int32) * (2 : Int32)) = (1 : Int32)
      · rw [if_pos b4]
        have h := h.1 b4
        refine mm_blk (M := mm_m_X10_two) 1 (S' := (74, [.ref 0, .int x1, .int x2, .int x3, .int x4, .int (1 : Int32), d6], [.int (0 : Int32)], σ)) (P := []) rfl trivial ?_
        exact h
      · rw [if_neg b4]
        have h := h.2 b4
        refine mm_blk (M := mm_m_X10_two) 2 (S' := (74, [.ref 0, .int x1, .int x2, .int x3, .int x4, .int (1 : Int32), d6], [.int (1 : Int32)], σ)) (P := []) rfl trivial ?_
        exact h
theorem sg_X10_two_74 (σ : mm_Sg) (x1 : Int32) (x2 : Int32) (x3 : Int32) (x4 : Int32) (x5 : Int32) (d6 : Value) (s0 : Int32) (R : Option Value × mm_Sg) (h : (∃ (σ1 : mm_Sg), mm_Ev mm_m_X1_becomeLike [.ref 24, .ref 10] σ none σ1 ∧ (((x5 = (0 : Int32) → (((s0 = (0 : Int32) → mm_Go mm_m_X10_two (115, [.ref 0, .int x1, .int x2, .int x3, .int x4, .int x5, .int s0], [.int ((1 : Int32) <<< (x2 &&& 31)), .int ((1 : Int32) <<< (x1 &&& 31)), .ref 24], σ1) R) ∧ (¬ (s0 = (0 : Int32)) → mm_Go mm_m_X10_two (115, [.ref 0, .int x1, .int x2, .int x3, .int x4, .int x5, .int s0], [.int (0 : Int32), .int ((1 : Int32) <<< (x1 &&& 31)), .ref 24], σ1) R)))) ∧ (¬ (x5 = (0 : Int32)) → (((s0 = (0 : Int32) → mm_Go mm_m_X10_two (115, [.ref 0, .int x1, .int x2, .int x3, .int x4, .int x5, .int s0], [.int ((1 : Int32) <<< (x2 &&& 31)), .int (0 : Int32), .ref 24], σ1) R) ∧ (¬ (s0 = (0 : Int32)) → mm_Go mm_m_X10_two (115, [.ref 0, .int x1, .int x2, .int x3, .int x4, .int x5, .int s0], [.int (0 : Int32), .int (0 : Int32), .ref 24], σ1) R)))))))) : mm_Go mm_m_X10_two (74, [.ref 0, .int x1, .int x2, .int x3, .int x4, .int x5, d6], [.int s0], σ) R := by
  refine mm_blk (M := mm_m_X10_two) 5 (S' := (84, [.ref 0, .int x1, .int x2, .int x3, .int x4, .int x5, .int s0], [.ref 10, .ref 24], σ)) (P := [mm_cl 0 = 10, mm_cl 0 = 10]) rfl ⟨rfl, rfl, trivial⟩ ?_
  obtain ⟨σ1, e2, h⟩ := h
  refine mm_cl_ (rest := []) e2 ⟨_, _, _, rfl, rfl, mm_tb_X1_becomeLike, rfl, rfl, Nat.le_of_ble_eq_true rfl, Nat.le_of_ble_eq_true rfl, ⟨_, rfl, rfl⟩⟩ ?_
  refine mm_blk (M := mm_m_X10_two) 4 (S' := ((if x5 = (0 : Int32) then 100 else 96), [.ref 0, .int x1, .int x2, .int x3, .int x4, .int x5, .int s0], [.ref 24], σ1)) (P := [mm_cl 0 = 10]) rfl ⟨rfl, trivial⟩ ?_
  by_cases b3 : x5 = (0 : Int32)
  · rw [if_pos b3]
    have h := h.1 b3
    refine mm_blk (M := mm_m_X10_two) 5 (S' := ((if s0 = (0 : Int32) then 112 else 108), [.ref 0, .int x1, .int x2, .int x3, .int x4, .int x5, .int s0], [.int ((1 : Int32) <<< (x1 &&& 31)), .ref 24], σ1)) (P := []) rfl trivial ?_
    by_cases b4 : s0 = (0 : Int32)
    · rw [if_pos b4]
      have h := h.1 b4
      refine mm_blk (M := mm_m_X10_two) 3 (S' := (115, [.ref 0, .int x1, .int x2, .int x3, .int x4, .int x5, .int s0], [.int ((1 : Int32) <<< (x2 &&& 31)), .int ((1 : Int32) <<< (x1 &&& 31)), .ref 24], σ1)) (P := []) rfl trivial ?_
      exact h
    · rw [if_neg b4]
      have h := h.2 b4
      refine mm_blk (M := mm_m_X10_two) 2 (S' := (115, [.ref 0, .int x1, .int x2, .int x3, .int x4, .int x5, .int s0], [.int (0 : Int32), .int ((1 : Int32) <<< (x1 &&& 31)), .ref 24], σ1)) (P := []) rfl trivial ?_
      exact h
  · rw [if_neg b3]
    have h := h.2 b3
    refine mm_blk (M := mm_m_X10_two) 4 (S' := ((if s0 = (0 : Int32) then 112 else 108), [.ref 0, .int x1, .int x2, .int x3, .int x4, .int x5, .int s0], [.int (0 : Int32), .ref 24], σ1)) (P := []) rfl trivial ?_
    by_cases b5 : s0 = (0 : Int32)
    · rw [if_pos b5]
      have h := h.1 b5
      refine mm_blk (M := mm_m_X10_two) 3 (S' := (115, [.ref 0, .int x1, .int x2, .int x3, .int x4, .int x5, .int s0], [.int ((1 : Int32) <<< (x2 &&& 31)), .int (0 : Int32), .ref 24], σ1)) (P := []) rfl trivial ?_
      exact h
    · rw [if_neg b5]
      have h := h.2 b5
      refine mm_blk (M := mm_m_X10_two) 2 (S' := (115, [.ref 0, .int x1, .int x2, .int x3, .int x4, .int x5, .int s0], [.int (0 : Int32), .int (0 : Int32), .ref 24], σ1)) (P := []) rfl trivial ?_
      exact h
theorem sg_X10_two_115 (σ : mm_Sg) (x1 : Int32) (x2 : Int32) (x3 : Int32) (x4 : Int32) (x5 : Int32) (x6 : Int32) (s0 : Int32) (s1 : Int32) (s2 : Nat) (R : Option Value × mm_Sg) (h : ((mm_cl s2 = 1) ∧ ∀ σ2 : mm_Sg, σ2 = mm_u σ s2 12 (s1 ||| s0) → (∃ (σ4 : mm_Sg), mm_Ev mm_m_X1_goDays [.ref 24, .int x3] σ2 none σ4 ∧ (∃ (v8 : Int32) (σ6 : mm_Sg), mm_Ev mm_m_X10_gainInMind [.ref 0, .int x1] σ4 (some (.int v8)) σ6 ∧ ((vp_in ((2 : Int32) * x4) (mm_len 50)) ∧ ∀ σ10 : mm_Sg, σ10 = mm_u σ6 50 ((2 : Int32) * x4).toNatClampNeg v8 → (∃ (v14 : Int32) (σ12 : mm_Sg), mm_Ev mm_m_X10_gainInMind [.ref 0, .int x2] σ10 (some (.int v14)) σ12 ∧ ((vp_in (((2 : Int32) * x4) + (1 : Int32)) (mm_len 50)) ∧ ∀ σ16 : mm_Sg, σ16 = mm_u σ12 50 (((2 : Int32) * x4) + (1 : Int32)).toNatClampNeg v14 → mm_Go mm_m_X10_two (42, [.ref 0, .int x1, .int x2, .int x3, .int (x4 + (1 : Int32)), .int x5, .int x6], [], σ16) R))))))) : mm_Go mm_m_X10_two (115, [.ref 0, .int x1, .int x2, .int x3, .int x4, .int x5, .int x6], [.int s0, .int s1, .ref s2], σ) R := by
  obtain ⟨c1, h⟩ := h
  refine mm_blk (M := mm_m_X10_two) 2 (S' := (119, [.ref 0, .int x1, .int x2, .int x3, .int x4, .int x5, .int x6], [], mm_u σ s2 12 (s1 ||| s0))) (P := [mm_cl s2 = 1]) rfl ⟨c1, trivial⟩ ?_
  obtain ⟨σ2, e3⟩ : ∃ z, z = mm_u σ s2 12 (s1 ||| s0) := ⟨_, rfl⟩
  rw [← e3]
  have h := h σ2 e3
  refine mm_blk (M := mm_m_X10_two) 3 (S' := (124, [.ref 0, .int x1, .int x2, .int x3, .int x4, .int x5, .int x6], [.int x3, .ref 24], σ2)) (P := [mm_cl 0 = 10]) rfl ⟨rfl, trivial⟩ ?_
  obtain ⟨σ4, e5, h⟩ := h
  refine mm_cl_ (rest := []) e5 ⟨_, _, _, rfl, rfl, mm_tb_X1_goDays, rfl, rfl, Nat.le_of_ble_eq_true rfl, Nat.le_of_ble_eq_true rfl, ⟨_, rfl, rfl⟩⟩ ?_
  refine mm_blk (M := mm_m_X10_two) 7 (S' := (137, [.ref 0, .int x1, .int x2, .int x3, .int x4, .int x5, .int x6], [.int x1, .ref 0, .int ((2 : Int32) * x4), .ref 50], σ4)) (P := [mm_cl 0 = 10]) rfl ⟨rfl, trivial⟩ ?_
  obtain ⟨v8, σ6, e7, h⟩ := h
  refine mm_cl_ (rest := [.int ((2 : Int32) * x4), .ref 50]) e7 ⟨_, _, _, rfl, rfl, mm_tb_X10_gainInMind, rfl, rfl, Nat.le_of_ble_eq_true rfl, Nat.le_of_ble_eq_true rfl, ⟨_, rfl, rfl⟩⟩ ?_
  obtain ⟨c9, h⟩ := h
  refine mm_blk (M := mm_m_X10_two) 1 (S' := (141, [.ref 0, .int x1, .int x2, .int x3, .int x4, .int x5, .int x6], [], mm_u σ6 50 ((2 : Int32) * x4).toNatClampNeg v8)) (P := [vp_in ((2 : Int32) * x4) (mm_len 50)]) rfl ⟨c9, trivial⟩ ?_
  obtain ⟨σ10, e11⟩ : ∃ z, z = mm_u σ6 50 ((2 : Int32) * x4).toNatClampNeg v8 := ⟨_, rfl⟩
  rw [← e11]
  have h := h σ10 e11
  refine mm_blk (M := mm_m_X10_two) 9 (S' := (153, [.ref 0, .int x1, .int x2, .int x3, .int x4, .int x5, .int x6], [.int x2, .ref 0, .int (((2 : Int32) * x4) + (1 : Int32)), .ref 50], σ10)) (P := [mm_cl 0 = 10]) rfl ⟨rfl, trivial⟩ ?_
  obtain ⟨v14, σ12, e13, h⟩ := h
  refine mm_cl_ (rest := [.int (((2 : Int32) * x4) + (1 : Int32)), .ref 50]) e13 ⟨_, _, _, rfl, rfl, mm_tb_X10_gainInMind, rfl, rfl, Nat.le_of_ble_eq_true rfl, Nat.le_of_ble_eq_true rfl, ⟨_, rfl, rfl⟩⟩ ?_
  obtain ⟨c15, h⟩ := h
  refine mm_blk (M := mm_m_X10_two) 1 (S' := (157, [.ref 0, .int x1, .int x2, .int x3, .int x4, .int x5, .int x6], [], mm_u σ12 50 (((2 : Int32) * x4) + (1 : Int32)).toNatClampNeg v14)) (P := [vp_in (((2 : Int32) * x4) + (1 : Int32)) (mm_len 50)]) rfl ⟨c15, trivial⟩ ?_
  obtain ⟨σ16, e17⟩ : ∃ z, z = mm_u σ12 50 (((2 : Int32) * x4) + (1 : Int32)).toNatClampNeg v14 := ⟨_, rfl⟩
  rw [← e17]
  have h := h σ16 e17
  refine mm_blk (M := mm_m_X10_two) 2 (S' := (42, [.ref 0, .int x1, .int x2, .int x3, .int (x4 + (1 : Int32)), .int x5, .int x6], [], σ16)) (P := []) rfl trivial ?_
  exact h
theorem sg_X10_two_166 (σ : mm_Sg) (x1 : Int32) (x2 : Int32) (x3 : Int32) (x4 : Int32) (d5 : Value) (d6 : Value) (R : Option Value × mm_Sg) (h : ((((4 : Int32) ≤ x4 → (R = (some (.int (-4 : Int32)), σ))) ∧ (¬ ((4 : Int32) ≤ x4) → ((vp_in ((2 : Int32) * (x4 ^^^ (2 : Int32))) (mm_len 50)) ∧ (vp_in ((2 : Int32) * x4) (mm_len 50)) ∧ (((σ 50 ((2 : Int32) * x4).toNatClampNeg) < (σ 50 ((2 : Int32) * (x4 ^^^ (2 : Int32))).toNatClampNeg) → mm_Go mm_m_X10_two (166, [.ref 0, .int x1, .int x2, .int x3, .int (x4 + (1 : Int32)), .int (x4 ^^^ (2 : Int32)), .int (x4 ^^^ (1 : Int32))], [], σ) R) ∧ (¬ ((σ 50 ((2 : Int32) * x4).toNatClampNeg) < (σ 50 ((2 : Int32) * (x4 ^^^ (2 : Int32))).toNatClampNeg)) → ((vp_in (((2 : Int32) * (x4 ^^^ (1 : Int32))) + (1 : Int32)) (mm_len 50)) ∧ (vp_in (((2 : Int32) * x4) + (1 : Int32)) (mm_len 50)) ∧ (((σ 50 (((2 : Int32) * x4) + (1 : Int32)).toNatClampNeg) < (σ 50 (((2 : Int32) * (x4 ^^^ (1 : Int32))) + (1 : Int32)).toNatClampNeg) → mm_Go mm_m_X10_two (166, [.ref 0, .int x1, .int x2, .int x3, .int (x4 + (1 : Int32)), .int (x4 ^^^ (2 : Int32)), .int (x4 ^^^ (1 : Int32))], [], σ) R) ∧ (¬ ((σ 50 (((2 : Int32) * x4) + (1 : Int32)).toNatClampNeg) < (σ 50 (((2 : Int32) * (x4 ^^^ (1 : Int32))) + (1 : Int32)).toNatClampNeg)) → (R = (some (.int (((10 : Int32) * (x4 / (2 : Int32))) + (x4 - x4 / (2 : Int32) * (2 : Int32)))), σ)))))))))))) : mm_Go mm_m_X10_two (166, [.ref 0, .int x1, .int x2, .int x3, .int x4, d5, d6], [], σ) R := by
  refine mm_blk (M := mm_m_X10_two) 3 (S' := ((if (4 : Int32) ≤ x4 then 249 else 172), [.ref 0, .int x1, .int x2, .int x3, .int x4, d5, d6], [], σ)) (P := []) rfl trivial ?_
  by_cases b1 : (4 : Int32) ≤ x4
  · rw [if_pos b1]
    have h := h.1 b1
    refine mm_blk (M := mm_m_X10_two) 1 (S' := (251, [.ref 0, .int x1, .int x2, .int x3, .int x4, d5, d6], [.int (-4 : Int32)], σ)) (P := []) rfl trivial ?_
    subst h
    exact mm_rt_ ⟨_, _, _, rfl, ⟨_, _, rfl, rfl, rfl, rfl⟩⟩
  · rw [if_neg b1]
    have h := h.2 b1
    obtain ⟨c2, h⟩ := h
    obtain ⟨c3, h⟩ := h
    refine mm_blk (M := mm_m_X10_two) 21 (S' := ((if (σ 50 ((2 : Int32) * x4).toNatClampNeg) < (σ 50 ((2 : Int32) * (x4 ^^^ (2 : Int32))).toNatClampNeg) then 243 else 205), [.ref 0, .int x1, .int x2, .int x3, .int x4, .int (x4 ^^^ (2 : Int32)), .int (x4 ^^^ (1 : Int32))], [], σ)) (P := [mm_cl 0 = 10, vp_in ((2 : Int32) * (x4 ^^^ (2 : Int32))) (mm_len 50), mm_cl 0 = 10, vp_in ((2 : Int32) * x4) (mm_len 50)]) rfl ⟨rfl, c2, rfl, c3, trivial⟩ ?_
    by_cases b4 : (σ 50 ((2 : Int32) * x4).toNatClampNeg) < (σ 50 ((2 : Int32) * (x4 ^^^ (2 : Int32))).toNatClampNeg)
    · rw [if_pos b4]
      have h := h.1 b4
      refine mm_blk (M := mm_m_X10_two) 2 (S' := (166, [.ref 0, .int x1, .int x2, .int x3, .int (x4 + (1 : Int32)), .int (x4 ^^^ (2 : Int32)), .int (x4 ^^^ (1 : Int32))], [], σ)) (P := []) rfl trivial ?_
      exact h
    · rw [if_neg b4]
      have h := h.2 b4
      obtain ⟨c5, h⟩ := h
      obtain ⟨c6, h⟩ := h
      refine mm_blk (M := mm_m_X10_two) 17 (S' := ((if (σ 50 (((2 : Int32) * x4) + (1 : Int32)).toNatClampNeg) < (σ 50 (((2 : Int32) * (x4 ^^^ (1 : Int32))) + (1 : Int32)).toNatClampNeg) then 243 else 230), [.ref 0, .int x1, .int x2, .int x3, .int x4, .int (x4 ^^^ (2 : Int32)), .int (x4 ^^^ (1 : Int32))], [], σ)) (P := [mm_cl 0 = 10, vp_in (((2 : Int32) * (x4 ^^^ (1 : Int32))) + (1 : Int32)) (mm_len 50), mm_cl 0 = 10, vp_in (((2 : Int32) * x4) + (1 : Int32)) (mm_len 50)]) rfl ⟨rfl, c5, rfl, c6, trivial⟩ ?_
      by_cases b7 : (σ 50 (((2 : Int32) * x4) + (1 : Int32)).toNatClampNeg) < (σ 50 (((2 : Int32) * (x4 ^^^ (1 : Int32))) + (1 : Int32)).toNatClampNeg)
      · rw [if_pos b7]
        have h := h.1 b7
        refine mm_blk (M := mm_m_X10_two) 2 (S' := (166, [.ref 0, .int x1, .int x2, .int x3, .int (x4 + (1 : Int32)), .int (x4 ^^^ (2 : Int32)), .int (x4 ^^^ (1 : Int32))], [], σ)) (P := []) rfl trivial ?_
        exact h
      · rw [if_neg b7]
        have h := h.2 b7
        refine mm_blk (M := mm_m_X10_two) 9 (S' := (242, [.ref 0, .int x1, .int x2, .int x3, .int x4, .int (x4 ^^^ (2 : Int32)), .int (x4 ^^^ (1 : Int32))], [.int (((10 : Int32) * (x4 / (2 : Int32))) + (x4 - x4 / (2 : Int32) * (2 : Int32)))], σ)) (P := [¬ (2 : Int32) = 0, ¬ (2 : Int32) = 0]) rfl ⟨(by decide), (by decide), trivial⟩ ?_
        subst h
        exact mm_rt_ ⟨_, _, _, rfl, ⟨_, _, rfl, rfl, rfl, rfl⟩⟩
theorem sg_X10_falls_0 (σ : mm_Sg) (x1 : Int32) (x2 : Int32) (x3 : Int32) (x4 : Int32) (R : Option Value × mm_Sg) (h : (∃ (v3 : Int32) (σ1 : mm_Sg), mm_Ev mm_m_X10_isBetween [.int x1, .int (0 : Int32), .int (7 : Int32)] σ (some (.int v3)) σ1 ∧ (((v3 = (0 : Int32) → (∃ (w7 : Int64) (σ5 : mm_Sg), mm_Ev mm_m_X10_refusedLong [.int (-1 : Int32)] σ1 (some (.long w7)) σ5 ∧ (R = (some (.long w7), σ5)))) ∧ (¬ (v3 = (0 : Int32)) → (∃ (v10 : Int32) (σ8 : mm_Sg), mm_Ev mm_m_X10_isBetween [.int x2, .int (2 : Int32), .int (20 : Int32)] σ1 (some (.int v10)) σ8 ∧ (((v10 = (0 : Int32) → (∃ (w14 : Int64) (σ12 : mm_Sg), mm_Ev mm_m_X10_refusedLong [.int (-1 : Int32)] σ8 (some (.long w14)) σ12 ∧ (R = (some (.long w14), σ12)))) ∧ (¬ (v10 = (0 : Int32)) → (∃ (v17 : Int32) (σ15 : mm_Sg), mm_Ev mm_m_X10_isBetween [.int x3, .int (0 : Int32), .int (999 : Int32)] σ8 (some (.int v17)) σ15 ∧ (((v17 = (0 : Int32) → (∃ (w21 : Int64) (σ19 : mm_Sg), mm_Ev mm_m_X10_refusedLong [.int (-1 : Int32)] σ15 (some (.long w21)) σ19 ∧ (R = (some (.long w21), σ19)))) ∧ (¬ (v17 = (0 : Int32)) → (∃ (v24 : Int32) (σ22 : mm_Sg), mm_Ev mm_m_X10_isBetween [.int x4, .int (0 : Int32), .int (1 : Int32)] σ15 (some (.int v24)) σ22 ∧ (((¬ v24 = (0 : Int32) → mm_Go mm_m_X10_falls (52, [.ref 0, .int x1, .int x2, .int x3, .int x4, .long (0 : Int64), .null, .int (0 : Int32)], [], σ22) R) ∧ (¬ (¬ v24 = (0 : Int32)) → (∃ (w28 : Int64) (σ26 : mm_Sg), mm_Ev mm_m_X10_refusedLong [.int (-1 : Int32)] σ22 (some (.long w28)) σ26 ∧ (R = (some (.long w28), σ26)))))))))))))))))))) : mm_Go mm_m_X10_falls (0, [.ref 0, .int x1, .int x2, .int x3, .int x4, .null, .null, .null], [], σ) R := by
  refine mm_blk (M := mm_m_X10_falls) 3 (S' := (4, [.ref 0, .int x1, .int x2, .int x3, .int x4, .null, .null, .null], [.int (7 : Int32), .int (0 : Int32), .int x1], σ)) (P := []) rfl trivial ?_
  obtain ⟨v3, σ1, e2, h⟩ := h
  refine mm_cl_ (rest := []) e2 ⟨_, _, _, rfl, rfl, mm_tb_X10_isBetween, rfl, rfl, Nat.le_of_ble_eq_true rfl, Nat.le_of_ble_eq_true rfl, trivial⟩ ?_
  refine mm_blk (M := mm_m_X10_falls) 1 (S' := ((if v3 = (0 : Int32) then 41 else 10), [.ref 0, .int x1, .int x2, .int x3, .int x4, .null, .null, .null], [], σ1)) (P := []) rfl trivial ?_
  by_cases b4 : v3 = (0 : Int32)
  · rw [if_pos b4]
    have h := h.1 b4
    refine mm_blk (M := mm_m_X10_falls) 1 (S' := (42, [.ref 0, .int x1, .int x2, .int x3, .int x4, .null, .null, .null], [.int (-1 : Int32)], σ1)) (P := []) rfl trivial ?_
    obtain ⟨w7, σ5, e6, h⟩ := h
    refine mm_cl_ (rest := []) e6 ⟨_, _, _, rfl, rfl, mm_tb_X10_refusedLong, rfl, rfl, Nat.le_of_ble_eq_true rfl, Nat.le_of_ble_eq_true rfl, trivial⟩ ?_
    subst h
    exact mm_rt_ ⟨_, _, _, rfl, ⟨_, rfl, rfl, rfl⟩⟩
  · rw [if_neg b4]
    have h := h.2 b4
    refine mm_blk (M := mm_m_X10_falls) 3 (S' := (14, [.ref 0, .int x1, .int x2, .int x3, .int x4, .null, .null, .null], [.int (20 : Int32), .int (2 : Int32), .int x2], σ1)) (P := []) rfl trivial ?_
    obtain ⟨v10, σ8, e9, h⟩ := h
    refine mm_cl_ (rest := []) e9 ⟨_, _, _, rfl, rfl, mm_tb_X10_isBetween, rfl, rfl, Nat.le_of_ble_eq_true rfl, Nat.le_of_ble_eq_true rfl, trivial⟩ ?_
    refine mm_blk (M := mm_m_X10_falls) 1 (S' := ((if v10 = (0 : Int32) then 41 else 20), [.ref 0, .int x1, .int x2, .int x3, .int x4, .null, .null, .null], [], σ8)) (P := []) rfl trivial ?_
    by_cases b11 : v10 = (0 : Int32)
    · rw [if_pos b11]
      have h := h.1 b11
      refine mm_blk (M := mm_m_X10_falls) 1 (S' := (42, [.ref 0, .int x1, .int x2, .int x3, .int x4, .null, .null, .null], [.int (-1 : Int32)], σ8)) (P := []) rfl trivial ?_
      obtain ⟨w14, σ12, e13, h⟩ := h
      refine mm_cl_ (rest := []) e13 ⟨_, _, _, rfl, rfl, mm_tb_X10_refusedLong, rfl, rfl, Nat.le_of_ble_eq_true rfl, Nat.le_of_ble_eq_true rfl, trivial⟩ ?_
      subst h
      exact mm_rt_ ⟨_, _, _, rfl, ⟨_, rfl, rfl, rfl⟩⟩
    · rw [if_neg b11]
      have h := h.2 b11
      refine mm_blk (M := mm_m_X10_falls) 3 (S' := (25, [.ref 0, .int x1, .int x2, .int x3, .int x4, .null, .null, .null], [.int (999 : Int32), .int (0 : Int32), .int x3], σ8)) (P := []) rfl trivial ?_
      obtain ⟨v17, σ15, e16, h⟩ := h
      refine mm_cl_ (rest := []) e16 ⟨_, _, _, rfl, rfl, mm_tb_X10_isBetween, rfl, rfl, Nat.le_of_ble_eq_true rfl, Nat.le_of_ble_eq_true rfl, trivial⟩ ?_
      refine mm_blk (M := mm_m_X10_falls) 1 (S' := ((if v17 = (0 : Int32) then 41 else 31), [.ref 0, .int x1, .int x2, .int x3, .int x4, .null, .null, .null], [], σ15)) (P := []) rfl trivial ?_
      by_cases b18 : v17 = (0 : Int32)
      · rw [if_pos b18]
        have h := h.1 b18
        refine mm_blk (M := mm_m_X10_falls) 1 (S' := (42, [.ref 0, .int x1, .int x2, .int x3, .int x4, .null, .null, .null], [.int (-1 : Int32)], σ15)) (P := []) rfl trivial ?_
        obtain ⟨w21, σ19, e20, h⟩ := h
        refine mm_cl_ (rest := []) e20 ⟨_, _, _, rfl, rfl, mm_tb_X10_refusedLong, rfl, rfl, Nat.le_of_ble_eq_true rfl, Nat.le_of_ble_eq_true rfl, trivial⟩ ?_
        subst h
        exact mm_rt_ ⟨_, _, _, rfl, ⟨_, rfl, rfl, rfl⟩⟩
      · rw [if_neg b18]
        have h := h.2 b18
        refine mm_blk (M := mm_m_X10_falls) 3 (S' := (35, [.ref 0, .int x1, .int x2, .int x3, .int x4, .null, .null, .null], [.int (1 : Int32), .int (0 : Int32), .int x4], σ15)) (P := []) rfl trivial ?_
        obtain ⟨v24, σ22, e23, h⟩ := h
        refine mm_cl_ (rest := []) e23 ⟨_, _, _, rfl, rfl, mm_tb_X10_isBetween, rfl, rfl, Nat.le_of_ble_eq_true rfl, Nat.le_of_ble_eq_true rfl, trivial⟩ ?_
        refine mm_blk (M := mm_m_X10_falls) 1 (S' := ((if ¬ v24 = (0 : Int32) then 46 else 41), [.ref 0, .int x1, .int x2, .int x3, .int x4, .null, .null, .null], [], σ22)) (P := []) rfl trivial ?_
        by_cases b25 : ¬ v24 = (0 : Int32)
        · rw [if_pos b25]
          have h := h.1 b25
          refine mm_blk (M := mm_m_X10_falls) 4 (S' := (52, [.ref 0, .int x1, .int x2, .int x3, .int x4, .long (0 : Int64), .null, .int (0 : Int32)], [], σ22)) (P := []) rfl trivial ?_
          exact h
        · rw [if_neg b25]
          have h := h.2 b25
          refine mm_blk (M := mm_m_X10_falls) 1 (S' := (42, [.ref 0, .int x1, .int x2, .int x3, .int x4, .null, .null, .null], [.int (-1 : Int32)], σ22)) (P := []) rfl trivial ?_
          obtain ⟨w28, σ26, e27, h⟩ := h
          refine mm_cl_ (rest := []) e27 ⟨_, _, _, rfl, rfl, mm_tb_X10_refusedLong, rfl, rfl, Nat.le_of_ble_eq_true rfl, Nat.le_of_ble_eq_true rfl, trivial⟩ ?_
          subst h
          exact mm_rt_ ⟨_, _, _, rfl, ⟨_, rfl, rfl, rfl⟩⟩
theorem sg_X10_falls_52 (σ : mm_Sg) (x1 : Int32) (x2 : Int32) (x3 : Int32) (x4 : Int32) (l5 : Int64) (x7 : Int32) (R : Option Value × mm_Sg) (h : (((((1 : Int32) <<< (x1 &&& 31)) ≤ x7 → (∃ (w4 : Int64) (σ2 : mm_Sg), mm_Ev mm_m_X10_power [.long x2.toInt64, .int x1] σ (some (.long w4)) σ2 ∧ (∃ (w7 : Int64) (σ5 : mm_Sg), mm_Ev mm_m_X10_partOfFraction [.long l5, .long w4, .int x4] σ2 (some (.long w7)) σ5 ∧ (R = (some (.long w7), σ5))))) ∧ (¬ (((1 : Int32) <<< (x1 &&& 31)) ≤ x7) → (∃ (v10 : Int32) (σ8 : mm_Sg), mm_Ev mm_m_X10_owedBehindFalls [.ref 0, .int x1, .int x7] σ (some (.int v10)) σ8 ∧ (((v10 < x3 → mm_Go mm_m_X10_falls (52, [.ref 0, .int x1, .int x2, .int x3, .int x4, .long l5, .null, .int (x7 + (1 : Int32))], [], σ8) R) ∧ (¬ (v10 < x3) → (∃ (v14 : Int32) (σ12 : mm_Sg), mm_Ev mm_m_J6_bitCount_0f7a4 [.int x7] σ8 (some (.int v14)) σ12 ∧ (∃ (w17 : Int64) (σ15 : mm_Sg), mm_Ev mm_m_X10_power [.long ((x2 - (1 : Int32)).toInt64), .int (x1 - v14)] σ12 (some (.long w17)) σ15 ∧ mm_Go mm_m_X10_falls (52, [.ref 0, .int x1, .int x2, .int x3, .int x4, .long (l5 + w17), .null, .int (x7 + (1 : Int32))], [], σ15) R)))))))))) : mm_Go mm_m_X10_falls (52, [.ref 0, .int x1, .int x2, .int x3, .int x4, .long l5, .null, .int x7], [], σ) R := by
  refine mm_blk (M := mm_m_X10_falls) 5 (S' := ((if ((1 : Int32) <<< (x1 &&& 31)) ≤ x7 then 96 else 60), [.ref 0, .int x1, .int x2, .int x3, .int x4, .long l5, .null, .int x7], [], σ)) (P := []) rfl trivial ?_
  by_cases b1 : ((1 : Int32) <<< (x1 &&& 31)) ≤ x7
  · rw [if_pos b1]
    have h := h.1 b1
    refine mm_blk (M := mm_m_X10_falls) 4 (S' := (101, [.ref 0, .int x1, .int x2, .int x3, .int x4, .long l5, .null, .int x7], [.int x1, .long x2.toInt64, .long l5], σ)) (P := []) rfl trivial ?_
    obtain ⟨w4, σ2, e3, h⟩ := h
    refine mm_cl_ (rest := [.long l5]) e3 ⟨_, _, _, rfl, rfl, mm_tb_X10_power, rfl, rfl, Nat.le_of_ble_eq_true rfl, Nat.le_of_ble_eq_true rfl, trivial⟩ ?_
    refine mm_blk (M := mm_m_X10_falls) 1 (S' := (106, [.ref 0, .int x1, .int x2, .int x3, .int x4, .long l5, .null, .int x7], [.int x4, .long w4, .long l5], σ2)) (P := []) rfl trivial ?_
    obtain ⟨w7, σ5, e6, h⟩ := h
    refine mm_cl_ (rest := []) e6 ⟨_, _, _, rfl, rfl, mm_tb_X10_partOfFraction, rfl, rfl, Nat.le_of_ble_eq_true rfl, Nat.le_of_ble_eq_true rfl, trivial⟩ ?_
    subst h
    exact mm_rt_ ⟨_, _, _, rfl, ⟨_, rfl, rfl, rfl⟩⟩
  · rw [if_neg b1]
    have h := h.2 b1
    refine mm_blk (M := mm_m_X10_falls) 3 (S' := (64, [.ref 0, .int x1, .int x2, .int x3, .int x4, .long l5, .null, .int x7], [.int x7, .int x1, .ref 0], σ)) (P := []) rfl trivial ?_
    obtain ⟨v10, σ8, e9, h⟩ := h
    refine mm_cl_ (rest := []) e9 ⟨_, _, _, rfl, rfl, mm_tb_X10_owedBehindFalls, rfl, rfl, Nat.le_of_ble_eq_true rfl, Nat.le_of_ble_eq_true rfl, ⟨_, rfl, rfl⟩⟩ ?_
    refine mm_blk (M := mm_m_X10_falls) 2 (S' := ((if v10 < x3 then 90 else 71), [.ref 0, .int x1, .int x2, .int x3, .int x4, .long l5, .null, .int x7], [], σ8)) (P := []) rfl trivial ?_
    by_cases b11 : v10 < x3
    · rw [if_pos b11]
      have h := h.1 b11
      refine mm_blk (M := mm_m_X10_falls) 2 (S' := (52, [.ref 0, .int x1, .int x2, .int x3, .int x4, .long l5, .null, .int (x7 + (1 : Int32))], [], σ8)) (P := []) rfl trivial ?_
      exact h
    · rw [if_neg b11]
      have h := h.2 b11
      refine mm_blk (M := mm_m_X10_falls) 7 (S' := (80, [.ref 0, .int x1, .int x2, .int x3, .int x4, .long l5, .null, .int x7], [.int x7, .int x1, .long ((x2 - (1 : Int32)).toInt64), .long l5], σ8)) (P := []) rfl trivial ?_
      obtain ⟨v14, σ12, e13, h⟩ := h
      refine mm_cl_ (rest := [.int x1, .long ((x2 - (1 : Int32)).toInt64), .long l5]) e13 ⟨_, _, _, rfl, rfl, mm_tb_J6_bitCount_0f7a4, rfl, rfl, Nat.le_of_ble_eq_true rfl, Nat.le_of_ble_eq_true rfl, trivial⟩ ?_
      refine mm_blk (M := mm_m_X10_falls) 1 (S' := (84, [.ref 0, .int x1, .int x2, .int x3, .int x4, .long l5, .null, .int x7], [.int (x1 - v14), .long ((x2 - (1 : Int32)).toInt64), .long l5], σ12)) (P := []) rfl trivial ?_
      obtain ⟨w17, σ15, e16, h⟩ := h
      refine mm_cl_ (rest := [.long l5]) e16 ⟨_, _, _, rfl, rfl, mm_tb_X10_power, rfl, rfl, Nat.le_of_ble_eq_true rfl, Nat.le_of_ble_eq_true rfl, trivial⟩ ?_
      refine mm_blk (M := mm_m_X10_falls) 4 (S' := (52, [.ref 0, .int x1, .int x2, .int x3, .int x4, .long (l5 + w17), .null, .int (x7 + (1 : Int32))], [], σ15)) (P := []) rfl trivial ?_
      exact h
theorem sg_X10_mean_0 (σ : mm_Sg) (x1 : Int32) (R : Option Value × mm_Sg) (h : (∃ (v3 : Int32) (σ1 : mm_Sg), mm_Ev mm_m_X10_isBetween [.int x1, .int (0 : Int32), .int (1 : Int32)] σ (some (.int v3)) σ1 ∧ (((¬ v3 = (0 : Int32) → (∃ (v7 : Int32) (σ5 : mm_Sg), mm_Ev mm_m_X1_tiredInAll [.ref 10] σ1 (some (.int v7)) σ5 ∧ (∃ (w10 : Int64) (σ8 : mm_Sg), mm_Ev mm_m_X10_partOfFraction [.long v7.toInt64, .long (5 : Int64), .int x1] σ5 (some (.long w10)) σ8 ∧ (R = (some (.long w10), σ8))))) ∧ (¬ (¬ v3 = (0 : Int32)) → (∃ (w13 : Int64) (σ11 : mm_Sg), mm_Ev mm_m_X10_refusedLong [.int (-1 : Int32)] σ1 (some (.long w13)) σ11 ∧ (R = (some (.long w13), σ11)))))))) : mm_Go mm_m_X10_mean (0, [.ref 0, .int x1], [], σ) R := by
  refine mm_blk (M := mm_m_X10_mean) 3 (S' := (3, [.ref 0, .int x1], [.int (1 : Int32), .int (0 : Int32), .int x1], σ)) (P := []) rfl trivial ?_
  obtain ⟨v3, σ1, e2, h⟩ := h
  refine mm_cl_ (rest := []) e2 ⟨_, _, _, rfl, rfl, mm_tb_X10_isBetween, rfl, rfl, Nat.le_of_ble_eq_true rfl, Nat.le_of_ble_eq_true rfl, trivial⟩ ?_
  refine mm_blk (M := mm_m_X10_mean) 1 (S' := ((if ¬ v3 = (0 : Int32) then 14 else 9), [.ref 0, .int x1], [], σ1)) (P := []) rfl trivial ?_
  by_cases b4 : ¬ v3 = (0 : Int32)
  · rw [if_pos b4]
    have h := h.1 b4
    refine mm_blk (M := mm_m_X10_mean) 2 (S' := (18, [.ref 0, .int x1], [.ref 10], σ1)) (P := [mm_cl 0 = 10]) rfl ⟨rfl, trivial⟩ ?_
    obtain ⟨v7, σ5, e6, h⟩ := h
    refine mm_cl_ (rest := []) e6 ⟨_, _, _, rfl, rfl, mm_tb_X1_tiredInAll, rfl, rfl, Nat.le_of_ble_eq_true rfl, Nat.le_of_ble_eq_true rfl, ⟨_, rfl, rfl⟩⟩ ?_
    refine mm_blk (M := mm_m_X10_mean) 3 (S' := (26, [.ref 0, .int x1], [.int x1, .long (5 : Int64), .long v7.toInt64], σ5)) (P := []) rfl trivial ?_
    obtain ⟨w10, σ8, e9, h⟩ := h
    refine mm_cl_ (rest := []) e9 ⟨_, _, _, rfl, rfl, mm_tb_X10_partOfFraction, rfl, rfl, Nat.le_of_ble_eq_true rfl, Nat.le_of_ble_eq_true rfl, trivial⟩ ?_
    subst h
    exact mm_rt_ ⟨_, _, _, rfl, ⟨_, rfl, rfl, rfl⟩⟩
  · rw [if_neg b4]
    have h := h.2 b4
    refine mm_blk (M := mm_m_X10_mean) 1 (S' := (10, [.ref 0, .int x1], [.int (-1 : Int32)], σ1)) (P := []) rfl trivial ?_
    obtain ⟨w13, σ11, e12, h⟩ := h
    refine mm_cl_ (rest := []) e12 ⟨_, _, _, rfl, rfl, mm_tb_X10_refusedLong, rfl, rfl, Nat.le_of_ble_eq_true rfl, Nat.le_of_ble_eq_true rfl, trivial⟩ ?_
    subst h
    exact mm_rt_ ⟨_, _, _, rfl, ⟨_, rfl, rfl, rfl⟩⟩
theorem sg_X10_forged_0 (σ : mm_Sg) (x1 : Int32) (R : Option Value × mm_Sg) (h : (∃ (v3 : Int32) (σ1 : mm_Sg), mm_Ev mm_m_X10_refusalUnless [.ref 0, .int (2 : Int32), .int x1] σ (some (.int v3)) σ1 ∧ (((v3 = (0 : Int32) → ((vp_in x1 8) ∧ mm_Go mm_m_X10_forged (23, [.ref 0, .int x1, .int v3, .ref (32 + 2 * x1.toNatClampNeg), .int (0 : Int32)], [], σ1) R)) ∧ (¬ (v3 = (0 : Int32)) → (R = (some (.int v3), σ1))))))) : mm_Go mm_m_X10_forged (0, [.ref 0, .int x1, .null, .null, .null], [], σ) R := by
  refine mm_blk (M := mm_m_X10_forged) 3 (S' := (3, [.ref 0, .int x1, .null, .null, .null], [.int x1, .int (2 : Int32), .ref 0], σ)) (P := []) rfl trivial ?_
  obtain ⟨v3, σ1, e2, h⟩ := h
  refine mm_cl_ (rest := []) e2 ⟨_, _, _, rfl, rfl, mm_tb_X10_refusalUnless, rfl, rfl, Nat.le_of_ble_eq_true rfl, Nat.le_of_ble_eq_true rfl, ⟨_, rfl, rfl⟩⟩ ?_
  refine mm_blk (M := mm_m_X10_forged) 3 (S' := ((if v3 = (0 : Int32) then 13 else 11), [.ref 0, .int x1, .int v3, .null, .null], [], σ1)) (P := []) rfl trivial ?_
  by_cases b4 : v3 = (0 : Int32)
  · rw [if_pos b4]
    have h := h.1 b4
    obtain ⟨c5, h⟩ := h
    refine mm_blk (M := mm_m_X10_forged) 7 (S' := (23, [.ref 0, .int x1, .int v3, .ref (32 + 2 * x1.toNatClampNeg), .int (0 : Int32)], [], σ1)) (P := [mm_cl 0 = 10, vp_in x1 8, 31 = 1 ∨ 31 = 31 ∨ 31 = 65 ∨ 31 = 74]) rfl ⟨rfl, c5, (by decide), trivial⟩ ?_
    exact h
  · rw [if_neg b4]
    have h := h.2 b4
    refine mm_blk (M := mm_m_X10_forged) 1 (S' := (12, [.ref 0, .int x1, .int v3, .null, .null], [.int v3], σ1)) (P := []) rfl trivial ?_
    subst h
    exact mm_rt_ ⟨_, _, _, rfl, ⟨_, _, rfl, rfl, rfl, rfl⟩⟩
theorem sg_X10_forged_23 (σ : mm_Sg) (x1 : Int32) (x2 : Int32) (q3 : Nat) (x4 : Int32) (R : Option Value × mm_Sg) (h : ((mm_cl q3 = 8) ∧ (((σ q3 4) ≤ x4 → (R = (some (.int (-4 : Int32)), σ))) ∧ (¬ ((σ q3 4) ≤ x4) → (∃ (v5 : Int32) (σ3 : mm_Sg), mm_Ev mm_m_X1_has [.ref 10, .int x4] σ (some (.int v5)) σ3 ∧ (((v5 = (0 : Int32) → (R = (some (.int x4), σ3))) ∧ (¬ (v5 = (0 : Int32)) → ((vp_in x4 (mm_len 14)) ∧ ∃ (v10 : Int32) (σ8 : mm_Sg), mm_Ev mm_m_X8_at [.ref q3, .int x4] σ3 (some (.int v10)) σ8 ∧ ((((σ3 14 x4.toNatClampNeg) = v10 → mm_Go mm_m_X10_forged (23, [.ref 0, .int x1, .int x2, .ref q3, .int (x4 + (1 : Int32))], [], σ8) R) ∧ (¬ ((σ3 14 x4.toNatClampNeg) = v10) → (R = (some (.int x4), σ8)))))))))))))) : mm_Go mm_m_X10_forged (23, [.ref 0, .int x1, .int x2, .ref q3, .int x4], [], σ) R := by
  obtain ⟨c1, h⟩ := h
  refine mm_blk (M := mm_m_X10_forged) 4 (S' := ((if (σ q3 4) ≤ x4 then 72 else 32), [.ref 0, .int x1, .int x2, .ref q3, .int x4], [], σ)) (P := [mm_cl q3 = 8]) rfl ⟨c1, trivial⟩ ?_
  by_cases b2 : (σ q3 4) ≤ x4
  · rw [if_pos b2]
    have h := h.1 b2
    refine mm_blk (M := mm_m_X10_forged) 1 (S' := (74, [.ref 0, .int x1, .int x2, .ref q3, .int x4], [.int (-4 : Int32)], σ)) (P := []) rfl trivial ?_
    subst h
    exact mm_rt_ ⟨_, _, _, rfl, ⟨_, _, rfl, rfl, rfl, rfl⟩⟩
  · rw [if_neg b2]
    have h := h.2 b2
    refine mm_blk (M := mm_m_X10_forged) 3 (S' := (38, [.ref 0, .int x1, .int x2, .ref q3, .int x4], [.int x4, .ref 10], σ)) (P := [mm_cl 0 = 10]) rfl ⟨rfl, trivial⟩ ?_
    obtain ⟨v5, σ3, e4, h⟩ := h
    refine mm_cl_ (rest := []) e4 ⟨_, _, _, rfl, rfl, mm_tb_X1_has, rfl, rfl, Nat.le_of_ble_eq_true rfl, Nat.le_of_ble_eq_true rfl, ⟨_, rfl, rfl⟩⟩ ?_
    refine mm_blk (M := mm_m_X10_forged) 1 (S' := ((if v5 = (0 : Int32) then 63 else 44), [.ref 0, .int x1, .int x2, .ref q3, .int x4], [], σ3)) (P := []) rfl trivial ?_
    by_cases b6 : v5 = (0 : Int32)
    · rw [if_pos b6]
      have h := h.1 b6
      refine mm_blk (M := mm_m_X10_forged) 1 (S' := (65, [.ref 0, .int x1, .int x2, .ref q3, .int x4], [.int x4], σ3)) (P := []) rfl trivial ?_
      subst h
      exact mm_rt_ ⟨_, _, _, rfl, ⟨_, _, rfl, rfl, rfl, rfl⟩⟩
    · rw [if_neg b6]
      have h := h.2 b6
      obtain ⟨c7, h⟩ := h
      refine mm_blk (M := mm_m_X10_forged) 7 (S' := (57, [.ref 0, .int x1, .int x2, .ref q3, .int x4], [.int x4, .ref q3, .int (σ3 14 x4.toNatClampNeg)], σ3)) (P := [mm_cl 0 = 10, mm_cl 10 = 1, vp_in x4 (mm_len 14)]) rfl ⟨rfl, rfl, c7, trivial⟩ ?_
      obtain ⟨v10, σ8, e9, h⟩ := h
      refine mm_cl_ (rest := [.int (σ3 14 x4.toNatClampNeg)]) e9 ⟨_, _, _, rfl, rfl, mm_tb_X8_at, rfl, rfl, Nat.le_of_ble_eq_true rfl, Nat.le_of_ble_eq_true rfl, ⟨_, rfl, c1⟩⟩ ?_
      refine mm_blk (M := mm_m_X10_forged) 1 (S' := ((if (σ3 14 x4.toNatClampNeg) = v10 then 66 else 63), [.ref 0, .int x1, .int x2, .ref q3, .int x4], [], σ8)) (P := []) rfl trivial ?_
      by_cases b11 : (σ3 14 x4.toNatClampNeg) = v10
      · rw [if_pos b11]
        have h := h.1 b11
        refine mm_blk (M := mm_m_X10_forged) 2 (S' := (23, [.ref 0, .int x1, .int x2, .ref q3, .int (x4 + (1 : Int32))], [], σ8)) (P := []) rfl trivial ?_
        exact h
      · rw [if_neg b11]
        have h := h.2 b11
        refine mm_blk (M := mm_m_X10_forged) 1 (S' := (65, [.ref 0, .int x1, .int x2, .ref q3, .int x4], [.int x4], σ8)) (P := []) rfl trivial ?_
        subst h
        exact mm_rt_ ⟨_, _, _, rfl, ⟨_, _, rfl, rfl, rfl, rfl⟩⟩
theorem sg_X10_judge_0 (σ : mm_Sg) (x1 : Int32) (R : Option Value × mm_Sg) (h : (∃ (v3 : Int32) (σ1 : mm_Sg), mm_Ev mm_m_X10_refusalUnless [.ref 0, .int (2 : Int32), .int x1] σ (some (.int v3)) σ1 ∧ (((v3 = (0 : Int32) → ((vp_in x1 8) ∧ ∃ (σ6 : mm_Sg), mm_Ev mm_m_X1_becomeLike [.ref 24, .ref 10] σ1 none σ6 ∧ mm_Go mm_m_X10_judge (34, [.ref 0, .int x1, .int v3, .ref (32 + 2 * x1.toNatClampNeg), .int (0 : Int32)], [], σ6) R)) ∧ (¬ (v3 = (0 : Int32)) → (R = (some (.int v3), σ1))))))) : mm_Go mm_m_X10_judge (0, [.ref 0, .int x1, .null, .null, .null], [], σ) R := by
  refine mm_blk (M := mm_m_X10_judge) 3 (S' := (3, [.ref 0, .int x1, .null, .null, .null], [.int x1, .int (2 : Int32), .ref 0], σ)) (P := []) rfl trivial ?_
  obtain ⟨v3, σ1, e2, h⟩ := h
  refine mm_cl_ (rest := []) e2 ⟨_, _, _, rfl, rfl, mm_tb_X10_refusalUnless, rfl, rfl, Nat.le_of_ble_eq_true rfl, Nat.le_of_ble_eq_true rfl, ⟨_, rfl, rfl⟩⟩ ?_
  refine mm_blk (M := mm_m_X10_judge) 3 (S' := ((if v3 = (0 : Int32) then 13 else 11), [.ref 0, .int x1, .int v3, .null, .null], [], σ1)) (P := []) rfl trivial ?_
  by_cases b4 : v3 = (0 : Int32)
  · rw [if_pos b4]
    have h := h.1 b4
    obtain ⟨c5, h⟩ := h
    refine mm_blk (M := mm_m_X10_judge) 9 (S' := (28, [.ref 0, .int x1, .int v3, .ref (32 + 2 * x1.toNatClampNeg), .null], [.ref 10, .ref 24], σ1)) (P := [mm_cl 0 = 10, vp_in x1 8, 31 = 1 ∨ 31 = 31 ∨ 31 = 65 ∨ 31 = 74, mm_cl 0 = 10, mm_cl 0 = 10]) rfl ⟨rfl, c5, (by decide), rfl, rfl, trivial⟩ ?_
    obtain ⟨σ6, e7, h⟩ := h
    refine mm_cl_ (rest := []) e7 ⟨_, _, _, rfl, rfl, mm_tb_X1_becomeLike, rfl, rfl, Nat.le_of_ble_eq_true rfl, Nat.le_of_ble_eq_true rfl, ⟨_, rfl, rfl⟩⟩ ?_
    refine mm_blk (M := mm_m_X10_judge) 2 (S' := (34, [.ref 0, .int x1, .int v3, .ref (32 + 2 * x1.toNatClampNeg), .int (0 : Int32)], [], σ6)) (P := []) rfl trivial ?_
    exact h
  · rw [if_neg b4]
    have h := h.2 b4
    refine mm_blk (M := mm_m_X10_judge) 1 (S' := (12, [.ref 0, .int x1, .int v3, .null, .null], [.int v3], σ1)) (P := []) rfl trivial ?_
    subst h
    exact mm_rt_ ⟨_, _, _, rfl, ⟨_, _, rfl, rfl, rfl, rfl⟩⟩
theorem sg_X10_judge_34 (σ : mm_Sg) (x1 : Int32) (x2 : Int32) (q3 : Nat) (x4 : Int32) (R : Option Value × mm_Sg) (h : ((mm_cl q3 = 8) ∧ (((σ q3 4) ≤ x4 → (R = (some (.int (-4 : Int32)), σ))) ∧ (¬ ((σ q3 4) ≤ x4) → (∃ (v5 : Int32) (σ3 : mm_Sg), mm_Ev mm_m_X8_allows [.ref q3, .int x4, .int (σ 24 8)] σ (some (.int v5)) σ3 ∧ (((¬ v5 = (0 : Int32) → (∃ (σ7 : mm_Sg), mm_Ev mm_m_X1_goDays [.ref 24, .int (1 : Int32)] σ3 none σ7 ∧ mm_Go mm_m_X10_judge (34, [.ref 0, .int x1, .int x2, .ref q3, .int (x4 + (1 : Int32))], [], σ7) R)) ∧ (¬ (¬ v5 = (0 : Int32)) → (R = (some (.int x4), σ3)))))))))) : mm_Go mm_m_X10_judge (34, [.ref 0, .int x1, .int x2, .ref q3, .int x4], [], σ) R := by
  obtain ⟨c1, h⟩ := h
  refine mm_blk (M := mm_m_X10_judge) 4 (S' := ((if (σ q3 4) ≤ x4 then 76 else 43), [.ref 0, .int x1, .int x2, .ref q3, .int x4], [], σ)) (P := [mm_cl q3 = 8]) rfl ⟨c1, trivial⟩ ?_
  by_cases b2 : (σ q3 4) ≤ x4
  · rw [if_pos b2]
    have h := h.1 b2
    refine mm_blk (M := mm_m_X10_judge) 1 (S' := (78, [.ref 0, .int x1, .int x2, .ref q3, .int x4], [.int (-4 : Int32)], σ)) (P := []) rfl trivial ?_
    subst h
    exact mm_rt_ ⟨_, _, _, rfl, ⟨_, _, rfl, rfl, rfl, rfl⟩⟩
  · rw [if_neg b2]
    have h := h.2 b2
    refine mm_blk (M := mm_m_X10_judge) 5 (S' := (53, [.ref 0, .int x1, .int x2, .ref q3, .int x4], [.int (σ 24 8), .int x4, .ref q3], σ)) (P := [mm_cl 0 = 10, mm_cl 24 = 1]) rfl ⟨rfl, rfl, trivial⟩ ?_
    obtain ⟨v5, σ3, e4, h⟩ := h
    refine mm_cl_ (rest := []) e4 ⟨_, _, _, rfl, rfl, mm_tb_X8_allows, rfl, rfl, Nat.le_of_ble_eq_true rfl, Nat.le_of_ble_eq_true rfl, ⟨_, rfl, c1⟩⟩ ?_
    refine mm_blk (M := mm_m_X10_judge) 1 (S' := ((if ¬ v5 = (0 : Int32) then 62 else 59), [.ref 0, .int x1, .int x2, .ref q3, .int x4], [], σ3)) (P := []) rfl trivial ?_
    by_cases b6 : ¬ v5 = (0 : Int32)
    · rw [if_pos b6]
      have h := h.1 b6
      refine mm_blk (M := mm_m_X10_judge) 3 (S' := (67, [.ref 0, .int x1, .int x2, .ref q3, .int x4], [.int (1 : Int32), .ref 24], σ3)) (P := [mm_cl 0 = 10]) rfl ⟨rfl, trivial⟩ ?_
      obtain ⟨σ7, e8, h⟩ := h
      refine mm_cl_ (rest := []) e8 ⟨_, _, _, rfl, rfl, mm_tb_X1_goDays, rfl, rfl, Nat.le_of_ble_eq_true rfl, Nat.le_of_ble_eq_true rfl, ⟨_, rfl, rfl⟩⟩ ?_
      refine mm_blk (M := mm_m_X10_judge) 2 (S' := (34, [.ref 0, .int x1, .int x2, .ref q3, .int (x4 + (1 : Int32))], [], σ7)) (P := []) rfl trivial ?_
      exact h
    · rw [if_neg b6]
      have h := h.2 b6
      refine mm_blk (M := mm_m_X10_judge) 1 (S' := (61, [.ref 0, .int x1, .int x2, .ref q3, .int x4], [.int x4], σ3)) (P := []) rfl trivial ?_
      subst h
      exact mm_rt_ ⟨_, _, _, rfl, ⟨_, _, rfl, rfl, rfl, rfl⟩⟩
theorem sg_X10_years_0 (σ : mm_Sg) (x1 : Int32) (x2 : Int32) (x3 : Int32) (R : Option Value × mm_Sg) (h : (∃ (v3 : Int32) (σ1 : mm_Sg), mm_Ev mm_m_X10_isBetween [.int x1, .int (1 : Int32), .int (20 : Int32)] σ (some (.int v3)) σ1 ∧ (((v3 = (0 : Int32) → (R = (some (.int (-1 : Int32)), σ1))) ∧ (¬ (v3 = (0 : Int32)) → (∃ (v7 : Int32) (σ5 : mm_Sg), mm_Ev mm_m_X10_isBetween [.int x3, .int (0 : Int32), .int (1 : Int32)] σ1 (some (.int v7)) σ5 ∧ (((¬ v7 = (0 : Int32) → mm_Go mm_m_X10_years (33, [.ref 0, .int x1, .int x2, .int x3, .int x2, .int (0 : Int32), .int (0 : Int32), .int (0 : Int32), .null], [], σ5) R) ∧ (¬ (¬ v7 = (0 : Int32)) → (R = (some (.int (-1 : Int32)), σ5))))))))))) : mm_Go mm_m_X10_years (0, [.ref 0, .int x1, .int x2, .int x3, .null, .null, .null, .null, .null], [], σ) R := by
  refine mm_blk (M := mm_m_X10_years) 3 (S' := (4, [.ref 0, .int x1, .int x2, .int x3, .null, .null, .null, .null, .null], [.int (20 : Int32), .int (1 : Int32), .int x1], σ)) (P := []) rfl trivial ?_
  obtain ⟨v3, σ1, e2, h⟩ := h
  refine mm_cl_ (rest := []) e2 ⟨_, _, _, rfl, rfl, mm_tb_X10_isBetween, rfl, rfl, Nat.le_of_ble_eq_true rfl, Nat.le_of_ble_eq_true rfl, trivial⟩ ?_
  refine mm_blk (M := mm_m_X10_years) 1 (S' := ((if v3 = (0 : Int32) then 19 else 10), [.ref 0, .int x1, .int x2, .int x3, .null, .null, .null, .null, .null], [], σ1)) (P := []) rfl trivial ?_
  by_cases b4 : v3 = (0 : Int32)
  · rw [if_pos b4]
    have h := h.1 b4
    refine mm_blk (M := mm_m_X10_years) 1 (S' := (20, [.ref 0, .int x1, .int x2, .int x3, .null, .null, .null, .null, .null], [.int (-1 : Int32)], σ1)) (P := []) rfl trivial ?_
    subst h
    exact mm_rt_ ⟨_, _, _, rfl, ⟨_, _, rfl, rfl, rfl, rfl⟩⟩
  · rw [if_neg b4]
    have h := h.2 b4
    refine mm_blk (M := mm_m_X10_years) 3 (S' := (13, [.ref 0, .int x1, .int x2, .int x3, .null, .null, .null, .null, .null], [.int (1 : Int32), .int (0 : Int32), .int x3], σ1)) (P := []) rfl trivial ?_
    obtain ⟨v7, σ5, e6, h⟩ := h
    refine mm_cl_ (rest := []) e6 ⟨_, _, _, rfl, rfl, mm_tb_X10_isBetween, rfl, rfl, Nat.le_of_ble_eq_true rfl, Nat.le_of_ble_eq_true rfl, trivial⟩ ?_
    refine mm_blk (M := mm_m_X10_years) 1 (S' := ((if ¬ v7 = (0 : Int32) then 21 else 19), [.ref 0, .int x1, .int x2, .int x3, .null, .null, .null, .null, .null], [], σ5)) (P := []) rfl trivial ?_
    by_cases b8 : ¬ v7 = (0 : Int32)
    · rw [if_pos b8]
      have h := h.1 b8
      refine mm_blk (M := mm_m_X10_years) 8 (S' := (33, [.ref 0, .int x1, .int x2, .int x3, .int x2, .int (0 : Int32), .int (0 : Int32), .int (0 : Int32), .null], [], σ5)) (P := []) rfl trivial ?_
      exact h
    · rw [if_neg b8]
      have h := h.2 b8
      refine mm_blk (M := mm_m_X10_years) 1 (S' := (20, [.ref 0, .int x1, .int x2, .int x3, .null, .null, .null, .null, .null], [.int (-1 : Int32)], σ5)) (P := []) rfl trivial ?_
      subst h
      exact mm_rt_ ⟨_, _, _, rfl, ⟨_, _, rfl, rfl, rfl, rfl⟩⟩
theorem sg_X10_years_33 (σ : mm_Sg) (x1 : Int32) (x2 : Int32) (x3 : Int32) (x4 : Int32) (x5 : Int32) (x6 : Int32) (x7 : Int32) (d8 : Value) (R : Option Value × mm_Sg) (h : (((x1 ≤ x7 → (((¬ x3 = (0 : Int32) → (R = (some (.int x6), σ))) ∧ (¬ (¬ x3 = (0 : Int32)) → (R = (some (.int x5), σ)))))) ∧ (¬ (x1 ≤ x7) → (∃ (σ3 : mm_Sg), mm_Ev mm_m_X1_becomeLike [.ref 24, .ref 10] σ none σ3 ∧ mm_Go mm_m_X10_years (53, [.ref 0, .int x1, .int x2, .int x3, .int x4, .int x5, .int x6, .int x7, .int (0 : Int32)], [], σ3) R))))) : mm_Go mm_m_X10_years (33, [.ref 0, .int x1, .int x2, .int x3, .int x4, .int x5, .int x6, .int x7, d8], [], σ) R := by
  refine mm_blk (M := mm_m_X10_years) 3 (S' := ((if x1 ≤ x7 then 136 else 39), [.ref 0, .int x1, .int x2, .int x3, .int x4, .int x5, .int x6, .int x7, d8], [], σ)) (P := []) rfl trivial ?_
  by_cases b1 : x1 ≤ x7
  · rw [if_pos b1]
    have h := h.1 b1
    refine mm_blk (M := mm_m_X10_years) 2 (S' := ((if ¬ x3 = (0 : Int32) then 145 else 140), [.ref 0, .int x1, .int x2, .int x3, .int x4, .int x5, .int x6, .int x7, d8], [], σ)) (P := []) rfl trivial ?_
    by_cases b2 : ¬ x3 = (0 : Int32)
    · rw [if_pos b2]
      have h := h.1 b2
      refine mm_blk (M := mm_m_X10_years) 1 (S' := (147, [.ref 0, .int x1, .int x2, .int x3, .int x4, .int x5, .int x6, .int x7, d8], [.int x6], σ)) (P := []) rfl trivial ?_
      subst h
      exact mm_rt_ ⟨_, _, _, rfl, ⟨_, _, rfl, rfl, rfl, rfl⟩⟩
    · rw [if_neg b2]
      have h := h.2 b2
      refine mm_blk (M := mm_m_X10_years) 2 (S' := (147, [.ref 0, .int x1, .int x2, .int x3, .int x4, .int x5, .int x6, .int x7, d8], [.int x5], σ)) (P := []) rfl trivial ?_
      subst h
      exact mm_rt_ ⟨_, _, _, rfl, ⟨_, _, rfl, rfl, rfl, rfl⟩⟩
  · rw [if_neg b1]
    have h := h.2 b1
    refine mm_blk (M := mm_m_X10_years) 4 (S' := (47, [.ref 0, .int x1, .int x2, .int x3, .int x4, .int x5, .int x6, .int x7, d8], [.ref 10, .ref 24], σ)) (P := [mm_cl 0 = 10, mm_cl 0 = 10]) rfl ⟨rfl, rfl, trivial⟩ ?_
    obtain ⟨σ3, e4, h⟩ := h
    refine mm_cl_ (rest := []) e4 ⟨_, _, _, rfl, rfl, mm_tb_X1_becomeLike, rfl, rfl, Nat.le_of_ble_eq_true rfl, Nat.le_of_ble_eq_true rfl, ⟨_, rfl, rfl⟩⟩ ?_
    refine mm_blk (M := mm_m_X10_years) 2 (S' := (53, [.ref 0, .int x1, .int x2, .int x3, .int x4, .int x5, .int x6, .int x7, .int (0 : Int32)], [], σ3)) (P := []) rfl trivial ?_
    exact h
theorem sg_X10_years_53 (σ : mm_Sg) (x1 : Int32) (x2 : Int32) (x3 : Int32) (x4 : Int32) (x5 : Int32) (x6 : Int32) (x7 : Int32) (x8 : Int32) (R : Option Value × mm_Sg) (h : ((((σ 24 6) ≤ x8 → (∃ (σ2 : mm_Sg), mm_Ev mm_m_X1_goDays [.ref 24, .int (12 : Int32)] σ none σ2 ∧ (∃ (v6 : Int32) (σ4 : mm_Sg), mm_Ev mm_m_X1_owedInAll [.ref 24] σ2 (some (.int v6)) σ4 ∧ (∃ (v9 : Int32) (σ7 : mm_Sg), mm_Ev mm_m_J6_bitCount_0f7a4 [.int (σ4 24 7)] σ4 (some (.int v9)) σ7 ∧ mm_Go mm_m_X10_years (33, [.ref 0, .int x1, .int x2, .int x3, .int x4, .int (x5 + v6), .int (x6 + v9), .int (x7 + (1 : Int32)), .int x8], [], σ7) R)))) ∧ (¬ ((σ 24 6) ≤ x8) → (∃ (v12 : Int32) (σ10 : mm_Sg), mm_Ev mm_m_X10_nextSeed [.int x4] σ (some (.int v12)) σ10 ∧ (∃ (v15 : Int32) (σ13 : mm_Sg), mm_Ev mm_m_X10_drawOf [.int v12, .int (5 : Int32)] σ10 (some (.int v15)) σ13 ∧ ((vp_in x8 (mm_len 27)) ∧ ∀ σ17 : mm_Sg, σ17 = mm_u σ13 27 x8.toNatClampNeg v15 → mm_Go mm_m_X10_years (53, [.ref 0, .int x1, .int x2, .int x3, .int v12, .int x5, .int x6, .int x7, .int (x8 + (1 : Int32))], [], σ17) R))))))) : mm_Go mm_m_X10_years (53, [.ref 0, .int x1, .int x2, .int x3, .int x4, .int x5, .int x6, .int x7, .int x8], [], σ) R := by
  refine mm_blk (M := mm_m_X10_years) 5 (S' := ((if (σ 24 6) ≤ x8 then 94 else 65), [.ref 0, .int x1, .int x2, .int x3, .int x4, .int x5, .int x6, .int x7, .int x8], [], σ)) (P := [mm_cl 0 = 10, mm_cl 24 = 1]) rfl ⟨rfl, rfl, trivial⟩ ?_
  by_cases b1 : (σ 24 6) ≤ x8
  · rw [if_pos b1]
    have h := h.1 b1
    refine mm_blk (M := mm_m_X10_years) 3 (S' := (100, [.ref 0, .int x1, .int x2, .int x3, .int x4, .int x5, .int x6, .int x7, .int x8], [.int (12 : Int32), .ref 24], σ)) (P := [mm_cl 0 = 10]) rfl ⟨rfl, trivial⟩ ?_
    obtain ⟨σ2, e3, h⟩ := h
    refine mm_cl_ (rest := []) e3 ⟨_, _, _, rfl, rfl, mm_tb_X1_goDays, rfl, rfl, Nat.le_of_ble_eq_true rfl, Nat.le_of_ble_eq_true rfl, ⟨_, rfl, rfl⟩⟩ ?_
    refine mm_blk (M := mm_m_X10_years) 3 (S' := (109, [.ref 0, .int x1, .int x2, .int x3, .int x4, .int x5, .int x6, .int x7, .int x8], [.ref 24, .int x5], σ2)) (P := [mm_cl 0 = 10]) rfl ⟨rfl, trivial⟩ ?_
    obtain ⟨v6, σ4, e5, h⟩ := h
    refine mm_cl_ (rest := [.int x5]) e5 ⟨_, _, _, rfl, rfl, mm_tb_X1_owedInAll, rfl, rfl, Nat.le_of_ble_eq_true rfl, Nat.le_of_ble_eq_true rfl, ⟨_, rfl, rfl⟩⟩ ?_
    refine mm_blk (M := mm_m_X10_years) 6 (S' := (124, [.ref 0, .int x1, .int x2, .int x3, .int x4, .int (x5 + v6), .int x6, .int x7, .int x8], [.int (σ4 24 7), .int x6], σ4)) (P := [mm_cl 0 = 10, mm_cl 24 = 1]) rfl ⟨rfl, rfl, trivial⟩ ?_
    obtain ⟨v9, σ7, e8, h⟩ := h
    refine mm_cl_ (rest := [.int x6]) e8 ⟨_, _, _, rfl, rfl, mm_tb_J6_bitCount_0f7a4, rfl, rfl, Nat.le_of_ble_eq_true rfl, Nat.le_of_ble_eq_true rfl, trivial⟩ ?_
    refine mm_blk (M := mm_m_X10_years) 4 (S' := (33, [.ref 0, .int x1, .int x2, .int x3, .int x4, .int (x5 + v6), .int (x6 + v9), .int (x7 + (1 : Int32)), .int x8], [], σ7)) (P := []) rfl trivial ?_
    exact h
  · rw [if_neg b1]
    have h := h.2 b1
    refine mm_blk (M := mm_m_X10_years) 1 (S' := (67, [.ref 0, .int x1, .int x2, .int x3, .int x4, .int x5, .int x6, .int x7, .int x8], [.int x4], σ)) (P := []) rfl trivial ?_
    obtain ⟨v12, σ10, e11, h⟩ := h
    refine mm_cl_ (rest := []) e11 ⟨_, _, _, rfl, rfl, mm_tb_X10_nextSeed, rfl, rfl, Nat.le_of_ble_eq_true rfl, Nat.le_of_ble_eq_true rfl, trivial⟩ ?_
    refine mm_blk (M := mm_m_X10_years) 7 (S' := (84, [.ref 0, .int x1, .int x2, .int x3, .int v12, .int x5, .int x6, .int x7, .int x8], [.int (5 : Int32), .int v12, .int x8, .ref 27], σ10)) (P := [mm_cl 0 = 10, mm_cl 24 = 1]) rfl ⟨rfl, rfl, trivial⟩ ?_
    obtain ⟨v15, σ13, e14, h⟩ := h
    refine mm_cl_ (rest := [.int x8, .ref 27]) e14 ⟨_, _, _, rfl, rfl, mm_tb_X10_drawOf, rfl, rfl, Nat.le_of_ble_eq_true rfl, Nat.le_of_ble_eq_true rfl, trivial⟩ ?_
    obtain ⟨c16, h⟩ := h
    refine mm_blk (M := mm_m_X10_years) 1 (S' := (88, [.ref 0, .int x1, .int x2, .int x3, .int v12, .int x5, .int x6, .int x7, .int x8], [], mm_u σ13 27 x8.toNatClampNeg v15)) (P := [vp_in x8 (mm_len 27)]) rfl ⟨c16, trivial⟩ ?_
    obtain ⟨σ17, e18⟩ : ∃ z, z = mm_u σ13 27 x8.toNatClampNeg v15 := ⟨_, rfl⟩
    rw [← e18]
    have h := h σ17 e18
    refine mm_blk (M := mm_m_X10_years) 2 (S' := (53, [.ref 0, .int x1, .int x2, .int x3, .int v12, .int x5, .int x6, .int x7, .int (x8 + (1 : Int32))], [], σ17)) (P := []) rfl trivial ?_
    exact h
theorem sg_X10_image_0 (σ : mm_Sg) (R : Option Value × mm_Sg) (h : (∃ (σ1 : mm_Sg), mm_Ev mm_m_X1_becomeLike [.ref 17, .ref 10] σ none σ1 ∧ (∀ σ3 : mm_Sg, σ3 = mm_u σ1 0 7 (1 : Int32) → (R = (some (.int (σ3 10 9)), σ3))))) : mm_Go mm_m_X10_image (0, [.ref 0], [], σ) R := by
  refine mm_blk (M := mm_m_X10_image) 4 (S' := (8, [.ref 0], [.ref 10, .ref 17], σ)) (P := [mm_cl 0 = 10, mm_cl 0 = 10]) rfl ⟨rfl, rfl, trivial⟩ ?_
  obtain ⟨σ1, e2, h⟩ := h
  refine mm_cl_ (rest := []) e2 ⟨_, _, _, rfl, rfl, mm_tb_X1_becomeLike, rfl, rfl, Nat.le_of_ble_eq_true rfl, Nat.le_of_ble_eq_true rfl, ⟨_, rfl, rfl⟩⟩ ?_
  refine mm_blk (M := mm_m_X10_image) 3 (S' := (16, [.ref 0], [], mm_u σ1 0 7 (1 : Int32))) (P := [mm_cl 0 = 10, (1 : Int32) = 0 ∨ (1 : Int32) = 1]) rfl ⟨rfl, (by decide), trivial⟩ ?_
  obtain ⟨σ3, e4⟩ : ∃ z, z = mm_u σ1 0 7 (1 : Int32) := ⟨_, rfl⟩
  rw [← e4]
  have h := h σ3 e4
  refine mm_blk (M := mm_m_X10_image) 3 (S' := (23, [.ref 0], [.int (σ3 10 9)], σ3)) (P := [mm_cl 0 = 10, mm_cl 10 = 1]) rfl ⟨rfl, rfl, trivial⟩ ?_
  subst h
  exact mm_rt_ ⟨_, _, _, rfl, ⟨_, _, rfl, rfl, rfl, rfl⟩⟩
theorem sg_X10_restore_0 (σ : mm_Sg) (R : Option Value × mm_Sg) (h : (((¬ (σ 0 7) = (0 : Int32) → (∃ (σ2 : mm_Sg), mm_Ev mm_m_X1_becomeLike [.ref 10, .ref 17] σ none σ2 ∧ (R = (some (.int (σ2 10 9)), σ2)))) ∧ (¬ (¬ (σ 0 7) = (0 : Int32)) → (R = (some (.int (-3 : Int32)), σ)))))) : mm_Go mm_m_X10_restore (0, [.ref 0], [], σ) R := by
  refine mm_blk (M := mm_m_X10_restore) 3 (S' := ((if ¬ (σ 0 7) = (0 : Int32) then 10 else 7), [.ref 0], [], σ)) (P := [mm_cl 0 = 10]) rfl ⟨rfl, trivial⟩ ?_
  by_cases b1 : ¬ (σ 0 7) = (0 : Int32)
  · rw [if_pos b1]
    have h := h.1 b1
    refine mm_blk (M := mm_m_X10_restore) 4 (S' := (18, [.ref 0], [.ref 17, .ref 10], σ)) (P := [mm_cl 0 = 10, mm_cl 0 = 10]) rfl ⟨rfl, rfl, trivial⟩ ?_
    obtain ⟨σ2, e3, h⟩ := h
    refine mm_cl_ (rest := []) e3 ⟨_, _, _, rfl, rfl, mm_tb_X1_becomeLike, rfl, rfl, Nat.le_of_ble_eq_true rfl, Nat.le_of_ble_eq_true rfl, ⟨_, rfl, rfl⟩⟩ ?_
    refine mm_blk (M := mm_m_X10_restore) 3 (S' := (28, [.ref 0], [.int (σ2 10 9)], σ2)) (P := [mm_cl 0 = 10, mm_cl 10 = 1]) rfl ⟨rfl, rfl, trivial⟩ ?_
    subst h
    exact mm_rt_ ⟨_, _, _, rfl, ⟨_, _, rfl, rfl, rfl, rfl⟩⟩
  · rw [if_neg b1]
    have h := h.2 b1
    refine mm_blk (M := mm_m_X10_restore) 1 (S' := (9, [.ref 0], [.int (-3 : Int32)], σ)) (P := []) rfl trivial ?_
    subst h
    exact mm_rt_ ⟨_, _, _, rfl, ⟨_, _, rfl, rfl, rfl, rfl⟩⟩
theorem sg_X10_count_0 (σ : mm_Sg) (x1 : Int32) (R : Option Value × mm_Sg) (h : (((x1 = nI 0 → (R = (some (.int (σ 10 6)), σ))) ∧ (¬ (x1 = nI 0) → ((x1 = nI 1 → (R = (some (.int (σ 10 9)), σ))) ∧ (¬ (x1 = nI 1) → ((x1 = nI 2 → (R = (some (.int (σ 10 8)), σ))) ∧ (¬ (x1 = nI 2) → ((x1 = nI 3 → (∃ (v7 : Int32) (σ5 : mm_Sg), mm_Ev mm_m_X1_owedInAll [.ref 10] σ (some (.int v7)) σ5 ∧ (R = (some (.int v7), σ5)))) ∧ (¬ (x1 = nI 3) → ((x1 = nI 4 → (R = (some (.int (σ 10 7)), σ))) ∧ (¬ (x1 = nI 4) → ((x1 = nI 5 → (∃ (v12 : Int32) (σ10 : mm_Sg), mm_Ev mm_m_X1_tiredInAll [.ref 10] σ (some (.int v12)) σ10 ∧ (R = (some (.int v12), σ10)))) ∧ (¬ (x1 = nI 5) → (R = (some (.int (-1 : Int32)), σ)))))))))))))))) : mm_Go mm_m_X10_count (0, [.ref 0, .int x1], [], σ) R := by
  refine mm_blk (M := mm_m_X10_count) 2 (S' := ((mm_tsw x1 88 0 [40, 48, 56, 64, 72, 80]), [.ref 0, .int x1], [], σ)) (P := []) rfl trivial ?_
  by_cases b1 : x1 = nI 0
  · rw [show mm_tsw x1 88 0 [40, 48, 56, 64, 72, 80] = 40 from mm_tsw_t b1]
    have h := h.1 b1
    refine mm_blk (M := mm_m_X10_count) 3 (S' := (47, [.ref 0, .int x1], [.int (σ 10 6)], σ)) (P := [mm_cl 0 = 10, mm_cl 10 = 1]) rfl ⟨rfl, rfl, trivial⟩ ?_
    subst h
    exact mm_rt_ ⟨_, _, _, rfl, ⟨_, _, rfl, rfl, rfl, rfl⟩⟩
  rw [show mm_tsw x1 88 0 [40, 48, 56, 64, 72, 80] = mm_tsw x1 88 1 [48, 56, 64, 72, 80] from mm_tsw_f b1]
  have h := h.2 b1
  by_cases b2 : x1 = nI 1
  · rw [show mm_tsw x1 88 1 [48, 56, 64, 72, 80] = 48 from mm_tsw_t b2]
    have h := h.1 b2
    refine mm_blk (M := mm_m_X10_count) 3 (S' := (55, [.ref 0, .int x1], [.int (σ 10 9)], σ)) (P := [mm_cl 0 = 10, mm_cl 10 = 1]) rfl ⟨rfl, rfl, trivial⟩ ?_
    subst h
    exact mm_rt_ ⟨_, _, _, rfl, ⟨_, _, rfl, rfl, rfl, rfl⟩⟩
  rw [show mm_tsw x1 88 1 [48, 56, 64, 72, 80] = mm_tsw x1 88 2 [56, 64, 72, 80] from mm_tsw_f b2]
  have h := h.2 b2
  by_cases b3 : x1 = nI 2
  · rw [show mm_tsw x1 88 2 [56, 64, 72, 80] = 56 from mm_tsw_t b3]
    have h := h.1 b3
    refine mm_blk (M := mm_m_X10_count) 3 (S' := (63, [.ref 0, .int x1], [.int (σ 10 8)], σ)) (P := [mm_cl 0 = 10, mm_cl 10 = 1]) rfl ⟨rfl, rfl, trivial⟩ ?_
    subst h
    exact mm_rt_ ⟨_, _, _, rfl, ⟨_, _, rfl, rfl, rfl, rfl⟩⟩
  rw [show mm_tsw x1 88 2 [56, 64, 72, 80] = mm_tsw x1 88 3 [64, 72, 80] from mm_tsw_f b3]
  have h := h.2 b3
  by_cases b4 : x1 = nI 3
  · rw [show mm_tsw x1 88 3 [64, 72, 80] = 64 from mm_tsw_t b4]
    have h := h.1 b4
    refine mm_blk (M := mm_m_X10_count) 2 (S' := (68, [.ref 0, .int x1], [.ref 10], σ)) (P := [mm_cl 0 = 10]) rfl ⟨rfl, trivial⟩ ?_
    obtain ⟨v7, σ5, e6, h⟩ := h
    refine mm_cl_ (rest := []) e6 ⟨_, _, _, rfl, rfl, mm_tb_X1_owedInAll, rfl, rfl, Nat.le_of_ble_eq_true rfl, Nat.le_of_ble_eq_true rfl, ⟨_, rfl, rfl⟩⟩ ?_
    subst h
    exact mm_rt_ ⟨_, _, _, rfl, ⟨_, _, rfl, rfl, rfl, rfl⟩⟩
  rw [show mm_tsw x1 88 3 [64, 72, 80] = mm_tsw x1 88 4 [72, 80] from mm_tsw_f b4]
  have h := h.2 b4
  by_cases b8 : x1 = nI 4
  · rw [show mm_tsw x1 88 4 [72, 80] = 72 from mm_tsw_t b8]
    have h := h.1 b8
    refine mm_blk (M := mm_m_X10_count) 3 (S' := (79, [.ref 0, .int x1], [.int (σ 10 7)], σ)) (P := [mm_cl 0 = 10, mm_cl 10 = 1]) rfl ⟨rfl, rfl, trivial⟩ ?_
    subst h
    exact mm_rt_ ⟨_, _, _, rfl, ⟨_, _, rfl, rfl, rfl, rfl⟩⟩
  rw [show mm_tsw x1 88 4 [72, 80] = mm_tsw x1 88 5 [80] from mm_tsw_f b8]
  have h := h.2 b8
  by_cases b9 : x1 = nI 5
  · rw [show mm_tsw x1 88 5 [80] = 80 from mm_tsw_t b9]
    have h := h.1 b9
    refine mm_blk (M := mm_m_X10_count) 2 (S' := (84, [.ref 0, .int x1], [.ref 10], σ)) (P := [mm_cl 0 = 10]) rfl ⟨rfl, trivial⟩ ?_
    obtain ⟨v12, σ10, e11, h⟩ := h
    refine mm_cl_ (rest := []) e11 ⟨_, _, _, rfl, rfl, mm_tb_X1_tiredInAll, rfl, rfl, Nat.le_of_ble_eq_true rfl, Nat.le_of_ble_eq_true rfl, ⟨_, rfl, rfl⟩⟩ ?_
    subst h
    exact mm_rt_ ⟨_, _, _, rfl, ⟨_, _, rfl, rfl, rfl, rfl⟩⟩
  rw [show mm_tsw x1 88 5 [80] = mm_tsw x1 88 6 [] from mm_tsw_f b9]
  have h := h.2 b9
  change mm_Go mm_m_X10_count (88, [.ref 0, .int x1], [], σ) R
  refine mm_blk (M := mm_m_X10_count) 1 (S' := (89, [.ref 0, .int x1], [.int (-1 : Int32)], σ)) (P := []) rfl trivial ?_
  subst h
  exact mm_rt_ ⟨_, _, _, rfl, ⟨_, _, rfl, rfl, rfl, rfl⟩⟩
theorem sg_X10_keep_0 (σ : mm_Sg) (x1 : Int32) (x2 : Int32) (x3 : Int32) (x4 : Int32) (R : Option Value × mm_Sg) (h : (∃ (v3 : Int32) (σ1 : mm_Sg), mm_Ev mm_m_X10_isShelf [.int x1] σ (some (.int v3)) σ1 ∧ (((¬ v3 = (0 : Int32) → (((¬ x2 = (0 : Int32) → (((¬ x2 = (1 : Int32) → (R = (some (.int (-1 : Int32)), σ1))) ∧ (¬ (¬ x2 = (1 : Int32)) → (∃ (v9 : Int32) (σ7 : mm_Sg), mm_Ev mm_m_X10_isBetween [.int x3, .int (0 : Int32), .int (7 : Int32)] σ1 (some (.int v9)) σ7 ∧ (((v9 = (0 : Int32) → (R = (some (.int (-1 : Int32)), σ7))) ∧ (¬ (v9 = (0 : Int32)) → (∃ (v13 : Int32) (σ11 : mm_Sg), mm_Ev mm_m_X10_isBetween [.int x4, .int (0 : Int32), .int (9 : Int32)] σ7 (some (.int v13)) σ11 ∧ (((¬ v13 = (0 : Int32) → ((vp_in x1 8) ∧ (mm_cl (32 + 2 * x1.toNatClampNeg) = 8) ∧ ∀ σ17 : mm_Sg, σ17 = mm_u σ11 (32 + 2 * x1.toNatClampNeg) 0 (1 : Int32) → (∀ σ19 : mm_Sg, σ19 = mm_u σ17 (32 + 2 * x1.toNatClampNeg) 1 x3 → (∀ σ21 : mm_Sg, σ21 = mm_u σ19 (32 + 2 * x1.toNatClampNeg) 2 x4 → (R = (some (.int (0 : Int32)), σ21)))))) ∧ (¬ (¬ v13 = (0 : Int32)) → (R = (some (.int (-1 : Int32)), σ11)))))))))))))) ∧ (¬ (¬ x2 = (0 : Int32)) → ((vp_in x1 8) ∧ (mm_cl (32 + 2 * x1.toNatClampNeg) = 8) ∧ ∀ σ25 : mm_Sg, σ25 = mm_u σ1 (32 + 2 * x1.toNatClampNeg) 0 (0 : Int32) → (R = (some (.int (0 : Int32)), σ25))))))) ∧ (¬ (¬ v3 = (0 : Int32)) → (R = (some (.int (-1 : Int32)), σ1))))))) : mm_Go mm_m_X10_keep (0, [.ref 0, .int x1, .int x2, .int x3, .int x4], [], σ) R := by
  refine mm_blk (M := mm_m_X10_keep) 1 (S' := (1, [.ref 0, .int x1, .int x2, .int x3, .int x4], [.int x1], σ)) (P := []) rfl trivial ?_
  obtain ⟨v3, σ1, e2, h⟩ := h
  refine mm_cl_ (rest := []) e2 ⟨_, _, _, rfl, rfl, mm_tb_X10_isShelf, rfl, rfl, Nat.le_of_ble_eq_true rfl, Nat.le_of_ble_eq_true rfl, trivial⟩ ?_
  refine mm_blk (M := mm_m_X10_keep) 1 (S' := ((if ¬ v3 = (0 : Int32) then 9 else 7), [.ref 0, .int x1, .int x2, .int x3, .int x4], [], σ1)) (P := []) rfl trivial ?_
  by_cases b4 : ¬ v3 = (0 : Int32)
  · rw [if_pos b4]
    have h := h.1 b4
    refine mm_blk (M := mm_m_X10_keep) 2 (S' := ((if ¬ x2 = (0 : Int32) then 25 else 13), [.ref 0, .int x1, .int x2, .int x3, .int x4], [], σ1)) (P := []) rfl trivial ?_
    by_cases b5 : ¬ x2 = (0 : Int32)
    · rw [if_pos b5]
      have h := h.1 b5
      refine mm_blk (M := mm_m_X10_keep) 3 (S' := ((if ¬ x2 = (1 : Int32) then 51 else 30), [.ref 0, .int x1, .int x2, .int x3, .int x4], [], σ1)) (P := []) rfl trivial ?_
      by_cases b6 : ¬ x2 = (1 : Int32)
      · rw [if_pos b6]
        have h := h.1 b6
        refine mm_blk (M := mm_m_X10_keep) 1 (S' := (52, [.ref 0, .int x1, .int x2, .int x3, .int x4], [.int (-1 : Int32)], σ1)) (P := []) rfl trivial ?_
        subst h
        exact mm_rt_ ⟨_, _, _, rfl, ⟨_, _, rfl, rfl, rfl, rfl⟩⟩
      · rw [if_neg b6]
        have h := h.2 b6
        refine mm_blk (M := mm_m_X10_keep) 3 (S' := (34, [.ref 0, .int x1, .int x2, .int x3, .int x4], [.int (7 : Int32), .int (0 : Int32), .int x3], σ1)) (P := []) rfl trivial ?_
        obtain ⟨v9, σ7, e8, h⟩ := h
        refine mm_cl_ (rest := []) e8 ⟨_, _, _, rfl, rfl, mm_tb_X10_isBetween, rfl, rfl, Nat.le_of_ble_eq_true rfl, Nat.le_of_ble_eq_true rfl, trivial⟩ ?_
        refine mm_blk (M := mm_m_X10_keep) 1 (S' := ((if v9 = (0 : Int32) then 51 else 40), [.ref 0, .int x1, .int x2, .int x3, .int x4], [], σ7)) (P := []) rfl trivial ?_
        by_cases b10 : v9 = (0 : Int32)
        · rw [if_pos b10]
          have h := h.1 b10
          refine mm_blk (M := mm_m_X10_keep) 1 (S' := (52, [.ref 0, .int x1, .int x2, .int x3, .int x4], [.int (-1 : Int32)], σ7)) (P := []) rfl trivial ?_
          subst h
          exact mm_rt_ ⟨_, _, _, rfl, ⟨_, _, rfl, rfl, rfl, rfl⟩⟩
        · rw [if_neg b10]
          have h := h.2 b10
          refine mm_blk (M := mm_m_X10_keep) 3 (S' := (45, [.ref 0, .int x1, .int x2, .int x3, .int x4], [.int (9 : Int32), .int (0 : Int32), .int x4], σ7)) (P := []) rfl trivial ?_
          obtain ⟨v13, σ11, e12, h⟩ := h
          refine mm_cl_ (rest := []) e12 ⟨_, _, _, rfl, rfl, mm_tb_X10_isBetween, rfl, rfl, Nat.le_of_ble_eq_true rfl, Nat.le_of_ble_eq_true rfl, trivial⟩ ?_
          refine mm_blk (M := mm_m_X10_keep) 1 (S' := ((if ¬ v13 = (0 : Int32) then 53 else 51), [.ref 0, .int x1, .int x2, .int x3, .int x4], [], σ11)) (P := []) rfl trivial ?_
          by_cases b14 : ¬ v13 = (0 : Int32)
          · rw [if_pos b14]
            have h := h.1 b14
            obtain ⟨c15, h⟩ := h
            obtain ⟨c16, h⟩ := h
            refine mm_blk (M := mm_m_X10_keep) 6 (S' := (63, [.ref 0, .int x1, .int x2, .int x3, .int x4], [], mm_u σ11 (32 + 2 * x1.toNatClampNeg) 0 (1 : Int32))) (P := [mm_cl 0 = 10, vp_in x1 8, 31 = 1 ∨ 31 = 31 ∨ 31 = 65 ∨ 31 = 74, mm_cl (32 + 2 * x1.toNatClampNeg) = 8]) rfl ⟨rfl, c15, (by decide), c16, trivial⟩ ?_
            obtain ⟨σ17, e18⟩ : ∃ z, z = mm_u σ11 (32 + 2 * x1.toNatClampNeg) 0 (1 : Int32) := ⟨_, rfl⟩
            rw [← e18]
            have h := h σ17 e18
            refine mm_blk (M := mm_m_X10_keep) 6 (S' := (73, [.ref 0, .int x1, .int x2, .int x3, .int x4], [], mm_u σ17 (32 + 2 * x1.toNatClampNeg) 1 x3)) (P := [mm_cl 0 = 10, vp_in x1 8, 31 = 1 ∨ 31 = 31 ∨ 31 = 65 ∨ 31 = 74, mm_cl (32 + 2 * x1.toNatClampNeg) = 8]) rfl ⟨rfl, c15, (by decide), c16, trivial⟩ ?_
            obtain ⟨σ19, e20⟩ : ∃ z, z = mm_u σ17 (32 + 2 * x1.toNatClampNeg) 1 x3 := ⟨_, rfl⟩
            rw [← e20]
            have h := h σ19 e20
            refine mm_blk (M := mm_m_X10_keep) 6 (S' := (84, [.ref 0, .int x1, .int x2, .int x3, .int x4], [], mm_u σ19 (32 + 2 * x1.toNatClampNeg) 2 x4)) (P := [mm_cl 0 = 10, vp_in x1 8, 31 = 1 ∨ 31 = 31 ∨ 31 = 65 ∨ 31 = 74, mm_cl (32 + 2 * x1.toNatClampNeg) = 8]) rfl ⟨rfl, c15, (by decide), c16, trivial⟩ ?_
            obtain ⟨σ21, e22⟩ : ∃ z, z = mm_u σ19 (32 + 2 * x1.toNatClampNeg) 2 x4 := ⟨_, rfl⟩
            rw [← e22]
            have h := h σ21 e22
            refine mm_blk (M := mm_m_X10_keep) 1 (S' := (85, [.ref 0, .int x1, .int x2, .int x3, .int x4], [.int (0 : Int32)], σ21)) (P := []) rfl trivial ?_
            subst h
            exact mm_rt_ ⟨_, _, _, rfl, ⟨_, _, rfl, rfl, rfl, rfl⟩⟩
          · rw [if_neg b14]
            have h := h.2 b14
            refine mm_blk (M := mm_m_X10_keep) 1 (S' := (52, [.ref 0, .int x1, .int x2, .int x3, .int x4], [.int (-1 : Int32)], σ11)) (P := []) rfl trivial ?_
            subst h
            exact mm_rt_ ⟨_, _, _, rfl, ⟨_, _, rfl, rfl, rfl, rfl⟩⟩
    · rw [if_neg b5]
      have h := h.2 b5
      obtain ⟨c23, h⟩ := h
      obtain ⟨c24, h⟩ := h
      refine mm_blk (M := mm_m_X10_keep) 6 (S' := (23, [.ref 0, .int x1, .int x2, .int x3, .int x4], [], mm_u σ1 (32 + 2 * x1.toNatClampNeg) 0 (0 : Int32))) (P := [mm_cl 0 = 10, vp_in x1 8, 31 = 1 ∨ 31 = 31 ∨ 31 = 65 ∨ 31 = 74, mm_cl (32 + 2 * x1.toNatClampNeg) = 8]) rfl ⟨rfl, c23, (by decide), c24, trivial⟩ ?_
      obtain ⟨σ25, e26⟩ : ∃ z, z = mm_u σ1 (32 + 2 * x1.toNatClampNeg) 0 (0 : Int32) := ⟨_, rfl⟩
      rw [← e26]
      have h := h σ25 e26
      refine mm_blk (M := mm_m_X10_keep) 1 (S' := (24, [.ref 0, .int x1, .int x2, .int x3, .int x4], [.int (0 : Int32)], σ25)) (P := []) rfl trivial ?_
      subst h
      exact mm_rt_ ⟨_, _, _, rfl, ⟨_, _, rfl, rfl, rfl, rfl⟩⟩
  · rw [if_neg b4]
    have h := h.2 b4
    refine mm_blk (M := mm_m_X10_keep) 1 (S' := (8, [.ref 0, .int x1, .int x2, .int x3, .int x4], [.int (-1 : Int32)], σ1)) (P := []) rfl trivial ?_
    subst h
    exact mm_rt_ ⟨_, _, _, rfl, ⟨_, _, rfl, rfl, rfl, rfl⟩⟩
theorem sg_X10_row_0 (σ : mm_Sg) (x1 : Int32) (x2 : Int32) (x3 : Int32) (R : Option Value × mm_Sg) (h : (∃ (v3 : Int32) (σ1 : mm_Sg), mm_Ev mm_m_X10_isShelf [.int x1] σ (some (.int v3)) σ1 ∧ (((v3 = (0 : Int32) → (R = (some (.int (-1 : Int32)), σ1))) ∧ (¬ (v3 = (0 : Int32)) → (∃ (v7 : Int32) (σ5 : mm_Sg), mm_Ev mm_m_X10_isBetween [.int x2, .int (0 : Int32), .int (2 : Int32)] σ1 (some (.int v7)) σ5 ∧ (((v7 = (0 : Int32) → (R = (some (.int (-1 : Int32)), σ5))) ∧ (¬ (v7 = (0 : Int32)) → (((x3 ≤ (100 : Int32) → ((((0 : Int32) ≤ x3 → ((vp_in x1 8) ∧ (mm_cl (32 + 2 * x1.toNatClampNeg) = 8) ∧ ∃ (σ12 : mm_Sg), mm_Ev mm_m_X8_becomeRow [.ref (32 + 2 * x1.toNatClampNeg), .int x2, .int x3] σ5 none σ12 ∧ (R = (some (.int (0 : Int32)), σ12)))) ∧ (¬ ((0 : Int32) ≤ x3) → (R = (some (.int (-14 : Int32)), σ5)))))) ∧ (¬ (x3 ≤ (100 : Int32)) → (R = (some (.int (-1 : Int32)), σ5)))))))))))))) : mm_Go mm_m_X10_row (0, [.ref 0, .int x1, .int x2, .int x3], [], σ) R := by
  refine mm_blk (M := mm_m_X10_row) 1 (S' := (1, [.ref 0, .int x1, .int x2, .int x3], [.int x1], σ)) (P := []) rfl trivial ?_
  obtain ⟨v3, σ1, e2, h⟩ := h
  refine mm_cl_ (rest := []) e2 ⟨_, _, _, rfl, rfl, mm_tb_X10_isShelf, rfl, rfl, Nat.le_of_ble_eq_true rfl, Nat.le_of_ble_eq_true rfl, trivial⟩ ?_
  refine mm_blk (M := mm_m_X10_row) 1 (S' := ((if v3 = (0 : Int32) then 22 else 7), [.ref 0, .int x1, .int x2, .int x3], [], σ1)) (P := []) rfl trivial ?_
  by_cases b4 : v3 = (0 : Int32)
  · rw [if_pos b4]
    have h := h.1 b4
    refine mm_blk (M := mm_m_X10_row) 1 (S' := (23, [.ref 0, .int x1, .int x2, .int x3], [.int (-1 : Int32)], σ1)) (P := []) rfl trivial ?_
    subst h
    exact mm_rt_ ⟨_, _, _, rfl, ⟨_, _, rfl, rfl, rfl, rfl⟩⟩
  · rw [if_neg b4]
    have h := h.2 b4
    refine mm_blk (M := mm_m_X10_row) 3 (S' := (10, [.ref 0, .int x1, .int x2, .int x3], [.int (2 : Int32), .int (0 : Int32), .int x2], σ1)) (P := []) rfl trivial ?_
    obtain ⟨v7, σ5, e6, h⟩ := h
    refine mm_cl_ (rest := []) e6 ⟨_, _, _, rfl, rfl, mm_tb_X10_isBetween, rfl, rfl, Nat.le_of_ble_eq_true rfl, Nat.le_of_ble_eq_true rfl, trivial⟩ ?_
    refine mm_blk (M := mm_m_X10_row) 1 (S' := ((if v7 = (0 : Int32) then 22 else 16), [.ref 0, .int x1, .int x2, .int x3], [], σ5)) (P := []) rfl trivial ?_
    by_cases b8 : v7 = (0 : Int32)
    · rw [if_pos b8]
      have h := h.1 b8
      refine mm_blk (M := mm_m_X10_row) 1 (S' := (23, [.ref 0, .int x1, .int x2, .int x3], [.int (-1 : Int32)], σ5)) (P := []) rfl trivial ?_
      subst h
      exact mm_rt_ ⟨_, _, _, rfl, ⟨_, _, rfl, rfl, rfl, rfl⟩⟩
    · rw [if_neg b8]
      have h := h.2 b8
      refine mm_blk (M := mm_m_X10_row) 3 (S' := ((if x3 ≤ (100 : Int32) then 24 else 22), [.ref 0, .int x1, .int x2, .int x3], [], σ5)) (P := []) rfl trivial ?_
      by_cases b9 : x3 ≤ (100 : Int32)
      · rw [if_pos b9]
        have h := h.1 b9
        refine mm_blk (M := mm_m_X10_row) 2 (S' := ((if (0 : Int32) ≤ x3 then 31 else 28), [.ref 0, .int x1, .int x2, .int x3], [], σ5)) (P := []) rfl trivial ?_
        by_cases b10 : (0 : Int32) ≤ x3
        · rw [if_pos b10]
          have h := h.1 b10
          obtain ⟨c11, h⟩ := h
          refine mm_blk (M := mm_m_X10_row) 6 (S' := (39, [.ref 0, .int x1, .int x2, .int x3], [.int x3, .int x2, .ref (32 + 2 * x1.toNatClampNeg)], σ5)) (P := [mm_cl 0 = 10, vp_in x1 8, 31 = 1 ∨ 31 = 31 ∨ 31 = 65 ∨ 31 = 74]) rfl ⟨rfl, c11, (by decide), trivial⟩ ?_
          obtain ⟨c14, h⟩ := h
          obtain ⟨σ12, e13, h⟩ := h
          refine mm_cl_ (rest := []) e13 ⟨_, _, _, rfl, rfl, mm_tb_X8_becomeRow, rfl, rfl, Nat.le_of_ble_eq_true rfl, Nat.le_of_ble_eq_true rfl, ⟨_, rfl, c14⟩⟩ ?_
          refine mm_blk (M := mm_m_X10_row) 1 (S' := (43, [.ref 0, .int x1, .int x2, .int x3], [.int (0 : Int32)], σ12)) (P := []) rfl trivial ?_
          subst h
          exact mm_rt_ ⟨_, _, _, rfl, ⟨_, _, rfl, rfl, rfl, rfl⟩⟩
        · rw [if_neg b10]
          have h := h.2 b10
          refine mm_blk (M := mm_m_X10_row) 1 (S' := (30, [.ref 0, .int x1, .int x2, .int x3], [.int (-14 : Int32)], σ5)) (P := []) rfl trivial ?_
          subst h
          exact mm_rt_ ⟨_, _, _, rfl, ⟨_, _, rfl, rfl, rfl, rfl⟩⟩
      · rw [if_neg b9]
        have h := h.2 b9
        refine mm_blk (M := mm_m_X10_row) 1 (S' := (23, [.ref 0, .int x1, .int x2, .int x3], [.int (-1 : Int32)], σ5)) (P := []) rfl trivial ?_
        subst h
        exact mm_rt_ ⟨_, _, _, rfl, ⟨_, _, rfl, rfl, rfl, rfl⟩⟩
theorem sg_X10_put_0 (σ : mm_Sg) (x1 : Int32) (x2 : Int32) (x3 : Int32) (R : Option Value × mm_Sg) (h : (∃ (v3 : Int32) (σ1 : mm_Sg), mm_Ev mm_m_X10_refusalUnless [.ref 0, .int (2 : Int32), .int x1] σ (some (.int v3)) σ1 ∧ (((v3 = (0 : Int32) → ((vp_in x1 8) ∧ (mm_cl (32 + 2 * x1.toNatClampNeg) = 8) ∧ ∃ (v8 : Int32) (σ6 : mm_Sg), mm_Ev mm_m_X8_hasPlace [.ref (32 + 2 * x1.toNatClampNeg), .int x2] σ1 (some (.int v8)) σ6 ∧ (((¬ v8 = (0 : Int32) → (∃ (σ11 : mm_Sg), mm_Ev mm_m_X8_setAt [.ref (32 + 2 * x1.toNatClampNeg), .int x2, .int x3] σ6 none σ11 ∧ (R = (some (.int (0 : Int32)), σ11)))) ∧ (¬ (¬ v8 = (0 : Int32)) → (R = (some (.int (-13 : Int32)), σ6))))))) ∧ (¬ (v3 = (0 : Int32)) → (R = (some (.int v3), σ1))))))) : mm_Go mm_m_X10_put (0, [.ref 0, .int x1, .int x2, .int x3, .null], [], σ) R := by
  refine mm_blk (M := mm_m_X10_put) 3 (S' := (3, [.ref 0, .int x1, .int x2, .int x3, .null], [.int x1, .int (2 : Int32), .ref 0], σ)) (P := []) rfl trivial ?_
  obtain ⟨v3, σ1, e2, h⟩ := h
  refine mm_cl_ (rest := []) e2 ⟨_, _, _, rfl, rfl, mm_tb_X10_refusalUnless, rfl, rfl, Nat.le_of_ble_eq_true rfl, Nat.le_of_ble_eq_true rfl, ⟨_, rfl, rfl⟩⟩ ?_
  refine mm_blk (M := mm_m_X10_put) 3 (S' := ((if v3 = (0 : Int32) then 16 else 13), [.ref 0, .int x1, .int x2, .int x3, .int v3], [], σ1)) (P := []) rfl trivial ?_
  by_cases b4 : v3 = (0 : Int32)
  · rw [if_pos b4]
    have h := h.1 b4
    obtain ⟨c5, h⟩ := h
    refine mm_blk (M := mm_m_X10_put) 5 (S' := (23, [.ref 0, .int x1, .int x2, .int x3, .int v3], [.int x2, .ref (32 + 2 * x1.toNatClampNeg)], σ1)) (P := [mm_cl 0 = 10, vp_in x1 8, 31 = 1 ∨ 31 = 31 ∨ 31 = 65 ∨ 31 = 74]) rfl ⟨rfl, c5, (by decide), trivial⟩ ?_
    obtain ⟨c9, h⟩ := h
    obtain ⟨v8, σ6, e7, h⟩ := h
    refine mm_cl_ (rest := []) e7 ⟨_, _, _, rfl, rfl, mm_tb_X8_hasPlace, rfl, rfl, Nat.le_of_ble_eq_true rfl, Nat.le_of_ble_eq_true rfl, ⟨_, rfl, c9⟩⟩ ?_
    refine mm_blk (M := mm_m_X10_put) 1 (S' := ((if ¬ v8 = (0 : Int32) then 32 else 29), [.ref 0, .int x1, .int x2, .int x3, .int v3], [], σ6)) (P := []) rfl trivial ?_
    by_cases b10 : ¬ v8 = (0 : Int32)
    · rw [if_pos b10]
      have h := h.1 b10
      refine mm_blk (M := mm_m_X10_put) 6 (S' := (40, [.ref 0, .int x1, .int x2, .int x3, .int v3], [.int x3, .int x2, .ref (32 + 2 * x1.toNatClampNeg)], σ6)) (P := [mm_cl 0 = 10, vp_in x1 8, 31 = 1 ∨ 31 = 31 ∨ 31 = 65 ∨ 31 = 74]) rfl ⟨rfl, c5, (by decide), trivial⟩ ?_
      obtain ⟨σ11, e12, h⟩ := h
      refine mm_cl_ (rest := []) e12 ⟨_, _, _, rfl, rfl, mm_tb_X8_setAt, rfl, rfl, Nat.le_of_ble_eq_true rfl, Nat.le_of_ble_eq_true rfl, ⟨_, rfl, c9⟩⟩ ?_
      refine mm_blk (M := mm_m_X10_put) 1 (S' := (44, [.ref 0, .int x1, .int x2, .int x3, .int v3], [.int (0 : Int32)], σ11)) (P := []) rfl trivial ?_
      subst h
      exact mm_rt_ ⟨_, _, _, rfl, ⟨_, _, rfl, rfl, rfl, rfl⟩⟩
    · rw [if_neg b10]
      have h := h.2 b10
      refine mm_blk (M := mm_m_X10_put) 1 (S' := (31, [.ref 0, .int x1, .int x2, .int x3, .int v3], [.int (-13 : Int32)], σ6)) (P := []) rfl trivial ?_
      subst h
      exact mm_rt_ ⟨_, _, _, rfl, ⟨_, _, rfl, rfl, rfl, rfl⟩⟩
  · rw [if_neg b4]
    have h := h.2 b4
    refine mm_blk (M := mm_m_X10_put) 1 (S' := (15, [.ref 0, .int x1, .int x2, .int x3, .int v3], [.int v3], σ1)) (P := []) rfl trivial ?_
    subst h
    exact mm_rt_ ⟨_, _, _, rfl, ⟨_, _, rfl, rfl, rfl, rfl⟩⟩
theorem sg_X10_copy_0 (σ : mm_Sg) (x1 : Int32) (x2 : Int32) (x3 : Int32) (x4 : Int32) (x5 : Int32) (R : Option Value × mm_Sg) (h : (∃ (v3 : Int32) (σ1 : mm_Sg), mm_Ev mm_m_X10_isShelf [.int x1] σ (some (.int v3)) σ1 ∧ (((v3 = (0 : Int32) → (R = (some (.int (-1 : Int32)), σ1))) ∧ (¬ (v3 = (0 : Int32)) → (∃ (v7 : Int32) (σ5 : mm_Sg), mm_Ev mm_m_X10_isShelf [.int x3] σ1 (some (.int v7)) σ5 ∧ (((¬ v7 = (0 : Int32) → ((vp_in x1 8) ∧ (vp_in x3 8) ∧ (mm_cl (32 + 2 * x1.toNatClampNeg) = 8) ∧ (((σ5 (32 + 2 * x1.toNatClampNeg) 0) = (0 : Int32) → (R = (some (.int (-11 : Int32)), σ5))) ∧ (¬ ((σ5 (32 + 2 * x1.toNatClampNeg) 0) = (0 : Int32)) → ((mm_cl (32 + 2 * x3.toNatClampNeg) = 8) ∧ ((¬ (σ5 (32 + 2 * x3.toNatClampNeg) 0) = (0 : Int32) → (((¬ (σ5 (32 + 2 * x1.toNatClampNeg) 0) = (2 : Int32) → (R = (some (.int (-12 : Int32)), σ5))) ∧ (¬ (¬ (σ5 (32 + 2 * x1.toNatClampNeg) 0) = (2 : Int32)) → (((¬ (σ5 (32 + 2 * x3.toNatClampNeg) 0) = (2 : Int32) → (R = (some (.int (-12 : Int32)), σ5))) ∧ (¬ (¬ (σ5 (32 + 2 * x3.toNatClampNeg) 0) = (2 : Int32)) → ((((σ5 (32 + 2 * x1.toNatClampNeg) 3) = (σ5 (32 + 2 * x3.toNatClampNeg) 3) → (∃ (v20 : Int32) (σ18 : mm_Sg), mm_Ev mm_m_X8_hasPlaces [.ref (32 + 2 * x1.toNatClampNeg), .int x2, .int x5] σ5 (some (.int v20)) σ18 ∧ (((v20 = (0 : Int32) → (R = (some (.int (-13 : Int32)), σ18))) ∧ (¬ (v20 = (0 : Int32)) → (∃ (v24 : Int32) (σ22 : mm_Sg), mm_Ev mm_m_X8_hasPlaces [.ref (32 + 2 * x3.toNatClampNeg), .int x4, .int x5] σ18 (some (.int v24)) σ22 ∧ (((¬ v24 = (0 : Int32) → ((¬ x2 < 0) ∧ (¬ x4 < 0) ∧ (¬ x5 < 0) ∧ (x2.toNatClampNeg + x5.toNatClampNeg ≤ mm_len (32 + 2 * x1.toNatClampNeg + 1)) ∧ (x4.toNatClampNeg + x5.toNatClampNeg ≤ mm_len (32 + 2 * x3.toNatClampNeg + 1)) ∧ (0 < mm_len (32 + 2 * x1.toNatClampNeg + 1)) ∧ (0 < mm_len (32 + 2 * x3.toNatClampNeg + 1)) ∧ ∀ σ33 : mm_Sg, σ33 = mm_cp σ22 (32 + 2 * x1.toNatClampNeg + 1) x2.toNatClampNeg (32 + 2 * x3.toNatClampNeg + 1) x4.toNatClampNeg x5.toNatClampNeg → (R = (some (.int x5), σ33)))) ∧ (¬ (¬ v24 = (0 : Int32)) → (R = (some (.int (-13 : Int32)), σ22))))))))))) ∧ (¬ ((σ5 (32 + 2 * x1.toNatClampNeg) 3) = (σ5 (32 + 2 * x3.toNatClampNeg) 3)) → (R = (some (.int (-12 : Int32)), σ5)))))))))))) ∧ (¬ (¬ (σ5 (32 + 2 * x3.toNatClampNeg) 0) = (0 : Int32)) → (R = (some (.int (-11 : Int32)), σ5))))))))) ∧ (¬ (¬ v7 = (0 : Int32)) → (R = (some (.int (-1 : Int32)), σ5))))))))))) : mm_Go mm_m_X10_copy (0, [.ref 0, .int x1, .int x2, .int x3, .int x4, .int x5, .null, .null], [], σ) R := by
  refine mm_blk (M := mm_m_X10_copy) 1 (S' := (1, [.ref 0, .int x1, .int x2, .int x3, .int x4, .int x5, .null, .null], [.int x1], σ)) (P := []) rfl trivial ?_
  obtain ⟨v3, σ1, e2, h⟩ := h
  refine mm_cl_ (rest := []) e2 ⟨_, _, _, rfl, rfl, mm_tb_X10_isShelf, rfl, rfl, Nat.le_of_ble_eq_true rfl, Nat.le_of_ble_eq_true rfl, trivial⟩ ?_
  refine mm_blk (M := mm_m_X10_copy) 1 (S' := ((if v3 = (0 : Int32) then 14 else 7), [.ref 0, .int x1, .int x2, .int x3, .int x4, .int x5, .null, .null], [], σ1)) (P := []) rfl trivial ?_
  by_cases b4 : v3 = (0 : Int32)
  · rw [if_pos b4]
    have h := h.1 b4
    refine mm_blk (M := mm_m_X10_copy) 1 (S' := (15, [.ref 0, .int x1, .int x2, .int x3, .int x4, .int x5, .null, .null], [.int (-1 : Int32)], σ1)) (P := []) rfl trivial ?_
    subst h
    exact mm_rt_ ⟨_, _, _, rfl, ⟨_, _, rfl, rfl, rfl, rfl⟩⟩
  · rw [if_neg b4]
    have h := h.2 b4
    refine mm_blk (M := mm_m_X10_copy) 1 (S' := (8, [.ref 0, .int x1, .int x2, .int x3, .int x4, .int x5, .null, .null], [.int x3], σ1)) (P := []) rfl trivial ?_
    obtain ⟨v7, σ5, e6, h⟩ := h
    refine mm_cl_ (rest := []) e6 ⟨_, _, _, rfl, rfl, mm_tb_X10_isShelf, rfl, rfl, Nat.le_of_ble_eq_true rfl, Nat.le_of_ble_eq_true rfl, trivial⟩ ?_
    refine mm_blk (M := mm_m_X10_copy) 1 (S' := ((if ¬ v7 = (0 : Int32) then 16 else 14), [.ref 0, .int x1, .int x2, .int x3, .int x4, .int x5, .null, .null], [], σ5)) (P := []) rfl trivial ?_
    by_cases b8 : ¬ v7 = (0 : Int32)
    · rw [if_pos b8]
      have h := h.1 b8
      obtain ⟨c9, h⟩ := h
      obtain ⟨c10, h⟩ := h
      obtain ⟨c11, h⟩ := h
      refine mm_blk (M := mm_m_X10_copy) 13 (S' := ((if (σ5 (32 + 2 * x1.toNatClampNeg) 0) = (0 : Int32) then 48 else 40), [.ref 0, .int x1, .int x2, .int x3, .int x4, .int x5, .ref (32 + 2 * x1.toNatClampNeg), .ref (32 + 2 * x3.toNatClampNeg)], [], σ5)) (P := [mm_cl 0 = 10, vp_in x1 8, 31 = 1 ∨ 31 = 31 ∨ 31 = 65 ∨ 31 = 74, mm_cl 0 = 10, vp_in x3 8, 31 = 1 ∨ 31 = 31 ∨ 31 = 65 ∨ 31 = 74, mm_cl (32 + 2 * x1.toNatClampNeg) = 8]) rfl ⟨rfl, c9, (by decide), rfl, c10, (by decide), c11, trivial⟩ ?_
      by_cases b12 : (σ5 (32 + 2 * x1.toNatClampNeg) 0) = (0 : Int32)
      · rw [if_pos b12]
        have h := h.1 b12
        refine mm_blk (M := mm_m_X10_copy) 1 (S' := (50, [.ref 0, .int x1, .int x2, .int x3, .int x4, .int x5, .ref (32 + 2 * x1.toNatClampNeg), .ref (32 + 2 * x3.toNatClampNeg)], [.int (-11 : Int32)], σ5)) (P := []) rfl trivial ?_
        subst h
        exact mm_rt_ ⟨_, _, _, rfl, ⟨_, _, rfl, rfl, rfl, rfl⟩⟩
      · rw [if_neg b12]
        have h := h.2 b12
        obtain ⟨c13, h⟩ := h
        refine mm_blk (M := mm_m_X10_copy) 3 (S' := ((if ¬ (σ5 (32 + 2 * x3.toNatClampNeg) 0) = (0 : Int32) then 51 else 48), [.ref 0, .int x1, .int x2, .int x3, .int x4, .int x5, .ref (32 + 2 * x1.toNatClampNeg), .ref (32 + 2 * x3.toNatClampNeg)], [], σ5)) (P := [mm_cl (32 + 2 * x3.toNatClampNeg) = 8]) rfl ⟨c13, trivial⟩ ?_
        by_cases b14 : ¬ (σ5 (32 + 2 * x3.toNatClampNeg) 0) = (0 : Int32)
        · rw [if_pos b14]
          have h := h.1 b14
          refine mm_blk (M := mm_m_X10_copy) 4 (S' := ((if ¬ (σ5 (32 + 2 * x1.toNatClampNeg) 0) = (2 : Int32) then 82 else 60), [.ref 0, .int x1, .int x2, .int x3, .int x4, .int x5, .ref (32 + 2 * x1.toNatClampNeg), .ref (32 + 2 * x3.toNatClampNeg)], [], σ5)) (P := [mm_cl (32 + 2 * x1.toNatClampNeg) = 8]) rfl ⟨c11, trivial⟩ ?_
          by_cases b15 : ¬ (σ5 (32 + 2 * x1.toNatClampNeg) 0) = (2 : Int32)
          · rw [if_pos b15]
            have h := h.1 b15
            refine mm_blk (M := mm_m_X10_copy) 1 (S' := (84, [.ref 0, .int x1, .int x2, .int x3, .int x4, .int x5, .ref (32 + 2 * x1.toNatClampNeg), .ref (32 + 2 * x3.toNatClampNeg)], [.int (-12 : Int32)], σ5)) (P := []) rfl trivial ?_
            subst h
            exact mm_rt_ ⟨_, _, _, rfl, ⟨_, _, rfl, rfl, rfl, rfl⟩⟩
          · rw [if_neg b15]
            have h := h.2 b15
            refine mm_blk (M := mm_m_X10_copy) 4 (S' := ((if ¬ (σ5 (32 + 2 * x3.toNatClampNeg) 0) = (2 : Int32) then 82 else 69), [.ref 0, .int x1, .int x2, .int x3, .int x4, .int x5, .ref (32 + 2 * x1.toNatClampNeg), .ref (32 + 2 * x3.toNatClampNeg)], [], σ5)) (P := [mm_cl (32 + 2 * x3.toNatClampNeg) = 8]) rfl ⟨c13, trivial⟩ ?_
            by_cases b16 : ¬ (σ5 (32 + 2 * x3.toNatClampNeg) 0) = (2 : Int32)
            · rw [if_pos b16]
              have h := h.1 b16
              refine mm_blk (M := mm_m_X10_copy) 1 (S' := (84, [.ref 0, .int x1, .int x2, .int x3, .int x4, .int x5, .ref (32 + 2 * x1.toNatClampNeg), .ref (32 + 2 * x3.toNatClampNeg)], [.int (-12 : Int32)], σ5)) (P := []) rfl trivial ?_
              subst h
              exact mm_rt_ ⟨_, _, _, rfl, ⟨_, _, rfl, rfl, rfl, rfl⟩⟩
            · rw [if_neg b16]
              have h := h.2 b16
              refine mm_blk (M := mm_m_X10_copy) 5 (S' := ((if (σ5 (32 + 2 * x1.toNatClampNeg) 3) = (σ5 (32 + 2 * x3.toNatClampNeg) 3) then 85 else 82), [.ref 0, .int x1, .int x2, .int x3, .int x4, .int x5, .ref (32 + 2 * x1.toNatClampNeg), .ref (32 + 2 * x3.toNatClampNeg)], [], σ5)) (P := [mm_cl (32 + 2 * x1.toNatClampNeg) = 8, mm_cl (32 + 2 * x3.toNatClampNeg) = 8]) rfl ⟨c11, c13, trivial⟩ ?_
              by_cases b17 : (σ5 (32 + 2 * x1.toNatClampNeg) 3) = (σ5 (32 + 2 * x3.toNatClampNeg) 3)
              · rw [if_pos b17]
                have h := h.1 b17
                refine mm_blk (M := mm_m_X10_copy) 3 (S' := (90, [.ref 0, .int x1, .int x2, .int x3, .int x4, .int x5, .ref (32 + 2 * x1.toNatClampNeg), .ref (32 + 2 * x3.toNatClampNeg)], [.int x5, .int x2, .ref (32 + 2 * x1.toNatClampNeg)], σ5)) (P := []) rfl trivial ?_
                obtain ⟨v20, σ18, e19, h⟩ := h
                refine mm_cl_ (rest := []) e19 ⟨_, _, _, rfl, rfl, mm_tb_X8_hasPlaces, rfl, rfl, Nat.le_of_ble_eq_true rfl, Nat.le_of_ble_eq_true rfl, ⟨_, rfl, c11⟩⟩ ?_
                refine mm_blk (M := mm_m_X10_copy) 1 (S' := ((if v20 = (0 : Int32) then 108 else 96), [.ref 0, .int x1, .int x2, .int x3, .int x4, .int x5, .ref (32 + 2 * x1.toNatClampNeg), .ref (32 + 2 * x3.toNatClampNeg)], [], σ18)) (P := []) rfl trivial ?_
                by_cases b21 : v20 = (0 : Int32)
                · rw [if_pos b21]
                  have h := h.1 b21
                  refine mm_blk (M := mm_m_X10_copy) 1 (S' := (110, [.ref 0, .int x1, .int x2, .int x3, .int x4, .int x5, .ref (32 + 2 * x1.toNatClampNeg), .ref (32 + 2 * x3.toNatClampNeg)], [.int (-13 : Int32)], σ18)) (P := []) rfl trivial ?_
                  subst h
                  exact mm_rt_ ⟨_, _, _, rfl, ⟨_, _, rfl, rfl, rfl, rfl⟩⟩
                · rw [if_neg b21]
                  have h := h.2 b21
                  refine mm_blk (M := mm_m_X10_copy) 3 (S' := (102, [.ref 0, .int x1, .int x2, .int x3, .int x4, .int x5, .ref (32 + 2 * x1.toNatClampNeg), .ref (32 + 2 * x3.toNatClampNeg)], [.int x5, .int x4, .ref (32 + 2 * x3.toNatClampNeg)], σ18)) (P := []) rfl trivial ?_
                  obtain ⟨v24, σ22, e23, h⟩ := h
                  refine mm_cl_ (rest := []) e23 ⟨_, _, _, rfl, rfl, mm_tb_X8_hasPlaces, rfl, rfl, Nat.le_of_ble_eq_true rfl, Nat.le_of_ble_eq_true rfl, ⟨_, rfl, c13⟩⟩ ?_
                  refine mm_blk (M := mm_m_X10_copy) 1 (S' := ((if ¬ v24 = (0 : Int32) then 111 else 108), [.ref 0, .int x1, .int x2, .int x3, .int x4, .int x5, .ref (32 + 2 * x1.toNatClampNeg), .ref (32 + 2 * x3.toNatClampNeg)], [], σ22)) (P := []) rfl trivial ?_
                  by_cases b25 : ¬ v24 = (0 : Int32)
                  · rw [if_pos b25]
                    have h := h.1 b25
                    obtain ⟨c26, h⟩ := h
                    obtain ⟨c27, h⟩ := h
                    obtain ⟨c28, h⟩ := h
                    obtain ⟨c29, h⟩ := h
                    obtain ⟨c30, h⟩ := h
                    obtain ⟨c31, h⟩ := h
                    obtain ⟨c32, h⟩ := h
                    refine mm_blk (M := mm_m_X10_copy) 8 (S' := (129, [.ref 0, .int x1, .int x2, .int x3, .int x4, .int x5, .ref (32 + 2 * x1.toNatClampNeg), .ref (32 + 2 * x3.toNatClampNeg)], [], mm_cp σ22 (32 + 2 * x1.toNatClampNeg + 1) x2.toNatClampNeg (32 + 2 * x3.toNatClampNeg + 1) x4.toNatClampNeg x5.toNatClampNeg)) (P := [mm_cl (32 + 2 * x1.toNatClampNeg) = 8, mm_cl (32 + 2 * x3.toNatClampNeg) = 8, ¬ x2 < 0, ¬ x4 < 0, ¬ x5 < 0, x2.toNatClampNeg + x5.toNatClampNeg ≤ mm_len (32 + 2 * x1.toNatClampNeg + 1), x4.toNatClampNeg + x5.toNatClampNeg ≤ mm_len (32 + 2 * x3.toNatClampNeg + 1), 0 < mm_len (32 + 2 * x1.toNatClampNeg + 1), 0 < mm_len (32 + 2 * x3.toNatClampNeg + 1)]) rfl ⟨c11, c13, c26, c27, c28, c29, c30, c31, c32, trivial⟩ ?_
                    obtain ⟨σ33, e34⟩ : ∃ z, z = mm_cp σ22 (32 + 2 * x1.toNatClampNeg + 1) x2.toNatClampNeg (32 + 2 * x3.toNatClampNeg + 1) x4.toNatClampNeg x5.toNatClampNeg := ⟨_, rfl⟩
                    rw [← e34]
                    have h := h σ33 e34
                    refine mm_blk (M := mm_m_X10_copy) 1 (S' := (131, [.ref 0, .int x1, .int x2, .int x3, .int x4, .int x5, .ref (32 + 2 * x1.toNatClampNeg), .ref (32 + 2 * x3.toNatClampNeg)], [.int x5], σ33)) (P := []) rfl trivial ?_
                    subst h
                    exact mm_rt_ ⟨_, _, _, rfl, ⟨_, _, rfl, rfl, rfl, rfl⟩⟩
                  · rw [if_neg b25]
                    have h := h.2 b25
                    refine mm_blk (M := mm_m_X10_copy) 1 (S' := (110, [.ref 0, .int x1, .int x2, .int x3, .int x4, .int x5, .ref (32 + 2 * x1.toNatClampNeg), .ref (32 + 2 * x3.toNatClampNeg)], [.int (-13 : Int32)], σ22)) (P := []) rfl trivial ?_
                    subst h
                    exact mm_rt_ ⟨_, _, _, rfl, ⟨_, _, rfl, rfl, rfl, rfl⟩⟩
              · rw [if_neg b17]
                have h := h.2 b17
                refine mm_blk (M := mm_m_X10_copy) 1 (S' := (84, [.ref 0, .int x1, .int x2, .int x3, .int x4, .int x5, .ref (32 + 2 * x1.toNatClampNeg), .ref (32 + 2 * x3.toNatClampNeg)], [.int (-12 : Int32)], σ5)) (P := []) rfl trivial ?_
                subst h
                exact mm_rt_ ⟨_, _, _, rfl, ⟨_, _, rfl, rfl, rfl, rfl⟩⟩
        · rw [if_neg b14]
          have h := h.2 b14
          refine mm_blk (M := mm_m_X10_copy) 1 (S' := (50, [.ref 0, .int x1, .int x2, .int x3, .int x4, .int x5, .ref (32 + 2 * x1.toNatClampNeg), .ref (32 + 2 * x3.toNatClampNeg)], [.int (-11 : Int32)], σ5)) (P := []) rfl trivial ?_
          subst h
          exact mm_rt_ ⟨_, _, _, rfl, ⟨_, _, rfl, rfl, rfl, rfl⟩⟩
    · rw [if_neg b8]
      have h := h.2 b8
      refine mm_blk (M := mm_m_X10_copy) 1 (S' := (15, [.ref 0, .int x1, .int x2, .int x3, .int x4, .int x5, .null, .null], [.int (-1 : Int32)], σ5)) (P := []) rfl trivial ?_
      subst h
      exact mm_rt_ ⟨_, _, _, rfl, ⟨_, _, rfl, rfl, rfl, rfl⟩⟩
theorem sg_X10_cost_0 (σ : mm_Sg) (x1 : Int32) (R : Option Value × mm_Sg) (h : (∃ (v3 : Int32) (σ1 : mm_Sg), mm_Ev mm_m_X10_refusalUnless [.ref 0, .int (1 : Int32), .int x1] σ (some (.int v3)) σ1 ∧ (((v3 = (0 : Int32) → ((vp_in x1 8) ∧ (mm_cl (32 + 2 * x1.toNatClampNeg) = 8) ∧ ∃ (q9 : Nat) (σ7 : mm_Sg), mm_Ev mm_m_X1_kindNumbered [.ref 10, .int (σ1 (32 + 2 * x1.toNatClampNeg) 1)] σ1 (some (.ref q9)) σ7 ∧ (∃ (v12 : Int32) (σ10 : mm_Sg), mm_Dv 3 [.ref q9, .int (σ7 (32 + 2 * x1.toNatClampNeg) 2)] σ7 (some (.int v12)) σ10 ∧ (R = (some (.int v12), σ10))))) ∧ (¬ (v3 = (0 : Int32)) → (R = (some (.int v3), σ1))))))) : mm_Go mm_m_X10_cost (0, [.ref 0, .int x1, .null], [], σ) R := by
  refine mm_blk (M := mm_m_X10_cost) 3 (S' := (3, [.ref 0, .int x1, .null], [.int x1, .int (1 : Int32), .ref 0], σ)) (P := []) rfl trivial ?_
  obtain ⟨v3, σ1, e2, h⟩ := h
  refine mm_cl_ (rest := []) e2 ⟨_, _, _, rfl, rfl, mm_tb_X10_refusalUnless, rfl, rfl, Nat.le_of_ble_eq_true rfl, Nat.le_of_ble_eq_true rfl, ⟨_, rfl, rfl⟩⟩ ?_
  refine mm_blk (M := mm_m_X10_cost) 3 (S' := ((if v3 = (0 : Int32) then 13 else 11), [.ref 0, .int x1, .int v3], [], σ1)) (P := []) rfl trivial ?_
  by_cases b4 : v3 = (0 : Int32)
  · rw [if_pos b4]
    have h := h.1 b4
    obtain ⟨c5, h⟩ := h
    obtain ⟨c6, h⟩ := h
    refine mm_blk (M := mm_m_X10_cost) 7 (S' := (26, [.ref 0, .int x1, .int v3], [.int (σ1 (32 + 2 * x1.toNatClampNeg) 1), .ref 10], σ1)) (P := [mm_cl 0 = 10, mm_cl 0 = 10, vp_in x1 8, 31 = 1 ∨ 31 = 31 ∨ 31 = 65 ∨ 31 = 74, mm_cl (32 + 2 * x1.toNatClampNeg) = 8]) rfl ⟨rfl, rfl, c5, (by decide), c6, trivial⟩ ?_
    obtain ⟨q9, σ7, e8, h⟩ := h
    refine mm_cl_ (rest := []) e8 ⟨_, _, _, rfl, rfl, mm_tb_X1_kindNumbered, rfl, rfl, Nat.le_of_ble_eq_true rfl, Nat.le_of_ble_eq_true rfl, ⟨_, rfl, rfl⟩⟩ ?_
    refine mm_blk (M := mm_m_X10_cost) 5 (S' := (38, [.ref 0, .int x1, .int v3], [.int (σ7 (32 + 2 * x1.toNatClampNeg) 2), .ref q9], σ7)) (P := [mm_cl 0 = 10, vp_in x1 8, 31 = 1 ∨ 31 = 31 ∨ 31 = 65 ∨ 31 = 74, mm_cl (32 + 2 * x1.toNatClampNeg) = 8]) rfl ⟨rfl, c5, (by decide), c6, trivial⟩ ?_
    obtain ⟨v12, σ10, ⟨M13, dq, dr, de, d1, d2, d3, e11⟩, h⟩ := h
    cases de
    refine mm_cl_ (rest := []) e11 ⟨_, _, _, rfl, rfl, d1, rfl, rfl, Nat.le_of_ble_eq_true rfl, d3, ⟨_, rfl, d2⟩⟩ ?_
    subst h
    exact mm_rt_ ⟨_, _, _, rfl, ⟨_, _, rfl, rfl, rfl, rfl⟩⟩
  · rw [if_neg b4]
    have h := h.2 b4
    refine mm_blk (M := mm_m_X10_cost) 1 (S' := (12, [.ref 0, .int x1, .int v3], [.int v3], σ1)) (P := []) rfl trivial ?_
    subst h
    exact mm_rt_ ⟨_, _, _, rfl, ⟨_, _, rfl, rfl, rfl, rfl⟩⟩
theorem sg_X10_isBetween_0 (σ : mm_Sg) (x0 : Int32) (x1 : Int32) (x2 : Int32) (R : Option Value × mm_Sg) (h : (((x0 < x1 → (R = (some (.int (0 : Int32)), σ))) ∧ (¬ (x0 < x1) → (((x2 < x0 → (R = (some (.int (0 : Int32)), σ))) ∧ (¬ (x2 < x0) → (R = (some (.int (1 : Int32)), σ))))))))) : mm_Go mm_m_X10_isBetween (0, [.int x0, .int x1, .int x2], [], σ) R := by
  refine mm_blk (M := mm_m_X10_isBetween) 3 (S' := ((if x0 < x1 then 14 else 5), [.int x0, .int x1, .int x2], [], σ)) (P := []) rfl trivial ?_
  by_cases b1 : x0 < x1
  · rw [if_pos b1]
    have h := h.1 b1
    refine mm_blk (M := mm_m_X10_isBetween) 1 (S' := (15, [.int x0, .int x1, .int x2], [.int (0 : Int32)], σ)) (P := []) rfl trivial ?_
    subst h
    exact mm_rt_ ⟨_, _, _, rfl, ⟨_, _, rfl, rfl, rfl, rfl⟩⟩
  · rw [if_neg b1]
    have h := h.2 b1
    refine mm_blk (M := mm_m_X10_isBetween) 3 (S' := ((if x2 < x0 then 14 else 10), [.int x0, .int x1, .int x2], [], σ)) (P := []) rfl trivial ?_
    by_cases b2 : x2 < x0
    · rw [if_pos b2]
      have h := h.1 b2
      refine mm_blk (M := mm_m_X10_isBetween) 1 (S' := (15, [.int x0, .int x1, .int x2], [.int (0 : Int32)], σ)) (P := []) rfl trivial ?_
      subst h
      exact mm_rt_ ⟨_, _, _, rfl, ⟨_, _, rfl, rfl, rfl, rfl⟩⟩
    · rw [if_neg b2]
      have h := h.2 b2
      refine mm_blk (M := mm_m_X10_isBetween) 2 (S' := (15, [.int x0, .int x1, .int x2], [.int (1 : Int32)], σ)) (P := []) rfl trivial ?_
      subst h
      exact mm_rt_ ⟨_, _, _, rfl, ⟨_, _, rfl, rfl, rfl, rfl⟩⟩
theorem sg_X10_isWaker_0 (σ : mm_Sg) (x0 : Int32) (R : Option Value × mm_Sg) (h : (((x0 < (0 : Int32) → (R = (some (.int (0 : Int32)), σ))) ∧ (¬ (x0 < (0 : Int32)) → ((((5 : Int32) ≤ x0 → (R = (some (.int (0 : Int32)), σ))) ∧ (¬ ((5 : Int32) ≤ x0) → (R = (some (.int (1 : Int32)), σ))))))))) : mm_Go mm_m_X10_isWaker (0, [.int x0], [], σ) R := by
  refine mm_blk (M := mm_m_X10_isWaker) 2 (S' := ((if x0 < (0 : Int32) then 13 else 4), [.int x0], [], σ)) (P := []) rfl trivial ?_
  by_cases b1 : x0 < (0 : Int32)
  · rw [if_pos b1]
    have h := h.1 b1
    refine mm_blk (M := mm_m_X10_isWaker) 1 (S' := (14, [.int x0], [.int (0 : Int32)], σ)) (P := []) rfl trivial ?_
    subst h
    exact mm_rt_ ⟨_, _, _, rfl, ⟨_, _, rfl, rfl, rfl, rfl⟩⟩
  · rw [if_neg b1]
    have h := h.2 b1
    refine mm_blk (M := mm_m_X10_isWaker) 3 (S' := ((if (5 : Int32) ≤ x0 then 13 else 9), [.int x0], [], σ)) (P := []) rfl trivial ?_
    by_cases b2 : (5 : Int32) ≤ x0
    · rw [if_pos b2]
      have h := h.1 b2
      refine mm_blk (M := mm_m_X10_isWaker) 1 (S' := (14, [.int x0], [.int (0 : Int32)], σ)) (P := []) rfl trivial ?_
      subst h
      exact mm_rt_ ⟨_, _, _, rfl, ⟨_, _, rfl, rfl, rfl, rfl⟩⟩
    · rw [if_neg b2]
      have h := h.2 b2
      refine mm_blk (M := mm_m_X10_isWaker) 2 (S' := (14, [.int x0], [.int (1 : Int32)], σ)) (P := []) rfl trivial ?_
      subst h
      exact mm_rt_ ⟨_, _, _, rfl, ⟨_, _, rfl, rfl, rfl, rfl⟩⟩
theorem sg_X10_isWakerOrNobody_0 (σ : mm_Sg) (x0 : Int32) (R : Option Value × mm_Sg) (h : (∃ (v3 : Int32) (σ1 : mm_Sg), mm_Ev mm_m_X10_isWaker [.int x0] σ (some (.int v3)) σ1 ∧ (((¬ v3 = (0 : Int32) → (R = (some (.int (1 : Int32)), σ1))) ∧ (¬ (¬ v3 = (0 : Int32)) → (((¬ x0 = (9 : Int32) → (R = (some (.int (0 : Int32)), σ1))) ∧ (¬ (¬ x0 = (9 : Int32)) → (R = (some (.int (1 : Int32)), σ1)))))))))) : mm_Go mm_m_X10_isWakerOrNobody (0, [.int x0], [], σ) R := by
  refine mm_blk (M := mm_m_X10_isWakerOrNobody) 1 (S' := (1, [.int x0], [.int x0], σ)) (P := []) rfl trivial ?_
  obtain ⟨v3, σ1, e2, h⟩ := h
  refine mm_cl_ (rest := []) e2 ⟨_, _, _, rfl, rfl, mm_tb_X10_isWaker, rfl, rfl, Nat.le_of_ble_eq_true rfl, Nat.le_of_ble_eq_true rfl, trivial⟩ ?_
  refine mm_blk (M := mm_m_X10_isWakerOrNobody) 1 (S' := ((if ¬ v3 = (0 : Int32) then 13 else 7), [.int x0], [], σ1)) (P := []) rfl trivial ?_
  by_cases b4 : ¬ v3 = (0 : Int32)
  · rw [if_pos b4]
    have h := h.1 b4
    refine mm_blk (M := mm_m_X10_isWakerOrNobody) 2 (S' := (18, [.int x0], [.int (1 : Int32)], σ1)) (P := []) rfl trivial ?_
    subst h
    exact mm_rt_ ⟨_, _, _, rfl, ⟨_, _, rfl, rfl, rfl, rfl⟩⟩
  · rw [if_neg b4]
    have h := h.2 b4
    refine mm_blk (M := mm_m_X10_isWakerOrNobody) 3 (S' := ((if ¬ x0 = (9 : Int32) then 17 else 13), [.int x0], [], σ1)) (P := []) rfl trivial ?_
    by_cases b5 : ¬ x0 = (9 : Int32)
    · rw [if_pos b5]
      have h := h.1 b5
      refine mm_blk (M := mm_m_X10_isWakerOrNobody) 1 (S' := (18, [.int x0], [.int (0 : Int32)], σ1)) (P := []) rfl trivial ?_
      subst h
      exact mm_rt_ ⟨_, _, _, rfl, ⟨_, _, rfl, rfl, rfl, rfl⟩⟩
    · rw [if_neg b5]
      have h := h.2 b5
      refine mm_blk (M := mm_m_X10_isWakerOrNobody) 2 (S' := (18, [.int x0], [.int (1 : Int32)], σ1)) (P := []) rfl trivial ?_
      subst h
      exact mm_rt_ ⟨_, _, _, rfl, ⟨_, _, rfl, rfl, rfl, rfl⟩⟩
