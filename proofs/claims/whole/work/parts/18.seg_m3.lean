/-! pieces of runs, by program -/
theorem sg_X11_rest_0 (σ : mm_Sg) (x1 : Int32) (x2 : Int32) (R : Option Value × mm_Sg) (h : (∃ (v3 : Int32) (σ1 : mm_Sg), mm_Ev mm_m_X11_isIn [.int x1, .int (1 : Int32), .int (30 : Int32)] σ (some (.int v3)) σ1 ∧ (((v3 = (0 : Int32) → (R = (some (.int (-1 : Int32)), σ1))) ∧ (¬ (v3 = (0 : Int32)) → (∃ (v7 : Int32) (σ5 : mm_Sg), mm_Ev mm_m_X11_isIn [.int x2, .int (0 : Int32), .int (1 : Int32)] σ1 (some (.int v7)) σ5 ∧ (((¬ v7 = (0 : Int32) → mm_Go mm_m_X11_rest (30, [.ref 51, .int x1, .int x2, .int (0 : Int32), .int (1000000000 : Int32), .int (0 : Int32)], [], σ5) R) ∧ (¬ (¬ v7 = (0 : Int32)) → (R = (some (.int (-1 : Int32)), σ5))))))))))) : mm_Go mm_m_X11_rest (0, [.ref 51, .int x1, .int x2, .null, .null, .null], [], σ) R := by
  refine mm_blk (M := mm_m_X11_rest) 3 (S' := (4, [.ref 51, .int x1, .int x2, .null, .null, .null], [.int (30 : Int32), .int (1 : Int32), .int x1], σ)) (P := []) rfl trivial ?_
  obtain ⟨v3, σ1, e2, h⟩ := h
  refine mm_cl_ (rest := []) e2 ⟨_, _, _, rfl, rfl, mm_tb_X11_isIn, rfl, rfl, Nat.le_of_ble_eq_true rfl, Nat.le_of_ble_eq_true rfl, trivial⟩ ?_
  refine mm_blk (M := mm_m_X11_rest) 1 (S' := ((if v3 = (0 : Int32) then 19 else 10), [.ref 51, .int x1, .int x2, .null, .null, .null], [], σ1)) (P := []) rfl trivial ?_
  by_cases b4 : v3 = (0 : Int32)
  · rw [if_pos b4]
    have h := h.1 b4
    refine mm_blk (M := mm_m_X11_rest) 1 (S' := (20, [.ref 51, .int x1, .int x2, .null, .null, .null], [.int (-1 : Int32)], σ1)) (P := []) rfl trivial ?_
    subst h
    exact mm_rt_ ⟨_, _, _, rfl, ⟨_, _, rfl, rfl, rfl, rfl⟩⟩
  · rw [if_neg b4]
    have h := h.2 b4
    refine mm_blk (M := mm_m_X11_rest) 3 (S' := (13, [.ref 51, .int x1, .int x2, .null, .null, .null], [.int (1 : Int32), .int (0 : Int32), .int x2], σ1)) (P := []) rfl trivial ?_
    obtain ⟨v7, σ5, e6, h⟩ := h
    refine mm_cl_ (rest := []) e6 ⟨_, _, _, rfl, rfl, mm_tb_X11_isIn, rfl, rfl, Nat.le_of_ble_eq_true rfl, Nat.le_of_ble_eq_true rfl, trivial⟩ ?_
    refine mm_blk (M := mm_m_X11_rest) 1 (S' := ((if ¬ v7 = (0 : Int32) then 21 else 19), [.ref 51, .int x1, .int x2, .null, .null, .null], [], σ5)) (P := []) rfl trivial ?_
    by_cases b8 : ¬ v7 = (0 : Int32)
    · rw [if_pos b8]
      have h := h.1 b8
      refine mm_blk (M := mm_m_X11_rest) 6 (S' := (30, [.ref 51, .int x1, .int x2, .int (0 : Int32), .int (1000000000 : Int32), .int (0 : Int32)], [], σ5)) (P := []) rfl trivial ?_
      exact h
    · rw [if_neg b8]
      have h := h.2 b8
      refine mm_blk (M := mm_m_X11_rest) 1 (S' := (20, [.ref 51, .int x1, .int x2, .null, .null, .null], [.int (-1 : Int32)], σ5)) (P := []) rfl trivial ?_
      subst h
      exact mm_rt_ ⟨_, _, _, rfl, ⟨_, _, rfl, rfl, rfl, rfl⟩⟩
theorem sg_X11_rest_30 (σ : mm_Sg) (x1 : Int32) (x2 : Int32) (x3 : Int32) (x4 : Int32) (x5 : Int32) (R : Option Value × mm_Sg) (h : ((((5 : Int32) ≤ x5 → (((¬ x2 = (0 : Int32) → (R = (some (.int x4), σ))) ∧ (¬ (¬ x2 = (0 : Int32)) → (R = (some (.int x3), σ)))))) ∧ (¬ ((5 : Int32) ≤ x5) → (∃ (σ3 : mm_Sg), mm_Ev mm_m_X11_copies [.ref 52, .ref 53] σ none σ3 ∧ (∀ σ5 : mm_Sg, σ5 = mm_u σ3 53 3 ((σ3 53 3) ||| ((1 : Int32) <<< (x5 &&& 31))) → (∃ (σ7 : mm_Sg), mm_Ev mm_m_X11_daysOn [.ref 51, .ref 53, .int x1] σ5 none σ7 ∧ (∃ (v11 : Int32) (σ9 : mm_Sg), mm_Ev mm_m_X11_allOwed [.ref 53] σ7 (some (.int v11)) σ9 ∧ (((v11 < x4 → (∃ (v15 : Int32) (σ13 : mm_Sg), mm_Ev mm_m_X11_allOwed [.ref 53] σ9 (some (.int v15)) σ13 ∧ mm_Go mm_m_X11_rest (30, [.ref 51, .int x1, .int x2, .int x5, .int v15, .int (x5 + (1 : Int32))], [], σ13) R)) ∧ (¬ (v11 < x4) → mm_Go mm_m_X11_rest (30, [.ref 51, .int x1, .int x2, .int x3, .int x4, .int (x5 + (1 : Int32))], [], σ9) R))))))))))) : mm_Go mm_m_X11_rest (30, [.ref 51, .int x1, .int x2, .int x3, .int x4, .int x5], [], σ) R := by
  refine mm_blk (M := mm_m_X11_rest) 3 (S' := ((if (5 : Int32) ≤ x5 then 102 else 36), [.ref 51, .int x1, .int x2, .int x3, .int x4, .int x5], [], σ)) (P := []) rfl trivial ?_
  by_cases b1 : (5 : Int32) ≤ x5
  · rw [if_pos b1]
    have h := h.1 b1
    refine mm_blk (M := mm_m_X11_rest) 2 (S' := ((if ¬ x2 = (0 : Int32) then 110 else 106), [.ref 51, .int x1, .int x2, .int x3, .int x4, .int x5], [], σ)) (P := []) rfl trivial ?_
    by_cases b2 : ¬ x2 = (0 : Int32)
    · rw [if_pos b2]
      have h := h.1 b2
      refine mm_blk (M := mm_m_X11_rest) 1 (S' := (112, [.ref 51, .int x1, .int x2, .int x3, .int x4, .int x5], [.int x4], σ)) (P := []) rfl trivial ?_
      subst h
      exact mm_rt_ ⟨_, _, _, rfl, ⟨_, _, rfl, rfl, rfl, rfl⟩⟩
    · rw [if_neg b2]
      have h := h.2 b2
      refine mm_blk (M := mm_m_X11_rest) 2 (S' := (112, [.ref 51, .int x1, .int x2, .int x3, .int x4, .int x5], [.int x3], σ)) (P := []) rfl trivial ?_
      subst h
      exact mm_rt_ ⟨_, _, _, rfl, ⟨_, _, rfl, rfl, rfl, rfl⟩⟩
  · rw [if_neg b1]
    have h := h.2 b1
    refine mm_blk (M := mm_m_X11_rest) 4 (S' := (44, [.ref 51, .int x1, .int x2, .int x3, .int x4, .int x5], [.ref 53, .ref 52], σ)) (P := [mm_cl 51 = 11, mm_cl 51 = 11]) rfl ⟨rfl, rfl, trivial⟩ ?_
    obtain ⟨σ3, e4, h⟩ := h
    refine mm_cl_ (rest := []) e4 ⟨_, _, _, rfl, rfl, mm_tb_X11_copies, rfl, rfl, Nat.le_of_ble_eq_true rfl, Nat.le_of_ble_eq_true rfl, trivial⟩ ?_
    refine mm_blk (M := mm_m_X11_rest) 10 (S' := (60, [.ref 51, .int x1, .int x2, .int x3, .int x4, .int x5], [], mm_u σ3 53 3 ((σ3 53 3) ||| ((1 : Int32) <<< (x5 &&& 31))))) (P := [mm_cl 51 = 11, vp_in (3 : Int32) (mm_len 53), vp_in (3 : Int32) (mm_len 53)]) rfl ⟨rfl, (by unfold vp_in; decide), (by unfold vp_in; decide), trivial⟩ ?_
    obtain ⟨σ5, e6⟩ : ∃ z, z = mm_u σ3 53 3 ((σ3 53 3) ||| ((1 : Int32) <<< (x5 &&& 31))) := ⟨_, rfl⟩
    rw [← e6]
    have h := h σ5 e6
    refine mm_blk (M := mm_m_X11_rest) 4 (S' := (66, [.ref 51, .int x1, .int x2, .int x3, .int x4, .int x5], [.int x1, .ref 53, .ref 51], σ5)) (P := [mm_cl 51 = 11]) rfl ⟨rfl, trivial⟩ ?_
    obtain ⟨σ7, e8, h⟩ := h
    refine mm_cl_ (rest := []) e8 ⟨_, _, _, rfl, rfl, mm_tb_X11_daysOn, rfl, rfl, Nat.le_of_ble_eq_true rfl, Nat.le_of_ble_eq_true rfl, ⟨_, rfl, rfl⟩⟩ ?_
    refine mm_blk (M := mm_m_X11_rest) 2 (S' := (73, [.ref 51, .int x1, .int x2, .int x3, .int x4, .int x5], [.ref 53], σ7)) (P := [mm_cl 51 = 11]) rfl ⟨rfl, trivial⟩ ?_
    obtain ⟨v11, σ9, e10, h⟩ := h
    refine mm_cl_ (rest := []) e10 ⟨_, _, _, rfl, rfl, mm_tb_X11_allOwed, rfl, rfl, Nat.le_of_ble_eq_true rfl, Nat.le_of_ble_eq_true rfl, trivial⟩ ?_
    refine mm_blk (M := mm_m_X11_rest) 2 (S' := ((if v11 < x4 then 84 else 81), [.ref 51, .int x1, .int x2, .int x3, .int x4, .int x5], [], σ9)) (P := []) rfl trivial ?_
    by_cases b12 : v11 < x4
    · rw [if_pos b12]
      have h := h.1 b12
      refine mm_blk (M := mm_m_X11_rest) 4 (S' := (91, [.ref 51, .int x1, .int x2, .int x5, .int x4, .int x5], [.ref 53], σ9)) (P := [mm_cl 51 = 11]) rfl ⟨rfl, trivial⟩ ?_
      obtain ⟨v15, σ13, e14, h⟩ := h
      refine mm_cl_ (rest := []) e14 ⟨_, _, _, rfl, rfl, mm_tb_X11_allOwed, rfl, rfl, Nat.le_of_ble_eq_true rfl, Nat.le_of_ble_eq_true rfl, trivial⟩ ?_
      refine mm_blk (M := mm_m_X11_rest) 3 (S' := (30, [.ref 51, .int x1, .int x2, .int x5, .int v15, .int (x5 + (1 : Int32))], [], σ13)) (P := []) rfl trivial ?_
      exact h
    · rw [if_neg b12]
      have h := h.2 b12
      refine mm_blk (M := mm_m_X11_rest) 3 (S' := (30, [.ref 51, .int x1, .int x2, .int x3, .int x4, .int (x5 + (1 : Int32))], [], σ9)) (P := []) rfl trivial ?_
      exact h
theorem sg_X11_leastOf_0 (σ : mm_Sg) (x0 : Int32) (R : Option Value × mm_Sg) (h : (((¬ x0 = (0 : Int32) → (((¬ x0 = (1 : Int32) → (R = (some (.int (-2147483648 : Int32)), σ))) ∧ (¬ (¬ x0 = (1 : Int32)) → (R = (some (.int (-32768 : Int32)), σ)))))) ∧ (¬ (¬ x0 = (0 : Int32)) → (R = (some (.int (-128 : Int32)), σ)))))) : mm_Go mm_m_X11_leastOf (0, [.int x0], [], σ) R := by
  refine mm_blk (M := mm_m_X11_leastOf) 2 (S' := ((if ¬ x0 = (0 : Int32) then 9 else 4), [.int x0], [], σ)) (P := []) rfl trivial ?_
  by_cases b1 : ¬ x0 = (0 : Int32)
  · rw [if_pos b1]
    have h := h.1 b1
    refine mm_blk (M := mm_m_X11_leastOf) 3 (S' := ((if ¬ x0 = (1 : Int32) then 20 else 14), [.int x0], [], σ)) (P := []) rfl trivial ?_
    by_cases b2 : ¬ x0 = (1 : Int32)
    · rw [if_pos b2]
      have h := h.1 b2
      refine mm_blk (M := mm_m_X11_leastOf) 1 (S' := (22, [.int x0], [.int (-2147483648 : Int32)], σ)) (P := []) rfl trivial ?_
      subst h
      exact mm_rt_ ⟨_, _, _, rfl, ⟨_, _, rfl, rfl, rfl, rfl⟩⟩
    · rw [if_neg b2]
      have h := h.2 b2
      refine mm_blk (M := mm_m_X11_leastOf) 2 (S' := (22, [.int x0], [.int (-32768 : Int32)], σ)) (P := []) rfl trivial ?_
      subst h
      exact mm_rt_ ⟨_, _, _, rfl, ⟨_, _, rfl, rfl, rfl, rfl⟩⟩
  · rw [if_neg b1]
    have h := h.2 b1
    refine mm_blk (M := mm_m_X11_leastOf) 2 (S' := (22, [.int x0], [.int (-128 : Int32)], σ)) (P := []) rfl trivial ?_
    subst h
    exact mm_rt_ ⟨_, _, _, rfl, ⟨_, _, rfl, rfl, rfl, rfl⟩⟩
theorem sg_X11_isTold_0 (σ : mm_Sg) (x1 : Int32) (x2 : Int32) (x3 : Int32) (R : Option Value × mm_Sg) (h : ((vp_in (((100 : Int32) * x1) + x2) (mm_len 64)) ∧ (vp_in x1 (mm_len 62)) ∧ ∃ (v5 : Int32) (σ3 : mm_Sg), mm_Ev mm_m_X11_leastOf [.int (σ 62 x1.toNatClampNeg)] σ (some (.int v5)) σ3 ∧ ((((σ 64 (((100 : Int32) * x1) + x2).toNatClampNeg) = v5 → (R = (some (.int (1 : Int32)), σ3))) ∧ (¬ ((σ 64 (((100 : Int32) * x1) + x2).toNatClampNeg) = v5) → (((¬ (σ3 64 (((100 : Int32) * x1) + x2).toNatClampNeg) = x3 → (R = (some (.int (0 : Int32)), σ3))) ∧ (¬ (¬ (σ3 64 (((100 : Int32) * x1) + x2).toNatClampNeg) = x3) → (R = (some (.int (1 : Int32)), σ3)))))))))) : mm_Go mm_m_X11_isTold (0, [.ref 51, .int x1, .int x2, .int x3], [], σ) R := by
  obtain ⟨c1, h⟩ := h
  obtain ⟨c2, h⟩ := h
  refine mm_blk (M := mm_m_X11_isTold) 12 (S' := (17, [.ref 51, .int x1, .int x2, .int x3], [.int (σ 62 x1.toNatClampNeg), .int (σ 64 (((100 : Int32) * x1) + x2).toNatClampNeg)], σ)) (P := [mm_cl 51 = 11, vp_in (((100 : Int32) * x1) + x2) (mm_len 64), mm_cl 51 = 11, vp_in x1 (mm_len 62)]) rfl ⟨rfl, c1, rfl, c2, trivial⟩ ?_
  obtain ⟨v5, σ3, e4, h⟩ := h
  refine mm_cl_ (rest := [.int (σ 64 (((100 : Int32) * x1) + x2).toNatClampNeg)]) e4 ⟨_, _, _, rfl, rfl, mm_tb_X11_leastOf, rfl, rfl, Nat.le_of_ble_eq_true rfl, Nat.le_of_ble_eq_true rfl, trivial⟩ ?_
  refine mm_blk (M := mm_m_X11_isTold) 1 (S' := ((if (σ 64 (((100 : Int32) * x1) + x2).toNatClampNeg) = v5 then 38 else 23), [.ref 51, .int x1, .int x2, .int x3], [], σ3)) (P := []) rfl trivial ?_
  by_cases b6 : (σ 64 (((100 : Int32) * x1) + x2).toNatClampNeg) = v5
  · rw [if_pos b6]
    have h := h.1 b6
    refine mm_blk (M := mm_m_X11_isTold) 2 (S' := (43, [.ref 51, .int x1, .int x2, .int x3], [.int (1 : Int32)], σ3)) (P := []) rfl trivial ?_
    subst h
    exact mm_rt_ ⟨_, _, _, rfl, ⟨_, _, rfl, rfl, rfl, rfl⟩⟩
  · rw [if_neg b6]
    have h := h.2 b6
    refine mm_blk (M := mm_m_X11_isTold) 10 (S' := ((if ¬ (σ3 64 (((100 : Int32) * x1) + x2).toNatClampNeg) = x3 then 42 else 38), [.ref 51, .int x1, .int x2, .int x3], [], σ3)) (P := [mm_cl 51 = 11, vp_in (((100 : Int32) * x1) + x2) (mm_len 64)]) rfl ⟨rfl, c1, trivial⟩ ?_
    by_cases b7 : ¬ (σ3 64 (((100 : Int32) * x1) + x2).toNatClampNeg) = x3
    · rw [if_pos b7]
      have h := h.1 b7
      refine mm_blk (M := mm_m_X11_isTold) 1 (S' := (43, [.ref 51, .int x1, .int x2, .int x3], [.int (0 : Int32)], σ3)) (P := []) rfl trivial ?_
      subst h
      exact mm_rt_ ⟨_, _, _, rfl, ⟨_, _, rfl, rfl, rfl, rfl⟩⟩
    · rw [if_neg b7]
      have h := h.2 b7
      refine mm_blk (M := mm_m_X11_isTold) 2 (S' := (43, [.ref 51, .int x1, .int x2, .int x3], [.int (1 : Int32)], σ3)) (P := []) rfl trivial ?_
      subst h
      exact mm_rt_ ⟨_, _, _, rfl, ⟨_, _, rfl, rfl, rfl, rfl⟩⟩
theorem sg_X11_whatIs_0 (σ : mm_Sg) (x1 : Int32) (x2 : Int32) (x3 : Int32) (R : Option Value × mm_Sg) (h : (∃ (v3 : Int32) (σ1 : mm_Sg), mm_Ev mm_m_X11_isDrinker [.ref 51, .int x2] σ (some (.int v3)) σ1 ∧ (((v3 = (0 : Int32) → (R = (some (.int (-1 : Int32)), σ1))) ∧ (¬ (v3 = (0 : Int32)) → (∃ (v7 : Int32) (σ5 : mm_Sg), mm_Ev mm_m_X11_isIn [.int x3, .int (0 : Int32), .int (1 : Int32)] σ1 (some (.int v7)) σ5 ∧ (((¬ v7 = (0 : Int32) → (∃ (v11 : Int32) (σ9 : mm_Sg), mm_Ev mm_m_X11_wrongRow [.ref 51, .int x1, .int (-1 : Int32)] σ5 (some (.int v11)) σ9 ∧ (((v11 = (0 : Int32) → mm_Go mm_m_X11_whatIs (41, [.ref 51, .int x1, .int x2, .int x3, .int v11, .int (0 : Int32), .int (0 : Int32), .null, .null], [], σ9) R) ∧ (¬ (v11 = (0 : Int32)) → (R = (some (.int v11), σ9))))))) ∧ (¬ (¬ v7 = (0 : Int32)) → (R = (some (.int (-1 : Int32)), σ5))))))))))) : mm_Go mm_m_X11_whatIs (0, [.ref 51, .int x1, .int x2, .int x3, .null, .null, .null, .null, .null], [], σ) R := by
  refine mm_blk (M := mm_m_X11_whatIs) 2 (S' := (2, [.ref 51, .int x1, .int x2, .int x3, .null, .null, .null, .null, .null], [.int x2, .ref 51], σ)) (P := []) rfl trivial ?_
  obtain ⟨v3, σ1, e2, h⟩ := h
  refine mm_cl_ (rest := []) e2 ⟨_, _, _, rfl, rfl, mm_tb_X11_isDrinker, rfl, rfl, Nat.le_of_ble_eq_true rfl, Nat.le_of_ble_eq_true rfl, ⟨_, rfl, rfl⟩⟩ ?_
  refine mm_blk (M := mm_m_X11_whatIs) 1 (S' := ((if v3 = (0 : Int32) then 17 else 8), [.ref 51, .int x1, .int x2, .int x3, .null, .null, .null, .null, .null], [], σ1)) (P := []) rfl trivial ?_
  by_cases b4 : v3 = (0 : Int32)
  · rw [if_pos b4]
    have h := h.1 b4
    refine mm_blk (M := mm_m_X11_whatIs) 1 (S' := (18, [.ref 51, .int x1, .int x2, .int x3, .null, .null, .null, .null, .null], [.int (-1 : Int32)], σ1)) (P := []) rfl trivial ?_
    subst h
    exact mm_rt_ ⟨_, _, _, rfl, ⟨_, _, rfl, rfl, rfl, rfl⟩⟩
  · rw [if_neg b4]
    have h := h.2 b4
    refine mm_blk (M := mm_m_X11_whatIs) 3 (S' := (11, [.ref 51, .int x1, .int x2, .int x3, .null, .null, .null, .null, .null], [.int (1 : Int32), .int (0 : Int32), .int x3], σ1)) (P := []) rfl trivial ?_
    obtain ⟨v7, σ5, e6, h⟩ := h
    refine mm_cl_ (rest := []) e6 ⟨_, _, _, rfl, rfl, mm_tb_X11_isIn, rfl, rfl, Nat.le_of_ble_eq_true rfl, Nat.le_of_ble_eq_true rfl, trivial⟩ ?_
    refine mm_blk (M := mm_m_X11_whatIs) 1 (S' := ((if ¬ v7 = (0 : Int32) then 19 else 17), [.ref 51, .int x1, .int x2, .int x3, .null, .null, .null, .null, .null], [], σ5)) (P := []) rfl trivial ?_
    by_cases b8 : ¬ v7 = (0 : Int32)
    · rw [if_pos b8]
      have h := h.1 b8
      refine mm_blk (M := mm_m_X11_whatIs) 3 (S' := (22, [.ref 51, .int x1, .int x2, .int x3, .null, .null, .null, .null, .null], [.int (-1 : Int32), .int x1, .ref 51], σ5)) (P := []) rfl trivial ?_
      obtain ⟨v11, σ9, e10, h⟩ := h
      refine mm_cl_ (rest := []) e10 ⟨_, _, _, rfl, rfl, mm_tb_X11_wrongRow, rfl, rfl, Nat.le_of_ble_eq_true rfl, Nat.le_of_ble_eq_true rfl, ⟨_, rfl, rfl⟩⟩ ?_
      refine mm_blk (M := mm_m_X11_whatIs) 3 (S' := ((if v11 = (0 : Int32) then 35 else 32), [.ref 51, .int x1, .int x2, .int x3, .int v11, .null, .null, .null, .null], [], σ9)) (P := []) rfl trivial ?_
      by_cases b12 : v11 = (0 : Int32)
      · rw [if_pos b12]
        have h := h.1 b12
        refine mm_blk (M := mm_m_X11_whatIs) 4 (S' := (41, [.ref 51, .int x1, .int x2, .int x3, .int v11, .int (0 : Int32), .int (0 : Int32), .null, .null], [], σ9)) (P := []) rfl trivial ?_
        exact h
      · rw [if_neg b12]
        have h := h.2 b12
        refine mm_blk (M := mm_m_X11_whatIs) 1 (S' := (34, [.ref 51, .int x1, .int x2, .int x3, .int v11, .null, .null, .null, .null], [.int v11], σ9)) (P := []) rfl trivial ?_
        subst h
        exact mm_rt_ ⟨_, _, _, rfl, ⟨_, _, rfl, rfl, rfl, rfl⟩⟩
    · rw [if_neg b8]
      have h := h.2 b8
      refine mm_blk (M := mm_m_X11_whatIs) 1 (S' := (18, [.ref 51, .int x1, .int x2, .int x3, .null, .null, .null, .null, .null], [.int (-1 : Int32)], σ5)) (P := []) rfl trivial ?_
      subst h
      exact mm_rt_ ⟨_, _, _, rfl, ⟨_, _, rfl, rfl, rfl, rfl⟩⟩
theorem sg_X11_whatIs_41 (σ : mm_Sg) (x1 : Int32) (x2 : Int32) (x3 : Int32) (x4 : Int32) (x5 : Int32) (x6 : Int32) (d7 : Value) (d8 : Value) (R : Option Value × mm_Sg) (h : (((¬ x3 = (0 : Int32) → mm_Go mm_m_X11_whatIs (54, [.ref 51, .int x1, .int x2, .int x3, .int x4, .int x5, .int x6, d7, d8], [.int (10 : Int32), .int x6], σ) R) ∧ (¬ (¬ x3 = (0 : Int32)) → mm_Go mm_m_X11_whatIs (54, [.ref 51, .int x1, .int x2, .int x3, .int x4, .int x5, .int x6, d7, d8], [.int (8 : Int32), .int x6], σ) R)))) : mm_Go mm_m_X11_whatIs (41, [.ref 51, .int x1, .int x2, .int x3, .int x4, .int x5, .int x6, d7, d8], [], σ) R := by
  refine mm_blk (M := mm_m_X11_whatIs) 3 (S' := ((if ¬ x3 = (0 : Int32) then 52 else 47), [.ref 51, .int x1, .int x2, .int x3, .int x4, .int x5, .int x6, d7, d8], [.int x6], σ)) (P := []) rfl trivial ?_
  by_cases b1 : ¬ x3 = (0 : Int32)
  · rw [if_pos b1]
    have h := h.1 b1
    refine mm_blk (M := mm_m_X11_whatIs) 1 (S' := (54, [.ref 51, .int x1, .int x2, .int x3, .int x4, .int x5, .int x6, d7, d8], [.int (10 : Int32), .int x6], σ)) (P := []) rfl trivial ?_
    exact h
  · rw [if_neg b1]
    have h := h.2 b1
    refine mm_blk (M := mm_m_X11_whatIs) 2 (S' := (54, [.ref 51, .int x1, .int x2, .int x3, .int x4, .int x5, .int x6, d7, d8], [.int (8 : Int32), .int x6], σ)) (P := []) rfl trivial ?_
    exact h
theorem sg_X11_whatIs_54 (σ : mm_Sg) (x1 : Int32) (x2 : Int32) (x3 : Int32) (x4 : Int32) (x5 : Int32) (x6 : Int32) (d7 : Value) (d8 : Value) (s0 : Int32) (s1 : Int32) (R : Option Value × mm_Sg) (h : (((s0 ≤ s1 → (R = (some (.int x5), σ))) ∧ (¬ (s0 ≤ s1) → (∃ (σ2 : mm_Sg), mm_Ev mm_m_X11_copies [.ref 52, .ref 53] σ none σ2 ∧ (∃ (v6 : Int32) (σ4 : mm_Sg), mm_Ev mm_m_X11_of [.int x2, .int x3] σ2 (some (.int v6)) σ4 ∧ ((vp_in v6 (mm_len 53)) ∧ ∀ σ8 : mm_Sg, σ8 = mm_u σ4 53 v6.toNatClampNeg x6 → mm_Go mm_m_X11_whatIs (86, [.ref 51, .int x1, .int x2, .int x3, .int x4, .int x5, .int x6, .int (1 : Int32), .int (0 : Int32)], [], σ8) R))))))) : mm_Go mm_m_X11_whatIs (54, [.ref 51, .int x1, .int x2, .int x3, .int x4, .int x5, .int x6, d7, d8], [.int s0, .int s1], σ) R := by
  refine mm_blk (M := mm_m_X11_whatIs) 1 (S' := ((if s0 ≤ s1 then 157 else 57), [.ref 51, .int x1, .int x2, .int x3, .int x4, .int x5, .int x6, d7, d8], [], σ)) (P := []) rfl trivial ?_
  by_cases b1 : s0 ≤ s1
  · rw [if_pos b1]
    have h := h.1 b1
    refine mm_blk (M := mm_m_X11_whatIs) 1 (S' := (159, [.ref 51, .int x1, .int x2, .int x3, .int x4, .int x5, .int x6, d7, d8], [.int x5], σ)) (P := []) rfl trivial ?_
    subst h
    exact mm_rt_ ⟨_, _, _, rfl, ⟨_, _, rfl, rfl, rfl, rfl⟩⟩
  · rw [if_neg b1]
    have h := h.2 b1
    refine mm_blk (M := mm_m_X11_whatIs) 6 (S' := (68, [.ref 51, .int x1, .int x2, .int x3, .int x4, .int x5, .int x6, .int (1 : Int32), d8], [.ref 53, .ref 52], σ)) (P := [mm_cl 51 = 11, mm_cl 51 = 11]) rfl ⟨rfl, rfl, trivial⟩ ?_
    obtain ⟨σ2, e3, h⟩ := h
    refine mm_cl_ (rest := []) e3 ⟨_, _, _, rfl, rfl, mm_tb_X11_copies, rfl, rfl, Nat.le_of_ble_eq_true rfl, Nat.le_of_ble_eq_true rfl, trivial⟩ ?_
    refine mm_blk (M := mm_m_X11_whatIs) 4 (S' := (77, [.ref 51, .int x1, .int x2, .int x3, .int x4, .int x5, .int x6, .int (1 : Int32), d8], [.int x3, .int x2, .ref 53], σ2)) (P := [mm_cl 51 = 11]) rfl ⟨rfl, trivial⟩ ?_
    obtain ⟨v6, σ4, e5, h⟩ := h
    refine mm_cl_ (rest := [.ref 53]) e5 ⟨_, _, _, rfl, rfl, mm_tb_X11_of, rfl, rfl, Nat.le_of_ble_eq_true rfl, Nat.le_of_ble_eq_true rfl, trivial⟩ ?_
    obtain ⟨c7, h⟩ := h
    refine mm_blk (M := mm_m_X11_whatIs) 2 (S' := (83, [.ref 51, .int x1, .int x2, .int x3, .int x4, .int x5, .int x6, .int (1 : Int32), d8], [], mm_u σ4 53 v6.toNatClampNeg x6)) (P := [vp_in v6 (mm_len 53)]) rfl ⟨c7, trivial⟩ ?_
    obtain ⟨σ8, e9⟩ : ∃ z, z = mm_u σ4 53 v6.toNatClampNeg x6 := ⟨_, rfl⟩
    rw [← e9]
    have h := h σ8 e9
    refine mm_blk (M := mm_m_X11_whatIs) 2 (S' := (86, [.ref 51, .int x1, .int x2, .int x3, .int x4, .int x5, .int x6, .int (1 : Int32), .int (0 : Int32)], [], σ8)) (P := []) rfl trivial ?_
    exact h
theorem sg_X11_whatIs_86 (σ : mm_Sg) (x1 : Int32) (x2 : Int32) (x3 : Int32) (x4 : Int32) (x5 : Int32) (x6 : Int32) (x7 : Int32) (x8 : Int32) (R : Option Value × mm_Sg) (h : ((vp_in x1 (mm_len 63)) ∧ (((σ 63 x1.toNatClampNeg) ≤ x8 → (((x7 = (0 : Int32) → mm_Go mm_m_X11_whatIs (41, [.ref 51, .int x1, .int x2, .int x3, .int x4, .int (x5 ||| (0 : Int32)), .int (x6 + (1 : Int32)), .int x7, .int x8], [], σ) R) ∧ (¬ (x7 = (0 : Int32)) → mm_Go mm_m_X11_whatIs (41, [.ref 51, .int x1, .int x2, .int x3, .int x4, .int (x5 ||| ((1 : Int32) <<< (x6 &&& 31))), .int (x6 + (1 : Int32)), .int x7, .int x8], [], σ) R)))) ∧ (¬ ((σ 63 x1.toNatClampNeg) ≤ x8) → (∃ (v6 : Int32) (σ4 : mm_Sg), mm_Ev mm_m_X11_of [.int x2, .int (3 : Int32)] σ (some (.int v6)) σ4 ∧ ((vp_in v6 (mm_len 53)) ∧ ∃ (v10 : Int32) (σ8 : mm_Sg), mm_Ev mm_m_X11_isTold [.ref 51, .int x1, .int x8, .int (σ4 53 v6.toNatClampNeg)] σ4 (some (.int v10)) σ8 ∧ (∃ (σ11 : mm_Sg), mm_Ev mm_m_X11_day [.ref 51, .ref 53] σ8 none σ11 ∧ mm_Go mm_m_X11_whatIs (86, [.ref 51, .int x1, .int x2, .int x3, .int x4, .int x5, .int x6, .int (x7 &&& v10), .int (x8 + (1 : Int32))], [], σ11) R))))))) : mm_Go mm_m_X11_whatIs (86, [.ref 51, .int x1, .int x2, .int x3, .int x4, .int x5, .int x6, .int x7, .int x8], [], σ) R := by
  obtain ⟨c1, h⟩ := h
  refine mm_blk (M := mm_m_X11_whatIs) 6 (S' := ((if (σ 63 x1.toNatClampNeg) ≤ x8 then 133 else 97), [.ref 51, .int x1, .int x2, .int x3, .int x4, .int x5, .int x6, .int x7, .int x8], [], σ)) (P := [mm_cl 51 = 11, vp_in x1 (mm_len 63)]) rfl ⟨rfl, c1, trivial⟩ ?_
  by_cases b2 : (σ 63 x1.toNatClampNeg) ≤ x8
  · rw [if_pos b2]
    have h := h.1 b2
    refine mm_blk (M := mm_m_X11_whatIs) 3 (S' := ((if x7 = (0 : Int32) then 147 else 140), [.ref 51, .int x1, .int x2, .int x3, .int x4, .int x5, .int x6, .int x7, .int x8], [.int x5], σ)) (P := []) rfl trivial ?_
    by_cases b3 : x7 = (0 : Int32)
    · rw [if_pos b3]
      have h := h.1 b3
      refine mm_blk (M := mm_m_X11_whatIs) 5 (S' := (41, [.ref 51, .int x1, .int x2, .int x3, .int x4, .int (x5 ||| (0 : Int32)), .int (x6 + (1 : Int32)), .int x7, .int x8], [], σ)) (P := []) rfl trivial ?_
      exact h
    · rw [if_neg b3]
      have h := h.2 b3
      refine mm_blk (M := mm_m_X11_whatIs) 8 (S' := (41, [.ref 51, .int x1, .int x2, .int x3, .int x4, .int (x5 ||| ((1 : Int32) <<< (x6 &&& 31))), .int (x6 + (1 : Int32)), .int x7, .int x8], [], σ)) (P := []) rfl trivial ?_
      exact h
  · rw [if_neg b2]
    have h := h.2 b2
    refine mm_blk (M := mm_m_X11_whatIs) 8 (S' := (109, [.ref 51, .int x1, .int x2, .int x3, .int x4, .int x5, .int x6, .int x7, .int x8], [.int (3 : Int32), .int x2, .ref 53, .int x8, .int x1, .ref 51, .int x7], σ)) (P := [mm_cl 51 = 11]) rfl ⟨rfl, trivial⟩ ?_
    obtain ⟨v6, σ4, e5, h⟩ := h
    refine mm_cl_ (rest := [.ref 53, .int x8, .int x1, .ref 51, .int x7]) e5 ⟨_, _, _, rfl, rfl, mm_tb_X11_of, rfl, rfl, Nat.le_of_ble_eq_true rfl, Nat.le_of_ble_eq_true rfl, trivial⟩ ?_
    obtain ⟨c7, h⟩ := h
    refine mm_blk (M := mm_m_X11_whatIs) 1 (S' := (113, [.ref 51, .int x1, .int x2, .int x3, .int x4, .int x5, .int x6, .int x7, .int x8], [.int (σ4 53 v6.toNatClampNeg), .int x8, .int x1, .ref 51, .int x7], σ4)) (P := [vp_in v6 (mm_len 53)]) rfl ⟨c7, trivial⟩ ?_
    obtain ⟨v10, σ8, e9, h⟩ := h
    refine mm_cl_ (rest := [.int x7]) e9 ⟨_, _, _, rfl, rfl, mm_tb_X11_isTold, rfl, rfl, Nat.le_of_ble_eq_true rfl, Nat.le_of_ble_eq_true rfl, ⟨_, rfl, rfl⟩⟩ ?_
    refine mm_blk (M := mm_m_X11_whatIs) 5 (S' := (124, [.ref 51, .int x1, .int x2, .int x3, .int x4, .int x5, .int x6, .int (x7 &&& v10), .int x8], [.ref 53, .ref 51], σ8)) (P := [mm_cl 51 = 11]) rfl ⟨rfl, trivial⟩ ?_
    obtain ⟨σ11, e12, h⟩ := h
    refine mm_cl_ (rest := []) e12 ⟨_, _, _, rfl, rfl, mm_tb_X11_day, rfl, rfl, Nat.le_of_ble_eq_true rfl, Nat.le_of_ble_eq_true rfl, ⟨_, rfl, rfl⟩⟩ ?_
    refine mm_blk (M := mm_m_X11_whatIs) 2 (S' := (86, [.ref 51, .int x1, .int x2, .int x3, .int x4, .int x5, .int x6, .int (x7 &&& v10), .int (x8 + (1 : Int32))], [], σ11)) (P := []) rfl trivial ?_
    exact h
theorem sg_X11_isShedSo_0 (σ : mm_Sg) (x1 : Int32) (x2 : Int32) (R : Option Value × mm_Sg) (h : (∃ (σ1 : mm_Sg), mm_Ev mm_m_X11_copies [.ref 52, .ref 53] σ none σ1 ∧ (∀ σ3 : mm_Sg, σ3 = mm_u σ1 53 2 x2 → mm_Go mm_m_X11_isShedSo (20, [.ref 51, .int x1, .int x2, .int (0 : Int32)], [], σ3) R))) : mm_Go mm_m_X11_isShedSo (0, [.ref 51, .int x1, .int x2, .null], [], σ) R := by
  refine mm_blk (M := mm_m_X11_isShedSo) 4 (S' := (8, [.ref 51, .int x1, .int x2, .null], [.ref 53, .ref 52], σ)) (P := [mm_cl 51 = 11, mm_cl 51 = 11]) rfl ⟨rfl, rfl, trivial⟩ ?_
  obtain ⟨σ1, e2, h⟩ := h
  refine mm_cl_ (rest := []) e2 ⟨_, _, _, rfl, rfl, mm_tb_X11_copies, rfl, rfl, Nat.le_of_ble_eq_true rfl, Nat.le_of_ble_eq_true rfl, trivial⟩ ?_
  refine mm_blk (M := mm_m_X11_isShedSo) 5 (S' := (18, [.ref 51, .int x1, .int x2, .null], [], mm_u σ1 53 2 x2)) (P := [mm_cl 51 = 11, vp_in (2 : Int32) (mm_len 53)]) rfl ⟨rfl, (by unfold vp_in; decide), trivial⟩ ?_
  obtain ⟨σ3, e4⟩ : ∃ z, z = mm_u σ1 53 2 x2 := ⟨_, rfl⟩
  rw [← e4]
  have h := h σ3 e4
  refine mm_blk (M := mm_m_X11_isShedSo) 2 (S' := (20, [.ref 51, .int x1, .int x2, .int (0 : Int32)], [], σ3)) (P := []) rfl trivial ?_
  exact h
theorem sg_X11_isShedSo_20 (σ : mm_Sg) (x1 : Int32) (x2 : Int32) (x3 : Int32) (R : Option Value × mm_Sg) (h : ((vp_in x1 (mm_len 63)) ∧ (((σ 63 x1.toNatClampNeg) ≤ x3 → (R = (some (.int (1 : Int32)), σ))) ∧ (¬ ((σ 63 x1.toNatClampNeg) ≤ x3) → (∃ (σ3 : mm_Sg), mm_Ev mm_m_X11_day [.ref 51, .ref 53] σ none σ3 ∧ (∃ (v7 : Int32) (σ5 : mm_Sg), mm_Ev mm_m_X11_isTold [.ref 51, .int x1, .int x3, .int (σ3 53 2)] σ3 (some (.int v7)) σ5 ∧ (((¬ v7 = (0 : Int32) → mm_Go mm_m_X11_isShedSo (20, [.ref 51, .int x1, .int x2, .int (x3 + (1 : Int32))], [], σ5) R) ∧ (¬ (¬ v7 = (0 : Int32)) → (R = (some (.int (0 : Int32)), σ5))))))))))) : mm_Go mm_m_X11_isShedSo (20, [.ref 51, .int x1, .int x2, .int x3], [], σ) R := by
  obtain ⟨c1, h⟩ := h
  refine mm_blk (M := mm_m_X11_isShedSo) 6 (S' := ((if (σ 63 x1.toNatClampNeg) ≤ x3 then 61 else 30), [.ref 51, .int x1, .int x2, .int x3], [], σ)) (P := [mm_cl 51 = 11, vp_in x1 (mm_len 63)]) rfl ⟨rfl, c1, trivial⟩ ?_
  by_cases b2 : (σ 63 x1.toNatClampNeg) ≤ x3
  · rw [if_pos b2]
    have h := h.1 b2
    refine mm_blk (M := mm_m_X11_isShedSo) 1 (S' := (62, [.ref 51, .int x1, .int x2, .int x3], [.int (1 : Int32)], σ)) (P := []) rfl trivial ?_
    subst h
    exact mm_rt_ ⟨_, _, _, rfl, ⟨_, _, rfl, rfl, rfl, rfl⟩⟩
  · rw [if_neg b2]
    have h := h.2 b2
    refine mm_blk (M := mm_m_X11_isShedSo) 3 (S' := (35, [.ref 51, .int x1, .int x2, .int x3], [.ref 53, .ref 51], σ)) (P := [mm_cl 51 = 11]) rfl ⟨rfl, trivial⟩ ?_
    obtain ⟨σ3, e4, h⟩ := h
    refine mm_cl_ (rest := []) e4 ⟨_, _, _, rfl, rfl, mm_tb_X11_day, rfl, rfl, Nat.le_of_ble_eq_true rfl, Nat.le_of_ble_eq_true rfl, ⟨_, rfl, rfl⟩⟩ ?_
    refine mm_blk (M := mm_m_X11_isShedSo) 7 (S' := (47, [.ref 51, .int x1, .int x2, .int x3], [.int (σ3 53 2), .int x3, .int x1, .ref 51], σ3)) (P := [mm_cl 51 = 11, vp_in (2 : Int32) (mm_len 53)]) rfl ⟨rfl, (by unfold vp_in; decide), trivial⟩ ?_
    obtain ⟨v7, σ5, e6, h⟩ := h
    refine mm_cl_ (rest := []) e6 ⟨_, _, _, rfl, rfl, mm_tb_X11_isTold, rfl, rfl, Nat.le_of_ble_eq_true rfl, Nat.le_of_ble_eq_true rfl, ⟨_, rfl, rfl⟩⟩ ?_
    refine mm_blk (M := mm_m_X11_isShedSo) 1 (S' := ((if ¬ v7 = (0 : Int32) then 55 else 53), [.ref 51, .int x1, .int x2, .int x3], [], σ5)) (P := []) rfl trivial ?_
    by_cases b8 : ¬ v7 = (0 : Int32)
    · rw [if_pos b8]
      have h := h.1 b8
      refine mm_blk (M := mm_m_X11_isShedSo) 2 (S' := (20, [.ref 51, .int x1, .int x2, .int (x3 + (1 : Int32))], [], σ5)) (P := []) rfl trivial ?_
      exact h
    · rw [if_neg b8]
      have h := h.2 b8
      refine mm_blk (M := mm_m_X11_isShedSo) 1 (S' := (54, [.ref 51, .int x1, .int x2, .int x3], [.int (0 : Int32)], σ5)) (P := []) rfl trivial ?_
      subst h
      exact mm_rt_ ⟨_, _, _, rfl, ⟨_, _, rfl, rfl, rfl, rfl⟩⟩
theorem sg_X11_shed_0 (σ : mm_Sg) (x1 : Int32) (x2 : Int32) (R : Option Value × mm_Sg) (h : (∃ (v3 : Int32) (σ1 : mm_Sg), mm_Ev mm_m_X11_isIn [.int x2, .int (0 : Int32), .int (2 : Int32)] σ (some (.int v3)) σ1 ∧ (((¬ v3 = (0 : Int32) → (∃ (v7 : Int32) (σ5 : mm_Sg), mm_Ev mm_m_X11_wrongRow [.ref 51, .int x1, .int (-1 : Int32)] σ1 (some (.int v7)) σ5 ∧ (((v7 = (0 : Int32) → mm_Go mm_m_X11_shed (38, [.ref 51, .int x1, .int x2, .int v7, .int (0 : Int32), .int (-4 : Int32), .int (-4 : Int32), .int (0 : Int32)], [], σ5) R) ∧ (¬ (v7 = (0 : Int32)) → (R = (some (.int v7), σ5))))))) ∧ (¬ (¬ v3 = (0 : Int32)) → (R = (some (.int (-1 : Int32)), σ1))))))) : mm_Go mm_m_X11_shed (0, [.ref 51, .int x1, .int x2, .null, .null, .null, .null, .null], [], σ) R := by
  refine mm_blk (M := mm_m_X11_shed) 3 (S' := (3, [.ref 51, .int x1, .int x2, .null, .null, .null, .null, .null], [.int (2 : Int32), .int (0 : Int32), .int x2], σ)) (P := []) rfl trivial ?_
  obtain ⟨v3, σ1, e2, h⟩ := h
  refine mm_cl_ (rest := []) e2 ⟨_, _, _, rfl, rfl, mm_tb_X11_isIn, rfl, rfl, Nat.le_of_ble_eq_true rfl, Nat.le_of_ble_eq_true rfl, trivial⟩ ?_
  refine mm_blk (M := mm_m_X11_shed) 1 (S' := ((if ¬ v3 = (0 : Int32) then 11 else 9), [.ref 51, .int x1, .int x2, .null, .null, .null, .null, .null], [], σ1)) (P := []) rfl trivial ?_
  by_cases b4 : ¬ v3 = (0 : Int32)
  · rw [if_pos b4]
    have h := h.1 b4
    refine mm_blk (M := mm_m_X11_shed) 3 (S' := (14, [.ref 51, .int x1, .int x2, .null, .null, .null, .null, .null], [.int (-1 : Int32), .int x1, .ref 51], σ1)) (P := []) rfl trivial ?_
    obtain ⟨v7, σ5, e6, h⟩ := h
    refine mm_cl_ (rest := []) e6 ⟨_, _, _, rfl, rfl, mm_tb_X11_wrongRow, rfl, rfl, Nat.le_of_ble_eq_true rfl, Nat.le_of_ble_eq_true rfl, ⟨_, rfl, rfl⟩⟩ ?_
    refine mm_blk (M := mm_m_X11_shed) 3 (S' := ((if v7 = (0 : Int32) then 24 else 22), [.ref 51, .int x1, .int x2, .int v7, .null, .null, .null, .null], [], σ5)) (P := []) rfl trivial ?_
    by_cases b8 : v7 = (0 : Int32)
    · rw [if_pos b8]
      have h := h.1 b8
      refine mm_blk (M := mm_m_X11_shed) 8 (S' := (38, [.ref 51, .int x1, .int x2, .int v7, .int (0 : Int32), .int (-4 : Int32), .int (-4 : Int32), .int (0 : Int32)], [], σ5)) (P := []) rfl trivial ?_
      exact h
    · rw [if_neg b8]
      have h := h.2 b8
      refine mm_blk (M := mm_m_X11_shed) 1 (S' := (23, [.ref 51, .int x1, .int x2, .int v7, .null, .null, .null, .null], [.int v7], σ5)) (P := []) rfl trivial ?_
      subst h
      exact mm_rt_ ⟨_, _, _, rfl, ⟨_, _, rfl, rfl, rfl, rfl⟩⟩
  · rw [if_neg b4]
    have h := h.2 b4
    refine mm_blk (M := mm_m_X11_shed) 1 (S' := (10, [.ref 51, .int x1, .int x2, .null, .null, .null, .null, .null], [.int (-1 : Int32)], σ1)) (P := []) rfl trivial ?_
    subst h
    exact mm_rt_ ⟨_, _, _, rfl, ⟨_, _, rfl, rfl, rfl, rfl⟩⟩
theorem sg_X11_shed_38 (σ : mm_Sg) (x1 : Int32) (x2 : Int32) (x3 : Int32) (x4 : Int32) (x5 : Int32) (x6 : Int32) (x7 : Int32) (R : Option Value × mm_Sg) (h : ((((200 : Int32) < x7 → (((¬ x2 = (0 : Int32) → (((¬ x2 = (1 : Int32) → (R = (some (.int x6), σ))) ∧ (¬ (¬ x2 = (1 : Int32)) → (R = (some (.int x5), σ)))))) ∧ (¬ (¬ x2 = (0 : Int32)) → (R = (some (.int x4), σ)))))) ∧ (¬ ((200 : Int32) < x7) → (∃ (v6 : Int32) (σ4 : mm_Sg), mm_Ev mm_m_X11_isShedSo [.ref 51, .int x1, .int x7] σ (some (.int v6)) σ4 ∧ (((¬ v6 = (0 : Int32) → (((¬ x4 = (0 : Int32) → mm_Go mm_m_X11_shed (38, [.ref 51, .int x1, .int x2, .int x3, .int (x4 + (1 : Int32)), .int x5, .int x7, .int (x7 + (1 : Int32))], [], σ4) R) ∧ (¬ (¬ x4 = (0 : Int32)) → mm_Go mm_m_X11_shed (38, [.ref 51, .int x1, .int x2, .int x3, .int (x4 + (1 : Int32)), .int x7, .int x7, .int (x7 + (1 : Int32))], [], σ4) R)))) ∧ (¬ (¬ v6 = (0 : Int32)) → mm_Go mm_m_X11_shed (38, [.ref 51, .int x1, .int x2, .int x3, .int x4, .int x5, .int x6, .int (x7 + (1 : Int32))], [], σ4) R)))))))) : mm_Go mm_m_X11_shed (38, [.ref 51, .int x1, .int x2, .int x3, .int x4, .int x5, .int x6, .int x7], [], σ) R := by
  refine mm_blk (M := mm_m_X11_shed) 3 (S' := ((if (200 : Int32) < x7 then 86 else 46), [.ref 51, .int x1, .int x2, .int x3, .int x4, .int x5, .int x6, .int x7], [], σ)) (P := []) rfl trivial ?_
  by_cases b1 : (200 : Int32) < x7
  · rw [if_pos b1]
    have h := h.1 b1
    refine mm_blk (M := mm_m_X11_shed) 2 (S' := ((if ¬ x2 = (0 : Int32) then 95 else 90), [.ref 51, .int x1, .int x2, .int x3, .int x4, .int x5, .int x6, .int x7], [], σ)) (P := []) rfl trivial ?_
    by_cases b2 : ¬ x2 = (0 : Int32)
    · rw [if_pos b2]
      have h := h.1 b2
      refine mm_blk (M := mm_m_X11_shed) 3 (S' := ((if ¬ x2 = (1 : Int32) then 105 else 100), [.ref 51, .int x1, .int x2, .int x3, .int x4, .int x5, .int x6, .int x7], [], σ)) (P := []) rfl trivial ?_
      by_cases b3 : ¬ x2 = (1 : Int32)
      · rw [if_pos b3]
        have h := h.1 b3
        refine mm_blk (M := mm_m_X11_shed) 1 (S' := (107, [.ref 51, .int x1, .int x2, .int x3, .int x4, .int x5, .int x6, .int x7], [.int x6], σ)) (P := []) rfl trivial ?_
        subst h
        exact mm_rt_ ⟨_, _, _, rfl, ⟨_, _, rfl, rfl, rfl, rfl⟩⟩
      · rw [if_neg b3]
        have h := h.2 b3
        refine mm_blk (M := mm_m_X11_shed) 2 (S' := (107, [.ref 51, .int x1, .int x2, .int x3, .int x4, .int x5, .int x6, .int x7], [.int x5], σ)) (P := []) rfl trivial ?_
        subst h
        exact mm_rt_ ⟨_, _, _, rfl, ⟨_, _, rfl, rfl, rfl, rfl⟩⟩
    · rw [if_neg b2]
      have h := h.2 b2
      refine mm_blk (M := mm_m_X11_shed) 2 (S' := (107, [.ref 51, .int x1, .int x2, .int x3, .int x4, .int x5, .int x6, .int x7], [.int x4], σ)) (P := []) rfl trivial ?_
      subst h
      exact mm_rt_ ⟨_, _, _, rfl, ⟨_, _, rfl, rfl, rfl, rfl⟩⟩
  · rw [if_neg b1]
    have h := h.2 b1
    refine mm_blk (M := mm_m_X11_shed) 3 (S' := (50, [.ref 51, .int x1, .int x2, .int x3, .int x4, .int x5, .int x6, .int x7], [.int x7, .int x1, .ref 51], σ)) (P := []) rfl trivial ?_
    obtain ⟨v6, σ4, e5, h⟩ := h
    refine mm_cl_ (rest := []) e5 ⟨_, _, _, rfl, rfl, mm_tb_X11_isShedSo, rfl, rfl, Nat.le_of_ble_eq_true rfl, Nat.le_of_ble_eq_true rfl, ⟨_, rfl, rfl⟩⟩ ?_
    refine mm_blk (M := mm_m_X11_shed) 1 (S' := ((if ¬ v6 = (0 : Int32) then 59 else 56), [.ref 51, .int x1, .int x2, .int x3, .int x4, .int x5, .int x6, .int x7], [], σ4)) (P := []) rfl trivial ?_
    by_cases b7 : ¬ v6 = (0 : Int32)
    · rw [if_pos b7]
      have h := h.1 b7
      refine mm_blk (M := mm_m_X11_shed) 2 (S' := ((if ¬ x4 = (0 : Int32) then 69 else 64), [.ref 51, .int x1, .int x2, .int x3, .int x4, .int x5, .int x6, .int x7], [], σ4)) (P := []) rfl trivial ?_
      by_cases b8 : ¬ x4 = (0 : Int32)
      · rw [if_pos b8]
        have h := h.1 b8
        refine mm_blk (M := mm_m_X11_shed) 7 (S' := (38, [.ref 51, .int x1, .int x2, .int x3, .int (x4 + (1 : Int32)), .int x5, .int x7, .int (x7 + (1 : Int32))], [], σ4)) (P := []) rfl trivial ?_
        exact h
      · rw [if_neg b8]
        have h := h.2 b8
        refine mm_blk (M := mm_m_X11_shed) 8 (S' := (38, [.ref 51, .int x1, .int x2, .int x3, .int (x4 + (1 : Int32)), .int x7, .int x7, .int (x7 + (1 : Int32))], [], σ4)) (P := []) rfl trivial ?_
        exact h
    · rw [if_neg b7]
      have h := h.2 b7
      refine mm_blk (M := mm_m_X11_shed) 3 (S' := (38, [.ref 51, .int x1, .int x2, .int x3, .int x4, .int x5, .int x6, .int (x7 + (1 : Int32))], [], σ4)) (P := []) rfl trivial ?_
      exact h
theorem sg_X11_hasBy_0 (σ : mm_Sg) (x1 : Int32) (x2 : Int32) (x3 : Int32) (x4 : Int32) (x5 : Int32) (x6 : Int32) (R : Option Value × mm_Sg) (h : (∃ (σ1 : mm_Sg), mm_Ev mm_m_X11_copies [.ref 52, .ref 53] σ none σ1 ∧ (∀ σ3 : mm_Sg, σ3 = mm_u σ1 53 5 ((((1 : Int32) - x3) <<< (x2 &&& 31)) ||| (((1 : Int32) - x5) <<< (x4 &&& 31))) → ((vp_in x1 (mm_len 56)) ∧ ∀ σ6 : mm_Sg, σ6 = mm_u σ3 56 x1.toNatClampNeg (0 : Int32) → (∃ (σ8 : mm_Sg), mm_Ev mm_m_X11_daysOn [.ref 51, .ref 53, .int x6] σ6 none σ8 ∧ (∃ (v12 : Int32) (σ10 : mm_Sg), mm_Ev mm_m_X11_of [.int x1, .int (3 : Int32)] σ8 (some (.int v12)) σ10 ∧ ((vp_in v12 (mm_len 53)) ∧ ∃ (v16 : Int32) (σ14 : mm_Sg), mm_Ev mm_m_X11_of [.int x1, .int (3 : Int32)] σ10 (some (.int v16)) σ14 ∧ ((vp_in v16 (mm_len 52)) ∧ R = (some (.int ((σ8 56 x1.toNatClampNeg) - (((σ10 53 v12.toNatClampNeg) - (σ14 52 v16.toNatClampNeg)) / (2 : Int32)))), σ14))))))))) : mm_Go mm_m_X11_hasBy (0, [.ref 51, .int x1, .int x2, .int x3, .int x4, .int x5, .int x6], [], σ) R := by
  refine mm_blk (M := mm_m_X11_hasBy) 4 (S' := (8, [.ref 51, .int x1, .int x2, .int x3, .int x4, .int x5, .int x6], [.ref 53, .ref 52], σ)) (P := [mm_cl 51 = 11, mm_cl 51 = 11]) rfl ⟨rfl, rfl, trivial⟩ ?_
  obtain ⟨σ1, e2, h⟩ := h
  refine mm_cl_ (rest := []) e2 ⟨_, _, _, rfl, rfl, mm_tb_X11_copies, rfl, rfl, Nat.le_of_ble_eq_true rfl, Nat.le_of_ble_eq_true rfl, trivial⟩ ?_
  refine mm_blk (M := mm_m_X11_hasBy) 15 (S' := (30, [.ref 51, .int x1, .int x2, .int x3, .int x4, .int x5, .int x6], [], mm_u σ1 53 5 ((((1 : Int32) - x3) <<< (x2 &&& 31)) ||| (((1 : Int32) - x5) <<< (x4 &&& 31))))) (P := [mm_cl 51 = 11, vp_in (5 : Int32) (mm_len 53)]) rfl ⟨rfl, (by unfold vp_in; decide), trivial⟩ ?_
  obtain ⟨σ3, e4⟩ : ∃ z, z = mm_u σ1 53 5 ((((1 : Int32) - x3) <<< (x2 &&& 31)) ||| (((1 : Int32) - x5) <<< (x4 &&& 31))) := ⟨_, rfl⟩
  rw [← e4]
  have h := h σ3 e4
  obtain ⟨c5, h⟩ := h
  refine mm_blk (M := mm_m_X11_hasBy) 5 (S' := (37, [.ref 51, .int x1, .int x2, .int x3, .int x4, .int x5, .int x6], [], mm_u σ3 56 x1.toNatClampNeg (0 : Int32))) (P := [mm_cl 51 = 11, vp_in x1 (mm_len 56)]) rfl ⟨rfl, c5, trivial⟩ ?_
  obtain ⟨σ6, e7⟩ : ∃ z, z = mm_u σ3 56 x1.toNatClampNeg (0 : Int32) := ⟨_, rfl⟩
  rw [← e7]
  have h := h σ6 e7
  refine mm_blk (M := mm_m_X11_hasBy) 4 (S' := (44, [.ref 51, .int x1, .int x2, .int x3, .int x4, .int x5, .int x6], [.int x6, .ref 53, .ref 51], σ6)) (P := [mm_cl 51 = 11]) rfl ⟨rfl, trivial⟩ ?_
  obtain ⟨σ8, e9, h⟩ := h
  refine mm_cl_ (rest := []) e9 ⟨_, _, _, rfl, rfl, mm_tb_X11_daysOn, rfl, rfl, Nat.le_of_ble_eq_true rfl, Nat.le_of_ble_eq_true rfl, ⟨_, rfl, rfl⟩⟩ ?_
  refine mm_blk (M := mm_m_X11_hasBy) 8 (S' := (59, [.ref 51, .int x1, .int x2, .int x3, .int x4, .int x5, .int x6], [.int (3 : Int32), .int x1, .ref 53, .int (σ8 56 x1.toNatClampNeg)], σ8)) (P := [mm_cl 51 = 11, vp_in x1 (mm_len 56), mm_cl 51 = 11]) rfl ⟨rfl, c5, rfl, trivial⟩ ?_
  obtain ⟨v12, σ10, e11, h⟩ := h
  refine mm_cl_ (rest := [.ref 53, .int (σ8 56 x1.toNatClampNeg)]) e11 ⟨_, _, _, rfl, rfl, mm_tb_X11_of, rfl, rfl, Nat.le_of_ble_eq_true rfl, Nat.le_of_ble_eq_true rfl, trivial⟩ ?_
  obtain ⟨c13, h⟩ := h
  refine mm_blk (M := mm_m_X11_hasBy) 5 (S' := (69, [.ref 51, .int x1, .int x2, .int x3, .int x4, .int x5, .int x6], [.int (3 : Int32), .int x1, .ref 52, .int (σ10 53 v12.toNatClampNeg), .int (σ8 56 x1.toNatClampNeg)], σ10)) (P := [vp_in v12 (mm_len 53), mm_cl 51 = 11]) rfl ⟨c13, rfl, trivial⟩ ?_
  obtain ⟨v16, σ14, e15, h⟩ := h
  refine mm_cl_ (rest := [.ref 52, .int (σ10 53 v12.toNatClampNeg), .int (σ8 56 x1.toNatClampNeg)]) e15 ⟨_, _, _, rfl, rfl, mm_tb_X11_of, rfl, rfl, Nat.le_of_ble_eq_true rfl, Nat.le_of_ble_eq_true rfl, trivial⟩ ?_
  obtain ⟨c17, h⟩ := h
  refine mm_blk (M := mm_m_X11_hasBy) 5 (S' := (77, [.ref 51, .int x1, .int x2, .int x3, .int x4, .int x5, .int x6], [.int ((σ8 56 x1.toNatClampNeg) - (((σ10 53 v12.toNatClampNeg) - (σ14 52 v16.toNatClampNeg)) / (2 : Int32)))], σ14)) (P := [vp_in v16 (mm_len 52), ¬ (2 : Int32) = 0]) rfl ⟨c17, (by decide), trivial⟩ ?_
  subst h
  exact mm_rt_ ⟨_, _, _, rfl, ⟨_, _, rfl, rfl, rfl, rfl⟩⟩
theorem sg_X11_two_0 (σ : mm_Sg) (x1 : Int32) (x2 : Int32) (x3 : Int32) (R : Option Value × mm_Sg) (h : (∃ (v3 : Int32) (σ1 : mm_Sg), mm_Ev mm_m_X11_isDrinker [.ref 51, .int x1] σ (some (.int v3)) σ1 ∧ (((v3 = (0 : Int32) → (R = (some (.int (-1 : Int32)), σ1))) ∧ (¬ (v3 = (0 : Int32)) → (∃ (v7 : Int32) (σ5 : mm_Sg), mm_Ev mm_m_X11_isDrinker [.ref 51, .int x2] σ1 (some (.int v7)) σ5 ∧ (((v7 = (0 : Int32) → (R = (some (.int (-1 : Int32)), σ5))) ∧ (¬ (v7 = (0 : Int32)) → (((x1 = x2 → (R = (some (.int (-1 : Int32)), σ5))) ∧ (¬ (x1 = x2) → (∃ (v12 : Int32) (σ10 : mm_Sg), mm_Ev mm_m_X11_isIn [.int x3, .int (1 : Int32), .int (30 : Int32)] σ5 (some (.int v12)) σ10 ∧ (((¬ v12 = (0 : Int32) → mm_Go mm_m_X11_two (36, [.ref 51, .int x1, .int x2, .int x3, .int (0 : Int32), .null, .null], [], σ10) R) ∧ (¬ (¬ v12 = (0 : Int32)) → (R = (some (.int (-1 : Int32)), σ10)))))))))))))))))) : mm_Go mm_m_X11_two (0, [.ref 51, .int x1, .int x2, .int x3, .null, .null, .null], [], σ) R := by
  refine mm_blk (M := mm_m_X11_two) 2 (S' := (2, [.ref 51, .int x1, .int x2, .int x3, .null, .null, .null], [.int x1, .ref 51], σ)) (P := []) rfl trivial ?_
  obtain ⟨v3, σ1, e2, h⟩ := h
  refine mm_cl_ (rest := []) e2 ⟨_, _, _, rfl, rfl, mm_tb_X11_isDrinker, rfl, rfl, Nat.le_of_ble_eq_true rfl, Nat.le_of_ble_eq_true rfl, ⟨_, rfl, rfl⟩⟩ ?_
  refine mm_blk (M := mm_m_X11_two) 1 (S' := ((if v3 = (0 : Int32) then 31 else 8), [.ref 51, .int x1, .int x2, .int x3, .null, .null, .null], [], σ1)) (P := []) rfl trivial ?_
  by_cases b4 : v3 = (0 : Int32)
  · rw [if_pos b4]
    have h := h.1 b4
    refine mm_blk (M := mm_m_X11_two) 1 (S' := (32, [.ref 51, .int x1, .int x2, .int x3, .null, .null, .null], [.int (-1 : Int32)], σ1)) (P := []) rfl trivial ?_
    subst h
    exact mm_rt_ ⟨_, _, _, rfl, ⟨_, _, rfl, rfl, rfl, rfl⟩⟩
  · rw [if_neg b4]
    have h := h.2 b4
    refine mm_blk (M := mm_m_X11_two) 2 (S' := (10, [.ref 51, .int x1, .int x2, .int x3, .null, .null, .null], [.int x2, .ref 51], σ1)) (P := []) rfl trivial ?_
    obtain ⟨v7, σ5, e6, h⟩ := h
    refine mm_cl_ (rest := []) e6 ⟨_, _, _, rfl, rfl, mm_tb_X11_isDrinker, rfl, rfl, Nat.le_of_ble_eq_true rfl, Nat.le_of_ble_eq_true rfl, ⟨_, rfl, rfl⟩⟩ ?_
    refine mm_blk (M := mm_m_X11_two) 1 (S' := ((if v7 = (0 : Int32) then 31 else 16), [.ref 51, .int x1, .int x2, .int x3, .null, .null, .null], [], σ5)) (P := []) rfl trivial ?_
    by_cases b8 : v7 = (0 : Int32)
    · rw [if_pos b8]
      have h := h.1 b8
      refine mm_blk (M := mm_m_X11_two) 1 (S' := (32, [.ref 51, .int x1, .int x2, .int x3, .null, .null, .null], [.int (-1 : Int32)], σ5)) (P := []) rfl trivial ?_
      subst h
      exact mm_rt_ ⟨_, _, _, rfl, ⟨_, _, rfl, rfl, rfl, rfl⟩⟩
    · rw [if_neg b8]
      have h := h.2 b8
      refine mm_blk (M := mm_m_X11_two) 3 (S' := ((if x1 = x2 then 31 else 21), [.ref 51, .int x1, .int x2, .int x3, .null, .null, .null], [], σ5)) (P := []) rfl trivial ?_
      by_cases b9 : x1 = x2
      · rw [if_pos b9]
        have h := h.1 b9
        refine mm_blk (M := mm_m_X11_two) 1 (S' := (32, [.ref 51, .int x1, .int x2, .int x3, .null, .null, .null], [.int (-1 : Int32)], σ5)) (P := []) rfl trivial ?_
        subst h
        exact mm_rt_ ⟨_, _, _, rfl, ⟨_, _, rfl, rfl, rfl, rfl⟩⟩
      · rw [if_neg b9]
        have h := h.2 b9
        refine mm_blk (M := mm_m_X11_two) 3 (S' := (25, [.ref 51, .int x1, .int x2, .int x3, .null, .null, .null], [.int (30 : Int32), .int (1 : Int32), .int x3], σ5)) (P := []) rfl trivial ?_
        obtain ⟨v12, σ10, e11, h⟩ := h
        refine mm_cl_ (rest := []) e11 ⟨_, _, _, rfl, rfl, mm_tb_X11_isIn, rfl, rfl, Nat.le_of_ble_eq_true rfl, Nat.le_of_ble_eq_true rfl, trivial⟩ ?_
        refine mm_blk (M := mm_m_X11_two) 1 (S' := ((if ¬ v12 = (0 : Int32) then 33 else 31), [.ref 51, .int x1, .int x2, .int x3, .null, .null, .null], [], σ10)) (P := []) rfl trivial ?_
        by_cases b13 : ¬ v12 = (0 : Int32)
        · rw [if_pos b13]
          have h := h.1 b13
          refine mm_blk (M := mm_m_X11_two) 2 (S' := (36, [.ref 51, .int x1, .int x2, .int x3, .int (0 : Int32), .null, .null], [], σ10)) (P := []) rfl trivial ?_
          exact h
        · rw [if_neg b13]
          have h := h.2 b13
          refine mm_blk (M := mm_m_X11_two) 1 (S' := (32, [.ref 51, .int x1, .int x2, .int x3, .null, .null, .null], [.int (-1 : Int32)], σ10)) (P := []) rfl trivial ?_
          subst h
          exact mm_rt_ ⟨_, _, _, rfl, ⟨_, _, rfl, rfl, rfl, rfl⟩⟩
theorem sg_X11_two_36 (σ : mm_Sg) (x1 : Int32) (x2 : Int32) (x3 : Int32) (x4 : Int32) (d5 : Value) (d6 : Value) (R : Option Value × mm_Sg) (h : ((((4 : Int32) ≤ x4 → (R = (some (.int (-4 : Int32)), σ))) ∧ (¬ ((4 : Int32) ≤ x4) → (∃ (v4 : Int32) (σ2 : mm_Sg), mm_Ev mm_m_X11_hasBy [.ref 51, .int x1, .int x1, .int ((1 : Int32) - (x4 / (2 : Int32))), .int x2, .int (x4 - x4 / (2 : Int32) * (2 : Int32)), .int x3] σ (some (.int v4)) σ2 ∧ (∃ (v7 : Int32) (σ5 : mm_Sg), mm_Ev mm_m_X11_hasBy [.ref 51, .int x1, .int x1, .int (x4 / (2 : Int32)), .int x2, .int (x4 - x4 / (2 : Int32) * (2 : Int32)), .int x3] σ2 (some (.int v7)) σ5 ∧ (((v7 < v4 → mm_Go mm_m_X11_two (36, [.ref 51, .int x1, .int x2, .int x3, .int (x4 + (1 : Int32)), .int (x4 / (2 : Int32)), .int (x4 - x4 / (2 : Int32) * (2 : Int32))], [], σ5) R) ∧ (¬ (v7 < v4) → (∃ (v11 : Int32) (σ9 : mm_Sg), mm_Ev mm_m_X11_hasBy [.ref 51, .int x2, .int x1, .int (x4 / (2 : Int32)), .int x2, .int ((1 : Int32) - (x4 - x4 / (2 : Int32) * (2 : Int32))), .int x3] σ5 (some (.int v11)) σ9 ∧ (∃ (v14 : Int32) (σ12 : mm_Sg), mm_Ev mm_m_X11_hasBy [.ref 51, .int x2, .int x1, .int (x4 / (2 : Int32)), .int x2, .int (x4 - x4 / (2 : Int32) * (2 : Int32)), .int x3] σ9 (some (.int v14)) σ12 ∧ (((v14 < v11 → mm_Go mm_m_X11_two (36, [.ref 51, .int x1, .int x2, .int x3, .int (x4 + (1 : Int32)), .int (x4 / (2 : Int32)), .int (x4 - x4 / (2 : Int32) * (2 : Int32))], [], σ12) R) ∧ (¬ (v14 < v11) → (R = (some (.int (((10 : Int32) * (x4 / (2 : Int32))) + (x4 - x4 / (2 : Int32) * (2 : Int32)))), σ12)))))))))))))))) : mm_Go mm_m_X11_two (36, [.ref 51, .int x1, .int x2, .int x3, .int x4, d5, d6], [], σ) R := by
  refine mm_blk (M := mm_m_X11_two) 3 (S' := ((if (4 : Int32) ≤ x4 then 127 else 42), [.ref 51, .int x1, .int x2, .int x3, .int x4, d5, d6], [], σ)) (P := []) rfl trivial ?_
  by_cases b1 : (4 : Int32) ≤ x4
  · rw [if_pos b1]
    have h := h.1 b1
    refine mm_blk (M := mm_m_X11_two) 1 (S' := (129, [.ref 51, .int x1, .int x2, .int x3, .int x4, d5, d6], [.int (-4 : Int32)], σ)) (P := []) rfl trivial ?_
    subst h
    exact mm_rt_ ⟨_, _, _, rfl, ⟨_, _, rfl, rfl, rfl, rfl⟩⟩
  · rw [if_neg b1]
    have h := h.2 b1
    refine mm_blk (M := mm_m_X11_two) 17 (S' := (65, [.ref 51, .int x1, .int x2, .int x3, .int x4, .int (x4 / (2 : Int32)), .int (x4 - x4 / (2 : Int32) * (2 : Int32))], [.int x3, .int (x4 - x4 / (2 : Int32) * (2 : Int32)), .int x2, .int ((1 : Int32) - (x4 / (2 : Int32))), .int x1, .int x1, .ref 51], σ)) (P := [¬ (2 : Int32) = 0, ¬ (2 : Int32) = 0]) rfl ⟨(by decide), (by decide), trivial⟩ ?_
    obtain ⟨v4, σ2, e3, h⟩ := h
    refine mm_cl_ (rest := []) e3 ⟨_, _, _, rfl, rfl, mm_tb_X11_hasBy, rfl, rfl, Nat.le_of_ble_eq_true rfl, Nat.le_of_ble_eq_true rfl, ⟨_, rfl, rfl⟩⟩ ?_
    refine mm_blk (M := mm_m_X11_two) 7 (S' := (77, [.ref 51, .int x1, .int x2, .int x3, .int x4, .int (x4 / (2 : Int32)), .int (x4 - x4 / (2 : Int32) * (2 : Int32))], [.int x3, .int (x4 - x4 / (2 : Int32) * (2 : Int32)), .int x2, .int (x4 / (2 : Int32)), .int x1, .int x1, .ref 51, .int v4], σ2)) (P := []) rfl trivial ?_
    obtain ⟨v7, σ5, e6, h⟩ := h
    refine mm_cl_ (rest := [.int v4]) e6 ⟨_, _, _, rfl, rfl, mm_tb_X11_hasBy, rfl, rfl, Nat.le_of_ble_eq_true rfl, Nat.le_of_ble_eq_true rfl, ⟨_, rfl, rfl⟩⟩ ?_
    refine mm_blk (M := mm_m_X11_two) 1 (S' := ((if v7 < v4 then 121 else 83), [.ref 51, .int x1, .int x2, .int x3, .int x4, .int (x4 / (2 : Int32)), .int (x4 - x4 / (2 : Int32) * (2 : Int32))], [], σ5)) (P := []) rfl trivial ?_
    by_cases b8 : v7 < v4
    · rw [if_pos b8]
      have h := h.1 b8
      refine mm_blk (M := mm_m_X11_two) 2 (S' := (36, [.ref 51, .int x1, .int x2, .int x3, .int (x4 + (1 : Int32)), .int (x4 / (2 : Int32)), .int (x4 - x4 / (2 : Int32) * (2 : Int32))], [], σ5)) (P := []) rfl trivial ?_
      exact h
    · rw [if_neg b8]
      have h := h.2 b8
      refine mm_blk (M := mm_m_X11_two) 9 (S' := (94, [.ref 51, .int x1, .int x2, .int x3, .int x4, .int (x4 / (2 : Int32)), .int (x4 - x4 / (2 : Int32) * (2 : Int32))], [.int x3, .int ((1 : Int32) - (x4 - x4 / (2 : Int32) * (2 : Int32))), .int x2, .int (x4 / (2 : Int32)), .int x1, .int x2, .ref 51], σ5)) (P := []) rfl trivial ?_
      obtain ⟨v11, σ9, e10, h⟩ := h
      refine mm_cl_ (rest := []) e10 ⟨_, _, _, rfl, rfl, mm_tb_X11_hasBy, rfl, rfl, Nat.le_of_ble_eq_true rfl, Nat.le_of_ble_eq_true rfl, ⟨_, rfl, rfl⟩⟩ ?_
      refine mm_blk (M := mm_m_X11_two) 7 (S' := (106, [.ref 51, .int x1, .int x2, .int x3, .int x4, .int (x4 / (2 : Int32)), .int (x4 - x4 / (2 : Int32) * (2 : Int32))], [.int x3, .int (x4 - x4 / (2 : Int32) * (2 : Int32)), .int x2, .int (x4 / (2 : Int32)), .int x1, .int x2, .ref 51, .int v11], σ9)) (P := []) rfl trivial ?_
      obtain ⟨v14, σ12, e13, h⟩ := h
      refine mm_cl_ (rest := [.int v11]) e13 ⟨_, _, _, rfl, rfl, mm_tb_X11_hasBy, rfl, rfl, Nat.le_of_ble_eq_true rfl, Nat.le_of_ble_eq_true rfl, ⟨_, rfl, rfl⟩⟩ ?_
      refine mm_blk (M := mm_m_X11_two) 1 (S' := ((if v14 < v11 then 121 else 112), [.ref 51, .int x1, .int x2, .int x3, .int x4, .int (x4 / (2 : Int32)), .int (x4 - x4 / (2 : Int32) * (2 : Int32))], [], σ12)) (P := []) rfl trivial ?_
      by_cases b15 : v14 < v11
      · rw [if_pos b15]
        have h := h.1 b15
        refine mm_blk (M := mm_m_X11_two) 2 (S' := (36, [.ref 51, .int x1, .int x2, .int x3, .int (x4 + (1 : Int32)), .int (x4 / (2 : Int32)), .int (x4 - x4 / (2 : Int32) * (2 : Int32))], [], σ12)) (P := []) rfl trivial ?_
        exact h
      · rw [if_neg b15]
        have h := h.2 b15
        refine mm_blk (M := mm_m_X11_two) 5 (S' := (120, [.ref 51, .int x1, .int x2, .int x3, .int x4, .int (x4 / (2 : Int32)), .int (x4 - x4 / (2 : Int32) * (2 : Int32))], [.int (((10 : Int32) * (x4 / (2 : Int32))) + (x4 - x4 / (2 : Int32) * (2 : Int32)))], σ12)) (P := []) rfl trivial ?_
        subst h
        exact mm_rt_ ⟨_, _, _, rfl, ⟨_, _, rfl, rfl, rfl, rfl⟩⟩
theorem sg_X11_gcd_0 (σ : mm_Sg) (l0 : Int64) (l2 : Int64) (R : Option Value × mm_Sg) (h : mm_Go mm_m_X11_gcd (6, [.long l0, .null, .long l2, .null, .long l0, .null, .long l2, .null, .null, .null], [], σ) R) : mm_Go mm_m_X11_gcd (0, [.long l0, .null, .long l2, .null, .null, .null, .null, .null, .null, .null], [], σ) R := by
  refine mm_blk (M := mm_m_X11_gcd) 4 (S' := (6, [.long l0, .null, .long l2, .null, .long l0, .null, .long l2, .null, .null, .null], [], σ)) (P := []) rfl trivial ?_
  exact h
theorem sg_X11_gcd_6 (σ : mm_Sg) (l0 : Int64) (l2 : Int64) (l4 : Int64) (l6 : Int64) (d8 : Value) (R : Option Value × mm_Sg) (h : ((((lg_cmp l6 (0 : Int64)) = (0 : Int32) → (R = (some (.long l4), σ))) ∧ (¬ ((lg_cmp l6 (0 : Int64)) = (0 : Int32)) → ((¬ l6 = 0) ∧ mm_Go mm_m_X11_gcd (6, [.long l0, .null, .long l2, .null, .long l6, .null, .long (l4 - l4 / l6 * l6), .null, .long (l4 - l4 / l6 * l6), .null], [], σ) R))))) : mm_Go mm_m_X11_gcd (6, [.long l0, .null, .long l2, .null, .long l4, .null, .long l6, .null, d8, .null], [], σ) R := by
  refine mm_blk (M := mm_m_X11_gcd) 4 (S' := ((if (lg_cmp l6 (0 : Int64)) = (0 : Int32) then 31 else 13), [.long l0, .null, .long l2, .null, .long l4, .null, .long l6, .null, d8, .null], [], σ)) (P := []) rfl trivial ?_
  by_cases b1 : (lg_cmp l6 (0 : Int64)) = (0 : Int32)
  · rw [if_pos b1]
    have h := h.1 b1
    refine mm_blk (M := mm_m_X11_gcd) 1 (S' := (33, [.long l0, .null, .long l2, .null, .long l4, .null, .long l6, .null, d8, .null], [.long l4], σ)) (P := []) rfl trivial ?_
    subst h
    exact mm_rt_ ⟨_, _, _, rfl, ⟨_, rfl, rfl, rfl⟩⟩
  · rw [if_neg b1]
    have h := h.2 b1
    obtain ⟨c2, h⟩ := h
    refine mm_blk (M := mm_m_X11_gcd) 9 (S' := (6, [.long l0, .null, .long l2, .null, .long l6, .null, .long (l4 - l4 / l6 * l6), .null, .long (l4 - l4 / l6 * l6), .null], [], σ)) (P := [¬ l6 = 0]) rfl ⟨c2, trivial⟩ ?_
    exact h
theorem sg_X11_partOf_0 (σ : mm_Sg) (l0 : Int64) (l2 : Int64) (x4 : Int32) (R : Option Value × mm_Sg) (h : (((¬ (lg_cmp l0 (0 : Int64)) = (0 : Int32) → (((¬ x4 = (0 : Int32) → (∃ (w5 : Int64) (σ3 : mm_Sg), mm_Ev mm_m_X11_gcd [.long l0, .long l2] σ (some (.long w5)) σ3 ∧ ((¬ w5 = 0) ∧ R = (some (.long (l2 / w5)), σ3)))) ∧ (¬ (¬ x4 = (0 : Int32)) → (∃ (w9 : Int64) (σ7 : mm_Sg), mm_Ev mm_m_X11_gcd [.long l0, .long l2] σ (some (.long w9)) σ7 ∧ ((¬ w9 = 0) ∧ R = (some (.long (l0 / w9)), σ7))))))) ∧ (¬ (¬ (lg_cmp l0 (0 : Int64)) = (0 : Int32)) → (R = (some (.long (x4.toInt64)), σ)))))) : mm_Go mm_m_X11_partOf (0, [.long l0, .null, .long l2, .null, .int x4], [], σ) R := by
  refine mm_blk (M := mm_m_X11_partOf) 4 (S' := ((if ¬ (lg_cmp l0 (0 : Int64)) = (0 : Int32) then 10 else 6), [.long l0, .null, .long l2, .null, .int x4], [], σ)) (P := []) rfl trivial ?_
  by_cases b1 : ¬ (lg_cmp l0 (0 : Int64)) = (0 : Int32)
  · rw [if_pos b1]
    have h := h.1 b1
    refine mm_blk (M := mm_m_X11_partOf) 2 (S' := ((if ¬ x4 = (0 : Int32) then 19 else 15), [.long l0, .null, .long l2, .null, .int x4], [], σ)) (P := []) rfl trivial ?_
    by_cases b2 : ¬ x4 = (0 : Int32)
    · rw [if_pos b2]
      have h := h.1 b2
      refine mm_blk (M := mm_m_X11_partOf) 3 (S' := (22, [.long l0, .null, .long l2, .null, .int x4], [.long l2, .long l0, .long l2], σ)) (P := []) rfl trivial ?_
      obtain ⟨w5, σ3, e4, h⟩ := h
      refine mm_cl_ (rest := [.long l2]) e4 ⟨_, _, _, rfl, rfl, mm_tb_X11_gcd, rfl, rfl, Nat.le_of_ble_eq_true rfl, Nat.le_of_ble_eq_true rfl, trivial⟩ ?_
      obtain ⟨c6, h⟩ := h
      refine mm_blk (M := mm_m_X11_partOf) 1 (S' := (26, [.long l0, .null, .long l2, .null, .int x4], [.long (l2 / w5)], σ3)) (P := [¬ w5 = 0]) rfl ⟨c6, trivial⟩ ?_
      subst h
      exact mm_rt_ ⟨_, _, _, rfl, ⟨_, rfl, rfl, rfl⟩⟩
    · rw [if_neg b2]
      have h := h.2 b2
      refine mm_blk (M := mm_m_X11_partOf) 4 (S' := (22, [.long l0, .null, .long l2, .null, .int x4], [.long l2, .long l0, .long l0], σ)) (P := []) rfl trivial ?_
      obtain ⟨w9, σ7, e8, h⟩ := h
      refine mm_cl_ (rest := [.long l0]) e8 ⟨_, _, _, rfl, rfl, mm_tb_X11_gcd, rfl, rfl, Nat.le_of_ble_eq_true rfl, Nat.le_of_ble_eq_true rfl, trivial⟩ ?_
      obtain ⟨c10, h⟩ := h
      refine mm_blk (M := mm_m_X11_partOf) 1 (S' := (26, [.long l0, .null, .long l2, .null, .int x4], [.long (l0 / w9)], σ7)) (P := [¬ w9 = 0]) rfl ⟨c10, trivial⟩ ?_
      subst h
      exact mm_rt_ ⟨_, _, _, rfl, ⟨_, rfl, rfl, rfl⟩⟩
  · rw [if_neg b1]
    have h := h.2 b1
    refine mm_blk (M := mm_m_X11_partOf) 2 (S' := (9, [.long l0, .null, .long l2, .null, .int x4], [.long x4.toInt64], σ)) (P := []) rfl trivial ?_
    subst h
    exact mm_rt_ ⟨_, _, _, rfl, ⟨_, rfl, rfl, rfl⟩⟩
theorem sg_X11_falls_0 (σ : mm_Sg) (x1 : Int32) (x2 : Int32) (x3 : Int32) (x4 : Int32) (R : Option Value × mm_Sg) (h : (∃ (v3 : Int32) (σ1 : mm_Sg), mm_Ev mm_m_X11_isIn [.int x1, .int (0 : Int32), .int (7 : Int32)] σ (some (.int v3)) σ1 ∧ (((v3 = (0 : Int32) → (R = (some (.long (1000000001 : Int64)), σ1))) ∧ (¬ (v3 = (0 : Int32)) → (∃ (v7 : Int32) (σ5 : mm_Sg), mm_Ev mm_m_X11_isIn [.int x2, .int (2 : Int32), .int (20 : Int32)] σ1 (some (.int v7)) σ5 ∧ (((v7 = (0 : Int32) → (R = (some (.long (1000000001 : Int64)), σ5))) ∧ (¬ (v7 = (0 : Int32)) → (∃ (v11 : Int32) (σ9 : mm_Sg), mm_Ev mm_m_X11_isIn [.int x3, .int (0 : Int32), .int (999 : Int32)] σ5 (some (.int v11)) σ9 ∧ (((v11 = (0 : Int32) → (R = (some (.long (1000000001 : Int64)), σ9))) ∧ (¬ (v11 = (0 : Int32)) → (∃ (v15 : Int32) (σ13 : mm_Sg), mm_Ev mm_m_X11_isIn [.int x4, .int (0 : Int32), .int (1 : Int32)] σ9 (some (.int v15)) σ13 ∧ (((¬ v15 = (0 : Int32) → mm_Go mm_m_X11_falls (54, [.ref 51, .int x1, .int x2, .int x3, .int x4, .long (0 : Int64), .null, .long (1 : Int64), .null, .int (0 : Int32), .null, .null, .null], [], σ13) R) ∧ (¬ (¬ v15 = (0 : Int32)) → (R = (some (.long (1000000001 : Int64)), σ13))))))))))))))))))) : mm_Go mm_m_X11_falls (0, [.ref 51, .int x1, .int x2, .int x3, .int x4, .null, .null, .null, .null, .null, .null, .null, .null], [], σ) R := by
  refine mm_blk (M := mm_m_X11_falls) 3 (S' := (4, [.ref 51, .int x1, .int x2, .int x3, .int x4, .null, .null, .null, .null, .null, .null, .null, .null], [.int (7 : Int32), .int (0 : Int32), .int x1], σ)) (P := []) rfl trivial ?_
  obtain ⟨v3, σ1, e2, h⟩ := h
  refine mm_cl_ (rest := []) e2 ⟨_, _, _, rfl, rfl, mm_tb_X11_isIn, rfl, rfl, Nat.le_of_ble_eq_true rfl, Nat.le_of_ble_eq_true rfl, trivial⟩ ?_
  refine mm_blk (M := mm_m_X11_falls) 1 (S' := ((if v3 = (0 : Int32) then 41 else 10), [.ref 51, .int x1, .int x2, .int x3, .int x4, .null, .null, .null, .null, .null, .null, .null, .null], [], σ1)) (P := []) rfl trivial ?_
  by_cases b4 : v3 = (0 : Int32)
  · rw [if_pos b4]
    have h := h.1 b4
    refine mm_blk (M := mm_m_X11_falls) 1 (S' := (44, [.ref 51, .int x1, .int x2, .int x3, .int x4, .null, .null, .null, .null, .null, .null, .null, .null], [.long (1000000001 : Int64)], σ1)) (P := []) rfl trivial ?_
    subst h
    exact mm_rt_ ⟨_, _, _, rfl, ⟨_, rfl, rfl, rfl⟩⟩
  · rw [if_neg b4]
    have h := h.2 b4
    refine mm_blk (M := mm_m_X11_falls) 3 (S' := (14, [.ref 51, .int x1, .int x2, .int x3, .int x4, .null, .null, .null, .null, .null, .null, .null, .null], [.int (20 : Int32), .int (2 : Int32), .int x2], σ1)) (P := []) rfl trivial ?_
    obtain ⟨v7, σ5, e6, h⟩ := h
    refine mm_cl_ (rest := []) e6 ⟨_, _, _, rfl, rfl, mm_tb_X11_isIn, rfl, rfl, Nat.le_of_ble_eq_true rfl, Nat.le_of_ble_eq_true rfl, trivial⟩ ?_
    refine mm_blk (M := mm_m_X11_falls) 1 (S' := ((if v7 = (0 : Int32) then 41 else 20), [.ref 51, .int x1, .int x2, .int x3, .int x4, .null, .null, .null, .null, .null, .null, .null, .null], [], σ5)) (P := []) rfl trivial ?_
    by_cases b8 : v7 = (0 : Int32)
    · rw [if_pos b8]
      have h := h.1 b8
      refine mm_blk (M := mm_m_X11_falls) 1 (S' := (44, [.ref 51, .int x1, .int x2, .int x3, .int x4, .null, .null, .null, .null, .null, .null, .null, .null], [.long (1000000001 : Int64)], σ5)) (P := []) rfl trivial ?_
      subst h
      exact mm_rt_ ⟨_, _, _, rfl, ⟨_, rfl, rfl, rfl⟩⟩
    · rw [if_neg b8]
      have h := h.2 b8
      refine mm_blk (M := mm_m_X11_falls) 3 (S' := (25, [.ref 51, .int x1, .int x2, .int x3, .int x4, .null, .null, .null, .null, .null, .null, .null, .null], [.int (999 : Int32), .int (0 : Int32), .int x3], σ5)) (P := []) rfl trivial ?_
      obtain ⟨v11, σ9, e10, h⟩ := h
      refine mm_cl_ (rest := []) e10 ⟨_, _, _, rfl, rfl, mm_tb_X11_isIn, rfl, rfl, Nat.le_of_ble_eq_true rfl, Nat.le_of_ble_eq_true rfl, trivial⟩ ?_
      refine mm_blk (M := mm_m_X11_falls) 1 (S' := ((if v11 = (0 : Int32) then 41 else 31), [.ref 51, .int x1, .int x2, .int x3, .int x4, .null, .null, .null, .null, .null, .null, .null, .null], [], σ9)) (P := []) rfl trivial ?_
      by_cases b12 : v11 = (0 : Int32)
      · rw [if_pos b12]
        have h := h.1 b12
        refine mm_blk (M := mm_m_X11_falls) 1 (S' := (44, [.ref 51, .int x1, .int x2, .int x3, .int x4, .null, .null, .null, .null, .null, .null, .null, .null], [.long (1000000001 : Int64)], σ9)) (P := []) rfl trivial ?_
        subst h
        exact mm_rt_ ⟨_, _, _, rfl, ⟨_, rfl, rfl, rfl⟩⟩
      · rw [if_neg b12]
        have h := h.2 b12
        refine mm_blk (M := mm_m_X11_falls) 3 (S' := (35, [.ref 51, .int x1, .int x2, .int x3, .int x4, .null, .null, .null, .null, .null, .null, .null, .null], [.int (1 : Int32), .int (0 : Int32), .int x4], σ9)) (P := []) rfl trivial ?_
        obtain ⟨v15, σ13, e14, h⟩ := h
        refine mm_cl_ (rest := []) e14 ⟨_, _, _, rfl, rfl, mm_tb_X11_isIn, rfl, rfl, Nat.le_of_ble_eq_true rfl, Nat.le_of_ble_eq_true rfl, trivial⟩ ?_
        refine mm_blk (M := mm_m_X11_falls) 1 (S' := ((if ¬ v15 = (0 : Int32) then 45 else 41), [.ref 51, .int x1, .int x2, .int x3, .int x4, .null, .null, .null, .null, .null, .null, .null, .null], [], σ13)) (P := []) rfl trivial ?_
        by_cases b16 : ¬ v15 = (0 : Int32)
        · rw [if_pos b16]
          have h := h.1 b16
          refine mm_blk (M := mm_m_X11_falls) 6 (S' := (54, [.ref 51, .int x1, .int x2, .int x3, .int x4, .long (0 : Int64), .null, .long (1 : Int64), .null, .int (0 : Int32), .null, .null, .null], [], σ13)) (P := []) rfl trivial ?_
          exact h
        · rw [if_neg b16]
          have h := h.2 b16
          refine mm_blk (M := mm_m_X11_falls) 1 (S' := (44, [.ref 51, .int x1, .int x2, .int x3, .int x4, .null, .null, .null, .null, .null, .null, .null, .null], [.long (1000000001 : Int64)], σ13)) (P := []) rfl trivial ?_
          subst h
          exact mm_rt_ ⟨_, _, _, rfl, ⟨_, rfl, rfl, rfl⟩⟩
theorem sg_X11_falls_54 (σ : mm_Sg) (x1 : Int32) (x2 : Int32) (x3 : Int32) (x4 : Int32) (l5 : Int64) (l7 : Int64) (x9 : Int32) (R : Option Value × mm_Sg) (h : (((x1 ≤ x9 → mm_Go mm_m_X11_falls (76, [.ref 51, .int x1, .int x2, .int x3, .int x4, .long l5, .null, .long l7, .null, .int (0 : Int32), .null, .null, .null], [], σ) R) ∧ (¬ (x1 ≤ x9) → mm_Go mm_m_X11_falls (54, [.ref 51, .int x1, .int x2, .int x3, .int x4, .long l5, .null, .long (l7 * (x2.toInt64)), .null, .int (x9 + (1 : Int32)), .null, .null, .null], [], σ) R)))) : mm_Go mm_m_X11_falls (54, [.ref 51, .int x1, .int x2, .int x3, .int x4, .long l5, .null, .long l7, .null, .int x9, .null, .null, .null], [], σ) R := by
  refine mm_blk (M := mm_m_X11_falls) 3 (S' := ((if x1 ≤ x9 then 73 else 60), [.ref 51, .int x1, .int x2, .int x3, .int x4, .long l5, .null, .long l7, .null, .int x9, .null, .null, .null], [], σ)) (P := []) rfl trivial ?_
  by_cases b1 : x1 ≤ x9
  · rw [if_pos b1]
    have h := h.1 b1
    refine mm_blk (M := mm_m_X11_falls) 2 (S' := (76, [.ref 51, .int x1, .int x2, .int x3, .int x4, .long l5, .null, .long l7, .null, .int (0 : Int32), .null, .null, .null], [], σ)) (P := []) rfl trivial ?_
    exact h
  · rw [if_neg b1]
    have h := h.2 b1
    refine mm_blk (M := mm_m_X11_falls) 7 (S' := (54, [.ref 51, .int x1, .int x2, .int x3, .int x4, .long l5, .null, .long (l7 * (x2.toInt64)), .null, .int (x9 + (1 : Int32)), .null, .null, .null], [], σ)) (P := []) rfl trivial ?_
    exact h
theorem sg_X11_falls_76 (σ : mm_Sg) (x1 : Int32) (x2 : Int32) (x3 : Int32) (x4 : Int32) (l5 : Int64) (l7 : Int64) (x9 : Int32) (d10 : Value) (d12 : Value) (R : Option Value × mm_Sg) (h : (((((1 : Int32) <<< (x1 &&& 31)) ≤ x9 → (∃ (w4 : Int64) (σ2 : mm_Sg), mm_Ev mm_m_X11_partOf [.long l5, .long l7, .int x4] σ (some (.long w4)) σ2 ∧ (R = (some (.long w4), σ2)))) ∧ (¬ (((1 : Int32) <<< (x1 &&& 31)) ≤ x9) → (∃ (σ5 : mm_Sg), mm_Ev mm_m_X11_copies [.ref 52, .ref 53] σ none σ5 ∧ mm_Go mm_m_X11_falls (101, [.ref 51, .int x1, .int x2, .int x3, .int x4, .long l5, .null, .long l7, .null, .int x9, .long (1 : Int64), .null, .int (0 : Int32)], [], σ5) R))))) : mm_Go mm_m_X11_falls (76, [.ref 51, .int x1, .int x2, .int x3, .int x4, .long l5, .null, .long l7, .null, .int x9, d10, .null, d12], [], σ) R := by
  refine mm_blk (M := mm_m_X11_falls) 5 (S' := ((if ((1 : Int32) <<< (x1 &&& 31)) ≤ x9 then 190 else 84), [.ref 51, .int x1, .int x2, .int x3, .int x4, .long l5, .null, .long l7, .null, .int x9, d10, .null, d12], [], σ)) (P := []) rfl trivial ?_
  by_cases b1 : ((1 : Int32) <<< (x1 &&& 31)) ≤ x9
  · rw [if_pos b1]
    have h := h.1 b1
    refine mm_blk (M := mm_m_X11_falls) 3 (S' := (196, [.ref 51, .int x1, .int x2, .int x3, .int x4, .long l5, .null, .long l7, .null, .int x9, d10, .null, d12], [.int x4, .long l7, .long l5], σ)) (P := []) rfl trivial ?_
    obtain ⟨w4, σ2, e3, h⟩ := h
    refine mm_cl_ (rest := []) e3 ⟨_, _, _, rfl, rfl, mm_tb_X11_partOf, rfl, rfl, Nat.le_of_ble_eq_true rfl, Nat.le_of_ble_eq_true rfl, trivial⟩ ?_
    subst h
    exact mm_rt_ ⟨_, _, _, rfl, ⟨_, rfl, rfl, rfl⟩⟩
  · rw [if_neg b1]
    have h := h.2 b1
    refine mm_blk (M := mm_m_X11_falls) 6 (S' := (95, [.ref 51, .int x1, .int x2, .int x3, .int x4, .long l5, .null, .long l7, .null, .int x9, .long (1 : Int64), .null, d12], [.ref 53, .ref 52], σ)) (P := [mm_cl 51 = 11, mm_cl 51 = 11]) rfl ⟨rfl, rfl, trivial⟩ ?_
    obtain ⟨σ5, e6, h⟩ := h
    refine mm_cl_ (rest := []) e6 ⟨_, _, _, rfl, rfl, mm_tb_X11_copies, rfl, rfl, Nat.le_of_ble_eq_true rfl, Nat.le_of_ble_eq_true rfl, trivial⟩ ?_
    refine mm_blk (M := mm_m_X11_falls) 2 (S' := (101, [.ref 51, .int x1, .int x2, .int x3, .int x4, .long l5, .null, .long l7, .null, .int x9, .long (1 : Int64), .null, .int (0 : Int32)], [], σ5)) (P := []) rfl trivial ?_
    exact h
theorem sg_X11_falls_101 (σ : mm_Sg) (x1 : Int32) (x2 : Int32) (x3 : Int32) (x4 : Int32) (l5 : Int64) (l7 : Int64) (x9 : Int32) (l10 : Int64) (x12 : Int32) (R : Option Value × mm_Sg) (h : (((x1 ≤ x12 → (∃ (v4 : Int32) (σ2 : mm_Sg), mm_Ev mm_m_X11_allOwed [.ref 53] σ (some (.int v4)) σ2 ∧ (((v4 < x3 → mm_Go mm_m_X11_falls (76, [.ref 51, .int x1, .int x2, .int x3, .int x4, .long (l5 + (0 : Int64)), .null, .long l7, .null, .int (x9 + (1 : Int32)), .long l10, .null, .int x12], [], σ2) R) ∧ (¬ (v4 < x3) → mm_Go mm_m_X11_falls (76, [.ref 51, .int x1, .int x2, .int x3, .int x4, .long (l5 + l10), .null, .long l7, .null, .int (x9 + (1 : Int32)), .long l10, .null, .int x12], [], σ2) R))))) ∧ (¬ (x1 ≤ x12) → (∃ (v8 : Int32) (σ6 : mm_Sg), mm_Ev mm_m_X11_has [.int x9, .int x12] σ (some (.int v8)) σ6 ∧ (((v8 = (0 : Int32) → mm_Go mm_m_X11_falls (127, [.ref 51, .int x1, .int x2, .int x3, .int x4, .long l5, .null, .long l7, .null, .int x9, .long l10, .null, .int x12], [.long ((x2 - (1 : Int32)).toInt64), .long l10], σ6) R) ∧ (¬ (v8 = (0 : Int32)) → mm_Go mm_m_X11_falls (127, [.ref 51, .int x1, .int x2, .int x3, .int x4, .long l5, .null, .long l7, .null, .int x9, .long l10, .null, .int x12], [.long (1 : Int64), .long l10], σ6) R)))))))) : mm_Go mm_m_X11_falls (101, [.ref 51, .int x1, .int x2, .int x3, .int x4, .long l5, .null, .long l7, .null, .int x9, .long l10, .null, .int x12], [], σ) R := by
  refine mm_blk (M := mm_m_X11_falls) 3 (S' := ((if x1 ≤ x12 then 162 else 107), [.ref 51, .int x1, .int x2, .int x3, .int x4, .long l5, .null, .long l7, .null, .int x9, .long l10, .null, .int x12], [], σ)) (P := []) rfl trivial ?_
  by_cases b1 : x1 ≤ x12
  · rw [if_pos b1]
    have h := h.1 b1
    refine mm_blk (M := mm_m_X11_falls) 3 (S' := (168, [.ref 51, .int x1, .int x2, .int x3, .int x4, .long l5, .null, .long l7, .null, .int x9, .long l10, .null, .int x12], [.ref 53, .long l5], σ)) (P := [mm_cl 51 = 11]) rfl ⟨rfl, trivial⟩ ?_
    obtain ⟨v4, σ2, e3, h⟩ := h
    refine mm_cl_ (rest := [.long l5]) e3 ⟨_, _, _, rfl, rfl, mm_tb_X11_allOwed, rfl, rfl, Nat.le_of_ble_eq_true rfl, Nat.le_of_ble_eq_true rfl, trivial⟩ ?_
    refine mm_blk (M := mm_m_X11_falls) 2 (S' := ((if v4 < x3 then 180 else 175), [.ref 51, .int x1, .int x2, .int x3, .int x4, .long l5, .null, .long l7, .null, .int x9, .long l10, .null, .int x12], [.long l5], σ2)) (P := []) rfl trivial ?_
    by_cases b5 : v4 < x3
    · rw [if_pos b5]
      have h := h.1 b5
      refine mm_blk (M := mm_m_X11_falls) 5 (S' := (76, [.ref 51, .int x1, .int x2, .int x3, .int x4, .long (l5 + (0 : Int64)), .null, .long l7, .null, .int (x9 + (1 : Int32)), .long l10, .null, .int x12], [], σ2)) (P := []) rfl trivial ?_
      exact h
    · rw [if_neg b5]
      have h := h.2 b5
      refine mm_blk (M := mm_m_X11_falls) 6 (S' := (76, [.ref 51, .int x1, .int x2, .int x3, .int x4, .long (l5 + l10), .null, .long l7, .null, .int (x9 + (1 : Int32)), .long l10, .null, .int x12], [], σ2)) (P := []) rfl trivial ?_
      exact h
  · rw [if_neg b1]
    have h := h.2 b1
    refine mm_blk (M := mm_m_X11_falls) 3 (S' := (113, [.ref 51, .int x1, .int x2, .int x3, .int x4, .long l5, .null, .long l7, .null, .int x9, .long l10, .null, .int x12], [.int x12, .int x9, .long l10], σ)) (P := []) rfl trivial ?_
    obtain ⟨v8, σ6, e7, h⟩ := h
    refine mm_cl_ (rest := [.long l10]) e7 ⟨_, _, _, rfl, rfl, mm_tb_X11_has, rfl, rfl, Nat.le_of_ble_eq_true rfl, Nat.le_of_ble_eq_true rfl, trivial⟩ ?_
    refine mm_blk (M := mm_m_X11_falls) 1 (S' := ((if v8 = (0 : Int32) then 123 else 119), [.ref 51, .int x1, .int x2, .int x3, .int x4, .long l5, .null, .long l7, .null, .int x9, .long l10, .null, .int x12], [.long l10], σ6)) (P := []) rfl trivial ?_
    by_cases b9 : v8 = (0 : Int32)
    · rw [if_pos b9]
      have h := h.1 b9
      refine mm_blk (M := mm_m_X11_falls) 4 (S' := (127, [.ref 51, .int x1, .int x2, .int x3, .int x4, .long l5, .null, .long l7, .null, .int x9, .long l10, .null, .int x12], [.long ((x2 - (1 : Int32)).toInt64), .long l10], σ6)) (P := []) rfl trivial ?_
      exact h
    · rw [if_neg b9]
      have h := h.2 b9
      refine mm_blk (M := mm_m_X11_falls) 2 (S' := (127, [.ref 51, .int x1, .int x2, .int x3, .int x4, .long l5, .null, .long l7, .null, .int x9, .long l10, .null, .int x12], [.long (1 : Int64), .long l10], σ6)) (P := []) rfl trivial ?_
      exact h
theorem sg_X11_falls_127 (σ : mm_Sg) (x1 : Int32) (x2 : Int32) (x3 : Int32) (x4 : Int32) (l5 : Int64) (l7 : Int64) (x9 : Int32) (l10 : Int64) (x12 : Int32) (s0 : Int64) (s1 : Int64) (R : Option Value × mm_Sg) (h : (∃ (v3 : Int32) (σ1 : mm_Sg), mm_Ev mm_m_X11_has [.int x9, .int x12] σ (some (.int v3)) σ1 ∧ (((v3 = (0 : Int32) → (∃ (σ5 : mm_Sg), mm_Ev mm_m_X11_day [.ref 51, .ref 53] σ1 none σ5 ∧ mm_Go mm_m_X11_falls (101, [.ref 51, .int x1, .int x2, .int x3, .int x4, .long l5, .null, .long l7, .null, .int x9, .long (s1 * s0), .null, .int (x12 + (1 : Int32))], [], σ5) R)) ∧ (¬ (v3 = (0 : Int32)) → (∀ σ7 : mm_Sg, σ7 = mm_u σ1 53 3 (31 : Int32) → (∃ (σ9 : mm_Sg), mm_Ev mm_m_X11_day [.ref 51, .ref 53] σ7 none σ9 ∧ mm_Go mm_m_X11_falls (101, [.ref 51, .int x1, .int x2, .int x3, .int x4, .long l5, .null, .long l7, .null, .int x9, .long (s1 * s0), .null, .int (x12 + (1 : Int32))], [], σ9) R))))))) : mm_Go mm_m_X11_falls (127, [.ref 51, .int x1, .int x2, .int x3, .int x4, .long l5, .null, .long l7, .null, .int x9, .long l10, .null, .int x12], [.long s0, .long s1], σ) R := by
  refine mm_blk (M := mm_m_X11_falls) 4 (S' := (134, [.ref 51, .int x1, .int x2, .int x3, .int x4, .long l5, .null, .long l7, .null, .int x9, .long (s1 * s0), .null, .int x12], [.int x12, .int x9], σ)) (P := []) rfl trivial ?_
  obtain ⟨v3, σ1, e2, h⟩ := h
  refine mm_cl_ (rest := []) e2 ⟨_, _, _, rfl, rfl, mm_tb_X11_has, rfl, rfl, Nat.le_of_ble_eq_true rfl, Nat.le_of_ble_eq_true rfl, trivial⟩ ?_
  refine mm_blk (M := mm_m_X11_falls) 1 (S' := ((if v3 = (0 : Int32) then 148 else 140), [.ref 51, .int x1, .int x2, .int x3, .int x4, .long l5, .null, .long l7, .null, .int x9, .long (s1 * s0), .null, .int x12], [], σ1)) (P := []) rfl trivial ?_
  by_cases b4 : v3 = (0 : Int32)
  · rw [if_pos b4]
    have h := h.1 b4
    refine mm_blk (M := mm_m_X11_falls) 3 (S' := (153, [.ref 51, .int x1, .int x2, .int x3, .int x4, .long l5, .null, .long l7, .null, .int x9, .long (s1 * s0), .null, .int x12], [.ref 53, .ref 51], σ1)) (P := [mm_cl 51 = 11]) rfl ⟨rfl, trivial⟩ ?_
    obtain ⟨σ5, e6, h⟩ := h
    refine mm_cl_ (rest := []) e6 ⟨_, _, _, rfl, rfl, mm_tb_X11_day, rfl, rfl, Nat.le_of_ble_eq_true rfl, Nat.le_of_ble_eq_true rfl, ⟨_, rfl, rfl⟩⟩ ?_
    refine mm_blk (M := mm_m_X11_falls) 2 (S' := (101, [.ref 51, .int x1, .int x2, .int x3, .int x4, .long l5, .null, .long l7, .null, .int x9, .long (s1 * s0), .null, .int (x12 + (1 : Int32))], [], σ5)) (P := []) rfl trivial ?_
    exact h
  · rw [if_neg b4]
    have h := h.2 b4
    refine mm_blk (M := mm_m_X11_falls) 5 (S' := (148, [.ref 51, .int x1, .int x2, .int x3, .int x4, .long l5, .null, .long l7, .null, .int x9, .long (s1 * s0), .null, .int x12], [], mm_u σ1 53 3 (31 : Int32))) (P := [mm_cl 51 = 11, vp_in (3 : Int32) (mm_len 53)]) rfl ⟨rfl, (by unfold vp_in; decide), trivial⟩ ?_
    obtain ⟨σ7, e8⟩ : ∃ z, z = mm_u σ1 53 3 (31 : Int32) := ⟨_, rfl⟩
    rw [← e8]
    have h := h σ7 e8
    refine mm_blk (M := mm_m_X11_falls) 3 (S' := (153, [.ref 51, .int x1, .int x2, .int x3, .int x4, .long l5, .null, .long l7, .null, .int x9, .long (s1 * s0), .null, .int x12], [.ref 53, .ref 51], σ7)) (P := [mm_cl 51 = 11]) rfl ⟨rfl, trivial⟩ ?_
    obtain ⟨σ9, e10, h⟩ := h
    refine mm_cl_ (rest := []) e10 ⟨_, _, _, rfl, rfl, mm_tb_X11_day, rfl, rfl, Nat.le_of_ble_eq_true rfl, Nat.le_of_ble_eq_true rfl, ⟨_, rfl, rfl⟩⟩ ?_
    refine mm_blk (M := mm_m_X11_falls) 2 (S' := (101, [.ref 51, .int x1, .int x2, .int x3, .int x4, .long l5, .null, .long l7, .null, .int x9, .long (s1 * s0), .null, .int (x12 + (1 : Int32))], [], σ9)) (P := []) rfl trivial ?_
    exact h
theorem sg_X11_mean_0 (σ : mm_Sg) (x1 : Int32) (R : Option Value × mm_Sg) (h : (∃ (v3 : Int32) (σ1 : mm_Sg), mm_Ev mm_m_X11_isIn [.int x1, .int (0 : Int32), .int (1 : Int32)] σ (some (.int v3)) σ1 ∧ (((v3 = (0 : Int32) → (R = (some (.long (1000000001 : Int64)), σ1))) ∧ (¬ (v3 = (0 : Int32)) → (∃ (v7 : Int32) (σ5 : mm_Sg), mm_Ev mm_m_X11_allTired [.ref 52] σ1 (some (.int v7)) σ5 ∧ (∃ (w10 : Int64) (σ8 : mm_Sg), mm_Ev mm_m_X11_partOf [.long v7.toInt64, .long (5 : Int64), .int x1] σ5 (some (.long w10)) σ8 ∧ (R = (some (.long w10), σ8))))))))) : mm_Go mm_m_X11_mean (0, [.ref 51, .int x1], [], σ) R := by
  refine mm_blk (M := mm_m_X11_mean) 3 (S' := (3, [.ref 51, .int x1], [.int (1 : Int32), .int (0 : Int32), .int x1], σ)) (P := []) rfl trivial ?_
  obtain ⟨v3, σ1, e2, h⟩ := h
  refine mm_cl_ (rest := []) e2 ⟨_, _, _, rfl, rfl, mm_tb_X11_isIn, rfl, rfl, Nat.le_of_ble_eq_true rfl, Nat.le_of_ble_eq_true rfl, trivial⟩ ?_
  refine mm_blk (M := mm_m_X11_mean) 1 (S' := ((if v3 = (0 : Int32) then 27 else 9), [.ref 51, .int x1], [], σ1)) (P := []) rfl trivial ?_
  by_cases b4 : v3 = (0 : Int32)
  · rw [if_pos b4]
    have h := h.1 b4
    refine mm_blk (M := mm_m_X11_mean) 1 (S' := (30, [.ref 51, .int x1], [.long (1000000001 : Int64)], σ1)) (P := []) rfl trivial ?_
    subst h
    exact mm_rt_ ⟨_, _, _, rfl, ⟨_, rfl, rfl, rfl⟩⟩
  · rw [if_neg b4]
    have h := h.2 b4
    refine mm_blk (M := mm_m_X11_mean) 2 (S' := (13, [.ref 51, .int x1], [.ref 52], σ1)) (P := [mm_cl 51 = 11]) rfl ⟨rfl, trivial⟩ ?_
    obtain ⟨v7, σ5, e6, h⟩ := h
    refine mm_cl_ (rest := []) e6 ⟨_, _, _, rfl, rfl, mm_tb_X11_allTired, rfl, rfl, Nat.le_of_ble_eq_true rfl, Nat.le_of_ble_eq_true rfl, trivial⟩ ?_
    refine mm_blk (M := mm_m_X11_mean) 3 (S' := (21, [.ref 51, .int x1], [.int x1, .long (5 : Int64), .long v7.toInt64], σ5)) (P := []) rfl trivial ?_
    obtain ⟨w10, σ8, e9, h⟩ := h
    refine mm_cl_ (rest := []) e9 ⟨_, _, _, rfl, rfl, mm_tb_X11_partOf, rfl, rfl, Nat.le_of_ble_eq_true rfl, Nat.le_of_ble_eq_true rfl, trivial⟩ ?_
    refine mm_blk (M := mm_m_X11_mean) 1 (S' := (30, [.ref 51, .int x1], [.long w10], σ8)) (P := []) rfl trivial ?_
    subst h
    exact mm_rt_ ⟨_, _, _, rfl, ⟨_, rfl, rfl, rfl⟩⟩
theorem sg_X11_forged_0 (σ : mm_Sg) (x1 : Int32) (R : Option Value × mm_Sg) (h : (∃ (v3 : Int32) (σ1 : mm_Sg), mm_Ev mm_m_X11_wrongRow [.ref 51, .int x1, .int (-1 : Int32)] σ (some (.int v3)) σ1 ∧ (((v3 = (0 : Int32) → mm_Go mm_m_X11_forged (15, [.ref 51, .int x1, .int v3, .int (0 : Int32)], [], σ1) R) ∧ (¬ (v3 = (0 : Int32)) → (R = (some (.int v3), σ1))))))) : mm_Go mm_m_X11_forged (0, [.ref 51, .int x1, .null, .null], [], σ) R := by
  refine mm_blk (M := mm_m_X11_forged) 3 (S' := (3, [.ref 51, .int x1, .null, .null], [.int (-1 : Int32), .int x1, .ref 51], σ)) (P := []) rfl trivial ?_
  obtain ⟨v3, σ1, e2, h⟩ := h
  refine mm_cl_ (rest := []) e2 ⟨_, _, _, rfl, rfl, mm_tb_X11_wrongRow, rfl, rfl, Nat.le_of_ble_eq_true rfl, Nat.le_of_ble_eq_true rfl, ⟨_, rfl, rfl⟩⟩ ?_
  refine mm_blk (M := mm_m_X11_forged) 3 (S' := ((if v3 = (0 : Int32) then 13 else 11), [.ref 51, .int x1, .int v3, .null], [], σ1)) (P := []) rfl trivial ?_
  by_cases b4 : v3 = (0 : Int32)
  · rw [if_pos b4]
    have h := h.1 b4
    refine mm_blk (M := mm_m_X11_forged) 2 (S' := (15, [.ref 51, .int x1, .int v3, .int (0 : Int32)], [], σ1)) (P := []) rfl trivial ?_
    exact h
  · rw [if_neg b4]
    have h := h.2 b4
    refine mm_blk (M := mm_m_X11_forged) 1 (S' := (12, [.ref 51, .int x1, .int v3, .null], [.int v3], σ1)) (P := []) rfl trivial ?_
    subst h
    exact mm_rt_ ⟨_, _, _, rfl, ⟨_, _, rfl, rfl, rfl, rfl⟩⟩
theorem sg_X11_forged_15 (σ : mm_Sg) (x1 : Int32) (x2 : Int32) (x3 : Int32) (R : Option Value × mm_Sg) (h : ((vp_in x1 (mm_len 63)) ∧ (((σ 63 x1.toNatClampNeg) ≤ x3 → (R = (some (.int (-4 : Int32)), σ))) ∧ (¬ ((σ 63 x1.toNatClampNeg) ≤ x3) → (∃ (v5 : Int32) (σ3 : mm_Sg), mm_Ev mm_m_X11_isDrinker [.ref 51, .int x3] σ (some (.int v5)) σ3 ∧ (((v5 = (0 : Int32) → (R = (some (.int x3), σ3))) ∧ (¬ (v5 = (0 : Int32)) → ((vp_in (((100 : Int32) * x1) + x3) (mm_len 64)) ∧ ∃ (v10 : Int32) (σ8 : mm_Sg), mm_Ev mm_m_X11_of [.int x3, .int (3 : Int32)] σ3 (some (.int v10)) σ8 ∧ ((vp_in v10 (mm_len 52)) ∧ (((σ3 64 (((100 : Int32) * x1) + x3).toNatClampNeg) = (σ8 52 v10.toNatClampNeg) → mm_Go mm_m_X11_forged (15, [.ref 51, .int x1, .int x2, .int (x3 + (1 : Int32))], [], σ8) R) ∧ (¬ ((σ3 64 (((100 : Int32) * x1) + x3).toNatClampNeg) = (σ8 52 v10.toNatClampNeg)) → (R = (some (.int x3), σ8)))))))))))))) : mm_Go mm_m_X11_forged (15, [.ref 51, .int x1, .int x2, .int x3], [], σ) R := by
  obtain ⟨c1, h⟩ := h
  refine mm_blk (M := mm_m_X11_forged) 6 (S' := ((if (σ 63 x1.toNatClampNeg) ≤ x3 then 65 else 25), [.ref 51, .int x1, .int x2, .int x3], [], σ)) (P := [mm_cl 51 = 11, vp_in x1 (mm_len 63)]) rfl ⟨rfl, c1, trivial⟩ ?_
  by_cases b2 : (σ 63 x1.toNatClampNeg) ≤ x3
  · rw [if_pos b2]
    have h := h.1 b2
    refine mm_blk (M := mm_m_X11_forged) 1 (S' := (67, [.ref 51, .int x1, .int x2, .int x3], [.int (-4 : Int32)], σ)) (P := []) rfl trivial ?_
    subst h
    exact mm_rt_ ⟨_, _, _, rfl, ⟨_, _, rfl, rfl, rfl, rfl⟩⟩
  · rw [if_neg b2]
    have h := h.2 b2
    refine mm_blk (M := mm_m_X11_forged) 2 (S' := (27, [.ref 51, .int x1, .int x2, .int x3], [.int x3, .ref 51], σ)) (P := []) rfl trivial ?_
    obtain ⟨v5, σ3, e4, h⟩ := h
    refine mm_cl_ (rest := []) e4 ⟨_, _, _, rfl, rfl, mm_tb_X11_isDrinker, rfl, rfl, Nat.le_of_ble_eq_true rfl, Nat.le_of_ble_eq_true rfl, ⟨_, rfl, rfl⟩⟩ ?_
    refine mm_blk (M := mm_m_X11_forged) 1 (S' := ((if v5 = (0 : Int32) then 57 else 33), [.ref 51, .int x1, .int x2, .int x3], [], σ3)) (P := []) rfl trivial ?_
    by_cases b6 : v5 = (0 : Int32)
    · rw [if_pos b6]
      have h := h.1 b6
      refine mm_blk (M := mm_m_X11_forged) 1 (S' := (58, [.ref 51, .int x1, .int x2, .int x3], [.int x3], σ3)) (P := []) rfl trivial ?_
      subst h
      exact mm_rt_ ⟨_, _, _, rfl, ⟨_, _, rfl, rfl, rfl, rfl⟩⟩
    · rw [if_neg b6]
      have h := h.2 b6
      obtain ⟨c7, h⟩ := h
      refine mm_blk (M := mm_m_X11_forged) 12 (S' := (50, [.ref 51, .int x1, .int x2, .int x3], [.int (3 : Int32), .int x3, .ref 52, .int (σ3 64 (((100 : Int32) * x1) + x3).toNatClampNeg)], σ3)) (P := [mm_cl 51 = 11, vp_in (((100 : Int32) * x1) + x3) (mm_len 64), mm_cl 51 = 11]) rfl ⟨rfl, c7, rfl, trivial⟩ ?_
      obtain ⟨v10, σ8, e9, h⟩ := h
      refine mm_cl_ (rest := [.ref 52, .int (σ3 64 (((100 : Int32) * x1) + x3).toNatClampNeg)]) e9 ⟨_, _, _, rfl, rfl, mm_tb_X11_of, rfl, rfl, Nat.le_of_ble_eq_true rfl, Nat.le_of_ble_eq_true rfl, trivial⟩ ?_
      obtain ⟨c11, h⟩ := h
      refine mm_blk (M := mm_m_X11_forged) 2 (S' := ((if (σ3 64 (((100 : Int32) * x1) + x3).toNatClampNeg) = (σ8 52 v10.toNatClampNeg) then 59 else 57), [.ref 51, .int x1, .int x2, .int x3], [], σ8)) (P := [vp_in v10 (mm_len 52)]) rfl ⟨c11, trivial⟩ ?_
      by_cases b12 : (σ3 64 (((100 : Int32) * x1) + x3).toNatClampNeg) = (σ8 52 v10.toNatClampNeg)
      · rw [if_pos b12]
        have h := h.1 b12
        refine mm_blk (M := mm_m_X11_forged) 2 (S' := (15, [.ref 51, .int x1, .int x2, .int (x3 + (1 : Int32))], [], σ8)) (P := []) rfl trivial ?_
        exact h
      · rw [if_neg b12]
        have h := h.2 b12
        refine mm_blk (M := mm_m_X11_forged) 1 (S' := (58, [.ref 51, .int x1, .int x2, .int x3], [.int x3], σ8)) (P := []) rfl trivial ?_
        subst h
        exact mm_rt_ ⟨_, _, _, rfl, ⟨_, _, rfl, rfl, rfl, rfl⟩⟩
theorem sg_X11_judge_0 (σ : mm_Sg) (x1 : Int32) (R : Option Value × mm_Sg) (h : (∃ (v3 : Int32) (σ1 : mm_Sg), mm_Ev mm_m_X11_wrongRow [.ref 51, .int x1, .int (-1 : Int32)] σ (some (.int v3)) σ1 ∧ (((v3 = (0 : Int32) → (∃ (σ5 : mm_Sg), mm_Ev mm_m_X11_copies [.ref 52, .ref 53] σ1 none σ5 ∧ mm_Go mm_m_X11_judge (26, [.ref 51, .int x1, .int v3, .int (0 : Int32)], [], σ5) R)) ∧ (¬ (v3 = (0 : Int32)) → (R = (some (.int v3), σ1))))))) : mm_Go mm_m_X11_judge (0, [.ref 51, .int x1, .null, .null], [], σ) R := by
  refine mm_blk (M := mm_m_X11_judge) 3 (S' := (3, [.ref 51, .int x1, .null, .null], [.int (-1 : Int32), .int x1, .ref 51], σ)) (P := []) rfl trivial ?_
  obtain ⟨v3, σ1, e2, h⟩ := h
  refine mm_cl_ (rest := []) e2 ⟨_, _, _, rfl, rfl, mm_tb_X11_wrongRow, rfl, rfl, Nat.le_of_ble_eq_true rfl, Nat.le_of_ble_eq_true rfl, ⟨_, rfl, rfl⟩⟩ ?_
  refine mm_blk (M := mm_m_X11_judge) 3 (S' := ((if v3 = (0 : Int32) then 13 else 11), [.ref 51, .int x1, .int v3, .null], [], σ1)) (P := []) rfl trivial ?_
  by_cases b4 : v3 = (0 : Int32)
  · rw [if_pos b4]
    have h := h.1 b4
    refine mm_blk (M := mm_m_X11_judge) 4 (S' := (21, [.ref 51, .int x1, .int v3, .null], [.ref 53, .ref 52], σ1)) (P := [mm_cl 51 = 11, mm_cl 51 = 11]) rfl ⟨rfl, rfl, trivial⟩ ?_
    obtain ⟨σ5, e6, h⟩ := h
    refine mm_cl_ (rest := []) e6 ⟨_, _, _, rfl, rfl, mm_tb_X11_copies, rfl, rfl, Nat.le_of_ble_eq_true rfl, Nat.le_of_ble_eq_true rfl, trivial⟩ ?_
    refine mm_blk (M := mm_m_X11_judge) 2 (S' := (26, [.ref 51, .int x1, .int v3, .int (0 : Int32)], [], σ5)) (P := []) rfl trivial ?_
    exact h
  · rw [if_neg b4]
    have h := h.2 b4
    refine mm_blk (M := mm_m_X11_judge) 1 (S' := (12, [.ref 51, .int x1, .int v3, .null], [.int v3], σ1)) (P := []) rfl trivial ?_
    subst h
    exact mm_rt_ ⟨_, _, _, rfl, ⟨_, _, rfl, rfl, rfl, rfl⟩⟩
theorem sg_X11_judge_26 (σ : mm_Sg) (x1 : Int32) (x2 : Int32) (x3 : Int32) (R : Option Value × mm_Sg) (h : ((vp_in x1 (mm_len 63)) ∧ (((σ 63 x1.toNatClampNeg) ≤ x3 → (R = (some (.int (-4 : Int32)), σ))) ∧ (¬ ((σ 63 x1.toNatClampNeg) ≤ x3) → (∃ (v5 : Int32) (σ3 : mm_Sg), mm_Ev mm_m_X11_isTold [.ref 51, .int x1, .int x3, .int (σ 53 2)] σ (some (.int v5)) σ3 ∧ (((¬ v5 = (0 : Int32) → (∃ (σ7 : mm_Sg), mm_Ev mm_m_X11_day [.ref 51, .ref 53] σ3 none σ7 ∧ mm_Go mm_m_X11_judge (26, [.ref 51, .int x1, .int x2, .int (x3 + (1 : Int32))], [], σ7) R)) ∧ (¬ (¬ v5 = (0 : Int32)) → (R = (some (.int x3), σ3)))))))))) : mm_Go mm_m_X11_judge (26, [.ref 51, .int x1, .int x2, .int x3], [], σ) R := by
  obtain ⟨c1, h⟩ := h
  refine mm_blk (M := mm_m_X11_judge) 6 (S' := ((if (σ 63 x1.toNatClampNeg) ≤ x3 then 67 else 36), [.ref 51, .int x1, .int x2, .int x3], [], σ)) (P := [mm_cl 51 = 11, vp_in x1 (mm_len 63)]) rfl ⟨rfl, c1, trivial⟩ ?_
  by_cases b2 : (σ 63 x1.toNatClampNeg) ≤ x3
  · rw [if_pos b2]
    have h := h.1 b2
    refine mm_blk (M := mm_m_X11_judge) 1 (S' := (69, [.ref 51, .int x1, .int x2, .int x3], [.int (-4 : Int32)], σ)) (P := []) rfl trivial ?_
    subst h
    exact mm_rt_ ⟨_, _, _, rfl, ⟨_, _, rfl, rfl, rfl, rfl⟩⟩
  · rw [if_neg b2]
    have h := h.2 b2
    refine mm_blk (M := mm_m_X11_judge) 7 (S' := (45, [.ref 51, .int x1, .int x2, .int x3], [.int (σ 53 2), .int x3, .int x1, .ref 51], σ)) (P := [mm_cl 51 = 11, vp_in (2 : Int32) (mm_len 53)]) rfl ⟨rfl, (by unfold vp_in; decide), trivial⟩ ?_
    obtain ⟨v5, σ3, e4, h⟩ := h
    refine mm_cl_ (rest := []) e4 ⟨_, _, _, rfl, rfl, mm_tb_X11_isTold, rfl, rfl, Nat.le_of_ble_eq_true rfl, Nat.le_of_ble_eq_true rfl, ⟨_, rfl, rfl⟩⟩ ?_
    refine mm_blk (M := mm_m_X11_judge) 1 (S' := ((if ¬ v5 = (0 : Int32) then 53 else 51), [.ref 51, .int x1, .int x2, .int x3], [], σ3)) (P := []) rfl trivial ?_
    by_cases b6 : ¬ v5 = (0 : Int32)
    · rw [if_pos b6]
      have h := h.1 b6
      refine mm_blk (M := mm_m_X11_judge) 3 (S' := (58, [.ref 51, .int x1, .int x2, .int x3], [.ref 53, .ref 51], σ3)) (P := [mm_cl 51 = 11]) rfl ⟨rfl, trivial⟩ ?_
      obtain ⟨σ7, e8, h⟩ := h
      refine mm_cl_ (rest := []) e8 ⟨_, _, _, rfl, rfl, mm_tb_X11_day, rfl, rfl, Nat.le_of_ble_eq_true rfl, Nat.le_of_ble_eq_true rfl, ⟨_, rfl, rfl⟩⟩ ?_
      refine mm_blk (M := mm_m_X11_judge) 2 (S' := (26, [.ref 51, .int x1, .int x2, .int (x3 + (1 : Int32))], [], σ7)) (P := []) rfl trivial ?_
      exact h
    · rw [if_neg b6]
      have h := h.2 b6
      refine mm_blk (M := mm_m_X11_judge) 1 (S' := (52, [.ref 51, .int x1, .int x2, .int x3], [.int x3], σ3)) (P := []) rfl trivial ?_
      subst h
      exact mm_rt_ ⟨_, _, _, rfl, ⟨_, _, rfl, rfl, rfl, rfl⟩⟩
theorem sg_X11_drawn_0 (σ : mm_Sg) (x1 : Int32) (R : Option Value × mm_Sg) (h : (∀ σ1 : mm_Sg, σ1 = mm_u σ 51 11 (((σ 51 11) * (1103515245 : Int32)) + (12345 : Int32)) → ((¬ x1 = 0) ∧ R = (some (.int ((((σ1 51 11) &&& (2147483647 : Int32)) / (65536 : Int32)) - (((σ1 51 11) &&& (2147483647 : Int32)) / (65536 : Int32)) / x1 * x1)), σ1)))) : mm_Go mm_m_X11_drawn (0, [.ref 51, .int x1], [], σ) R := by
  refine mm_blk (M := mm_m_X11_drawn) 8 (S' := (15, [.ref 51, .int x1], [], mm_u σ 51 11 (((σ 51 11) * (1103515245 : Int32)) + (12345 : Int32)))) (P := [mm_cl 51 = 11, mm_cl 51 = 11]) rfl ⟨rfl, rfl, trivial⟩ ?_
  obtain ⟨σ1, e2⟩ : ∃ z, z = mm_u σ 51 11 (((σ 51 11) * (1103515245 : Int32)) + (12345 : Int32)) := ⟨_, rfl⟩
  rw [← e2]
  have h := h σ1 e2
  obtain ⟨c3, h⟩ := h
  refine mm_blk (M := mm_m_X11_drawn) 8 (S' := (27, [.ref 51, .int x1], [.int ((((σ1 51 11) &&& (2147483647 : Int32)) / (65536 : Int32)) - (((σ1 51 11) &&& (2147483647 : Int32)) / (65536 : Int32)) / x1 * x1)], σ1)) (P := [mm_cl 51 = 11, ¬ (65536 : Int32) = 0, ¬ x1 = 0]) rfl ⟨rfl, (by decide), c3, trivial⟩ ?_
  subst h
  exact mm_rt_ ⟨_, _, _, rfl, ⟨_, _, rfl, rfl, rfl, rfl⟩⟩
theorem sg_X11_years_0 (σ : mm_Sg) (x1 : Int32) (x2 : Int32) (x3 : Int32) (R : Option Value × mm_Sg) (h : (∃ (v3 : Int32) (σ1 : mm_Sg), mm_Ev mm_m_X11_isIn [.int x1, .int (1 : Int32), .int (20 : Int32)] σ (some (.int v3)) σ1 ∧ (((v3 = (0 : Int32) → (R = (some (.int (-1 : Int32)), σ1))) ∧ (¬ (v3 = (0 : Int32)) → (∃ (v7 : Int32) (σ5 : mm_Sg), mm_Ev mm_m_X11_isIn [.int x3, .int (0 : Int32), .int (1 : Int32)] σ1 (some (.int v7)) σ5 ∧ (((¬ v7 = (0 : Int32) → (∀ σ9 : mm_Sg, σ9 = mm_u σ5 51 11 x2 → mm_Go mm_m_X11_years (32, [.ref 51, .int x1, .int x2, .int x3, .int (0 : Int32), .int (0 : Int32), .null], [], σ9) R)) ∧ (¬ (¬ v7 = (0 : Int32)) → (R = (some (.int (-1 : Int32)), σ5))))))))))) : mm_Go mm_m_X11_years (0, [.ref 51, .int x1, .int x2, .int x3, .null, .null, .null], [], σ) R := by
  refine mm_blk (M := mm_m_X11_years) 3 (S' := (4, [.ref 51, .int x1, .int x2, .int x3, .null, .null, .null], [.int (20 : Int32), .int (1 : Int32), .int x1], σ)) (P := []) rfl trivial ?_
  obtain ⟨v3, σ1, e2, h⟩ := h
  refine mm_cl_ (rest := []) e2 ⟨_, _, _, rfl, rfl, mm_tb_X11_isIn, rfl, rfl, Nat.le_of_ble_eq_true rfl, Nat.le_of_ble_eq_true rfl, trivial⟩ ?_
  refine mm_blk (M := mm_m_X11_years) 1 (S' := ((if v3 = (0 : Int32) then 19 else 10), [.ref 51, .int x1, .int x2, .int x3, .null, .null, .null], [], σ1)) (P := []) rfl trivial ?_
  by_cases b4 : v3 = (0 : Int32)
  · rw [if_pos b4]
    have h := h.1 b4
    refine mm_blk (M := mm_m_X11_years) 1 (S' := (20, [.ref 51, .int x1, .int x2, .int x3, .null, .null, .null], [.int (-1 : Int32)], σ1)) (P := []) rfl trivial ?_
    subst h
    exact mm_rt_ ⟨_, _, _, rfl, ⟨_, _, rfl, rfl, rfl, rfl⟩⟩
  · rw [if_neg b4]
    have h := h.2 b4
    refine mm_blk (M := mm_m_X11_years) 3 (S' := (13, [.ref 51, .int x1, .int x2, .int x3, .null, .null, .null], [.int (1 : Int32), .int (0 : Int32), .int x3], σ1)) (P := []) rfl trivial ?_
    obtain ⟨v7, σ5, e6, h⟩ := h
    refine mm_cl_ (rest := []) e6 ⟨_, _, _, rfl, rfl, mm_tb_X11_isIn, rfl, rfl, Nat.le_of_ble_eq_true rfl, Nat.le_of_ble_eq_true rfl, trivial⟩ ?_
    refine mm_blk (M := mm_m_X11_years) 1 (S' := ((if ¬ v7 = (0 : Int32) then 21 else 19), [.ref 51, .int x1, .int x2, .int x3, .null, .null, .null], [], σ5)) (P := []) rfl trivial ?_
    by_cases b8 : ¬ v7 = (0 : Int32)
    · rw [if_pos b8]
      have h := h.1 b8
      refine mm_blk (M := mm_m_X11_years) 3 (S' := (26, [.ref 51, .int x1, .int x2, .int x3, .null, .null, .null], [], mm_u σ5 51 11 x2)) (P := [mm_cl 51 = 11]) rfl ⟨rfl, trivial⟩ ?_
      obtain ⟨σ9, e10⟩ : ∃ z, z = mm_u σ5 51 11 x2 := ⟨_, rfl⟩
      rw [← e10]
      have h := h σ9 e10
      refine mm_blk (M := mm_m_X11_years) 4 (S' := (32, [.ref 51, .int x1, .int x2, .int x3, .int (0 : Int32), .int (0 : Int32), .null], [], σ9)) (P := []) rfl trivial ?_
      exact h
    · rw [if_neg b8]
      have h := h.2 b8
      refine mm_blk (M := mm_m_X11_years) 1 (S' := (20, [.ref 51, .int x1, .int x2, .int x3, .null, .null, .null], [.int (-1 : Int32)], σ5)) (P := []) rfl trivial ?_
      subst h
      exact mm_rt_ ⟨_, _, _, rfl, ⟨_, _, rfl, rfl, rfl, rfl⟩⟩
theorem sg_X11_years_32 (σ : mm_Sg) (x1 : Int32) (x2 : Int32) (x3 : Int32) (x4 : Int32) (x5 : Int32) (d6 : Value) (R : Option Value × mm_Sg) (h : (((x1 ≤ x5 → (R = (some (.int x4), σ))) ∧ (¬ (x1 ≤ x5) → (∃ (σ2 : mm_Sg), mm_Ev mm_m_X11_copies [.ref 52, .ref 53] σ none σ2 ∧ mm_Go mm_m_X11_years (52, [.ref 51, .int x1, .int x2, .int x3, .int x4, .int x5, .int (0 : Int32)], [], σ2) R))))) : mm_Go mm_m_X11_years (32, [.ref 51, .int x1, .int x2, .int x3, .int x4, .int x5, d6], [], σ) R := by
  refine mm_blk (M := mm_m_X11_years) 3 (S' := ((if x1 ≤ x5 then 129 else 38), [.ref 51, .int x1, .int x2, .int x3, .int x4, .int x5, d6], [], σ)) (P := []) rfl trivial ?_
  by_cases b1 : x1 ≤ x5
  · rw [if_pos b1]
    have h := h.1 b1
    refine mm_blk (M := mm_m_X11_years) 1 (S' := (131, [.ref 51, .int x1, .int x2, .int x3, .int x4, .int x5, d6], [.int x4], σ)) (P := []) rfl trivial ?_
    subst h
    exact mm_rt_ ⟨_, _, _, rfl, ⟨_, _, rfl, rfl, rfl, rfl⟩⟩
  · rw [if_neg b1]
    have h := h.2 b1
    refine mm_blk (M := mm_m_X11_years) 4 (S' := (46, [.ref 51, .int x1, .int x2, .int x3, .int x4, .int x5, d6], [.ref 53, .ref 52], σ)) (P := [mm_cl 51 = 11, mm_cl 51 = 11]) rfl ⟨rfl, rfl, trivial⟩ ?_
    obtain ⟨σ2, e3, h⟩ := h
    refine mm_cl_ (rest := []) e3 ⟨_, _, _, rfl, rfl, mm_tb_X11_copies, rfl, rfl, Nat.le_of_ble_eq_true rfl, Nat.le_of_ble_eq_true rfl, trivial⟩ ?_
    refine mm_blk (M := mm_m_X11_years) 2 (S' := (52, [.ref 51, .int x1, .int x2, .int x3, .int x4, .int x5, .int (0 : Int32)], [], σ2)) (P := []) rfl trivial ?_
    exact h
theorem sg_X11_years_52 (σ : mm_Sg) (x1 : Int32) (x2 : Int32) (x3 : Int32) (x4 : Int32) (x5 : Int32) (x6 : Int32) (R : Option Value × mm_Sg) (h : ((((σ 52 0) ≤ x6 → (∃ (σ2 : mm_Sg), mm_Ev mm_m_X11_daysOn [.ref 51, .ref 53, .int (12 : Int32)] σ none σ2 ∧ (((¬ x3 = (0 : Int32) → (∃ (v7 : Int32) (σ5 : mm_Sg), mm_Ev mm_m_X11_bits [.int (σ2 53 3)] σ2 (some (.int v7)) σ5 ∧ mm_Go mm_m_X11_years (32, [.ref 51, .int x1, .int x2, .int x3, .int (x4 + v7), .int (x5 + (1 : Int32)), .int x6], [], σ5) R)) ∧ (¬ (¬ x3 = (0 : Int32)) → (∃ (v10 : Int32) (σ8 : mm_Sg), mm_Ev mm_m_X11_allOwed [.ref 53] σ2 (some (.int v10)) σ8 ∧ mm_Go mm_m_X11_years (32, [.ref 51, .int x1, .int x2, .int x3, .int (x4 + v10), .int (x5 + (1 : Int32)), .int x6], [], σ8) R)))))) ∧ (¬ ((σ 52 0) ≤ x6) → (∃ (v13 : Int32) (σ11 : mm_Sg), mm_Ev mm_m_X11_of [.int x6, .int (2 : Int32)] σ (some (.int v13)) σ11 ∧ (∃ (v16 : Int32) (σ14 : mm_Sg), mm_Ev mm_m_X11_drawn [.ref 51, .int (5 : Int32)] σ11 (some (.int v16)) σ14 ∧ ((vp_in v13 (mm_len 53)) ∧ ∀ σ18 : mm_Sg, σ18 = mm_u σ14 53 v13.toNatClampNeg v16 → mm_Go mm_m_X11_years (52, [.ref 51, .int x1, .int x2, .int x3, .int x4, .int x5, .int (x6 + (1 : Int32))], [], σ18) R))))))) : mm_Go mm_m_X11_years (52, [.ref 51, .int x1, .int x2, .int x3, .int x4, .int x5, .int x6], [], σ) R := by
  refine mm_blk (M := mm_m_X11_years) 6 (S' := ((if (σ 52 0) ≤ x6 then 85 else 63), [.ref 51, .int x1, .int x2, .int x3, .int x4, .int x5, .int x6], [], σ)) (P := [mm_cl 51 = 11, vp_in (0 : Int32) (mm_len 52)]) rfl ⟨rfl, (by unfold vp_in; decide), trivial⟩ ?_
  by_cases b1 : (σ 52 0) ≤ x6
  · rw [if_pos b1]
    have h := h.1 b1
    refine mm_blk (M := mm_m_X11_years) 4 (S' := (92, [.ref 51, .int x1, .int x2, .int x3, .int x4, .int x5, .int x6], [.int (12 : Int32), .ref 53, .ref 51], σ)) (P := [mm_cl 51 = 11]) rfl ⟨rfl, trivial⟩ ?_
    obtain ⟨σ2, e3, h⟩ := h
    refine mm_cl_ (rest := []) e3 ⟨_, _, _, rfl, rfl, mm_tb_X11_daysOn, rfl, rfl, Nat.le_of_ble_eq_true rfl, Nat.le_of_ble_eq_true rfl, ⟨_, rfl, rfl⟩⟩ ?_
    refine mm_blk (M := mm_m_X11_years) 3 (S' := ((if ¬ x3 = (0 : Int32) then 111 else 101), [.ref 51, .int x1, .int x2, .int x3, .int x4, .int x5, .int x6], [.int x4], σ2)) (P := []) rfl trivial ?_
    by_cases b4 : ¬ x3 = (0 : Int32)
    · rw [if_pos b4]
      have h := h.1 b4
      refine mm_blk (M := mm_m_X11_years) 4 (S' := (117, [.ref 51, .int x1, .int x2, .int x3, .int x4, .int x5, .int x6], [.int (σ2 53 3), .int x4], σ2)) (P := [mm_cl 51 = 11, vp_in (3 : Int32) (mm_len 53)]) rfl ⟨rfl, (by unfold vp_in; decide), trivial⟩ ?_
      obtain ⟨v7, σ5, e6, h⟩ := h
      refine mm_cl_ (rest := [.int x4]) e6 ⟨_, _, _, rfl, rfl, mm_tb_X11_bits, rfl, rfl, Nat.le_of_ble_eq_true rfl, Nat.le_of_ble_eq_true rfl, trivial⟩ ?_
      refine mm_blk (M := mm_m_X11_years) 4 (S' := (32, [.ref 51, .int x1, .int x2, .int x3, .int (x4 + v7), .int (x5 + (1 : Int32)), .int x6], [], σ5)) (P := []) rfl trivial ?_
      exact h
    · rw [if_neg b4]
      have h := h.2 b4
      refine mm_blk (M := mm_m_X11_years) 2 (S' := (105, [.ref 51, .int x1, .int x2, .int x3, .int x4, .int x5, .int x6], [.ref 53, .int x4], σ2)) (P := [mm_cl 51 = 11]) rfl ⟨rfl, trivial⟩ ?_
      obtain ⟨v10, σ8, e9, h⟩ := h
      refine mm_cl_ (rest := [.int x4]) e9 ⟨_, _, _, rfl, rfl, mm_tb_X11_allOwed, rfl, rfl, Nat.le_of_ble_eq_true rfl, Nat.le_of_ble_eq_true rfl, trivial⟩ ?_
      refine mm_blk (M := mm_m_X11_years) 5 (S' := (32, [.ref 51, .int x1, .int x2, .int x3, .int (x4 + v10), .int (x5 + (1 : Int32)), .int x6], [], σ8)) (P := []) rfl trivial ?_
      exact h
  · rw [if_neg b1]
    have h := h.2 b1
    refine mm_blk (M := mm_m_X11_years) 4 (S' := (70, [.ref 51, .int x1, .int x2, .int x3, .int x4, .int x5, .int x6], [.int (2 : Int32), .int x6, .ref 53], σ)) (P := [mm_cl 51 = 11]) rfl ⟨rfl, trivial⟩ ?_
    obtain ⟨v13, σ11, e12, h⟩ := h
    refine mm_cl_ (rest := [.ref 53]) e12 ⟨_, _, _, rfl, rfl, mm_tb_X11_of, rfl, rfl, Nat.le_of_ble_eq_true rfl, Nat.le_of_ble_eq_true rfl, trivial⟩ ?_
    refine mm_blk (M := mm_m_X11_years) 2 (S' := (75, [.ref 51, .int x1, .int x2, .int x3, .int x4, .int x5, .int x6], [.int (5 : Int32), .ref 51, .int v13, .ref 53], σ11)) (P := []) rfl trivial ?_
    obtain ⟨v16, σ14, e15, h⟩ := h
    refine mm_cl_ (rest := [.int v13, .ref 53]) e15 ⟨_, _, _, rfl, rfl, mm_tb_X11_drawn, rfl, rfl, Nat.le_of_ble_eq_true rfl, Nat.le_of_ble_eq_true rfl, ⟨_, rfl, rfl⟩⟩ ?_
    obtain ⟨c17, h⟩ := h
    refine mm_blk (M := mm_m_X11_years) 1 (S' := (79, [.ref 51, .int x1, .int x2, .int x3, .int x4, .int x5, .int x6], [], mm_u σ14 53 v13.toNatClampNeg v16)) (P := [vp_in v13 (mm_len 53)]) rfl ⟨c17, trivial⟩ ?_
    obtain ⟨σ18, e19⟩ : ∃ z, z = mm_u σ14 53 v13.toNatClampNeg v16 := ⟨_, rfl⟩
    rw [← e19]
    have h := h σ18 e19
    refine mm_blk (M := mm_m_X11_years) 2 (S' := (52, [.ref 51, .int x1, .int x2, .int x3, .int x4, .int x5, .int (x6 + (1 : Int32))], [], σ18)) (P := []) rfl trivial ?_
    exact h
theorem sg_X11_image_0 (σ : mm_Sg) (R : Option Value × mm_Sg) (h : (∃ (σ1 : mm_Sg), mm_Ev mm_m_X11_copies [.ref 52, .ref 54] σ none σ1 ∧ (∀ σ3 : mm_Sg, σ3 = mm_u σ1 51 5 (1 : Int32) → (R = (some (.int (σ3 52 1)), σ3))))) : mm_Go mm_m_X11_image (0, [.ref 51], [], σ) R := by
  refine mm_blk (M := mm_m_X11_image) 4 (S' := (8, [.ref 51], [.ref 54, .ref 52], σ)) (P := [mm_cl 51 = 11, mm_cl 51 = 11]) rfl ⟨rfl, rfl, trivial⟩ ?_
  obtain ⟨σ1, e2, h⟩ := h
  refine mm_cl_ (rest := []) e2 ⟨_, _, _, rfl, rfl, mm_tb_X11_copies, rfl, rfl, Nat.le_of_ble_eq_true rfl, Nat.le_of_ble_eq_true rfl, trivial⟩ ?_
  refine mm_blk (M := mm_m_X11_image) 3 (S' := (16, [.ref 51], [], mm_u σ1 51 5 (1 : Int32))) (P := [mm_cl 51 = 11, (1 : Int32) = 0 ∨ (1 : Int32) = 1]) rfl ⟨rfl, (by decide), trivial⟩ ?_
  obtain ⟨σ3, e4⟩ : ∃ z, z = mm_u σ1 51 5 (1 : Int32) := ⟨_, rfl⟩
  rw [← e4]
  have h := h σ3 e4
  refine mm_blk (M := mm_m_X11_image) 4 (S' := (22, [.ref 51], [.int (σ3 52 1)], σ3)) (P := [mm_cl 51 = 11, vp_in (1 : Int32) (mm_len 52)]) rfl ⟨rfl, (by unfold vp_in; decide), trivial⟩ ?_
  subst h
  exact mm_rt_ ⟨_, _, _, rfl, ⟨_, _, rfl, rfl, rfl, rfl⟩⟩
theorem sg_X11_restore_0 (σ : mm_Sg) (R : Option Value × mm_Sg) (h : (((¬ (σ 51 5) = (0 : Int32) → (∃ (σ2 : mm_Sg), mm_Ev mm_m_X11_copies [.ref 54, .ref 52] σ none σ2 ∧ (R = (some (.int (σ2 52 1)), σ2)))) ∧ (¬ (¬ (σ 51 5) = (0 : Int32)) → (R = (some (.int (-3 : Int32)), σ)))))) : mm_Go mm_m_X11_restore (0, [.ref 51], [], σ) R := by
  refine mm_blk (M := mm_m_X11_restore) 3 (S' := ((if ¬ (σ 51 5) = (0 : Int32) then 10 else 7), [.ref 51], [], σ)) (P := [mm_cl 51 = 11]) rfl ⟨rfl, trivial⟩ ?_
  by_cases b1 : ¬ (σ 51 5) = (0 : Int32)
  · rw [if_pos b1]
    have h := h.1 b1
    refine mm_blk (M := mm_m_X11_restore) 4 (S' := (18, [.ref 51], [.ref 52, .ref 54], σ)) (P := [mm_cl 51 = 11, mm_cl 51 = 11]) rfl ⟨rfl, rfl, trivial⟩ ?_
    obtain ⟨σ2, e3, h⟩ := h
    refine mm_cl_ (rest := []) e3 ⟨_, _, _, rfl, rfl, mm_tb_X11_copies, rfl, rfl, Nat.le_of_ble_eq_true rfl, Nat.le_of_ble_eq_true rfl, trivial⟩ ?_
    refine mm_blk (M := mm_m_X11_restore) 4 (S' := (27, [.ref 51], [.int (σ2 52 1)], σ2)) (P := [mm_cl 51 = 11, vp_in (1 : Int32) (mm_len 52)]) rfl ⟨rfl, (by unfold vp_in; decide), trivial⟩ ?_
    subst h
    exact mm_rt_ ⟨_, _, _, rfl, ⟨_, _, rfl, rfl, rfl, rfl⟩⟩
  · rw [if_neg b1]
    have h := h.2 b1
    refine mm_blk (M := mm_m_X11_restore) 1 (S' := (9, [.ref 51], [.int (-3 : Int32)], σ)) (P := []) rfl trivial ?_
    subst h
    exact mm_rt_ ⟨_, _, _, rfl, ⟨_, _, rfl, rfl, rfl, rfl⟩⟩
theorem sg_X11_count_0 (σ : mm_Sg) (x1 : Int32) (R : Option Value × mm_Sg) (h : (((x1 = nI 0 → ((vp_in x1 (mm_len 52)) ∧ R = (some (.int (σ 52 x1.toNatClampNeg)), σ))) ∧ (¬ (x1 = nI 0) → ((x1 = nI 1 → ((vp_in x1 (mm_len 52)) ∧ R = (some (.int (σ 52 x1.toNatClampNeg)), σ))) ∧ (¬ (x1 = nI 1) → ((x1 = nI 2 → ((vp_in x1 (mm_len 52)) ∧ R = (some (.int (σ 52 x1.toNatClampNeg)), σ))) ∧ (¬ (x1 = nI 2) → ((x1 = nI 3 → (∃ (v10 : Int32) (σ8 : mm_Sg), mm_Ev mm_m_X11_allOwed [.ref 52] σ (some (.int v10)) σ8 ∧ (R = (some (.int v10), σ8)))) ∧ (¬ (x1 = nI 3) → ((x1 = nI 4 → (R = (some (.int (σ 52 3)), σ))) ∧ (¬ (x1 = nI 4) → ((x1 = nI 5 → (∃ (v15 : Int32) (σ13 : mm_Sg), mm_Ev mm_m_X11_allTired [.ref 52] σ (some (.int v15)) σ13 ∧ (R = (some (.int v15), σ13)))) ∧ (¬ (x1 = nI 5) → (R = (some (.int (-1 : Int32)), σ)))))))))))))))) : mm_Go mm_m_X11_count (0, [.ref 51, .int x1], [], σ) R := by
  refine mm_blk (M := mm_m_X11_count) 2 (S' := ((mm_tsw x1 70 0 [40, 40, 40, 47, 55, 62]), [.ref 51, .int x1], [], σ)) (P := []) rfl trivial ?_
  by_cases b1 : x1 = nI 0
  · rw [show mm_tsw x1 70 0 [40, 40, 40, 47, 55, 62] = 40 from mm_tsw_t b1]
    have h := h.1 b1
    obtain ⟨c2, h⟩ := h
    refine mm_blk (M := mm_m_X11_count) 4 (S' := (46, [.ref 51, .int x1], [.int (σ 52 x1.toNatClampNeg)], σ)) (P := [mm_cl 51 = 11, vp_in x1 (mm_len 52)]) rfl ⟨rfl, c2, trivial⟩ ?_
    subst h
    exact mm_rt_ ⟨_, _, _, rfl, ⟨_, _, rfl, rfl, rfl, rfl⟩⟩
  rw [show mm_tsw x1 70 0 [40, 40, 40, 47, 55, 62] = mm_tsw x1 70 1 [40, 40, 47, 55, 62] from mm_tsw_f b1]
  have h := h.2 b1
  by_cases b3 : x1 = nI 1
  · rw [show mm_tsw x1 70 1 [40, 40, 47, 55, 62] = 40 from mm_tsw_t b3]
    have h := h.1 b3
    obtain ⟨c4, h⟩ := h
    refine mm_blk (M := mm_m_X11_count) 4 (S' := (46, [.ref 51, .int x1], [.int (σ 52 x1.toNatClampNeg)], σ)) (P := [mm_cl 51 = 11, vp_in x1 (mm_len 52)]) rfl ⟨rfl, c4, trivial⟩ ?_
    subst h
    exact mm_rt_ ⟨_, _, _, rfl, ⟨_, _, rfl, rfl, rfl, rfl⟩⟩
  rw [show mm_tsw x1 70 1 [40, 40, 47, 55, 62] = mm_tsw x1 70 2 [40, 47, 55, 62] from mm_tsw_f b3]
  have h := h.2 b3
  by_cases b5 : x1 = nI 2
  · rw [show mm_tsw x1 70 2 [40, 47, 55, 62] = 40 from mm_tsw_t b5]
    have h := h.1 b5
    obtain ⟨c6, h⟩ := h
    refine mm_blk (M := mm_m_X11_count) 4 (S' := (46, [.ref 51, .int x1], [.int (σ 52 x1.toNatClampNeg)], σ)) (P := [mm_cl 51 = 11, vp_in x1 (mm_len 52)]) rfl ⟨rfl, c6, trivial⟩ ?_
    subst h
    exact mm_rt_ ⟨_, _, _, rfl, ⟨_, _, rfl, rfl, rfl, rfl⟩⟩
  rw [show mm_tsw x1 70 2 [40, 47, 55, 62] = mm_tsw x1 70 3 [47, 55, 62] from mm_tsw_f b5]
  have h := h.2 b5
  by_cases b7 : x1 = nI 3
  · rw [show mm_tsw x1 70 3 [47, 55, 62] = 47 from mm_tsw_t b7]
    have h := h.1 b7
    refine mm_blk (M := mm_m_X11_count) 2 (S' := (51, [.ref 51, .int x1], [.ref 52], σ)) (P := [mm_cl 51 = 11]) rfl ⟨rfl, trivial⟩ ?_
    obtain ⟨v10, σ8, e9, h⟩ := h
    refine mm_cl_ (rest := []) e9 ⟨_, _, _, rfl, rfl, mm_tb_X11_allOwed, rfl, rfl, Nat.le_of_ble_eq_true rfl, Nat.le_of_ble_eq_true rfl, trivial⟩ ?_
    subst h
    exact mm_rt_ ⟨_, _, _, rfl, ⟨_, _, rfl, rfl, rfl, rfl⟩⟩
  rw [show mm_tsw x1 70 3 [47, 55, 62] = mm_tsw x1 70 4 [55, 62] from mm_tsw_f b7]
  have h := h.2 b7
  by_cases b11 : x1 = nI 4
  · rw [show mm_tsw x1 70 4 [55, 62] = 55 from mm_tsw_t b11]
    have h := h.1 b11
    refine mm_blk (M := mm_m_X11_count) 4 (S' := (61, [.ref 51, .int x1], [.int (σ 52 3)], σ)) (P := [mm_cl 51 = 11, vp_in (3 : Int32) (mm_len 52)]) rfl ⟨rfl, (by unfold vp_in; decide), trivial⟩ ?_
    subst h
    exact mm_rt_ ⟨_, _, _, rfl, ⟨_, _, rfl, rfl, rfl, rfl⟩⟩
  rw [show mm_tsw x1 70 4 [55, 62] = mm_tsw x1 70 5 [62] from mm_tsw_f b11]
  have h := h.2 b11
  by_cases b12 : x1 = nI 5
  · rw [show mm_tsw x1 70 5 [62] = 62 from mm_tsw_t b12]
    have h := h.1 b12
    refine mm_blk (M := mm_m_X11_count) 2 (S' := (66, [.ref 51, .int x1], [.ref 52], σ)) (P := [mm_cl 51 = 11]) rfl ⟨rfl, trivial⟩ ?_
    obtain ⟨v15, σ13, e14, h⟩ := h
    refine mm_cl_ (rest := []) e14 ⟨_, _, _, rfl, rfl, mm_tb_X11_allTired, rfl, rfl, Nat.le_of_ble_eq_true rfl, Nat.le_of_ble_eq_true rfl, trivial⟩ ?_
    subst h
    exact mm_rt_ ⟨_, _, _, rfl, ⟨_, _, rfl, rfl, rfl, rfl⟩⟩
  rw [show mm_tsw x1 70 5 [62] = mm_tsw x1 70 6 [] from mm_tsw_f b12]
  have h := h.2 b12
  change mm_Go mm_m_X11_count (70, [.ref 51, .int x1], [], σ) R
  refine mm_blk (M := mm_m_X11_count) 1 (S' := (71, [.ref 51, .int x1], [.int (-1 : Int32)], σ)) (P := []) rfl trivial ?_
  subst h
  exact mm_rt_ ⟨_, _, _, rfl, ⟨_, _, rfl, rfl, rfl, rfl⟩⟩
theorem sg_X11_thrown_0 (σ : mm_Sg) (R : Option Value × mm_Sg) (h : (R = (some (.int (σ 51 18)), σ))) : mm_Go mm_m_X11_thrown (0, [.ref 51], [], σ) R := by
  refine mm_blk (M := mm_m_X11_thrown) 2 (S' := (4, [.ref 51], [.int (σ 51 18)], σ)) (P := [mm_cl 51 = 11]) rfl ⟨rfl, trivial⟩ ?_
  subst h
  exact mm_rt_ ⟨_, _, _, rfl, ⟨_, _, rfl, rfl, rfl, rfl⟩⟩
theorem sg_X11_isShelf_0 (σ : mm_Sg) (x0 : Int32) (R : Option Value × mm_Sg) (h : (∃ (v3 : Int32) (σ1 : mm_Sg), mm_Ev mm_m_X11_isIn [.int x0, .int (0 : Int32), .int (7 : Int32)] σ (some (.int v3)) σ1 ∧ ((v3 = 0 ∨ v3 = 1) ∧ R = (some (.int v3), σ1)))) : mm_Go mm_m_X11_isShelf (0, [.int x0], [], σ) R := by
  refine mm_blk (M := mm_m_X11_isShelf) 3 (S' := (4, [.int x0], [.int (7 : Int32), .int (0 : Int32), .int x0], σ)) (P := []) rfl trivial ?_
  obtain ⟨v3, σ1, e2, h⟩ := h
  refine mm_cl_ (rest := []) e2 ⟨_, _, _, rfl, rfl, mm_tb_X11_isIn, rfl, rfl, Nat.le_of_ble_eq_true rfl, Nat.le_of_ble_eq_true rfl, trivial⟩ ?_
  obtain ⟨c4, h⟩ := h
  subst h
  exact mm_rt_ ⟨_, _, _, rfl, ⟨_, _, rfl, rfl, rfl, (mm_nb c4)⟩⟩
theorem sg_X11_wrongRow_0 (σ : mm_Sg) (x1 : Int32) (x2 : Int32) (R : Option Value × mm_Sg) (h : (∃ (v3 : Int32) (σ1 : mm_Sg), mm_Ev mm_m_X11_isShelf [.int x1] σ (some (.int v3)) σ1 ∧ (((¬ v3 = (0 : Int32) → ((vp_in x1 (mm_len 59)) ∧ ((¬ (σ1 59 x1.toNatClampNeg) = (0 : Int32) → (((¬ (σ1 59 x1.toNatClampNeg) = (2 : Int32) → (R = (some (.int (-12 : Int32)), σ1))) ∧ (¬ (¬ (σ1 59 x1.toNatClampNeg) = (2 : Int32)) → (((x2 < (0 : Int32) → (R = (some (.int (0 : Int32)), σ1))) ∧ (¬ (x2 < (0 : Int32)) → ((vp_in x1 (mm_len 62)) ∧ (((σ1 62 x1.toNatClampNeg) = x2 → (R = (some (.int (0 : Int32)), σ1))) ∧ (¬ ((σ1 62 x1.toNatClampNeg) = x2) → (R = (some (.int (-12 : Int32)), σ1)))))))))))) ∧ (¬ (¬ (σ1 59 x1.toNatClampNeg) = (0 : Int32)) → (R = (some (.int (-11 : Int32)), σ1)))))) ∧ (¬ (¬ v3 = (0 : Int32)) → (R = (some (.int (-1 : Int32)), σ1))))))) : mm_Go mm_m_X11_wrongRow (0, [.ref 51, .int x1, .int x2], [], σ) R := by
  refine mm_blk (M := mm_m_X11_wrongRow) 1 (S' := (1, [.ref 51, .int x1, .int x2], [.int x1], σ)) (P := []) rfl trivial ?_
  obtain ⟨v3, σ1, e2, h⟩ := h
  refine mm_cl_ (rest := []) e2 ⟨_, _, _, rfl, rfl, mm_tb_X11_isShelf, rfl, rfl, Nat.le_of_ble_eq_true rfl, Nat.le_of_ble_eq_true rfl, trivial⟩ ?_
  refine mm_blk (M := mm_m_X11_wrongRow) 1 (S' := ((if ¬ v3 = (0 : Int32) then 11 else 7), [.ref 51, .int x1, .int x2], [], σ1)) (P := []) rfl trivial ?_
  by_cases b4 : ¬ v3 = (0 : Int32)
  · rw [if_pos b4]
    have h := h.1 b4
    obtain ⟨c5, h⟩ := h
    refine mm_blk (M := mm_m_X11_wrongRow) 5 (S' := ((if ¬ (σ1 59 x1.toNatClampNeg) = (0 : Int32) then 25 else 20), [.ref 51, .int x1, .int x2], [], σ1)) (P := [mm_cl 51 = 11, vp_in x1 (mm_len 59)]) rfl ⟨rfl, c5, trivial⟩ ?_
    by_cases b6 : ¬ (σ1 59 x1.toNatClampNeg) = (0 : Int32)
    · rw [if_pos b6]
      have h := h.1 b6
      refine mm_blk (M := mm_m_X11_wrongRow) 6 (S' := ((if ¬ (σ1 59 x1.toNatClampNeg) = (2 : Int32) then 49 else 35), [.ref 51, .int x1, .int x2], [], σ1)) (P := [mm_cl 51 = 11, vp_in x1 (mm_len 59)]) rfl ⟨rfl, c5, trivial⟩ ?_
      by_cases b7 : ¬ (σ1 59 x1.toNatClampNeg) = (2 : Int32)
      · rw [if_pos b7]
        have h := h.1 b7
        refine mm_blk (M := mm_m_X11_wrongRow) 2 (S' := (55, [.ref 51, .int x1, .int x2], [.int (-12 : Int32)], σ1)) (P := []) rfl trivial ?_
        subst h
        exact mm_rt_ ⟨_, _, _, rfl, ⟨_, _, rfl, rfl, rfl, rfl⟩⟩
      · rw [if_neg b7]
        have h := h.2 b7
        refine mm_blk (M := mm_m_X11_wrongRow) 2 (S' := ((if x2 < (0 : Int32) then 54 else 39), [.ref 51, .int x1, .int x2], [], σ1)) (P := []) rfl trivial ?_
        by_cases b8 : x2 < (0 : Int32)
        · rw [if_pos b8]
          have h := h.1 b8
          refine mm_blk (M := mm_m_X11_wrongRow) 1 (S' := (55, [.ref 51, .int x1, .int x2], [.int (0 : Int32)], σ1)) (P := []) rfl trivial ?_
          subst h
          exact mm_rt_ ⟨_, _, _, rfl, ⟨_, _, rfl, rfl, rfl, rfl⟩⟩
        · rw [if_neg b8]
          have h := h.2 b8
          obtain ⟨c9, h⟩ := h
          refine mm_blk (M := mm_m_X11_wrongRow) 6 (S' := ((if (σ1 62 x1.toNatClampNeg) = x2 then 54 else 49), [.ref 51, .int x1, .int x2], [], σ1)) (P := [mm_cl 51 = 11, vp_in x1 (mm_len 62)]) rfl ⟨rfl, c9, trivial⟩ ?_
          by_cases b10 : (σ1 62 x1.toNatClampNeg) = x2
          · rw [if_pos b10]
            have h := h.1 b10
            refine mm_blk (M := mm_m_X11_wrongRow) 1 (S' := (55, [.ref 51, .int x1, .int x2], [.int (0 : Int32)], σ1)) (P := []) rfl trivial ?_
            subst h
            exact mm_rt_ ⟨_, _, _, rfl, ⟨_, _, rfl, rfl, rfl, rfl⟩⟩
          · rw [if_neg b10]
            have h := h.2 b10
            refine mm_blk (M := mm_m_X11_wrongRow) 2 (S' := (55, [.ref 51, .int x1, .int x2], [.int (-12 : Int32)], σ1)) (P := []) rfl trivial ?_
            subst h
            exact mm_rt_ ⟨_, _, _, rfl, ⟨_, _, rfl, rfl, rfl, rfl⟩⟩
    · rw [if_neg b6]
      have h := h.2 b6
      refine mm_blk (M := mm_m_X11_wrongRow) 2 (S' := (55, [.ref 51, .int x1, .int x2], [.int (-11 : Int32)], σ1)) (P := []) rfl trivial ?_
      subst h
      exact mm_rt_ ⟨_, _, _, rfl, ⟨_, _, rfl, rfl, rfl, rfl⟩⟩
  · rw [if_neg b4]
    have h := h.2 b4
    refine mm_blk (M := mm_m_X11_wrongRow) 2 (S' := (55, [.ref 51, .int x1, .int x2], [.int (-1 : Int32)], σ1)) (P := []) rfl trivial ?_
    subst h
    exact mm_rt_ ⟨_, _, _, rfl, ⟨_, _, rfl, rfl, rfl, rfl⟩⟩
theorem sg_X11_wrongKept_0 (σ : mm_Sg) (x1 : Int32) (R : Option Value × mm_Sg) (h : (∃ (v3 : Int32) (σ1 : mm_Sg), mm_Ev mm_m_X11_isShelf [.int x1] σ (some (.int v3)) σ1 ∧ (((¬ v3 = (0 : Int32) → ((vp_in x1 (mm_len 59)) ∧ ((¬ (σ1 59 x1.toNatClampNeg) = (0 : Int32) → (((¬ (σ1 59 x1.toNatClampNeg) = (2 : Int32) → (R = (some (.int (0 : Int32)), σ1))) ∧ (¬ (¬ (σ1 59 x1.toNatClampNeg) = (2 : Int32)) → (R = (some (.int (-12 : Int32)), σ1)))))) ∧ (¬ (¬ (σ1 59 x1.toNatClampNeg) = (0 : Int32)) → (R = (some (.int (-11 : Int32)), σ1)))))) ∧ (¬ (¬ v3 = (0 : Int32)) → (R = (some (.int (-1 : Int32)), σ1))))))) : mm_Go mm_m_X11_wrongKept (0, [.ref 51, .int x1], [], σ) R := by
  refine mm_blk (M := mm_m_X11_wrongKept) 1 (S' := (1, [.ref 51, .int x1], [.int x1], σ)) (P := []) rfl trivial ?_
  obtain ⟨v3, σ1, e2, h⟩ := h
  refine mm_cl_ (rest := []) e2 ⟨_, _, _, rfl, rfl, mm_tb_X11_isShelf, rfl, rfl, Nat.le_of_ble_eq_true rfl, Nat.le_of_ble_eq_true rfl, trivial⟩ ?_
  refine mm_blk (M := mm_m_X11_wrongKept) 1 (S' := ((if ¬ v3 = (0 : Int32) then 11 else 7), [.ref 51, .int x1], [], σ1)) (P := []) rfl trivial ?_
  by_cases b4 : ¬ v3 = (0 : Int32)
  · rw [if_pos b4]
    have h := h.1 b4
    obtain ⟨c5, h⟩ := h
    refine mm_blk (M := mm_m_X11_wrongKept) 5 (S' := ((if ¬ (σ1 59 x1.toNatClampNeg) = (0 : Int32) then 25 else 20), [.ref 51, .int x1], [], σ1)) (P := [mm_cl 51 = 11, vp_in x1 (mm_len 59)]) rfl ⟨rfl, c5, trivial⟩ ?_
    by_cases b6 : ¬ (σ1 59 x1.toNatClampNeg) = (0 : Int32)
    · rw [if_pos b6]
      have h := h.1 b6
      refine mm_blk (M := mm_m_X11_wrongKept) 6 (S' := ((if ¬ (σ1 59 x1.toNatClampNeg) = (2 : Int32) then 40 else 35), [.ref 51, .int x1], [], σ1)) (P := [mm_cl 51 = 11, vp_in x1 (mm_len 59)]) rfl ⟨rfl, c5, trivial⟩ ?_
      by_cases b7 : ¬ (σ1 59 x1.toNatClampNeg) = (2 : Int32)
      · rw [if_pos b7]
        have h := h.1 b7
        refine mm_blk (M := mm_m_X11_wrongKept) 1 (S' := (41, [.ref 51, .int x1], [.int (0 : Int32)], σ1)) (P := []) rfl trivial ?_
        subst h
        exact mm_rt_ ⟨_, _, _, rfl, ⟨_, _, rfl, rfl, rfl, rfl⟩⟩
      · rw [if_neg b7]
        have h := h.2 b7
        refine mm_blk (M := mm_m_X11_wrongKept) 2 (S' := (41, [.ref 51, .int x1], [.int (-12 : Int32)], σ1)) (P := []) rfl trivial ?_
        subst h
        exact mm_rt_ ⟨_, _, _, rfl, ⟨_, _, rfl, rfl, rfl, rfl⟩⟩
    · rw [if_neg b6]
      have h := h.2 b6
      refine mm_blk (M := mm_m_X11_wrongKept) 2 (S' := (41, [.ref 51, .int x1], [.int (-11 : Int32)], σ1)) (P := []) rfl trivial ?_
      subst h
      exact mm_rt_ ⟨_, _, _, rfl, ⟨_, _, rfl, rfl, rfl, rfl⟩⟩
  · rw [if_neg b4]
    have h := h.2 b4
    refine mm_blk (M := mm_m_X11_wrongKept) 2 (S' := (41, [.ref 51, .int x1], [.int (-1 : Int32)], σ1)) (P := []) rfl trivial ?_
    subst h
    exact mm_rt_ ⟨_, _, _, rfl, ⟨_, _, rfl, rfl, rfl, rfl⟩⟩
theorem sg_X11_keep_0 (σ : mm_Sg) (x1 : Int32) (x2 : Int32) (x3 : Int32) (x4 : Int32) (R : Option Value × mm_Sg) (h : (∃ (v3 : Int32) (σ1 : mm_Sg), mm_Ev mm_m_X11_isShelf [.int x1] σ (some (.int v3)) σ1 ∧ (((v3 = (0 : Int32) → (R = (some (.int (-1 : Int32)), σ1))) ∧ (¬ (v3 = (0 : Int32)) → (∃ (v7 : Int32) (σ5 : mm_Sg), mm_Ev mm_m_X11_isIn [.int x2, .int (0 : Int32), .int (1 : Int32)] σ1 (some (.int v7)) σ5 ∧ (((v7 = (0 : Int32) → (R = (some (.int (-1 : Int32)), σ5))) ∧ (¬ (v7 = (0 : Int32)) → (((¬ x2 = (1 : Int32) → mm_Go mm_m_X11_keep (44, [.ref 51, .int x1, .int x2, .int x3, .int x4], [], σ5) R) ∧ (¬ (¬ x2 = (1 : Int32)) → (∃ (v12 : Int32) (σ10 : mm_Sg), mm_Ev mm_m_X11_isIn [.int x3, .int (0 : Int32), .int (7 : Int32)] σ5 (some (.int v12)) σ10 ∧ (((v12 = (0 : Int32) → (R = (some (.int (-1 : Int32)), σ10))) ∧ (¬ (v12 = (0 : Int32)) → (∃ (v16 : Int32) (σ14 : mm_Sg), mm_Ev mm_m_X11_isIn [.int x4, .int (0 : Int32), .int (9 : Int32)] σ10 (some (.int v16)) σ14 ∧ (((¬ v16 = (0 : Int32) → mm_Go mm_m_X11_keep (44, [.ref 51, .int x1, .int x2, .int x3, .int x4], [], σ14) R) ∧ (¬ (¬ v16 = (0 : Int32)) → (R = (some (.int (-1 : Int32)), σ14)))))))))))))))))))))) : mm_Go mm_m_X11_keep (0, [.ref 51, .int x1, .int x2, .int x3, .int x4], [], σ) R := by
  refine mm_blk (M := mm_m_X11_keep) 1 (S' := (1, [.ref 51, .int x1, .int x2, .int x3, .int x4], [.int x1], σ)) (P := []) rfl trivial ?_
  obtain ⟨v3, σ1, e2, h⟩ := h
  refine mm_cl_ (rest := []) e2 ⟨_, _, _, rfl, rfl, mm_tb_X11_isShelf, rfl, rfl, Nat.le_of_ble_eq_true rfl, Nat.le_of_ble_eq_true rfl, trivial⟩ ?_
  refine mm_blk (M := mm_m_X11_keep) 1 (S' := ((if v3 = (0 : Int32) then 42 else 7), [.ref 51, .int x1, .int x2, .int x3, .int x4], [], σ1)) (P := []) rfl trivial ?_
  by_cases b4 : v3 = (0 : Int32)
  · rw [if_pos b4]
    have h := h.1 b4
    refine mm_blk (M := mm_m_X11_keep) 1 (S' := (43, [.ref 51, .int x1, .int x2, .int x3, .int x4], [.int (-1 : Int32)], σ1)) (P := []) rfl trivial ?_
    subst h
    exact mm_rt_ ⟨_, _, _, rfl, ⟨_, _, rfl, rfl, rfl, rfl⟩⟩
  · rw [if_neg b4]
    have h := h.2 b4
    refine mm_blk (M := mm_m_X11_keep) 3 (S' := (10, [.ref 51, .int x1, .int x2, .int x3, .int x4], [.int (1 : Int32), .int (0 : Int32), .int x2], σ1)) (P := []) rfl trivial ?_
    obtain ⟨v7, σ5, e6, h⟩ := h
    refine mm_cl_ (rest := []) e6 ⟨_, _, _, rfl, rfl, mm_tb_X11_isIn, rfl, rfl, Nat.le_of_ble_eq_true rfl, Nat.le_of_ble_eq_true rfl, trivial⟩ ?_
    refine mm_blk (M := mm_m_X11_keep) 1 (S' := ((if v7 = (0 : Int32) then 42 else 16), [.ref 51, .int x1, .int x2, .int x3, .int x4], [], σ5)) (P := []) rfl trivial ?_
    by_cases b8 : v7 = (0 : Int32)
    · rw [if_pos b8]
      have h := h.1 b8
      refine mm_blk (M := mm_m_X11_keep) 1 (S' := (43, [.ref 51, .int x1, .int x2, .int x3, .int x4], [.int (-1 : Int32)], σ5)) (P := []) rfl trivial ?_
      subst h
      exact mm_rt_ ⟨_, _, _, rfl, ⟨_, _, rfl, rfl, rfl, rfl⟩⟩
    · rw [if_neg b8]
      have h := h.2 b8
      refine mm_blk (M := mm_m_X11_keep) 3 (S' := ((if ¬ x2 = (1 : Int32) then 44 else 21), [.ref 51, .int x1, .int x2, .int x3, .int x4], [], σ5)) (P := []) rfl trivial ?_
      by_cases b9 : ¬ x2 = (1 : Int32)
      · rw [if_pos b9]
        have h := h.1 b9
        exact h
      · rw [if_neg b9]
        have h := h.2 b9
        refine mm_blk (M := mm_m_X11_keep) 3 (S' := (25, [.ref 51, .int x1, .int x2, .int x3, .int x4], [.int (7 : Int32), .int (0 : Int32), .int x3], σ5)) (P := []) rfl trivial ?_
        obtain ⟨v12, σ10, e11, h⟩ := h
        refine mm_cl_ (rest := []) e11 ⟨_, _, _, rfl, rfl, mm_tb_X11_isIn, rfl, rfl, Nat.le_of_ble_eq_true rfl, Nat.le_of_ble_eq_true rfl, trivial⟩ ?_
        refine mm_blk (M := mm_m_X11_keep) 1 (S' := ((if v12 = (0 : Int32) then 42 else 31), [.ref 51, .int x1, .int x2, .int x3, .int x4], [], σ10)) (P := []) rfl trivial ?_
        by_cases b13 : v12 = (0 : Int32)
        · rw [if_pos b13]
          have h := h.1 b13
          refine mm_blk (M := mm_m_X11_keep) 1 (S' := (43, [.ref 51, .int x1, .int x2, .int x3, .int x4], [.int (-1 : Int32)], σ10)) (P := []) rfl trivial ?_
          subst h
          exact mm_rt_ ⟨_, _, _, rfl, ⟨_, _, rfl, rfl, rfl, rfl⟩⟩
        · rw [if_neg b13]
          have h := h.2 b13
          refine mm_blk (M := mm_m_X11_keep) 3 (S' := (36, [.ref 51, .int x1, .int x2, .int x3, .int x4], [.int (9 : Int32), .int (0 : Int32), .int x4], σ10)) (P := []) rfl trivial ?_
          obtain ⟨v16, σ14, e15, h⟩ := h
          refine mm_cl_ (rest := []) e15 ⟨_, _, _, rfl, rfl, mm_tb_X11_isIn, rfl, rfl, Nat.le_of_ble_eq_true rfl, Nat.le_of_ble_eq_true rfl, trivial⟩ ?_
          refine mm_blk (M := mm_m_X11_keep) 1 (S' := ((if ¬ v16 = (0 : Int32) then 44 else 42), [.ref 51, .int x1, .int x2, .int x3, .int x4], [], σ14)) (P := []) rfl trivial ?_
          by_cases b17 : ¬ v16 = (0 : Int32)
          · rw [if_pos b17]
            have h := h.1 b17
            exact h
          · rw [if_neg b17]
            have h := h.2 b17
            refine mm_blk (M := mm_m_X11_keep) 1 (S' := (43, [.ref 51, .int x1, .int x2, .int x3, .int x4], [.int (-1 : Int32)], σ14)) (P := []) rfl trivial ?_
            subst h
            exact mm_rt_ ⟨_, _, _, rfl, ⟨_, _, rfl, rfl, rfl, rfl⟩⟩
theorem sg_X11_keep_44 (σ : mm_Sg) (x1 : Int32) (x2 : Int32) (x3 : Int32) (x4 : Int32) (R : Option Value × mm_Sg) (h : ((vp_in x1 (mm_len 59)) ∧ ∀ σ2 : mm_Sg, σ2 = mm_u σ 59 x1.toNatClampNeg x2 → ((vp_in x1 (mm_len 60)) ∧ ∀ σ5 : mm_Sg, σ5 = mm_u σ2 60 x1.toNatClampNeg x3 → ((vp_in x1 (mm_len 61)) ∧ ∀ σ8 : mm_Sg, σ8 = mm_u σ5 61 x1.toNatClampNeg x4 → (R = (some (.int (0 : Int32)), σ8)))))) : mm_Go mm_m_X11_keep (44, [.ref 51, .int x1, .int x2, .int x3, .int x4], [], σ) R := by
  obtain ⟨c1, h⟩ := h
  refine mm_blk (M := mm_m_X11_keep) 5 (S' := (51, [.ref 51, .int x1, .int x2, .int x3, .int x4], [], mm_u σ 59 x1.toNatClampNeg x2)) (P := [mm_cl 51 = 11, vp_in x1 (mm_len 59)]) rfl ⟨rfl, c1, trivial⟩ ?_
  obtain ⟨σ2, e3⟩ : ∃ z, z = mm_u σ 59 x1.toNatClampNeg x2 := ⟨_, rfl⟩
  rw [← e3]
  have h := h σ2 e3
  obtain ⟨c4, h⟩ := h
  refine mm_blk (M := mm_m_X11_keep) 5 (S' := (58, [.ref 51, .int x1, .int x2, .int x3, .int x4], [], mm_u σ2 60 x1.toNatClampNeg x3)) (P := [mm_cl 51 = 11, vp_in x1 (mm_len 60)]) rfl ⟨rfl, c4, trivial⟩ ?_
  obtain ⟨σ5, e6⟩ : ∃ z, z = mm_u σ2 60 x1.toNatClampNeg x3 := ⟨_, rfl⟩
  rw [← e6]
  have h := h σ5 e6
  obtain ⟨c7, h⟩ := h
  refine mm_blk (M := mm_m_X11_keep) 5 (S' := (66, [.ref 51, .int x1, .int x2, .int x3, .int x4], [], mm_u σ5 61 x1.toNatClampNeg x4)) (P := [mm_cl 51 = 11, vp_in x1 (mm_len 61)]) rfl ⟨rfl, c7, trivial⟩ ?_
  obtain ⟨σ8, e9⟩ : ∃ z, z = mm_u σ5 61 x1.toNatClampNeg x4 := ⟨_, rfl⟩
  rw [← e9]
  have h := h σ8 e9
  refine mm_blk (M := mm_m_X11_keep) 1 (S' := (67, [.ref 51, .int x1, .int x2, .int x3, .int x4], [.int (0 : Int32)], σ8)) (P := []) rfl trivial ?_
  subst h
  exact mm_rt_ ⟨_, _, _, rfl, ⟨_, _, rfl, rfl, rfl, rfl⟩⟩
theorem sg_X11_row_0 (σ : mm_Sg) (x1 : Int32) (x2 : Int32) (x3 : Int32) (R : Option Value × mm_Sg) (h : (∃ (v3 : Int32) (σ1 : mm_Sg), mm_Ev mm_m_X11_isShelf [.int x1] σ (some (.int v3)) σ1 ∧ (((v3 = (0 : Int32) → (R = (some (.int (-1 : Int32)), σ1))) ∧ (¬ (v3 = (0 : Int32)) → (∃ (v7 : Int32) (σ5 : mm_Sg), mm_Ev mm_m_X11_isIn [.int x2, .int (0 : Int32), .int (2 : Int32)] σ1 (some (.int v7)) σ5 ∧ (((v7 = (0 : Int32) → (R = (some (.int (-1 : Int32)), σ5))) ∧ (¬ (v7 = (0 : Int32)) → (((x3 ≤ (100 : Int32) → ((((0 : Int32) ≤ x3 → ((vp_in x1 (mm_len 59)) ∧ ∀ σ12 : mm_Sg, σ12 = mm_u σ5 59 x1.toNatClampNeg (2 : Int32) → ((vp_in x1 (mm_len 62)) ∧ ∀ σ15 : mm_Sg, σ15 = mm_u σ12 62 x1.toNatClampNeg x2 → ((vp_in x1 (mm_len 63)) ∧ ∀ σ18 : mm_Sg, σ18 = mm_u σ15 63 x1.toNatClampNeg x3 → mm_Go mm_m_X11_row (55, [.ref 51, .int x1, .int x2, .int x3, .int (0 : Int32)], [], σ18) R)))) ∧ (¬ ((0 : Int32) ≤ x3) → (R = (some (.int (-14 : Int32)), σ5)))))) ∧ (¬ (x3 ≤ (100 : Int32)) → (R = (some (.int (-1 : Int32)), σ5)))))))))))))) : mm_Go mm_m_X11_row (0, [.ref 51, .int x1, .int x2, .int x3, .null], [], σ) R := by
  refine mm_blk (M := mm_m_X11_row) 1 (S' := (1, [.ref 51, .int x1, .int x2, .int x3, .null], [.int x1], σ)) (P := []) rfl trivial ?_
  obtain ⟨v3, σ1, e2, h⟩ := h
  refine mm_cl_ (rest := []) e2 ⟨_, _, _, rfl, rfl, mm_tb_X11_isShelf, rfl, rfl, Nat.le_of_ble_eq_true rfl, Nat.le_of_ble_eq_true rfl, trivial⟩ ?_
  refine mm_blk (M := mm_m_X11_row) 1 (S' := ((if v3 = (0 : Int32) then 22 else 7), [.ref 51, .int x1, .int x2, .int x3, .null], [], σ1)) (P := []) rfl trivial ?_
  by_cases b4 : v3 = (0 : Int32)
  · rw [if_pos b4]
    have h := h.1 b4
    refine mm_blk (M := mm_m_X11_row) 1 (S' := (23, [.ref 51, .int x1, .int x2, .int x3, .null], [.int (-1 : Int32)], σ1)) (P := []) rfl trivial ?_
    subst h
    exact mm_rt_ ⟨_, _, _, rfl, ⟨_, _, rfl, rfl, rfl, rfl⟩⟩
  · rw [if_neg b4]
    have h := h.2 b4
    refine mm_blk (M := mm_m_X11_row) 3 (S' := (10, [.ref 51, .int x1, .int x2, .int x3, .null], [.int (2 : Int32), .int (0 : Int32), .int x2], σ1)) (P := []) rfl trivial ?_
    obtain ⟨v7, σ5, e6, h⟩ := h
    refine mm_cl_ (rest := []) e6 ⟨_, _, _, rfl, rfl, mm_tb_X11_isIn, rfl, rfl, Nat.le_of_ble_eq_true rfl, Nat.le_of_ble_eq_true rfl, trivial⟩ ?_
    refine mm_blk (M := mm_m_X11_row) 1 (S' := ((if v7 = (0 : Int32) then 22 else 16), [.ref 51, .int x1, .int x2, .int x3, .null], [], σ5)) (P := []) rfl trivial ?_
    by_cases b8 : v7 = (0 : Int32)
    · rw [if_pos b8]
      have h := h.1 b8
      refine mm_blk (M := mm_m_X11_row) 1 (S' := (23, [.ref 51, .int x1, .int x2, .int x3, .null], [.int (-1 : Int32)], σ5)) (P := []) rfl trivial ?_
      subst h
      exact mm_rt_ ⟨_, _, _, rfl, ⟨_, _, rfl, rfl, rfl, rfl⟩⟩
    · rw [if_neg b8]
      have h := h.2 b8
      refine mm_blk (M := mm_m_X11_row) 3 (S' := ((if x3 ≤ (100 : Int32) then 24 else 22), [.ref 51, .int x1, .int x2, .int x3, .null], [], σ5)) (P := []) rfl trivial ?_
      by_cases b9 : x3 ≤ (100 : Int32)
      · rw [if_pos b9]
        have h := h.1 b9
        refine mm_blk (M := mm_m_X11_row) 2 (S' := ((if (0 : Int32) ≤ x3 then 31 else 28), [.ref 51, .int x1, .int x2, .int x3, .null], [], σ5)) (P := []) rfl trivial ?_
        by_cases b10 : (0 : Int32) ≤ x3
        · rw [if_pos b10]
          have h := h.1 b10
          obtain ⟨c11, h⟩ := h
          refine mm_blk (M := mm_m_X11_row) 5 (S' := (38, [.ref 51, .int x1, .int x2, .int x3, .null], [], mm_u σ5 59 x1.toNatClampNeg (2 : Int32))) (P := [mm_cl 51 = 11, vp_in x1 (mm_len 59)]) rfl ⟨rfl, c11, trivial⟩ ?_
          obtain ⟨σ12, e13⟩ : ∃ z, z = mm_u σ5 59 x1.toNatClampNeg (2 : Int32) := ⟨_, rfl⟩
          rw [← e13]
          have h := h σ12 e13
          obtain ⟨c14, h⟩ := h
          refine mm_blk (M := mm_m_X11_row) 5 (S' := (45, [.ref 51, .int x1, .int x2, .int x3, .null], [], mm_u σ12 62 x1.toNatClampNeg x2)) (P := [mm_cl 51 = 11, vp_in x1 (mm_len 62)]) rfl ⟨rfl, c14, trivial⟩ ?_
          obtain ⟨σ15, e16⟩ : ∃ z, z = mm_u σ12 62 x1.toNatClampNeg x2 := ⟨_, rfl⟩
          rw [← e16]
          have h := h σ15 e16
          obtain ⟨c17, h⟩ := h
          refine mm_blk (M := mm_m_X11_row) 5 (S' := (52, [.ref 51, .int x1, .int x2, .int x3, .null], [], mm_u σ15 63 x1.toNatClampNeg x3)) (P := [mm_cl 51 = 11, vp_in x1 (mm_len 63)]) rfl ⟨rfl, c17, trivial⟩ ?_
          obtain ⟨σ18, e19⟩ : ∃ z, z = mm_u σ15 63 x1.toNatClampNeg x3 := ⟨_, rfl⟩
          rw [← e19]
          have h := h σ18 e19
          refine mm_blk (M := mm_m_X11_row) 2 (S' := (55, [.ref 51, .int x1, .int x2, .int x3, .int (0 : Int32)], [], σ18)) (P := []) rfl trivial ?_
          exact h
        · rw [if_neg b10]
          have h := h.2 b10
          refine mm_blk (M := mm_m_X11_row) 1 (S' := (30, [.ref 51, .int x1, .int x2, .int x3, .null], [.int (-14 : Int32)], σ5)) (P := []) rfl trivial ?_
          subst h
          exact mm_rt_ ⟨_, _, _, rfl, ⟨_, _, rfl, rfl, rfl, rfl⟩⟩
      · rw [if_neg b9]
        have h := h.2 b9
        refine mm_blk (M := mm_m_X11_row) 1 (S' := (23, [.ref 51, .int x1, .int x2, .int x3, .null], [.int (-1 : Int32)], σ5)) (P := []) rfl trivial ?_
        subst h
        exact mm_rt_ ⟨_, _, _, rfl, ⟨_, _, rfl, rfl, rfl, rfl⟩⟩
theorem sg_X11_row_55 (σ : mm_Sg) (x1 : Int32) (x2 : Int32) (x3 : Int32) (x4 : Int32) (R : Option Value × mm_Sg) (h : ((((100 : Int32) ≤ x4 → (R = (some (.int (0 : Int32)), σ))) ∧ (¬ ((100 : Int32) ≤ x4) → ((vp_in (((100 : Int32) * x1) + x4) (mm_len 64)) ∧ ∀ σ3 : mm_Sg, σ3 = mm_u σ 64 (((100 : Int32) * x1) + x4).toNatClampNeg (0 : Int32) → mm_Go mm_m_X11_row (55, [.ref 51, .int x1, .int x2, .int x3, .int (x4 + (1 : Int32))], [], σ3) R))))) : mm_Go mm_m_X11_row (55, [.ref 51, .int x1, .int x2, .int x3, .int x4], [], σ) R := by
  refine mm_blk (M := mm_m_X11_row) 3 (S' := ((if (100 : Int32) ≤ x4 then 81 else 62), [.ref 51, .int x1, .int x2, .int x3, .int x4], [], σ)) (P := []) rfl trivial ?_
  by_cases b1 : (100 : Int32) ≤ x4
  · rw [if_pos b1]
    have h := h.1 b1
    refine mm_blk (M := mm_m_X11_row) 1 (S' := (82, [.ref 51, .int x1, .int x2, .int x3, .int x4], [.int (0 : Int32)], σ)) (P := []) rfl trivial ?_
    subst h
    exact mm_rt_ ⟨_, _, _, rfl, ⟨_, _, rfl, rfl, rfl, rfl⟩⟩
  · rw [if_neg b1]
    have h := h.2 b1
    obtain ⟨c2, h⟩ := h
    refine mm_blk (M := mm_m_X11_row) 9 (S' := (75, [.ref 51, .int x1, .int x2, .int x3, .int x4], [], mm_u σ 64 (((100 : Int32) * x1) + x4).toNatClampNeg (0 : Int32))) (P := [mm_cl 51 = 11, vp_in (((100 : Int32) * x1) + x4) (mm_len 64)]) rfl ⟨rfl, c2, trivial⟩ ?_
    obtain ⟨σ3, e4⟩ : ∃ z, z = mm_u σ 64 (((100 : Int32) * x1) + x4).toNatClampNeg (0 : Int32) := ⟨_, rfl⟩
    rw [← e4]
    have h := h σ3 e4
    refine mm_blk (M := mm_m_X11_row) 2 (S' := (55, [.ref 51, .int x1, .int x2, .int x3, .int (x4 + (1 : Int32))], [], σ3)) (P := []) rfl trivial ?_
    exact h
theorem sg_X11_put_0 (σ : mm_Sg) (x1 : Int32) (x2 : Int32) (x3 : Int32) (R : Option Value × mm_Sg) (h : (∃ (v3 : Int32) (σ1 : mm_Sg), mm_Ev mm_m_X11_wrongRow [.ref 51, .int x1, .int (-1 : Int32)] σ (some (.int v3)) σ1 ∧ (((v3 = (0 : Int32) → ((vp_in x1 (mm_len 63)) ∧ ∃ (v8 : Int32) (σ6 : mm_Sg), mm_Ev mm_m_X11_isIn [.int x2, .int (0 : Int32), .int ((σ1 63 x1.toNatClampNeg) - (1 : Int32))] σ1 (some (.int v8)) σ6 ∧ (((¬ v8 = (0 : Int32) → ((vp_in x1 (mm_len 62)) ∧ ((¬ (σ6 62 x1.toNatClampNeg) = (0 : Int32) → (((¬ (σ6 62 x1.toNatClampNeg) = (1 : Int32) → ((vp_in (((100 : Int32) * x1) + x2) (mm_len 64)) ∧ ∀ σ14 : mm_Sg, σ14 = mm_u σ6 64 (((100 : Int32) * x1) + x2).toNatClampNeg x3 → (R = (some (.int (0 : Int32)), σ14)))) ∧ (¬ (¬ (σ6 62 x1.toNatClampNeg) = (1 : Int32)) → ((vp_in (((100 : Int32) * x1) + x2) (mm_len 64)) ∧ ∀ σ17 : mm_Sg, σ17 = mm_u σ6 64 (((100 : Int32) * x1) + x2).toNatClampNeg (x3.toInt16.toInt32) → (R = (some (.int (0 : Int32)), σ17))))))) ∧ (¬ (¬ (σ6 62 x1.toNatClampNeg) = (0 : Int32)) → ((vp_in (((100 : Int32) * x1) + x2) (mm_len 64)) ∧ ∀ σ20 : mm_Sg, σ20 = mm_u σ6 64 (((100 : Int32) * x1) + x2).toNatClampNeg (x3.toInt8.toInt32) → (R = (some (.int (0 : Int32)), σ20))))))) ∧ (¬ (¬ v8 = (0 : Int32)) → (R = (some (.int (-13 : Int32)), σ6))))))) ∧ (¬ (v3 = (0 : Int32)) → (R = (some (.int v3), σ1))))))) : mm_Go mm_m_X11_put (0, [.ref 51, .int x1, .int x2, .int x3, .null], [], σ) R := by
  refine mm_blk (M := mm_m_X11_put) 3 (S' := (3, [.ref 51, .int x1, .int x2, .int x3, .null], [.int (-1 : Int32), .int x1, .ref 51], σ)) (P := []) rfl trivial ?_
  obtain ⟨v3, σ1, e2, h⟩ := h
  refine mm_cl_ (rest := []) e2 ⟨_, _, _, rfl, rfl, mm_tb_X11_wrongRow, rfl, rfl, Nat.le_of_ble_eq_true rfl, Nat.le_of_ble_eq_true rfl, ⟨_, rfl, rfl⟩⟩ ?_
  refine mm_blk (M := mm_m_X11_put) 3 (S' := ((if v3 = (0 : Int32) then 16 else 13), [.ref 51, .int x1, .int x2, .int x3, .int v3], [], σ1)) (P := []) rfl trivial ?_
  by_cases b4 : v3 = (0 : Int32)
  · rw [if_pos b4]
    have h := h.1 b4
    obtain ⟨c5, h⟩ := h
    refine mm_blk (M := mm_m_X11_put) 8 (S' := (26, [.ref 51, .int x1, .int x2, .int x3, .int v3], [.int ((σ1 63 x1.toNatClampNeg) - (1 : Int32)), .int (0 : Int32), .int x2], σ1)) (P := [mm_cl 51 = 11, vp_in x1 (mm_len 63)]) rfl ⟨rfl, c5, trivial⟩ ?_
    obtain ⟨v8, σ6, e7, h⟩ := h
    refine mm_cl_ (rest := []) e7 ⟨_, _, _, rfl, rfl, mm_tb_X11_isIn, rfl, rfl, Nat.le_of_ble_eq_true rfl, Nat.le_of_ble_eq_true rfl, trivial⟩ ?_
    refine mm_blk (M := mm_m_X11_put) 1 (S' := ((if ¬ v8 = (0 : Int32) then 35 else 32), [.ref 51, .int x1, .int x2, .int x3, .int v3], [], σ6)) (P := []) rfl trivial ?_
    by_cases b9 : ¬ v8 = (0 : Int32)
    · rw [if_pos b9]
      have h := h.1 b9
      obtain ⟨c10, h⟩ := h
      refine mm_blk (M := mm_m_X11_put) 12 (S' := ((if ¬ (σ6 62 x1.toNatClampNeg) = (0 : Int32) then 59 else 54), [.ref 51, .int x1, .int x2, .int x3, .int v3], [.int (((100 : Int32) * x1) + x2), .ref 64], σ6)) (P := [mm_cl 51 = 11, mm_cl 51 = 11, vp_in x1 (mm_len 62)]) rfl ⟨rfl, rfl, c10, trivial⟩ ?_
      by_cases b11 : ¬ (σ6 62 x1.toNatClampNeg) = (0 : Int32)
      · rw [if_pos b11]
        have h := h.1 b11
        refine mm_blk (M := mm_m_X11_put) 6 (S' := ((if ¬ (σ6 62 x1.toNatClampNeg) = (1 : Int32) then 74 else 69), [.ref 51, .int x1, .int x2, .int x3, .int v3], [.int (((100 : Int32) * x1) + x2), .ref 64], σ6)) (P := [mm_cl 51 = 11, vp_in x1 (mm_len 62)]) rfl ⟨rfl, c10, trivial⟩ ?_
        by_cases b12 : ¬ (σ6 62 x1.toNatClampNeg) = (1 : Int32)
        · rw [if_pos b12]
          have h := h.1 b12
          obtain ⟨c13, h⟩ := h
          refine mm_blk (M := mm_m_X11_put) 2 (S' := (76, [.ref 51, .int x1, .int x2, .int x3, .int v3], [], mm_u σ6 64 (((100 : Int32) * x1) + x2).toNatClampNeg x3)) (P := [vp_in (((100 : Int32) * x1) + x2) (mm_len 64)]) rfl ⟨c13, trivial⟩ ?_
          obtain ⟨σ14, e15⟩ : ∃ z, z = mm_u σ6 64 (((100 : Int32) * x1) + x2).toNatClampNeg x3 := ⟨_, rfl⟩
          rw [← e15]
          have h := h σ14 e15
          refine mm_blk (M := mm_m_X11_put) 1 (S' := (77, [.ref 51, .int x1, .int x2, .int x3, .int v3], [.int (0 : Int32)], σ14)) (P := []) rfl trivial ?_
          subst h
          exact mm_rt_ ⟨_, _, _, rfl, ⟨_, _, rfl, rfl, rfl, rfl⟩⟩
        · rw [if_neg b12]
          have h := h.2 b12
          obtain ⟨c16, h⟩ := h
          refine mm_blk (M := mm_m_X11_put) 4 (S' := (76, [.ref 51, .int x1, .int x2, .int x3, .int v3], [], mm_u σ6 64 (((100 : Int32) * x1) + x2).toNatClampNeg (x3.toInt16.toInt32))) (P := [vp_in (((100 : Int32) * x1) + x2) (mm_len 64)]) rfl ⟨c16, trivial⟩ ?_
          obtain ⟨σ17, e18⟩ : ∃ z, z = mm_u σ6 64 (((100 : Int32) * x1) + x2).toNatClampNeg (x3.toInt16.toInt32) := ⟨_, rfl⟩
          rw [← e18]
          have h := h σ17 e18
          refine mm_blk (M := mm_m_X11_put) 1 (S' := (77, [.ref 51, .int x1, .int x2, .int x3, .int v3], [.int (0 : Int32)], σ17)) (P := []) rfl trivial ?_
          subst h
          exact mm_rt_ ⟨_, _, _, rfl, ⟨_, _, rfl, rfl, rfl, rfl⟩⟩
      · rw [if_neg b11]
        have h := h.2 b11
        obtain ⟨c19, h⟩ := h
        refine mm_blk (M := mm_m_X11_put) 4 (S' := (76, [.ref 51, .int x1, .int x2, .int x3, .int v3], [], mm_u σ6 64 (((100 : Int32) * x1) + x2).toNatClampNeg (x3.toInt8.toInt32))) (P := [vp_in (((100 : Int32) * x1) + x2) (mm_len 64)]) rfl ⟨c19, trivial⟩ ?_
        obtain ⟨σ20, e21⟩ : ∃ z, z = mm_u σ6 64 (((100 : Int32) * x1) + x2).toNatClampNeg (x3.toInt8.toInt32) := ⟨_, rfl⟩
        rw [← e21]
        have h := h σ20 e21
        refine mm_blk (M := mm_m_X11_put) 1 (S' := (77, [.ref 51, .int x1, .int x2, .int x3, .int v3], [.int (0 : Int32)], σ20)) (P := []) rfl trivial ?_
        subst h
        exact mm_rt_ ⟨_, _, _, rfl, ⟨_, _, rfl, rfl, rfl, rfl⟩⟩
    · rw [if_neg b9]
      have h := h.2 b9
      refine mm_blk (M := mm_m_X11_put) 1 (S' := (34, [.ref 51, .int x1, .int x2, .int x3, .int v3], [.int (-13 : Int32)], σ6)) (P := []) rfl trivial ?_
      subst h
      exact mm_rt_ ⟨_, _, _, rfl, ⟨_, _, rfl, rfl, rfl, rfl⟩⟩
  · rw [if_neg b4]
    have h := h.2 b4
    refine mm_blk (M := mm_m_X11_put) 1 (S' := (15, [.ref 51, .int x1, .int x2, .int x3, .int v3], [.int v3], σ1)) (P := []) rfl trivial ?_
    subst h
    exact mm_rt_ ⟨_, _, _, rfl, ⟨_, _, rfl, rfl, rfl, rfl⟩⟩
theorem sg_X11_element_0 (σ : mm_Sg) (x1 : Int32) (x2 : Int32) (R : Option Value × mm_Sg) (h : (∃ (v3 : Int32) (σ1 : mm_Sg), mm_Ev mm_m_X11_isShelf [.int x1] σ (some (.int v3)) σ1 ∧ (((¬ v3 = (0 : Int32) → ((vp_in x1 (mm_len 59)) ∧ ((¬ (σ1 59 x1.toNatClampNeg) = (2 : Int32) → (∀ σ7 : mm_Sg, σ7 = mm_u σ1 51 18 (2 : Int32) → (((¬ (σ7 51 18) = (0 : Int32) → (R = (some (.long (0 : Int64)), σ7))) ∧ (¬ (¬ (σ7 51 18) = (0 : Int32)) → ((vp_in (((100 : Int32) * x1) + x2) (mm_len 64)) ∧ R = (some (.long ((σ7 64 (((100 : Int32) * x1) + x2).toNatClampNeg).toInt64)), σ7))))))) ∧ (¬ (¬ (σ1 59 x1.toNatClampNeg) = (2 : Int32)) → ((vp_in x1 (mm_len 63)) ∧ ∃ (v14 : Int32) (σ12 : mm_Sg), mm_Ev mm_m_X11_isIn [.int x2, .int (0 : Int32), .int ((σ1 63 x1.toNatClampNeg) - (1 : Int32))] σ1 (some (.int v14)) σ12 ∧ (((¬ v14 = (0 : Int32) → (∀ σ16 : mm_Sg, σ16 = mm_u σ12 51 18 (0 : Int32) → (((¬ (σ16 51 18) = (0 : Int32) → (R = (some (.long (0 : Int64)), σ16))) ∧ (¬ (¬ (σ16 51 18) = (0 : Int32)) → ((vp_in (((100 : Int32) * x1) + x2) (mm_len 64)) ∧ R = (some (.long ((σ16 64 (((100 : Int32) * x1) + x2).toNatClampNeg).toInt64)), σ16))))))) ∧ (¬ (¬ v14 = (0 : Int32)) → (∀ σ20 : mm_Sg, σ20 = mm_u σ12 51 18 (2 : Int32) → (((¬ (σ20 51 18) = (0 : Int32) → (R = (some (.long (0 : Int64)), σ20))) ∧ (¬ (¬ (σ20 51 18) = (0 : Int32)) → ((vp_in (((100 : Int32) * x1) + x2) (mm_len 64)) ∧ R = (some (.long ((σ20 64 (((100 : Int32) * x1) + x2).toNatClampNeg).toInt64)), σ20)))))))))))))) ∧ (¬ (¬ v3 = (0 : Int32)) → (∀ σ24 : mm_Sg, σ24 = mm_u σ1 51 18 (1 : Int32) → (((¬ (σ24 51 18) = (0 : Int32) → (R = (some (.long (0 : Int64)), σ24))) ∧ (¬ (¬ (σ24 51 18) = (0 : Int32)) → ((vp_in (((100 : Int32) * x1) + x2) (mm_len 64)) ∧ R = (some (.long ((σ24 64 (((100 : Int32) * x1) + x2).toNatClampNeg).toInt64)), σ24))))))))))) : mm_Go mm_m_X11_element (0, [.ref 51, .int x1, .int x2], [], σ) R := by
  refine mm_blk (M := mm_m_X11_element) 2 (S' := (2, [.ref 51, .int x1, .int x2], [.int x1, .ref 51], σ)) (P := []) rfl trivial ?_
  obtain ⟨v3, σ1, e2, h⟩ := h
  refine mm_cl_ (rest := [.ref 51]) e2 ⟨_, _, _, rfl, rfl, mm_tb_X11_isShelf, rfl, rfl, Nat.le_of_ble_eq_true rfl, Nat.le_of_ble_eq_true rfl, trivial⟩ ?_
  refine mm_blk (M := mm_m_X11_element) 1 (S' := ((if ¬ v3 = (0 : Int32) then 12 else 8), [.ref 51, .int x1, .int x2], [.ref 51], σ1)) (P := []) rfl trivial ?_
  by_cases b4 : ¬ v3 = (0 : Int32)
  · rw [if_pos b4]
    have h := h.1 b4
    obtain ⟨c5, h⟩ := h
    refine mm_blk (M := mm_m_X11_element) 6 (S' := ((if ¬ (σ1 59 x1.toNatClampNeg) = (2 : Int32) then 38 else 22), [.ref 51, .int x1, .int x2], [.ref 51], σ1)) (P := [mm_cl 51 = 11, vp_in x1 (mm_len 59)]) rfl ⟨rfl, c5, trivial⟩ ?_
    by_cases b6 : ¬ (σ1 59 x1.toNatClampNeg) = (2 : Int32)
    · rw [if_pos b6]
      have h := h.1 b6
      refine mm_blk (M := mm_m_X11_element) 3 (S' := (46, [.ref 51, .int x1, .int x2], [], mm_u σ1 51 18 (2 : Int32))) (P := [mm_cl 51 = 11]) rfl ⟨rfl, trivial⟩ ?_
      obtain ⟨σ7, e8⟩ : ∃ z, z = mm_u σ1 51 18 (2 : Int32) := ⟨_, rfl⟩
      rw [← e8]
      have h := h σ7 e8
      refine mm_blk (M := mm_m_X11_element) 3 (S' := ((if ¬ (σ7 51 18) = (0 : Int32) then 68 else 53), [.ref 51, .int x1, .int x2], [], σ7)) (P := [mm_cl 51 = 11]) rfl ⟨rfl, trivial⟩ ?_
      by_cases b9 : ¬ (σ7 51 18) = (0 : Int32)
      · rw [if_pos b9]
        have h := h.1 b9
        refine mm_blk (M := mm_m_X11_element) 1 (S' := (69, [.ref 51, .int x1, .int x2], [.long (0 : Int64)], σ7)) (P := []) rfl trivial ?_
        subst h
        exact mm_rt_ ⟨_, _, _, rfl, ⟨_, rfl, rfl, rfl⟩⟩
      · rw [if_neg b9]
        have h := h.2 b9
        obtain ⟨c10, h⟩ := h
        refine mm_blk (M := mm_m_X11_element) 10 (S' := (69, [.ref 51, .int x1, .int x2], [.long ((σ7 64 (((100 : Int32) * x1) + x2).toNatClampNeg).toInt64)], σ7)) (P := [mm_cl 51 = 11, vp_in (((100 : Int32) * x1) + x2) (mm_len 64)]) rfl ⟨rfl, c10, trivial⟩ ?_
        subst h
        exact mm_rt_ ⟨_, _, _, rfl, ⟨_, rfl, rfl, rfl⟩⟩
    · rw [if_neg b6]
      have h := h.2 b6
      obtain ⟨c11, h⟩ := h
      refine mm_blk (M := mm_m_X11_element) 8 (S' := (32, [.ref 51, .int x1, .int x2], [.int ((σ1 63 x1.toNatClampNeg) - (1 : Int32)), .int (0 : Int32), .int x2, .ref 51], σ1)) (P := [mm_cl 51 = 11, vp_in x1 (mm_len 63)]) rfl ⟨rfl, c11, trivial⟩ ?_
      obtain ⟨v14, σ12, e13, h⟩ := h
      refine mm_cl_ (rest := [.ref 51]) e13 ⟨_, _, _, rfl, rfl, mm_tb_X11_isIn, rfl, rfl, Nat.le_of_ble_eq_true rfl, Nat.le_of_ble_eq_true rfl, trivial⟩ ?_
      refine mm_blk (M := mm_m_X11_element) 1 (S' := ((if ¬ v14 = (0 : Int32) then 42 else 38), [.ref 51, .int x1, .int x2], [.ref 51], σ12)) (P := []) rfl trivial ?_
      by_cases b15 : ¬ v14 = (0 : Int32)
      · rw [if_pos b15]
        have h := h.1 b15
        refine mm_blk (M := mm_m_X11_element) 2 (S' := (46, [.ref 51, .int x1, .int x2], [], mm_u σ12 51 18 (0 : Int32))) (P := [mm_cl 51 = 11]) rfl ⟨rfl, trivial⟩ ?_
        obtain ⟨σ16, e17⟩ : ∃ z, z = mm_u σ12 51 18 (0 : Int32) := ⟨_, rfl⟩
        rw [← e17]
        have h := h σ16 e17
        refine mm_blk (M := mm_m_X11_element) 3 (S' := ((if ¬ (σ16 51 18) = (0 : Int32) then 68 else 53), [.ref 51, .int x1, .int x2], [], σ16)) (P := [mm_cl 51 = 11]) rfl ⟨rfl, trivial⟩ ?_
        by_cases b18 : ¬ (σ16 51 18) = (0 : Int32)
        · rw [if_pos b18]
          have h := h.1 b18
          refine mm_blk (M := mm_m_X11_element) 1 (S' := (69, [.ref 51, .int x1, .int x2], [.long (0 : Int64)], σ16)) (P := []) rfl trivial ?_
          subst h
          exact mm_rt_ ⟨_, _, _, rfl, ⟨_, rfl, rfl, rfl⟩⟩
        · rw [if_neg b18]
          have h := h.2 b18
          obtain ⟨c19, h⟩ := h
          refine mm_blk (M := mm_m_X11_element) 10 (S' := (69, [.ref 51, .int x1, .int x2], [.long ((σ16 64 (((100 : Int32) * x1) + x2).toNatClampNeg).toInt64)], σ16)) (P := [mm_cl 51 = 11, vp_in (((100 : Int32) * x1) + x2) (mm_len 64)]) rfl ⟨rfl, c19, trivial⟩ ?_
          subst h
          exact mm_rt_ ⟨_, _, _, rfl, ⟨_, rfl, rfl, rfl⟩⟩
      · rw [if_neg b15]
        have h := h.2 b15
        refine mm_blk (M := mm_m_X11_element) 3 (S' := (46, [.ref 51, .int x1, .int x2], [], mm_u σ12 51 18 (2 : Int32))) (P := [mm_cl 51 = 11]) rfl ⟨rfl, trivial⟩ ?_
        obtain ⟨σ20, e21⟩ : ∃ z, z = mm_u σ12 51 18 (2 : Int32) := ⟨_, rfl⟩
        rw [← e21]
        have h := h σ20 e21
        refine mm_blk (M := mm_m_X11_element) 3 (S' := ((if ¬ (σ20 51 18) = (0 : Int32) then 68 else 53), [.ref 51, .int x1, .int x2], [], σ20)) (P := [mm_cl 51 = 11]) rfl ⟨rfl, trivial⟩ ?_
        by_cases b22 : ¬ (σ20 51 18) = (0 : Int32)
        · rw [if_pos b22]
          have h := h.1 b22
          refine mm_blk (M := mm_m_X11_element) 1 (S' := (69, [.ref 51, .int x1, .int x2], [.long (0 : Int64)], σ20)) (P := []) rfl trivial ?_
          subst h
          exact mm_rt_ ⟨_, _, _, rfl, ⟨_, rfl, rfl, rfl⟩⟩
        · rw [if_neg b22]
          have h := h.2 b22
          obtain ⟨c23, h⟩ := h
          refine mm_blk (M := mm_m_X11_element) 10 (S' := (69, [.ref 51, .int x1, .int x2], [.long ((σ20 64 (((100 : Int32) * x1) + x2).toNatClampNeg).toInt64)], σ20)) (P := [mm_cl 51 = 11, vp_in (((100 : Int32) * x1) + x2) (mm_len 64)]) rfl ⟨rfl, c23, trivial⟩ ?_
          subst h
          exact mm_rt_ ⟨_, _, _, rfl, ⟨_, rfl, rfl, rfl⟩⟩
  · rw [if_neg b4]
    have h := h.2 b4
    refine mm_blk (M := mm_m_X11_element) 3 (S' := (46, [.ref 51, .int x1, .int x2], [], mm_u σ1 51 18 (1 : Int32))) (P := [mm_cl 51 = 11]) rfl ⟨rfl, trivial⟩ ?_
    obtain ⟨σ24, e25⟩ : ∃ z, z = mm_u σ1 51 18 (1 : Int32) := ⟨_, rfl⟩
    rw [← e25]
    have h := h σ24 e25
    refine mm_blk (M := mm_m_X11_element) 3 (S' := ((if ¬ (σ24 51 18) = (0 : Int32) then 68 else 53), [.ref 51, .int x1, .int x2], [], σ24)) (P := [mm_cl 51 = 11]) rfl ⟨rfl, trivial⟩ ?_
    by_cases b26 : ¬ (σ24 51 18) = (0 : Int32)
    · rw [if_pos b26]
      have h := h.1 b26
      refine mm_blk (M := mm_m_X11_element) 1 (S' := (69, [.ref 51, .int x1, .int x2], [.long (0 : Int64)], σ24)) (P := []) rfl trivial ?_
      subst h
      exact mm_rt_ ⟨_, _, _, rfl, ⟨_, rfl, rfl, rfl⟩⟩
    · rw [if_neg b26]
      have h := h.2 b26
      obtain ⟨c27, h⟩ := h
      refine mm_blk (M := mm_m_X11_element) 10 (S' := (69, [.ref 51, .int x1, .int x2], [.long ((σ24 64 (((100 : Int32) * x1) + x2).toNatClampNeg).toInt64)], σ24)) (P := [mm_cl 51 = 11, vp_in (((100 : Int32) * x1) + x2) (mm_len 64)]) rfl ⟨rfl, c27, trivial⟩ ?_
      subst h
      exact mm_rt_ ⟨_, _, _, rfl, ⟨_, rfl, rfl, rfl⟩⟩
theorem sg_X11_copy_0 (σ : mm_Sg) (x1 : Int32) (x2 : Int32) (x3 : Int32) (x4 : Int32) (x5 : Int32) (R : Option Value × mm_Sg) (h : (∃ (v3 : Int32) (σ1 : mm_Sg), mm_Ev mm_m_X11_isShelf [.int x1] σ (some (.int v3)) σ1 ∧ (((v3 = (0 : Int32) → (R = (some (.int (-1 : Int32)), σ1))) ∧ (¬ (v3 = (0 : Int32)) → (∃ (v7 : Int32) (σ5 : mm_Sg), mm_Ev mm_m_X11_isShelf [.int x3] σ1 (some (.int v7)) σ5 ∧ (((¬ v7 = (0 : Int32) → ((vp_in x1 (mm_len 59)) ∧ (((σ5 59 x1.toNatClampNeg) = (0 : Int32) → (R = (some (.int (-11 : Int32)), σ5))) ∧ (¬ ((σ5 59 x1.toNatClampNeg) = (0 : Int32)) → ((vp_in x3 (mm_len 59)) ∧ ((¬ (σ5 59 x3.toNatClampNeg) = (0 : Int32) → (((¬ (σ5 59 x1.toNatClampNeg) = (2 : Int32) → (R = (some (.int (-12 : Int32)), σ5))) ∧ (¬ (¬ (σ5 59 x1.toNatClampNeg) = (2 : Int32)) → (((¬ (σ5 59 x3.toNatClampNeg) = (2 : Int32) → (R = (some (.int (-12 : Int32)), σ5))) ∧ (¬ (¬ (σ5 59 x3.toNatClampNeg) = (2 : Int32)) → ((vp_in x1 (mm_len 62)) ∧ (vp_in x3 (mm_len 62)) ∧ (((σ5 62 x1.toNatClampNeg) = (σ5 62 x3.toNatClampNeg) → (((x5 < (0 : Int32) → (R = (some (.int (-13 : Int32)), σ5))) ∧ (¬ (x5 < (0 : Int32)) → (((x2 < (0 : Int32) → (R = (some (.int (-13 : Int32)), σ5))) ∧ (¬ (x2 < (0 : Int32)) → (((x4 < (0 : Int32) → (R = (some (.int (-13 : Int32)), σ5))) ∧ (¬ (x4 < (0 : Int32)) → ((vp_in x1 (mm_len 63)) ∧ ((((σ5 63 x1.toNatClampNeg) - x2) < x5 → (R = (some (.int (-13 : Int32)), σ5))) ∧ (¬ (((σ5 63 x1.toNatClampNeg) - x2) < x5) → ((vp_in x3 (mm_len 63)) ∧ ((x5 ≤ ((σ5 63 x3.toNatClampNeg) - x4) → mm_Go mm_m_X11_copy (122, [.ref 51, .int x1, .int x2, .int x3, .int x4, .int x5, .int (0 : Int32), .null], [], σ5) R) ∧ (¬ (x5 ≤ ((σ5 63 x3.toNatClampNeg) - x4)) → (R = (some (.int (-13 : Int32)), σ5)))))))))))))))))) ∧ (¬ ((σ5 62 x1.toNatClampNeg) = (σ5 62 x3.toNatClampNeg)) → (R = (some (.int (-12 : Int32)), σ5)))))))))))) ∧ (¬ (¬ (σ5 59 x3.toNatClampNeg) = (0 : Int32)) → (R = (some (.int (-11 : Int32)), σ5))))))))) ∧ (¬ (¬ v7 = (0 : Int32)) → (R = (some (.int (-1 : Int32)), σ5))))))))))) : mm_Go mm_m_X11_copy (0, [.ref 51, .int x1, .int x2, .int x3, .int x4, .int x5, .null, .null], [], σ) R := by
  refine mm_blk (M := mm_m_X11_copy) 1 (S' := (1, [.ref 51, .int x1, .int x2, .int x3, .int x4, .int x5, .null, .null], [.int x1], σ)) (P := []) rfl trivial ?_
  obtain ⟨v3, σ1, e2, h⟩ := h
  refine mm_cl_ (rest := []) e2 ⟨_, _, _, rfl, rfl, mm_tb_X11_isShelf, rfl, rfl, Nat.le_of_ble_eq_true rfl, Nat.le_of_ble_eq_true rfl, trivial⟩ ?_
  refine mm_blk (M := mm_m_X11_copy) 1 (S' := ((if v3 = (0 : Int32) then 14 else 7), [.ref 51, .int x1, .int x2, .int x3, .int x4, .int x5, .null, .null], [], σ1)) (P := []) rfl trivial ?_
  by_cases b4 : v3 = (0 : Int32)
  · rw [if_pos b4]
    have h := h.1 b4
    refine mm_blk (M := mm_m_X11_copy) 1 (S' := (15, [.ref 51, .int x1, .int x2, .int x3, .int x4, .int x5, .null, .null], [.int (-1 : Int32)], σ1)) (P := []) rfl trivial ?_
    subst h
    exact mm_rt_ ⟨_, _, _, rfl, ⟨_, _, rfl, rfl, rfl, rfl⟩⟩
  · rw [if_neg b4]
    have h := h.2 b4
    refine mm_blk (M := mm_m_X11_copy) 1 (S' := (8, [.ref 51, .int x1, .int x2, .int x3, .int x4, .int x5, .null, .null], [.int x3], σ1)) (P := []) rfl trivial ?_
    obtain ⟨v7, σ5, e6, h⟩ := h
    refine mm_cl_ (rest := []) e6 ⟨_, _, _, rfl, rfl, mm_tb_X11_isShelf, rfl, rfl, Nat.le_of_ble_eq_true rfl, Nat.le_of_ble_eq_true rfl, trivial⟩ ?_
    refine mm_blk (M := mm_m_X11_copy) 1 (S' := ((if ¬ v7 = (0 : Int32) then 16 else 14), [.ref 51, .int x1, .int x2, .int x3, .int x4, .int x5, .null, .null], [], σ5)) (P := []) rfl trivial ?_
    by_cases b8 : ¬ v7 = (0 : Int32)
    · rw [if_pos b8]
      have h := h.1 b8
      obtain ⟨c9, h⟩ := h
      refine mm_blk (M := mm_m_X11_copy) 5 (S' := ((if (σ5 59 x1.toNatClampNeg) = (0 : Int32) then 34 else 25), [.ref 51, .int x1, .int x2, .int x3, .int x4, .int x5, .null, .null], [], σ5)) (P := [mm_cl 51 = 11, vp_in x1 (mm_len 59)]) rfl ⟨rfl, c9, trivial⟩ ?_
      by_cases b10 : (σ5 59 x1.toNatClampNeg) = (0 : Int32)
      · rw [if_pos b10]
        have h := h.1 b10
        refine mm_blk (M := mm_m_X11_copy) 1 (S' := (36, [.ref 51, .int x1, .int x2, .int x3, .int x4, .int x5, .null, .null], [.int (-11 : Int32)], σ5)) (P := []) rfl trivial ?_
        subst h
        exact mm_rt_ ⟨_, _, _, rfl, ⟨_, _, rfl, rfl, rfl, rfl⟩⟩
      · rw [if_neg b10]
        have h := h.2 b10
        obtain ⟨c11, h⟩ := h
        refine mm_blk (M := mm_m_X11_copy) 5 (S' := ((if ¬ (σ5 59 x3.toNatClampNeg) = (0 : Int32) then 37 else 34), [.ref 51, .int x1, .int x2, .int x3, .int x4, .int x5, .null, .null], [], σ5)) (P := [mm_cl 51 = 11, vp_in x3 (mm_len 59)]) rfl ⟨rfl, c11, trivial⟩ ?_
        by_cases b12 : ¬ (σ5 59 x3.toNatClampNeg) = (0 : Int32)
        · rw [if_pos b12]
          have h := h.1 b12
          refine mm_blk (M := mm_m_X11_copy) 6 (S' := ((if ¬ (σ5 59 x1.toNatClampNeg) = (2 : Int32) then 72 else 47), [.ref 51, .int x1, .int x2, .int x3, .int x4, .int x5, .null, .null], [], σ5)) (P := [mm_cl 51 = 11, vp_in x1 (mm_len 59)]) rfl ⟨rfl, c9, trivial⟩ ?_
          by_cases b13 : ¬ (σ5 59 x1.toNatClampNeg) = (2 : Int32)
          · rw [if_pos b13]
            have h := h.1 b13
            refine mm_blk (M := mm_m_X11_copy) 1 (S' := (74, [.ref 51, .int x1, .int x2, .int x3, .int x4, .int x5, .null, .null], [.int (-12 : Int32)], σ5)) (P := []) rfl trivial ?_
            subst h
            exact mm_rt_ ⟨_, _, _, rfl, ⟨_, _, rfl, rfl, rfl, rfl⟩⟩
          · rw [if_neg b13]
            have h := h.2 b13
            refine mm_blk (M := mm_m_X11_copy) 6 (S' := ((if ¬ (σ5 59 x3.toNatClampNeg) = (2 : Int32) then 72 else 57), [.ref 51, .int x1, .int x2, .int x3, .int x4, .int x5, .null, .null], [], σ5)) (P := [mm_cl 51 = 11, vp_in x3 (mm_len 59)]) rfl ⟨rfl, c11, trivial⟩ ?_
            by_cases b14 : ¬ (σ5 59 x3.toNatClampNeg) = (2 : Int32)
            · rw [if_pos b14]
              have h := h.1 b14
              refine mm_blk (M := mm_m_X11_copy) 1 (S' := (74, [.ref 51, .int x1, .int x2, .int x3, .int x4, .int x5, .null, .null], [.int (-12 : Int32)], σ5)) (P := []) rfl trivial ?_
              subst h
              exact mm_rt_ ⟨_, _, _, rfl, ⟨_, _, rfl, rfl, rfl, rfl⟩⟩
            · rw [if_neg b14]
              have h := h.2 b14
              obtain ⟨c15, h⟩ := h
              obtain ⟨c16, h⟩ := h
              refine mm_blk (M := mm_m_X11_copy) 9 (S' := ((if (σ5 62 x1.toNatClampNeg) = (σ5 62 x3.toNatClampNeg) then 75 else 72), [.ref 51, .int x1, .int x2, .int x3, .int x4, .int x5, .null, .null], [], σ5)) (P := [mm_cl 51 = 11, vp_in x1 (mm_len 62), mm_cl 51 = 11, vp_in x3 (mm_len 62)]) rfl ⟨rfl, c15, rfl, c16, trivial⟩ ?_
              by_cases b17 : (σ5 62 x1.toNatClampNeg) = (σ5 62 x3.toNatClampNeg)
              · rw [if_pos b17]
                have h := h.1 b17
                refine mm_blk (M := mm_m_X11_copy) 2 (S' := ((if x5 < (0 : Int32) then 116 else 80), [.ref 51, .int x1, .int x2, .int x3, .int x4, .int x5, .null, .null], [], σ5)) (P := []) rfl trivial ?_
                by_cases b18 : x5 < (0 : Int32)
                · rw [if_pos b18]
                  have h := h.1 b18
                  refine mm_blk (M := mm_m_X11_copy) 1 (S' := (118, [.ref 51, .int x1, .int x2, .int x3, .int x4, .int x5, .null, .null], [.int (-13 : Int32)], σ5)) (P := []) rfl trivial ?_
                  subst h
                  exact mm_rt_ ⟨_, _, _, rfl, ⟨_, _, rfl, rfl, rfl, rfl⟩⟩
                · rw [if_neg b18]
                  have h := h.2 b18
                  refine mm_blk (M := mm_m_X11_copy) 2 (S' := ((if x2 < (0 : Int32) then 116 else 84), [.ref 51, .int x1, .int x2, .int x3, .int x4, .int x5, .null, .null], [], σ5)) (P := []) rfl trivial ?_
                  by_cases b19 : x2 < (0 : Int32)
                  · rw [if_pos b19]
                    have h := h.1 b19
                    refine mm_blk (M := mm_m_X11_copy) 1 (S' := (118, [.ref 51, .int x1, .int x2, .int x3, .int x4, .int x5, .null, .null], [.int (-13 : Int32)], σ5)) (P := []) rfl trivial ?_
                    subst h
                    exact mm_rt_ ⟨_, _, _, rfl, ⟨_, _, rfl, rfl, rfl, rfl⟩⟩
                  · rw [if_neg b19]
                    have h := h.2 b19
                    refine mm_blk (M := mm_m_X11_copy) 2 (S' := ((if x4 < (0 : Int32) then 116 else 89), [.ref 51, .int x1, .int x2, .int x3, .int x4, .int x5, .null, .null], [], σ5)) (P := []) rfl trivial ?_
                    by_cases b20 : x4 < (0 : Int32)
                    · rw [if_pos b20]
                      have h := h.1 b20
                      refine mm_blk (M := mm_m_X11_copy) 1 (S' := (118, [.ref 51, .int x1, .int x2, .int x3, .int x4, .int x5, .null, .null], [.int (-13 : Int32)], σ5)) (P := []) rfl trivial ?_
                      subst h
                      exact mm_rt_ ⟨_, _, _, rfl, ⟨_, _, rfl, rfl, rfl, rfl⟩⟩
                    · rw [if_neg b20]
                      have h := h.2 b20
                      obtain ⟨c21, h⟩ := h
                      refine mm_blk (M := mm_m_X11_copy) 8 (S' := ((if ((σ5 63 x1.toNatClampNeg) - x2) < x5 then 116 else 102), [.ref 51, .int x1, .int x2, .int x3, .int x4, .int x5, .null, .null], [], σ5)) (P := [mm_cl 51 = 11, vp_in x1 (mm_len 63)]) rfl ⟨rfl, c21, trivial⟩ ?_
                      by_cases b22 : ((σ5 63 x1.toNatClampNeg) - x2) < x5
                      · rw [if_pos b22]
                        have h := h.1 b22
                        refine mm_blk (M := mm_m_X11_copy) 1 (S' := (118, [.ref 51, .int x1, .int x2, .int x3, .int x4, .int x5, .null, .null], [.int (-13 : Int32)], σ5)) (P := []) rfl trivial ?_
                        subst h
                        exact mm_rt_ ⟨_, _, _, rfl, ⟨_, _, rfl, rfl, rfl, rfl⟩⟩
                      · rw [if_neg b22]
                        have h := h.2 b22
                        obtain ⟨c23, h⟩ := h
                        refine mm_blk (M := mm_m_X11_copy) 8 (S' := ((if x5 ≤ ((σ5 63 x3.toNatClampNeg) - x4) then 119 else 116), [.ref 51, .int x1, .int x2, .int x3, .int x4, .int x5, .null, .null], [], σ5)) (P := [mm_cl 51 = 11, vp_in x3 (mm_len 63)]) rfl ⟨rfl, c23, trivial⟩ ?_
                        by_cases b24 : x5 ≤ ((σ5 63 x3.toNatClampNeg) - x4)
                        · rw [if_pos b24]
                          have h := h.1 b24
                          refine mm_blk (M := mm_m_X11_copy) 2 (S' := (122, [.ref 51, .int x1, .int x2, .int x3, .int x4, .int x5, .int (0 : Int32), .null], [], σ5)) (P := []) rfl trivial ?_
                          exact h
                        · rw [if_neg b24]
                          have h := h.2 b24
                          refine mm_blk (M := mm_m_X11_copy) 1 (S' := (118, [.ref 51, .int x1, .int x2, .int x3, .int x4, .int x5, .null, .null], [.int (-13 : Int32)], σ5)) (P := []) rfl trivial ?_
                          subst h
                          exact mm_rt_ ⟨_, _, _, rfl, ⟨_, _, rfl, rfl, rfl, rfl⟩⟩
              · rw [if_neg b17]
                have h := h.2 b17
                refine mm_blk (M := mm_m_X11_copy) 1 (S' := (74, [.ref 51, .int x1, .int x2, .int x3, .int x4, .int x5, .null, .null], [.int (-12 : Int32)], σ5)) (P := []) rfl trivial ?_
                subst h
                exact mm_rt_ ⟨_, _, _, rfl, ⟨_, _, rfl, rfl, rfl, rfl⟩⟩
        · rw [if_neg b12]
          have h := h.2 b12
          refine mm_blk (M := mm_m_X11_copy) 1 (S' := (36, [.ref 51, .int x1, .int x2, .int x3, .int x4, .int x5, .null, .null], [.int (-11 : Int32)], σ5)) (P := []) rfl trivial ?_
          subst h
          exact mm_rt_ ⟨_, _, _, rfl, ⟨_, _, rfl, rfl, rfl, rfl⟩⟩
    · rw [if_neg b8]
      have h := h.2 b8
      refine mm_blk (M := mm_m_X11_copy) 1 (S' := (15, [.ref 51, .int x1, .int x2, .int x3, .int x4, .int x5, .null, .null], [.int (-1 : Int32)], σ5)) (P := []) rfl trivial ?_
      subst h
      exact mm_rt_ ⟨_, _, _, rfl, ⟨_, _, rfl, rfl, rfl, rfl⟩⟩
theorem sg_X11_copy_122 (σ : mm_Sg) (x1 : Int32) (x2 : Int32) (x3 : Int32) (x4 : Int32) (x5 : Int32) (x6 : Int32) (d7 : Value) (R : Option Value × mm_Sg) (h : (((x5 ≤ x6 → (R = (some (.int x5), σ))) ∧ (¬ (x5 ≤ x6) → (((x2 ≤ x4 → mm_Go mm_m_X11_copy (147, [.ref 51, .int x1, .int x2, .int x3, .int x4, .int x5, .int x6, d7], [.int ((x5 - (1 : Int32)) - x6)], σ) R) ∧ (¬ (x2 ≤ x4) → mm_Go mm_m_X11_copy (147, [.ref 51, .int x1, .int x2, .int x3, .int x4, .int x5, .int x6, d7], [.int x6], σ) R))))))) : mm_Go mm_m_X11_copy (122, [.ref 51, .int x1, .int x2, .int x3, .int x4, .int x5, .int x6, d7], [], σ) R := by
  refine mm_blk (M := mm_m_X11_copy) 3 (S' := ((if x5 ≤ x6 then 184 else 129), [.ref 51, .int x1, .int x2, .int x3, .int x4, .int x5, .int x6, d7], [], σ)) (P := []) rfl trivial ?_
  by_cases b1 : x5 ≤ x6
  · rw [if_pos b1]
    have h := h.1 b1
    refine mm_blk (M := mm_m_X11_copy) 1 (S' := (186, [.ref 51, .int x1, .int x2, .int x3, .int x4, .int x5, .int x6, d7], [.int x5], σ)) (P := []) rfl trivial ?_
    subst h
    exact mm_rt_ ⟨_, _, _, rfl, ⟨_, _, rfl, rfl, rfl, rfl⟩⟩
  · rw [if_neg b1]
    have h := h.2 b1
    refine mm_blk (M := mm_m_X11_copy) 3 (S' := ((if x2 ≤ x4 then 140 else 135), [.ref 51, .int x1, .int x2, .int x3, .int x4, .int x5, .int x6, d7], [], σ)) (P := []) rfl trivial ?_
    by_cases b2 : x2 ≤ x4
    · rw [if_pos b2]
      have h := h.1 b2
      refine mm_blk (M := mm_m_X11_copy) 5 (S' := (147, [.ref 51, .int x1, .int x2, .int x3, .int x4, .int x5, .int x6, d7], [.int ((x5 - (1 : Int32)) - x6)], σ)) (P := []) rfl trivial ?_
      exact h
    · rw [if_neg b2]
      have h := h.2 b2
      refine mm_blk (M := mm_m_X11_copy) 2 (S' := (147, [.ref 51, .int x1, .int x2, .int x3, .int x4, .int x5, .int x6, d7], [.int x6], σ)) (P := []) rfl trivial ?_
      exact h
theorem sg_X11_copy_147 (σ : mm_Sg) (x1 : Int32) (x2 : Int32) (x3 : Int32) (x4 : Int32) (x5 : Int32) (x6 : Int32) (d7 : Value) (s0 : Int32) (R : Option Value × mm_Sg) (h : ((vp_in ((((100 : Int32) * x1) + x2) + s0) (mm_len 64)) ∧ (vp_in ((((100 : Int32) * x3) + x4) + s0) (mm_len 64)) ∧ ∀ σ3 : mm_Sg, σ3 = mm_u σ 64 ((((100 : Int32) * x3) + x4) + s0).toNatClampNeg (σ 64 ((((100 : Int32) * x1) + x2) + s0).toNatClampNeg) → mm_Go mm_m_X11_copy (122, [.ref 51, .int x1, .int x2, .int x3, .int x4, .int x5, .int (x6 + (1 : Int32)), .int s0], [], σ3) R)) : mm_Go mm_m_X11_copy (147, [.ref 51, .int x1, .int x2, .int x3, .int x4, .int x5, .int x6, d7], [.int s0], σ) R := by
  obtain ⟨c1, h⟩ := h
  obtain ⟨c2, h⟩ := h
  refine mm_blk (M := mm_m_X11_copy) 21 (S' := (178, [.ref 51, .int x1, .int x2, .int x3, .int x4, .int x5, .int x6, .int s0], [], mm_u σ 64 ((((100 : Int32) * x3) + x4) + s0).toNatClampNeg (σ 64 ((((100 : Int32) * x1) + x2) + s0).toNatClampNeg))) (P := [mm_cl 51 = 11, mm_cl 51 = 11, vp_in ((((100 : Int32) * x1) + x2) + s0) (mm_len 64), vp_in ((((100 : Int32) * x3) + x4) + s0) (mm_len 64)]) rfl ⟨rfl, rfl, c1, c2, trivial⟩ ?_
  obtain ⟨σ3, e4⟩ : ∃ z, z = mm_u σ 64 ((((100 : Int32) * x3) + x4) + s0).toNatClampNeg (σ 64 ((((100 : Int32) * x1) + x2) + s0).toNatClampNeg) := ⟨_, rfl⟩
  rw [← e4]
  have h := h σ3 e4
  refine mm_blk (M := mm_m_X11_copy) 2 (S' := (122, [.ref 51, .int x1, .int x2, .int x3, .int x4, .int x5, .int (x6 + (1 : Int32)), .int s0], [], σ3)) (P := []) rfl trivial ?_
  exact h
theorem sg_X11_costBy_0 (σ : mm_Sg) (x0 : Int32) (x1 : Int32) (R : Option Value × mm_Sg) (h : (((x0 = nI 1 → (R = (some (.int (4 : Int32)), σ))) ∧ (¬ (x0 = nI 1) → ((x0 = nI 2 → (R = (some (.int ((3 : Int32) + x1)), σ))) ∧ (¬ (x0 = nI 2) → ((x0 = nI 3 → (R = (some (.int (2 : Int32)), σ))) ∧ (¬ (x0 = nI 3) → ((x0 = nI 4 → (R = (some (.int ((2 : Int32) * ((3 : Int32) + x1))), σ))) ∧ (¬ (x0 = nI 4) → ((x0 = nI 5 → (R = (some (.int (4 : Int32)), σ))) ∧ (¬ (x0 = nI 5) → ((x0 = nI 6 → (R = (some (.int (((2 : Int32) * ((3 : Int32) + x1)) - (5 : Int32))), σ))) ∧ (¬ (x0 = nI 6) → ((x0 = nI 7 → (R = (some (.int (1 : Int32)), σ))) ∧ (¬ (x0 = nI 7) → (R = (some (.int (3 : Int32)), σ)))))))))))))))))) : mm_Go mm_m_X11_costBy (0, [.int x0, .int x1], [], σ) R := by
  refine mm_blk (M := mm_m_X11_costBy) 2 (S' := ((mm_tsw x0 68 1 [44, 46, 50, 52, 44, 58, 66]), [.int x0, .int x1], [], σ)) (P := []) rfl trivial ?_
  by_cases b1 : x0 = nI 1
  · rw [show mm_tsw x0 68 1 [44, 46, 50, 52, 44, 58, 66] = 44 from mm_tsw_t b1]
    have h := h.1 b1
    refine mm_blk (M := mm_m_X11_costBy) 1 (S' := (45, [.int x0, .int x1], [.int (4 : Int32)], σ)) (P := []) rfl trivial ?_
    subst h
    exact mm_rt_ ⟨_, _, _, rfl, ⟨_, _, rfl, rfl, rfl, rfl⟩⟩
  rw [show mm_tsw x0 68 1 [44, 46, 50, 52, 44, 58, 66] = mm_tsw x0 68 2 [46, 50, 52, 44, 58, 66] from mm_tsw_f b1]
  have h := h.2 b1
  by_cases b2 : x0 = nI 2
  · rw [show mm_tsw x0 68 2 [46, 50, 52, 44, 58, 66] = 46 from mm_tsw_t b2]
    have h := h.1 b2
    refine mm_blk (M := mm_m_X11_costBy) 3 (S' := (49, [.int x0, .int x1], [.int ((3 : Int32) + x1)], σ)) (P := []) rfl trivial ?_
    subst h
    exact mm_rt_ ⟨_, _, _, rfl, ⟨_, _, rfl, rfl, rfl, rfl⟩⟩
  rw [show mm_tsw x0 68 2 [46, 50, 52, 44, 58, 66] = mm_tsw x0 68 3 [50, 52, 44, 58, 66] from mm_tsw_f b2]
  have h := h.2 b2
  by_cases b3 : x0 = nI 3
  · rw [show mm_tsw x0 68 3 [50, 52, 44, 58, 66] = 50 from mm_tsw_t b3]
    have h := h.1 b3
    refine mm_blk (M := mm_m_X11_costBy) 1 (S' := (51, [.int x0, .int x1], [.int (2 : Int32)], σ)) (P := []) rfl trivial ?_
    subst h
    exact mm_rt_ ⟨_, _, _, rfl, ⟨_, _, rfl, rfl, rfl, rfl⟩⟩
  rw [show mm_tsw x0 68 3 [50, 52, 44, 58, 66] = mm_tsw x0 68 4 [52, 44, 58, 66] from mm_tsw_f b3]
  have h := h.2 b3
  by_cases b4 : x0 = nI 4
  · rw [show mm_tsw x0 68 4 [52, 44, 58, 66] = 52 from mm_tsw_t b4]
    have h := h.1 b4
    refine mm_blk (M := mm_m_X11_costBy) 5 (S' := (57, [.int x0, .int x1], [.int ((2 : Int32) * ((3 : Int32) + x1))], σ)) (P := []) rfl trivial ?_
    subst h
    exact mm_rt_ ⟨_, _, _, rfl, ⟨_, _, rfl, rfl, rfl, rfl⟩⟩
  rw [show mm_tsw x0 68 4 [52, 44, 58, 66] = mm_tsw x0 68 5 [44, 58, 66] from mm_tsw_f b4]
  have h := h.2 b4
  by_cases b5 : x0 = nI 5
  · rw [show mm_tsw x0 68 5 [44, 58, 66] = 44 from mm_tsw_t b5]
    have h := h.1 b5
    refine mm_blk (M := mm_m_X11_costBy) 1 (S' := (45, [.int x0, .int x1], [.int (4 : Int32)], σ)) (P := []) rfl trivial ?_
    subst h
    exact mm_rt_ ⟨_, _, _, rfl, ⟨_, _, rfl, rfl, rfl, rfl⟩⟩
  rw [show mm_tsw x0 68 5 [44, 58, 66] = mm_tsw x0 68 6 [58, 66] from mm_tsw_f b5]
  have h := h.2 b5
  by_cases b6 : x0 = nI 6
  · rw [show mm_tsw x0 68 6 [58, 66] = 58 from mm_tsw_t b6]
    have h := h.1 b6
    refine mm_blk (M := mm_m_X11_costBy) 7 (S' := (65, [.int x0, .int x1], [.int (((2 : Int32) * ((3 : Int32) + x1)) - (5 : Int32))], σ)) (P := []) rfl trivial ?_
    subst h
    exact mm_rt_ ⟨_, _, _, rfl, ⟨_, _, rfl, rfl, rfl, rfl⟩⟩
  rw [show mm_tsw x0 68 6 [58, 66] = mm_tsw x0 68 7 [66] from mm_tsw_f b6]
  have h := h.2 b6
  by_cases b7 : x0 = nI 7
  · rw [show mm_tsw x0 68 7 [66] = 66 from mm_tsw_t b7]
    have h := h.1 b7
    refine mm_blk (M := mm_m_X11_costBy) 1 (S' := (67, [.int x0, .int x1], [.int (1 : Int32)], σ)) (P := []) rfl trivial ?_
    subst h
    exact mm_rt_ ⟨_, _, _, rfl, ⟨_, _, rfl, rfl, rfl, rfl⟩⟩
  rw [show mm_tsw x0 68 7 [66] = mm_tsw x0 68 8 [] from mm_tsw_f b7]
  have h := h.2 b7
  change mm_Go mm_m_X11_costBy (68, [.int x0, .int x1], [], σ) R
  refine mm_blk (M := mm_m_X11_costBy) 1 (S' := (69, [.int x0, .int x1], [.int (3 : Int32)], σ)) (P := []) rfl trivial ?_
  subst h
  exact mm_rt_ ⟨_, _, _, rfl, ⟨_, _, rfl, rfl, rfl, rfl⟩⟩
theorem sg_X11_cost_0 (σ : mm_Sg) (x1 : Int32) (R : Option Value × mm_Sg) (h : (∃ (v3 : Int32) (σ1 : mm_Sg), mm_Ev mm_m_X11_wrongKept [.ref 51, .int x1] σ (some (.int v3)) σ1 ∧ (((v3 = (0 : Int32) → ((vp_in x1 (mm_len 60)) ∧ (vp_in x1 (mm_len 61)) ∧ ∃ (v9 : Int32) (σ7 : mm_Sg), mm_Ev mm_m_X11_costBy [.int (σ1 60 x1.toNatClampNeg), .int (σ1 61 x1.toNatClampNeg)] σ1 (some (.int v9)) σ7 ∧ (R = (some (.int v9), σ7)))) ∧ (¬ (v3 = (0 : Int32)) → (R = (some (.int v3), σ1))))))) : mm_Go mm_m_X11_cost (0, [.ref 51, .int x1, .null], [], σ) R := by
  refine mm_blk (M := mm_m_X11_cost) 2 (S' := (2, [.ref 51, .int x1, .null], [.int x1, .ref 51], σ)) (P := []) rfl trivial ?_
  obtain ⟨v3, σ1, e2, h⟩ := h
  refine mm_cl_ (rest := []) e2 ⟨_, _, _, rfl, rfl, mm_tb_X11_wrongKept, rfl, rfl, Nat.le_of_ble_eq_true rfl, Nat.le_of_ble_eq_true rfl, ⟨_, rfl, rfl⟩⟩ ?_
  refine mm_blk (M := mm_m_X11_cost) 3 (S' := ((if v3 = (0 : Int32) then 14 else 10), [.ref 51, .int x1, .int v3], [], σ1)) (P := []) rfl trivial ?_
  by_cases b4 : v3 = (0 : Int32)
  · rw [if_pos b4]
    have h := h.1 b4
    obtain ⟨c5, h⟩ := h
    obtain ⟨c6, h⟩ := h
    refine mm_blk (M := mm_m_X11_cost) 8 (S' := (26, [.ref 51, .int x1, .int v3], [.int (σ1 61 x1.toNatClampNeg), .int (σ1 60 x1.toNatClampNeg)], σ1)) (P := [mm_cl 51 = 11, vp_in x1 (mm_len 60), mm_cl 51 = 11, vp_in x1 (mm_len 61)]) rfl ⟨rfl, c5, rfl, c6, trivial⟩ ?_
    obtain ⟨v9, σ7, e8, h⟩ := h
    refine mm_cl_ (rest := []) e8 ⟨_, _, _, rfl, rfl, mm_tb_X11_costBy, rfl, rfl, Nat.le_of_ble_eq_true rfl, Nat.le_of_ble_eq_true rfl, trivial⟩ ?_
    subst h
    exact mm_rt_ ⟨_, _, _, rfl, ⟨_, _, rfl, rfl, rfl, rfl⟩⟩
  · rw [if_neg b4]
    have h := h.2 b4
    refine mm_blk (M := mm_m_X11_cost) 2 (S' := (29, [.ref 51, .int x1, .int v3], [.int v3], σ1)) (P := []) rfl trivial ?_
    subst h
    exact mm_rt_ ⟨_, _, _, rfl, ⟨_, _, rfl, rfl, rfl, rfl⟩⟩
theorem sg_X11_toss_0 (σ : mm_Sg) (x1 : Int32) (R : Option Value × mm_Sg) (h : (∃ (v3 : Int32) (σ1 : mm_Sg), mm_Ev mm_m_X11_wrongKept [.ref 51, .int x1] σ (some (.int v3)) σ1 ∧ (((v3 = (0 : Int32) → ((vp_in x1 (mm_len 60)) ∧ (vp_in x1 (mm_len 61)) ∧ (((σ1 60 x1.toNatClampNeg) = (3 : Int32) → (R = (some (.int (-15 : Int32)), σ1))) ∧ (¬ ((σ1 60 x1.toNatClampNeg) = (3 : Int32)) → ((((σ1 60 x1.toNatClampNeg) = (7 : Int32) → (R = (some (.int (-15 : Int32)), σ1))) ∧ (¬ ((σ1 60 x1.toNatClampNeg) = (7 : Int32)) → (((¬ (σ1 61 x1.toNatClampNeg) = (0 : Int32) → (((¬ (σ1 60 x1.toNatClampNeg) = (6 : Int32) → ((((σ1 60 x1.toNatClampNeg) = (2 : Int32) → (R = (some (.int ((100 : Int32) + (σ1 61 x1.toNatClampNeg))), σ1))) ∧ (¬ ((σ1 60 x1.toNatClampNeg) = (2 : Int32)) → (((¬ (σ1 60 x1.toNatClampNeg) = (4 : Int32) → (R = (some (.int (σ1 61 x1.toNatClampNeg)), σ1))) ∧ (¬ (¬ (σ1 60 x1.toNatClampNeg) = (4 : Int32)) → (R = (some (.int ((100 : Int32) + (σ1 61 x1.toNatClampNeg))), σ1))))))))) ∧ (¬ (¬ (σ1 60 x1.toNatClampNeg) = (6 : Int32)) → (∃ (v15 : Int32) (σ13 : mm_Sg), mm_Ev mm_m_X11_costBy [.int (σ1 60 x1.toNatClampNeg), .int (σ1 61 x1.toNatClampNeg)] σ1 (some (.int v15)) σ13 ∧ (R = (some (.int ((200 : Int32) + v15)), σ13))))))) ∧ (¬ (¬ (σ1 61 x1.toNatClampNeg) = (0 : Int32)) → (R = (some (.int (-15 : Int32)), σ1)))))))))))) ∧ (¬ (v3 = (0 : Int32)) → (R = (some (.int v3), σ1))))))) : mm_Go mm_m_X11_toss (0, [.ref 51, .int x1, .null, .null, .null], [], σ) R := by
  refine mm_blk (M := mm_m_X11_toss) 2 (S' := (2, [.ref 51, .int x1, .null, .null, .null], [.int x1, .ref 51], σ)) (P := []) rfl trivial ?_
  obtain ⟨v3, σ1, e2, h⟩ := h
  refine mm_cl_ (rest := []) e2 ⟨_, _, _, rfl, rfl, mm_tb_X11_wrongKept, rfl, rfl, Nat.le_of_ble_eq_true rfl, Nat.le_of_ble_eq_true rfl, ⟨_, rfl, rfl⟩⟩ ?_
  refine mm_blk (M := mm_m_X11_toss) 3 (S' := ((if v3 = (0 : Int32) then 12 else 10), [.ref 51, .int x1, .int v3, .null, .null], [], σ1)) (P := []) rfl trivial ?_
  by_cases b4 : v3 = (0 : Int32)
  · rw [if_pos b4]
    have h := h.1 b4
    obtain ⟨c5, h⟩ := h
    obtain ⟨c6, h⟩ := h
    refine mm_blk (M := mm_m_X11_toss) 13 (S' := ((if (σ1 60 x1.toNatClampNeg) = (3 : Int32) then 43 else 32), [.ref 51, .int x1, .int v3, .int (σ1 60 x1.toNatClampNeg), .int (σ1 61 x1.toNatClampNeg)], [], σ1)) (P := [mm_cl 51 = 11, vp_in x1 (mm_len 60), mm_cl 51 = 11, vp_in x1 (mm_len 61)]) rfl ⟨rfl, c5, rfl, c6, trivial⟩ ?_
    by_cases b7 : (σ1 60 x1.toNatClampNeg) = (3 : Int32)
    · rw [if_pos b7]
      have h := h.1 b7
      refine mm_blk (M := mm_m_X11_toss) 1 (S' := (45, [.ref 51, .int x1, .int v3, .int (σ1 60 x1.toNatClampNeg), .int (σ1 61 x1.toNatClampNeg)], [.int (-15 : Int32)], σ1)) (P := []) rfl trivial ?_
      subst h
      exact mm_rt_ ⟨_, _, _, rfl, ⟨_, _, rfl, rfl, rfl, rfl⟩⟩
    · rw [if_neg b7]
      have h := h.2 b7
      refine mm_blk (M := mm_m_X11_toss) 3 (S' := ((if (σ1 60 x1.toNatClampNeg) = (7 : Int32) then 43 else 38), [.ref 51, .int x1, .int v3, .int (σ1 60 x1.toNatClampNeg), .int (σ1 61 x1.toNatClampNeg)], [], σ1)) (P := []) rfl trivial ?_
      by_cases b8 : (σ1 60 x1.toNatClampNeg) = (7 : Int32)
      · rw [if_pos b8]
        have h := h.1 b8
        refine mm_blk (M := mm_m_X11_toss) 1 (S' := (45, [.ref 51, .int x1, .int v3, .int (σ1 60 x1.toNatClampNeg), .int (σ1 61 x1.toNatClampNeg)], [.int (-15 : Int32)], σ1)) (P := []) rfl trivial ?_
        subst h
        exact mm_rt_ ⟨_, _, _, rfl, ⟨_, _, rfl, rfl, rfl, rfl⟩⟩
      · rw [if_neg b8]
        have h := h.2 b8
        refine mm_blk (M := mm_m_X11_toss) 2 (S' := ((if ¬ (σ1 61 x1.toNatClampNeg) = (0 : Int32) then 46 else 43), [.ref 51, .int x1, .int v3, .int (σ1 60 x1.toNatClampNeg), .int (σ1 61 x1.toNatClampNeg)], [], σ1)) (P := []) rfl trivial ?_
        by_cases b9 : ¬ (σ1 61 x1.toNatClampNeg) = (0 : Int32)
        · rw [if_pos b9]
          have h := h.1 b9
          refine mm_blk (M := mm_m_X11_toss) 3 (S' := ((if ¬ (σ1 60 x1.toNatClampNeg) = (6 : Int32) then 65 else 52), [.ref 51, .int x1, .int v3, .int (σ1 60 x1.toNatClampNeg), .int (σ1 61 x1.toNatClampNeg)], [], σ1)) (P := []) rfl trivial ?_
          by_cases b10 : ¬ (σ1 60 x1.toNatClampNeg) = (6 : Int32)
          · rw [if_pos b10]
            have h := h.1 b10
            refine mm_blk (M := mm_m_X11_toss) 3 (S' := ((if (σ1 60 x1.toNatClampNeg) = (2 : Int32) then 75 else 70), [.ref 51, .int x1, .int v3, .int (σ1 60 x1.toNatClampNeg), .int (σ1 61 x1.toNatClampNeg)], [], σ1)) (P := []) rfl trivial ?_
            by_cases b11 : (σ1 60 x1.toNatClampNeg) = (2 : Int32)
            · rw [if_pos b11]
              have h := h.1 b11
              refine mm_blk (M := mm_m_X11_toss) 4 (S' := (85, [.ref 51, .int x1, .int v3, .int (σ1 60 x1.toNatClampNeg), .int (σ1 61 x1.toNatClampNeg)], [.int ((100 : Int32) + (σ1 61 x1.toNatClampNeg))], σ1)) (P := []) rfl trivial ?_
              subst h
              exact mm_rt_ ⟨_, _, _, rfl, ⟨_, _, rfl, rfl, rfl, rfl⟩⟩
            · rw [if_neg b11]
              have h := h.2 b11
              refine mm_blk (M := mm_m_X11_toss) 3 (S' := ((if ¬ (σ1 60 x1.toNatClampNeg) = (4 : Int32) then 83 else 75), [.ref 51, .int x1, .int v3, .int (σ1 60 x1.toNatClampNeg), .int (σ1 61 x1.toNatClampNeg)], [], σ1)) (P := []) rfl trivial ?_
              by_cases b12 : ¬ (σ1 60 x1.toNatClampNeg) = (4 : Int32)
              · rw [if_pos b12]
                have h := h.1 b12
                refine mm_blk (M := mm_m_X11_toss) 1 (S' := (85, [.ref 51, .int x1, .int v3, .int (σ1 60 x1.toNatClampNeg), .int (σ1 61 x1.toNatClampNeg)], [.int (σ1 61 x1.toNatClampNeg)], σ1)) (P := []) rfl trivial ?_
                subst h
                exact mm_rt_ ⟨_, _, _, rfl, ⟨_, _, rfl, rfl, rfl, rfl⟩⟩
              · rw [if_neg b12]
                have h := h.2 b12
                refine mm_blk (M := mm_m_X11_toss) 4 (S' := (85, [.ref 51, .int x1, .int v3, .int (σ1 60 x1.toNatClampNeg), .int (σ1 61 x1.toNatClampNeg)], [.int ((100 : Int32) + (σ1 61 x1.toNatClampNeg))], σ1)) (P := []) rfl trivial ?_
                subst h
                exact mm_rt_ ⟨_, _, _, rfl, ⟨_, _, rfl, rfl, rfl, rfl⟩⟩
          · rw [if_neg b10]
            have h := h.2 b10
            refine mm_blk (M := mm_m_X11_toss) 3 (S' := (58, [.ref 51, .int x1, .int v3, .int (σ1 60 x1.toNatClampNeg), .int (σ1 61 x1.toNatClampNeg)], [.int (σ1 61 x1.toNatClampNeg), .int (σ1 60 x1.toNatClampNeg), .int (200 : Int32)], σ1)) (P := []) rfl trivial ?_
            obtain ⟨v15, σ13, e14, h⟩ := h
            refine mm_cl_ (rest := [.int (200 : Int32)]) e14 ⟨_, _, _, rfl, rfl, mm_tb_X11_costBy, rfl, rfl, Nat.le_of_ble_eq_true rfl, Nat.le_of_ble_eq_true rfl, trivial⟩ ?_
            refine mm_blk (M := mm_m_X11_toss) 2 (S' := (85, [.ref 51, .int x1, .int v3, .int (σ1 60 x1.toNatClampNeg), .int (σ1 61 x1.toNatClampNeg)], [.int ((200 : Int32) + v15)], σ13)) (P := []) rfl trivial ?_
            subst h
            exact mm_rt_ ⟨_, _, _, rfl, ⟨_, _, rfl, rfl, rfl, rfl⟩⟩
        · rw [if_neg b9]
          have h := h.2 b9
          refine mm_blk (M := mm_m_X11_toss) 1 (S' := (45, [.ref 51, .int x1, .int v3, .int (σ1 60 x1.toNatClampNeg), .int (σ1 61 x1.toNatClampNeg)], [.int (-15 : Int32)], σ1)) (P := []) rfl trivial ?_
          subst h
          exact mm_rt_ ⟨_, _, _, rfl, ⟨_, _, rfl, rfl, rfl, rfl⟩⟩
  · rw [if_neg b4]
    have h := h.2 b4
    refine mm_blk (M := mm_m_X11_toss) 1 (S' := (11, [.ref 51, .int x1, .int v3, .null, .null], [.int v3], σ1)) (P := []) rfl trivial ?_
    subst h
    exact mm_rt_ ⟨_, _, _, rfl, ⟨_, _, rfl, rfl, rfl, rfl⟩⟩
