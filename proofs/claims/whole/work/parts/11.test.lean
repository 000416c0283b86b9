theorem sg_X10_isBetween_0 (σ : mm_Sg) (x0 : Int32) (x1 : Int32) (x2 : Int32) (R : Option Value × mm_Sg) (h : (((x0 < x1 → (R = (some (.int (0 : Int32)), σ))) ∧ (¬ (x0 < x1) → (((x2 < x0 → (R = (some (.int (0 : Int32)), σ))) ∧ (¬ (x2 < x0) → (R = (some (.int (1 : Int32)), σ))))))))) : mm_Go mm_m_X10_isBetween (0, [.int x0, .int x1, .int x2], [], σ) R := by
  refine mm_blk (M := mm_m_X10_isBetween) 3 (S' := ((if x0 < x1 then 14 else 5), [.int x0, .int x1, .int x2], [], σ)) (P := []) rfl trivial ?_
  by_cases b1 : x0 < x1
  · rw [if_pos b1]
    have h := h.1 b1
    refine mm_blk (M := mm_m_X10_isBetween) 1 (S' := (15, [.int x0, .int x1, .int x2], [.int (0 : Int32)], σ)) (P := []) rfl trivial ?_
    subst h
    exact mm_rt_ ⟨_, _, _, rfl, ⟨_, _, rfl, rfl, rfl, rfl⟩⟩
  · rw [if_neg b1]
    have h := h.2 b1
    refine mm_blk (M := mm_m_X10_isBetween) 3 (S' := ((if x2 < x0 then 14 else 10), [.int x0, .int x1, .int x2], [], σ)) (P := []) rfl trivial ?_
    by_cases b2 : x2 < x0
    · rw [if_pos b2]
      have h := h.1 b2
      refine mm_blk (M := mm_m_X10_isBetween) 1 (S' := (15, [.int x0, .int x1, .int x2], [.int (0 : Int32)], σ)) (P := []) rfl trivial ?_
      subst h
      exact mm_rt_ ⟨_, _, _, rfl, ⟨_, _, rfl, rfl, rfl, rfl⟩⟩
    · rw [if_neg b2]
      have h := h.2 b2
      refine mm_blk (M := mm_m_X10_isBetween) 2 (S' := (15, [.int x0, .int x1, .int x2], [.int (1 : Int32)], σ)) (P := []) rfl trivial ?_
      subst h
      exact mm_rt_ ⟨_, _, _, rfl, ⟨_, _, rfl, rfl, rfl, rfl⟩⟩
theorem sg_X1_has_0 (σ : mm_Sg) (q0 : Nat) (x1 : Int32) (R : Option Value × mm_Sg) (h : (((x1 < (0 : Int32) → (R = (some (.int (0 : Int32)), σ))) ∧ (¬ (x1 < (0 : Int32)) → ((mm_cl q0 = 1) ∧ (((σ q0 6) ≤ x1 → (R = (some (.int (0 : Int32)), σ))) ∧ (¬ ((σ q0 6) ≤ x1) → ((((7 : Int32) ≤ x1 → (R = (some (.int (0 : Int32)), σ))) ∧ (¬ ((7 : Int32) ≤ x1) → (R = (some (.int (1 : Int32)), σ)))))))))))) : mm_Go mm_m_X1_has (0, [.ref q0, .int x1], [], σ) R := by
  refine mm_blk (M := mm_m_X1_has) 2 (S' := ((if x1 < (0 : Int32) then 22 else 4), [.ref q0, .int x1], [], σ)) (P := []) rfl trivial ?_
  by_cases b1 : x1 < (0 : Int32)
  · rw [if_pos b1]
    have h := h.1 b1
    refine mm_blk (M := mm_m_X1_has) 1 (S' := (23, [.ref q0, .int x1], [.int (0 : Int32)], σ)) (P := []) rfl trivial ?_
    subst h
    exact mm_rt_ ⟨_, _, _, rfl, ⟨_, _, rfl, rfl, rfl, rfl⟩⟩
  · rw [if_neg b1]
    have h := h.2 b1
    obtain ⟨c2, h⟩ := h
    refine mm_blk (M := mm_m_X1_has) 4 (S' := ((if (σ q0 6) ≤ x1 then 22 else 12), [.ref q0, .int x1], [], σ)) (P := [mm_cl q0 = 1]) rfl ⟨c2, trivial⟩ ?_
    by_cases b3 : (σ q0 6) ≤ x1
    · rw [if_pos b3]
      have h := h.1 b3
      refine mm_blk (M := mm_m_X1_has) 1 (S' := (23, [.ref q0, .int x1], [.int (0 : Int32)], σ)) (P := []) rfl trivial ?_
      subst h
      exact mm_rt_ ⟨_, _, _, rfl, ⟨_, _, rfl, rfl, rfl, rfl⟩⟩
    · rw [if_neg b3]
      have h := h.2 b3
      refine mm_blk (M := mm_m_X1_has) 3 (S' := ((if (7 : Int32) ≤ x1 then 22 else 18), [.ref q0, .int x1], [], σ)) (P := []) rfl trivial ?_
      by_cases b4 : (7 : Int32) ≤ x1
      · rw [if_pos b4]
        have h := h.1 b4
        refine mm_blk (M := mm_m_X1_has) 1 (S' := (23, [.ref q0, .int x1], [.int (0 : Int32)], σ)) (P := []) rfl trivial ?_
        subst h
        exact mm_rt_ ⟨_, _, _, rfl, ⟨_, _, rfl, rfl, rfl, rfl⟩⟩
      · rw [if_neg b4]
        have h := h.2 b4
        refine mm_blk (M := mm_m_X1_has) 2 (S' := (23, [.ref q0, .int x1], [.int (1 : Int32)], σ)) (P := []) rfl trivial ?_
        subst h
        exact mm_rt_ ⟨_, _, _, rfl, ⟨_, _, rfl, rfl, rfl, rfl⟩⟩
theorem sg_X1_thirstOf_0 (σ : mm_Sg) (q0 : Nat) (x1 : Int32) (x2 : Int32) (R : Option Value × mm_Sg) (h : ((mm_cl q0 = 1) ∧ ∃ (v3 : Int32) (σ1 : mm_Sg), mm_Ev mm_m_X1_has [.ref q0, .int x1] σ (some (.int v3)) σ1 ∧ (((v3 = (0 : Int32) → (R = (some (.int (0 : Int32)), σ1))) ∧ (¬ (v3 = (0 : Int32)) → ((vp_in x1 (mm_len (q0 + 1))) ∧ ∃ (q9 : Nat) (σ7 : mm_Sg), mm_Ev mm_m_X10_kindNumbered [.ref 1, .int (σ1 (q0 + 1) x1.toNatClampNeg)] σ1 (some (.ref q9)) σ7 ∧ ((vp_in x1 (mm_len (q0 + 2))) ∧ ∃ (v13 : Int32) (σ11 : mm_Sg), mm_Dv 0 [.ref q9, .int x2, .int (σ7 (q0 + 2) x1.toNatClampNeg)] σ7 (some (.int v13)) σ11 ∧ (R = (some (.int v13), σ11))))))))) : mm_Go mm_m_X1_thirstOf (0, [.ref q0, .int x1, .int x2], [], σ) R := by
  refine mm_blk (M := mm_m_X1_thirstOf) 2 (S' := (2, [.ref q0, .int x1, .int x2], [.int x1, .ref q0], σ)) (P := []) rfl trivial ?_
  obtain ⟨c4, h⟩ := h
  obtain ⟨v3, σ1, e2, h⟩ := h
  refine mm_cl_ (rest := []) e2 ⟨_, _, _, rfl, rfl, mm_tb_X1_has, rfl, rfl, Nat.le_of_ble_eq_true rfl, Nat.le_of_ble_eq_true rfl, ⟨_, rfl, c4⟩⟩ ?_
  refine mm_blk (M := mm_m_X1_thirstOf) 1 (S' := ((if v3 = (0 : Int32) then 34 else 8), [.ref q0, .int x1, .int x2], [], σ1)) (P := []) rfl trivial ?_
  by_cases b5 : v3 = (0 : Int32)
  · rw [if_pos b5]
    have h := h.1 b5
    refine mm_blk (M := mm_m_X1_thirstOf) 1 (S' := (35, [.ref q0, .int x1, .int x2], [.int (0 : Int32)], σ1)) (P := []) rfl trivial ?_
    subst h
    exact mm_rt_ ⟨_, _, _, rfl, ⟨_, _, rfl, rfl, rfl, rfl⟩⟩
  · rw [if_neg b5]
    have h := h.2 b5
    obtain ⟨c6, h⟩ := h
    refine mm_blk (M := mm_m_X1_thirstOf) 6 (S' := (18, [.ref q0, .int x1, .int x2], [.int (σ1 (q0 + 1) x1.toNatClampNeg), .ref 1], σ1)) (P := [mm_cl q0 = 1, mm_cl q0 = 1, vp_in x1 (mm_len (q0 + 1))]) rfl ⟨c4, c4, c6, trivial⟩ ?_
    obtain ⟨q9, σ7, e8, h⟩ := h
    refine mm_cl_ (rest := []) e8 ⟨_, _, _, rfl, rfl, mm_tb_X10_kindNumbered, rfl, rfl, Nat.le_of_ble_eq_true rfl, Nat.le_of_ble_eq_true rfl, trivial⟩ ?_
    obtain ⟨c10, h⟩ := h
    refine mm_blk (M := mm_m_X1_thirstOf) 5 (S' := (28, [.ref q0, .int x1, .int x2], [.int (σ7 (q0 + 2) x1.toNatClampNeg), .int x2, .ref q9], σ7)) (P := [mm_cl q0 = 1, vp_in x1 (mm_len (q0 + 2))]) rfl ⟨c4, c10, trivial⟩ ?_
    obtain ⟨v13, σ11, ⟨M14, dq, dr, de, d1, d2, d3, e12⟩, h⟩ := h
    cases de
    refine mm_cl_ (rest := []) e12 ⟨_, _, _, rfl, rfl, d1, rfl, rfl, Nat.le_of_ble_eq_true rfl, d3, ⟨_, rfl, d2⟩⟩ ?_
    refine mm_blk (M := mm_m_X1_thirstOf) 1 (S' := (35, [.ref q0, .int x1, .int x2], [.int v13], σ11)) (P := []) rfl trivial ?_
    subst h
    exact mm_rt_ ⟨_, _, _, rfl, ⟨_, _, rfl, rfl, rfl, rfl⟩⟩
theorem sg_X1_goDays_0 (σ : mm_Sg) (q0 : Nat) (x1 : Int32) (R : Option Value × mm_Sg) (h : mm_Go mm_m_X1_goDays (2, [.ref q0, .int x1, .int (0 : Int32), .null], [], σ) R) : mm_Go mm_m_X1_goDays (0, [.ref q0, .int x1, .null, .null], [], σ) R := by
  refine mm_blk (M := mm_m_X1_goDays) 2 (S' := (2, [.ref q0, .int x1, .int (0 : Int32), .null], [], σ)) (P := []) rfl trivial ?_
  exact h
theorem sg_X1_goDays_2 (σ : mm_Sg) (q0 : Nat) (x1 : Int32) (x2 : Int32) (d3 : Value) (R : Option Value × mm_Sg) (h : (((x1 ≤ x2 → (R = (none, σ))) ∧ (¬ (x1 ≤ x2) → ((mm_cl q0 = 1) ∧ ∀ σ3 : mm_Sg, σ3 = mm_u σ q0 9 ((σ q0 9) + (1 : Int32)) → (∃ (σ5 : mm_Sg), mm_Ev mm_m_X1_restSleepers [.ref q0] σ3 none σ5 ∧ mm_Go mm_m_X1_goDays (23, [.ref q0, .int x1, .int x2, .int (0 : Int32)], [], σ5) R)))))) : mm_Go mm_m_X1_goDays (2, [.ref q0, .int x1, .int x2, d3], [], σ) R := by
  refine mm_blk (M := mm_m_X1_goDays) 3 (S' := ((if x1 ≤ x2 then 52 else 7), [.ref q0, .int x1, .int x2, d3], [], σ)) (P := []) rfl trivial ?_
  by_cases b1 : x1 ≤ x2
  · rw [if_pos b1]
    have h := h.1 b1
    subst h
    exact mm_rt_ ⟨_, _, _, rfl, ⟨rfl, rfl, rfl⟩⟩
  · rw [if_neg b1]
    have h := h.2 b1
    obtain ⟨c2, h⟩ := h
    refine mm_blk (M := mm_m_X1_goDays) 6 (S' := (17, [.ref q0, .int x1, .int x2, d3], [], mm_u σ q0 9 ((σ q0 9) + (1 : Int32)))) (P := [mm_cl q0 = 1, mm_cl q0 = 1]) rfl ⟨c2, c2, trivial⟩ ?_
    obtain ⟨σ3, e4⟩ : ∃ z, z = mm_u σ q0 9 ((σ q0 9) + (1 : Int32)) := ⟨_, rfl⟩
    rw [← e4]
    have h := h σ3 e4
    refine mm_blk (M := mm_m_X1_goDays) 1 (S' := (18, [.ref q0, .int x1, .int x2, d3], [.ref q0], σ3)) (P := []) rfl trivial ?_
    obtain ⟨σ5, e6, h⟩ := h
    refine mm_cl_ (rest := []) e6 ⟨_, _, _, rfl, rfl, mm_tb_X1_restSleepers, rfl, rfl, Nat.le_of_ble_eq_true rfl, Nat.le_of_ble_eq_true rfl, ⟨_, rfl, c2⟩⟩ ?_
    refine mm_blk (M := mm_m_X1_goDays) 2 (S' := (23, [.ref q0, .int x1, .int x2, .int (0 : Int32)], [], σ5)) (P := []) rfl trivial ?_
    exact h
theorem sg_X1_goDays_23 (σ : mm_Sg) (q0 : Nat) (x1 : Int32) (x2 : Int32) (x3 : Int32) (R : Option Value × mm_Sg) (h : ((mm_cl q0 = 1) ∧ (((σ q0 6) ≤ x3 → (∃ (σ3 : mm_Sg), mm_Ev mm_m_X1_endDay [.ref q0] σ none σ3 ∧ mm_Go mm_m_X1_goDays (2, [.ref q0, .int x1, .int (x2 + (1 : Int32)), .int x3], [], σ3) R)) ∧ (¬ ((σ q0 6) ≤ x3) → (∃ (σ5 : mm_Sg), mm_Ev mm_m_X1_pour [.ref q0, .int x3] σ none σ5 ∧ mm_Go mm_m_X1_goDays (23, [.ref q0, .int x1, .int x2, .int (x3 + (1 : Int32))], [], σ5) R))))) : mm_Go mm_m_X1_goDays (23, [.ref q0, .int x1, .int x2, .int x3], [], σ) R := by
  obtain ⟨c1, h⟩ := h
  refine mm_blk (M := mm_m_X1_goDays) 4 (S' := ((if (σ q0 6) ≤ x3 then 42 else 31), [.ref q0, .int x1, .int x2, .int x3], [], σ)) (P := [mm_cl q0 = 1]) rfl ⟨c1, trivial⟩ ?_
  by_cases b2 : (σ q0 6) ≤ x3
  · rw [if_pos b2]
    have h := h.1 b2
    refine mm_blk (M := mm_m_X1_goDays) 1 (S' := (43, [.ref q0, .int x1, .int x2, .int x3], [.ref q0], σ)) (P := []) rfl trivial ?_
    obtain ⟨σ3, e4, h⟩ := h
    refine mm_cl_ (rest := []) e4 ⟨_, _, _, rfl, rfl, mm_tb_X1_endDay, rfl, rfl, Nat.le_of_ble_eq_true rfl, Nat.le_of_ble_eq_true rfl, ⟨_, rfl, c1⟩⟩ ?_
    refine mm_blk (M := mm_m_X1_goDays) 2 (S' := (2, [.ref q0, .int x1, .int (x2 + (1 : Int32)), .int x3], [], σ3)) (P := []) rfl trivial ?_
    exact h
  · rw [if_neg b2]
    have h := h.2 b2
    refine mm_blk (M := mm_m_X1_goDays) 2 (S' := (33, [.ref q0, .int x1, .int x2, .int x3], [.int x3, .ref q0], σ)) (P := []) rfl trivial ?_
    obtain ⟨σ5, e6, h⟩ := h
    refine mm_cl_ (rest := []) e6 ⟨_, _, _, rfl, rfl, mm_tb_X1_pour, rfl, rfl, Nat.le_of_ble_eq_true rfl, Nat.le_of_ble_eq_true rfl, ⟨_, rfl, c1⟩⟩ ?_
    refine mm_blk (M := mm_m_X1_goDays) 2 (S' := (23, [.ref q0, .int x1, .int x2, .int (x3 + (1 : Int32))], [], σ5)) (P := []) rfl trivial ?_
    exact h
theorem sg_X1_pour_0 (σ : mm_Sg) (q0 : Nat) (x1 : Int32) (R : Option Value × mm_Sg) (h : ((mm_cl q0 = 1) ∧ ∃ (v3 : Int32) (σ1 : mm_Sg), mm_Ev mm_m_X1_has [.ref q0, .int x1] σ (some (.int v3)) σ1 ∧ (((¬ v3 = (0 : Int32) → ((vp_in x1 (mm_len (q0 + 1))) ∧ ∃ (q9 : Nat) (σ7 : mm_Sg), mm_Ev mm_m_X10_kindNumbered [.ref 1, .int (σ1 (q0 + 1) x1.toNatClampNeg)] σ1 (some (.ref q9)) σ7 ∧ ((((((σ7 q0 12) >>> (x1 &&& 31)) &&& (1 : Int32)) = (0 : Int32) → ((vp_in x1 (mm_len (q0 + 2))) ∧ ∃ (v14 : Int32) (σ12 : mm_Sg), mm_Dv 0 [.ref q9, .int (σ7 q0 9), .int (σ7 (q0 + 2) x1.toNatClampNeg)] σ7 (some (.int v14)) σ12 ∧ (((¬ x1 = (σ12 q0 11) → (∀ σ16 : mm_Sg, σ16 = mm_u σ12 q0 8 ((σ12 q0 8) - (if (σ12 q0 8) < v14 then (σ12 q0 8) else v14)) → ((vp_in x1 (mm_len (q0 + 6))) ∧ ∀ σ19 : mm_Sg, σ19 = mm_u σ16 (q0 + 6) x1.toNatClampNeg ((σ16 (q0 + 6) x1.toNatClampNeg) + (if (σ12 q0 8) < v14 then (σ12 q0 8) else v14)) → ((vp_in x1 (mm_len (q0 + 3))) ∧ ∃ (v24 : Int32) (σ22 : mm_Sg), mm_Ev mm_m_X1_isAwake [.ref q0, .int (σ19 (q0 + 3) x1.toNatClampNeg)] σ19 (some (.int v24)) σ22 ∧ (((v24 = (0 : Int32) → ((vp_in x1 (mm_len (q0 + 4))) ∧ ∃ (v29 : Int32) (σ27 : mm_Sg), mm_Dv 2 [.ref q9, .int (if (σ12 q0 8) < v14 then (σ12 q0 8) else v14), .int (σ22 (q0 + 2) x1.toNatClampNeg)] σ22 (some (.int v29)) σ27 ∧ (∀ σ30 : mm_Sg, σ30 = mm_u σ27 (q0 + 4) x1.toNatClampNeg (if ((σ22 (q0 + 4) x1.toNatClampNeg) + v29) < (999 : Int32) then ((σ22 (q0 + 4) x1.toNatClampNeg) + v29) else (999 : Int32)) → (R = (none, σ30))))) ∧ (¬ (v24 = (0 : Int32)) → ((vp_in (σ19 (q0 + 3) x1.toNatClampNeg) (mm_len (q0 + 5))) ∧ ∃ (v36 : Int32) (σ34 : mm_Sg), mm_Dv 1 [.ref q9, .int (if (σ12 q0 8) < v14 then (σ12 q0 8) else v14), .int (σ22 (q0 + 2) x1.toNatClampNeg)] σ22 (some (.int v36)) σ34 ∧ (∀ σ37 : mm_Sg, σ37 = mm_u σ34 (q0 + 5) (σ19 (q0 + 3) x1.toNatClampNeg).toNatClampNeg (if ((σ22 (q0 + 5) (σ19 (q0 + 3) x1.toNatClampNeg).toNatClampNeg) + v36) < (99 : Int32) then ((σ22 (q0 + 5) (σ19 (q0 + 3) x1.toNatClampNeg).toNatClampNeg) + v36) else (99 : Int32)) → (R = (none, σ37))))))))))) ∧ (¬ (¬ x1 = (σ12 q0 11)) → (∀ σ40 : mm_Sg, σ40 = mm_u σ12 q0 8 ((σ12 q0 8) - (if (σ12 q0 8) < (v14 / (2 : Int32)) then (σ12 q0 8) else (v14 / (2 : Int32)))) → ((vp_in x1 (mm_len (q0 + 6))) ∧ ∀ σ43 : mm_Sg, σ43 = mm_u σ40 (q0 + 6) x1.toNatClampNeg ((σ40 (q0 + 6) x1.toNatClampNeg) + (if (σ12 q0 8) < (v14 / (2 : Int32)) then (σ12 q0 8) else (v14 / (2 : Int32)))) → ((vp_in x1 (mm_len (q0 + 3))) ∧ ∃ (v48 : Int32) (σ46 : mm_Sg), mm_Ev mm_m_X1_isAwake [.ref q0, .int (σ43 (q0 + 3) x1.toNatClampNeg)] σ43 (some (.int v48)) σ46 ∧ (((v48 = (0 : Int32) → ((vp_in x1 (mm_len (q0 + 4))) ∧ ∃ (v53 : Int32) (σ51 : mm_Sg), mm_Dv 2 [.ref q9, .int (if (σ12 q0 8) < (v14 / (2 : Int32)) then (σ12 q0 8) else (v14 / (2 : Int32))), .int (σ46 (q0 + 2) x1.toNatClampNeg)] σ46 (some (.int v53)) σ51 ∧ (∀ σ54 : mm_Sg, σ54 = mm_u σ51 (q0 + 4) x1.toNatClampNeg (if ((σ46 (q0 + 4) x1.toNatClampNeg) + v53) < (999 : Int32) then ((σ46 (q0 + 4) x1.toNatClampNeg) + v53) else (999 : Int32)) → (R = (none, σ54))))) ∧ (¬ (v48 = (0 : Int32)) → ((vp_in (σ43 (q0 + 3) x1.toNatClampNeg) (mm_len (q0 + 5))) ∧ ∃ (v60 : Int32) (σ58 : mm_Sg), mm_Dv 1 [.ref q9, .int (if (σ12 q0 8) < (v14 / (2 : Int32)) then (σ12 q0 8) else (v14 / (2 : Int32))), .int (σ46 (q0 + 2) x1.toNatClampNeg)] σ46 (some (.int v60)) σ58 ∧ (∀ σ61 : mm_Sg, σ61 = mm_u σ58 (q0 + 5) (σ43 (q0 + 3) x1.toNatClampNeg).toNatClampNeg (if ((σ46 (q0 + 5) (σ43 (q0 + 3) x1.toNatClampNeg).toNatClampNeg) + v60) < (99 : Int32) then ((σ46 (q0 + 5) (σ43 (q0 + 3) x1.toNatClampNeg).toNatClampNeg) + v60) else (99 : Int32)) → (R = (none, σ61))))))))))))))) ∧ (¬ ((((σ7 q0 12) >>> (x1 &&& 31)) &&& (1 : Int32)) = (0 : Int32)) → (((¬ x1 = (σ7 q0 11) → (∀ σ66 : mm_Sg, σ66 = mm_u σ7 q0 8 ((σ7 q0 8) - (if (σ7 q0 8) < (0 : Int32) then (σ7 q0 8) else (0 : Int32))) → ((vp_in x1 (mm_len (q0 + 6))) ∧ ∀ σ69 : mm_Sg, σ69 = mm_u σ66 (q0 + 6) x1.toNatClampNeg ((σ66 (q0 + 6) x1.toNatClampNeg) + (if (σ7 q0 8) < (0 : Int32) then (σ7 q0 8) else (0 : Int32))) → ((vp_in x1 (mm_len (q0 + 3))) ∧ ∃ (v74 : Int32) (σ72 : mm_Sg), mm_Ev mm_m_X1_isAwake [.ref q0, .int (σ69 (q0 + 3) x1.toNatClampNeg)] σ69 (some (.int v74)) σ72 ∧ (((v74 = (0 : Int32) → ((vp_in x1 (mm_len (q0 + 4))) ∧ (vp_in x1 (mm_len (q0 + 2))) ∧ ∃ (v80 : Int32) (σ78 : mm_Sg), mm_Dv 2 [.ref q9, .int (if (σ7 q0 8) < (0 : Int32) then (σ7 q0 8) else (0 : Int32)), .int (σ72 (q0 + 2) x1.toNatClampNeg)] σ72 (some (.int v80)) σ78 ∧ (∀ σ81 : mm_Sg, σ81 = mm_u σ78 (q0 + 4) x1.toNatClampNeg (if ((σ72 (q0 + 4) x1.toNatClampNeg) + v80) < (999 : Int32) then ((σ72 (q0 + 4) x1.toNatClampNeg) + v80) else (999 : Int32)) → (R = (none, σ81))))) ∧ (¬ (v74 = (0 : Int32)) → ((vp_in (σ69 (q0 + 3) x1.toNatClampNeg) (mm_len (q0 + 5))) ∧ (vp_in x1 (mm_len (q0 + 2))) ∧ ∃ (v88 : Int32) (σ86 : mm_Sg), mm_Dv 1 [.ref q9, .int (if (σ7 q0 8) < (0 : Int32) then (σ7 q0 8) else (0 : Int32)), .int (σ72 (q0 + 2) x1.toNatClampNeg)] σ72 (some (.int v88)) σ86 ∧ (∀ σ89 : mm_Sg, σ89 = mm_u σ86 (q0 + 5) (σ69 (q0 + 3) x1.toNatClampNeg).toNatClampNeg (if ((σ72 (q0 + 5) (σ69 (q0 + 3) x1.toNatClampNeg).toNatClampNeg) + v88) < (99 : Int32) then ((σ72 (q0 + 5) (σ69 (q0 + 3) x1.toNatClampNeg).toNatClampNeg) + v88) else (99 : Int32)) → (R = (none, σ89))))))))))) ∧ (¬ (¬ x1 = (σ7 q0 11)) → (∀ σ92 : mm_Sg, σ92 = mm_u σ7 q0 8 ((σ7 q0 8) - (if (σ7 q0 8) < ((0 : Int32) / (2 : Int32)) then (σ7 q0 8) else ((0 : Int32) / (2 : Int32)))) → ((vp_in x1 (mm_len (q0 + 6))) ∧ ∀ σ95 : mm_Sg, σ95 = mm_u σ92 (q0 + 6) x1.toNatClampNeg ((σ92 (q0 + 6) x1.toNatClampNeg) + (if (σ7 q0 8) < ((0 : Int32) / (2 : Int32)) then (σ7 q0 8) else ((0 : Int32) / (2 : Int32)))) → ((vp_in x1 (mm_len (q0 + 3))) ∧ ∃ (v100 : Int32) (σ98 : mm_Sg), mm_Ev mm_m_X1_isAwake [.ref q0, .int (σ95 (q0 + 3) x1.toNatClampNeg)] σ95 (some (.int v100)) σ98 ∧ (((v100 = (0 : Int32) → ((vp_in x1 (mm_len (q0 + 4))) ∧ (vp_in x1 (mm_len (q0 + 2))) ∧ ∃ (v106 : Int32) (σ104 : mm_Sg), mm_Dv 2 [.ref q9, .int (if (σ7 q0 8) < ((0 : Int32) / (2 : Int32)) then (σ7 q0 8) else ((0 : Int32) / (2 : Int32))), .int (σ98 (q0 + 2) x1.toNatClampNeg)] σ98 (some (.int v106)) σ104 ∧ (∀ σ107 : mm_Sg, σ107 = mm_u σ104 (q0 + 4) x1.toNatClampNeg (if ((σ98 (q0 + 4) x1.toNatClampNeg) + v106) < (999 : Int32) then ((σ98 (q0 + 4) x1.toNatClampNeg) + v106) else (999 : Int32)) → (R = (none, σ107))))) ∧ (¬ (v100 = (0 : Int32)) → ((vp_in (σ95 (q0 + 3) x1.toNatClampNeg) (mm_len (q0 + 5))) ∧ (vp_in x1 (mm_len (q0 + 2))) ∧ ∃ (v114 : Int32) (σ112 : mm_Sg), mm_Dv 1 [.ref q9, .int (if (σ7 q0 8) < ((0 : Int32) / (2 : Int32)) then (σ7 q0 8) else ((0 : Int32) / (2 : Int32))), .int (σ98 (q0 + 2) x1.toNatClampNeg)] σ98 (some (.int v114)) σ112 ∧ (∀ σ115 : mm_Sg, σ115 = mm_u σ112 (q0 + 5) (σ95 (q0 + 3) x1.toNatClampNeg).toNatClampNeg (if ((σ98 (q0 + 5) (σ95 (q0 + 3) x1.toNatClampNeg).toNatClampNeg) + v114) < (99 : Int32) then ((σ98 (q0 + 5) (σ95 (q0 + 3) x1.toNatClampNeg).toNatClampNeg) + v114) else (99 : Int32)) → (R = (none, σ115)))))))))))))))))) ∧ (¬ (¬ v3 = (0 : Int32)) → (R = (none, σ1))))))) : mm_Go mm_m_X1_pour (0, [.ref q0, .int x1, .null, .null, .null, .null], [], σ) R := by
  refine mm_blk (M := mm_m_X1_pour) 2 (S' := (2, [.ref q0, .int x1, .null, .null, .null, .null], [.int x1, .ref q0], σ)) (P := []) rfl trivial ?_
  obtain ⟨c4, h⟩ := h
  obtain ⟨v3, σ1, e2, h⟩ := h
  refine mm_cl_ (rest := []) e2 ⟨_, _, _, rfl, rfl, mm_tb_X1_has, rfl, rfl, Nat.le_of_ble_eq_true rfl, Nat.le_of_ble_eq_true rfl, ⟨_, rfl, c4⟩⟩ ?_
  refine mm_blk (M := mm_m_X1_pour) 1 (S' := ((if ¬ v3 = (0 : Int32) then 9 else 8), [.ref q0, .int x1, .null, .null, .null, .null], [], σ1)) (P := []) rfl trivial ?_
  by_cases b5 : ¬ v3 = (0 : Int32)
  · rw [if_pos b5]
    have h := h.1 b5
    obtain ⟨c6, h⟩ := h
    refine mm_blk (M := mm_m_X1_pour) 6 (S' := (19, [.ref q0, .int x1, .null, .null, .null, .null], [.int (σ1 (q0 + 1) x1.toNatClampNeg), .ref 1], σ1)) (P := [mm_cl q0 = 1, mm_cl q0 = 1, vp_in x1 (mm_len (q0 + 1))]) rfl ⟨c4, c4, c6, trivial⟩ ?_
    obtain ⟨q9, σ7, e8, h⟩ := h
    refine mm_cl_ (rest := []) e8 ⟨_, _, _, rfl, rfl, mm_tb_X10_kindNumbered, rfl, rfl, Nat.le_of_ble_eq_true rfl, Nat.le_of_ble_eq_true rfl, trivial⟩ ?_
    refine mm_blk (M := mm_m_X1_pour) 8 (S' := ((if (((σ7 q0 12) >>> (x1 &&& 31)) &&& (1 : Int32)) = (0 : Int32) then 38 else 34), [.ref q0, .int x1, .ref q9, .null, .null, .null], [], σ7)) (P := [mm_cl q0 = 1]) rfl ⟨c4, trivial⟩ ?_
    by_cases b10 : (((σ7 q0 12) >>> (x1 &&& 31)) &&& (1 : Int32)) = (0 : Int32)
    · rw [if_pos b10]
      have h := h.1 b10
      obtain ⟨c11, h⟩ := h
      refine mm_blk (M := mm_m_X1_pour) 7 (S' := (49, [.ref q0, .int x1, .ref q9, .null, .null, .null], [.int (σ7 (q0 + 2) x1.toNatClampNeg), .int (σ7 q0 9), .ref q9], σ7)) (P := [mm_cl q0 = 1, mm_cl q0 = 1, vp_in x1 (mm_len (q0 + 2))]) rfl ⟨c4, c4, c11, trivial⟩ ?_
      obtain ⟨v14, σ12, ⟨M64, dq, dr, de, d1, d2, d3, e13⟩, h⟩ := h
      cases de
      refine mm_cl_ (rest := []) e13 ⟨_, _, _, rfl, rfl, d1, rfl, rfl, Nat.le_of_ble_eq_true rfl, d3, ⟨_, rfl, d2⟩⟩ ?_
      refine mm_blk (M := mm_m_X1_pour) 5 (S' := ((if ¬ x1 = (σ12 q0 11) then 67 else 61), [.ref q0, .int x1, .ref q9, .int v14, .null, .null], [], σ12)) (P := [mm_cl q0 = 1]) rfl ⟨c4, trivial⟩ ?_
      by_cases b15 : ¬ x1 = (σ12 q0 11)
      · rw [if_pos b15]
        have h := h.1 b15
        refine mm_blk (M := mm_m_X1_pour) 11 (S' := (88, [.ref q0, .int x1, .ref q9, .int v14, .int (if (σ12 q0 8) < v14 then (σ12 q0 8) else v14), .null], [], mm_u σ12 q0 8 ((σ12 q0 8) - (if (σ12 q0 8) < v14 then (σ12 q0 8) else v14)))) (P := [mm_cl q0 = 1, mm_cl q0 = 1, mm_cl q0 = 1]) rfl ⟨c4, c4, c4, trivial⟩ ?_
        obtain ⟨σ16, e17⟩ : ∃ z, z = mm_u σ12 q0 8 ((σ12 q0 8) - (if (σ12 q0 8) < v14 then (σ12 q0 8) else v14)) := ⟨_, rfl⟩
        rw [← e17]
        have h := h σ16 e17
        obtain ⟨c18, h⟩ := h
        refine mm_blk (M := mm_m_X1_pour) 8 (S' := (99, [.ref q0, .int x1, .ref q9, .int v14, .int (if (σ12 q0 8) < v14 then (σ12 q0 8) else v14), .null], [], mm_u σ16 (q0 + 6) x1.toNatClampNeg ((σ16 (q0 + 6) x1.toNatClampNeg) + (if (σ12 q0 8) < v14 then (σ12 q0 8) else v14)))) (P := [mm_cl q0 = 1, vp_in x1 (mm_len (q0 + 6)), vp_in x1 (mm_len (q0 + 6))]) rfl ⟨c4, c18, c18, trivial⟩ ?_
        obtain ⟨σ19, e20⟩ : ∃ z, z = mm_u σ16 (q0 + 6) x1.toNatClampNeg ((σ16 (q0 + 6) x1.toNatClampNeg) + (if (σ12 q0 8) < v14 then (σ12 q0 8) else v14)) := ⟨_, rfl⟩
        rw [← e20]
        have h := h σ19 e20
        obtain ⟨c21, h⟩ := h
        refine mm_blk (M := mm_m_X1_pour) 7 (S' := (110, [.ref q0, .int x1, .ref q9, .int v14, .int (if (σ12 q0 8) < v14 then (σ12 q0 8) else v14), .int (σ19 (q0 + 3) x1.toNatClampNeg)], [.int (σ19 (q0 + 3) x1.toNatClampNeg), .ref q0], σ19)) (P := [mm_cl q0 = 1, vp_in x1 (mm_len (q0 + 3))]) rfl ⟨c4, c21, trivial⟩ ?_
        obtain ⟨v24, σ22, e23, h⟩ := h
        refine mm_cl_ (rest := []) e23 ⟨_, _, _, rfl, rfl, mm_tb_X1_isAwake, rfl, rfl, Nat.le_of_ble_eq_true rfl, Nat.le_of_ble_eq_true rfl, ⟨_, rfl, c4⟩⟩ ?_
        refine mm_blk (M := mm_m_X1_pour) 1 (S' := ((if v24 = (0 : Int32) then 151 else 116), [.ref q0, .int x1, .ref q9, .int v14, .int (if (σ12 q0 8) < v14 then (σ12 q0 8) else v14), .int (σ19 (q0 + 3) x1.toNatClampNeg)], [], σ22)) (P := []) rfl trivial ?_
        by_cases b25 : v24 = (0 : Int32)
        · rw [if_pos b25]
          have h := h.1 b25
          obtain ⟨c26, h⟩ := h
          refine mm_blk (M := mm_m_X1_pour) 14 (S' := (174, [.ref q0, .int x1, .ref q9, .int v14, .int (if (σ12 q0 8) < v14 then (σ12 q0 8) else v14), .int (σ19 (q0 + 3) x1.toNatClampNeg)], [.int (σ22 (q0 + 2) x1.toNatClampNeg), .int (if (σ12 q0 8) < v14 then (σ12 q0 8) else v14), .ref q9, .int (σ22 (q0 + 4) x1.toNatClampNeg), .int (999 : Int32), .int x1, .ref (q0 + 4)], σ22)) (P := [mm_cl q0 = 1, mm_cl q0 = 1, vp_in x1 (mm_len (q0 + 4)), mm_cl q0 = 1, vp_in x1 (mm_len (q0 + 2))]) rfl ⟨c4, c4, c26, c4, c11, trivial⟩ ?_
          obtain ⟨v29, σ27, ⟨M32, dq, dr, de, d1, d2, d3, e28⟩, h⟩ := h
          cases de
          refine mm_cl_ (rest := [.int (σ22 (q0 + 4) x1.toNatClampNeg), .int (999 : Int32), .int x1, .ref (q0 + 4)]) e28 ⟨_, _, _, rfl, rfl, d1, rfl, rfl, Nat.le_of_ble_eq_true rfl, d3, ⟨_, rfl, d2⟩⟩ ?_
          refine mm_blk (M := mm_m_X1_pour) 3 (S' := (182, [.ref q0, .int x1, .ref q9, .int v14, .int (if (σ12 q0 8) < v14 then (σ12 q0 8) else v14), .int (σ19 (q0 + 3) x1.toNatClampNeg)], [], mm_u σ27 (q0 + 4) x1.toNatClampNeg (if ((σ22 (q0 + 4) x1.toNatClampNeg) + v29) < (999 : Int32) then ((σ22 (q0 + 4) x1.toNatClampNeg) + v29) else (999 : Int32)))) (P := [vp_in x1 (mm_len (q0 + 4))]) rfl ⟨c26, trivial⟩ ?_
          obtain ⟨σ30, e31⟩ : ∃ z, z = mm_u σ27 (q0 + 4) x1.toNatClampNeg (if ((σ22 (q0 + 4) x1.toNatClampNeg) + v29) < (999 : Int32) then ((σ22 (q0 + 4) x1.toNatClampNeg) + v29) else (999 : Int32)) := ⟨_, rfl⟩
          rw [← e31]
          have h := h σ30 e31
          subst h
          exact mm_rt_ ⟨_, _, _, rfl, ⟨rfl, rfl, rfl⟩⟩
        · rw [if_neg b25]
          have h := h.2 b25
          obtain ⟨c33, h⟩ := h
          refine mm_blk (M := mm_m_X1_pour) 14 (S' := (140, [.ref q0, .int x1, .ref q9, .int v14, .int (if (σ12 q0 8) < v14 then (σ12 q0 8) else v14), .int (σ19 (q0 + 3) x1.toNatClampNeg)], [.int (σ22 (q0 + 2) x1.toNatClampNeg), .int (if (σ12 q0 8) < v14 then (σ12 q0 8) else v14), .ref q9, .int (σ22 (q0 + 5) (σ19 (q0 + 3) x1.toNatClampNeg).toNatClampNeg), .int (99 : Int32), .int (σ19 (q0 + 3) x1.toNatClampNeg), .ref (q0 + 5)], σ22)) (P := [mm_cl q0 = 1, mm_cl q0 = 1, vp_in (σ19 (q0 + 3) x1.toNatClampNeg) (mm_len (q0 + 5)), mm_cl q0 = 1, vp_in x1 (mm_len (q0 + 2))]) rfl ⟨c4, c4, c33, c4, c11, trivial⟩ ?_
          obtain ⟨v36, σ34, ⟨M39, dq, dr, de, d1, d2, d3, e35⟩, h⟩ := h
          cases de
          refine mm_cl_ (rest := [.int (σ22 (q0 + 5) (σ19 (q0 + 3) x1.toNatClampNeg).toNatClampNeg), .int (99 : Int32), .int (σ19 (q0 + 3) x1.toNatClampNeg), .ref (q0 + 5)]) e35 ⟨_, _, _, rfl, rfl, d1, rfl, rfl, Nat.le_of_ble_eq_true rfl, d3, ⟨_, rfl, d2⟩⟩ ?_
          refine mm_blk (M := mm_m_X1_pour) 3 (S' := (148, [.ref q0, .int x1, .ref q9, .int v14, .int (if (σ12 q0 8) < v14 then (σ12 q0 8) else v14), .int (σ19 (q0 + 3) x1.toNatClampNeg)], [], mm_u σ34 (q0 + 5) (σ19 (q0 + 3) x1.toNatClampNeg).toNatClampNeg (if ((σ22 (q0 + 5) (σ19 (q0 + 3) x1.toNatClampNeg).toNatClampNeg) + v36) < (99 : Int32) then ((σ22 (q0 + 5) (σ19 (q0 + 3) x1.toNatClampNeg).toNatClampNeg) + v36) else (99 : Int32)))) (P := [vp_in (σ19 (q0 + 3) x1.toNatClampNeg) (mm_len (q0 + 5))]) rfl ⟨c33, trivial⟩ ?_
          obtain ⟨σ37, e38⟩ : ∃ z, z = mm_u σ34 (q0 + 5) (σ19 (q0 + 3) x1.toNatClampNeg).toNatClampNeg (if ((σ22 (q0 + 5) (σ19 (q0 + 3) x1.toNatClampNeg).toNatClampNeg) + v36) < (99 : Int32) then ((σ22 (q0 + 5) (σ19 (q0 + 3) x1.toNatClampNeg).toNatClampNeg) + v36) else (99 : Int32)) := ⟨_, rfl⟩
          rw [← e38]
          have h := h σ37 e38
          refine mm_blk (M := mm_m_X1_pour) 1 (S' := (182, [.ref q0, .int x1, .ref q9, .int v14, .int (if (σ12 q0 8) < v14 then (σ12 q0 8) else v14), .int (σ19 (q0 + 3) x1.toNatClampNeg)], [], σ37)) (P := []) rfl trivial ?_
          subst h
          exact mm_rt_ ⟨_, _, _, rfl, ⟨rfl, rfl, rfl⟩⟩
      · rw [if_neg b15]
        have h := h.2 b15
        refine mm_blk (M := mm_m_X1_pour) 14 (S' := (88, [.ref q0, .int x1, .ref q9, .int v14, .int (if (σ12 q0 8) < (v14 / (2 : Int32)) then (σ12 q0 8) else (v14 / (2 : Int32))), .null], [], mm_u σ12 q0 8 ((σ12 q0 8) - (if (σ12 q0 8) < (v14 / (2 : Int32)) then (σ12 q0 8) else (v14 / (2 : Int32)))))) (P := [¬ (2 : Int32) = 0, mm_cl q0 = 1, mm_cl q0 = 1, mm_cl q0 = 1]) rfl ⟨(by decide), c4, c4, c4, trivial⟩ ?_
        obtain ⟨σ40, e41⟩ : ∃ z, z = mm_u σ12 q0 8 ((σ12 q0 8) - (if (σ12 q0 8) < (v14 / (2 : Int32)) then (σ12 q0 8) else (v14 / (2 : Int32)))) := ⟨_, rfl⟩
        rw [← e41]
        have h := h σ40 e41
        obtain ⟨c42, h⟩ := h
        refine mm_blk (M := mm_m_X1_pour) 8 (S' := (99, [.ref q0, .int x1, .ref q9, .int v14, .int (if (σ12 q0 8) < (v14 / (2 : Int32)) then (σ12 q0 8) else (v14 / (2 : Int32))), .null], [], mm_u σ40 (q0 + 6) x1.toNatClampNeg ((σ40 (q0 + 6) x1.toNatClampNeg) + (if (σ12 q0 8) < (v14 / (2 : Int32)) then (σ12 q0 8) else (v14 / (2 : Int32)))))) (P := [mm_cl q0 = 1, vp_in x1 (mm_len (q0 + 6)), vp_in x1 (mm_len (q0 + 6))]) rfl ⟨c4, c42, c42, trivial⟩ ?_
        obtain ⟨σ43, e44⟩ : ∃ z, z = mm_u σ40 (q0 + 6) x1.toNatClampNeg ((σ40 (q0 + 6) x1.toNatClampNeg) + (if (σ12 q0 8) < (v14 / (2 : Int32)) then (σ12 q0 8) else (v14 / (2 : Int32)))) := ⟨_, rfl⟩
        rw [← e44]
        have h := h σ43 e44
        obtain ⟨c45, h⟩ := h
        refine mm_blk (M := mm_m_X1_pour) 7 (S' := (110, [.ref q0, .int x1, .ref q9, .int v14, .int (if (σ12 q0 8) < (v14 / (2 : Int32)) then (σ12 q0 8) else (v14 / (2 : Int32))), .int (σ43 (q0 + 3) x1.toNatClampNeg)], [.int (σ43 (q0 + 3) x1.toNatClampNeg), .ref q0], σ43)) (P := [mm_cl q0 = 1, vp_in x1 (mm_len (q0 + 3))]) rfl ⟨c4, c45, trivial⟩ ?_
        obtain ⟨v48, σ46, e47, h⟩ := h
        refine mm_cl_ (rest := []) e47 ⟨_, _, _, rfl, rfl, mm_tb_X1_isAwake, rfl, rfl, Nat.le_of_ble_eq_true rfl, Nat.le_of_ble_eq_true rfl, ⟨_, rfl, c4⟩⟩ ?_
        refine mm_blk (M := mm_m_X1_pour) 1 (S' := ((if v48 = (0 : Int32) then 151 else 116), [.ref q0, .int x1, .ref q9, .int v14, .int (if (σ12 q0 8) < (v14 / (2 : Int32)) then (σ12 q0 8) else (v14 / (2 : Int32))), .int (σ43 (q0 + 3) x1.toNatClampNeg)], [], σ46)) (P := []) rfl trivial ?_
        by_cases b49 : v48 = (0 : Int32)
        · rw [if_pos b49]
          have h := h.1 b49
          obtain ⟨c50, h⟩ := h
          refine mm_blk (M := mm_m_X1_pour) 14 (S' := (174, [.ref q0, .int x1, .ref q9, .int v14, .int (if (σ12 q0 8) < (v14 / (2 : Int32)) then (σ12 q0 8) else (v14 / (2 : Int32))), .int (σ43 (q0 + 3) x1.toNatClampNeg)], [.int (σ46 (q0 + 2) x1.toNatClampNeg), .int (if (σ12 q0 8) < (v14 / (2 : Int32)) then (σ12 q0 8) else (v14 / (2 : Int32))), .ref q9, .int (σ46 (q0 + 4) x1.toNatClampNeg), .int (999 : Int32), .int x1, .ref (q0 + 4)], σ46)) (P := [mm_cl q0 = 1, mm_cl q0 = 1, vp_in x1 (mm_len (q0 + 4)), mm_cl q0 = 1, vp_in x1 (mm_len (q0 + 2))]) rfl ⟨c4, c4, c50, c4, c11, trivial⟩ ?_
          obtain ⟨v53, σ51, ⟨M56, dq, dr, de, d1, d2, d3, e52⟩, h⟩ := h
          cases de
          refine mm_cl_ (rest := [.int (σ46 (q0 + 4) x1.toNatClampNeg), .int (999 : Int32), .int x1, .ref (q0 + 4)]) e52 ⟨_, _, _, rfl, rfl, d1, rfl, rfl, Nat.le_of_ble_eq_true rfl, d3, ⟨_, rfl, d2⟩⟩ ?_
          refine mm_blk (M := mm_m_X1_pour) 3 (S' := (182, [.ref q0, .int x1, .ref q9, .int v14, .int (if (σ12 q0 8) < (v14 / (2 : Int32)) then (σ12 q0 8) else (v14 / (2 : Int32))), .int (σ43 (q0 + 3) x1.toNatClampNeg)], [], mm_u σ51 (q0 + 4) x1.toNatClampNeg (if ((σ46 (q0 + 4) x1.toNatClampNeg) + v53) < (999 : Int32) then ((σ46 (q0 + 4) x1.toNatClampNeg) + v53) else (999 : Int32)))) (P := [vp_in x1 (mm_len (q0 + 4))]) rfl ⟨c50, trivial⟩ ?_
          obtain ⟨σ54, e55⟩ : ∃ z, z = mm_u σ51 (q0 + 4) x1.toNatClampNeg (if ((σ46 (q0 + 4) x1.toNatClampNeg) + v53) < (999 : Int32) then ((σ46 (q0 + 4) x1.toNatClampNeg) + v53) else (999 : Int32)) := ⟨_, rfl⟩
          rw [← e55]
          have h := h σ54 e55
          subst h
          exact mm_rt_ ⟨_, _, _, rfl, ⟨rfl, rfl, rfl⟩⟩
        · rw [if_neg b49]
          have h := h.2 b49
          obtain ⟨c57, h⟩ := h
          refine mm_blk (M := mm_m_X1_pour) 14 (S' := (140, [.ref q0, .int x1, .ref q9, .int v14, .int (if (σ12 q0 8) < (v14 / (2 : Int32)) then (σ12 q0 8) else (v14 / (2 : Int32))), .int (σ43 (q0 + 3) x1.toNatClampNeg)], [.int (σ46 (q0 + 2) x1.toNatClampNeg), .int (if (σ12 q0 8) < (v14 / (2 : Int32)) then (σ12 q0 8) else (v14 / (2 : Int32))), .ref q9, .int (σ46 (q0 + 5) (σ43 (q0 + 3) x1.toNatClampNeg).toNatClampNeg), .int (99 : Int32), .int (σ43 (q0 + 3) x1.toNatClampNeg), .ref (q0 + 5)], σ46)) (P := [mm_cl q0 = 1, mm_cl q0 = 1, vp_in (σ43 (q0 + 3) x1.toNatClampNeg) (mm_len (q0 + 5)), mm_cl q0 = 1, vp_in x1 (mm_len (q0 + 2))]) rfl ⟨c4, c4, c57, c4, c11, trivial⟩ ?_
          obtain ⟨v60, σ58, ⟨M63, dq, dr, de, d1, d2, d3, e59⟩, h⟩ := h
          cases de
          refine mm_cl_ (rest := [.int (σ46 (q0 + 5) (σ43 (q0 + 3) x1.toNatClampNeg).toNatClampNeg), .int (99 : Int32), .int (σ43 (q0 + 3) x1.toNatClampNeg), .ref (q0 + 5)]) e59 ⟨_, _, _, rfl, rfl, d1, rfl, rfl, Nat.le_of_ble_eq_true rfl, d3, ⟨_, rfl, d2⟩⟩ ?_
          refine mm_blk (M := mm_m_X1_pour) 3 (S' := (148, [.ref q0, .int x1, .ref q9, .int v14, .int (if (σ12 q0 8) < (v14 / (2 : Int32)) then (σ12 q0 8) else (v14 / (2 : Int32))), .int (σ43 (q0 + 3) x1.toNatClampNeg)], [], mm_u σ58 (q0 + 5) (σ43 (q0 + 3) x1.toNatClampNeg).toNatClampNeg (if ((σ46 (q0 + 5) (σ43 (q0 + 3) x1.toNatClampNeg).toNatClampNeg) + v60) < (99 : Int32) then ((σ46 (q0 + 5) (σ43 (q0 + 3) x1.toNatClampNeg).toNatClampNeg) + v60) else (99 : Int32)))) (P := [vp_in (σ43 (q0 + 3) x1.toNatClampNeg) (mm_len (q0 + 5))]) rfl ⟨c57, trivial⟩ ?_
          obtain ⟨σ61, e62⟩ : ∃ z, z = mm_u σ58 (q0 + 5) (σ43 (q0 + 3) x1.toNatClampNeg).toNatClampNeg (if ((σ46 (q0 + 5) (σ43 (q0 + 3) x1.toNatClampNeg).toNatClampNeg) + v60) < (99 : Int32) then ((σ46 (q0 + 5) (σ43 (q0 + 3) x1.toNatClampNeg).toNatClampNeg) + v60) else (99 : Int32)) := ⟨_, rfl⟩
          rw [← e62]
          have h := h σ61 e62
          refine mm_blk (M := mm_m_X1_pour) 1 (S' := (182, [.ref q0, .int x1, .ref q9, .int v14, .int (if (σ12 q0 8) < (v14 / (2 : Int32)) then (σ12 q0 8) else (v14 / (2 : Int32))), .int (σ43 (q0 + 3) x1.toNatClampNeg)], [], σ61)) (P := []) rfl trivial ?_
          subst h
          exact mm_rt_ ⟨_, _, _, rfl, ⟨rfl, rfl, rfl⟩⟩
    · rw [if_neg b10]
      have h := h.2 b10
      refine mm_blk (M := mm_m_X1_pour) 7 (S' := ((if ¬ x1 = (σ7 q0 11) then 67 else 61), [.ref q0, .int x1, .ref q9, .int (0 : Int32), .null, .null], [], σ7)) (P := [mm_cl q0 = 1]) rfl ⟨c4, trivial⟩ ?_
      by_cases b65 : ¬ x1 = (σ7 q0 11)
      · rw [if_pos b65]
        have h := h.1 b65
        refine mm_blk (M := mm_m_X1_pour) 11 (S' := (88, [.ref q0, .int x1, .ref q9, .int (0 : Int32), .int (if (σ7 q0 8) < (0 : Int32) then (σ7 q0 8) else (0 : Int32)), .null], [], mm_u σ7 q0 8 ((σ7 q0 8) - (if (σ7 q0 8) < (0 : Int32) then (σ7 q0 8) else (0 : Int32))))) (P := [mm_cl q0 = 1, mm_cl q0 = 1, mm_cl q0 = 1]) rfl ⟨c4, c4, c4, trivial⟩ ?_
        obtain ⟨σ66, e67⟩ : ∃ z, z = mm_u σ7 q0 8 ((σ7 q0 8) - (if (σ7 q0 8) < (0 : Int32) then (σ7 q0 8) else (0 : Int32))) := ⟨_, rfl⟩
        rw [← e67]
        have h := h σ66 e67
        obtain ⟨c68, h⟩ := h
        refine mm_blk (M := mm_m_X1_pour) 8 (S' := (99, [.ref q0, .int x1, .ref q9, .int (0 : Int32), .int (if (σ7 q0 8) < (0 : Int32) then (σ7 q0 8) else (0 : Int32)), .null], [], mm_u σ66 (q0 + 6) x1.toNatClampNeg ((σ66 (q0 + 6) x1.toNatClampNeg) + (if (σ7 q0 8) < (0 : Int32) then (σ7 q0 8) else (0 : Int32))))) (P := [mm_cl q0 = 1, vp_in x1 (mm_len (q0 + 6)), vp_in x1 (mm_len (q0 + 6))]) rfl ⟨c4, c68, c68, trivial⟩ ?_
        obtain ⟨σ69, e70⟩ : ∃ z, z = mm_u σ66 (q0 + 6) x1.toNatClampNeg ((σ66 (q0 + 6) x1.toNatClampNeg) + (if (σ7 q0 8) < (0 : Int32) then (σ7 q0 8) else (0 : Int32))) := ⟨_, rfl⟩
        rw [← e70]
        have h := h σ69 e70
        obtain ⟨c71, h⟩ := h
        refine mm_blk (M := mm_m_X1_pour) 7 (S' := (110, [.ref q0, .int x1, .ref q9, .int (0 : Int32), .int (if (σ7 q0 8) < (0 : Int32) then (σ7 q0 8) else (0 : Int32)), .int (σ69 (q0 + 3) x1.toNatClampNeg)], [.int (σ69 (q0 + 3) x1.toNatClampNeg), .ref q0], σ69)) (P := [mm_cl q0 = 1, vp_in x1 (mm_len (q0 + 3))]) rfl ⟨c4, c71, trivial⟩ ?_
        obtain ⟨v74, σ72, e73, h⟩ := h
        refine mm_cl_ (rest := []) e73 ⟨_, _, _, rfl, rfl, mm_tb_X1_isAwake, rfl, rfl, Nat.le_of_ble_eq_true rfl, Nat.le_of_ble_eq_true rfl, ⟨_, rfl, c4⟩⟩ ?_
        refine mm_blk (M := mm_m_X1_pour) 1 (S' := ((if v74 = (0 : Int32) then 151 else 116), [.ref q0, .int x1, .ref q9, .int (0 : Int32), .int (if (σ7 q0 8) < (0 : Int32) then (σ7 q0 8) else (0 : Int32)), .int (σ69 (q0 + 3) x1.toNatClampNeg)], [], σ72)) (P := []) rfl trivial ?_
        by_cases b75 : v74 = (0 : Int32)
        · rw [if_pos b75]
          have h := h.1 b75
          obtain ⟨c76, h⟩ := h
          obtain ⟨c77, h⟩ := h
          refine mm_blk (M := mm_m_X1_pour) 14 (S' := (174, [.ref q0, .int x1, .ref q9, .int (0 : Int32), .int (if (σ7 q0 8) < (0 : Int32) then (σ7 q0 8) else (0 : Int32)), .int (σ69 (q0 + 3) x1.toNatClampNeg)], [.int (σ72 (q0 + 2) x1.toNatClampNeg), .int (if (σ7 q0 8) < (0 : Int32) then (σ7 q0 8) else (0 : Int32)), .ref q9, .int (σ72 (q0 + 4) x1.toNatClampNeg), .int (999 : Int32), .int x1, .ref (q0 + 4)], σ72)) (P := [mm_cl q0 = 1, mm_cl q0 = 1, vp_in x1 (mm_len (q0 + 4)), mm_cl q0 = 1, vp_in x1 (mm_len (q0 + 2))]) rfl ⟨c4, c4, c76, c4, c77, trivial⟩ ?_
          obtain ⟨v80, σ78, ⟨M83, dq, dr, de, d1, d2, d3, e79⟩, h⟩ := h
          cases de
          refine mm_cl_ (rest := [.int (σ72 (q0 + 4) x1.toNatClampNeg), .int (999 : Int32), .int x1, .ref (q0 + 4)]) e79 ⟨_, _, _, rfl, rfl, d1, rfl, rfl, Nat.le_of_ble_eq_true rfl, d3, ⟨_, rfl, d2⟩⟩ ?_
          refine mm_blk (M := mm_m_X1_pour) 3 (S' := (182, [.ref q0, .int x1, .ref q9, .int (0 : Int32), .int (if (σ7 q0 8) < (0 : Int32) then (σ7 q0 8) else (0 : Int32)), .int (σ69 (q0 + 3) x1.toNatClampNeg)], [], mm_u σ78 (q0 + 4) x1.toNatClampNeg (if ((σ72 (q0 + 4) x1.toNatClampNeg) + v80) < (999 : Int32) then ((σ72 (q0 + 4) x1.toNatClampNeg) + v80) else (999 : Int32)))) (P := [vp_in x1 (mm_len (q0 + 4))]) rfl ⟨c76, trivial⟩ ?_
          obtain ⟨σ81, e82⟩ : ∃ z, z = mm_u σ78 (q0 + 4) x1.toNatClampNeg (if ((σ72 (q0 + 4) x1.toNatClampNeg) + v80) < (999 : Int32) then ((σ72 (q0 + 4) x1.toNatClampNeg) + v80) else (999 : Int32)) := ⟨_, rfl⟩
          rw [← e82]
          have h := h σ81 e82
          subst h
          exact mm_rt_ ⟨_, _, _, rfl, ⟨rfl, rfl, rfl⟩⟩
        · rw [if_neg b75]
          have h := h.2 b75
          obtain ⟨c84, h⟩ := h
          obtain ⟨c85, h⟩ := h
          refine mm_blk (M := mm_m_X1_pour) 14 (S' := (140, [.ref q0, .int x1, .ref q9, .int (0 : Int32), .int (if (σ7 q0 8) < (0 : Int32) then (σ7 q0 8) else (0 : Int32)), .int (σ69 (q0 + 3) x1.toNatClampNeg)], [.int (σ72 (q0 + 2) x1.toNatClampNeg), .int (if (σ7 q0 8) < (0 : Int32) then (σ7 q0 8) else (0 : Int32)), .ref q9, .int (σ72 (q0 + 5) (σ69 (q0 + 3) x1.toNatClampNeg).toNatClampNeg), .int (99 : Int32), .int (σ69 (q0 + 3) x1.toNatClampNeg), .ref (q0 + 5)], σ72)) (P := [mm_cl q0 = 1, mm_cl q0 = 1, vp_in (σ69 (q0 + 3) x1.toNatClampNeg) (mm_len (q0 + 5)), mm_cl q0 = 1, vp_in x1 (mm_len (q0 + 2))]) rfl ⟨c4, c4, c84, c4, c85, trivial⟩ ?_
          obtain ⟨v88, σ86, ⟨M91, dq, dr, de, d1, d2, d3, e87⟩, h⟩ := h
          cases de
          refine mm_cl_ (rest := [.int (σ72 (q0 + 5) (σ69 (q0 + 3) x1.toNatClampNeg).toNatClampNeg), .int (99 : Int32), .int (σ69 (q0 + 3) x1.toNatClampNeg), .ref (q0 + 5)]) e87 ⟨_, _, _, rfl, rfl, d1, rfl, rfl, Nat.le_of_ble_eq_true rfl, d3, ⟨_, rfl, d2⟩⟩ ?_
          refine mm_blk (M := mm_m_X1_pour) 3 (S' := (148, [.ref q0, .int x1, .ref q9, .int (0 : Int32), .int (if (σ7 q0 8) < (0 : Int32) then (σ7 q0 8) else (0 : Int32)), .int (σ69 (q0 + 3) x1.toNatClampNeg)], [], mm_u σ86 (q0 + 5) (σ69 (q0 + 3) x1.toNatClampNeg).toNatClampNeg (if ((σ72 (q0 + 5) (σ69 (q0 + 3) x1.toNatClampNeg).toNatClampNeg) + v88) < (99 : Int32) then ((σ72 (q0 + 5) (σ69 (q0 + 3) x1.toNatClampNeg).toNatClampNeg) + v88) else (99 : Int32)))) (P := [vp_in (σ69 (q0 + 3) x1.toNatClampNeg) (mm_len (q0 + 5))]) rfl ⟨c84, trivial⟩ ?_
          obtain ⟨σ89, e90⟩ : ∃ z, z = mm_u σ86 (q0 + 5) (σ69 (q0 + 3) x1.toNatClampNeg).toNatClampNeg (if ((σ72 (q0 + 5) (σ69 (q0 + 3) x1.toNatClampNeg).toNatClampNeg) + v88) < (99 : Int32) then ((σ72 (q0 + 5) (σ69 (q0 + 3) x1.toNatClampNeg).toNatClampNeg) + v88) else (99 : Int32)) := ⟨_, rfl⟩
          rw [← e90]
          have h := h σ89 e90
          refine mm_blk (M := mm_m_X1_pour) 1 (S' := (182, [.ref q0, .int x1, .ref q9, .int (0 : Int32), .int (if (σ7 q0 8) < (0 : Int32) then (σ7 q0 8) else (0 : Int32)), .int (σ69 (q0 + 3) x1.toNatClampNeg)], [], σ89)) (P := []) rfl trivial ?_
          subst h
          exact mm_rt_ ⟨_, _, _, rfl, ⟨rfl, rfl, rfl⟩⟩
      · rw [if_neg b65]
        have h := h.2 b65
        refine mm_blk (M := mm_m_X1_pour) 14 (S' := (88, [.ref q0, .int x1, .ref q9, .int (0 : Int32), .int (if (σ7 q0 8) < ((0 : Int32) / (2 : Int32)) then (σ7 q0 8) else ((0 : Int32) / (2 : Int32))), .null], [], mm_u σ7 q0 8 ((σ7 q0 8) - (if (σ7 q0 8) < ((0 : Int32) / (2 : Int32)) then (σ7 q0 8) else ((0 : Int32) / (2 : Int32)))))) (P := [¬ (2 : Int32) = 0, mm_cl q0 = 1, mm_cl q0 = 1, mm_cl q0 = 1]) rfl ⟨(by decide), c4, c4, c4, trivial⟩ ?_
        obtain ⟨σ92, e93⟩ : ∃ z, z = mm_u σ7 q0 8 ((σ7 q0 8) - (if (σ7 q0 8) < ((0 : Int32) / (2 : Int32)) then (σ7 q0 8) else ((0 : Int32) / (2 : Int32)))) := ⟨_, rfl⟩
        rw [← e93]
        have h := h σ92 e93
        obtain ⟨c94, h⟩ := h
        refine mm_blk (M := mm_m_X1_pour) 8 (S' := (99, [.ref q0, .int x1, .ref q9, .int (0 : Int32), .int (if (σ7 q0 8) < ((0 : Int32) / (2 : Int32)) then (σ7 q0 8) else ((0 : Int32) / (2 : Int32))), .null], [], mm_u σ92 (q0 + 6) x1.toNatClampNeg ((σ92 (q0 + 6) x1.toNatClampNeg) + (if (σ7 q0 8) < ((0 : Int32) / (2 : Int32)) then (σ7 q0 8) else ((0 : Int32) / (2 : Int32)))))) (P := [mm_cl q0 = 1, vp_in x1 (mm_len (q0 + 6)), vp_in x1 (mm_len (q0 + 6))]) rfl ⟨c4, c94, c94, trivial⟩ ?_
        obtain ⟨σ95, e96⟩ : ∃ z, z = mm_u σ92 (q0 + 6) x1.toNatClampNeg ((σ92 (q0 + 6) x1.toNatClampNeg) + (if (σ7 q0 8) < ((0 : Int32) / (2 : Int32)) then (σ7 q0 8) else ((0 : Int32) / (2 : Int32)))) := ⟨_, rfl⟩
        rw [← e96]
        have h := h σ95 e96
        obtain ⟨c97, h⟩ := h
        refine mm_blk (M := mm_m_X1_pour) 7 (S' := (110, [.ref q0, .int x1, .ref q9, .int (0 : Int32), .int (if (σ7 q0 8) < ((0 : Int32) / (2 : Int32)) then (σ7 q0 8) else ((0 : Int32) / (2 : Int32))), .int (σ95 (q0 + 3) x1.toNatClampNeg)], [.int (σ95 (q0 + 3) x1.toNatClampNeg), .ref q0], σ95)) (P := [mm_cl q0 = 1, vp_in x1 (mm_len (q0 + 3))]) rfl ⟨c4, c97, trivial⟩ ?_
        obtain ⟨v100, σ98, e99, h⟩ := h
        refine mm_cl_ (rest := []) e99 ⟨_, _, _, rfl, rfl, mm_tb_X1_isAwake, rfl, rfl, Nat.le_of_ble_eq_true rfl, Nat.le_of_ble_eq_true rfl, ⟨_, rfl, c4⟩⟩ ?_
        refine mm_blk (M := mm_m_X1_pour) 1 (S' := ((if v100 = (0 : Int32) then 151 else 116), [.ref q0, .int x1, .ref q9, .int (0 : Int32), .int (if (σ7 q0 8) < ((0 : Int32) / (2 : Int32)) then (σ7 q0 8) else ((0 : Int32) / (2 : Int32))), .int (σ95 (q0 + 3) x1.toNatClampNeg)], [], σ98)) (P := []) rfl trivial ?_
        by_cases b101 : v100 = (0 : Int32)
        · rw [if_pos b101]
          have h := h.1 b101
          obtain ⟨c102, h⟩ := h
          obtain ⟨c103, h⟩ := h
          refine mm_blk (M := mm_m_X1_pour) 14 (S' := (174, [.ref q0, .int x1, .ref q9, .int (0 : Int32), .int (if (σ7 q0 8) < ((0 : Int32) / (2 : Int32)) then (σ7 q0 8) else ((0 : Int32) / (2 : Int32))), .int (σ95 (q0 + 3) x1.toNatClampNeg)], [.int (σ98 (q0 + 2) x1.toNatClampNeg), .int (if (σ7 q0 8) < ((0 : Int32) / (2 : Int32)) then (σ7 q0 8) else ((0 : Int32) / (2 : Int32))), .ref q9, .int (σ98 (q0 + 4) x1.toNatClampNeg), .int (999 : Int32), .int x1, .ref (q0 + 4)], σ98)) (P := [mm_cl q0 = 1, mm_cl q0 = 1, vp_in x1 (mm_len (q0 + 4)), mm_cl q0 = 1, vp_in x1 (mm_len (q0 + 2))]) rfl ⟨c4, c4, c102, c4, c103, trivial⟩ ?_
          obtain ⟨v106, σ104, ⟨M109, dq, dr, de, d1, d2, d3, e105⟩, h⟩ := h
          cases de
          refine mm_cl_ (rest := [.int (σ98 (q0 + 4) x1.toNatClampNeg), .int (999 : Int32), .int x1, .ref (q0 + 4)]) e105 ⟨_, _, _, rfl, rfl, d1, rfl, rfl, Nat.le_of_ble_eq_true rfl, d3, ⟨_, rfl, d2⟩⟩ ?_
          refine mm_blk (M := mm_m_X1_pour) 3 (S' := (182, [.ref q0, .int x1, .ref q9, .int (0 : Int32), .int (if (σ7 q0 8) < ((0 : Int32) / (2 : Int32)) then (σ7 q0 8) else ((0 : Int32) / (2 : Int32))), .int (σ95 (q0 + 3) x1.toNatClampNeg)], [], mm_u σ104 (q0 + 4) x1.toNatClampNeg (if ((σ98 (q0 + 4) x1.toNatClampNeg) + v106) < (999 : Int32) then ((σ98 (q0 + 4) x1.toNatClampNeg) + v106) else (999 : Int32)))) (P := [vp_in x1 (mm_len (q0 + 4))]) rfl ⟨c102, trivial⟩ ?_
          obtain ⟨σ107, e108⟩ : ∃ z, z = mm_u σ104 (q0 + 4) x1.toNatClampNeg (if ((σ98 (q0 + 4) x1.toNatClampNeg) + v106) < (999 : Int32) then ((σ98 (q0 + 4) x1.toNatClampNeg) + v106) else (999 : Int32)) := ⟨_, rfl⟩
          rw [← e108]
          have h := h σ107 e108
          subst h
          exact mm_rt_ ⟨_, _, _, rfl, ⟨rfl, rfl, rfl⟩⟩
        · rw [if_neg b101]
          have h := h.2 b101
          obtain ⟨c110, h⟩ := h
          obtain ⟨c111, h⟩ := h
          refine mm_blk (M := mm_m_X1_pour) 14 (S' := (140, [.ref q0, .int x1, .ref q9, .int (0 : Int32), .int (if (σ7 q0 8) < ((0 : Int32) / (2 : Int32)) then (σ7 q0 8) else ((0 : Int32) / (2 : Int32))), .int (σ95 (q0 + 3) x1.toNatClampNeg)], [.int (σ98 (q0 + 2) x1.toNatClampNeg), .int (if (σ7 q0 8) < ((0 : Int32) / (2 : Int32)) then (σ7 q0 8) else ((0 : Int32) / (2 : Int32))), .ref q9, .int (σ98 (q0 + 5) (σ95 (q0 + 3) x1.toNatClampNeg).toNatClampNeg), .int (99 : Int32), .int (σ95 (q0 + 3) x1.toNatClampNeg), .ref (q0 + 5)], σ98)) (P := [mm_cl q0 = 1, mm_cl q0 = 1, vp_in (σ95 (q0 + 3) x1.toNatClampNeg) (mm_len (q0 + 5)), mm_cl q0 = 1, vp_in x1 (mm_len (q0 + 2))]) rfl ⟨c4, c4, c110, c4, c111, trivial⟩ ?_
          obtain ⟨v114, σ112, ⟨M117, dq, dr, de, d1, d2, d3, e113⟩, h⟩ := h
          cases de
          refine mm_cl_ (rest := [.int (σ98 (q0 + 5) (σ95 (q0 + 3) x1.toNatClampNeg).toNatClampNeg), .int (99 : Int32), .int (σ95 (q0 + 3) x1.toNatClampNeg), .ref (q0 + 5)]) e113 ⟨_, _, _, rfl, rfl, d1, rfl, rfl, Nat.le_of_ble_eq_true rfl, d3, ⟨_, rfl, d2⟩⟩ ?_
          refine mm_blk (M := mm_m_X1_pour) 3 (S' := (148, [.ref q0, .int x1, .ref q9, .int (0 : Int32), .int (if (σ7 q0 8) < ((0 : Int32) / (2 : Int32)) then (σ7 q0 8) else ((0 : Int32) / (2 : Int32))), .int (σ95 (q0 + 3) x1.toNatClampNeg)], [], mm_u σ112 (q0 + 5) (σ95 (q0 + 3) x1.toNatClampNeg).toNatClampNeg (if ((σ98 (q0 + 5) (σ95 (q0 + 3) x1.toNatClampNeg).toNatClampNeg) + v114) < (99 : Int32) then ((σ98 (q0 + 5) (σ95 (q0 + 3) x1.toNatClampNeg).toNatClampNeg) + v114) else (99 : Int32)))) (P := [vp_in (σ95 (q0 + 3) x1.toNatClampNeg) (mm_len (q0 + 5))]) rfl ⟨c110, trivial⟩ ?_
          obtain ⟨σ115, e116⟩ : ∃ z, z = mm_u σ112 (q0 + 5) (σ95 (q0 + 3) x1.toNatClampNeg).toNatClampNeg (if ((σ98 (q0 + 5) (σ95 (q0 + 3) x1.toNatClampNeg).toNatClampNeg) + v114) < (99 : Int32) then ((σ98 (q0 + 5) (σ95 (q0 + 3) x1.toNatClampNeg).toNatClampNeg) + v114) else (99 : Int32)) := ⟨_, rfl⟩
          rw [← e116]
          have h := h σ115 e116
          refine mm_blk (M := mm_m_X1_pour) 1 (S' := (182, [.ref q0, .int x1, .ref q9, .int (0 : Int32), .int (if (σ7 q0 8) < ((0 : Int32) / (2 : Int32)) then (σ7 q0 8) else ((0 : Int32) / (2 : Int32))), .int (σ95 (q0 + 3) x1.toNatClampNeg)], [], σ115)) (P := []) rfl trivial ?_
          subst h
          exact mm_rt_ ⟨_, _, _, rfl, ⟨rfl, rfl, rfl⟩⟩
  · rw [if_neg b5]
    have h := h.2 b5
    subst h
    exact mm_rt_ ⟨_, _, _, rfl, ⟨rfl, rfl, rfl⟩⟩
theorem sg_X10_owesThen_0 (σ : mm_Sg) (x1 : Int32) (x2 : Int32) (R : Option Value × mm_Sg) (h : (∃ (v3 : Int32) (σ1 : mm_Sg), mm_Ev mm_m_X1_has [.ref 10, .int x1] σ (some (.int v3)) σ1 ∧ (((v3 = (0 : Int32) → (R = (some (.int (-1 : Int32)), σ1))) ∧ (¬ (v3 = (0 : Int32)) → (∃ (v7 : Int32) (σ5 : mm_Sg), mm_Ev mm_m_X10_isBetween [.int x2, .int (0 : Int32), .int (60 : Int32)] σ1 (some (.int v7)) σ5 ∧ (((¬ v7 = (0 : Int32) → (∃ (σ9 : mm_Sg), mm_Ev mm_m_X10_thinkDaysOn [.ref 0, .int x2] σ5 none σ9 ∧ ((vp_in x1 (mm_len 28)) ∧ R = (some (.int (σ9 28 x1.toNatClampNeg)), σ9)))) ∧ (¬ (¬ v7 = (0 : Int32)) → (R = (some (.int (-1 : Int32)), σ5))))))))))) : mm_Go mm_m_X10_owesThen (0, [.ref 0, .int x1, .int x2], [], σ) R := by
  refine mm_blk (M := mm_m_X10_owesThen) 3 (S' := (5, [.ref 0, .int x1, .int x2], [.int x1, .ref 10], σ)) (P := [mm_cl 0 = 10]) rfl ⟨rfl, trivial⟩ ?_
  obtain ⟨v3, σ1, e2, h⟩ := h
  refine mm_cl_ (rest := []) e2 ⟨_, _, _, rfl, rfl, mm_tb_X1_has, rfl, rfl, Nat.le_of_ble_eq_true rfl, Nat.le_of_ble_eq_true rfl, ⟨_, rfl, rfl⟩⟩ ?_
  refine mm_blk (M := mm_m_X10_owesThen) 1 (S' := ((if v3 = (0 : Int32) then 21 else 11), [.ref 0, .int x1, .int x2], [], σ1)) (P := []) rfl trivial ?_
  by_cases b4 : v3 = (0 : Int32)
  · rw [if_pos b4]
    have h := h.1 b4
    refine mm_blk (M := mm_m_X10_owesThen) 1 (S' := (22, [.ref 0, .int x1, .int x2], [.int (-1 : Int32)], σ1)) (P := []) rfl trivial ?_
    subst h
    exact mm_rt_ ⟨_, _, _, rfl, ⟨_, _, rfl, rfl, rfl, rfl⟩⟩
  · rw [if_neg b4]
    have h := h.2 b4
    refine mm_blk (M := mm_m_X10_owesThen) 3 (S' := (15, [.ref 0, .int x1, .int x2], [.int (60 : Int32), .int (0 : Int32), .int x2], σ1)) (P := []) rfl trivial ?_
    obtain ⟨v7, σ5, e6, h⟩ := h
    refine mm_cl_ (rest := []) e6 ⟨_, _, _, rfl, rfl, mm_tb_X10_isBetween, rfl, rfl, Nat.le_of_ble_eq_true rfl, Nat.le_of_ble_eq_true rfl, trivial⟩ ?_
    refine mm_blk (M := mm_m_X10_owesThen) 1 (S' := ((if ¬ v7 = (0 : Int32) then 23 else 21), [.ref 0, .int x1, .int x2], [], σ5)) (P := []) rfl trivial ?_
    by_cases b8 : ¬ v7 = (0 : Int32)
    · rw [if_pos b8]
      have h := h.1 b8
      refine mm_blk (M := mm_m_X10_owesThen) 2 (S' := (25, [.ref 0, .int x1, .int x2], [.int x2, .ref 0], σ5)) (P := []) rfl trivial ?_
      obtain ⟨σ9, e10, h⟩ := h
      refine mm_cl_ (rest := []) e10 ⟨_, _, _, rfl, rfl, mm_tb_X10_thinkDaysOn, rfl, rfl, Nat.le_of_ble_eq_true rfl, Nat.le_of_ble_eq_true rfl, ⟨_, rfl, rfl⟩⟩ ?_
      obtain ⟨c11, h⟩ := h
      refine mm_blk (M := mm_m_X10_owesThen) 5 (S' := (37, [.ref 0, .int x1, .int x2], [.int (σ9 28 x1.toNatClampNeg)], σ9)) (P := [mm_cl 0 = 10, mm_cl 24 = 1, vp_in x1 (mm_len 28)]) rfl ⟨rfl, rfl, c11, trivial⟩ ?_
      subst h
      exact mm_rt_ ⟨_, _, _, rfl, ⟨_, _, rfl, rfl, rfl, rfl⟩⟩
    · rw [if_neg b8]
      have h := h.2 b8
      refine mm_blk (M := mm_m_X10_owesThen) 1 (S' := (22, [.ref 0, .int x1, .int x2], [.int (-1 : Int32)], σ5)) (P := []) rfl trivial ?_
      subst h
      exact mm_rt_ ⟨_, _, _, rfl, ⟨_, _, rfl, rfl, rfl, rfl⟩⟩
theorem sg_X11_drinksBy_0 (σ : mm_Sg) (x0 : Int32) (x1 : Int32) (x2 : Int32) (R : Option Value × mm_Sg) (h : (((x0 = nI 1 → (R = (some (.int ((2 : Int32) + (x2 - x2 / (2 : Int32) * (2 : Int32)))), σ))) ∧ (¬ (x0 = nI 1) → ((x0 = nI 2 → (R = (some (.int ((2 : Int32) + (x1 / (2 : Int32)))), σ))) ∧ (¬ (x0 = nI 2) → ((x0 = nI 3 → (R = (some (.int (1 : Int32)), σ))) ∧ (¬ (x0 = nI 3) → ((x0 = nI 4 → (R = (some (.int ((2 : Int32) * ((2 : Int32) + (x1 / (2 : Int32))))), σ))) ∧ (¬ (x0 = nI 4) → ((x0 = nI 5 → (((¬ (x2 - x2 / (3 : Int32) * (3 : Int32)) = (0 : Int32) → (R = (some (.int ((2 : Int32) + (x2 - x2 / (2 : Int32) * (2 : Int32)))), σ))) ∧ (¬ (¬ (x2 - x2 / (3 : Int32) * (3 : Int32)) = (0 : Int32)) → (R = (some (.int (0 : Int32)), σ)))))) ∧ (¬ (x0 = nI 5) → ((x0 = nI 6 → (R = (some (.int (((2 : Int32) * ((2 : Int32) + (x1 / (2 : Int32)))) - (1 : Int32))), σ))) ∧ (¬ (x0 = nI 6) → ((x0 = nI 7 → (R = (some (.int (0 : Int32)), σ))) ∧ (¬ (x0 = nI 7) → (R = (some (.int (2 : Int32)), σ)))))))))))))))))) : mm_Go mm_m_X11_drinksBy (0, [.int x0, .int x1, .int x2, .null, .null], [], σ) R := by
  refine mm_blk (M := mm_m_X11_drinksBy) 14 (S' := ((mm_tsw x0 89 1 [56, 58, 61, 63, 68, 80, 87]), [.int x0, .int x1, .int x2, .int ((2 : Int32) + (x2 - x2 / (2 : Int32) * (2 : Int32))), .int ((2 : Int32) + (x1 / (2 : Int32)))], [], σ)) (P := [¬ (2 : Int32) = 0, ¬ (2 : Int32) = 0]) rfl ⟨(by decide), (by decide), trivial⟩ ?_
  by_cases b1 : x0 = nI 1
  · rw [show mm_tsw x0 89 1 [56, 58, 61, 63, 68, 80, 87] = 56 from mm_tsw_t b1]
    have h := h.1 b1
    refine mm_blk (M := mm_m_X11_drinksBy) 1 (S' := (57, [.int x0, .int x1, .int x2, .int ((2 : Int32) + (x2 - x2 / (2 : Int32) * (2 : Int32))), .int ((2 : Int32) + (x1 / (2 : Int32)))], [.int ((2 : Int32) + (x2 - x2 / (2 : Int32) * (2 : Int32)))], σ)) (P := []) rfl trivial ?_
    subst h
    exact mm_rt_ ⟨_, _, _, rfl, ⟨_, _, rfl, rfl, rfl, rfl⟩⟩
  rw [show mm_tsw x0 89 1 [56, 58, 61, 63, 68, 80, 87] = mm_tsw x0 89 2 [58, 61, 63, 68, 80, 87] from mm_tsw_f b1]
  have h := h.2 b1
  by_cases b2 : x0 = nI 2
  · rw [show mm_tsw x0 89 2 [58, 61, 63, 68, 80, 87] = 58 from mm_tsw_t b2]
    have h := h.1 b2
    refine mm_blk (M := mm_m_X11_drinksBy) 1 (S' := (60, [.int x0, .int x1, .int x2, .int ((2 : Int32) + (x2 - x2 / (2 : Int32) * (2 : Int32))), .int ((2 : Int32) + (x1 / (2 : Int32)))], [.int ((2 : Int32) + (x1 / (2 : Int32)))], σ)) (P := []) rfl trivial ?_
    subst h
    exact mm_rt_ ⟨_, _, _, rfl, ⟨_, _, rfl, rfl, rfl, rfl⟩⟩
  rw [show mm_tsw x0 89 2 [58, 61, 63, 68, 80, 87] = mm_tsw x0 89 3 [61, 63, 68, 80, 87] from mm_tsw_f b2]
  have h := h.2 b2
  by_cases b3 : x0 = nI 3
  · rw [show mm_tsw x0 89 3 [61, 63, 68, 80, 87] = 61 from mm_tsw_t b3]
    have h := h.1 b3
    refine mm_blk (M := mm_m_X11_drinksBy) 1 (S' := (62, [.int x0, .int x1, .int x2, .int ((2 : Int32) + (x2 - x2 / (2 : Int32) * (2 : Int32))), .int ((2 : Int32) + (x1 / (2 : Int32)))], [.int (1 : Int32)], σ)) (P := []) rfl trivial ?_
    subst h
    exact mm_rt_ ⟨_, _, _, rfl, ⟨_, _, rfl, rfl, rfl, rfl⟩⟩
  rw [show mm_tsw x0 89 3 [61, 63, 68, 80, 87] = mm_tsw x0 89 4 [63, 68, 80, 87] from mm_tsw_f b3]
  have h := h.2 b3
  by_cases b4 : x0 = nI 4
  · rw [show mm_tsw x0 89 4 [63, 68, 80, 87] = 63 from mm_tsw_t b4]
    have h := h.1 b4
    refine mm_blk (M := mm_m_X11_drinksBy) 3 (S' := (67, [.int x0, .int x1, .int x2, .int ((2 : Int32) + (x2 - x2 / (2 : Int32) * (2 : Int32))), .int ((2 : Int32) + (x1 / (2 : Int32)))], [.int ((2 : Int32) * ((2 : Int32) + (x1 / (2 : Int32))))], σ)) (P := []) rfl trivial ?_
    subst h
    exact mm_rt_ ⟨_, _, _, rfl, ⟨_, _, rfl, rfl, rfl, rfl⟩⟩
  rw [show mm_tsw x0 89 4 [63, 68, 80, 87] = mm_tsw x0 89 5 [68, 80, 87] from mm_tsw_f b4]
  have h := h.2 b4
  by_cases b5 : x0 = nI 5
  · rw [show mm_tsw x0 89 5 [68, 80, 87] = 68 from mm_tsw_t b5]
    have h := h.1 b5
    refine mm_blk (M := mm_m_X11_drinksBy) 4 (S' := ((if ¬ (x2 - x2 / (3 : Int32) * (3 : Int32)) = (0 : Int32) then 78 else 74), [.int x0, .int x1, .int x2, .int ((2 : Int32) + (x2 - x2 / (2 : Int32) * (2 : Int32))), .int ((2 : Int32) + (x1 / (2 : Int32)))], [], σ)) (P := [¬ (3 : Int32) = 0]) rfl ⟨(by decide), trivial⟩ ?_
    by_cases b6 : ¬ (x2 - x2 / (3 : Int32) * (3 : Int32)) = (0 : Int32)
    · rw [if_pos b6]
      have h := h.1 b6
      refine mm_blk (M := mm_m_X11_drinksBy) 1 (S' := (79, [.int x0, .int x1, .int x2, .int ((2 : Int32) + (x2 - x2 / (2 : Int32) * (2 : Int32))), .int ((2 : Int32) + (x1 / (2 : Int32)))], [.int ((2 : Int32) + (x2 - x2 / (2 : Int32) * (2 : Int32)))], σ)) (P := []) rfl trivial ?_
      subst h
      exact mm_rt_ ⟨_, _, _, rfl, ⟨_, _, rfl, rfl, rfl, rfl⟩⟩
    · rw [if_neg b6]
      have h := h.2 b6
      refine mm_blk (M := mm_m_X11_drinksBy) 2 (S' := (79, [.int x0, .int x1, .int x2, .int ((2 : Int32) + (x2 - x2 / (2 : Int32) * (2 : Int32))), .int ((2 : Int32) + (x1 / (2 : Int32)))], [.int (0 : Int32)], σ)) (P := []) rfl trivial ?_
      subst h
      exact mm_rt_ ⟨_, _, _, rfl, ⟨_, _, rfl, rfl, rfl, rfl⟩⟩
  rw [show mm_tsw x0 89 5 [68, 80, 87] = mm_tsw x0 89 6 [80, 87] from mm_tsw_f b5]
  have h := h.2 b5
  by_cases b7 : x0 = nI 6
  · rw [show mm_tsw x0 89 6 [80, 87] = 80 from mm_tsw_t b7]
    have h := h.1 b7
    refine mm_blk (M := mm_m_X11_drinksBy) 5 (S' := (86, [.int x0, .int x1, .int x2, .int ((2 : Int32) + (x2 - x2 / (2 : Int32) * (2 : Int32))), .int ((2 : Int32) + (x1 / (2 : Int32)))], [.int (((2 : Int32) * ((2 : Int32) + (x1 / (2 : Int32)))) - (1 : Int32))], σ)) (P := []) rfl trivial ?_
    subst h
    exact mm_rt_ ⟨_, _, _, rfl, ⟨_, _, rfl, rfl, rfl, rfl⟩⟩
  rw [show mm_tsw x0 89 6 [80, 87] = mm_tsw x0 89 7 [87] from mm_tsw_f b7]
  have h := h.2 b7
  by_cases b8 : x0 = nI 7
  · rw [show mm_tsw x0 89 7 [87] = 87 from mm_tsw_t b8]
    have h := h.1 b8
    refine mm_blk (M := mm_m_X11_drinksBy) 1 (S' := (88, [.int x0, .int x1, .int x2, .int ((2 : Int32) + (x2 - x2 / (2 : Int32) * (2 : Int32))), .int ((2 : Int32) + (x1 / (2 : Int32)))], [.int (0 : Int32)], σ)) (P := []) rfl trivial ?_
    subst h
    exact mm_rt_ ⟨_, _, _, rfl, ⟨_, _, rfl, rfl, rfl, rfl⟩⟩
  rw [show mm_tsw x0 89 7 [87] = mm_tsw x0 89 8 [] from mm_tsw_f b8]
  have h := h.2 b8
  change mm_Go mm_m_X11_drinksBy (89, [.int x0, .int x1, .int x2, .int ((2 : Int32) + (x2 - x2 / (2 : Int32) * (2 : Int32))), .int ((2 : Int32) + (x1 / (2 : Int32)))], [], σ) R
  refine mm_blk (M := mm_m_X11_drinksBy) 1 (S' := (90, [.int x0, .int x1, .int x2, .int ((2 : Int32) + (x2 - x2 / (2 : Int32) * (2 : Int32))), .int ((2 : Int32) + (x1 / (2 : Int32)))], [.int (2 : Int32)], σ)) (P := []) rfl trivial ?_
  subst h
  exact mm_rt_ ⟨_, _, _, rfl, ⟨_, _, rfl, rfl, rfl, rfl⟩⟩
theorem sg_X10_digitsBehind_0 (σ : mm_Sg) (x0 : Int32) (R : Option Value × mm_Sg) (h : (((x0 = nI 98 → (R = (some (.int (3 : Int32)), σ))) ∧ (¬ (x0 = nI 98) → ((x0 = nI 99 → (R = (some (.int (0 : Int32)), σ))) ∧ (¬ (x0 = nI 99) → ((x0 = nI 100 → (R = (some (.int (2 : Int32)), σ))) ∧ (¬ (x0 = nI 100) → ((x0 = nI 101 → (R = (some (.int (0 : Int32)), σ))) ∧ (¬ (x0 = nI 101) → ((x0 = nI 102 → (R = (some (.int (0 : Int32)), σ))) ∧ (¬ (x0 = nI 102) → ((x0 = nI 103 → (R = (some (.int (0 : Int32)), σ))) ∧ (¬ (x0 = nI 103) → ((x0 = nI 104 → (R = (some (.int (0 : Int32)), σ))) ∧ (¬ (x0 = nI 104) → ((x0 = nI 105 → (R = (some (.int (0 : Int32)), σ))) ∧ (¬ (x0 = nI 105) → ((x0 = nI 106 → (R = (some (.int (0 : Int32)), σ))) ∧ (¬ (x0 = nI 106) → ((x0 = nI 107 → (R = (some (.int (3 : Int32)), σ))) ∧ (¬ (x0 = nI 107) → ((x0 = nI 108 → (R = (some (.int (0 : Int32)), σ))) ∧ (¬ (x0 = nI 108) → ((x0 = nI 109 → (R = (some (.int (0 : Int32)), σ))) ∧ (¬ (x0 = nI 109) → ((x0 = nI 110 → (R = (some (.int (0 : Int32)), σ))) ∧ (¬ (x0 = nI 110) → ((x0 = nI 111 → (R = (some (.int (3 : Int32)), σ))) ∧ (¬ (x0 = nI 111) → ((x0 = nI 112 → (R = (some (.int (0 : Int32)), σ))) ∧ (¬ (x0 = nI 112) → ((x0 = nI 113 → (R = (some (.int (0 : Int32)), σ))) ∧ (¬ (x0 = nI 113) → ((x0 = nI 114 → (R = (some (.int (0 : Int32)), σ))) ∧ (¬ (x0 = nI 114) → ((x0 = nI 115 → (R = (some (.int (0 : Int32)), σ))) ∧ (¬ (x0 = nI 115) → ((x0 = nI 116 → (R = (some (.int (3 : Int32)), σ))) ∧ (¬ (x0 = nI 116) → ((x0 = nI 117 → (R = (some (.int (0 : Int32)), σ))) ∧ (¬ (x0 = nI 117) → ((x0 = nI 118 → (R = (some (.int (0 : Int32)), σ))) ∧ (¬ (x0 = nI 118) → ((x0 = nI 119 → (R = (some (.int (2 : Int32)), σ))) ∧ (¬ (x0 = nI 119) → ((x0 = nI 120 → (R = (some (.int (0 : Int32)), σ))) ∧ (¬ (x0 = nI 120) → ((x0 = nI 121 → (R = (some (.int (0 : Int32)), σ))) ∧ (¬ (x0 = nI 121) → ((x0 = nI 122 → (R = (some (.int (1 : Int32)), σ))) ∧ (¬ (x0 = nI 122) → (R = (some (.int (0 : Int32)), σ)))))))))))))))))))))))))))))))))))))))))))))))))))))) : mm_Go mm_m_X10_digitsBehind (0, [.int x0], [], σ) R := by
  refine mm_blk (M := mm_m_X10_digitsBehind) 2 (S' := ((mm_tsw x0 122 98 [120, 122, 118, 122, 122, 122, 122, 122, 122, 120, 122, 122, 122, 120, 122, 122, 122, 122, 120, 122, 122, 118, 122, 122, 116]), [.int x0], [], σ)) (P := []) rfl trivial ?_
  by_cases b1 : x0 = nI 98
  · rw [show mm_tsw x0 122 98 [120, 122, 118, 122, 122, 122, 122, 122, 122, 120, 122, 122, 122, 120, 122, 122, 122, 122, 120, 122, 122, 118, 122, 122, 116] = 120 from mm_tsw_t b1]
    have h := h.1 b1
    refine mm_blk (M := mm_m_X10_digitsBehind) 1 (S' := (121, [.int x0], [.int (3 : Int32)], σ)) (P := []) rfl trivial ?_
    subst h
    exact mm_rt_ ⟨_, _, _, rfl, ⟨_, _, rfl, rfl, rfl, rfl⟩⟩
  rw [show mm_tsw x0 122 98 [120, 122, 118, 122, 122, 122, 122, 122, 122, 120, 122, 122, 122, 120, 122, 122, 122, 122, 120, 122, 122, 118, 122, 122, 116] = mm_tsw x0 122 99 [122, 118, 122, 122, 122, 122, 122, 122, 120, 122, 122, 122, 120, 122, 122, 122, 122, 120, 122, 122, 118, 122, 122, 116] from mm_tsw_f b1]
  have h := h.2 b1
  by_cases b2 : x0 = nI 99
  · rw [show mm_tsw x0 122 99 [122, 118, 122, 122, 122, 122, 122, 122, 120, 122, 122, 122, 120, 122, 122, 122, 122, 120, 122, 122, 118, 122, 122, 116] = 122 from mm_tsw_t b2]
    have h := h.1 b2
    refine mm_blk (M := mm_m_X10_digitsBehind) 1 (S' := (123, [.int x0], [.int (0 : Int32)], σ)) (P := []) rfl trivial ?_
    subst h
    exact mm_rt_ ⟨_, _, _, rfl, ⟨_, _, rfl, rfl, rfl, rfl⟩⟩
  rw [show mm_tsw x0 122 99 [122, 118, 122, 122, 122, 122, 122, 122, 120, 122, 122, 122, 120, 122, 122, 122, 122, 120, 122, 122, 118, 122, 122, 116] = mm_tsw x0 122 100 [118, 122, 122, 122, 122, 122, 122, 120, 122, 122, 122, 120, 122, 122, 122, 122, 120, 122, 122, 118, 122, 122, 116] from mm_tsw_f b2]
  have h := h.2 b2
  by_cases b3 : x0 = nI 100
  · rw [show mm_tsw x0 122 100 [118, 122, 122, 122, 122, 122, 122, 120, 122, 122, 122, 120, 122, 122, 122, 122, 120, 122, 122, 118, 122, 122, 116] = 118 from mm_tsw_t b3]
    have h := h.1 b3
    refine mm_blk (M := mm_m_X10_digitsBehind) 1 (S' := (119, [.int x0], [.int (2 : Int32)], σ)) (P := []) rfl trivial ?_
    subst h
    exact mm_rt_ ⟨_, _, _, rfl, ⟨_, _, rfl, rfl, rfl, rfl⟩⟩
  rw [show mm_tsw x0 122 100 [118, 122, 122, 122, 122, 122, 122, 120, 122, 122, 122, 120, 122, 122, 122, 122, 120, 122, 122, 118, 122, 122, 116] = mm_tsw x0 122 101 [122, 122, 122, 122, 122, 122, 120, 122, 122, 122, 120, 122, 122, 122, 122, 120, 122, 122, 118, 122, 122, 116] from mm_tsw_f b3]
  have h := h.2 b3
  by_cases b4 : x0 = nI 101
  · rw [show mm_tsw x0 122 101 [122, 122, 122, 122, 122, 122, 120, 122, 122, 122, 120, 122, 122, 122, 122, 120, 122, 122, 118, 122, 122, 116] = 122 from mm_tsw_t b4]
    have h := h.1 b4
    refine mm_blk (M := mm_m_X10_digitsBehind) 1 (S' := (123, [.int x0], [.int (0 : Int32)], σ)) (P := []) rfl trivial ?_
    subst h
    exact mm_rt_ ⟨_, _, _, rfl, ⟨_, _, rfl, rfl, rfl, rfl⟩⟩
  rw [show mm_tsw x0 122 101 [122, 122, 122, 122, 122, 122, 120, 122, 122, 122, 120, 122, 122, 122, 122, 120, 122, 122, 118, 122, 122, 116] = mm_tsw x0 122 102 [122, 122, 122, 122, 122, 120, 122, 122, 122, 120, 122, 122, 122, 122, 120, 122, 122, 118, 122, 122, 116] from mm_tsw_f b4]
  have h := h.2 b4
  by_cases b5 : x0 = nI 102
  · rw [show mm_tsw x0 122 102 [122, 122, 122, 122, 122, 120, 122, 122, 122, 120, 122, 122, 122, 122, 120, 122, 122, 118, 122, 122, 116] = 122 from mm_tsw_t b5]
    have h := h.1 b5
    refine mm_blk (M := mm_m_X10_digitsBehind) 1 (S' := (123, [.int x0], [.int (0 : Int32)], σ)) (P := []) rfl trivial ?_
    subst h
    exact mm_rt_ ⟨_, _, _, rfl, ⟨_, _, rfl, rfl, rfl, rfl⟩⟩
  rw [show mm_tsw x0 122 102 [122, 122, 122, 122, 122, 120, 122, 122, 122, 120, 122, 122, 122, 122, 120, 122, 122, 118, 122, 122, 116] = mm_tsw x0 122 103 [122, 122, 122, 122, 120, 122, 122, 122, 120, 122, 122, 122, 122, 120, 122, 122, 118, 122, 122, 116] from mm_tsw_f b5]
  have h := h.2 b5
  by_cases b6 : x0 = nI 103
  · rw [show mm_tsw x0 122 103 [122, 122, 122, 122, 120, 122, 122, 122, 120, 122, 122, 122, 122, 120, 122, 122, 118, 122, 122, 116] = 122 from mm_tsw_t b6]
    have h := h.1 b6
    refine mm_blk (M := mm_m_X10_digitsBehind) 1 (S' := (123, [.int x0], [.int (0 : Int32)], σ)) (P := []) rfl trivial ?_
    subst h
    exact mm_rt_ ⟨_, _, _, rfl, ⟨_, _, rfl, rfl, rfl, rfl⟩⟩
  rw [show mm_tsw x0 122 103 [122, 122, 122, 122, 120, 122, 122, 122, 120, 122, 122, 122, 122, 120, 122, 122, 118, 122, 122, 116] = mm_tsw x0 122 104 [122, 122, 122, 120, 122, 122, 122, 120, 122, 122, 122, 122, 120, 122, 122, 118, 122, 122, 116] from mm_tsw_f b6]
  have h := h.2 b6
  by_cases b7 : x0 = nI 104
  · rw [show mm_tsw x0 122 104 [122, 122, 122, 120, 122, 122, 122, 120, 122, 122, 122, 122, 120, 122, 122, 118, 122, 122, 116] = 122 from mm_tsw_t b7]
    have h := h.1 b7
    refine mm_blk (M := mm_m_X10_digitsBehind) 1 (S' := (123, [.int x0], [.int (0 : Int32)], σ)) (P := []) rfl trivial ?_
    subst h
    exact mm_rt_ ⟨_, _, _, rfl, ⟨_, _, rfl, rfl, rfl, rfl⟩⟩
  rw [show mm_tsw x0 122 104 [122, 122, 122, 120, 122, 122, 122, 120, 122, 122, 122, 122, 120, 122, 122, 118, 122, 122, 116] = mm_tsw x0 122 105 [122, 122, 120, 122, 122, 122, 120, 122, 122, 122, 122, 120, 122, 122, 118, 122, 122, 116] from mm_tsw_f b7]
  have h := h.2 b7
  by_cases b8 : x0 = nI 105
  · rw [show mm_tsw x0 122 105 [122, 122, 120, 122, 122, 122, 120, 122, 122, 122, 122, 120, 122, 122, 118, 122, 122, 116] = 122 from mm_tsw_t b8]
    have h := h.1 b8
    refine mm_blk (M := mm_m_X10_digitsBehind) 1 (S' := (123, [.int x0], [.int (0 : Int32)], σ)) (P := []) rfl trivial ?_
    subst h
    exact mm_rt_ ⟨_, _, _, rfl, ⟨_, _, rfl, rfl, rfl, rfl⟩⟩
  rw [show mm_tsw x0 122 105 [122, 122, 120, 122, 122, 122, 120, 122, 122, 122, 122, 120, 122, 122, 118, 122, 122, 116] = mm_tsw x0 122 106 [122, 120, 122, 122, 122, 120, 122, 122, 122, 122, 120, 122, 122, 118, 122, 122, 116] from mm_tsw_f b8]
  have h := h.2 b8
  by_cases b9 : x0 = nI 106
  · rw [show mm_tsw x0 122 106 [122, 120, 122, 122, 122, 120, 122, 122, 122, 122, 120, 122, 122, 118, 122, 122, 116] = 122 from mm_tsw_t b9]
    have h := h.1 b9
    refine mm_blk (M := mm_m_X10_digitsBehind) 1 (S' := (123, [.int x0], [.int (0 : Int32)], σ)) (P := []) rfl trivial ?_
    subst h
    exact mm_rt_ ⟨_, _, _, rfl, ⟨_, _, rfl, rfl, rfl, rfl⟩⟩
  rw [show mm_tsw x0 122 106 [122, 120, 122, 122, 122, 120, 122, 122, 122, 122, 120, 122, 122, 118, 122, 122, 116] = mm_tsw x0 122 107 [120, 122, 122, 122, 120, 122, 122, 122, 122, 120, 122, 122, 118, 122, 122, 116] from mm_tsw_f b9]
  have h := h.2 b9
  by_cases b10 : x0 = nI 107
  · rw [show mm_tsw x0 122 107 [120, 122, 122, 122, 120, 122, 122, 122, 122, 120, 122, 122, 118, 122, 122, 116] = 120 from mm_tsw_t b10]
    have h := h.1 b10
    refine mm_blk (M := mm_m_X10_digitsBehind) 1 (S' := (121, [.int x0], [.int (3 : Int32)], σ)) (P := []) rfl trivial ?_
    subst h
    exact mm_rt_ ⟨_, _, _, rfl, ⟨_, _, rfl, rfl, rfl, rfl⟩⟩
  rw [show mm_tsw x0 122 107 [120, 122, 122, 122, 120, 122, 122, 122, 122, 120, 122, 122, 118, 122, 122, 116] = mm_tsw x0 122 108 [122, 122, 122, 120, 122, 122, 122, 122, 120, 122, 122, 118, 122, 122, 116] from mm_tsw_f b10]
  have h := h.2 b10
  by_cases b11 : x0 = nI 108
  · rw [show mm_tsw x0 122 108 [122, 122, 122, 120, 122, 122, 122, 122, 120, 122, 122, 118, 122, 122, 116] = 122 from mm_tsw_t b11]
    have h := h.1 b11
    refine mm_blk (M := mm_m_X10_digitsBehind) 1 (S' := (123, [.int x0], [.int (0 : Int32)], σ)) (P := []) rfl trivial ?_
    subst h
    exact mm_rt_ ⟨_, _, _, rfl, ⟨_, _, rfl, rfl, rfl, rfl⟩⟩
  rw [show mm_tsw x0 122 108 [122, 122, 122, 120, 122, 122, 122, 122, 120, 122, 122, 118, 122, 122, 116] = mm_tsw x0 122 109 [122, 122, 120, 122, 122, 122, 122, 120, 122, 122, 118, 122, 122, 116] from mm_tsw_f b11]
  have h := h.2 b11
  by_cases b12 : x0 = nI 109
  · rw [show mm_tsw x0 122 109 [122, 122, 120, 122, 122, 122, 122, 120, 122, 122, 118, 122, 122, 116] = 122 from mm_tsw_t b12]
    have h := h.1 b12
    refine mm_blk (M := mm_m_X10_digitsBehind) 1 (S' := (123, [.int x0], [.int (0 : Int32)], σ)) (P := []) rfl trivial ?_
    subst h
    exact mm_rt_ ⟨_, _, _, rfl, ⟨_, _, rfl, rfl, rfl, rfl⟩⟩
  rw [show mm_tsw x0 122 109 [122, 122, 120, 122, 122, 122, 122, 120, 122, 122, 118, 122, 122, 116] = mm_tsw x0 122 110 [122, 120, 122, 122, 122, 122, 120, 122, 122, 118, 122, 122, 116] from mm_tsw_f b12]
  have h := h.2 b12
  by_cases b13 : x0 = nI 110
  · rw [show mm_tsw x0 122 110 [122, 120, 122, 122, 122, 122, 120, 122, 122, 118, 122, 122, 116] = 122 from mm_tsw_t b13]
    have h := h.1 b13
    refine mm_blk (M := mm_m_X10_digitsBehind) 1 (S' := (123, [.int x0], [.int (0 : Int32)], σ)) (P := []) rfl trivial ?_
    subst h
    exact mm_rt_ ⟨_, _, _, rfl, ⟨_, _, rfl, rfl, rfl, rfl⟩⟩
  rw [show mm_tsw x0 122 110 [122, 120, 122, 122, 122, 122, 120, 122, 122, 118, 122, 122, 116] = mm_tsw x0 122 111 [120, 122, 122, 122, 122, 120, 122, 122, 118, 122, 122, 116] from mm_tsw_f b13]
  have h := h.2 b13
  by_cases b14 : x0 = nI 111
  · rw [show mm_tsw x0 122 111 [120, 122, 122, 122, 122, 120, 122, 122, 118, 122, 122, 116] = 120 from mm_tsw_t b14]
    have h := h.1 b14
    refine mm_blk (M := mm_m_X10_digitsBehind) 1 (S' := (121, [.int x0], [.int (3 : Int32)], σ)) (P := []) rfl trivial ?_
    subst h
    exact mm_rt_ ⟨_, _, _, rfl, ⟨_, _, rfl, rfl, rfl, rfl⟩⟩
  rw [show mm_tsw x0 122 111 [120, 122, 122, 122, 122, 120, 122, 122, 118, 122, 122, 116] = mm_tsw x0 122 112 [122, 122, 122, 122, 120, 122, 122, 118, 122, 122, 116] from mm_tsw_f b14]
  have h := h.2 b14
  by_cases b15 : x0 = nI 112
  · rw [show mm_tsw x0 122 112 [122, 122, 122, 122, 120, 122, 122, 118, 122, 122, 116] = 122 from mm_tsw_t b15]
    have h := h.1 b15
    refine mm_blk (M := mm_m_X10_digitsBehind) 1 (S' := (123, [.int x0], [.int (0 : Int32)], σ)) (P := []) rfl trivial ?_
    subst h
    exact mm_rt_ ⟨_, _, _, rfl, ⟨_, _, rfl, rfl, rfl, rfl⟩⟩
  rw [show mm_tsw x0 122 112 [122, 122, 122, 122, 120, 122, 122, 118, 122, 122, 116] = mm_tsw x0 122 113 [122, 122, 122, 120, 122, 122, 118, 122, 122, 116] from mm_tsw_f b15]
  have h := h.2 b15
  by_cases b16 : x0 = nI 113
  · rw [show mm_tsw x0 122 113 [122, 122, 122, 120, 122, 122, 118, 122, 122, 116] = 122 from mm_tsw_t b16]
    have h := h.1 b16
    refine mm_blk (M := mm_m_X10_digitsBehind) 1 (S' := (123, [.int x0], [.int (0 : Int32)], σ)) (P := []) rfl trivial ?_
    subst h
    exact mm_rt_ ⟨_, _, _, rfl, ⟨_, _, rfl, rfl, rfl, rfl⟩⟩
  rw [show mm_tsw x0 122 113 [122, 122, 122, 120, 122, 122, 118, 122, 122, 116] = mm_tsw x0 122 114 [122, 122, 120, 122, 122, 118, 122, 122, 116] from mm_tsw_f b16]
  have h := h.2 b16
  by_cases b17 : x0 = nI 114
  · rw [show mm_tsw x0 122 114 [122, 122, 120, 122, 122, 118, 122, 122, 116] = 122 from mm_tsw_t b17]
    have h := h.1 b17
    refine mm_blk (M := mm_m_X10_digitsBehind) 1 (S' := (123, [.int x0], [.int (0 : Int32)], σ)) (P := []) rfl trivial ?_
    subst h
    exact mm_rt_ ⟨_, _, _, rfl, ⟨_, _, rfl, rfl, rfl, rfl⟩⟩
  rw [show mm_tsw x0 122 114 [122, 122, 120, 122, 122, 118, 122, 122, 116] = mm_tsw x0 122 115 [122, 120, 122, 122, 118, 122, 122, 116] from mm_tsw_f b17]
  have h := h.2 b17
  by_cases b18 : x0 = nI 115
  · rw [show mm_tsw x0 122 115 [122, 120, 122, 122, 118, 122, 122, 116] = 122 from mm_tsw_t b18]
    have h := h.1 b18
    refine mm_blk (M := mm_m_X10_digitsBehind) 1 (S' := (123, [.int x0], [.int (0 : Int32)], σ)) (P := []) rfl trivial ?_
    subst h
    exact mm_rt_ ⟨_, _, _, rfl, ⟨_, _, rfl, rfl, rfl, rfl⟩⟩
  rw [show mm_tsw x0 122 115 [122, 120, 122, 122, 118, 122, 122, 116] = mm_tsw x0 122 116 [120, 122, 122, 118, 122, 122, 116] from mm_tsw_f b18]
  have h := h.2 b18
  by_cases b19 : x0 = nI 116
  · rw [show mm_tsw x0 122 116 [120, 122, 122, 118, 122, 122, 116] = 120 from mm_tsw_t b19]
    have h := h.1 b19
    refine mm_blk (M := mm_m_X10_digitsBehind) 1 (S' := (121, [.int x0], [.int (3 : Int32)], σ)) (P := []) rfl trivial ?_
    subst h
    exact mm_rt_ ⟨_, _, _, rfl, ⟨_, _, rfl, rfl, rfl, rfl⟩⟩
  rw [show mm_tsw x0 122 116 [120, 122, 122, 118, 122, 122, 116] = mm_tsw x0 122 117 [122, 122, 118, 122, 122, 116] from mm_tsw_f b19]
  have h := h.2 b19
  by_cases b20 : x0 = nI 117
  · rw [show mm_tsw x0 122 117 [122, 122, 118, 122, 122, 116] = 122 from mm_tsw_t b20]
    have h := h.1 b20
    refine mm_blk (M := mm_m_X10_digitsBehind) 1 (S' := (123, [.int x0], [.int (0 : Int32)], σ)) (P := []) rfl trivial ?_
    subst h
    exact mm_rt_ ⟨_, _, _, rfl, ⟨_, _, rfl, rfl, rfl, rfl⟩⟩
  rw [show mm_tsw x0 122 117 [122, 122, 118, 122, 122, 116] = mm_tsw x0 122 118 [122, 118, 122, 122, 116] from mm_tsw_f b20]
  have h := h.2 b20
  by_cases b21 : x0 = nI 118
  · rw [show mm_tsw x0 122 118 [122, 118, 122, 122, 116] = 122 from mm_tsw_t b21]
    have h := h.1 b21
    refine mm_blk (M := mm_m_X10_digitsBehind) 1 (S' := (123, [.int x0], [.int (0 : Int32)], σ)) (P := []) rfl trivial ?_
    subst h
    exact mm_rt_ ⟨_, _, _, rfl, ⟨_, _, rfl, rfl, rfl, rfl⟩⟩
  rw [show mm_tsw x0 122 118 [122, 118, 122, 122, 116] = mm_tsw x0 122 119 [118, 122, 122, 116] from mm_tsw_f b21]
  have h := h.2 b21
  by_cases b22 : x0 = nI 119
  · rw [show mm_tsw x0 122 119 [118, 122, 122, 116] = 118 from mm_tsw_t b22]
    have h := h.1 b22
    refine mm_blk (M := mm_m_X10_digitsBehind) 1 (S' := (119, [.int x0], [.int (2 : Int32)], σ)) (P := []) rfl trivial ?_
    subst h
    exact mm_rt_ ⟨_, _, _, rfl, ⟨_, _, rfl, rfl, rfl, rfl⟩⟩
  rw [show mm_tsw x0 122 119 [118, 122, 122, 116] = mm_tsw x0 122 120 [122, 122, 116] from mm_tsw_f b22]
  have h := h.2 b22
  by_cases b23 : x0 = nI 120
  · rw [show mm_tsw x0 122 120 [122, 122, 116] = 122 from mm_tsw_t b23]
    have h := h.1 b23
    refine mm_blk (M := mm_m_X10_digitsBehind) 1 (S' := (123, [.int x0], [.int (0 : Int32)], σ)) (P := []) rfl trivial ?_
    subst h
    exact mm_rt_ ⟨_, _, _, rfl, ⟨_, _, rfl, rfl, rfl, rfl⟩⟩
  rw [show mm_tsw x0 122 120 [122, 122, 116] = mm_tsw x0 122 121 [122, 116] from mm_tsw_f b23]
  have h := h.2 b23
  by_cases b24 : x0 = nI 121
  · rw [show mm_tsw x0 122 121 [122, 116] = 122 from mm_tsw_t b24]
    have h := h.1 b24
    refine mm_blk (M := mm_m_X10_digitsBehind) 1 (S' := (123, [.int x0], [.int (0 : Int32)], σ)) (P := []) rfl trivial ?_
    subst h
    exact mm_rt_ ⟨_, _, _, rfl, ⟨_, _, rfl, rfl, rfl, rfl⟩⟩
  rw [show mm_tsw x0 122 121 [122, 116] = mm_tsw x0 122 122 [116] from mm_tsw_f b24]
  have h := h.2 b24
  by_cases b25 : x0 = nI 122
  · rw [show mm_tsw x0 122 122 [116] = 116 from mm_tsw_t b25]
    have h := h.1 b25
    refine mm_blk (M := mm_m_X10_digitsBehind) 1 (S' := (117, [.int x0], [.int (1 : Int32)], σ)) (P := []) rfl trivial ?_
    subst h
    exact mm_rt_ ⟨_, _, _, rfl, ⟨_, _, rfl, rfl, rfl, rfl⟩⟩
  rw [show mm_tsw x0 122 122 [116] = mm_tsw x0 122 123 [] from mm_tsw_f b25]
  have h := h.2 b25
  change mm_Go mm_m_X10_digitsBehind (122, [.int x0], [], σ) R
  refine mm_blk (M := mm_m_X10_digitsBehind) 1 (S' := (123, [.int x0], [.int (0 : Int32)], σ)) (P := []) rfl trivial ?_
  subst h
  exact mm_rt_ ⟨_, _, _, rfl, ⟨_, _, rfl, rfl, rfl, rfl⟩⟩
theorem sg_X11_day_0 (σ : mm_Sg) (q1 : Nat) (R : Option Value × mm_Sg) (h : ((vp_in (1 : Int32) (mm_len q1)) ∧ ∀ σ2 : mm_Sg, σ2 = mm_u σ q1 1 ((σ q1 1) + (1 : Int32)) → mm_Go mm_m_X11_day (9, [.ref 51, .ref q1, .int (0 : Int32)], [], σ2) R)) : mm_Go mm_m_X11_day (0, [.ref 51, .ref q1, .null], [], σ) R := by
  obtain ⟨c1, h⟩ := h
  refine mm_blk (M := mm_m_X11_day) 7 (S' := (7, [.ref 51, .ref q1, .null], [], mm_u σ q1 1 ((σ q1 1) + (1 : Int32)))) (P := [vp_in (1 : Int32) (mm_len q1), vp_in (1 : Int32) (mm_len q1)]) rfl ⟨c1, c1, trivial⟩ ?_
  obtain ⟨σ2, e3⟩ : ∃ z, z = mm_u σ q1 1 ((σ q1 1) + (1 : Int32)) := ⟨_, rfl⟩
  rw [← e3]
  have h := h σ2 e3
  refine mm_blk (M := mm_m_X11_day) 2 (S' := (9, [.ref 51, .ref q1, .int (0 : Int32)], [], σ2)) (P := []) rfl trivial ?_
  exact h
theorem sg_X11_day_9 (σ : mm_Sg) (q1 : Nat) (x2 : Int32) (R : Option Value × mm_Sg) (h : ((((5 : Int32) ≤ x2 → mm_Go mm_m_X11_day (27, [.ref 51, .ref q1, .int (0 : Int32)], [], σ) R) ∧ (¬ ((5 : Int32) ≤ x2) → (∃ (σ2 : mm_Sg), mm_Ev mm_m_X11_wakesUp [.ref q1, .int x2] σ none σ2 ∧ mm_Go mm_m_X11_day (9, [.ref 51, .ref q1, .int (x2 + (1 : Int32))], [], σ2) R))))) : mm_Go mm_m_X11_day (9, [.ref 51, .ref q1, .int x2], [], σ) R := by
  refine mm_blk (M := mm_m_X11_day) 3 (S' := ((if (5 : Int32) ≤ x2 then 25 else 14), [.ref 51, .ref q1, .int x2], [], σ)) (P := []) rfl trivial ?_
  by_cases b1 : (5 : Int32) ≤ x2
  · rw [if_pos b1]
    have h := h.1 b1
    refine mm_blk (M := mm_m_X11_day) 2 (S' := (27, [.ref 51, .ref q1, .int (0 : Int32)], [], σ)) (P := []) rfl trivial ?_
    exact h
  · rw [if_neg b1]
    have h := h.2 b1
    refine mm_blk (M := mm_m_X11_day) 2 (S' := (16, [.ref 51, .ref q1, .int x2], [.int x2, .ref q1], σ)) (P := []) rfl trivial ?_
    obtain ⟨σ2, e3, h⟩ := h
    refine mm_cl_ (rest := []) e3 ⟨_, _, _, rfl, rfl, mm_tb_X11_wakesUp, rfl, rfl, Nat.le_of_ble_eq_true rfl, Nat.le_of_ble_eq_true rfl, trivial⟩ ?_
    refine mm_blk (M := mm_m_X11_day) 2 (S' := (9, [.ref 51, .ref q1, .int (x2 + (1 : Int32))], [], σ2)) (P := []) rfl trivial ?_
    exact h
theorem sg_X11_day_27 (σ : mm_Sg) (q1 : Nat) (x2 : Int32) (R : Option Value × mm_Sg) (h : ((vp_in (0 : Int32) (mm_len q1)) ∧ (((σ q1 0) ≤ x2 → mm_Go mm_m_X11_day (48, [.ref 51, .ref q1, .int (0 : Int32)], [], σ) R) ∧ (¬ ((σ q1 0) ≤ x2) → (∃ (σ3 : mm_Sg), mm_Ev mm_m_X11_drinks [.ref 51, .ref q1, .int x2] σ none σ3 ∧ mm_Go mm_m_X11_day (27, [.ref 51, .ref q1, .int (x2 + (1 : Int32))], [], σ3) R))))) : mm_Go mm_m_X11_day (27, [.ref 51, .ref q1, .int x2], [], σ) R := by
  obtain ⟨c1, h⟩ := h
  refine mm_blk (M := mm_m_X11_day) 5 (S' := ((if (σ q1 0) ≤ x2 then 46 else 34), [.ref 51, .ref q1, .int x2], [], σ)) (P := [vp_in (0 : Int32) (mm_len q1)]) rfl ⟨c1, trivial⟩ ?_
  by_cases b2 : (σ q1 0) ≤ x2
  · rw [if_pos b2]
    have h := h.1 b2
    refine mm_blk (M := mm_m_X11_day) 2 (S' := (48, [.ref 51, .ref q1, .int (0 : Int32)], [], σ)) (P := []) rfl trivial ?_
    exact h
  · rw [if_neg b2]
    have h := h.2 b2
    refine mm_blk (M := mm_m_X11_day) 3 (S' := (37, [.ref 51, .ref q1, .int x2], [.int x2, .ref q1, .ref 51], σ)) (P := []) rfl trivial ?_
    obtain ⟨σ3, e4, h⟩ := h
    refine mm_cl_ (rest := []) e4 ⟨_, _, _, rfl, rfl, mm_tb_X11_drinks, rfl, rfl, Nat.le_of_ble_eq_true rfl, Nat.le_of_ble_eq_true rfl, ⟨_, rfl, rfl⟩⟩ ?_
    refine mm_blk (M := mm_m_X11_day) 2 (S' := (27, [.ref 51, .ref q1, .int (x2 + (1 : Int32))], [], σ3)) (P := []) rfl trivial ?_
    exact h
theorem sg_X11_day_48 (σ : mm_Sg) (q1 : Nat) (x2 : Int32) (R : Option Value × mm_Sg) (h : ((((5 : Int32) ≤ x2 → (R = (none, σ))) ∧ (¬ ((5 : Int32) ≤ x2) → (∃ (σ2 : mm_Sg), mm_Ev mm_m_X11_liesDown [.ref q1, .int x2] σ none σ2 ∧ mm_Go mm_m_X11_day (48, [.ref 51, .ref q1, .int (x2 + (1 : Int32))], [], σ2) R))))) : mm_Go mm_m_X11_day (48, [.ref 51, .ref q1, .int x2], [], σ) R := by
  refine mm_blk (M := mm_m_X11_day) 3 (S' := ((if (5 : Int32) ≤ x2 then 64 else 53), [.ref 51, .ref q1, .int x2], [], σ)) (P := []) rfl trivial ?_
  by_cases b1 : (5 : Int32) ≤ x2
  · rw [if_pos b1]
    have h := h.1 b1
    subst h
    exact mm_rt_ ⟨_, _, _, rfl, ⟨rfl, rfl, rfl⟩⟩
  · rw [if_neg b1]
    have h := h.2 b1
    refine mm_blk (M := mm_m_X11_day) 2 (S' := (55, [.ref 51, .ref q1, .int x2], [.int x2, .ref q1], σ)) (P := []) rfl trivial ?_
    obtain ⟨σ2, e3, h⟩ := h
    refine mm_cl_ (rest := []) e3 ⟨_, _, _, rfl, rfl, mm_tb_X11_liesDown, rfl, rfl, Nat.le_of_ble_eq_true rfl, Nat.le_of_ble_eq_true rfl, trivial⟩ ?_
    refine mm_blk (M := mm_m_X11_day) 2 (S' := (48, [.ref 51, .ref q1, .int (x2 + (1 : Int32))], [], σ2)) (P := []) rfl trivial ?_
    exact h
theorem sg_J7_fill_53178_0 (σ : mm_Sg) (q0 : Nat) (x1 : Int32) (R : Option Value × mm_Sg) (h : ((0 < mm_len q0) ∧ mm_Go mm_m_J7_fill_53178 (5, [.ref q0, .int x1, .int (0 : Int32), .int (nI (mm_len q0))], [], σ) R)) : mm_Go mm_m_J7_fill_53178 (0, [.ref q0, .int x1, .null, .null], [], σ) R := by
  obtain ⟨c1, h⟩ := h
  refine mm_blk (M := mm_m_J7_fill_53178) 5 (S' := (5, [.ref q0, .int x1, .int (0 : Int32), .int (nI (mm_len q0))], [], σ)) (P := [0 < mm_len q0]) rfl ⟨c1, trivial⟩ ?_
  exact h
theorem sg_J7_fill_53178_5 (σ : mm_Sg) (q0 : Nat) (x1 : Int32) (x2 : Int32) (x3 : Int32) (R : Option Value × mm_Sg) (h : (((x3 ≤ x2 → (R = (none, σ))) ∧ (¬ (x3 ≤ x2) → ((vp_in x2 (mm_len q0)) ∧ ∀ σ3 : mm_Sg, σ3 = mm_u σ q0 x2.toNatClampNeg x1 → mm_Go mm_m_J7_fill_53178 (5, [.ref q0, .int x1, .int (x2 + (1 : Int32)), .int x3], [], σ3) R))))) : mm_Go mm_m_J7_fill_53178 (5, [.ref q0, .int x1, .int x2, .int x3], [], σ) R := by
  refine mm_blk (M := mm_m_J7_fill_53178) 3 (S' := ((if x3 ≤ x2 then 20 else 10), [.ref q0, .int x1, .int x2, .int x3], [], σ)) (P := []) rfl trivial ?_
  by_cases b1 : x3 ≤ x2
  · rw [if_pos b1]
    have h := h.1 b1
    subst h
    exact mm_rt_ ⟨_, _, _, rfl, ⟨rfl, rfl, rfl⟩⟩
  · rw [if_neg b1]
    have h := h.2 b1
    obtain ⟨c2, h⟩ := h
    refine mm_blk (M := mm_m_J7_fill_53178) 4 (S' := (14, [.ref q0, .int x1, .int x2, .int x3], [], mm_u σ q0 x2.toNatClampNeg x1)) (P := [vp_in x2 (mm_len q0)]) rfl ⟨c2, trivial⟩ ?_
    obtain ⟨σ3, e4⟩ : ∃ z, z = mm_u σ q0 x2.toNatClampNeg x1 := ⟨_, rfl⟩
    rw [← e4]
    have h := h σ3 e4
    refine mm_blk (M := mm_m_J7_fill_53178) 2 (S' := (5, [.ref q0, .int x1, .int (x2 + (1 : Int32)), .int x3], [], σ3)) (P := []) rfl trivial ?_
    exact h
theorem sg_X11_falls_0 (σ : mm_Sg) (x1 : Int32) (x2 : Int32) (x3 : Int32) (x4 : Int32) (R : Option Value × mm_Sg) (h : (∃ (v3 : Int32) (σ1 : mm_Sg), mm_Ev mm_m_X11_isIn [.int x1, .int (0 : Int32), .int (7 : Int32)] σ (some (.int v3)) σ1 ∧ (((v3 = (0 : Int32) → (R = (some (.long (1000000001 : Int64)), σ1))) ∧ (¬ (v3 = (0 : Int32)) → (∃ (v7 : Int32) (σ5 : mm_Sg), mm_Ev mm_m_X11_isIn [.int x2, .int (2 : Int32), .int (20 : Int32)] σ1 (some (.int v7)) σ5 ∧ (((v7 = (0 : Int32) → (R = (some (.long (1000000001 : Int64)), σ5))) ∧ (¬ (v7 = (0 : Int32)) → (∃ (v11 : Int32) (σ9 : mm_Sg), mm_Ev mm_m_X11_isIn [.int x3, .int (0 : Int32), .int (999 : Int32)] σ5 (some (.int v11)) σ9 ∧ (((v11 = (0 : Int32) → (R = (some (.long (1000000001 : Int64)), σ9))) ∧ (¬ (v11 = (0 : Int32)) → (∃ (v15 : Int32) (σ13 : mm_Sg), mm_Ev mm_m_X11_isIn [.int x4, .int (0 : Int32), .int (1 : Int32)] σ9 (some (.int v15)) σ13 ∧ (((¬ v15 = (0 : Int32) → mm_Go mm_m_X11_falls (54, [.ref 51, .int x1, .int x2, .int x3, .int x4, .long (0 : Int64), .null, .long (1 : Int64), .null, .int (0 : Int32), .null, .null, .null], [], σ13) R) ∧ (¬ (¬ v15 = (0 : Int32)) → (R = (some (.long (1000000001 : Int64)), σ13))))))))))))))))))) : mm_Go mm_m_X11_falls (0, [.ref 51, .int x1, .int x2, .int x3, .int x4, .null, .null, .null, .null, .null, .null, .null, .null], [], σ) R := by
  refine mm_blk (M := mm_m_X11_falls) 3 (S' := (4, [.ref 51, .int x1, .int x2, .int x3, .int x4, .null, .null, .null, .null, .null, .null, .null, .null], [.int (7 : Int32), .int (0 : Int32), .int x1], σ)) (P := []) rfl trivial ?_
  obtain ⟨v3, σ1, e2, h⟩ := h
  refine mm_cl_ (rest := []) e2 ⟨_, _, _, rfl, rfl, mm_tb_X11_isIn, rfl, rfl, Nat.le_of_ble_eq_true rfl, Nat.le_of_ble_eq_true rfl, trivial⟩ ?_
  refine mm_blk (M := mm_m_X11_falls) 1 (S' := ((if v3 = (0 : Int32) then 41 else 10), [.ref 51, .int x1, .int x2, .int x3, .int x4, .null, .null, .null, .null, .null, .null, .null, .null], [], σ1)) (P := []) rfl trivial ?_
  by_cases b4 : v3 = (0 : Int32)
  · rw [if_pos b4]
    have h := h.1 b4
    refine mm_blk (M := mm_m_X11_falls) 1 (S' := (44, [.ref 51, .int x1, .int x2, .int x3, .int x4, .null, .null, .null, .null, .null, .null, .null, .null], [.long (1000000001 : Int64)], σ1)) (P := []) rfl trivial ?_
    subst h
    exact mm_rt_ ⟨_, _, _, rfl, ⟨_, rfl, rfl, rfl⟩⟩
  · rw [if_neg b4]
    have h := h.2 b4
    refine mm_blk (M := mm_m_X11_falls) 3 (S' := (14, [.ref 51, .int x1, .int x2, .int x3, .int x4, .null, .null, .null, .null, .null, .null, .null, .null], [.int (20 : Int32), .int (2 : Int32), .int x2], σ1)) (P := []) rfl trivial ?_
    obtain ⟨v7, σ5, e6, h⟩ := h
    refine mm_cl_ (rest := []) e6 ⟨_, _, _, rfl, rfl, mm_tb_X11_isIn, rfl, rfl, Nat.le_of_ble_eq_true rfl, Nat.le_of_ble_eq_true rfl, trivial⟩ ?_
    refine mm_blk (M := mm_m_X11_falls) 1 (S' := ((if v7 = (0 : Int32) then 41 else 20), [.ref 51, .int x1, .int x2, .int x3, .int x4, .null, .null, .null, .null, .null, .null, .null, .null], [], σ5)) (P := []) rfl trivial ?_
    by_cases b8 : v7 = (0 : Int32)
    · rw [if_pos b8]
      have h := h.1 b8
      refine mm_blk (M := mm_m_X11_falls) 1 (S' := (44, [.ref 51, .int x1, .int x2, .int x3, .int x4, .null, .null, .null, .null, .null, .null, .null, .null], [.long (1000000001 : Int64)], σ5)) (P := []) rfl trivial ?_
      subst h
      exact mm_rt_ ⟨_, _, _, rfl, ⟨_, rfl, rfl, rfl⟩⟩
    · rw [if_neg b8]
      have h := h.2 b8
      refine mm_blk (M := mm_m_X11_falls) 3 (S' := (25, [.ref 51, .int x1, .int x2, .int x3, .int x4, .null, .null, .null, .null, .null, .null, .null, .null], [.int (999 : Int32), .int (0 : Int32), .int x3], σ5)) (P := []) rfl trivial ?_
      obtain ⟨v11, σ9, e10, h⟩ := h
      refine mm_cl_ (rest := []) e10 ⟨_, _, _, rfl, rfl, mm_tb_X11_isIn, rfl, rfl, Nat.le_of_ble_eq_true rfl, Nat.le_of_ble_eq_true rfl, trivial⟩ ?_
      refine mm_blk (M := mm_m_X11_falls) 1 (S' := ((if v11 = (0 : Int32) then 41 else 31), [.ref 51, .int x1, .int x2, .int x3, .int x4, .null, .null, .null, .null, .null, .null, .null, .null], [], σ9)) (P := []) rfl trivial ?_
      by_cases b12 : v11 = (0 : Int32)
      · rw [if_pos b12]
        have h := h.1 b12
        refine mm_blk (M := mm_m_X11_falls) 1 (S' := (44, [.ref 51, .int x1, .int x2, .int x3, .int x4, .null, .null, .null, .null, .null, .null, .null, .null], [.long (1000000001 : Int64)], σ9)) (P := []) rfl trivial ?_
        subst h
        exact mm_rt_ ⟨_, _, _, rfl, ⟨_, rfl, rfl, rfl⟩⟩
      · rw [if_neg b12]
        have h := h.2 b12
        refine mm_blk (M := mm_m_X11_falls) 3 (S' := (35, [.ref 51, .int x1, .int x2, .int x3, .int x4, .null, .null, .null, .null, .null, .null, .null, .null], [.int (1 : Int32), .int (0 : Int32), .int x4], σ9)) (P := []) rfl trivial ?_
        obtain ⟨v15, σ13, e14, h⟩ := h
        refine mm_cl_ (rest := []) e14 ⟨_, _, _, rfl, rfl, mm_tb_X11_isIn, rfl, rfl, Nat.le_of_ble_eq_true rfl, Nat.le_of_ble_eq_true rfl, trivial⟩ ?_
        refine mm_blk (M := mm_m_X11_falls) 1 (S' := ((if ¬ v15 = (0 : Int32) then 45 else 41), [.ref 51, .int x1, .int x2, .int x3, .int x4, .null, .null, .null, .null, .null, .null, .null, .null], [], σ13)) (P := []) rfl trivial ?_
        by_cases b16 : ¬ v15 = (0 : Int32)
        · rw [if_pos b16]
          have h := h.1 b16
          refine mm_blk (M := mm_m_X11_falls) 6 (S' := (54, [.ref 51, .int x1, .int x2, .int x3, .int x4, .long (0 : Int64), .null, .long (1 : Int64), .null, .int (0 : Int32), .null, .null, .null], [], σ13)) (P := []) rfl trivial ?_
          exact h
        · rw [if_neg b16]
          have h := h.2 b16
          refine mm_blk (M := mm_m_X11_falls) 1 (S' := (44, [.ref 51, .int x1, .int x2, .int x3, .int x4, .null, .null, .null, .null, .null, .null, .null, .null], [.long (1000000001 : Int64)], σ13)) (P := []) rfl trivial ?_
          subst h
          exact mm_rt_ ⟨_, _, _, rfl, ⟨_, rfl, rfl, rfl⟩⟩
theorem sg_X11_falls_54 (σ : mm_Sg) (x1 : Int32) (x2 : Int32) (x3 : Int32) (x4 : Int32) (l5 : Int64) (l7 : Int64) (x9 : Int32) (R : Option Value × mm_Sg) (h : (((x1 ≤ x9 → mm_Go mm_m_X11_falls (76, [.ref 51, .int x1, .int x2, .int x3, .int x4, .long l5, .null, .long l7, .null, .int (0 : Int32), .null, .null, .null], [], σ) R) ∧ (¬ (x1 ≤ x9) → mm_Go mm_m_X11_falls (54, [.ref 51, .int x1, .int x2, .int x3, .int x4, .long l5, .null, .long (l7 * (x2.toInt64)), .null, .int (x9 + (1 : Int32)), .null, .null, .null], [], σ) R)))) : mm_Go mm_m_X11_falls (54, [.ref 51, .int x1, .int x2, .int x3, .int x4, .long l5, .null, .long l7, .null, .int x9, .null, .null, .null], [], σ) R := by
  refine mm_blk (M := mm_m_X11_falls) 3 (S' := ((if x1 ≤ x9 then 73 else 60), [.ref 51, .int x1, .int x2, .int x3, .int x4, .long l5, .null, .long l7, .null, .int x9, .null, .null, .null], [], σ)) (P := []) rfl trivial ?_
  by_cases b1 : x1 ≤ x9
  · rw [if_pos b1]
    have h := h.1 b1
    refine mm_blk (M := mm_m_X11_falls) 2 (S' := (76, [.ref 51, .int x1, .int x2, .int x3, .int x4, .long l5, .null, .long l7, .null, .int (0 : Int32), .null, .null, .null], [], σ)) (P := []) rfl trivial ?_
    exact h
  · rw [if_neg b1]
    have h := h.2 b1
    refine mm_blk (M := mm_m_X11_falls) 7 (S' := (54, [.ref 51, .int x1, .int x2, .int x3, .int x4, .long l5, .null, .long (l7 * (x2.toInt64)), .null, .int (x9 + (1 : Int32)), .null, .null, .null], [], σ)) (P := []) rfl trivial ?_
    exact h
theorem sg_X11_falls_76 (σ : mm_Sg) (x1 : Int32) (x2 : Int32) (x3 : Int32) (x4 : Int32) (l5 : Int64) (l7 : Int64) (x9 : Int32) (d10 : Value) (d12 : Value) (R : Option Value × mm_Sg) (h : (((((1 : Int32) <<< (x1 &&& 31)) ≤ x9 → (∃ (w4 : Int64) (σ2 : mm_Sg), mm_Ev mm_m_X11_partOf [.long l5, .long l7, .int x4] σ (some (.long w4)) σ2 ∧ (R = (some (.long w4), σ2)))) ∧ (¬ (((1 : Int32) <<< (x1 &&& 31)) ≤ x9) → (∃ (σ5 : mm_Sg), mm_Ev mm_m_X11_copies [.ref 52, .ref 53] σ none σ5 ∧ mm_Go mm_m_X11_falls (101, [.ref 51, .int x1, .int x2, .int x3, .int x4, .long l5, .null, .long l7, .null, .int x9, .long (1 : Int64), .null, .int (0 : Int32)], [], σ5) R))))) : mm_Go mm_m_X11_falls (76, [.ref 51, .int x1, .int x2, .int x3, .int x4, .long l5, .null, .long l7, .null, .int x9, d10, .null, d12], [], σ) R := by
  refine mm_blk (M := mm_m_X11_falls) 5 (S' := ((if ((1 : Int32) <<< (x1 &&& 31)) ≤ x9 then 190 else 84), [.ref 51, .int x1, .int x2, .int x3, .int x4, .long l5, .null, .long l7, .null, .int x9, d10, .null, d12], [], σ)) (P := []) rfl trivial ?_
  by_cases b1 : ((1 : Int32) <<< (x1 &&& 31)) ≤ x9
  · rw [if_pos b1]
    have h := h.1 b1
    refine mm_blk (M := mm_m_X11_falls) 3 (S' := (196, [.ref 51, .int x1, .int x2, .int x3, .int x4, .long l5, .null, .long l7, .null, .int x9, d10, .null, d12], [.int x4, .long l7, .long l5], σ)) (P := []) rfl trivial ?_
    obtain ⟨w4, σ2, e3, h⟩ := h
    refine mm_cl_ (rest := []) e3 ⟨_, _, _, rfl, rfl, mm_tb_X11_partOf, rfl, rfl, Nat.le_of_ble_eq_true rfl, Nat.le_of_ble_eq_true rfl, trivial⟩ ?_
    subst h
    exact mm_rt_ ⟨_, _, _, rfl, ⟨_, rfl, rfl, rfl⟩⟩
  · rw [if_neg b1]
    have h := h.2 b1
    refine mm_blk (M := mm_m_X11_falls) 6 (S' := (95, [.ref 51, .int x1, .int x2, .int x3, .int x4, .long l5, .null, .long l7, .null, .int x9, .long (1 : Int64), .null, d12], [.ref 53, .ref 52], σ)) (P := [mm_cl 51 = 11, mm_cl 51 = 11]) rfl ⟨rfl, rfl, trivial⟩ ?_
    obtain ⟨σ5, e6, h⟩ := h
    refine mm_cl_ (rest := []) e6 ⟨_, _, _, rfl, rfl, mm_tb_X11_copies, rfl, rfl, Nat.le_of_ble_eq_true rfl, Nat.le_of_ble_eq_true rfl, trivial⟩ ?_
    refine mm_blk (M := mm_m_X11_falls) 2 (S' := (101, [.ref 51, .int x1, .int x2, .int x3, .int x4, .long l5, .null, .long l7, .null, .int x9, .long (1 : Int64), .null, .int (0 : Int32)], [], σ5)) (P := []) rfl trivial ?_
    exact h
theorem sg_X11_falls_101 (σ : mm_Sg) (x1 : Int32) (x2 : Int32) (x3 : Int32) (x4 : Int32) (l5 : Int64) (l7 : Int64) (x9 : Int32) (l10 : Int64) (x12 : Int32) (R : Option Value × mm_Sg) (h : (((x1 ≤ x12 → (∃ (v4 : Int32) (σ2 : mm_Sg), mm_Ev mm_m_X11_allOwed [.ref 53] σ (some (.int v4)) σ2 ∧ (((v4 < x3 → mm_Go mm_m_X11_falls (76, [.ref 51, .int x1, .int x2, .int x3, .int x4, .long (l5 + (0 : Int64)), .null, .long l7, .null, .int (x9 + (1 : Int32)), .long l10, .null, .int x12], [], σ2) R) ∧ (¬ (v4 < x3) → mm_Go mm_m_X11_falls (76, [.ref 51, .int x1, .int x2, .int x3, .int x4, .long (l5 + l10), .null, .long l7, .null, .int (x9 + (1 : Int32)), .long l10, .null, .int x12], [], σ2) R))))) ∧ (¬ (x1 ≤ x12) → (∃ (v8 : Int32) (σ6 : mm_Sg), mm_Ev mm_m_X11_has [.int x9, .int x12] σ (some (.int v8)) σ6 ∧ (((v8 = (0 : Int32) → (∃ (v12 : Int32) (σ10 : mm_Sg), mm_Ev mm_m_X11_has [.int x9, .int x12] σ6 (some (.int v12)) σ10 ∧ (((v12 = (0 : Int32) → (∃ (σ14 : mm_Sg), mm_Ev mm_m_X11_day [.ref 51, .ref 53] σ10 none σ14 ∧ mm_Go mm_m_X11_falls (101, [.ref 51, .int x1, .int x2, .int x3, .int x4, .long l5, .null, .long l7, .null, .int x9, .long (l10 * ((x2 - (1 : Int32)).toInt64)), .null, .int (x12 + (1 : Int32))], [], σ14) R)) ∧ (¬ (v12 = (0 : Int32)) → (∀ σ16 : mm_Sg, σ16 = mm_u σ10 53 3 (31 : Int32) → (∃ (σ18 : mm_Sg), mm_Ev mm_m_X11_day [.ref 51, .ref 53] σ16 none σ18 ∧ mm_Go mm_m_X11_falls (101, [.ref 51, .int x1, .int x2, .int x3, .int x4, .long l5, .null, .long l7, .null, .int x9, .long (l10 * ((x2 - (1 : Int32)).toInt64)), .null, .int (x12 + (1 : Int32))], [], σ18) R))))))) ∧ (¬ (v8 = (0 : Int32)) → (∃ (v22 : Int32) (σ20 : mm_Sg), mm_Ev mm_m_X11_has [.int x9, .int x12] σ6 (some (.int v22)) σ20 ∧ (((v22 = (0 : Int32) → (∃ (σ24 : mm_Sg), mm_Ev mm_m_X11_day [.ref 51, .ref 53] σ20 none σ24 ∧ mm_Go mm_m_X11_falls (101, [.ref 51, .int x1, .int x2, .int x3, .int x4, .long l5, .null, .long l7, .null, .int x9, .long (l10 * (1 : Int64)), .null, .int (x12 + (1 : Int32))], [], σ24) R)) ∧ (¬ (v22 = (0 : Int32)) → (∀ σ26 : mm_Sg, σ26 = mm_u σ20 53 3 (31 : Int32) → (∃ (σ28 : mm_Sg), mm_Ev mm_m_X11_day [.ref 51, .ref 53] σ26 none σ28 ∧ mm_Go mm_m_X11_falls (101, [.ref 51, .int x1, .int x2, .int x3, .int x4, .long l5, .null, .long l7, .null, .int x9, .long (l10 * (1 : Int64)), .null, .int (x12 + (1 : Int32))], [], σ28) R)))))))))))))) : mm_Go mm_m_X11_falls (101, [.ref 51, .int x1, .int x2, .int x3, .int x4, .long l5, .null, .long l7, .null, .int x9, .long l10, .null, .int x12], [], σ) R := by
  refine mm_blk (M := mm_m_X11_falls) 3 (S' := ((if x1 ≤ x12 then 162 else 107), [.ref 51, .int x1, .int x2, .int x3, .int x4, .long l5, .null, .long l7, .null, .int x9, .long l10, .null, .int x12], [], σ)) (P := []) rfl trivial ?_
  by_cases b1 : x1 ≤ x12
  · rw [if_pos b1]
    have h := h.1 b1
    refine mm_blk (M := mm_m_X11_falls) 3 (S' := (168, [.ref 51, .int x1, .int x2, .int x3, .int x4, .long l5, .null, .long l7, .null, .int x9, .long l10, .null, .int x12], [.ref 53, .long l5], σ)) (P := [mm_cl 51 = 11]) rfl ⟨rfl, trivial⟩ ?_
    obtain ⟨v4, σ2, e3, h⟩ := h
    refine mm_cl_ (rest := [.long l5]) e3 ⟨_, _, _, rfl, rfl, mm_tb_X11_allOwed, rfl, rfl, Nat.le_of_ble_eq_true rfl, Nat.le_of_ble_eq_true rfl, trivial⟩ ?_
    refine mm_blk (M := mm_m_X11_falls) 2 (S' := ((if v4 < x3 then 180 else 175), [.ref 51, .int x1, .int x2, .int x3, .int x4, .long l5, .null, .long l7, .null, .int x9, .long l10, .null, .int x12], [.long l5], σ2)) (P := []) rfl trivial ?_
    by_cases b5 : v4 < x3
    · rw [if_pos b5]
      have h := h.1 b5
      refine mm_blk (M := mm_m_X11_falls) 5 (S' := (76, [.ref 51, .int x1, .int x2, .int x3, .int x4, .long (l5 + (0 : Int64)), .null, .long l7, .null, .int (x9 + (1 : Int32)), .long l10, .null, .int x12], [], σ2)) (P := []) rfl trivial ?_
      exact h
    · rw [if_neg b5]
      have h := h.2 b5
      refine mm_blk (M := mm_m_X11_falls) 6 (S' := (76, [.ref 51, .int x1, .int x2, .int x3, .int x4, .long (l5 + l10), .null, .long l7, .null, .int (x9 + (1 : Int32)), .long l10, .null, .int x12], [], σ2)) (P := []) rfl trivial ?_
      exact h
  · rw [if_neg b1]
    have h := h.2 b1
    refine mm_blk (M := mm_m_X11_falls) 3 (S' := (113, [.ref 51, .int x1, .int x2, .int x3, .int x4, .long l5, .null, .long l7, .null, .int x9, .long l10, .null, .int x12], [.int x12, .int x9, .long l10], σ)) (P := []) rfl trivial ?_
    obtain ⟨v8, σ6, e7, h⟩ := h
    refine mm_cl_ (rest := [.long l10]) e7 ⟨_, _, _, rfl, rfl, mm_tb_X11_has, rfl, rfl, Nat.le_of_ble_eq_true rfl, Nat.le_of_ble_eq_true rfl, trivial⟩ ?_
    refine mm_blk (M := mm_m_X11_falls) 1 (S' := ((if v8 = (0 : Int32) then 123 else 119), [.ref 51, .int x1, .int x2, .int x3, .int x4, .long l5, .null, .long l7, .null, .int x9, .long l10, .null, .int x12], [.long l10], σ6)) (P := []) rfl trivial ?_
    by_cases b9 : v8 = (0 : Int32)
    · rw [if_pos b9]
      have h := h.1 b9
      refine mm_blk (M := mm_m_X11_falls) 8 (S' := (134, [.ref 51, .int x1, .int x2, .int x3, .int x4, .long l5, .null, .long l7, .null, .int x9, .long (l10 * ((x2 - (1 : Int32)).toInt64)), .null, .int x12], [.int x12, .int x9], σ6)) (P := []) rfl trivial ?_
      obtain ⟨v12, σ10, e11, h⟩ := h
      refine mm_cl_ (rest := []) e11 ⟨_, _, _, rfl, rfl, mm_tb_X11_has, rfl, rfl, Nat.le_of_ble_eq_true rfl, Nat.le_of_ble_eq_true rfl, trivial⟩ ?_
      refine mm_blk (M := mm_m_X11_falls) 1 (S' := ((if v12 = (0 : Int32) then 148 else 140), [.ref 51, .int x1, .int x2, .int x3, .int x4, .long l5, .null, .long l7, .null, .int x9, .long (l10 * ((x2 - (1 : Int32)).toInt64)), .null, .int x12], [], σ10)) (P := []) rfl trivial ?_
      by_cases b13 : v12 = (0 : Int32)
      · rw [if_pos b13]
        have h := h.1 b13
        refine mm_blk (M := mm_m_X11_falls) 3 (S' := (153, [.ref 51, .int x1, .int x2, .int x3, .int x4, .long l5, .null, .long l7, .null, .int x9, .long (l10 * ((x2 - (1 : Int32)).toInt64)), .null, .int x12], [.ref 53, .ref 51], σ10)) (P := [mm_cl 51 = 11]) rfl ⟨rfl, trivial⟩ ?_
        obtain ⟨σ14, e15, h⟩ := h
        refine mm_cl_ (rest := []) e15 ⟨_, _, _, rfl, rfl, mm_tb_X11_day, rfl, rfl, Nat.le_of_ble_eq_true rfl, Nat.le_of_ble_eq_true rfl, ⟨_, rfl, rfl⟩⟩ ?_
        refine mm_blk (M := mm_m_X11_falls) 2 (S' := (101, [.ref 51, .int x1, .int x2, .int x3, .int x4, .long l5, .null, .long l7, .null, .int x9, .long (l10 * ((x2 - (1 : Int32)).toInt64)), .null, .int (x12 + (1 : Int32))], [], σ14)) (P := []) rfl trivial ?_
        exact h
      · rw [if_neg b13]
        have h := h.2 b13
        refine mm_blk (M := mm_m_X11_falls) 5 (S' := (148, [.ref 51, .int x1, .int x2, .int x3, .int x4, .long l5, .null, .long l7, .null, .int x9, .long (l10 * ((x2 - (1 : Int32)).toInt64)), .null, .int x12], [], mm_u σ10 53 3 (31 : Int32))) (P := [mm_cl 51 = 11, vp_in (3 : Int32) (mm_len 53)]) rfl ⟨rfl, (by unfold vp_in; decide), trivial⟩ ?_
        obtain ⟨σ16, e17⟩ : ∃ z, z = mm_u σ10 53 3 (31 : Int32) := ⟨_, rfl⟩
        rw [← e17]
        have h := h σ16 e17
        refine mm_blk (M := mm_m_X11_falls) 3 (S' := (153, [.ref 51, .int x1, .int x2, .int x3, .int x4, .long l5, .null, .long l7, .null, .int x9, .long (l10 * ((x2 - (1 : Int32)).toInt64)), .null, .int x12], [.ref 53, .ref 51], σ16)) (P := [mm_cl 51 = 11]) rfl ⟨rfl, trivial⟩ ?_
        obtain ⟨σ18, e19, h⟩ := h
        refine mm_cl_ (rest := []) e19 ⟨_, _, _, rfl, rfl, mm_tb_X11_day, rfl, rfl, Nat.le_of_ble_eq_true rfl, Nat.le_of_ble_eq_true rfl, ⟨_, rfl, rfl⟩⟩ ?_
        refine mm_blk (M := mm_m_X11_falls) 2 (S' := (101, [.ref 51, .int x1, .int x2, .int x3, .int x4, .long l5, .null, .long l7, .null, .int x9, .long (l10 * ((x2 - (1 : Int32)).toInt64)), .null, .int (x12 + (1 : Int32))], [], σ18)) (P := []) rfl trivial ?_
        exact h
    · rw [if_neg b9]
      have h := h.2 b9
      refine mm_blk (M := mm_m_X11_falls) 6 (S' := (134, [.ref 51, .int x1, .int x2, .int x3, .int x4, .long l5, .null, .long l7, .null, .int x9, .long (l10 * (1 : Int64)), .null, .int x12], [.int x12, .int x9], σ6)) (P := []) rfl trivial ?_
      obtain ⟨v22, σ20, e21, h⟩ := h
      refine mm_cl_ (rest := []) e21 ⟨_, _, _, rfl, rfl, mm_tb_X11_has, rfl, rfl, Nat.le_of_ble_eq_true rfl, Nat.le_of_ble_eq_true rfl, trivial⟩ ?_
      refine mm_blk (M := mm_m_X11_falls) 1 (S' := ((if v22 = (0 : Int32) then 148 else 140), [.ref 51, .int x1, .int x2, .int x3, .int x4, .long l5, .null, .long l7, .null, .int x9, .long (l10 * (1 : Int64)), .null, .int x12], [], σ20)) (P := []) rfl trivial ?_
      by_cases b23 : v22 = (0 : Int32)
      · rw [if_pos b23]
        have h := h.1 b23
        refine mm_blk (M := mm_m_X11_falls) 3 (S' := (153, [.ref 51, .int x1, .int x2, .int x3, .int x4, .long l5, .null, .long l7, .null, .int x9, .long (l10 * (1 : Int64)), .null, .int x12], [.ref 53, .ref 51], σ20)) (P := [mm_cl 51 = 11]) rfl ⟨rfl, trivial⟩ ?_
        obtain ⟨σ24, e25, h⟩ := h
        refine mm_cl_ (rest := []) e25 ⟨_, _, _, rfl, rfl, mm_tb_X11_day, rfl, rfl, Nat.le_of_ble_eq_true rfl, Nat.le_of_ble_eq_true rfl, ⟨_, rfl, rfl⟩⟩ ?_
        refine mm_blk (M := mm_m_X11_falls) 2 (S' := (101, [.ref 51, .int x1, .int x2, .int x3, .int x4, .long l5, .null, .long l7, .null, .int x9, .long (l10 * (1 : Int64)), .null, .int (x12 + (1 : Int32))], [], σ24)) (P := []) rfl trivial ?_
        exact h
      · rw [if_neg b23]
        have h := h.2 b23
        refine mm_blk (M := mm_m_X11_falls) 5 (S' := (148, [.ref 51, .int x1, .int x2, .int x3, .int x4, .long l5, .null, .long l7, .null, .int x9, .long (l10 * (1 : Int64)), .null, .int x12], [], mm_u σ20 53 3 (31 : Int32))) (P := [mm_cl 51 = 11, vp_in (3 : Int32) (mm_len 53)]) rfl ⟨rfl, (by unfold vp_in; decide), trivial⟩ ?_
        obtain ⟨σ26, e27⟩ : ∃ z, z = mm_u σ20 53 3 (31 : Int32) := ⟨_, rfl⟩
        rw [← e27]
        have h := h σ26 e27
        refine mm_blk (M := mm_m_X11_falls) 3 (S' := (153, [.ref 51, .int x1, .int x2, .int x3, .int x4, .long l5, .null, .long l7, .null, .int x9, .long (l10 * (1 : Int64)), .null, .int x12], [.ref 53, .ref 51], σ26)) (P := [mm_cl 51 = 11]) rfl ⟨rfl, trivial⟩ ?_
        obtain ⟨σ28, e29, h⟩ := h
        refine mm_cl_ (rest := []) e29 ⟨_, _, _, rfl, rfl, mm_tb_X11_day, rfl, rfl, Nat.le_of_ble_eq_true rfl, Nat.le_of_ble_eq_true rfl, ⟨_, rfl, rfl⟩⟩ ?_
        refine mm_blk (M := mm_m_X11_falls) 2 (S' := (101, [.ref 51, .int x1, .int x2, .int x3, .int x4, .long l5, .null, .long l7, .null, .int x9, .long (l10 * (1 : Int64)), .null, .int (x12 + (1 : Int32))], [], σ28)) (P := []) rfl trivial ?_
        exact h
theorem sg_X1_becomeLike_0 (σ : mm_Sg) (q0 : Nat) (q1 : Nat) (R : Option Value × mm_Sg) (h : ((mm_cl q1 = 1) ∧ (mm_cl q0 = 1) ∧ (0 + 7 ≤ mm_len (q1 + 1)) ∧ (0 + 7 ≤ mm_len (q0 + 1)) ∧ (0 < mm_len (q1 + 1)) ∧ (0 < mm_len (q0 + 1)) ∧ ∀ σ7 : mm_Sg, σ7 = mm_cp σ (q1 + 1) 0 (q0 + 1) 0 7 → ((0 + 7 ≤ mm_len (q1 + 2)) ∧ (0 + 7 ≤ mm_len (q0 + 2)) ∧ (0 < mm_len (q1 + 2)) ∧ (0 < mm_len (q0 + 2)) ∧ ∀ σ13 : mm_Sg, σ13 = mm_cp σ7 (q1 + 2) 0 (q0 + 2) 0 7 → ((0 + 7 ≤ mm_len (q1 + 3)) ∧ (0 + 7 ≤ mm_len (q0 + 3)) ∧ (0 < mm_len (q1 + 3)) ∧ (0 < mm_len (q0 + 3)) ∧ ∀ σ19 : mm_Sg, σ19 = mm_cp σ13 (q1 + 3) 0 (q0 + 3) 0 7 → ((0 + 7 ≤ mm_len (q1 + 4)) ∧ (0 + 7 ≤ mm_len (q0 + 4)) ∧ (0 < mm_len (q1 + 4)) ∧ (0 < mm_len (q0 + 4)) ∧ ∀ σ25 : mm_Sg, σ25 = mm_cp σ19 (q1 + 4) 0 (q0 + 4) 0 7 → ((0 + 5 ≤ mm_len (q1 + 5)) ∧ (0 + 5 ≤ mm_len (q0 + 5)) ∧ (0 < mm_len (q1 + 5)) ∧ (0 < mm_len (q0 + 5)) ∧ ∀ σ31 : mm_Sg, σ31 = mm_cp σ25 (q1 + 5) 0 (q0 + 5) 0 5 → (∀ σ33 : mm_Sg, σ33 = mm_u σ31 q0 6 (σ31 q1 6) → (∀ σ35 : mm_Sg, σ35 = mm_u σ33 q0 7 (σ33 q1 7) → (∀ σ37 : mm_Sg, σ37 = mm_u σ35 q0 8 (σ35 q1 8) → (∀ σ39 : mm_Sg, σ39 = mm_u σ37 q0 9 (σ37 q1 9) → (∃ (σ41 : mm_Sg), mm_Ev mm_m_J7_fill_53178 [.ref (q0 + 6), .int (0 : Int32)] σ39 none σ41 ∧ (∀ σ43 : mm_Sg, σ43 = mm_u σ41 q0 11 (-1 : Int32) → (∀ σ45 : mm_Sg, σ45 = mm_u σ43 q0 12 (0 : Int32) → (∀ σ47 : mm_Sg, σ47 = mm_u σ45 q0 13 (0 : Int32) → (R = (none, σ47)))))))))))))))) : mm_Go mm_m_X1_becomeLike (0, [.ref q0, .ref q1], [], σ) R := by
  obtain ⟨c1, h⟩ := h
  obtain ⟨c2, h⟩ := h
  obtain ⟨c3, h⟩ := h
  obtain ⟨c4, h⟩ := h
  obtain ⟨c5, h⟩ := h
  obtain ⟨c6, h⟩ := h
  refine mm_blk (M := mm_m_X1_becomeLike) 8 (S' := (15, [.ref q0, .ref q1], [], mm_cp σ (q1 + 1) 0 (q0 + 1) 0 7)) (P := [mm_cl q1 = 1, mm_cl q0 = 1, ¬ (0 : Int32) < 0, ¬ (0 : Int32) < 0, ¬ (7 : Int32) < 0, 0 + 7 ≤ mm_len (q1 + 1), 0 + 7 ≤ mm_len (q0 + 1), 0 < mm_len (q1 + 1), 0 < mm_len (q0 + 1)]) rfl ⟨c1, c2, (by decide), (by decide), (by decide), c3, c4, c5, c6, trivial⟩ ?_
  obtain ⟨σ7, e8⟩ : ∃ z, z = mm_cp σ (q1 + 1) 0 (q0 + 1) 0 7 := ⟨_, rfl⟩
  rw [← e8]
  have h := h σ7 e8
  obtain ⟨c9, h⟩ := h
  obtain ⟨c10, h⟩ := h
  obtain ⟨c11, h⟩ := h
  obtain ⟨c12, h⟩ := h
  refine mm_blk (M := mm_m_X1_becomeLike) 8 (S' := (30, [.ref q0, .ref q1], [], mm_cp σ7 (q1 + 2) 0 (q0 + 2) 0 7)) (P := [mm_cl q1 = 1, mm_cl q0 = 1, ¬ (0 : Int32) < 0, ¬ (0 : Int32) < 0, ¬ (7 : Int32) < 0, 0 + 7 ≤ mm_len (q1 + 2), 0 + 7 ≤ mm_len (q0 + 2), 0 < mm_len (q1 + 2), 0 < mm_len (q0 + 2)]) rfl ⟨c1, c2, (by decide), (by decide), (by decide), c9, c10, c11, c12, trivial⟩ ?_
  obtain ⟨σ13, e14⟩ : ∃ z, z = mm_cp σ7 (q1 + 2) 0 (q0 + 2) 0 7 := ⟨_, rfl⟩
  rw [← e14]
  have h := h σ13 e14
  obtain ⟨c15, h⟩ := h
  obtain ⟨c16, h⟩ := h
  obtain ⟨c17, h⟩ := h
  obtain ⟨c18, h⟩ := h
  refine mm_blk (M := mm_m_X1_becomeLike) 8 (S' := (45, [.ref q0, .ref q1], [], mm_cp σ13 (q1 + 3) 0 (q0 + 3) 0 7)) (P := [mm_cl q1 = 1, mm_cl q0 = 1, ¬ (0 : Int32) < 0, ¬ (0 : Int32) < 0, ¬ (7 : Int32) < 0, 0 + 7 ≤ mm_len (q1 + 3), 0 + 7 ≤ mm_len (q0 + 3), 0 < mm_len (q1 + 3), 0 < mm_len (q0 + 3)]) rfl ⟨c1, c2, (by decide), (by decide), (by decide), c15, c16, c17, c18, trivial⟩ ?_
  obtain ⟨σ19, e20⟩ : ∃ z, z = mm_cp σ13 (q1 + 3) 0 (q0 + 3) 0 7 := ⟨_, rfl⟩
  rw [← e20]
  have h := h σ19 e20
  obtain ⟨c21, h⟩ := h
  obtain ⟨c22, h⟩ := h
  obtain ⟨c23, h⟩ := h
  obtain ⟨c24, h⟩ := h
  refine mm_blk (M := mm_m_X1_becomeLike) 8 (S' := (60, [.ref q0, .ref q1], [], mm_cp σ19 (q1 + 4) 0 (q0 + 4) 0 7)) (P := [mm_cl q1 = 1, mm_cl q0 = 1, ¬ (0 : Int32) < 0, ¬ (0 : Int32) < 0, ¬ (7 : Int32) < 0, 0 + 7 ≤ mm_len (q1 + 4), 0 + 7 ≤ mm_len (q0 + 4), 0 < mm_len (q1 + 4), 0 < mm_len (q0 + 4)]) rfl ⟨c1, c2, (by decide), (by decide), (by decide), c21, c22, c23, c24, trivial⟩ ?_
  obtain ⟨σ25, e26⟩ : ∃ z, z = mm_cp σ19 (q1 + 4) 0 (q0 + 4) 0 7 := ⟨_, rfl⟩
  rw [← e26]
  have h := h σ25 e26
  obtain ⟨c27, h⟩ := h
  obtain ⟨c28, h⟩ := h
  obtain ⟨c29, h⟩ := h
  obtain ⟨c30, h⟩ := h
  refine mm_blk (M := mm_m_X1_becomeLike) 8 (S' := (74, [.ref q0, .ref q1], [], mm_cp σ25 (q1 + 5) 0 (q0 + 5) 0 5)) (P := [mm_cl q1 = 1, mm_cl q0 = 1, ¬ (0 : Int32) < 0, ¬ (0 : Int32) < 0, ¬ (5 : Int32) < 0, 0 + 5 ≤ mm_len (q1 + 5), 0 + 5 ≤ mm_len (q0 + 5), 0 < mm_len (q1 + 5), 0 < mm_len (q0 + 5)]) rfl ⟨c1, c2, (by decide), (by decide), (by decide), c27, c28, c29, c30, trivial⟩ ?_
  obtain ⟨σ31, e32⟩ : ∃ z, z = mm_cp σ25 (q1 + 5) 0 (q0 + 5) 0 5 := ⟨_, rfl⟩
  rw [← e32]
  have h := h σ31 e32
  refine mm_blk (M := mm_m_X1_becomeLike) 4 (S' := (82, [.ref q0, .ref q1], [], mm_u σ31 q0 6 (σ31 q1 6))) (P := [mm_cl q1 = 1, mm_cl q0 = 1]) rfl ⟨c1, c2, trivial⟩ ?_
  obtain ⟨σ33, e34⟩ : ∃ z, z = mm_u σ31 q0 6 (σ31 q1 6) := ⟨_, rfl⟩
  rw [← e34]
  have h := h σ33 e34
  refine mm_blk (M := mm_m_X1_becomeLike) 4 (S' := (90, [.ref q0, .ref q1], [], mm_u σ33 q0 7 (σ33 q1 7))) (P := [mm_cl q1 = 1, mm_cl q0 = 1]) rfl ⟨c1, c2, trivial⟩ ?_
  obtain ⟨σ35, e36⟩ : ∃ z, z = mm_u σ33 q0 7 (σ33 q1 7) := ⟨_, rfl⟩
  rw [← e36]
  have h := h σ35 e36
  refine mm_blk (M := mm_m_X1_becomeLike) 4 (S' := (98, [.ref q0, .ref q1], [], mm_u σ35 q0 8 (σ35 q1 8))) (P := [mm_cl q1 = 1, mm_cl q0 = 1]) rfl ⟨c1, c2, trivial⟩ ?_
  obtain ⟨σ37, e38⟩ : ∃ z, z = mm_u σ35 q0 8 (σ35 q1 8) := ⟨_, rfl⟩
  rw [← e38]
  have h := h σ37 e38
  refine mm_blk (M := mm_m_X1_becomeLike) 4 (S' := (106, [.ref q0, .ref q1], [], mm_u σ37 q0 9 (σ37 q1 9))) (P := [mm_cl q1 = 1, mm_cl q0 = 1]) rfl ⟨c1, c2, trivial⟩ ?_
  obtain ⟨σ39, e40⟩ : ∃ z, z = mm_u σ37 q0 9 (σ37 q1 9) := ⟨_, rfl⟩
  rw [← e40]
  have h := h σ39 e40
  refine mm_blk (M := mm_m_X1_becomeLike) 3 (S' := (111, [.ref q0, .ref q1], [.int (0 : Int32), .ref (q0 + 6)], σ39)) (P := [mm_cl q0 = 1]) rfl ⟨c2, trivial⟩ ?_
  obtain ⟨σ41, e42, h⟩ := h
  refine mm_cl_ (rest := []) e42 ⟨_, _, _, rfl, rfl, mm_tb_J7_fill_53178, rfl, rfl, Nat.le_of_ble_eq_true rfl, Nat.le_of_ble_eq_true rfl, trivial⟩ ?_
  refine mm_blk (M := mm_m_X1_becomeLike) 3 (S' := (119, [.ref q0, .ref q1], [], mm_u σ41 q0 11 (-1 : Int32))) (P := [mm_cl q0 = 1]) rfl ⟨c2, trivial⟩ ?_
  obtain ⟨σ43, e44⟩ : ∃ z, z = mm_u σ41 q0 11 (-1 : Int32) := ⟨_, rfl⟩
  rw [← e44]
  have h := h σ43 e44
  refine mm_blk (M := mm_m_X1_becomeLike) 3 (S' := (124, [.ref q0, .ref q1], [], mm_u σ43 q0 12 (0 : Int32))) (P := [mm_cl q0 = 1]) rfl ⟨c2, trivial⟩ ?_
  obtain ⟨σ45, e46⟩ : ∃ z, z = mm_u σ43 q0 12 (0 : Int32) := ⟨_, rfl⟩
  rw [← e46]
  have h := h σ45 e46
  refine mm_blk (M := mm_m_X1_becomeLike) 3 (S' := (129, [.ref q0, .ref q1], [], mm_u σ45 q0 13 (0 : Int32))) (P := [mm_cl q0 = 1]) rfl ⟨c2, trivial⟩ ?_
  obtain ⟨σ47, e48⟩ : ∃ z, z = mm_u σ45 q0 13 (0 : Int32) := ⟨_, rfl⟩
  rw [← e48]
  have h := h σ47 e48
  subst h
  exact mm_rt_ ⟨_, _, _, rfl, ⟨rfl, rfl, rfl⟩⟩
