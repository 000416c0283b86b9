/-! pieces of runs, by program -/
theorem sg_X1_becomeLike_0 (σ : mm_Sg) (q0 : Nat) (q1 : Nat) (R : Option Value × mm_Sg) (h : ((mm_cl q1 = 1) ∧ (mm_cl q0 = 1) ∧ (0 + 7 ≤ mm_len (q1 + 1)) ∧ (0 + 7 ≤ mm_len (q0 + 1)) ∧ (0 < mm_len (q1 + 1)) ∧ (0 < mm_len (q0 + 1)) ∧ ∀ σ7 : mm_Sg, σ7 = mm_cp σ (q1 + 1) 0 (q0 + 1) 0 7 → ((0 + 7 ≤ mm_len (q1 + 2)) ∧ (0 + 7 ≤ mm_len (q0 + 2)) ∧ (0 < mm_len (q1 + 2)) ∧ (0 < mm_len (q0 + 2)) ∧ ∀ σ13 : mm_Sg, σ13 = mm_cp σ7 (q1 + 2) 0 (q0 + 2) 0 7 → ((0 + 7 ≤ mm_len (q1 + 3)) ∧ (0 + 7 ≤ mm_len (q0 + 3)) ∧ (0 < mm_len (q1 + 3)) ∧ (0 < mm_len (q0 + 3)) ∧ ∀ σ19 : mm_Sg, σ19 = mm_cp σ13 (q1 + 3) 0 (q0 + 3) 0 7 → ((0 + 7 ≤ mm_len (q1 + 4)) ∧ (0 + 7 ≤ mm_len (q0 + 4)) ∧ (0 < mm_len (q1 + 4)) ∧ (0 < mm_len (q0 + 4)) ∧ ∀ σ25 : mm_Sg, σ25 = mm_cp σ19 (q1 + 4) 0 (q0 + 4) 0 7 → ((0 + 5 ≤ mm_len (q1 + 5)) ∧ (0 + 5 ≤ mm_len (q0 + 5)) ∧ (0 < mm_len (q1 + 5)) ∧ (0 < mm_len (q0 + 5)) ∧ ∀ σ31 : mm_Sg, σ31 = mm_cp σ25 (q1 + 5) 0 (q0 + 5) 0 5 → (∀ σ33 : mm_Sg, σ33 = mm_u σ31 q0 6 (σ31 q1 6) → (∀ σ35 : mm_Sg, σ35 = mm_u σ33 q0 7 (σ33 q1 7) → (∀ σ37 : mm_Sg, σ37 = mm_u σ35 q0 8 (σ35 q1 8) → (∀ σ39 : mm_Sg, σ39 = mm_u σ37 q0 9 (σ37 q1 9) → (∃ (σ41 : mm_Sg), mm_Ev mm_m_J7_fill_53178 [.ref (q0 + 6), .int (0 : Int32)] σ39 none σ41 ∧ (∀ σ43 : mm_Sg, σ43 = mm_u σ41 q0 11 (-1 : Int32) → (∀ σ45 : mm_Sg, σ45 = mm_u σ43 q0 12 (0 : Int32) → (∀ σ47 : mm_Sg, σ47 = mm_u σ45 q0 13 (0 : Int32) → (R = (none, σ47)))))))))))))))) : mm_Go mm_m_X1_becomeLike (0, [.ref q0, .ref q1], [], σ) R := by
  obtain ⟨c1, h⟩ := h
  obtain ⟨c2, h⟩ := h
  obtain ⟨c3, h⟩ := h
  obtain ⟨c4, h⟩ := h
  obtain ⟨c5, h⟩ := h
  obtain ⟨c6, h⟩ := h
  refine mm_blk (M := mm_m_X1_becomeLike) 8 (S' := (15, [.ref q0, .ref q1], [], mm_cp σ (q1 + 1) 0 (q0 + 1) 0 7)) (P := [mm_cl q1 = 1, mm_cl q0 = 1, ¬ (0 : Int32) < 0, ¬ (0 : Int32) < 0, ¬ (7 : Int32) < 0, 0 + 7 ≤ mm_len (q1 + 1), 0 + 7 ≤ mm_len (q0 + 1), 0 < mm_len (q1 + 1), 0 < mm_len (q0 + 1)]) rfl ⟨c1, c2, (by decide), (by decide), (by decide), c3, c4, c5, c6, trivial⟩ ?_
  obtain ⟨σ7, e8⟩ : ∃ z, z = mm_cp σ (q1 + 1) 0 (q0 + 1) 0 7 := ⟨_, rfl⟩
  rw [← e8]
  have h := h σ7 e8
  obtain ⟨c9, h⟩ := h
  obtain ⟨c10, h⟩ := h
  obtain ⟨c11, h⟩ := h
  obtain ⟨c12, h⟩ := h
  refine mm_blk (M := mm_m_X1_becomeLike) 8 (S' := (30, [.ref q0, .ref q1], [], mm_cp σ7 (q1 + 2) 0 (q0 + 2) 0 7)) (P := [mm_cl q1 = 1, mm_cl q0 = 1, ¬ (0 : Int32) < 0, ¬ (0 : Int32) < 0, ¬ (7 : Int32) < 0, 0 + 7 ≤ mm_len (q1 + 2), 0 + 7 ≤ mm_len (q0 + 2), 0 < mm_len (q1 + 2), 0 < mm_len (q0 + 2)]) rfl ⟨c1, c2, (by decide), (by decide), (by decide), c9, c10, c11, c12, trivial⟩ ?_
  obtain ⟨σ13, e14⟩ : ∃ z, z = mm_cp σ7 (q1 + 2) 0 (q0 + 2) 0 7 := ⟨_, rfl⟩
  rw [← e14]
  have h := h σ13 e14
  obtain ⟨c15, h⟩ := h
  obtain ⟨c16, h⟩ := h
  obtain ⟨c17, h⟩ := h
  obtain ⟨c18, h⟩ := h
  refine mm_blk (M := mm_m_X1_becomeLike) 8 (S' := (45, [.ref q0, .ref q1], [], mm_cp σ13 (q1 + 3) 0 (q0 + 3) 0 7)) (P := [mm_cl q1 = 1, mm_cl q0 = 1, ¬ (0 : Int32) < 0, ¬ (0 : Int32) < 0, ¬ (7 : Int32) < 0, 0 + 7 ≤ mm_len (q1 + 3), 0 + 7 ≤ mm_len (q0 + 3), 0 < mm_len (q1 + 3), 0 < mm_len (q0 + 3)]) rfl ⟨c1, c2, (by decide), (by decide), (by decide), c15, c16, c17, c18, trivial⟩ ?_
  obtain ⟨σ19, e20⟩ : ∃ z, z = mm_cp σ13 (q1 + 3) 0 (q0 + 3) 0 7 := ⟨_, rfl⟩
  rw [← e20]
  have h := h σ19 e20
  obtain ⟨c21, h⟩ := h
  obtain ⟨c22, h⟩ := h
  obtain ⟨c23, h⟩ := h
  obtain ⟨c24, h⟩ := h
  refine mm_blk (M := mm_m_X1_becomeLike) 8 (S' := (60, [.ref q0, .ref q1], [], mm_cp σ19 (q1 + 4) 0 (q0 + 4) 0 7)) (P := [mm_cl q1 = 1, mm_cl q0 = 1, ¬ (0 : Int32) < 0, ¬ (0 : Int32) < 0, ¬ (7 : Int32) < 0, 0 + 7 ≤ mm_len (q1 + 4), 0 + 7 ≤ mm_len (q0 + 4), 0 < mm_len (q1 + 4), 0 < mm_len (q0 + 4)]) rfl ⟨c1, c2, (by decide), (by decide), (by decide), c21, c22, c23, c24, trivial⟩ ?_
  obtain ⟨σ25, e26⟩ : ∃ z, z = mm_cp σ19 (q1 + 4) 0 (q0 + 4) 0 7 := ⟨_, rfl⟩
  rw [← e26]
  have h := h σ25 e26
  obtain ⟨c27, h⟩ := h
  obtain ⟨c28, h⟩ := h
  obtain ⟨c29, h⟩ := h
  obtain ⟨c30, h⟩ := h
  refine mm_blk (M := mm_m_X1_becomeLike) 8 (S' := (74, [.ref q0, .ref q1], [], mm_cp σ25 (q1 + 5) 0 (q0 + 5) 0 5)) (P := [mm_cl q1 = 1, mm_cl q0 = 1, ¬ (0 : Int32) < 0, ¬ (0 : Int32) < 0, ¬ (5 : Int32) < 0, 0 + 5 ≤ mm_len (q1 + 5), 0 + 5 ≤ mm_len (q0 + 5), 0 < mm_len (q1 + 5), 0 < mm_len (q0 + 5)]) rfl ⟨c1, c2, (by decide), (by decide), (by decide), c27, c28, c29, c30, trivial⟩ ?_
  obtain ⟨σ31, e32⟩ : ∃ z, z = mm_cp σ25 (q1 + 5) 0 (q0 + 5) 0 5 := ⟨_, rfl⟩
  rw [← e32]
  have h := h σ31 e32
  refine mm_blk (M := mm_m_X1_becomeLike) 4 (S' := (82, [.ref q0, .ref q1], [], mm_u σ31 q0 6 (σ31 q1 6))) (P := [mm_cl q1 = 1, mm_cl q0 = 1]) rfl ⟨c1, c2, trivial⟩ ?_
  obtain ⟨σ33, e34⟩ : ∃ z, z = mm_u σ31 q0 6 (σ31 q1 6) := ⟨_, rfl⟩
  rw [← e34]
  have h := h σ33 e34
  refine mm_blk (M := mm_m_X1_becomeLike) 4 (S' := (90, [.ref q0, .ref q1], [], mm_u σ33 q0 7 (σ33 q1 7))) (P := [mm_cl q1 = 1, mm_cl q0 = 1]) rfl ⟨c1, c2, trivial⟩ ?_
  obtain ⟨σ35, e36⟩ : ∃ z, z = mm_u σ33 q0 7 (σ33 q1 7) := ⟨_, rfl⟩
  rw [← e36]
  have h := h σ35 e36
  refine mm_blk (M := mm_m_X1_becomeLike) 4 (S' := (98, [.ref q0, .ref q1], [], mm_u σ35 q0 8 (σ35 q1 8))) (P := [mm_cl q1 = 1, mm_cl q0 = 1]) rfl ⟨c1, c2, trivial⟩ ?_
  obtain ⟨σ37, e38⟩ : ∃ z, z = mm_u σ35 q0 8 (σ35 q1 8) := ⟨_, rfl⟩
  rw [← e38]
  have h := h σ37 e38
  refine mm_blk (M := mm_m_X1_becomeLike) 4 (S' := (106, [.ref q0, .ref q1], [], mm_u σ37 q0 9 (σ37 q1 9))) (P := [mm_cl q1 = 1, mm_cl q0 = 1]) rfl ⟨c1, c2, trivial⟩ ?_
  obtain ⟨σ39, e40⟩ : ∃ z, z = mm_u σ37 q0 9 (σ37 q1 9) := ⟨_, rfl⟩
  rw [← e40]
  have h := h σ39 e40
  refine mm_blk (M := mm_m_X1_becomeLike) 3 (S' := (111, [.ref q0, .ref q1], [.int (0 : Int32), .ref (q0 + 6)], σ39)) (P := [mm_cl q0 = 1]) rfl ⟨c2, trivial⟩ ?_
  obtain ⟨σ41, e42, h⟩ := h
  refine mm_cl_ (rest := []) e42 ⟨_, _, _, rfl, rfl, mm_tb_J7_fill_53178, rfl, rfl, Nat.le_of_ble_eq_true rfl, Nat.le_of_ble_eq_true rfl, trivial⟩ ?_
  refine mm_blk (M := mm_m_X1_becomeLike) 3 (S' := (119, [.ref q0, .ref q1], [], mm_u σ41 q0 11 (-1 : Int32))) (P := [mm_cl q0 = 1]) rfl ⟨c2, trivial⟩ ?_
  obtain ⟨σ43, e44⟩ : ∃ z, z = mm_u σ41 q0 11 (-1 : Int32) := ⟨_, rfl⟩
  rw [← e44]
  have h := h σ43 e44
  refine mm_blk (M := mm_m_X1_becomeLike) 3 (S' := (124, [.ref q0, .ref q1], [], mm_u σ43 q0 12 (0 : Int32))) (P := [mm_cl q0 = 1]) rfl ⟨c2, trivial⟩ ?_
  obtain ⟨σ45, e46⟩ : ∃ z, z = mm_u σ43 q0 12 (0 : Int32) := ⟨_, rfl⟩
  rw [← e46]
  have h := h σ45 e46
  refine mm_blk (M := mm_m_X1_becomeLike) 3 (S' := (129, [.ref q0, .ref q1], [], mm_u σ45 q0 13 (0 : Int32))) (P := [mm_cl q0 = 1]) rfl ⟨c2, trivial⟩ ?_
  obtain ⟨σ47, e48⟩ : ∃ z, z = mm_u σ45 q0 13 (0 : Int32) := ⟨_, rfl⟩
  rw [← e48]
  have h := h σ47 e48
  subst h
  exact mm_rt_ ⟨_, _, _, rfl, ⟨rfl, rfl, rfl⟩⟩
theorem sg_X1_has_0 (σ : mm_Sg) (q0 : Nat) (x1 : Int32) (R : Option Value × mm_Sg) (h : (((x1 < (0 : Int32) → (R = (some (.int (0 : Int32)), σ))) ∧ (¬ (x1 < (0 : Int32)) → ((mm_cl q0 = 1) ∧ (((σ q0 6) ≤ x1 → (R = (some (.int (0 : Int32)), σ))) ∧ (¬ ((σ q0 6) ≤ x1) → ((((7 : Int32) ≤ x1 → (R = (some (.int (0 : Int32)), σ))) ∧ (¬ ((7 : Int32) ≤ x1) → (R = (some (.int (1 : Int32)), σ)))))))))))) : mm_Go mm_m_X1_has (0, [.ref q0, .int x1], [], σ) R := by
  refine mm_blk (M := mm_m_X1_has) 2 (S' := ((if x1 < (0 : Int32) then 22 else 4), [.ref q0, .int x1], [], σ)) (P := []) rfl trivial ?_
  by_cases b1 : x1 < (0 : Int32)
  · rw [if_pos b1]
    have h := h.1 b1
    refine mm_blk (M := mm_m_X1_has) 1 (S' := (23, [.ref q0, .int x1], [.int (0 : Int32)], σ)) (P := []) rfl trivial ?_
    subst h
    exact mm_rt_ ⟨_, _, _, rfl, ⟨_, _, rfl, rfl, rfl, rfl⟩⟩
  · rw [if_neg b1]
    have h := h.2 b1
    obtain ⟨c2, h⟩ := h
    refine mm_blk (M := mm_m_X1_has) 4 (S' := ((if (σ q0 6) ≤ x1 then 22 else 12), [.ref q0, .int x1], [], σ)) (P := [mm_cl q0 = 1]) rfl ⟨c2, trivial⟩ ?_
    by_cases b3 : (σ q0 6) ≤ x1
    · rw [if_pos b3]
      have h := h.1 b3
      refine mm_blk (M := mm_m_X1_has) 1 (S' := (23, [.ref q0, .int x1], [.int (0 : Int32)], σ)) (P := []) rfl trivial ?_
      subst h
      exact mm_rt_ ⟨_, _, _, rfl, ⟨_, _, rfl, rfl, rfl, rfl⟩⟩
    · rw [if_neg b3]
      have h := h.2 b3
      refine mm_blk (M := mm_m_X1_has) 3 (S' := ((if (7 : Int32) ≤ x1 then 22 else 18), [.ref q0, .int x1], [], σ)) (P := []) rfl trivial ?_
      by_cases b4 : (7 : Int32) ≤ x1
      · rw [if_pos b4]
        have h := h.1 b4
        refine mm_blk (M := mm_m_X1_has) 1 (S' := (23, [.ref q0, .int x1], [.int (0 : Int32)], σ)) (P := []) rfl trivial ?_
        subst h
        exact mm_rt_ ⟨_, _, _, rfl, ⟨_, _, rfl, rfl, rfl, rfl⟩⟩
      · rw [if_neg b4]
        have h := h.2 b4
        refine mm_blk (M := mm_m_X1_has) 2 (S' := (23, [.ref q0, .int x1], [.int (1 : Int32)], σ)) (P := []) rfl trivial ?_
        subst h
        exact mm_rt_ ⟨_, _, _, rfl, ⟨_, _, rfl, rfl, rfl, rfl⟩⟩
theorem sg_X1_kindNumbered_0 (σ : mm_Sg) (q0 : Nat) (x1 : Int32) (R : Option Value × mm_Sg) (h : ((mm_cl q0 = 1) ∧ ∃ (v4 : Int32) (σ2 : mm_Sg), mm_Ev mm_m_X10_isBetween [.int x1, .int (0 : Int32), .int (7 : Int32)] σ (some (.int v4)) σ2 ∧ (((v4 = (0 : Int32) → (((mm_kr q0) = 1 ∨ (mm_kr q0) = 31 ∨ (mm_kr q0) = 65 ∨ (mm_kr q0) = 74) ∧ R = (some (.ref (mm_el (mm_kr q0) 0)), σ2))) ∧ (¬ (v4 = (0 : Int32)) → ((vp_in x1 8) ∧ ((mm_kr q0) = 1 ∨ (mm_kr q0) = 31 ∨ (mm_kr q0) = 65 ∨ (mm_kr q0) = 74) ∧ R = (some (.ref (mm_el (mm_kr q0) (x1.toNatClampNeg))), σ2))))))) : mm_Go mm_m_X1_kindNumbered (0, [.ref q0, .int x1], [], σ) R := by
  obtain ⟨c1, h⟩ := h
  refine mm_blk (M := mm_m_X1_kindNumbered) 5 (S' := (8, [.ref q0, .int x1], [.int (7 : Int32), .int (0 : Int32), .int x1, .ref (mm_kr q0)], σ)) (P := [mm_cl q0 = 1]) rfl ⟨c1, trivial⟩ ?_
  obtain ⟨v4, σ2, e3, h⟩ := h
  refine mm_cl_ (rest := [.ref (mm_kr q0)]) e3 ⟨_, _, _, rfl, rfl, mm_tb_X10_isBetween, rfl, rfl, Nat.le_of_ble_eq_true rfl, Nat.le_of_ble_eq_true rfl, trivial⟩ ?_
  refine mm_blk (M := mm_m_X1_kindNumbered) 1 (S' := ((if v4 = (0 : Int32) then 18 else 14), [.ref q0, .int x1], [.ref (mm_kr q0)], σ2)) (P := []) rfl trivial ?_
  by_cases b5 : v4 = (0 : Int32)
  · rw [if_pos b5]
    have h := h.1 b5
    obtain ⟨c6, h⟩ := h
    refine mm_blk (M := mm_m_X1_kindNumbered) 2 (S' := (20, [.ref q0, .int x1], [.ref (mm_el (mm_kr q0) 0)], σ2)) (P := [vp_in (0 : Int32) 8, (mm_kr q0) = 1 ∨ (mm_kr q0) = 31 ∨ (mm_kr q0) = 65 ∨ (mm_kr q0) = 74]) rfl ⟨(by unfold vp_in; decide), c6, trivial⟩ ?_
    subst h
    exact mm_rt_ ⟨_, _, _, rfl, ⟨_, _, rfl, rfl, rfl⟩⟩
  · rw [if_neg b5]
    have h := h.2 b5
    obtain ⟨c7, h⟩ := h
    obtain ⟨c8, h⟩ := h
    refine mm_blk (M := mm_m_X1_kindNumbered) 3 (S' := (20, [.ref q0, .int x1], [.ref (mm_el (mm_kr q0) (x1.toNatClampNeg))], σ2)) (P := [vp_in x1 8, (mm_kr q0) = 1 ∨ (mm_kr q0) = 31 ∨ (mm_kr q0) = 65 ∨ (mm_kr q0) = 74]) rfl ⟨c7, c8, trivial⟩ ?_
    subst h
    exact mm_rt_ ⟨_, _, _, rfl, ⟨_, _, rfl, rfl, rfl⟩⟩
theorem sg_X1_isAwake_0 (σ : mm_Sg) (q0 : Nat) (x1 : Int32) (R : Option Value × mm_Sg) (h : (∃ (v3 : Int32) (σ1 : mm_Sg), mm_Ev mm_m_X10_isWaker [.int x1] σ (some (.int v3)) σ1 ∧ (((v3 = (0 : Int32) → (R = (some (.int (0 : Int32)), σ1))) ∧ (¬ (v3 = (0 : Int32)) → ((mm_cl q0 = 1) ∧ ((¬ (((σ1 q0 7) >>> (x1 &&& 31)) &&& (1 : Int32)) = (0 : Int32) → (R = (some (.int (0 : Int32)), σ1))) ∧ (¬ (¬ (((σ1 q0 7) >>> (x1 &&& 31)) &&& (1 : Int32)) = (0 : Int32)) → (R = (some (.int (1 : Int32)), σ1)))))))))) : mm_Go mm_m_X1_isAwake (0, [.ref q0, .int x1], [], σ) R := by
  refine mm_blk (M := mm_m_X1_isAwake) 1 (S' := (1, [.ref q0, .int x1], [.int x1], σ)) (P := []) rfl trivial ?_
  obtain ⟨v3, σ1, e2, h⟩ := h
  refine mm_cl_ (rest := []) e2 ⟨_, _, _, rfl, rfl, mm_tb_X10_isWaker, rfl, rfl, Nat.le_of_ble_eq_true rfl, Nat.le_of_ble_eq_true rfl, trivial⟩ ?_
  refine mm_blk (M := mm_m_X1_isAwake) 1 (S' := ((if v3 = (0 : Int32) then 22 else 7), [.ref q0, .int x1], [], σ1)) (P := []) rfl trivial ?_
  by_cases b4 : v3 = (0 : Int32)
  · rw [if_pos b4]
    have h := h.1 b4
    refine mm_blk (M := mm_m_X1_isAwake) 1 (S' := (23, [.ref q0, .int x1], [.int (0 : Int32)], σ1)) (P := []) rfl trivial ?_
    subst h
    exact mm_rt_ ⟨_, _, _, rfl, ⟨_, _, rfl, rfl, rfl, rfl⟩⟩
  · rw [if_neg b4]
    have h := h.2 b4
    obtain ⟨c5, h⟩ := h
    refine mm_blk (M := mm_m_X1_isAwake) 7 (S' := ((if ¬ (((σ1 q0 7) >>> (x1 &&& 31)) &&& (1 : Int32)) = (0 : Int32) then 22 else 18), [.ref q0, .int x1], [], σ1)) (P := [mm_cl q0 = 1]) rfl ⟨c5, trivial⟩ ?_
    by_cases b6 : ¬ (((σ1 q0 7) >>> (x1 &&& 31)) &&& (1 : Int32)) = (0 : Int32)
    · rw [if_pos b6]
      have h := h.1 b6
      refine mm_blk (M := mm_m_X1_isAwake) 1 (S' := (23, [.ref q0, .int x1], [.int (0 : Int32)], σ1)) (P := []) rfl trivial ?_
      subst h
      exact mm_rt_ ⟨_, _, _, rfl, ⟨_, _, rfl, rfl, rfl, rfl⟩⟩
    · rw [if_neg b6]
      have h := h.2 b6
      refine mm_blk (M := mm_m_X1_isAwake) 2 (S' := (23, [.ref q0, .int x1], [.int (1 : Int32)], σ1)) (P := []) rfl trivial ?_
      subst h
      exact mm_rt_ ⟨_, _, _, rfl, ⟨_, _, rfl, rfl, rfl, rfl⟩⟩
theorem sg_X1_joins_0 (σ : mm_Sg) (q0 : Nat) (x1 : Int32) (x2 : Int32) (x3 : Int32) (R : Option Value × mm_Sg) (h : ((mm_cl q0 = 1) ∧ (((σ q0 6) < (0 : Int32) → (R = (some (.int (0 : Int32)), σ))) ∧ (¬ ((σ q0 6) < (0 : Int32)) → ((((σ q0 6) < (7 : Int32) → ((vp_in (σ q0 6) (mm_len (q0 + 1))) ∧ ∀ σ5 : mm_Sg, σ5 = mm_u σ (q0 + 1) (σ q0 6).toNatClampNeg x1 → ((vp_in (σ5 q0 6) (mm_len (q0 + 2))) ∧ ∀ σ8 : mm_Sg, σ8 = mm_u σ5 (q0 + 2) (σ5 q0 6).toNatClampNeg x2 → ((vp_in (σ8 q0 6) (mm_len (q0 + 3))) ∧ ∀ σ11 : mm_Sg, σ11 = mm_u σ8 (q0 + 3) (σ8 q0 6).toNatClampNeg x3 → ((vp_in (σ11 q0 6) (mm_len (q0 + 4))) ∧ ∀ σ14 : mm_Sg, σ14 = mm_u σ11 (q0 + 4) (σ11 q0 6).toNatClampNeg (0 : Int32) → (∀ σ16 : mm_Sg, σ16 = mm_u σ14 q0 6 ((σ14 q0 6) + (1 : Int32)) → (R = (some (.int (1 : Int32)), σ16)))))))) ∧ (¬ ((σ q0 6) < (7 : Int32)) → (R = (some (.int (0 : Int32)), σ))))))))) : mm_Go mm_m_X1_joins (0, [.ref q0, .int x1, .int x2, .int x3], [], σ) R := by
  obtain ⟨c1, h⟩ := h
  refine mm_blk (M := mm_m_X1_joins) 3 (S' := ((if (σ q0 6) < (0 : Int32) then 16 else 7), [.ref q0, .int x1, .int x2, .int x3], [], σ)) (P := [mm_cl q0 = 1]) rfl ⟨c1, trivial⟩ ?_
  by_cases b2 : (σ q0 6) < (0 : Int32)
  · rw [if_pos b2]
    have h := h.1 b2
    refine mm_blk (M := mm_m_X1_joins) 1 (S' := (17, [.ref q0, .int x1, .int x2, .int x3], [.int (0 : Int32)], σ)) (P := []) rfl trivial ?_
    subst h
    exact mm_rt_ ⟨_, _, _, rfl, ⟨_, _, rfl, rfl, rfl, rfl⟩⟩
  · rw [if_neg b2]
    have h := h.2 b2
    refine mm_blk (M := mm_m_X1_joins) 4 (S' := ((if (σ q0 6) < (7 : Int32) then 18 else 16), [.ref q0, .int x1, .int x2, .int x3], [], σ)) (P := [mm_cl q0 = 1]) rfl ⟨c1, trivial⟩ ?_
    by_cases b3 : (σ q0 6) < (7 : Int32)
    · rw [if_pos b3]
      have h := h.1 b3
      obtain ⟨c4, h⟩ := h
      refine mm_blk (M := mm_m_X1_joins) 6 (S' := (28, [.ref q0, .int x1, .int x2, .int x3], [], mm_u σ (q0 + 1) (σ q0 6).toNatClampNeg x1)) (P := [mm_cl q0 = 1, mm_cl q0 = 1, vp_in (σ q0 6) (mm_len (q0 + 1))]) rfl ⟨c1, c1, c4, trivial⟩ ?_
      obtain ⟨σ5, e6⟩ : ∃ z, z = mm_u σ (q0 + 1) (σ q0 6).toNatClampNeg x1 := ⟨_, rfl⟩
      rw [← e6]
      have h := h σ5 e6
      obtain ⟨c7, h⟩ := h
      refine mm_blk (M := mm_m_X1_joins) 6 (S' := (38, [.ref q0, .int x1, .int x2, .int x3], [], mm_u σ5 (q0 + 2) (σ5 q0 6).toNatClampNeg x2)) (P := [mm_cl q0 = 1, mm_cl q0 = 1, vp_in (σ5 q0 6) (mm_len (q0 + 2))]) rfl ⟨c1, c1, c7, trivial⟩ ?_
      obtain ⟨σ8, e9⟩ : ∃ z, z = mm_u σ5 (q0 + 2) (σ5 q0 6).toNatClampNeg x2 := ⟨_, rfl⟩
      rw [← e9]
      have h := h σ8 e9
      obtain ⟨c10, h⟩ := h
      refine mm_blk (M := mm_m_X1_joins) 6 (S' := (48, [.ref q0, .int x1, .int x2, .int x3], [], mm_u σ8 (q0 + 3) (σ8 q0 6).toNatClampNeg x3)) (P := [mm_cl q0 = 1, mm_cl q0 = 1, vp_in (σ8 q0 6) (mm_len (q0 + 3))]) rfl ⟨c1, c1, c10, trivial⟩ ?_
      obtain ⟨σ11, e12⟩ : ∃ z, z = mm_u σ8 (q0 + 3) (σ8 q0 6).toNatClampNeg x3 := ⟨_, rfl⟩
      rw [← e12]
      have h := h σ11 e12
      obtain ⟨c13, h⟩ := h
      refine mm_blk (M := mm_m_X1_joins) 6 (S' := (58, [.ref q0, .int x1, .int x2, .int x3], [], mm_u σ11 (q0 + 4) (σ11 q0 6).toNatClampNeg (0 : Int32))) (P := [mm_cl q0 = 1, mm_cl q0 = 1, vp_in (σ11 q0 6) (mm_len (q0 + 4))]) rfl ⟨c1, c1, c13, trivial⟩ ?_
      obtain ⟨σ14, e15⟩ : ∃ z, z = mm_u σ11 (q0 + 4) (σ11 q0 6).toNatClampNeg (0 : Int32) := ⟨_, rfl⟩
      rw [← e15]
      have h := h σ14 e15
      refine mm_blk (M := mm_m_X1_joins) 6 (S' := (68, [.ref q0, .int x1, .int x2, .int x3], [], mm_u σ14 q0 6 ((σ14 q0 6) + (1 : Int32)))) (P := [mm_cl q0 = 1, mm_cl q0 = 1]) rfl ⟨c1, c1, trivial⟩ ?_
      obtain ⟨σ16, e17⟩ : ∃ z, z = mm_u σ14 q0 6 ((σ14 q0 6) + (1 : Int32)) := ⟨_, rfl⟩
      rw [← e17]
      have h := h σ16 e17
      refine mm_blk (M := mm_m_X1_joins) 1 (S' := (69, [.ref q0, .int x1, .int x2, .int x3], [.int (1 : Int32)], σ16)) (P := []) rfl trivial ?_
      subst h
      exact mm_rt_ ⟨_, _, _, rfl, ⟨_, _, rfl, rfl, rfl, rfl⟩⟩
    · rw [if_neg b3]
      have h := h.2 b3
      refine mm_blk (M := mm_m_X1_joins) 1 (S' := (17, [.ref q0, .int x1, .int x2, .int x3], [.int (0 : Int32)], σ)) (P := []) rfl trivial ?_
      subst h
      exact mm_rt_ ⟨_, _, _, rfl, ⟨_, _, rfl, rfl, rfl, rfl⟩⟩
theorem sg_X1_thirstOf_0 (σ : mm_Sg) (q0 : Nat) (x1 : Int32) (x2 : Int32) (R : Option Value × mm_Sg) (h : ((mm_cl q0 = 1) ∧ ∃ (v3 : Int32) (σ1 : mm_Sg), mm_Ev mm_m_X1_has [.ref q0, .int x1] σ (some (.int v3)) σ1 ∧ (((v3 = (0 : Int32) → (R = (some (.int (0 : Int32)), σ1))) ∧ (¬ (v3 = (0 : Int32)) → ((vp_in x1 (mm_len (q0 + 1))) ∧ ∃ (q9 : Nat) (σ7 : mm_Sg), mm_Ev mm_m_X1_kindNumbered [.ref q0, .int (σ1 (q0 + 1) x1.toNatClampNeg)] σ1 (some (.ref q9)) σ7 ∧ ((vp_in x1 (mm_len (q0 + 2))) ∧ ∃ (v13 : Int32) (σ11 : mm_Sg), mm_Dv 0 [.ref q9, .int x2, .int (σ7 (q0 + 2) x1.toNatClampNeg)] σ7 (some (.int v13)) σ11 ∧ (R = (some (.int v13), σ11))))))))) : mm_Go mm_m_X1_thirstOf (0, [.ref q0, .int x1, .int x2], [], σ) R := by
  refine mm_blk (M := mm_m_X1_thirstOf) 2 (S' := (2, [.ref q0, .int x1, .int x2], [.int x1, .ref q0], σ)) (P := []) rfl trivial ?_
  obtain ⟨c4, h⟩ := h
  obtain ⟨v3, σ1, e2, h⟩ := h
  refine mm_cl_ (rest := []) e2 ⟨_, _, _, rfl, rfl, mm_tb_X1_has, rfl, rfl, Nat.le_of_ble_eq_true rfl, Nat.le_of_ble_eq_true rfl, ⟨_, rfl, c4⟩⟩ ?_
  refine mm_blk (M := mm_m_X1_thirstOf) 1 (S' := ((if v3 = (0 : Int32) then 31 else 8), [.ref q0, .int x1, .int x2], [], σ1)) (P := []) rfl trivial ?_
  by_cases b5 : v3 = (0 : Int32)
  · rw [if_pos b5]
    have h := h.1 b5
    refine mm_blk (M := mm_m_X1_thirstOf) 1 (S' := (32, [.ref q0, .int x1, .int x2], [.int (0 : Int32)], σ1)) (P := []) rfl trivial ?_
    subst h
    exact mm_rt_ ⟨_, _, _, rfl, ⟨_, _, rfl, rfl, rfl, rfl⟩⟩
  · rw [if_neg b5]
    have h := h.2 b5
    obtain ⟨c6, h⟩ := h
    refine mm_blk (M := mm_m_X1_thirstOf) 5 (S' := (15, [.ref q0, .int x1, .int x2], [.int (σ1 (q0 + 1) x1.toNatClampNeg), .ref q0], σ1)) (P := [mm_cl q0 = 1, vp_in x1 (mm_len (q0 + 1))]) rfl ⟨c4, c6, trivial⟩ ?_
    obtain ⟨q9, σ7, e8, h⟩ := h
    refine mm_cl_ (rest := []) e8 ⟨_, _, _, rfl, rfl, mm_tb_X1_kindNumbered, rfl, rfl, Nat.le_of_ble_eq_true rfl, Nat.le_of_ble_eq_true rfl, ⟨_, rfl, c4⟩⟩ ?_
    obtain ⟨c10, h⟩ := h
    refine mm_blk (M := mm_m_X1_thirstOf) 5 (S' := (25, [.ref q0, .int x1, .int x2], [.int (σ7 (q0 + 2) x1.toNatClampNeg), .int x2, .ref q9], σ7)) (P := [mm_cl q0 = 1, vp_in x1 (mm_len (q0 + 2))]) rfl ⟨c4, c10, trivial⟩ ?_
    obtain ⟨v13, σ11, ⟨M14, dq, dr, de, d1, d2, d3, e12⟩, h⟩ := h
    cases de
    refine mm_cl_ (rest := []) e12 ⟨_, _, _, rfl, rfl, d1, rfl, rfl, Nat.le_of_ble_eq_true rfl, d3, ⟨_, rfl, d2⟩⟩ ?_
    refine mm_blk (M := mm_m_X1_thirstOf) 1 (S' := (32, [.ref q0, .int x1, .int x2], [.int v13], σ11)) (P := []) rfl trivial ?_
    subst h
    exact mm_rt_ ⟨_, _, _, rfl, ⟨_, _, rfl, rfl, rfl, rfl⟩⟩
theorem sg_X1_thirstOfAll_0 (σ : mm_Sg) (q0 : Nat) (x1 : Int32) (R : Option Value × mm_Sg) (h : mm_Go mm_m_X1_thirstOfAll (4, [.ref q0, .int x1, .int (0 : Int32), .int (0 : Int32)], [], σ) R) : mm_Go mm_m_X1_thirstOfAll (0, [.ref q0, .int x1, .null, .null], [], σ) R := by
  refine mm_blk (M := mm_m_X1_thirstOfAll) 4 (S' := (4, [.ref q0, .int x1, .int (0 : Int32), .int (0 : Int32)], [], σ)) (P := []) rfl trivial ?_
  exact h
theorem sg_X1_thirstOfAll_4 (σ : mm_Sg) (q0 : Nat) (x1 : Int32) (x2 : Int32) (x3 : Int32) (R : Option Value × mm_Sg) (h : ((mm_cl q0 = 1) ∧ (((σ q0 6) ≤ x3 → (R = (some (.int x2), σ))) ∧ (¬ ((σ q0 6) ≤ x3) → (∃ (v5 : Int32) (σ3 : mm_Sg), mm_Ev mm_m_X1_thirstOf [.ref q0, .int x3, .int x1] σ (some (.int v5)) σ3 ∧ mm_Go mm_m_X1_thirstOfAll (4, [.ref q0, .int x1, .int (x2 + v5), .int (x3 + (1 : Int32))], [], σ3) R))))) : mm_Go mm_m_X1_thirstOfAll (4, [.ref q0, .int x1, .int x2, .int x3], [], σ) R := by
  obtain ⟨c1, h⟩ := h
  refine mm_blk (M := mm_m_X1_thirstOfAll) 4 (S' := ((if (σ q0 6) ≤ x3 then 27 else 12), [.ref q0, .int x1, .int x2, .int x3], [], σ)) (P := [mm_cl q0 = 1]) rfl ⟨c1, trivial⟩ ?_
  by_cases b2 : (σ q0 6) ≤ x3
  · rw [if_pos b2]
    have h := h.1 b2
    refine mm_blk (M := mm_m_X1_thirstOfAll) 1 (S' := (28, [.ref q0, .int x1, .int x2, .int x3], [.int x2], σ)) (P := []) rfl trivial ?_
    subst h
    exact mm_rt_ ⟨_, _, _, rfl, ⟨_, _, rfl, rfl, rfl, rfl⟩⟩
  · rw [if_neg b2]
    have h := h.2 b2
    refine mm_blk (M := mm_m_X1_thirstOfAll) 4 (S' := (16, [.ref q0, .int x1, .int x2, .int x3], [.int x1, .int x3, .ref q0, .int x2], σ)) (P := []) rfl trivial ?_
    obtain ⟨v5, σ3, e4, h⟩ := h
    refine mm_cl_ (rest := [.int x2]) e4 ⟨_, _, _, rfl, rfl, mm_tb_X1_thirstOf, rfl, rfl, Nat.le_of_ble_eq_true rfl, Nat.le_of_ble_eq_true rfl, ⟨_, rfl, c1⟩⟩ ?_
    refine mm_blk (M := mm_m_X1_thirstOfAll) 4 (S' := (4, [.ref q0, .int x1, .int (x2 + v5), .int (x3 + (1 : Int32))], [], σ3)) (P := []) rfl trivial ?_
    exact h
theorem sg_X1_goDays_0 (σ : mm_Sg) (q0 : Nat) (x1 : Int32) (R : Option Value × mm_Sg) (h : mm_Go mm_m_X1_goDays (2, [.ref q0, .int x1, .int (0 : Int32), .null], [], σ) R) : mm_Go mm_m_X1_goDays (0, [.ref q0, .int x1, .null, .null], [], σ) R := by
  refine mm_blk (M := mm_m_X1_goDays) 2 (S' := (2, [.ref q0, .int x1, .int (0 : Int32), .null], [], σ)) (P := []) rfl trivial ?_
  exact h
theorem sg_X1_goDays_2 (σ : mm_Sg) (q0 : Nat) (x1 : Int32) (x2 : Int32) (d3 : Value) (R : Option Value × mm_Sg) (h : (((x1 ≤ x2 → (R = (none, σ))) ∧ (¬ (x1 ≤ x2) → ((mm_cl q0 = 1) ∧ ∀ σ3 : mm_Sg, σ3 = mm_u σ q0 9 ((σ q0 9) + (1 : Int32)) → (∃ (σ5 : mm_Sg), mm_Ev mm_m_X1_restSleepers [.ref q0] σ3 none σ5 ∧ mm_Go mm_m_X1_goDays (23, [.ref q0, .int x1, .int x2, .int (0 : Int32)], [], σ5) R)))))) : mm_Go mm_m_X1_goDays (2, [.ref q0, .int x1, .int x2, d3], [], σ) R := by
  refine mm_blk (M := mm_m_X1_goDays) 3 (S' := ((if x1 ≤ x2 then 52 else 7), [.ref q0, .int x1, .int x2, d3], [], σ)) (P := []) rfl trivial ?_
  by_cases b1 : x1 ≤ x2
  · rw [if_pos b1]
    have h := h.1 b1
    subst h
    exact mm_rt_ ⟨_, _, _, rfl, ⟨rfl, rfl, rfl⟩⟩
  · rw [if_neg b1]
    have h := h.2 b1
    obtain ⟨c2, h⟩ := h
    refine mm_blk (M := mm_m_X1_goDays) 6 (S' := (17, [.ref q0, .int x1, .int x2, d3], [], mm_u σ q0 9 ((σ q0 9) + (1 : Int32)))) (P := [mm_cl q0 = 1, mm_cl q0 = 1]) rfl ⟨c2, c2, trivial⟩ ?_
    obtain ⟨σ3, e4⟩ : ∃ z, z = mm_u σ q0 9 ((σ q0 9) + (1 : Int32)) := ⟨_, rfl⟩
    rw [← e4]
    have h := h σ3 e4
    refine mm_blk (M := mm_m_X1_goDays) 1 (S' := (18, [.ref q0, .int x1, .int x2, d3], [.ref q0], σ3)) (P := []) rfl trivial ?_
    obtain ⟨σ5, e6, h⟩ := h
    refine mm_cl_ (rest := []) e6 ⟨_, _, _, rfl, rfl, mm_tb_X1_restSleepers, rfl, rfl, Nat.le_of_ble_eq_true rfl, Nat.le_of_ble_eq_true rfl, ⟨_, rfl, c2⟩⟩ ?_
    refine mm_blk (M := mm_m_X1_goDays) 2 (S' := (23, [.ref q0, .int x1, .int x2, .int (0 : Int32)], [], σ5)) (P := []) rfl trivial ?_
    exact h
theorem sg_X1_goDays_23 (σ : mm_Sg) (q0 : Nat) (x1 : Int32) (x2 : Int32) (x3 : Int32) (R : Option Value × mm_Sg) (h : ((mm_cl q0 = 1) ∧ (((σ q0 6) ≤ x3 → (∃ (σ3 : mm_Sg), mm_Ev mm_m_X1_endDay [.ref q0] σ none σ3 ∧ mm_Go mm_m_X1_goDays (2, [.ref q0, .int x1, .int (x2 + (1 : Int32)), .int x3], [], σ3) R)) ∧ (¬ ((σ q0 6) ≤ x3) → (∃ (σ5 : mm_Sg), mm_Ev mm_m_X1_pour [.ref q0, .int x3] σ none σ5 ∧ mm_Go mm_m_X1_goDays (23, [.ref q0, .int x1, .int x2, .int (x3 + (1 : Int32))], [], σ5) R))))) : mm_Go mm_m_X1_goDays (23, [.ref q0, .int x1, .int x2, .int x3], [], σ) R := by
  obtain ⟨c1, h⟩ := h
  refine mm_blk (M := mm_m_X1_goDays) 4 (S' := ((if (σ q0 6) ≤ x3 then 42 else 31), [.ref q0, .int x1, .int x2, .int x3], [], σ)) (P := [mm_cl q0 = 1]) rfl ⟨c1, trivial⟩ ?_
  by_cases b2 : (σ q0 6) ≤ x3
  · rw [if_pos b2]
    have h := h.1 b2
    refine mm_blk (M := mm_m_X1_goDays) 1 (S' := (43, [.ref q0, .int x1, .int x2, .int x3], [.ref q0], σ)) (P := []) rfl trivial ?_
    obtain ⟨σ3, e4, h⟩ := h
    refine mm_cl_ (rest := []) e4 ⟨_, _, _, rfl, rfl, mm_tb_X1_endDay, rfl, rfl, Nat.le_of_ble_eq_true rfl, Nat.le_of_ble_eq_true rfl, ⟨_, rfl, c1⟩⟩ ?_
    refine mm_blk (M := mm_m_X1_goDays) 2 (S' := (2, [.ref q0, .int x1, .int (x2 + (1 : Int32)), .int x3], [], σ3)) (P := []) rfl trivial ?_
    exact h
  · rw [if_neg b2]
    have h := h.2 b2
    refine mm_blk (M := mm_m_X1_goDays) 2 (S' := (33, [.ref q0, .int x1, .int x2, .int x3], [.int x3, .ref q0], σ)) (P := []) rfl trivial ?_
    obtain ⟨σ5, e6, h⟩ := h
    refine mm_cl_ (rest := []) e6 ⟨_, _, _, rfl, rfl, mm_tb_X1_pour, rfl, rfl, Nat.le_of_ble_eq_true rfl, Nat.le_of_ble_eq_true rfl, ⟨_, rfl, c1⟩⟩ ?_
    refine mm_blk (M := mm_m_X1_goDays) 2 (S' := (23, [.ref q0, .int x1, .int x2, .int (x3 + (1 : Int32))], [], σ5)) (P := []) rfl trivial ?_
    exact h
theorem sg_X1_restSleepers_0 (σ : mm_Sg) (q0 : Nat) (R : Option Value × mm_Sg) (h : mm_Go mm_m_X1_restSleepers (2, [.ref q0, .int (0 : Int32)], [], σ) R) : mm_Go mm_m_X1_restSleepers (0, [.ref q0, .null], [], σ) R := by
  refine mm_blk (M := mm_m_X1_restSleepers) 2 (S' := (2, [.ref q0, .int (0 : Int32)], [], σ)) (P := []) rfl trivial ?_
  exact h
theorem sg_X1_restSleepers_2 (σ : mm_Sg) (q0 : Nat) (x1 : Int32) (R : Option Value × mm_Sg) (h : ((((5 : Int32) ≤ x1 → (R = (none, σ))) ∧ (¬ ((5 : Int32) ≤ x1) → ((mm_cl q0 = 1) ∧ ∃ (v4 : Int32) (σ2 : mm_Sg), mm_Ev mm_m_X1_isAwake [.ref q0, .int x1] σ (some (.int v4)) σ2 ∧ (((¬ v4 = (0 : Int32) → mm_Go mm_m_X1_restSleepers (2, [.ref q0, .int (x1 + (1 : Int32))], [], σ2) R) ∧ (¬ (¬ v4 = (0 : Int32)) → ((vp_in x1 (mm_len (q0 + 5))) ∧ ∀ σ8 : mm_Sg, σ8 = mm_u σ2 (q0 + 5) x1.toNatClampNeg (if (0 : Int32) < ((σ2 (q0 + 5) x1.toNatClampNeg) - (15 : Int32)) then ((σ2 (q0 + 5) x1.toNatClampNeg) - (15 : Int32)) else (0 : Int32)) → ((((20 : Int32) ≤ (σ8 (q0 + 5) x1.toNatClampNeg) → mm_Go mm_m_X1_restSleepers (2, [.ref q0, .int (x1 + (1 : Int32))], [], σ8) R) ∧ (¬ ((20 : Int32) ≤ (σ8 (q0 + 5) x1.toNatClampNeg)) → (((¬ (((σ8 q0 13) >>> (x1 &&& 31)) &&& (1 : Int32)) = (0 : Int32) → mm_Go mm_m_X1_restSleepers (2, [.ref q0, .int (x1 + (1 : Int32))], [], σ8) R) ∧ (¬ (¬ (((σ8 q0 13) >>> (x1 &&& 31)) &&& (1 : Int32)) = (0 : Int32)) → (∀ σ12 : mm_Sg, σ12 = mm_u σ8 q0 7 ((σ8 q0 7) &&& (((1 : Int32) <<< (x1 &&& 31)) ^^^ (-1 : Int32))) → mm_Go mm_m_X1_restSleepers (2, [.ref q0, .int (x1 + (1 : Int32))], [], σ12) R)))))))))))))))) : mm_Go mm_m_X1_restSleepers (2, [.ref q0, .int x1], [], σ) R := by
  refine mm_blk (M := mm_m_X1_restSleepers) 3 (S' := ((if (5 : Int32) ≤ x1 then 76 else 7), [.ref q0, .int x1], [], σ)) (P := []) rfl trivial ?_
  by_cases b1 : (5 : Int32) ≤ x1
  · rw [if_pos b1]
    have h := h.1 b1
    subst h
    exact mm_rt_ ⟨_, _, _, rfl, ⟨rfl, rfl, rfl⟩⟩
  · rw [if_neg b1]
    have h := h.2 b1
    refine mm_blk (M := mm_m_X1_restSleepers) 2 (S' := (9, [.ref q0, .int x1], [.int x1, .ref q0], σ)) (P := []) rfl trivial ?_
    obtain ⟨c5, h⟩ := h
    obtain ⟨v4, σ2, e3, h⟩ := h
    refine mm_cl_ (rest := []) e3 ⟨_, _, _, rfl, rfl, mm_tb_X1_isAwake, rfl, rfl, Nat.le_of_ble_eq_true rfl, Nat.le_of_ble_eq_true rfl, ⟨_, rfl, c5⟩⟩ ?_
    refine mm_blk (M := mm_m_X1_restSleepers) 1 (S' := ((if ¬ v4 = (0 : Int32) then 70 else 15), [.ref q0, .int x1], [], σ2)) (P := []) rfl trivial ?_
    by_cases b6 : ¬ v4 = (0 : Int32)
    · rw [if_pos b6]
      have h := h.1 b6
      refine mm_blk (M := mm_m_X1_restSleepers) 2 (S' := (2, [.ref q0, .int (x1 + (1 : Int32))], [], σ2)) (P := []) rfl trivial ?_
      exact h
    · rw [if_neg b6]
      have h := h.2 b6
      obtain ⟨c7, h⟩ := h
      refine mm_blk (M := mm_m_X1_restSleepers) 12 (S' := (34, [.ref q0, .int x1], [], mm_u σ2 (q0 + 5) x1.toNatClampNeg (if (0 : Int32) < ((σ2 (q0 + 5) x1.toNatClampNeg) - (15 : Int32)) then ((σ2 (q0 + 5) x1.toNatClampNeg) - (15 : Int32)) else (0 : Int32)))) (P := [mm_cl q0 = 1, mm_cl q0 = 1, vp_in x1 (mm_len (q0 + 5)), vp_in x1 (mm_len (q0 + 5))]) rfl ⟨c5, c5, c7, c7, trivial⟩ ?_
      obtain ⟨σ8, e9⟩ : ∃ z, z = mm_u σ2 (q0 + 5) x1.toNatClampNeg (if (0 : Int32) < ((σ2 (q0 + 5) x1.toNatClampNeg) - (15 : Int32)) then ((σ2 (q0 + 5) x1.toNatClampNeg) - (15 : Int32)) else (0 : Int32)) := ⟨_, rfl⟩
      rw [← e9]
      have h := h σ8 e9
      refine mm_blk (M := mm_m_X1_restSleepers) 6 (S' := ((if (20 : Int32) ≤ (σ8 (q0 + 5) x1.toNatClampNeg) then 70 else 45), [.ref q0, .int x1], [], σ8)) (P := [mm_cl q0 = 1, vp_in x1 (mm_len (q0 + 5))]) rfl ⟨c5, c7, trivial⟩ ?_
      by_cases b10 : (20 : Int32) ≤ (σ8 (q0 + 5) x1.toNatClampNeg)
      · rw [if_pos b10]
        have h := h.1 b10
        refine mm_blk (M := mm_m_X1_restSleepers) 2 (S' := (2, [.ref q0, .int (x1 + (1 : Int32))], [], σ8)) (P := []) rfl trivial ?_
        exact h
      · rw [if_neg b10]
        have h := h.2 b10
        refine mm_blk (M := mm_m_X1_restSleepers) 7 (S' := ((if ¬ (((σ8 q0 13) >>> (x1 &&& 31)) &&& (1 : Int32)) = (0 : Int32) then 70 else 56), [.ref q0, .int x1], [], σ8)) (P := [mm_cl q0 = 1]) rfl ⟨c5, trivial⟩ ?_
        by_cases b11 : ¬ (((σ8 q0 13) >>> (x1 &&& 31)) &&& (1 : Int32)) = (0 : Int32)
        · rw [if_pos b11]
          have h := h.1 b11
          refine mm_blk (M := mm_m_X1_restSleepers) 2 (S' := (2, [.ref q0, .int (x1 + (1 : Int32))], [], σ8)) (P := []) rfl trivial ?_
          exact h
        · rw [if_neg b11]
          have h := h.2 b11
          refine mm_blk (M := mm_m_X1_restSleepers) 10 (S' := (70, [.ref q0, .int x1], [], mm_u σ8 q0 7 ((σ8 q0 7) &&& (((1 : Int32) <<< (x1 &&& 31)) ^^^ (-1 : Int32))))) (P := [mm_cl q0 = 1, mm_cl q0 = 1]) rfl ⟨c5, c5, trivial⟩ ?_
          obtain ⟨σ12, e13⟩ : ∃ z, z = mm_u σ8 q0 7 ((σ8 q0 7) &&& (((1 : Int32) <<< (x1 &&& 31)) ^^^ (-1 : Int32))) := ⟨_, rfl⟩
          rw [← e13]
          have h := h σ12 e13
          refine mm_blk (M := mm_m_X1_restSleepers) 2 (S' := (2, [.ref q0, .int (x1 + (1 : Int32))], [], σ12)) (P := []) rfl trivial ?_
          exact h
theorem sg_X1_pour_0 (σ : mm_Sg) (q0 : Nat) (x1 : Int32) (R : Option Value × mm_Sg) (h : ((mm_cl q0 = 1) ∧ ∃ (v3 : Int32) (σ1 : mm_Sg), mm_Ev mm_m_X1_has [.ref q0, .int x1] σ (some (.int v3)) σ1 ∧ (((¬ v3 = (0 : Int32) → ((vp_in x1 (mm_len (q0 + 1))) ∧ ∃ (q9 : Nat) (σ7 : mm_Sg), mm_Ev mm_m_X1_kindNumbered [.ref q0, .int (σ1 (q0 + 1) x1.toNatClampNeg)] σ1 (some (.ref q9)) σ7 ∧ ((((((σ7 q0 12) >>> (x1 &&& 31)) &&& (1 : Int32)) = (0 : Int32) → ((vp_in x1 (mm_len (q0 + 2))) ∧ ∃ (v14 : Int32) (σ12 : mm_Sg), mm_Dv 0 [.ref q9, .int (σ7 q0 9), .int (σ7 (q0 + 2) x1.toNatClampNeg)] σ7 (some (.int v14)) σ12 ∧ (((¬ x1 = (σ12 q0 11) → mm_Go mm_m_X1_pour (65, [.ref q0, .int x1, .ref q9, .int v14, .null, .null], [.int v14], σ12) R) ∧ (¬ (¬ x1 = (σ12 q0 11)) → mm_Go mm_m_X1_pour (65, [.ref q0, .int x1, .ref q9, .int v14, .null, .null], [.int (v14 / (2 : Int32))], σ12) R))))) ∧ (¬ ((((σ7 q0 12) >>> (x1 &&& 31)) &&& (1 : Int32)) = (0 : Int32)) → (((¬ x1 = (σ7 q0 11) → mm_Go mm_m_X1_pour (65, [.ref q0, .int x1, .ref q9, .int (0 : Int32), .null, .null], [.int (0 : Int32)], σ7) R) ∧ (¬ (¬ x1 = (σ7 q0 11)) → mm_Go mm_m_X1_pour (65, [.ref q0, .int x1, .ref q9, .int (0 : Int32), .null, .null], [.int ((0 : Int32) / (2 : Int32))], σ7) R)))))))) ∧ (¬ (¬ v3 = (0 : Int32)) → (R = (none, σ1))))))) : mm_Go mm_m_X1_pour (0, [.ref q0, .int x1, .null, .null, .null, .null], [], σ) R := by
  refine mm_blk (M := mm_m_X1_pour) 2 (S' := (2, [.ref q0, .int x1, .null, .null, .null, .null], [.int x1, .ref q0], σ)) (P := []) rfl trivial ?_
  obtain ⟨c4, h⟩ := h
  obtain ⟨v3, σ1, e2, h⟩ := h
  refine mm_cl_ (rest := []) e2 ⟨_, _, _, rfl, rfl, mm_tb_X1_has, rfl, rfl, Nat.le_of_ble_eq_true rfl, Nat.le_of_ble_eq_true rfl, ⟨_, rfl, c4⟩⟩ ?_
  refine mm_blk (M := mm_m_X1_pour) 1 (S' := ((if ¬ v3 = (0 : Int32) then 9 else 8), [.ref q0, .int x1, .null, .null, .null, .null], [], σ1)) (P := []) rfl trivial ?_
  by_cases b5 : ¬ v3 = (0 : Int32)
  · rw [if_pos b5]
    have h := h.1 b5
    obtain ⟨c6, h⟩ := h
    refine mm_blk (M := mm_m_X1_pour) 5 (S' := (16, [.ref q0, .int x1, .null, .null, .null, .null], [.int (σ1 (q0 + 1) x1.toNatClampNeg), .ref q0], σ1)) (P := [mm_cl q0 = 1, vp_in x1 (mm_len (q0 + 1))]) rfl ⟨c4, c6, trivial⟩ ?_
    obtain ⟨q9, σ7, e8, h⟩ := h
    refine mm_cl_ (rest := []) e8 ⟨_, _, _, rfl, rfl, mm_tb_X1_kindNumbered, rfl, rfl, Nat.le_of_ble_eq_true rfl, Nat.le_of_ble_eq_true rfl, ⟨_, rfl, c4⟩⟩ ?_
    refine mm_blk (M := mm_m_X1_pour) 8 (S' := ((if (((σ7 q0 12) >>> (x1 &&& 31)) &&& (1 : Int32)) = (0 : Int32) then 35 else 31), [.ref q0, .int x1, .ref q9, .null, .null, .null], [], σ7)) (P := [mm_cl q0 = 1]) rfl ⟨c4, trivial⟩ ?_
    by_cases b10 : (((σ7 q0 12) >>> (x1 &&& 31)) &&& (1 : Int32)) = (0 : Int32)
    · rw [if_pos b10]
      have h := h.1 b10
      obtain ⟨c11, h⟩ := h
      refine mm_blk (M := mm_m_X1_pour) 7 (S' := (46, [.ref q0, .int x1, .ref q9, .null, .null, .null], [.int (σ7 (q0 + 2) x1.toNatClampNeg), .int (σ7 q0 9), .ref q9], σ7)) (P := [mm_cl q0 = 1, mm_cl q0 = 1, vp_in x1 (mm_len (q0 + 2))]) rfl ⟨c4, c4, c11, trivial⟩ ?_
      obtain ⟨v14, σ12, ⟨M16, dq, dr, de, d1, d2, d3, e13⟩, h⟩ := h
      cases de
      refine mm_cl_ (rest := []) e13 ⟨_, _, _, rfl, rfl, d1, rfl, rfl, Nat.le_of_ble_eq_true rfl, d3, ⟨_, rfl, d2⟩⟩ ?_
      refine mm_blk (M := mm_m_X1_pour) 5 (S' := ((if ¬ x1 = (σ12 q0 11) then 64 else 58), [.ref q0, .int x1, .ref q9, .int v14, .null, .null], [], σ12)) (P := [mm_cl q0 = 1]) rfl ⟨c4, trivial⟩ ?_
      by_cases b15 : ¬ x1 = (σ12 q0 11)
      · rw [if_pos b15]
        have h := h.1 b15
        refine mm_blk (M := mm_m_X1_pour) 1 (S' := (65, [.ref q0, .int x1, .ref q9, .int v14, .null, .null], [.int v14], σ12)) (P := []) rfl trivial ?_
        exact h
      · rw [if_neg b15]
        have h := h.2 b15
        refine mm_blk (M := mm_m_X1_pour) 4 (S' := (65, [.ref q0, .int x1, .ref q9, .int v14, .null, .null], [.int (v14 / (2 : Int32))], σ12)) (P := [¬ (2 : Int32) = 0]) rfl ⟨(by decide), trivial⟩ ?_
        exact h
    · rw [if_neg b10]
      have h := h.2 b10
      refine mm_blk (M := mm_m_X1_pour) 7 (S' := ((if ¬ x1 = (σ7 q0 11) then 64 else 58), [.ref q0, .int x1, .ref q9, .int (0 : Int32), .null, .null], [], σ7)) (P := [mm_cl q0 = 1]) rfl ⟨c4, trivial⟩ ?_
      by_cases b17 : ¬ x1 = (σ7 q0 11)
      · rw [if_pos b17]
        have h := h.1 b17
        refine mm_blk (M := mm_m_X1_pour) 1 (S' := (65, [.ref q0, .int x1, .ref q9, .int (0 : Int32), .null, .null], [.int (0 : Int32)], σ7)) (P := []) rfl trivial ?_
        exact h
      · rw [if_neg b17]
        have h := h.2 b17
        refine mm_blk (M := mm_m_X1_pour) 4 (S' := (65, [.ref q0, .int x1, .ref q9, .int (0 : Int32), .null, .null], [.int ((0 : Int32) / (2 : Int32))], σ7)) (P := [¬ (2 : Int32) = 0]) rfl ⟨(by decide), trivial⟩ ?_
        exact h
  · rw [if_neg b5]
    have h := h.2 b5
    subst h
    exact mm_rt_ ⟨_, _, _, rfl, ⟨rfl, rfl, rfl⟩⟩
theorem sg_X1_pour_65 (σ : mm_Sg) (q0 : Nat) (x1 : Int32) (q2 : Nat) (x3 : Int32) (s0 : Int32) (R : Option Value × mm_Sg) (h : ((mm_cl q0 = 1) ∧ ∀ σ2 : mm_Sg, σ2 = mm_u σ q0 8 ((σ q0 8) - (if (σ q0 8) < s0 then (σ q0 8) else s0)) → ((vp_in x1 (mm_len (q0 + 6))) ∧ ∀ σ5 : mm_Sg, σ5 = mm_u σ2 (q0 + 6) x1.toNatClampNeg ((σ2 (q0 + 6) x1.toNatClampNeg) + (if (σ q0 8) < s0 then (σ q0 8) else s0)) → ((vp_in x1 (mm_len (q0 + 3))) ∧ ∃ (v10 : Int32) (σ8 : mm_Sg), mm_Ev mm_m_X1_isAwake [.ref q0, .int (σ5 (q0 + 3) x1.toNatClampNeg)] σ5 (some (.int v10)) σ8 ∧ (((v10 = (0 : Int32) → ((vp_in x1 (mm_len (q0 + 4))) ∧ (vp_in x1 (mm_len (q0 + 2))) ∧ ∃ (v16 : Int32) (σ14 : mm_Sg), mm_Dv 2 [.ref q2, .int (if (σ q0 8) < s0 then (σ q0 8) else s0), .int (σ8 (q0 + 2) x1.toNatClampNeg)] σ8 (some (.int v16)) σ14 ∧ (∀ σ17 : mm_Sg, σ17 = mm_u σ14 (q0 + 4) x1.toNatClampNeg (if ((σ8 (q0 + 4) x1.toNatClampNeg) + v16) < (999 : Int32) then ((σ8 (q0 + 4) x1.toNatClampNeg) + v16) else (999 : Int32)) → (R = (none, σ17))))) ∧ (¬ (v10 = (0 : Int32)) → ((vp_in (σ5 (q0 + 3) x1.toNatClampNeg) (mm_len (q0 + 5))) ∧ (vp_in x1 (mm_len (q0 + 2))) ∧ ∃ (v24 : Int32) (σ22 : mm_Sg), mm_Dv 1 [.ref q2, .int (if (σ q0 8) < s0 then (σ q0 8) else s0), .int (σ8 (q0 + 2) x1.toNatClampNeg)] σ8 (some (.int v24)) σ22 ∧ (∀ σ25 : mm_Sg, σ25 = mm_u σ22 (q0 + 5) (σ5 (q0 + 3) x1.toNatClampNeg).toNatClampNeg (if ((σ8 (q0 + 5) (σ5 (q0 + 3) x1.toNatClampNeg).toNatClampNeg) + v24) < (99 : Int32) then ((σ8 (q0 + 5) (σ5 (q0 + 3) x1.toNatClampNeg).toNatClampNeg) + v24) else (99 : Int32)) → (R = (none, σ25))))))))))) : mm_Go mm_m_X1_pour (65, [.ref q0, .int x1, .ref q2, .int x3, .null, .null], [.int s0], σ) R := by
  obtain ⟨c1, h⟩ := h
  refine mm_blk (M := mm_m_X1_pour) 10 (S' := (85, [.ref q0, .int x1, .ref q2, .int x3, .int (if (σ q0 8) < s0 then (σ q0 8) else s0), .null], [], mm_u σ q0 8 ((σ q0 8) - (if (σ q0 8) < s0 then (σ q0 8) else s0)))) (P := [mm_cl q0 = 1, mm_cl q0 = 1, mm_cl q0 = 1]) rfl ⟨c1, c1, c1, trivial⟩ ?_
  obtain ⟨σ2, e3⟩ : ∃ z, z = mm_u σ q0 8 ((σ q0 8) - (if (σ q0 8) < s0 then (σ q0 8) else s0)) := ⟨_, rfl⟩
  rw [← e3]
  have h := h σ2 e3
  obtain ⟨c4, h⟩ := h
  refine mm_blk (M := mm_m_X1_pour) 8 (S' := (96, [.ref q0, .int x1, .ref q2, .int x3, .int (if (σ q0 8) < s0 then (σ q0 8) else s0), .null], [], mm_u σ2 (q0 + 6) x1.toNatClampNeg ((σ2 (q0 + 6) x1.toNatClampNeg) + (if (σ q0 8) < s0 then (σ q0 8) else s0)))) (P := [mm_cl q0 = 1, vp_in x1 (mm_len (q0 + 6)), vp_in x1 (mm_len (q0 + 6))]) rfl ⟨c1, c4, c4, trivial⟩ ?_
  obtain ⟨σ5, e6⟩ : ∃ z, z = mm_u σ2 (q0 + 6) x1.toNatClampNeg ((σ2 (q0 + 6) x1.toNatClampNeg) + (if (σ q0 8) < s0 then (σ q0 8) else s0)) := ⟨_, rfl⟩
  rw [← e6]
  have h := h σ5 e6
  obtain ⟨c7, h⟩ := h
  refine mm_blk (M := mm_m_X1_pour) 7 (S' := (107, [.ref q0, .int x1, .ref q2, .int x3, .int (if (σ q0 8) < s0 then (σ q0 8) else s0), .int (σ5 (q0 + 3) x1.toNatClampNeg)], [.int (σ5 (q0 + 3) x1.toNatClampNeg), .ref q0], σ5)) (P := [mm_cl q0 = 1, vp_in x1 (mm_len (q0 + 3))]) rfl ⟨c1, c7, trivial⟩ ?_
  obtain ⟨v10, σ8, e9, h⟩ := h
  refine mm_cl_ (rest := []) e9 ⟨_, _, _, rfl, rfl, mm_tb_X1_isAwake, rfl, rfl, Nat.le_of_ble_eq_true rfl, Nat.le_of_ble_eq_true rfl, ⟨_, rfl, c1⟩⟩ ?_
  refine mm_blk (M := mm_m_X1_pour) 1 (S' := ((if v10 = (0 : Int32) then 148 else 113), [.ref q0, .int x1, .ref q2, .int x3, .int (if (σ q0 8) < s0 then (σ q0 8) else s0), .int (σ5 (q0 + 3) x1.toNatClampNeg)], [], σ8)) (P := []) rfl trivial ?_
  by_cases b11 : v10 = (0 : Int32)
  · rw [if_pos b11]
    have h := h.1 b11
    obtain ⟨c12, h⟩ := h
    obtain ⟨c13, h⟩ := h
    refine mm_blk (M := mm_m_X1_pour) 14 (S' := (171, [.ref q0, .int x1, .ref q2, .int x3, .int (if (σ q0 8) < s0 then (σ q0 8) else s0), .int (σ5 (q0 + 3) x1.toNatClampNeg)], [.int (σ8 (q0 + 2) x1.toNatClampNeg), .int (if (σ q0 8) < s0 then (σ q0 8) else s0), .ref q2, .int (σ8 (q0 + 4) x1.toNatClampNeg), .int (999 : Int32), .int x1, .ref (q0 + 4)], σ8)) (P := [mm_cl q0 = 1, mm_cl q0 = 1, vp_in x1 (mm_len (q0 + 4)), mm_cl q0 = 1, vp_in x1 (mm_len (q0 + 2))]) rfl ⟨c1, c1, c12, c1, c13, trivial⟩ ?_
    obtain ⟨v16, σ14, ⟨M19, dq, dr, de, d1, d2, d3, e15⟩, h⟩ := h
    cases de
    refine mm_cl_ (rest := [.int (σ8 (q0 + 4) x1.toNatClampNeg), .int (999 : Int32), .int x1, .ref (q0 + 4)]) e15 ⟨_, _, _, rfl, rfl, d1, rfl, rfl, Nat.le_of_ble_eq_true rfl, d3, ⟨_, rfl, d2⟩⟩ ?_
    refine mm_blk (M := mm_m_X1_pour) 3 (S' := (179, [.ref q0, .int x1, .ref q2, .int x3, .int (if (σ q0 8) < s0 then (σ q0 8) else s0), .int (σ5 (q0 + 3) x1.toNatClampNeg)], [], mm_u σ14 (q0 + 4) x1.toNatClampNeg (if ((σ8 (q0 + 4) x1.toNatClampNeg) + v16) < (999 : Int32) then ((σ8 (q0 + 4) x1.toNatClampNeg) + v16) else (999 : Int32)))) (P := [vp_in x1 (mm_len (q0 + 4))]) rfl ⟨c12, trivial⟩ ?_
    obtain ⟨σ17, e18⟩ : ∃ z, z = mm_u σ14 (q0 + 4) x1.toNatClampNeg (if ((σ8 (q0 + 4) x1.toNatClampNeg) + v16) < (999 : Int32) then ((σ8 (q0 + 4) x1.toNatClampNeg) + v16) else (999 : Int32)) := ⟨_, rfl⟩
    rw [← e18]
    have h := h σ17 e18
    subst h
    exact mm_rt_ ⟨_, _, _, rfl, ⟨rfl, rfl, rfl⟩⟩
  · rw [if_neg b11]
    have h := h.2 b11
    obtain ⟨c20, h⟩ := h
    obtain ⟨c21, h⟩ := h
    refine mm_blk (M := mm_m_X1_pour) 14 (S' := (137, [.ref q0, .int x1, .ref q2, .int x3, .int (if (σ q0 8) < s0 then (σ q0 8) else s0), .int (σ5 (q0 + 3) x1.toNatClampNeg)], [.int (σ8 (q0 + 2) x1.toNatClampNeg), .int (if (σ q0 8) < s0 then (σ q0 8) else s0), .ref q2, .int (σ8 (q0 + 5) (σ5 (q0 + 3) x1.toNatClampNeg).toNatClampNeg), .int (99 : Int32), .int (σ5 (q0 + 3) x1.toNatClampNeg), .ref (q0 + 5)], σ8)) (P := [mm_cl q0 = 1, mm_cl q0 = 1, vp_in (σ5 (q0 + 3) x1.toNatClampNeg) (mm_len (q0 + 5)), mm_cl q0 = 1, vp_in x1 (mm_len (q0 + 2))]) rfl ⟨c1, c1, c20, c1, c21, trivial⟩ ?_
    obtain ⟨v24, σ22, ⟨M27, dq, dr, de, d1, d2, d3, e23⟩, h⟩ := h
    cases de
    refine mm_cl_ (rest := [.int (σ8 (q0 + 5) (σ5 (q0 + 3) x1.toNatClampNeg).toNatClampNeg), .int (99 : Int32), .int (σ5 (q0 + 3) x1.toNatClampNeg), .ref (q0 + 5)]) e23 ⟨_, _, _, rfl, rfl, d1, rfl, rfl, Nat.le_of_ble_eq_true rfl, d3, ⟨_, rfl, d2⟩⟩ ?_
    refine mm_blk (M := mm_m_X1_pour) 3 (S' := (145, [.ref q0, .int x1, .ref q2, .int x3, .int (if (σ q0 8) < s0 then (σ q0 8) else s0), .int (σ5 (q0 + 3) x1.toNatClampNeg)], [], mm_u σ22 (q0 + 5) (σ5 (q0 + 3) x1.toNatClampNeg).toNatClampNeg (if ((σ8 (q0 + 5) (σ5 (q0 + 3) x1.toNatClampNeg).toNatClampNeg) + v24) < (99 : Int32) then ((σ8 (q0 + 5) (σ5 (q0 + 3) x1.toNatClampNeg).toNatClampNeg) + v24) else (99 : Int32)))) (P := [vp_in (σ5 (q0 + 3) x1.toNatClampNeg) (mm_len (q0 + 5))]) rfl ⟨c20, trivial⟩ ?_
    obtain ⟨σ25, e26⟩ : ∃ z, z = mm_u σ22 (q0 + 5) (σ5 (q0 + 3) x1.toNatClampNeg).toNatClampNeg (if ((σ8 (q0 + 5) (σ5 (q0 + 3) x1.toNatClampNeg).toNatClampNeg) + v24) < (99 : Int32) then ((σ8 (q0 + 5) (σ5 (q0 + 3) x1.toNatClampNeg).toNatClampNeg) + v24) else (99 : Int32)) := ⟨_, rfl⟩
    rw [← e26]
    have h := h σ25 e26
    refine mm_blk (M := mm_m_X1_pour) 1 (S' := (179, [.ref q0, .int x1, .ref q2, .int x3, .int (if (σ q0 8) < s0 then (σ q0 8) else s0), .int (σ5 (q0 + 3) x1.toNatClampNeg)], [], σ25)) (P := []) rfl trivial ?_
    subst h
    exact mm_rt_ ⟨_, _, _, rfl, ⟨rfl, rfl, rfl⟩⟩
theorem sg_X1_endDay_0 (σ : mm_Sg) (q0 : Nat) (R : Option Value × mm_Sg) (h : mm_Go mm_m_X1_endDay (2, [.ref q0, .int (0 : Int32)], [], σ) R) : mm_Go mm_m_X1_endDay (0, [.ref q0, .null], [], σ) R := by
  refine mm_blk (M := mm_m_X1_endDay) 2 (S' := (2, [.ref q0, .int (0 : Int32)], [], σ)) (P := []) rfl trivial ?_
  exact h
theorem sg_X1_endDay_2 (σ : mm_Sg) (q0 : Nat) (x1 : Int32) (R : Option Value × mm_Sg) (h : ((((5 : Int32) ≤ x1 → (R = (none, σ))) ∧ (¬ ((5 : Int32) ≤ x1) → ((mm_cl q0 = 1) ∧ ∃ (v4 : Int32) (σ2 : mm_Sg), mm_Ev mm_m_X1_isAwake [.ref q0, .int x1] σ (some (.int v4)) σ2 ∧ (((v4 = (0 : Int32) → mm_Go mm_m_X1_endDay (2, [.ref q0, .int (x1 + (1 : Int32))], [], σ2) R) ∧ (¬ (v4 = (0 : Int32)) → ((vp_in x1 (mm_len (q0 + 5))) ∧ (((σ2 (q0 + 5) x1.toNatClampNeg) < (60 : Int32) → (∀ σ9 : mm_Sg, σ9 = mm_u σ2 (q0 + 5) x1.toNatClampNeg (if (0 : Int32) < ((σ2 (q0 + 5) x1.toNatClampNeg) - (2 : Int32)) then ((σ2 (q0 + 5) x1.toNatClampNeg) - (2 : Int32)) else (0 : Int32)) → mm_Go mm_m_X1_endDay (2, [.ref q0, .int (x1 + (1 : Int32))], [], σ9) R)) ∧ (¬ ((σ2 (q0 + 5) x1.toNatClampNeg) < (60 : Int32)) → (∀ σ11 : mm_Sg, σ11 = mm_u σ2 q0 7 ((σ2 q0 7) ||| ((1 : Int32) <<< (x1 &&& 31))) → mm_Go mm_m_X1_endDay (2, [.ref q0, .int (x1 + (1 : Int32))], [], σ11) R)))))))))))) : mm_Go mm_m_X1_endDay (2, [.ref q0, .int x1], [], σ) R := by
  refine mm_blk (M := mm_m_X1_endDay) 3 (S' := ((if (5 : Int32) ≤ x1 then 65 else 7), [.ref q0, .int x1], [], σ)) (P := []) rfl trivial ?_
  by_cases b1 : (5 : Int32) ≤ x1
  · rw [if_pos b1]
    have h := h.1 b1
    subst h
    exact mm_rt_ ⟨_, _, _, rfl, ⟨rfl, rfl, rfl⟩⟩
  · rw [if_neg b1]
    have h := h.2 b1
    refine mm_blk (M := mm_m_X1_endDay) 2 (S' := (9, [.ref q0, .int x1], [.int x1, .ref q0], σ)) (P := []) rfl trivial ?_
    obtain ⟨c5, h⟩ := h
    obtain ⟨v4, σ2, e3, h⟩ := h
    refine mm_cl_ (rest := []) e3 ⟨_, _, _, rfl, rfl, mm_tb_X1_isAwake, rfl, rfl, Nat.le_of_ble_eq_true rfl, Nat.le_of_ble_eq_true rfl, ⟨_, rfl, c5⟩⟩ ?_
    refine mm_blk (M := mm_m_X1_endDay) 1 (S' := ((if v4 = (0 : Int32) then 59 else 15), [.ref q0, .int x1], [], σ2)) (P := []) rfl trivial ?_
    by_cases b6 : v4 = (0 : Int32)
    · rw [if_pos b6]
      have h := h.1 b6
      refine mm_blk (M := mm_m_X1_endDay) 2 (S' := (2, [.ref q0, .int (x1 + (1 : Int32))], [], σ2)) (P := []) rfl trivial ?_
      exact h
    · rw [if_neg b6]
      have h := h.2 b6
      obtain ⟨c7, h⟩ := h
      refine mm_blk (M := mm_m_X1_endDay) 6 (S' := ((if (σ2 (q0 + 5) x1.toNatClampNeg) < (60 : Int32) then 41 else 26), [.ref q0, .int x1], [], σ2)) (P := [mm_cl q0 = 1, vp_in x1 (mm_len (q0 + 5))]) rfl ⟨c5, c7, trivial⟩ ?_
      by_cases b8 : (σ2 (q0 + 5) x1.toNatClampNeg) < (60 : Int32)
      · rw [if_pos b8]
        have h := h.1 b8
        refine mm_blk (M := mm_m_X1_endDay) 12 (S' := (59, [.ref q0, .int x1], [], mm_u σ2 (q0 + 5) x1.toNatClampNeg (if (0 : Int32) < ((σ2 (q0 + 5) x1.toNatClampNeg) - (2 : Int32)) then ((σ2 (q0 + 5) x1.toNatClampNeg) - (2 : Int32)) else (0 : Int32)))) (P := [mm_cl q0 = 1, mm_cl q0 = 1, vp_in x1 (mm_len (q0 + 5)), vp_in x1 (mm_len (q0 + 5))]) rfl ⟨c5, c5, c7, c7, trivial⟩ ?_
        obtain ⟨σ9, e10⟩ : ∃ z, z = mm_u σ2 (q0 + 5) x1.toNatClampNeg (if (0 : Int32) < ((σ2 (q0 + 5) x1.toNatClampNeg) - (2 : Int32)) then ((σ2 (q0 + 5) x1.toNatClampNeg) - (2 : Int32)) else (0 : Int32)) := ⟨_, rfl⟩
        rw [← e10]
        have h := h σ9 e10
        refine mm_blk (M := mm_m_X1_endDay) 2 (S' := (2, [.ref q0, .int (x1 + (1 : Int32))], [], σ9)) (P := []) rfl trivial ?_
        exact h
      · rw [if_neg b8]
        have h := h.2 b8
        refine mm_blk (M := mm_m_X1_endDay) 8 (S' := (38, [.ref q0, .int x1], [], mm_u σ2 q0 7 ((σ2 q0 7) ||| ((1 : Int32) <<< (x1 &&& 31))))) (P := [mm_cl q0 = 1, mm_cl q0 = 1]) rfl ⟨c5, c5, trivial⟩ ?_
        obtain ⟨σ11, e12⟩ : ∃ z, z = mm_u σ2 q0 7 ((σ2 q0 7) ||| ((1 : Int32) <<< (x1 &&& 31))) := ⟨_, rfl⟩
        rw [← e12]
        have h := h σ11 e12
        refine mm_blk (M := mm_m_X1_endDay) 3 (S' := (2, [.ref q0, .int (x1 + (1 : Int32))], [], σ11)) (P := []) rfl trivial ?_
        exact h
theorem sg_X1_obeys_0 (σ : mm_Sg) (q0 : Nat) (q1 : Nat) (x2 : Int32) (R : Option Value × mm_Sg) (h : ((mm_cl q1 = 8) ∧ ∃ (v3 : Int32) (σ1 : mm_Sg), mm_Ev mm_m_X8_numberAt [.ref q1, .int (x2 + (1 : Int32)), .int (1 : Int32)] σ (some (.int v3)) σ1 ∧ (∃ (v7 : Int32) (σ5 : mm_Sg), mm_Ev mm_m_X8_numberAt [.ref q1, .int (x2 + (2 : Int32)), .int (1 : Int32)] σ1 (some (.int v7)) σ5 ∧ (∃ (v10 : Int32) (σ8 : mm_Sg), mm_Ev mm_m_X8_numberAt [.ref q1, .int (x2 + (3 : Int32)), .int (1 : Int32)] σ5 (some (.int v10)) σ8 ∧ (∃ (v13 : Int32) (σ11 : mm_Sg), mm_Ev mm_m_X8_numberAt [.ref q1, .int (x2 + (1 : Int32)), .int (2 : Int32)] σ8 (some (.int v13)) σ11 ∧ (∃ (v16 : Int32) (σ14 : mm_Sg), mm_Ev mm_m_X8_numberAt [.ref q1, .int (x2 + (2 : Int32)), .int (2 : Int32)] σ11 (some (.int v16)) σ14 ∧ (∃ (v19 : Int32) (σ17 : mm_Sg), mm_Ev mm_m_X8_at [.ref q1, .int x2] σ14 (some (.int v19)) σ17 ∧ (((v19 = nI 98 → (∃ (v23 : Int32) (σ21 : mm_Sg), mm_Ev mm_m_X8_numberAt [.ref q1, .int (x2 + (1 : Int32)), .int (3 : Int32)] σ17 (some (.int v23)) σ21 ∧ ((mm_cl q0 = 1) ∧ ∀ σ25 : mm_Sg, σ25 = mm_u σ21 q0 8 v23 → (R = (some (.int (1 : Int32)), σ25))))) ∧ (¬ (v19 = nI 98) → ((v19 = nI 99 → (R = (some (.int (0 : Int32)), σ17))) ∧ (¬ (v19 = nI 99) → ((v19 = nI 100 → (∃ (v31 : Int32) (σ29 : mm_Sg), mm_Ev mm_m_X10_isBetween [.int v13, .int (1 : Int32), .int (60 : Int32)] σ17 (some (.int v31)) σ29 ∧ (((v31 = (0 : Int32) → (R = (some (.int (0 : Int32)), σ29))) ∧ (¬ (v31 = (0 : Int32)) → ((mm_cl q0 = 1) ∧ ((((σ29 q0 9) + v13) ≤ (999 : Int32) → (∃ (σ35 : mm_Sg), mm_Ev mm_m_X1_goDays [.ref q0, .int v13] σ29 none σ35 ∧ (R = (some (.int (1 : Int32)), σ35)))) ∧ (¬ (((σ29 q0 9) + v13) ≤ (999 : Int32)) → (R = (some (.int (0 : Int32)), σ29)))))))))) ∧ (¬ (v19 = nI 100) → ((v19 = nI 101 → (R = (some (.int (0 : Int32)), σ17))) ∧ (¬ (v19 = nI 101) → ((v19 = nI 102 → (R = (some (.int (0 : Int32)), σ17))) ∧ (¬ (v19 = nI 102) → ((v19 = nI 103 → (R = (some (.int (0 : Int32)), σ17))) ∧ (¬ (v19 = nI 103) → ((v19 = nI 104 → (R = (some (.int (0 : Int32)), σ17))) ∧ (¬ (v19 = nI 104) → ((v19 = nI 105 → (R = (some (.int (0 : Int32)), σ17))) ∧ (¬ (v19 = nI 105) → ((v19 = nI 106 → (R = (some (.int (0 : Int32)), σ17))) ∧ (¬ (v19 = nI 106) → ((v19 = nI 107 → ((((8 : Int32) ≤ v3 → (R = (some (.int (0 : Int32)), σ17))) ∧ (¬ ((8 : Int32) ≤ v3) → (∃ (v47 : Int32) (σ45 : mm_Sg), mm_Ev mm_m_X10_isWakerOrNobody [.int v10] σ17 (some (.int v47)) σ45 ∧ (((v47 = (0 : Int32) → (R = (some (.int (0 : Int32)), σ45))) ∧ (¬ (v47 = (0 : Int32)) → ((mm_cl q0 = 1) ∧ ∃ (v51 : Int32) (σ49 : mm_Sg), mm_Ev mm_m_X1_joins [.ref q0, .int v3, .int v7, .int v10] σ45 (some (.int v51)) σ49 ∧ (((v51 = (0 : Int32) → (R = (some (.int (0 : Int32)), σ49))) ∧ (¬ (v51 = (0 : Int32)) → (R = (some (.int (1 : Int32)), σ49)))))))))))))) ∧ (¬ (v19 = nI 107) → ((v19 = nI 108 → (R = (some (.int (0 : Int32)), σ17))) ∧ (¬ (v19 = nI 108) → ((v19 = nI 109 → (R = (some (.int (0 : Int32)), σ17))) ∧ (¬ (v19 = nI 109) → ((v19 = nI 110 → (R = (some (.int (0 : Int32)), σ17))) ∧ (¬ (v19 = nI 110) → ((v19 = nI 111 → ((mm_cl q0 = 1) ∧ ∃ (v60 : Int32) (σ58 : mm_Sg), mm_Ev mm_m_X1_has [.ref q0, .int v3] σ17 (some (.int v60)) σ58 ∧ (((v60 = (0 : Int32) → (R = (some (.int (0 : Int32)), σ58))) ∧ (¬ (v60 = (0 : Int32)) → (∃ (v65 : Int32) (σ63 : mm_Sg), mm_Ev mm_m_X1_setIn [.ref (q0 + 4), .int v3, .int v16] σ58 (some (.int v65)) σ63 ∧ (((v65 = (0 : Int32) → (R = (some (.int (0 : Int32)), σ63))) ∧ (¬ (v65 = (0 : Int32)) → (R = (some (.int (1 : Int32)), σ63))))))))))) ∧ (¬ (v19 = nI 111) → ((v19 = nI 112 → (R = (some (.int (0 : Int32)), σ17))) ∧ (¬ (v19 = nI 112) → ((v19 = nI 113 → (R = (some (.int (0 : Int32)), σ17))) ∧ (¬ (v19 = nI 113) → ((v19 = nI 114 → (R = (some (.int (0 : Int32)), σ17))) ∧ (¬ (v19 = nI 114) → ((v19 = nI 115 → (R = (some (.int (0 : Int32)), σ17))) ∧ (¬ (v19 = nI 115) → ((v19 = nI 116 → ((mm_cl q0 = 1) ∧ ∃ (v75 : Int32) (σ73 : mm_Sg), mm_Ev mm_m_X1_setIn [.ref (q0 + 5), .int v3, .int v16] σ17 (some (.int v75)) σ73 ∧ ((v75 = 0 ∨ v75 = 1) ∧ R = (some (.int v75), σ73)))) ∧ (¬ (v19 = nI 116) → ((v19 = nI 117 → (R = (some (.int (0 : Int32)), σ17))) ∧ (¬ (v19 = nI 117) → ((v19 = nI 118 → (R = (some (.int (0 : Int32)), σ17))) ∧ (¬ (v19 = nI 118) → ((v19 = nI 119 → ((mm_cl q0 = 1) ∧ ∃ (v82 : Int32) (σ80 : mm_Sg), mm_Ev mm_m_X1_has [.ref q0, .int v3] σ17 (some (.int v82)) σ80 ∧ (((v82 = (0 : Int32) → (R = (some (.int (0 : Int32)), σ80))) ∧ (¬ (v82 = (0 : Int32)) → (∃ (v87 : Int32) (σ85 : mm_Sg), mm_Ev mm_m_X10_isWakerOrNobody [.int v7] σ80 (some (.int v87)) σ85 ∧ (((v87 = (0 : Int32) → (R = (some (.int (0 : Int32)), σ85))) ∧ (¬ (v87 = (0 : Int32)) → (∃ (v91 : Int32) (σ89 : mm_Sg), mm_Ev mm_m_X1_setIn [.ref (q0 + 3), .int v3, .int v7] σ85 (some (.int v91)) σ89 ∧ (((v91 = (0 : Int32) → (R = (some (.int (0 : Int32)), σ89))) ∧ (¬ (v91 = (0 : Int32)) → (R = (some (.int (1 : Int32)), σ89))))))))))))))) ∧ (¬ (v19 = nI 119) → ((v19 = nI 120 → (R = (some (.int (0 : Int32)), σ17))) ∧ (¬ (v19 = nI 120) → ((v19 = nI 121 → (R = (some (.int (0 : Int32)), σ17))) ∧ (¬ (v19 = nI 121) → ((v19 = nI 122 → ((mm_cl q0 = 1) ∧ ∃ (v98 : Int32) (σ96 : mm_Sg), mm_Ev mm_m_X1_turnsOver [.ref q0, .int v3] σ17 (some (.int v98)) σ96 ∧ ((v98 = 0 ∨ v98 = 1) ∧ R = (some (.int v98), σ96)))) ∧ (¬ (v19 = nI 122) → (R = (some (.int (0 : Int32)), σ17)))))))))))))))))))))))))))))))))))))))))))))))))))))))))))) : mm_Go mm_m_X1_obeys (0, [.ref q0, .ref q1, .int x2, .null, .null, .null, .null, .null], [], σ) R := by
  refine mm_blk (M := mm_m_X1_obeys) 5 (S' := (5, [.ref q0, .ref q1, .int x2, .null, .null, .null, .null, .null], [.int (1 : Int32), .int (x2 + (1 : Int32)), .ref q1], σ)) (P := []) rfl trivial ?_
  obtain ⟨c4, h⟩ := h
  obtain ⟨v3, σ1, e2, h⟩ := h
  refine mm_cl_ (rest := []) e2 ⟨_, _, _, rfl, rfl, mm_tb_X8_numberAt, rfl, rfl, Nat.le_of_ble_eq_true rfl, Nat.le_of_ble_eq_true rfl, ⟨_, rfl, c4⟩⟩ ?_
  refine mm_blk (M := mm_m_X1_obeys) 6 (S' := (14, [.ref q0, .ref q1, .int x2, .int v3, .null, .null, .null, .null], [.int (1 : Int32), .int (x2 + (2 : Int32)), .ref q1], σ1)) (P := []) rfl trivial ?_
  obtain ⟨v7, σ5, e6, h⟩ := h
  refine mm_cl_ (rest := []) e6 ⟨_, _, _, rfl, rfl, mm_tb_X8_numberAt, rfl, rfl, Nat.le_of_ble_eq_true rfl, Nat.le_of_ble_eq_true rfl, ⟨_, rfl, c4⟩⟩ ?_
  refine mm_blk (M := mm_m_X1_obeys) 6 (S' := (24, [.ref q0, .ref q1, .int x2, .int v3, .int v7, .null, .null, .null], [.int (1 : Int32), .int (x2 + (3 : Int32)), .ref q1], σ5)) (P := []) rfl trivial ?_
  obtain ⟨v10, σ8, e9, h⟩ := h
  refine mm_cl_ (rest := []) e9 ⟨_, _, _, rfl, rfl, mm_tb_X8_numberAt, rfl, rfl, Nat.le_of_ble_eq_true rfl, Nat.le_of_ble_eq_true rfl, ⟨_, rfl, c4⟩⟩ ?_
  refine mm_blk (M := mm_m_X1_obeys) 6 (S' := (34, [.ref q0, .ref q1, .int x2, .int v3, .int v7, .int v10, .null, .null], [.int (2 : Int32), .int (x2 + (1 : Int32)), .ref q1], σ8)) (P := []) rfl trivial ?_
  obtain ⟨v13, σ11, e12, h⟩ := h
  refine mm_cl_ (rest := []) e12 ⟨_, _, _, rfl, rfl, mm_tb_X8_numberAt, rfl, rfl, Nat.le_of_ble_eq_true rfl, Nat.le_of_ble_eq_true rfl, ⟨_, rfl, c4⟩⟩ ?_
  refine mm_blk (M := mm_m_X1_obeys) 6 (S' := (44, [.ref q0, .ref q1, .int x2, .int v3, .int v7, .int v10, .int v13, .null], [.int (2 : Int32), .int (x2 + (2 : Int32)), .ref q1], σ11)) (P := []) rfl trivial ?_
  obtain ⟨v16, σ14, e15, h⟩ := h
  refine mm_cl_ (rest := []) e15 ⟨_, _, _, rfl, rfl, mm_tb_X8_numberAt, rfl, rfl, Nat.le_of_ble_eq_true rfl, Nat.le_of_ble_eq_true rfl, ⟨_, rfl, c4⟩⟩ ?_
  refine mm_blk (M := mm_m_X1_obeys) 3 (S' := (51, [.ref q0, .ref q1, .int x2, .int v3, .int v7, .int v10, .int v13, .int v16], [.int x2, .ref q1], σ14)) (P := []) rfl trivial ?_
  obtain ⟨v19, σ17, e18, h⟩ := h
  refine mm_cl_ (rest := []) e18 ⟨_, _, _, rfl, rfl, mm_tb_X8_at, rfl, rfl, Nat.le_of_ble_eq_true rfl, Nat.le_of_ble_eq_true rfl, ⟨_, rfl, c4⟩⟩ ?_
  refine mm_blk (M := mm_m_X1_obeys) 1 (S' := ((mm_tsw v19 327 98 [252, 327, 293, 327, 327, 327, 327, 327, 327, 168, 327, 327, 327, 266, 327, 327, 327, 327, 235, 327, 327, 200, 327, 327, 246]), [.ref q0, .ref q1, .int x2, .int v3, .int v7, .int v10, .int v13, .int v16], [], σ17)) (P := []) rfl trivial ?_
  by_cases b20 : v19 = nI 98
  · rw [show mm_tsw v19 327 98 [252, 327, 293, 327, 327, 327, 327, 327, 327, 168, 327, 327, 327, 266, 327, 327, 327, 327, 235, 327, 327, 200, 327, 327, 246] = 252 from mm_tsw_t b20]
    have h := h.1 b20
    refine mm_blk (M := mm_m_X1_obeys) 6 (S' := (258, [.ref q0, .ref q1, .int x2, .int v3, .int v7, .int v10, .int v13, .int v16], [.int (3 : Int32), .int (x2 + (1 : Int32)), .ref q1, .ref q0], σ17)) (P := []) rfl trivial ?_
    obtain ⟨v23, σ21, e22, h⟩ := h
    refine mm_cl_ (rest := [.ref q0]) e22 ⟨_, _, _, rfl, rfl, mm_tb_X8_numberAt, rfl, rfl, Nat.le_of_ble_eq_true rfl, Nat.le_of_ble_eq_true rfl, ⟨_, rfl, c4⟩⟩ ?_
    obtain ⟨c24, h⟩ := h
    refine mm_blk (M := mm_m_X1_obeys) 1 (S' := (264, [.ref q0, .ref q1, .int x2, .int v3, .int v7, .int v10, .int v13, .int v16], [], mm_u σ21 q0 8 v23)) (P := [mm_cl q0 = 1]) rfl ⟨c24, trivial⟩ ?_
    obtain ⟨σ25, e26⟩ : ∃ z, z = mm_u σ21 q0 8 v23 := ⟨_, rfl⟩
    rw [← e26]
    have h := h σ25 e26
    refine mm_blk (M := mm_m_X1_obeys) 1 (S' := (265, [.ref q0, .ref q1, .int x2, .int v3, .int v7, .int v10, .int v13, .int v16], [.int (1 : Int32)], σ25)) (P := []) rfl trivial ?_
    subst h
    exact mm_rt_ ⟨_, _, _, rfl, ⟨_, _, rfl, rfl, rfl, rfl⟩⟩
  rw [show mm_tsw v19 327 98 [252, 327, 293, 327, 327, 327, 327, 327, 327, 168, 327, 327, 327, 266, 327, 327, 327, 327, 235, 327, 327, 200, 327, 327, 246] = mm_tsw v19 327 99 [327, 293, 327, 327, 327, 327, 327, 327, 168, 327, 327, 327, 266, 327, 327, 327, 327, 235, 327, 327, 200, 327, 327, 246] from mm_tsw_f b20]
  have h := h.2 b20
  by_cases b27 : v19 = nI 99
  · rw [show mm_tsw v19 327 99 [327, 293, 327, 327, 327, 327, 327, 327, 168, 327, 327, 327, 266, 327, 327, 327, 327, 235, 327, 327, 200, 327, 327, 246] = 327 from mm_tsw_t b27]
    have h := h.1 b27
    refine mm_blk (M := mm_m_X1_obeys) 1 (S' := (328, [.ref q0, .ref q1, .int x2, .int v3, .int v7, .int v10, .int v13, .int v16], [.int (0 : Int32)], σ17)) (P := []) rfl trivial ?_
    subst h
    exact mm_rt_ ⟨_, _, _, rfl, ⟨_, _, rfl, rfl, rfl, rfl⟩⟩
  rw [show mm_tsw v19 327 99 [327, 293, 327, 327, 327, 327, 327, 327, 168, 327, 327, 327, 266, 327, 327, 327, 327, 235, 327, 327, 200, 327, 327, 246] = mm_tsw v19 327 100 [293, 327, 327, 327, 327, 327, 327, 168, 327, 327, 327, 266, 327, 327, 327, 327, 235, 327, 327, 200, 327, 327, 246] from mm_tsw_f b27]
  have h := h.2 b27
  by_cases b28 : v19 = nI 100
  · rw [show mm_tsw v19 327 100 [293, 327, 327, 327, 327, 327, 327, 168, 327, 327, 327, 266, 327, 327, 327, 327, 235, 327, 327, 200, 327, 327, 246] = 293 from mm_tsw_t b28]
    have h := h.1 b28
    refine mm_blk (M := mm_m_X1_obeys) 3 (S' := (298, [.ref q0, .ref q1, .int x2, .int v3, .int v7, .int v10, .int v13, .int v16], [.int (60 : Int32), .int (1 : Int32), .int v13], σ17)) (P := []) rfl trivial ?_
    obtain ⟨v31, σ29, e30, h⟩ := h
    refine mm_cl_ (rest := []) e30 ⟨_, _, _, rfl, rfl, mm_tb_X10_isBetween, rfl, rfl, Nat.le_of_ble_eq_true rfl, Nat.le_of_ble_eq_true rfl, trivial⟩ ?_
    refine mm_blk (M := mm_m_X1_obeys) 1 (S' := ((if v31 = (0 : Int32) then 317 else 304), [.ref q0, .ref q1, .int x2, .int v3, .int v7, .int v10, .int v13, .int v16], [], σ29)) (P := []) rfl trivial ?_
    by_cases b32 : v31 = (0 : Int32)
    · rw [if_pos b32]
      have h := h.1 b32
      refine mm_blk (M := mm_m_X1_obeys) 1 (S' := (318, [.ref q0, .ref q1, .int x2, .int v3, .int v7, .int v10, .int v13, .int v16], [.int (0 : Int32)], σ29)) (P := []) rfl trivial ?_
      subst h
      exact mm_rt_ ⟨_, _, _, rfl, ⟨_, _, rfl, rfl, rfl, rfl⟩⟩
    · rw [if_neg b32]
      have h := h.2 b32
      obtain ⟨c33, h⟩ := h
      refine mm_blk (M := mm_m_X1_obeys) 6 (S' := ((if ((σ29 q0 9) + v13) ≤ (999 : Int32) then 319 else 317), [.ref q0, .ref q1, .int x2, .int v3, .int v7, .int v10, .int v13, .int v16], [], σ29)) (P := [mm_cl q0 = 1]) rfl ⟨c33, trivial⟩ ?_
      by_cases b34 : ((σ29 q0 9) + v13) ≤ (999 : Int32)
      · rw [if_pos b34]
        have h := h.1 b34
        refine mm_blk (M := mm_m_X1_obeys) 2 (S' := (322, [.ref q0, .ref q1, .int x2, .int v3, .int v7, .int v10, .int v13, .int v16], [.int v13, .ref q0], σ29)) (P := []) rfl trivial ?_
        obtain ⟨σ35, e36, h⟩ := h
        refine mm_cl_ (rest := []) e36 ⟨_, _, _, rfl, rfl, mm_tb_X1_goDays, rfl, rfl, Nat.le_of_ble_eq_true rfl, Nat.le_of_ble_eq_true rfl, ⟨_, rfl, c33⟩⟩ ?_
        refine mm_blk (M := mm_m_X1_obeys) 1 (S' := (326, [.ref q0, .ref q1, .int x2, .int v3, .int v7, .int v10, .int v13, .int v16], [.int (1 : Int32)], σ35)) (P := []) rfl trivial ?_
        subst h
        exact mm_rt_ ⟨_, _, _, rfl, ⟨_, _, rfl, rfl, rfl, rfl⟩⟩
      · rw [if_neg b34]
        have h := h.2 b34
        refine mm_blk (M := mm_m_X1_obeys) 1 (S' := (318, [.ref q0, .ref q1, .int x2, .int v3, .int v7, .int v10, .int v13, .int v16], [.int (0 : Int32)], σ29)) (P := []) rfl trivial ?_
        subst h
        exact mm_rt_ ⟨_, _, _, rfl, ⟨_, _, rfl, rfl, rfl, rfl⟩⟩
  rw [show mm_tsw v19 327 100 [293, 327, 327, 327, 327, 327, 327, 168, 327, 327, 327, 266, 327, 327, 327, 327, 235, 327, 327, 200, 327, 327, 246] = mm_tsw v19 327 101 [327, 327, 327, 327, 327, 327, 168, 327, 327, 327, 266, 327, 327, 327, 327, 235, 327, 327, 200, 327, 327, 246] from mm_tsw_f b28]
  have h := h.2 b28
  by_cases b37 : v19 = nI 101
  · rw [show mm_tsw v19 327 101 [327, 327, 327, 327, 327, 327, 168, 327, 327, 327, 266, 327, 327, 327, 327, 235, 327, 327, 200, 327, 327, 246] = 327 from mm_tsw_t b37]
    have h := h.1 b37
    refine mm_blk (M := mm_m_X1_obeys) 1 (S' := (328, [.ref q0, .ref q1, .int x2, .int v3, .int v7, .int v10, .int v13, .int v16], [.int (0 : Int32)], σ17)) (P := []) rfl trivial ?_
    subst h
    exact mm_rt_ ⟨_, _, _, rfl, ⟨_, _, rfl, rfl, rfl, rfl⟩⟩
  rw [show mm_tsw v19 327 101 [327, 327, 327, 327, 327, 327, 168, 327, 327, 327, 266, 327, 327, 327, 327, 235, 327, 327, 200, 327, 327, 246] = mm_tsw v19 327 102 [327, 327, 327, 327, 327, 168, 327, 327, 327, 266, 327, 327, 327, 327, 235, 327, 327, 200, 327, 327, 246] from mm_tsw_f b37]
  have h := h.2 b37
  by_cases b38 : v19 = nI 102
  · rw [show mm_tsw v19 327 102 [327, 327, 327, 327, 327, 168, 327, 327, 327, 266, 327, 327, 327, 327, 235, 327, 327, 200, 327, 327, 246] = 327 from mm_tsw_t b38]
    have h := h.1 b38
    refine mm_blk (M := mm_m_X1_obeys) 1 (S' := (328, [.ref q0, .ref q1, .int x2, .int v3, .int v7, .int v10, .int v13, .int v16], [.int (0 : Int32)], σ17)) (P := []) rfl trivial ?_
    subst h
    exact mm_rt_ ⟨_, _, _, rfl, ⟨_, _, rfl, rfl, rfl, rfl⟩⟩
  rw [show mm_tsw v19 327 102 [327, 327, 327, 327, 327, 168, 327, 327, 327, 266, 327, 327, 327, 327, 235, 327, 327, 200, 327, 327, 246] = mm_tsw v19 327 103 [327, 327, 327, 327, 168, 327, 327, 327, 266, 327, 327, 327, 327, 235, 327, 327, 200, 327, 327, 246] from mm_tsw_f b38]
  have h := h.2 b38
  by_cases b39 : v19 = nI 103
  · rw [show mm_tsw v19 327 103 [327, 327, 327, 327, 168, 327, 327, 327, 266, 327, 327, 327, 327, 235, 327, 327, 200, 327, 327, 246] = 327 from mm_tsw_t b39]
    have h := h.1 b39
    refine mm_blk (M := mm_m_X1_obeys) 1 (S' := (328, [.ref q0, .ref q1, .int x2, .int v3, .int v7, .int v10, .int v13, .int v16], [.int (0 : Int32)], σ17)) (P := []) rfl trivial ?_
    subst h
    exact mm_rt_ ⟨_, _, _, rfl, ⟨_, _, rfl, rfl, rfl, rfl⟩⟩
  rw [show mm_tsw v19 327 103 [327, 327, 327, 327, 168, 327, 327, 327, 266, 327, 327, 327, 327, 235, 327, 327, 200, 327, 327, 246] = mm_tsw v19 327 104 [327, 327, 327, 168, 327, 327, 327, 266, 327, 327, 327, 327, 235, 327, 327, 200, 327, 327, 246] from mm_tsw_f b39]
  have h := h.2 b39
  by_cases b40 : v19 = nI 104
  · rw [show mm_tsw v19 327 104 [327, 327, 327, 168, 327, 327, 327, 266, 327, 327, 327, 327, 235, 327, 327, 200, 327, 327, 246] = 327 from mm_tsw_t b40]
    have h := h.1 b40
    refine mm_blk (M := mm_m_X1_obeys) 1 (S' := (328, [.ref q0, .ref q1, .int x2, .int v3, .int v7, .int v10, .int v13, .int v16], [.int (0 : Int32)], σ17)) (P := []) rfl trivial ?_
    subst h
    exact mm_rt_ ⟨_, _, _, rfl, ⟨_, _, rfl, rfl, rfl, rfl⟩⟩
  rw [show mm_tsw v19 327 104 [327, 327, 327, 168, 327, 327, 327, 266, 327, 327, 327, 327, 235, 327, 327, 200, 327, 327, 246] = mm_tsw v19 327 105 [327, 327, 168, 327, 327, 327, 266, 327, 327, 327, 327, 235, 327, 327, 200, 327, 327, 246] from mm_tsw_f b40]
  have h := h.2 b40
  by_cases b41 : v19 = nI 105
  · rw [show mm_tsw v19 327 105 [327, 327, 168, 327, 327, 327, 266, 327, 327, 327, 327, 235, 327, 327, 200, 327, 327, 246] = 327 from mm_tsw_t b41]
    have h := h.1 b41
    refine mm_blk (M := mm_m_X1_obeys) 1 (S' := (328, [.ref q0, .ref q1, .int x2, .int v3, .int v7, .int v10, .int v13, .int v16], [.int (0 : Int32)], σ17)) (P := []) rfl trivial ?_
    subst h
    exact mm_rt_ ⟨_, _, _, rfl, ⟨_, _, rfl, rfl, rfl, rfl⟩⟩
  rw [show mm_tsw v19 327 105 [327, 327, 168, 327, 327, 327, 266, 327, 327, 327, 327, 235, 327, 327, 200, 327, 327, 246] = mm_tsw v19 327 106 [327, 168, 327, 327, 327, 266, 327, 327, 327, 327, 235, 327, 327, 200, 327, 327, 246] from mm_tsw_f b41]
  have h := h.2 b41
  by_cases b42 : v19 = nI 106
  · rw [show mm_tsw v19 327 106 [327, 168, 327, 327, 327, 266, 327, 327, 327, 327, 235, 327, 327, 200, 327, 327, 246] = 327 from mm_tsw_t b42]
    have h := h.1 b42
    refine mm_blk (M := mm_m_X1_obeys) 1 (S' := (328, [.ref q0, .ref q1, .int x2, .int v3, .int v7, .int v10, .int v13, .int v16], [.int (0 : Int32)], σ17)) (P := []) rfl trivial ?_
    subst h
    exact mm_rt_ ⟨_, _, _, rfl, ⟨_, _, rfl, rfl, rfl, rfl⟩⟩
  rw [show mm_tsw v19 327 106 [327, 168, 327, 327, 327, 266, 327, 327, 327, 327, 235, 327, 327, 200, 327, 327, 246] = mm_tsw v19 327 107 [168, 327, 327, 327, 266, 327, 327, 327, 327, 235, 327, 327, 200, 327, 327, 246] from mm_tsw_f b42]
  have h := h.2 b42
  by_cases b43 : v19 = nI 107
  · rw [show mm_tsw v19 327 107 [168, 327, 327, 327, 266, 327, 327, 327, 327, 235, 327, 327, 200, 327, 327, 246] = 168 from mm_tsw_t b43]
    have h := h.1 b43
    refine mm_blk (M := mm_m_X1_obeys) 3 (S' := ((if (8 : Int32) ≤ v3 then 198 else 174), [.ref q0, .ref q1, .int x2, .int v3, .int v7, .int v10, .int v13, .int v16], [], σ17)) (P := []) rfl trivial ?_
    by_cases b44 : (8 : Int32) ≤ v3
    · rw [if_pos b44]
      have h := h.1 b44
      refine mm_blk (M := mm_m_X1_obeys) 1 (S' := (199, [.ref q0, .ref q1, .int x2, .int v3, .int v7, .int v10, .int v13, .int v16], [.int (0 : Int32)], σ17)) (P := []) rfl trivial ?_
      subst h
      exact mm_rt_ ⟨_, _, _, rfl, ⟨_, _, rfl, rfl, rfl, rfl⟩⟩
    · rw [if_neg b44]
      have h := h.2 b44
      refine mm_blk (M := mm_m_X1_obeys) 1 (S' := (176, [.ref q0, .ref q1, .int x2, .int v3, .int v7, .int v10, .int v13, .int v16], [.int v10], σ17)) (P := []) rfl trivial ?_
      obtain ⟨v47, σ45, e46, h⟩ := h
      refine mm_cl_ (rest := []) e46 ⟨_, _, _, rfl, rfl, mm_tb_X10_isWakerOrNobody, rfl, rfl, Nat.le_of_ble_eq_true rfl, Nat.le_of_ble_eq_true rfl, trivial⟩ ?_
      refine mm_blk (M := mm_m_X1_obeys) 1 (S' := ((if v47 = (0 : Int32) then 198 else 182), [.ref q0, .ref q1, .int x2, .int v3, .int v7, .int v10, .int v13, .int v16], [], σ45)) (P := []) rfl trivial ?_
      by_cases b48 : v47 = (0 : Int32)
      · rw [if_pos b48]
        have h := h.1 b48
        refine mm_blk (M := mm_m_X1_obeys) 1 (S' := (199, [.ref q0, .ref q1, .int x2, .int v3, .int v7, .int v10, .int v13, .int v16], [.int (0 : Int32)], σ45)) (P := []) rfl trivial ?_
        subst h
        exact mm_rt_ ⟨_, _, _, rfl, ⟨_, _, rfl, rfl, rfl, rfl⟩⟩
      · rw [if_neg b48]
        have h := h.2 b48
        refine mm_blk (M := mm_m_X1_obeys) 4 (S' := (188, [.ref q0, .ref q1, .int x2, .int v3, .int v7, .int v10, .int v13, .int v16], [.int v10, .int v7, .int v3, .ref q0], σ45)) (P := []) rfl trivial ?_
        obtain ⟨c52, h⟩ := h
        obtain ⟨v51, σ49, e50, h⟩ := h
        refine mm_cl_ (rest := []) e50 ⟨_, _, _, rfl, rfl, mm_tb_X1_joins, rfl, rfl, Nat.le_of_ble_eq_true rfl, Nat.le_of_ble_eq_true rfl, ⟨_, rfl, c52⟩⟩ ?_
        refine mm_blk (M := mm_m_X1_obeys) 1 (S' := ((if v51 = (0 : Int32) then 198 else 194), [.ref q0, .ref q1, .int x2, .int v3, .int v7, .int v10, .int v13, .int v16], [], σ49)) (P := []) rfl trivial ?_
        by_cases b53 : v51 = (0 : Int32)
        · rw [if_pos b53]
          have h := h.1 b53
          refine mm_blk (M := mm_m_X1_obeys) 1 (S' := (199, [.ref q0, .ref q1, .int x2, .int v3, .int v7, .int v10, .int v13, .int v16], [.int (0 : Int32)], σ49)) (P := []) rfl trivial ?_
          subst h
          exact mm_rt_ ⟨_, _, _, rfl, ⟨_, _, rfl, rfl, rfl, rfl⟩⟩
        · rw [if_neg b53]
          have h := h.2 b53
          refine mm_blk (M := mm_m_X1_obeys) 2 (S' := (199, [.ref q0, .ref q1, .int x2, .int v3, .int v7, .int v10, .int v13, .int v16], [.int (1 : Int32)], σ49)) (P := []) rfl trivial ?_
          subst h
          exact mm_rt_ ⟨_, _, _, rfl, ⟨_, _, rfl, rfl, rfl, rfl⟩⟩
  rw [show mm_tsw v19 327 107 [168, 327, 327, 327, 266, 327, 327, 327, 327, 235, 327, 327, 200, 327, 327, 246] = mm_tsw v19 327 108 [327, 327, 327, 266, 327, 327, 327, 327, 235, 327, 327, 200, 327, 327, 246] from mm_tsw_f b43]
  have h := h.2 b43
  by_cases b54 : v19 = nI 108
  · rw [show mm_tsw v19 327 108 [327, 327, 327, 266, 327, 327, 327, 327, 235, 327, 327, 200, 327, 327, 246] = 327 from mm_tsw_t b54]
    have h := h.1 b54
    refine mm_blk (M := mm_m_X1_obeys) 1 (S' := (328, [.ref q0, .ref q1, .int x2, .int v3, .int v7, .int v10, .int v13, .int v16], [.int (0 : Int32)], σ17)) (P := []) rfl trivial ?_
    subst h
    exact mm_rt_ ⟨_, _, _, rfl, ⟨_, _, rfl, rfl, rfl, rfl⟩⟩
  rw [show mm_tsw v19 327 108 [327, 327, 327, 266, 327, 327, 327, 327, 235, 327, 327, 200, 327, 327, 246] = mm_tsw v19 327 109 [327, 327, 266, 327, 327, 327, 327, 235, 327, 327, 200, 327, 327, 246] from mm_tsw_f b54]
  have h := h.2 b54
  by_cases b55 : v19 = nI 109
  · rw [show mm_tsw v19 327 109 [327, 327, 266, 327, 327, 327, 327, 235, 327, 327, 200, 327, 327, 246] = 327 from mm_tsw_t b55]
    have h := h.1 b55
    refine mm_blk (M := mm_m_X1_obeys) 1 (S' := (328, [.ref q0, .ref q1, .int x2, .int v3, .int v7, .int v10, .int v13, .int v16], [.int (0 : Int32)], σ17)) (P := []) rfl trivial ?_
    subst h
    exact mm_rt_ ⟨_, _, _, rfl, ⟨_, _, rfl, rfl, rfl, rfl⟩⟩
  rw [show mm_tsw v19 327 109 [327, 327, 266, 327, 327, 327, 327, 235, 327, 327, 200, 327, 327, 246] = mm_tsw v19 327 110 [327, 266, 327, 327, 327, 327, 235, 327, 327, 200, 327, 327, 246] from mm_tsw_f b55]
  have h := h.2 b55
  by_cases b56 : v19 = nI 110
  · rw [show mm_tsw v19 327 110 [327, 266, 327, 327, 327, 327, 235, 327, 327, 200, 327, 327, 246] = 327 from mm_tsw_t b56]
    have h := h.1 b56
    refine mm_blk (M := mm_m_X1_obeys) 1 (S' := (328, [.ref q0, .ref q1, .int x2, .int v3, .int v7, .int v10, .int v13, .int v16], [.int (0 : Int32)], σ17)) (P := []) rfl trivial ?_
    subst h
    exact mm_rt_ ⟨_, _, _, rfl, ⟨_, _, rfl, rfl, rfl, rfl⟩⟩
  rw [show mm_tsw v19 327 110 [327, 266, 327, 327, 327, 327, 235, 327, 327, 200, 327, 327, 246] = mm_tsw v19 327 111 [266, 327, 327, 327, 327, 235, 327, 327, 200, 327, 327, 246] from mm_tsw_f b56]
  have h := h.2 b56
  by_cases b57 : v19 = nI 111
  · rw [show mm_tsw v19 327 111 [266, 327, 327, 327, 327, 235, 327, 327, 200, 327, 327, 246] = 266 from mm_tsw_t b57]
    have h := h.1 b57
    refine mm_blk (M := mm_m_X1_obeys) 2 (S' := (268, [.ref q0, .ref q1, .int x2, .int v3, .int v7, .int v10, .int v13, .int v16], [.int v3, .ref q0], σ17)) (P := []) rfl trivial ?_
    obtain ⟨c61, h⟩ := h
    obtain ⟨v60, σ58, e59, h⟩ := h
    refine mm_cl_ (rest := []) e59 ⟨_, _, _, rfl, rfl, mm_tb_X1_has, rfl, rfl, Nat.le_of_ble_eq_true rfl, Nat.le_of_ble_eq_true rfl, ⟨_, rfl, c61⟩⟩ ?_
    refine mm_blk (M := mm_m_X1_obeys) 1 (S' := ((if v60 = (0 : Int32) then 291 else 274), [.ref q0, .ref q1, .int x2, .int v3, .int v7, .int v10, .int v13, .int v16], [], σ58)) (P := []) rfl trivial ?_
    by_cases b62 : v60 = (0 : Int32)
    · rw [if_pos b62]
      have h := h.1 b62
      refine mm_blk (M := mm_m_X1_obeys) 1 (S' := (292, [.ref q0, .ref q1, .int x2, .int v3, .int v7, .int v10, .int v13, .int v16], [.int (0 : Int32)], σ58)) (P := []) rfl trivial ?_
      subst h
      exact mm_rt_ ⟨_, _, _, rfl, ⟨_, _, rfl, rfl, rfl, rfl⟩⟩
    · rw [if_neg b62]
      have h := h.2 b62
      refine mm_blk (M := mm_m_X1_obeys) 4 (S' := (281, [.ref q0, .ref q1, .int x2, .int v3, .int v7, .int v10, .int v13, .int v16], [.int v16, .int v3, .ref (q0 + 4)], σ58)) (P := [mm_cl q0 = 1]) rfl ⟨c61, trivial⟩ ?_
      obtain ⟨v65, σ63, e64, h⟩ := h
      refine mm_cl_ (rest := []) e64 ⟨_, _, _, rfl, rfl, mm_tb_X1_setIn, rfl, rfl, Nat.le_of_ble_eq_true rfl, Nat.le_of_ble_eq_true rfl, trivial⟩ ?_
      refine mm_blk (M := mm_m_X1_obeys) 1 (S' := ((if v65 = (0 : Int32) then 291 else 287), [.ref q0, .ref q1, .int x2, .int v3, .int v7, .int v10, .int v13, .int v16], [], σ63)) (P := []) rfl trivial ?_
      by_cases b66 : v65 = (0 : Int32)
      · rw [if_pos b66]
        have h := h.1 b66
        refine mm_blk (M := mm_m_X1_obeys) 1 (S' := (292, [.ref q0, .ref q1, .int x2, .int v3, .int v7, .int v10, .int v13, .int v16], [.int (0 : Int32)], σ63)) (P := []) rfl trivial ?_
        subst h
        exact mm_rt_ ⟨_, _, _, rfl, ⟨_, _, rfl, rfl, rfl, rfl⟩⟩
      · rw [if_neg b66]
        have h := h.2 b66
        refine mm_blk (M := mm_m_X1_obeys) 2 (S' := (292, [.ref q0, .ref q1, .int x2, .int v3, .int v7, .int v10, .int v13, .int v16], [.int (1 : Int32)], σ63)) (P := []) rfl trivial ?_
        subst h
        exact mm_rt_ ⟨_, _, _, rfl, ⟨_, _, rfl, rfl, rfl, rfl⟩⟩
  rw [show mm_tsw v19 327 111 [266, 327, 327, 327, 327, 235, 327, 327, 200, 327, 327, 246] = mm_tsw v19 327 112 [327, 327, 327, 327, 235, 327, 327, 200, 327, 327, 246] from mm_tsw_f b57]
  have h := h.2 b57
  by_cases b67 : v19 = nI 112
  · rw [show mm_tsw v19 327 112 [327, 327, 327, 327, 235, 327, 327, 200, 327, 327, 246] = 327 from mm_tsw_t b67]
    have h := h.1 b67
    refine mm_blk (M := mm_m_X1_obeys) 1 (S' := (328, [.ref q0, .ref q1, .int x2, .int v3, .int v7, .int v10, .int v13, .int v16], [.int (0 : Int32)], σ17)) (P := []) rfl trivial ?_
    subst h
    exact mm_rt_ ⟨_, _, _, rfl, ⟨_, _, rfl, rfl, rfl, rfl⟩⟩
  rw [show mm_tsw v19 327 112 [327, 327, 327, 327, 235, 327, 327, 200, 327, 327, 246] = mm_tsw v19 327 113 [327, 327, 327, 235, 327, 327, 200, 327, 327, 246] from mm_tsw_f b67]
  have h := h.2 b67
  by_cases b68 : v19 = nI 113
  · rw [show mm_tsw v19 327 113 [327, 327, 327, 235, 327, 327, 200, 327, 327, 246] = 327 from mm_tsw_t b68]
    have h := h.1 b68
    refine mm_blk (M := mm_m_X1_obeys) 1 (S' := (328, [.ref q0, .ref q1, .int x2, .int v3, .int v7, .int v10, .int v13, .int v16], [.int (0 : Int32)], σ17)) (P := []) rfl trivial ?_
    subst h
    exact mm_rt_ ⟨_, _, _, rfl, ⟨_, _, rfl, rfl, rfl, rfl⟩⟩
  rw [show mm_tsw v19 327 113 [327, 327, 327, 235, 327, 327, 200, 327, 327, 246] = mm_tsw v19 327 114 [327, 327, 235, 327, 327, 200, 327, 327, 246] from mm_tsw_f b68]
  have h := h.2 b68
  by_cases b69 : v19 = nI 114
  · rw [show mm_tsw v19 327 114 [327, 327, 235, 327, 327, 200, 327, 327, 246] = 327 from mm_tsw_t b69]
    have h := h.1 b69
    refine mm_blk (M := mm_m_X1_obeys) 1 (S' := (328, [.ref q0, .ref q1, .int x2, .int v3, .int v7, .int v10, .int v13, .int v16], [.int (0 : Int32)], σ17)) (P := []) rfl trivial ?_
    subst h
    exact mm_rt_ ⟨_, _, _, rfl, ⟨_, _, rfl, rfl, rfl, rfl⟩⟩
  rw [show mm_tsw v19 327 114 [327, 327, 235, 327, 327, 200, 327, 327, 246] = mm_tsw v19 327 115 [327, 235, 327, 327, 200, 327, 327, 246] from mm_tsw_f b69]
  have h := h.2 b69
  by_cases b70 : v19 = nI 115
  · rw [show mm_tsw v19 327 115 [327, 235, 327, 327, 200, 327, 327, 246] = 327 from mm_tsw_t b70]
    have h := h.1 b70
    refine mm_blk (M := mm_m_X1_obeys) 1 (S' := (328, [.ref q0, .ref q1, .int x2, .int v3, .int v7, .int v10, .int v13, .int v16], [.int (0 : Int32)], σ17)) (P := []) rfl trivial ?_
    subst h
    exact mm_rt_ ⟨_, _, _, rfl, ⟨_, _, rfl, rfl, rfl, rfl⟩⟩
  rw [show mm_tsw v19 327 115 [327, 235, 327, 327, 200, 327, 327, 246] = mm_tsw v19 327 116 [235, 327, 327, 200, 327, 327, 246] from mm_tsw_f b70]
  have h := h.2 b70
  by_cases b71 : v19 = nI 116
  · rw [show mm_tsw v19 327 116 [235, 327, 327, 200, 327, 327, 246] = 235 from mm_tsw_t b71]
    have h := h.1 b71
    obtain ⟨c72, h⟩ := h
    refine mm_blk (M := mm_m_X1_obeys) 4 (S' := (242, [.ref q0, .ref q1, .int x2, .int v3, .int v7, .int v10, .int v13, .int v16], [.int v16, .int v3, .ref (q0 + 5)], σ17)) (P := [mm_cl q0 = 1]) rfl ⟨c72, trivial⟩ ?_
    obtain ⟨v75, σ73, e74, h⟩ := h
    refine mm_cl_ (rest := []) e74 ⟨_, _, _, rfl, rfl, mm_tb_X1_setIn, rfl, rfl, Nat.le_of_ble_eq_true rfl, Nat.le_of_ble_eq_true rfl, trivial⟩ ?_
    obtain ⟨c76, h⟩ := h
    subst h
    exact mm_rt_ ⟨_, _, _, rfl, ⟨_, _, rfl, rfl, rfl, (mm_nb c76)⟩⟩
  rw [show mm_tsw v19 327 116 [235, 327, 327, 200, 327, 327, 246] = mm_tsw v19 327 117 [327, 327, 200, 327, 327, 246] from mm_tsw_f b71]
  have h := h.2 b71
  by_cases b77 : v19 = nI 117
  · rw [show mm_tsw v19 327 117 [327, 327, 200, 327, 327, 246] = 327 from mm_tsw_t b77]
    have h := h.1 b77
    refine mm_blk (M := mm_m_X1_obeys) 1 (S' := (328, [.ref q0, .ref q1, .int x2, .int v3, .int v7, .int v10, .int v13, .int v16], [.int (0 : Int32)], σ17)) (P := []) rfl trivial ?_
    subst h
    exact mm_rt_ ⟨_, _, _, rfl, ⟨_, _, rfl, rfl, rfl, rfl⟩⟩
  rw [show mm_tsw v19 327 117 [327, 327, 200, 327, 327, 246] = mm_tsw v19 327 118 [327, 200, 327, 327, 246] from mm_tsw_f b77]
  have h := h.2 b77
  by_cases b78 : v19 = nI 118
  · rw [show mm_tsw v19 327 118 [327, 200, 327, 327, 246] = 327 from mm_tsw_t b78]
    have h := h.1 b78
    refine mm_blk (M := mm_m_X1_obeys) 1 (S' := (328, [.ref q0, .ref q1, .int x2, .int v3, .int v7, .int v10, .int v13, .int v16], [.int (0 : Int32)], σ17)) (P := []) rfl trivial ?_
    subst h
    exact mm_rt_ ⟨_, _, _, rfl, ⟨_, _, rfl, rfl, rfl, rfl⟩⟩
  rw [show mm_tsw v19 327 118 [327, 200, 327, 327, 246] = mm_tsw v19 327 119 [200, 327, 327, 246] from mm_tsw_f b78]
  have h := h.2 b78
  by_cases b79 : v19 = nI 119
  · rw [show mm_tsw v19 327 119 [200, 327, 327, 246] = 200 from mm_tsw_t b79]
    have h := h.1 b79
    refine mm_blk (M := mm_m_X1_obeys) 2 (S' := (202, [.ref q0, .ref q1, .int x2, .int v3, .int v7, .int v10, .int v13, .int v16], [.int v3, .ref q0], σ17)) (P := []) rfl trivial ?_
    obtain ⟨c83, h⟩ := h
    obtain ⟨v82, σ80, e81, h⟩ := h
    refine mm_cl_ (rest := []) e81 ⟨_, _, _, rfl, rfl, mm_tb_X1_has, rfl, rfl, Nat.le_of_ble_eq_true rfl, Nat.le_of_ble_eq_true rfl, ⟨_, rfl, c83⟩⟩ ?_
    refine mm_blk (M := mm_m_X1_obeys) 1 (S' := ((if v82 = (0 : Int32) then 233 else 208), [.ref q0, .ref q1, .int x2, .int v3, .int v7, .int v10, .int v13, .int v16], [], σ80)) (P := []) rfl trivial ?_
    by_cases b84 : v82 = (0 : Int32)
    · rw [if_pos b84]
      have h := h.1 b84
      refine mm_blk (M := mm_m_X1_obeys) 1 (S' := (234, [.ref q0, .ref q1, .int x2, .int v3, .int v7, .int v10, .int v13, .int v16], [.int (0 : Int32)], σ80)) (P := []) rfl trivial ?_
      subst h
      exact mm_rt_ ⟨_, _, _, rfl, ⟨_, _, rfl, rfl, rfl, rfl⟩⟩
    · rw [if_neg b84]
      have h := h.2 b84
      refine mm_blk (M := mm_m_X1_obeys) 1 (S' := (210, [.ref q0, .ref q1, .int x2, .int v3, .int v7, .int v10, .int v13, .int v16], [.int v7], σ80)) (P := []) rfl trivial ?_
      obtain ⟨v87, σ85, e86, h⟩ := h
      refine mm_cl_ (rest := []) e86 ⟨_, _, _, rfl, rfl, mm_tb_X10_isWakerOrNobody, rfl, rfl, Nat.le_of_ble_eq_true rfl, Nat.le_of_ble_eq_true rfl, trivial⟩ ?_
      refine mm_blk (M := mm_m_X1_obeys) 1 (S' := ((if v87 = (0 : Int32) then 233 else 216), [.ref q0, .ref q1, .int x2, .int v3, .int v7, .int v10, .int v13, .int v16], [], σ85)) (P := []) rfl trivial ?_
      by_cases b88 : v87 = (0 : Int32)
      · rw [if_pos b88]
        have h := h.1 b88
        refine mm_blk (M := mm_m_X1_obeys) 1 (S' := (234, [.ref q0, .ref q1, .int x2, .int v3, .int v7, .int v10, .int v13, .int v16], [.int (0 : Int32)], σ85)) (P := []) rfl trivial ?_
        subst h
        exact mm_rt_ ⟨_, _, _, rfl, ⟨_, _, rfl, rfl, rfl, rfl⟩⟩
      · rw [if_neg b88]
        have h := h.2 b88
        refine mm_blk (M := mm_m_X1_obeys) 4 (S' := (223, [.ref q0, .ref q1, .int x2, .int v3, .int v7, .int v10, .int v13, .int v16], [.int v7, .int v3, .ref (q0 + 3)], σ85)) (P := [mm_cl q0 = 1]) rfl ⟨c83, trivial⟩ ?_
        obtain ⟨v91, σ89, e90, h⟩ := h
        refine mm_cl_ (rest := []) e90 ⟨_, _, _, rfl, rfl, mm_tb_X1_setIn, rfl, rfl, Nat.le_of_ble_eq_true rfl, Nat.le_of_ble_eq_true rfl, trivial⟩ ?_
        refine mm_blk (M := mm_m_X1_obeys) 1 (S' := ((if v91 = (0 : Int32) then 233 else 229), [.ref q0, .ref q1, .int x2, .int v3, .int v7, .int v10, .int v13, .int v16], [], σ89)) (P := []) rfl trivial ?_
        by_cases b92 : v91 = (0 : Int32)
        · rw [if_pos b92]
          have h := h.1 b92
          refine mm_blk (M := mm_m_X1_obeys) 1 (S' := (234, [.ref q0, .ref q1, .int x2, .int v3, .int v7, .int v10, .int v13, .int v16], [.int (0 : Int32)], σ89)) (P := []) rfl trivial ?_
          subst h
          exact mm_rt_ ⟨_, _, _, rfl, ⟨_, _, rfl, rfl, rfl, rfl⟩⟩
        · rw [if_neg b92]
          have h := h.2 b92
          refine mm_blk (M := mm_m_X1_obeys) 2 (S' := (234, [.ref q0, .ref q1, .int x2, .int v3, .int v7, .int v10, .int v13, .int v16], [.int (1 : Int32)], σ89)) (P := []) rfl trivial ?_
          subst h
          exact mm_rt_ ⟨_, _, _, rfl, ⟨_, _, rfl, rfl, rfl, rfl⟩⟩
  rw [show mm_tsw v19 327 119 [200, 327, 327, 246] = mm_tsw v19 327 120 [327, 327, 246] from mm_tsw_f b79]
  have h := h.2 b79
  by_cases b93 : v19 = nI 120
  · rw [show mm_tsw v19 327 120 [327, 327, 246] = 327 from mm_tsw_t b93]
    have h := h.1 b93
    refine mm_blk (M := mm_m_X1_obeys) 1 (S' := (328, [.ref q0, .ref q1, .int x2, .int v3, .int v7, .int v10, .int v13, .int v16], [.int (0 : Int32)], σ17)) (P := []) rfl trivial ?_
    subst h
    exact mm_rt_ ⟨_, _, _, rfl, ⟨_, _, rfl, rfl, rfl, rfl⟩⟩
  rw [show mm_tsw v19 327 120 [327, 327, 246] = mm_tsw v19 327 121 [327, 246] from mm_tsw_f b93]
  have h := h.2 b93
  by_cases b94 : v19 = nI 121
  · rw [show mm_tsw v19 327 121 [327, 246] = 327 from mm_tsw_t b94]
    have h := h.1 b94
    refine mm_blk (M := mm_m_X1_obeys) 1 (S' := (328, [.ref q0, .ref q1, .int x2, .int v3, .int v7, .int v10, .int v13, .int v16], [.int (0 : Int32)], σ17)) (P := []) rfl trivial ?_
    subst h
    exact mm_rt_ ⟨_, _, _, rfl, ⟨_, _, rfl, rfl, rfl, rfl⟩⟩
  rw [show mm_tsw v19 327 121 [327, 246] = mm_tsw v19 327 122 [246] from mm_tsw_f b94]
  have h := h.2 b94
  by_cases b95 : v19 = nI 122
  · rw [show mm_tsw v19 327 122 [246] = 246 from mm_tsw_t b95]
    have h := h.1 b95
    refine mm_blk (M := mm_m_X1_obeys) 2 (S' := (248, [.ref q0, .ref q1, .int x2, .int v3, .int v7, .int v10, .int v13, .int v16], [.int v3, .ref q0], σ17)) (P := []) rfl trivial ?_
    obtain ⟨c99, h⟩ := h
    obtain ⟨v98, σ96, e97, h⟩ := h
    refine mm_cl_ (rest := []) e97 ⟨_, _, _, rfl, rfl, mm_tb_X1_turnsOver, rfl, rfl, Nat.le_of_ble_eq_true rfl, Nat.le_of_ble_eq_true rfl, ⟨_, rfl, c99⟩⟩ ?_
    obtain ⟨c100, h⟩ := h
    subst h
    exact mm_rt_ ⟨_, _, _, rfl, ⟨_, _, rfl, rfl, rfl, (mm_nb c100)⟩⟩
  rw [show mm_tsw v19 327 122 [246] = mm_tsw v19 327 123 [] from mm_tsw_f b95]
  have h := h.2 b95
  change mm_Go mm_m_X1_obeys (327, [.ref q0, .ref q1, .int x2, .int v3, .int v7, .int v10, .int v13, .int v16], [], σ17) R
  refine mm_blk (M := mm_m_X1_obeys) 1 (S' := (328, [.ref q0, .ref q1, .int x2, .int v3, .int v7, .int v10, .int v13, .int v16], [.int (0 : Int32)], σ17)) (P := []) rfl trivial ?_
  subst h
  exact mm_rt_ ⟨_, _, _, rfl, ⟨_, _, rfl, rfl, rfl, rfl⟩⟩
theorem sg_X1_turnsOver_0 (σ : mm_Sg) (q0 : Nat) (x1 : Int32) (R : Option Value × mm_Sg) (h : (∃ (v3 : Int32) (σ1 : mm_Sg), mm_Ev mm_m_X10_isWaker [.int x1] σ (some (.int v3)) σ1 ∧ (((¬ v3 = (0 : Int32) → ((mm_cl q0 = 1) ∧ ∀ σ6 : mm_Sg, σ6 = mm_u σ1 q0 7 ((σ1 q0 7) ^^^ ((1 : Int32) <<< (x1 &&& 31))) → (R = (some (.int (1 : Int32)), σ6)))) ∧ (¬ (¬ v3 = (0 : Int32)) → (R = (some (.int (0 : Int32)), σ1))))))) : mm_Go mm_m_X1_turnsOver (0, [.ref q0, .int x1], [], σ) R := by
  refine mm_blk (M := mm_m_X1_turnsOver) 1 (S' := (1, [.ref q0, .int x1], [.int x1], σ)) (P := []) rfl trivial ?_
  obtain ⟨v3, σ1, e2, h⟩ := h
  refine mm_cl_ (rest := []) e2 ⟨_, _, _, rfl, rfl, mm_tb_X10_isWaker, rfl, rfl, Nat.le_of_ble_eq_true rfl, Nat.le_of_ble_eq_true rfl, trivial⟩ ?_
  refine mm_blk (M := mm_m_X1_turnsOver) 1 (S' := ((if ¬ v3 = (0 : Int32) then 9 else 7), [.ref q0, .int x1], [], σ1)) (P := []) rfl trivial ?_
  by_cases b4 : ¬ v3 = (0 : Int32)
  · rw [if_pos b4]
    have h := h.1 b4
    obtain ⟨c5, h⟩ := h
    refine mm_blk (M := mm_m_X1_turnsOver) 8 (S' := (21, [.ref q0, .int x1], [], mm_u σ1 q0 7 ((σ1 q0 7) ^^^ ((1 : Int32) <<< (x1 &&& 31))))) (P := [mm_cl q0 = 1, mm_cl q0 = 1]) rfl ⟨c5, c5, trivial⟩ ?_
    obtain ⟨σ6, e7⟩ : ∃ z, z = mm_u σ1 q0 7 ((σ1 q0 7) ^^^ ((1 : Int32) <<< (x1 &&& 31))) := ⟨_, rfl⟩
    rw [← e7]
    have h := h σ6 e7
    refine mm_blk (M := mm_m_X1_turnsOver) 1 (S' := (22, [.ref q0, .int x1], [.int (1 : Int32)], σ6)) (P := []) rfl trivial ?_
    subst h
    exact mm_rt_ ⟨_, _, _, rfl, ⟨_, _, rfl, rfl, rfl, rfl⟩⟩
  · rw [if_neg b4]
    have h := h.2 b4
    refine mm_blk (M := mm_m_X1_turnsOver) 1 (S' := (8, [.ref q0, .int x1], [.int (0 : Int32)], σ1)) (P := []) rfl trivial ?_
    subst h
    exact mm_rt_ ⟨_, _, _, rfl, ⟨_, _, rfl, rfl, rfl, rfl⟩⟩
theorem sg_X1_setIn_0 (σ : mm_Sg) (q0 : Nat) (x1 : Int32) (x2 : Int32) (R : Option Value × mm_Sg) (h : (((x1 < (0 : Int32) → (R = (some (.int (0 : Int32)), σ))) ∧ (¬ (x1 < (0 : Int32)) → ((0 < mm_len q0) ∧ ((x1 < (nI (mm_len q0)) → ((vp_in x1 (mm_len q0)) ∧ ∀ σ5 : mm_Sg, σ5 = mm_u σ q0 x1.toNatClampNeg x2 → (R = (some (.int (1 : Int32)), σ5)))) ∧ (¬ (x1 < (nI (mm_len q0))) → (R = (some (.int (0 : Int32)), σ))))))))) : mm_Go mm_m_X1_setIn (0, [.ref q0, .int x1, .int x2], [], σ) R := by
  refine mm_blk (M := mm_m_X1_setIn) 2 (S' := ((if x1 < (0 : Int32) then 10 else 4), [.ref q0, .int x1, .int x2], [], σ)) (P := []) rfl trivial ?_
  by_cases b1 : x1 < (0 : Int32)
  · rw [if_pos b1]
    have h := h.1 b1
    refine mm_blk (M := mm_m_X1_setIn) 1 (S' := (11, [.ref q0, .int x1, .int x2], [.int (0 : Int32)], σ)) (P := []) rfl trivial ?_
    subst h
    exact mm_rt_ ⟨_, _, _, rfl, ⟨_, _, rfl, rfl, rfl, rfl⟩⟩
  · rw [if_neg b1]
    have h := h.2 b1
    obtain ⟨c2, h⟩ := h
    refine mm_blk (M := mm_m_X1_setIn) 4 (S' := ((if x1 < (nI (mm_len q0)) then 12 else 10), [.ref q0, .int x1, .int x2], [], σ)) (P := [0 < mm_len q0]) rfl ⟨c2, trivial⟩ ?_
    by_cases b3 : x1 < (nI (mm_len q0))
    · rw [if_pos b3]
      have h := h.1 b3
      obtain ⟨c4, h⟩ := h
      refine mm_blk (M := mm_m_X1_setIn) 4 (S' := (16, [.ref q0, .int x1, .int x2], [], mm_u σ q0 x1.toNatClampNeg x2)) (P := [vp_in x1 (mm_len q0)]) rfl ⟨c4, trivial⟩ ?_
      obtain ⟨σ5, e6⟩ : ∃ z, z = mm_u σ q0 x1.toNatClampNeg x2 := ⟨_, rfl⟩
      rw [← e6]
      have h := h σ5 e6
      refine mm_blk (M := mm_m_X1_setIn) 1 (S' := (17, [.ref q0, .int x1, .int x2], [.int (1 : Int32)], σ5)) (P := []) rfl trivial ?_
      subst h
      exact mm_rt_ ⟨_, _, _, rfl, ⟨_, _, rfl, rfl, rfl, rfl⟩⟩
    · rw [if_neg b3]
      have h := h.2 b3
      refine mm_blk (M := mm_m_X1_setIn) 1 (S' := (11, [.ref q0, .int x1, .int x2], [.int (0 : Int32)], σ)) (P := []) rfl trivial ?_
      subst h
      exact mm_rt_ ⟨_, _, _, rfl, ⟨_, _, rfl, rfl, rfl, rfl⟩⟩
theorem sg_X1_owedInAll_0 (σ : mm_Sg) (q0 : Nat) (R : Option Value × mm_Sg) (h : mm_Go mm_m_X1_owedInAll (4, [.ref q0, .int (0 : Int32), .int (0 : Int32)], [], σ) R) : mm_Go mm_m_X1_owedInAll (0, [.ref q0, .null, .null], [], σ) R := by
  refine mm_blk (M := mm_m_X1_owedInAll) 4 (S' := (4, [.ref q0, .int (0 : Int32), .int (0 : Int32)], [], σ)) (P := []) rfl trivial ?_
  exact h
theorem sg_X1_owedInAll_4 (σ : mm_Sg) (q0 : Nat) (x1 : Int32) (x2 : Int32) (R : Option Value × mm_Sg) (h : ((mm_cl q0 = 1) ∧ (((σ q0 6) ≤ x2 → (R = (some (.int x1), σ))) ∧ (¬ ((σ q0 6) ≤ x2) → ((((7 : Int32) ≤ x2 → (R = (some (.int x1), σ))) ∧ (¬ ((7 : Int32) ≤ x2) → ((vp_in x2 (mm_len (q0 + 4))) ∧ mm_Go mm_m_X1_owedInAll (4, [.ref q0, .int (x1 + (σ (q0 + 4) x2.toNatClampNeg)), .int (x2 + (1 : Int32))], [], σ) R)))))))) : mm_Go mm_m_X1_owedInAll (4, [.ref q0, .int x1, .int x2], [], σ) R := by
  obtain ⟨c1, h⟩ := h
  refine mm_blk (M := mm_m_X1_owedInAll) 4 (S' := ((if (σ q0 6) ≤ x2 then 33 else 12), [.ref q0, .int x1, .int x2], [], σ)) (P := [mm_cl q0 = 1]) rfl ⟨c1, trivial⟩ ?_
  by_cases b2 : (σ q0 6) ≤ x2
  · rw [if_pos b2]
    have h := h.1 b2
    refine mm_blk (M := mm_m_X1_owedInAll) 1 (S' := (34, [.ref q0, .int x1, .int x2], [.int x1], σ)) (P := []) rfl trivial ?_
    subst h
    exact mm_rt_ ⟨_, _, _, rfl, ⟨_, _, rfl, rfl, rfl, rfl⟩⟩
  · rw [if_neg b2]
    have h := h.2 b2
    refine mm_blk (M := mm_m_X1_owedInAll) 3 (S' := ((if (7 : Int32) ≤ x2 then 33 else 18), [.ref q0, .int x1, .int x2], [], σ)) (P := []) rfl trivial ?_
    by_cases b3 : (7 : Int32) ≤ x2
    · rw [if_pos b3]
      have h := h.1 b3
      refine mm_blk (M := mm_m_X1_owedInAll) 1 (S' := (34, [.ref q0, .int x1, .int x2], [.int x1], σ)) (P := []) rfl trivial ?_
      subst h
      exact mm_rt_ ⟨_, _, _, rfl, ⟨_, _, rfl, rfl, rfl, rfl⟩⟩
    · rw [if_neg b3]
      have h := h.2 b3
      obtain ⟨c4, h⟩ := h
      refine mm_blk (M := mm_m_X1_owedInAll) 9 (S' := (4, [.ref q0, .int (x1 + (σ (q0 + 4) x2.toNatClampNeg)), .int (x2 + (1 : Int32))], [], σ)) (P := [mm_cl q0 = 1, vp_in x2 (mm_len (q0 + 4))]) rfl ⟨c1, c4, trivial⟩ ?_
      exact h
theorem sg_X1_tiredInAll_0 (σ : mm_Sg) (q0 : Nat) (R : Option Value × mm_Sg) (h : mm_Go mm_m_X1_tiredInAll (4, [.ref q0, .int (0 : Int32), .int (0 : Int32)], [], σ) R) : mm_Go mm_m_X1_tiredInAll (0, [.ref q0, .null, .null], [], σ) R := by
  refine mm_blk (M := mm_m_X1_tiredInAll) 4 (S' := (4, [.ref q0, .int (0 : Int32), .int (0 : Int32)], [], σ)) (P := []) rfl trivial ?_
  exact h
theorem sg_X1_tiredInAll_4 (σ : mm_Sg) (q0 : Nat) (x1 : Int32) (x2 : Int32) (R : Option Value × mm_Sg) (h : ((((5 : Int32) ≤ x2 → (R = (some (.int x1), σ))) ∧ (¬ ((5 : Int32) ≤ x2) → ((mm_cl q0 = 1) ∧ (vp_in x2 (mm_len (q0 + 5))) ∧ mm_Go mm_m_X1_tiredInAll (4, [.ref q0, .int (x1 + (σ (q0 + 5) x2.toNatClampNeg)), .int (x2 + (1 : Int32))], [], σ) R))))) : mm_Go mm_m_X1_tiredInAll (4, [.ref q0, .int x1, .int x2], [], σ) R := by
  refine mm_blk (M := mm_m_X1_tiredInAll) 3 (S' := ((if (5 : Int32) ≤ x2 then 24 else 9), [.ref q0, .int x1, .int x2], [], σ)) (P := []) rfl trivial ?_
  by_cases b1 : (5 : Int32) ≤ x2
  · rw [if_pos b1]
    have h := h.1 b1
    refine mm_blk (M := mm_m_X1_tiredInAll) 1 (S' := (25, [.ref q0, .int x1, .int x2], [.int x1], σ)) (P := []) rfl trivial ?_
    subst h
    exact mm_rt_ ⟨_, _, _, rfl, ⟨_, _, rfl, rfl, rfl, rfl⟩⟩
  · rw [if_neg b1]
    have h := h.2 b1
    obtain ⟨c2, h⟩ := h
    obtain ⟨c3, h⟩ := h
    refine mm_blk (M := mm_m_X1_tiredInAll) 9 (S' := (4, [.ref q0, .int (x1 + (σ (q0 + 5) x2.toNatClampNeg)), .int (x2 + (1 : Int32))], [], σ)) (P := [mm_cl q0 = 1, vp_in x2 (mm_len (q0 + 5))]) rfl ⟨c2, c3, trivial⟩ ?_
    exact h
theorem sg_X1_drinkersOf_0 (σ : mm_Sg) (q0 : Nat) (x1 : Int32) (R : Option Value × mm_Sg) (h : mm_Go mm_m_X1_drinkersOf (4, [.ref q0, .int x1, .int (0 : Int32), .int (0 : Int32)], [], σ) R) : mm_Go mm_m_X1_drinkersOf (0, [.ref q0, .int x1, .null, .null], [], σ) R := by
  refine mm_blk (M := mm_m_X1_drinkersOf) 4 (S' := (4, [.ref q0, .int x1, .int (0 : Int32), .int (0 : Int32)], [], σ)) (P := []) rfl trivial ?_
  exact h
theorem sg_X1_drinkersOf_4 (σ : mm_Sg) (q0 : Nat) (x1 : Int32) (x2 : Int32) (x3 : Int32) (R : Option Value × mm_Sg) (h : ((mm_cl q0 = 1) ∧ (((σ q0 6) ≤ x3 → (R = (some (.int x2), σ))) ∧ (¬ ((σ q0 6) ≤ x3) → ((((7 : Int32) ≤ x3 → (R = (some (.int x2), σ))) ∧ (¬ ((7 : Int32) ≤ x3) → ((vp_in x3 (mm_len (q0 + 3))) ∧ ((¬ (σ (q0 + 3) x3.toNatClampNeg) = x1 → mm_Go mm_m_X1_drinkersOf (4, [.ref q0, .int x1, .int x2, .int (x3 + (1 : Int32))], [], σ) R) ∧ (¬ (¬ (σ (q0 + 3) x3.toNatClampNeg) = x1) → mm_Go mm_m_X1_drinkersOf (4, [.ref q0, .int x1, .int (x2 + (1 : Int32)), .int (x3 + (1 : Int32))], [], σ) R)))))))))) : mm_Go mm_m_X1_drinkersOf (4, [.ref q0, .int x1, .int x2, .int x3], [], σ) R := by
  obtain ⟨c1, h⟩ := h
  refine mm_blk (M := mm_m_X1_drinkersOf) 4 (S' := ((if (σ q0 6) ≤ x3 then 37 else 12), [.ref q0, .int x1, .int x2, .int x3], [], σ)) (P := [mm_cl q0 = 1]) rfl ⟨c1, trivial⟩ ?_
  by_cases b2 : (σ q0 6) ≤ x3
  · rw [if_pos b2]
    have h := h.1 b2
    refine mm_blk (M := mm_m_X1_drinkersOf) 1 (S' := (38, [.ref q0, .int x1, .int x2, .int x3], [.int x2], σ)) (P := []) rfl trivial ?_
    subst h
    exact mm_rt_ ⟨_, _, _, rfl, ⟨_, _, rfl, rfl, rfl, rfl⟩⟩
  · rw [if_neg b2]
    have h := h.2 b2
    refine mm_blk (M := mm_m_X1_drinkersOf) 3 (S' := ((if (7 : Int32) ≤ x3 then 37 else 18), [.ref q0, .int x1, .int x2, .int x3], [], σ)) (P := []) rfl trivial ?_
    by_cases b3 : (7 : Int32) ≤ x3
    · rw [if_pos b3]
      have h := h.1 b3
      refine mm_blk (M := mm_m_X1_drinkersOf) 1 (S' := (38, [.ref q0, .int x1, .int x2, .int x3], [.int x2], σ)) (P := []) rfl trivial ?_
      subst h
      exact mm_rt_ ⟨_, _, _, rfl, ⟨_, _, rfl, rfl, rfl, rfl⟩⟩
    · rw [if_neg b3]
      have h := h.2 b3
      obtain ⟨c4, h⟩ := h
      refine mm_blk (M := mm_m_X1_drinkersOf) 6 (S' := ((if ¬ (σ (q0 + 3) x3.toNatClampNeg) = x1 then 31 else 28), [.ref q0, .int x1, .int x2, .int x3], [], σ)) (P := [mm_cl q0 = 1, vp_in x3 (mm_len (q0 + 3))]) rfl ⟨c1, c4, trivial⟩ ?_
      by_cases b5 : ¬ (σ (q0 + 3) x3.toNatClampNeg) = x1
      · rw [if_pos b5]
        have h := h.1 b5
        refine mm_blk (M := mm_m_X1_drinkersOf) 2 (S' := (4, [.ref q0, .int x1, .int x2, .int (x3 + (1 : Int32))], [], σ)) (P := []) rfl trivial ?_
        exact h
      · rw [if_neg b5]
        have h := h.2 b5
        refine mm_blk (M := mm_m_X1_drinkersOf) 3 (S' := (4, [.ref q0, .int x1, .int (x2 + (1 : Int32)), .int (x3 + (1 : Int32))], [], σ)) (P := []) rfl trivial ?_
        exact h
theorem sg_X1_heaviestWaker_0 (σ : mm_Sg) (q0 : Nat) (R : Option Value × mm_Sg) (h : mm_Go mm_m_X1_heaviestWaker (4, [.ref q0, .int (0 : Int32), .int (1 : Int32)], [], σ) R) : mm_Go mm_m_X1_heaviestWaker (0, [.ref q0, .null, .null], [], σ) R := by
  refine mm_blk (M := mm_m_X1_heaviestWaker) 4 (S' := (4, [.ref q0, .int (0 : Int32), .int (1 : Int32)], [], σ)) (P := []) rfl trivial ?_
  exact h
theorem sg_X1_heaviestWaker_4 (σ : mm_Sg) (q0 : Nat) (x1 : Int32) (x2 : Int32) (R : Option Value × mm_Sg) (h : ((((5 : Int32) ≤ x2 → (R = (some (.int x1), σ))) ∧ (¬ ((5 : Int32) ≤ x2) → ((mm_cl q0 = 1) ∧ ∃ (v4 : Int32) (σ2 : mm_Sg), mm_Ev mm_m_X1_drinkersOf [.ref q0, .int x2] σ (some (.int v4)) σ2 ∧ (∃ (v8 : Int32) (σ6 : mm_Sg), mm_Ev mm_m_X1_drinkersOf [.ref q0, .int x1] σ2 (some (.int v8)) σ6 ∧ (((v4 ≤ v8 → mm_Go mm_m_X1_heaviestWaker (4, [.ref q0, .int x1, .int (x2 + (1 : Int32))], [], σ6) R) ∧ (¬ (v4 ≤ v8) → mm_Go mm_m_X1_heaviestWaker (4, [.ref q0, .int x2, .int (x2 + (1 : Int32))], [], σ6) R))))))))) : mm_Go mm_m_X1_heaviestWaker (4, [.ref q0, .int x1, .int x2], [], σ) R := by
  refine mm_blk (M := mm_m_X1_heaviestWaker) 3 (S' := ((if (5 : Int32) ≤ x2 then 30 else 9), [.ref q0, .int x1, .int x2], [], σ)) (P := []) rfl trivial ?_
  by_cases b1 : (5 : Int32) ≤ x2
  · rw [if_pos b1]
    have h := h.1 b1
    refine mm_blk (M := mm_m_X1_heaviestWaker) 1 (S' := (31, [.ref q0, .int x1, .int x2], [.int x1], σ)) (P := []) rfl trivial ?_
    subst h
    exact mm_rt_ ⟨_, _, _, rfl, ⟨_, _, rfl, rfl, rfl, rfl⟩⟩
  · rw [if_neg b1]
    have h := h.2 b1
    refine mm_blk (M := mm_m_X1_heaviestWaker) 2 (S' := (11, [.ref q0, .int x1, .int x2], [.int x2, .ref q0], σ)) (P := []) rfl trivial ?_
    obtain ⟨c5, h⟩ := h
    obtain ⟨v4, σ2, e3, h⟩ := h
    refine mm_cl_ (rest := []) e3 ⟨_, _, _, rfl, rfl, mm_tb_X1_drinkersOf, rfl, rfl, Nat.le_of_ble_eq_true rfl, Nat.le_of_ble_eq_true rfl, ⟨_, rfl, c5⟩⟩ ?_
    refine mm_blk (M := mm_m_X1_heaviestWaker) 2 (S' := (16, [.ref q0, .int x1, .int x2], [.int x1, .ref q0, .int v4], σ2)) (P := []) rfl trivial ?_
    obtain ⟨v8, σ6, e7, h⟩ := h
    refine mm_cl_ (rest := [.int v4]) e7 ⟨_, _, _, rfl, rfl, mm_tb_X1_drinkersOf, rfl, rfl, Nat.le_of_ble_eq_true rfl, Nat.le_of_ble_eq_true rfl, ⟨_, rfl, c5⟩⟩ ?_
    refine mm_blk (M := mm_m_X1_heaviestWaker) 1 (S' := ((if v4 ≤ v8 then 24 else 22), [.ref q0, .int x1, .int x2], [], σ6)) (P := []) rfl trivial ?_
    by_cases b9 : v4 ≤ v8
    · rw [if_pos b9]
      have h := h.1 b9
      refine mm_blk (M := mm_m_X1_heaviestWaker) 2 (S' := (4, [.ref q0, .int x1, .int (x2 + (1 : Int32))], [], σ6)) (P := []) rfl trivial ?_
      exact h
    · rw [if_neg b9]
      have h := h.2 b9
      refine mm_blk (M := mm_m_X1_heaviestWaker) 4 (S' := (4, [.ref q0, .int x2, .int (x2 + (1 : Int32))], [], σ6)) (P := []) rfl trivial ?_
      exact h
theorem sg_X1_deepestDrinker_0 (σ : mm_Sg) (q0 : Nat) (R : Option Value × mm_Sg) (h : mm_Go mm_m_X1_deepestDrinker (7, [.ref q0, .int (-4 : Int32), .int (-1 : Int32), .int (0 : Int32)], [], σ) R) : mm_Go mm_m_X1_deepestDrinker (0, [.ref q0, .null, .null, .null], [], σ) R := by
  refine mm_blk (M := mm_m_X1_deepestDrinker) 6 (S' := (7, [.ref q0, .int (-4 : Int32), .int (-1 : Int32), .int (0 : Int32)], [], σ)) (P := []) rfl trivial ?_
  exact h
theorem sg_X1_deepestDrinker_7 (σ : mm_Sg) (q0 : Nat) (x1 : Int32) (x2 : Int32) (x3 : Int32) (R : Option Value × mm_Sg) (h : ((mm_cl q0 = 1) ∧ (((σ q0 6) ≤ x3 → (R = (some (.int x1), σ))) ∧ (¬ ((σ q0 6) ≤ x3) → ((((7 : Int32) ≤ x3 → (R = (some (.int x1), σ))) ∧ (¬ ((7 : Int32) ≤ x3) → ((vp_in x3 (mm_len (q0 + 4))) ∧ (((σ (q0 + 4) x3.toNatClampNeg) ≤ x2 → mm_Go mm_m_X1_deepestDrinker (7, [.ref q0, .int x1, .int x2, .int (x3 + (1 : Int32))], [], σ) R) ∧ (¬ ((σ (q0 + 4) x3.toNatClampNeg) ≤ x2) → mm_Go mm_m_X1_deepestDrinker (7, [.ref q0, .int x3, .int (σ (q0 + 4) x3.toNatClampNeg), .int (x3 + (1 : Int32))], [], σ) R)))))))))) : mm_Go mm_m_X1_deepestDrinker (7, [.ref q0, .int x1, .int x2, .int x3], [], σ) R := by
  obtain ⟨c1, h⟩ := h
  refine mm_blk (M := mm_m_X1_deepestDrinker) 4 (S' := ((if (σ q0 6) ≤ x3 then 46 else 15), [.ref q0, .int x1, .int x2, .int x3], [], σ)) (P := [mm_cl q0 = 1]) rfl ⟨c1, trivial⟩ ?_
  by_cases b2 : (σ q0 6) ≤ x3
  · rw [if_pos b2]
    have h := h.1 b2
    refine mm_blk (M := mm_m_X1_deepestDrinker) 1 (S' := (47, [.ref q0, .int x1, .int x2, .int x3], [.int x1], σ)) (P := []) rfl trivial ?_
    subst h
    exact mm_rt_ ⟨_, _, _, rfl, ⟨_, _, rfl, rfl, rfl, rfl⟩⟩
  · rw [if_neg b2]
    have h := h.2 b2
    refine mm_blk (M := mm_m_X1_deepestDrinker) 3 (S' := ((if (7 : Int32) ≤ x3 then 46 else 21), [.ref q0, .int x1, .int x2, .int x3], [], σ)) (P := []) rfl trivial ?_
    by_cases b3 : (7 : Int32) ≤ x3
    · rw [if_pos b3]
      have h := h.1 b3
      refine mm_blk (M := mm_m_X1_deepestDrinker) 1 (S' := (47, [.ref q0, .int x1, .int x2, .int x3], [.int x1], σ)) (P := []) rfl trivial ?_
      subst h
      exact mm_rt_ ⟨_, _, _, rfl, ⟨_, _, rfl, rfl, rfl, rfl⟩⟩
    · rw [if_neg b3]
      have h := h.2 b3
      obtain ⟨c4, h⟩ := h
      refine mm_blk (M := mm_m_X1_deepestDrinker) 6 (S' := ((if (σ (q0 + 4) x3.toNatClampNeg) ≤ x2 then 40 else 31), [.ref q0, .int x1, .int x2, .int x3], [], σ)) (P := [mm_cl q0 = 1, vp_in x3 (mm_len (q0 + 4))]) rfl ⟨c1, c4, trivial⟩ ?_
      by_cases b5 : (σ (q0 + 4) x3.toNatClampNeg) ≤ x2
      · rw [if_pos b5]
        have h := h.1 b5
        refine mm_blk (M := mm_m_X1_deepestDrinker) 2 (S' := (7, [.ref q0, .int x1, .int x2, .int (x3 + (1 : Int32))], [], σ)) (P := []) rfl trivial ?_
        exact h
      · rw [if_neg b5]
        have h := h.2 b5
        refine mm_blk (M := mm_m_X1_deepestDrinker) 9 (S' := (7, [.ref q0, .int x3, .int (σ (q0 + 4) x3.toNatClampNeg), .int (x3 + (1 : Int32))], [], σ)) (P := [mm_cl q0 = 1, vp_in x3 (mm_len (q0 + 4))]) rfl ⟨c1, c4, trivial⟩ ?_
        exact h
theorem sg_X1_aloneBits_0 (σ : mm_Sg) (q0 : Nat) (R : Option Value × mm_Sg) (h : mm_Go mm_m_X1_aloneBits (4, [.ref q0, .int (0 : Int32), .int (0 : Int32)], [], σ) R) : mm_Go mm_m_X1_aloneBits (0, [.ref q0, .null, .null], [], σ) R := by
  refine mm_blk (M := mm_m_X1_aloneBits) 4 (S' := (4, [.ref q0, .int (0 : Int32), .int (0 : Int32)], [], σ)) (P := []) rfl trivial ?_
  exact h
theorem sg_X1_aloneBits_4 (σ : mm_Sg) (q0 : Nat) (x1 : Int32) (x2 : Int32) (R : Option Value × mm_Sg) (h : ((mm_cl q0 = 1) ∧ (((σ q0 6) ≤ x2 → (R = (some (.int x1), σ))) ∧ (¬ ((σ q0 6) ≤ x2) → ((((7 : Int32) ≤ x2 → (R = (some (.int x1), σ))) ∧ (¬ ((7 : Int32) ≤ x2) → ((vp_in x2 (mm_len (q0 + 3))) ∧ ∃ (v7 : Int32) (σ5 : mm_Sg), mm_Ev mm_m_X1_isAwake [.ref q0, .int (σ (q0 + 3) x2.toNatClampNeg)] σ (some (.int v7)) σ5 ∧ (((¬ v7 = (0 : Int32) → mm_Go mm_m_X1_aloneBits (4, [.ref q0, .int x1, .int (x2 + (1 : Int32))], [], σ5) R) ∧ (¬ (¬ v7 = (0 : Int32)) → mm_Go mm_m_X1_aloneBits (4, [.ref q0, .int (x1 ||| ((1 : Int32) <<< (x2 &&& 31))), .int (x2 + (1 : Int32))], [], σ5) R))))))))))) : mm_Go mm_m_X1_aloneBits (4, [.ref q0, .int x1, .int x2], [], σ) R := by
  obtain ⟨c1, h⟩ := h
  refine mm_blk (M := mm_m_X1_aloneBits) 4 (S' := ((if (σ q0 6) ≤ x2 then 43 else 12), [.ref q0, .int x1, .int x2], [], σ)) (P := [mm_cl q0 = 1]) rfl ⟨c1, trivial⟩ ?_
  by_cases b2 : (σ q0 6) ≤ x2
  · rw [if_pos b2]
    have h := h.1 b2
    refine mm_blk (M := mm_m_X1_aloneBits) 1 (S' := (44, [.ref q0, .int x1, .int x2], [.int x1], σ)) (P := []) rfl trivial ?_
    subst h
    exact mm_rt_ ⟨_, _, _, rfl, ⟨_, _, rfl, rfl, rfl, rfl⟩⟩
  · rw [if_neg b2]
    have h := h.2 b2
    refine mm_blk (M := mm_m_X1_aloneBits) 3 (S' := ((if (7 : Int32) ≤ x2 then 43 else 18), [.ref q0, .int x1, .int x2], [], σ)) (P := []) rfl trivial ?_
    by_cases b3 : (7 : Int32) ≤ x2
    · rw [if_pos b3]
      have h := h.1 b3
      refine mm_blk (M := mm_m_X1_aloneBits) 1 (S' := (44, [.ref q0, .int x1, .int x2], [.int x1], σ)) (P := []) rfl trivial ?_
      subst h
      exact mm_rt_ ⟨_, _, _, rfl, ⟨_, _, rfl, rfl, rfl, rfl⟩⟩
    · rw [if_neg b3]
      have h := h.2 b3
      obtain ⟨c4, h⟩ := h
      refine mm_blk (M := mm_m_X1_aloneBits) 5 (S' := (25, [.ref q0, .int x1, .int x2], [.int (σ (q0 + 3) x2.toNatClampNeg), .ref q0], σ)) (P := [mm_cl q0 = 1, vp_in x2 (mm_len (q0 + 3))]) rfl ⟨c1, c4, trivial⟩ ?_
      obtain ⟨v7, σ5, e6, h⟩ := h
      refine mm_cl_ (rest := []) e6 ⟨_, _, _, rfl, rfl, mm_tb_X1_isAwake, rfl, rfl, Nat.le_of_ble_eq_true rfl, Nat.le_of_ble_eq_true rfl, ⟨_, rfl, c1⟩⟩ ?_
      refine mm_blk (M := mm_m_X1_aloneBits) 1 (S' := ((if ¬ v7 = (0 : Int32) then 37 else 31), [.ref q0, .int x1, .int x2], [], σ5)) (P := []) rfl trivial ?_
      by_cases b8 : ¬ v7 = (0 : Int32)
      · rw [if_pos b8]
        have h := h.1 b8
        refine mm_blk (M := mm_m_X1_aloneBits) 2 (S' := (4, [.ref q0, .int x1, .int (x2 + (1 : Int32))], [], σ5)) (P := []) rfl trivial ?_
        exact h
      · rw [if_neg b8]
        have h := h.2 b8
        refine mm_blk (M := mm_m_X1_aloneBits) 8 (S' := (4, [.ref q0, .int (x1 ||| ((1 : Int32) <<< (x2 &&& 31))), .int (x2 + (1 : Int32))], [], σ5)) (P := []) rfl trivial ?_
        exact h
