/-! pieces of runs, by program -/
theorem sg_X10_treaty_0 (σ : mm_Sg) (x1 : Int32) (R : Option Value × mm_Sg) (h : (∃ (v3 : Int32) (σ1 : mm_Sg), mm_Ev mm_m_X10_refusalUnless [.ref 0, .int (2 : Int32), .int x1] σ (some (.int v3)) σ1 ∧ (((v3 = (0 : Int32) → ((vp_in x1 8) ∧ (mm_cl (32 + 2 * x1.toNatClampNeg) = 8) ∧ (((σ1 (32 + 2 * x1.toNatClampNeg) 3) = (0 : Int32) → (∃ (v10 : Int32) (σ8 : mm_Sg), mm_Ev mm_m_X10_firstBadByte [.ref (32 + 2 * x1.toNatClampNeg)] σ1 (some (.int v10)) σ8 ∧ (((v10 < (0 : Int32) → (∃ (σ12 : mm_Sg), mm_Ev mm_m_X1_becomeLike [.ref 24, .ref 10] σ8 none σ12 ∧ mm_Go mm_m_X10_treaty (65, [.ref 0, .int x1, .int v3, .ref (32 + 2 * x1.toNatClampNeg), .int v10, .int (0 : Int32), .int (0 : Int32)], [], σ12) R)) ∧ (¬ (v10 < (0 : Int32)) → (R = (some (.int ((-1000 : Int32) - v10)), σ8))))))) ∧ (¬ ((σ1 (32 + 2 * x1.toNatClampNeg) 3) = (0 : Int32)) → (R = (some (.int (-12 : Int32)), σ1)))))) ∧ (¬ (v3 = (0 : Int32)) → (R = (some (.int v3), σ1))))))) : mm_Go mm_m_X10_treaty (0, [.ref 0, .int x1, .null, .null, .null, .null, .null], [], σ) R := by
  refine mm_blk (M := mm_m_X10_treaty) 3 (S' := (3, [.ref 0, .int x1, .null, .null, .null, .null, .null], [.int x1, .int (2 : Int32), .ref 0], σ)) (P := []) rfl trivial ?_
  obtain ⟨v3, σ1, e2, h⟩ := h
  refine mm_cl_ (rest := []) e2 ⟨_, _, _, rfl, rfl, mm_tb_X10_refusalUnless, rfl, rfl, Nat.le_of_ble_eq_true rfl, Nat.le_of_ble_eq_true rfl, ⟨_, rfl, rfl⟩⟩ ?_
  refine mm_blk (M := mm_m_X10_treaty) 3 (S' := ((if v3 = (0 : Int32) then 13 else 11), [.ref 0, .int x1, .int v3, .null, .null, .null, .null], [], σ1)) (P := []) rfl trivial ?_
  by_cases b4 : v3 = (0 : Int32)
  · rw [if_pos b4]
    have h := h.1 b4
    obtain ⟨c5, h⟩ := h
    obtain ⟨c6, h⟩ := h
    refine mm_blk (M := mm_m_X10_treaty) 8 (S' := ((if (σ1 (32 + 2 * x1.toNatClampNeg) 3) = (0 : Int32) then 30 else 27), [.ref 0, .int x1, .int v3, .ref (32 + 2 * x1.toNatClampNeg), .null, .null, .null], [], σ1)) (P := [mm_cl 0 = 10, vp_in x1 8, 31 = 1 ∨ 31 = 31 ∨ 31 = 65 ∨ 31 = 74, mm_cl (32 + 2 * x1.toNatClampNeg) = 8]) rfl ⟨rfl, c5, (by decide), c6, trivial⟩ ?_
    by_cases b7 : (σ1 (32 + 2 * x1.toNatClampNeg) 3) = (0 : Int32)
    · rw [if_pos b7]
      have h := h.1 b7
      refine mm_blk (M := mm_m_X10_treaty) 1 (S' := (31, [.ref 0, .int x1, .int v3, .ref (32 + 2 * x1.toNatClampNeg), .null, .null, .null], [.ref (32 + 2 * x1.toNatClampNeg)], σ1)) (P := []) rfl trivial ?_
      obtain ⟨v10, σ8, e9, h⟩ := h
      refine mm_cl_ (rest := []) e9 ⟨_, _, _, rfl, rfl, mm_tb_X10_firstBadByte, rfl, rfl, Nat.le_of_ble_eq_true rfl, Nat.le_of_ble_eq_true rfl, trivial⟩ ?_
      refine mm_blk (M := mm_m_X10_treaty) 3 (S' := ((if v10 < (0 : Int32) then 48 else 41), [.ref 0, .int x1, .int v3, .ref (32 + 2 * x1.toNatClampNeg), .int v10, .null, .null], [], σ8)) (P := []) rfl trivial ?_
      by_cases b11 : v10 < (0 : Int32)
      · rw [if_pos b11]
        have h := h.1 b11
        refine mm_blk (M := mm_m_X10_treaty) 4 (S' := (56, [.ref 0, .int x1, .int v3, .ref (32 + 2 * x1.toNatClampNeg), .int v10, .null, .null], [.ref 10, .ref 24], σ8)) (P := [mm_cl 0 = 10, mm_cl 0 = 10]) rfl ⟨rfl, rfl, trivial⟩ ?_
        obtain ⟨σ12, e13, h⟩ := h
        refine mm_cl_ (rest := []) e13 ⟨_, _, _, rfl, rfl, mm_tb_X1_becomeLike, rfl, rfl, Nat.le_of_ble_eq_true rfl, Nat.le_of_ble_eq_true rfl, ⟨_, rfl, rfl⟩⟩ ?_
        refine mm_blk (M := mm_m_X10_treaty) 4 (S' := (65, [.ref 0, .int x1, .int v3, .ref (32 + 2 * x1.toNatClampNeg), .int v10, .int (0 : Int32), .int (0 : Int32)], [], σ12)) (P := []) rfl trivial ?_
        exact h
      · rw [if_neg b11]
        have h := h.2 b11
        refine mm_blk (M := mm_m_X10_treaty) 3 (S' := (47, [.ref 0, .int x1, .int v3, .ref (32 + 2 * x1.toNatClampNeg), .int v10, .null, .null], [.int ((-1000 : Int32) - v10)], σ8)) (P := []) rfl trivial ?_
        subst h
        exact mm_rt_ ⟨_, _, _, rfl, ⟨_, _, rfl, rfl, rfl, rfl⟩⟩
    · rw [if_neg b7]
      have h := h.2 b7
      refine mm_blk (M := mm_m_X10_treaty) 1 (S' := (29, [.ref 0, .int x1, .int v3, .ref (32 + 2 * x1.toNatClampNeg), .null, .null, .null], [.int (-12 : Int32)], σ1)) (P := []) rfl trivial ?_
      subst h
      exact mm_rt_ ⟨_, _, _, rfl, ⟨_, _, rfl, rfl, rfl, rfl⟩⟩
  · rw [if_neg b4]
    have h := h.2 b4
    refine mm_blk (M := mm_m_X10_treaty) 1 (S' := (12, [.ref 0, .int x1, .int v3, .null, .null, .null, .null], [.int v3], σ1)) (P := []) rfl trivial ?_
    subst h
    exact mm_rt_ ⟨_, _, _, rfl, ⟨_, _, rfl, rfl, rfl, rfl⟩⟩
theorem sg_X10_treaty_65 (σ : mm_Sg) (x1 : Int32) (x2 : Int32) (q3 : Nat) (x4 : Int32) (x5 : Int32) (x6 : Int32) (R : Option Value × mm_Sg) (h : ((mm_cl q3 = 8) ∧ (((σ q3 4) ≤ x6 → (∃ (σ3 : mm_Sg), mm_Ev mm_m_X1_becomeLike [.ref 10, .ref 24] σ none σ3 ∧ (R = (some (.int x5), σ3)))) ∧ (¬ ((σ q3 4) ≤ x6) → (∃ (v7 : Int32) (σ5 : mm_Sg), mm_Ev mm_m_X8_at [.ref q3, .int x6] σ (some (.int v7)) σ5 ∧ (∃ (v10 : Int32) (σ8 : mm_Sg), mm_Ev mm_m_X10_isLetter [.int v7] σ5 (some (.int v10)) σ8 ∧ (((v10 = (0 : Int32) → mm_Go mm_m_X10_treaty (65, [.ref 0, .int x1, .int x2, .ref q3, .int x4, .int x5, .int (x6 + (1 : Int32))], [], σ8) R) ∧ (¬ (v10 = (0 : Int32)) → (∃ (v14 : Int32) (σ12 : mm_Sg), mm_Ev mm_m_X1_obeys [.ref 24, .ref q3, .int x6] σ8 (some (.int v14)) σ12 ∧ (((¬ v14 = (0 : Int32) → mm_Go mm_m_X10_treaty (65, [.ref 0, .int x1, .int x2, .ref q3, .int x4, .int (x5 + (1 : Int32)), .int (x6 + (1 : Int32))], [], σ12) R) ∧ (¬ (¬ v14 = (0 : Int32)) → (R = (some (.int ((-2000 : Int32) - x6)), σ12))))))))))))))) : mm_Go mm_m_X10_treaty (65, [.ref 0, .int x1, .int x2, .ref q3, .int x4, .int x5, .int x6], [], σ) R := by
  obtain ⟨c1, h⟩ := h
  refine mm_blk (M := mm_m_X10_treaty) 4 (S' := ((if (σ q3 4) ≤ x6 then 115 else 74), [.ref 0, .int x1, .int x2, .ref q3, .int x4, .int x5, .int x6], [], σ)) (P := [mm_cl q3 = 8]) rfl ⟨c1, trivial⟩ ?_
  by_cases b2 : (σ q3 4) ≤ x6
  · rw [if_pos b2]
    have h := h.1 b2
    refine mm_blk (M := mm_m_X10_treaty) 4 (S' := (123, [.ref 0, .int x1, .int x2, .ref q3, .int x4, .int x5, .int x6], [.ref 24, .ref 10], σ)) (P := [mm_cl 0 = 10, mm_cl 0 = 10]) rfl ⟨rfl, rfl, trivial⟩ ?_
    obtain ⟨σ3, e4, h⟩ := h
    refine mm_cl_ (rest := []) e4 ⟨_, _, _, rfl, rfl, mm_tb_X1_becomeLike, rfl, rfl, Nat.le_of_ble_eq_true rfl, Nat.le_of_ble_eq_true rfl, ⟨_, rfl, rfl⟩⟩ ?_
    refine mm_blk (M := mm_m_X10_treaty) 1 (S' := (128, [.ref 0, .int x1, .int x2, .ref q3, .int x4, .int x5, .int x6], [.int x5], σ3)) (P := []) rfl trivial ?_
    subst h
    exact mm_rt_ ⟨_, _, _, rfl, ⟨_, _, rfl, rfl, rfl, rfl⟩⟩
  · rw [if_neg b2]
    have h := h.2 b2
    refine mm_blk (M := mm_m_X10_treaty) 2 (S' := (77, [.ref 0, .int x1, .int x2, .ref q3, .int x4, .int x5, .int x6], [.int x6, .ref q3], σ)) (P := []) rfl trivial ?_
    obtain ⟨v7, σ5, e6, h⟩ := h
    refine mm_cl_ (rest := []) e6 ⟨_, _, _, rfl, rfl, mm_tb_X8_at, rfl, rfl, Nat.le_of_ble_eq_true rfl, Nat.le_of_ble_eq_true rfl, ⟨_, rfl, c1⟩⟩ ?_
    obtain ⟨v10, σ8, e9, h⟩ := h
    refine mm_cl_ (rest := []) e9 ⟨_, _, _, rfl, rfl, mm_tb_X10_isLetter, rfl, rfl, Nat.le_of_ble_eq_true rfl, Nat.le_of_ble_eq_true rfl, trivial⟩ ?_
    refine mm_blk (M := mm_m_X10_treaty) 1 (S' := ((if v10 = (0 : Int32) then 109 else 86), [.ref 0, .int x1, .int x2, .ref q3, .int x4, .int x5, .int x6], [], σ8)) (P := []) rfl trivial ?_
    by_cases b11 : v10 = (0 : Int32)
    · rw [if_pos b11]
      have h := h.1 b11
      refine mm_blk (M := mm_m_X10_treaty) 2 (S' := (65, [.ref 0, .int x1, .int x2, .ref q3, .int x4, .int x5, .int (x6 + (1 : Int32))], [], σ8)) (P := []) rfl trivial ?_
      exact h
    · rw [if_neg b11]
      have h := h.2 b11
      refine mm_blk (M := mm_m_X10_treaty) 4 (S' := (93, [.ref 0, .int x1, .int x2, .ref q3, .int x4, .int x5, .int x6], [.int x6, .ref q3, .ref 24], σ8)) (P := [mm_cl 0 = 10]) rfl ⟨rfl, trivial⟩ ?_
      obtain ⟨v14, σ12, e13, h⟩ := h
      refine mm_cl_ (rest := []) e13 ⟨_, _, _, rfl, rfl, mm_tb_X1_obeys, rfl, rfl, Nat.le_of_ble_eq_true rfl, Nat.le_of_ble_eq_true rfl, ⟨_, rfl, rfl⟩⟩ ?_
      refine mm_blk (M := mm_m_X10_treaty) 1 (S' := ((if ¬ v14 = (0 : Int32) then 106 else 99), [.ref 0, .int x1, .int x2, .ref q3, .int x4, .int x5, .int x6], [], σ12)) (P := []) rfl trivial ?_
      by_cases b15 : ¬ v14 = (0 : Int32)
      · rw [if_pos b15]
        have h := h.1 b15
        refine mm_blk (M := mm_m_X10_treaty) 3 (S' := (65, [.ref 0, .int x1, .int x2, .ref q3, .int x4, .int (x5 + (1 : Int32)), .int (x6 + (1 : Int32))], [], σ12)) (P := []) rfl trivial ?_
        exact h
      · rw [if_neg b15]
        have h := h.2 b15
        refine mm_blk (M := mm_m_X10_treaty) 3 (S' := (105, [.ref 0, .int x1, .int x2, .ref q3, .int x4, .int x5, .int x6], [.int ((-2000 : Int32) - x6)], σ12)) (P := []) rfl trivial ?_
        subst h
        exact mm_rt_ ⟨_, _, _, rfl, ⟨_, _, rfl, rfl, rfl, rfl⟩⟩
theorem sg_X10_drinker_0 (σ : mm_Sg) (x1 : Int32) (x2 : Int32) (R : Option Value × mm_Sg) (h : (∃ (v3 : Int32) (σ1 : mm_Sg), mm_Ev mm_m_X1_has [.ref 10, .int x1] σ (some (.int v3)) σ1 ∧ (((¬ v3 = (0 : Int32) → (((x2 = nI 0 → ((vp_in x1 (mm_len 11)) ∧ R = (some (.int (σ1 11 x1.toNatClampNeg)), σ1))) ∧ (¬ (x2 = nI 0) → ((x2 = nI 1 → ((vp_in x1 (mm_len 12)) ∧ R = (some (.int (σ1 12 x1.toNatClampNeg)), σ1))) ∧ (¬ (x2 = nI 1) → ((x2 = nI 2 → ((vp_in x1 (mm_len 13)) ∧ R = (some (.int (σ1 13 x1.toNatClampNeg)), σ1))) ∧ (¬ (x2 = nI 2) → ((x2 = nI 3 → ((vp_in x1 (mm_len 14)) ∧ R = (some (.int (σ1 14 x1.toNatClampNeg)), σ1))) ∧ (¬ (x2 = nI 3) → ((x2 = nI 4 → (∃ (v16 : Int32) (σ14 : mm_Sg), mm_Ev mm_m_X1_thirstOf [.ref 10, .int x1, .int ((σ1 10 9) + (1 : Int32))] σ1 (some (.int v16)) σ14 ∧ (R = (some (.int v16), σ14)))) ∧ (¬ (x2 = nI 4) → (R = (some (.int (-1 : Int32)), σ1)))))))))))))) ∧ (¬ (¬ v3 = (0 : Int32)) → (R = (some (.int (-1 : Int32)), σ1))))))) : mm_Go mm_m_X10_drinker (0, [.ref 0, .int x1, .int x2], [], σ) R := by
  refine mm_blk (M := mm_m_X10_drinker) 3 (S' := (5, [.ref 0, .int x1, .int x2], [.int x1, .ref 10], σ)) (P := [mm_cl 0 = 10]) rfl ⟨rfl, trivial⟩ ?_
  obtain ⟨v3, σ1, e2, h⟩ := h
  refine mm_cl_ (rest := []) e2 ⟨_, _, _, rfl, rfl, mm_tb_X1_has, rfl, rfl, Nat.le_of_ble_eq_true rfl, Nat.le_of_ble_eq_true rfl, ⟨_, rfl, rfl⟩⟩ ?_
  refine mm_blk (M := mm_m_X10_drinker) 1 (S' := ((if ¬ v3 = (0 : Int32) then 13 else 11), [.ref 0, .int x1, .int x2], [], σ1)) (P := []) rfl trivial ?_
  by_cases b4 : ¬ v3 = (0 : Int32)
  · rw [if_pos b4]
    have h := h.1 b4
    refine mm_blk (M := mm_m_X10_drinker) 2 (S' := ((mm_tsw x2 106 0 [48, 58, 68, 78, 88]), [.ref 0, .int x1, .int x2], [], σ1)) (P := []) rfl trivial ?_
    by_cases b5 : x2 = nI 0
    · rw [show mm_tsw x2 106 0 [48, 58, 68, 78, 88] = 48 from mm_tsw_t b5]
      have h := h.1 b5
      obtain ⟨c6, h⟩ := h
      refine mm_blk (M := mm_m_X10_drinker) 5 (S' := (57, [.ref 0, .int x1, .int x2], [.int (σ1 11 x1.toNatClampNeg)], σ1)) (P := [mm_cl 0 = 10, mm_cl 10 = 1, vp_in x1 (mm_len 11)]) rfl ⟨rfl, rfl, c6, trivial⟩ ?_
      subst h
      exact mm_rt_ ⟨_, _, _, rfl, ⟨_, _, rfl, rfl, rfl, rfl⟩⟩
    rw [show mm_tsw x2 106 0 [48, 58, 68, 78, 88] = mm_tsw x2 106 1 [58, 68, 78, 88] from mm_tsw_f b5]
    have h := h.2 b5
    by_cases b7 : x2 = nI 1
    · rw [show mm_tsw x2 106 1 [58, 68, 78, 88] = 58 from mm_tsw_t b7]
      have h := h.1 b7
      obtain ⟨c8, h⟩ := h
      refine mm_blk (M := mm_m_X10_drinker) 5 (S' := (67, [.ref 0, .int x1, .int x2], [.int (σ1 12 x1.toNatClampNeg)], σ1)) (P := [mm_cl 0 = 10, mm_cl 10 = 1, vp_in x1 (mm_len 12)]) rfl ⟨rfl, rfl, c8, trivial⟩ ?_
      subst h
      exact mm_rt_ ⟨_, _, _, rfl, ⟨_, _, rfl, rfl, rfl, rfl⟩⟩
    rw [show mm_tsw x2 106 1 [58, 68, 78, 88] = mm_tsw x2 106 2 [68, 78, 88] from mm_tsw_f b7]
    have h := h.2 b7
    by_cases b9 : x2 = nI 2
    · rw [show mm_tsw x2 106 2 [68, 78, 88] = 68 from mm_tsw_t b9]
      have h := h.1 b9
      obtain ⟨c10, h⟩ := h
      refine mm_blk (M := mm_m_X10_drinker) 5 (S' := (77, [.ref 0, .int x1, .int x2], [.int (σ1 13 x1.toNatClampNeg)], σ1)) (P := [mm_cl 0 = 10, mm_cl 10 = 1, vp_in x1 (mm_len 13)]) rfl ⟨rfl, rfl, c10, trivial⟩ ?_
      subst h
      exact mm_rt_ ⟨_, _, _, rfl, ⟨_, _, rfl, rfl, rfl, rfl⟩⟩
    rw [show mm_tsw x2 106 2 [68, 78, 88] = mm_tsw x2 106 3 [78, 88] from mm_tsw_f b9]
    have h := h.2 b9
    by_cases b11 : x2 = nI 3
    · rw [show mm_tsw x2 106 3 [78, 88] = 78 from mm_tsw_t b11]
      have h := h.1 b11
      obtain ⟨c12, h⟩ := h
      refine mm_blk (M := mm_m_X10_drinker) 5 (S' := (87, [.ref 0, .int x1, .int x2], [.int (σ1 14 x1.toNatClampNeg)], σ1)) (P := [mm_cl 0 = 10, mm_cl 10 = 1, vp_in x1 (mm_len 14)]) rfl ⟨rfl, rfl, c12, trivial⟩ ?_
      subst h
      exact mm_rt_ ⟨_, _, _, rfl, ⟨_, _, rfl, rfl, rfl, rfl⟩⟩
    rw [show mm_tsw x2 106 3 [78, 88] = mm_tsw x2 106 4 [88] from mm_tsw_f b11]
    have h := h.2 b11
    by_cases b13 : x2 = nI 4
    · rw [show mm_tsw x2 106 4 [88] = 88 from mm_tsw_t b13]
      have h := h.1 b13
      refine mm_blk (M := mm_m_X10_drinker) 8 (S' := (102, [.ref 0, .int x1, .int x2], [.int ((σ1 10 9) + (1 : Int32)), .int x1, .ref 10], σ1)) (P := [mm_cl 0 = 10, mm_cl 0 = 10, mm_cl 10 = 1]) rfl ⟨rfl, rfl, rfl, trivial⟩ ?_
      obtain ⟨v16, σ14, e15, h⟩ := h
      refine mm_cl_ (rest := []) e15 ⟨_, _, _, rfl, rfl, mm_tb_X1_thirstOf, rfl, rfl, Nat.le_of_ble_eq_true rfl, Nat.le_of_ble_eq_true rfl, ⟨_, rfl, rfl⟩⟩ ?_
      subst h
      exact mm_rt_ ⟨_, _, _, rfl, ⟨_, _, rfl, rfl, rfl, rfl⟩⟩
    rw [show mm_tsw x2 106 4 [88] = mm_tsw x2 106 5 [] from mm_tsw_f b13]
    have h := h.2 b13
    change mm_Go mm_m_X10_drinker (106, [.ref 0, .int x1, .int x2], [], σ1) R
    refine mm_blk (M := mm_m_X10_drinker) 1 (S' := (107, [.ref 0, .int x1, .int x2], [.int (-1 : Int32)], σ1)) (P := []) rfl trivial ?_
    subst h
    exact mm_rt_ ⟨_, _, _, rfl, ⟨_, _, rfl, rfl, rfl, rfl⟩⟩
  · rw [if_neg b4]
    have h := h.2 b4
    refine mm_blk (M := mm_m_X10_drinker) 1 (S' := (12, [.ref 0, .int x1, .int x2], [.int (-1 : Int32)], σ1)) (P := []) rfl trivial ?_
    subst h
    exact mm_rt_ ⟨_, _, _, rfl, ⟨_, _, rfl, rfl, rfl, rfl⟩⟩
theorem sg_X10_waker_0 (σ : mm_Sg) (x1 : Int32) (x2 : Int32) (R : Option Value × mm_Sg) (h : (∃ (v3 : Int32) (σ1 : mm_Sg), mm_Ev mm_m_X10_isWaker [.int x1] σ (some (.int v3)) σ1 ∧ (((¬ v3 = (0 : Int32) → (((x2 = nI 0 → ((vp_in x1 (mm_len 15)) ∧ R = (some (.int (σ1 15 x1.toNatClampNeg)), σ1))) ∧ (¬ (x2 = nI 0) → ((x2 = nI 1 → (∃ (v10 : Int32) (σ8 : mm_Sg), mm_Ev mm_m_X1_isAwake [.ref 10, .int x1] σ1 (some (.int v10)) σ8 ∧ (((v10 = (0 : Int32) → (R = (some (.int (0 : Int32)), σ8))) ∧ (¬ (v10 = (0 : Int32)) → (R = (some (.int (1 : Int32)), σ8))))))) ∧ (¬ (x2 = nI 1) → ((x2 = nI 2 → (∃ (v15 : Int32) (σ13 : mm_Sg), mm_Ev mm_m_X1_drinkersOf [.ref 10, .int x1] σ1 (some (.int v15)) σ13 ∧ (R = (some (.int v15), σ13)))) ∧ (¬ (x2 = nI 2) → (R = (some (.int (-1 : Int32)), σ1)))))))))) ∧ (¬ (¬ v3 = (0 : Int32)) → (R = (some (.int (-1 : Int32)), σ1))))))) : mm_Go mm_m_X10_waker (0, [.ref 0, .int x1, .int x2], [], σ) R := by
  refine mm_blk (M := mm_m_X10_waker) 1 (S' := (1, [.ref 0, .int x1, .int x2], [.int x1], σ)) (P := []) rfl trivial ?_
  obtain ⟨v3, σ1, e2, h⟩ := h
  refine mm_cl_ (rest := []) e2 ⟨_, _, _, rfl, rfl, mm_tb_X10_isWaker, rfl, rfl, Nat.le_of_ble_eq_true rfl, Nat.le_of_ble_eq_true rfl, trivial⟩ ?_
  refine mm_blk (M := mm_m_X10_waker) 1 (S' := ((if ¬ v3 = (0 : Int32) then 9 else 7), [.ref 0, .int x1, .int x2], [], σ1)) (P := []) rfl trivial ?_
  by_cases b4 : ¬ v3 = (0 : Int32)
  · rw [if_pos b4]
    have h := h.1 b4
    refine mm_blk (M := mm_m_X10_waker) 2 (S' := ((mm_tsw x2 72 0 [36, 46, 63]), [.ref 0, .int x1, .int x2], [], σ1)) (P := []) rfl trivial ?_
    by_cases b5 : x2 = nI 0
    · rw [show mm_tsw x2 72 0 [36, 46, 63] = 36 from mm_tsw_t b5]
      have h := h.1 b5
      obtain ⟨c6, h⟩ := h
      refine mm_blk (M := mm_m_X10_waker) 5 (S' := (45, [.ref 0, .int x1, .int x2], [.int (σ1 15 x1.toNatClampNeg)], σ1)) (P := [mm_cl 0 = 10, mm_cl 10 = 1, vp_in x1 (mm_len 15)]) rfl ⟨rfl, rfl, c6, trivial⟩ ?_
      subst h
      exact mm_rt_ ⟨_, _, _, rfl, ⟨_, _, rfl, rfl, rfl, rfl⟩⟩
    rw [show mm_tsw x2 72 0 [36, 46, 63] = mm_tsw x2 72 1 [46, 63] from mm_tsw_f b5]
    have h := h.2 b5
    by_cases b7 : x2 = nI 1
    · rw [show mm_tsw x2 72 1 [46, 63] = 46 from mm_tsw_t b7]
      have h := h.1 b7
      refine mm_blk (M := mm_m_X10_waker) 3 (S' := (51, [.ref 0, .int x1, .int x2], [.int x1, .ref 10], σ1)) (P := [mm_cl 0 = 10]) rfl ⟨rfl, trivial⟩ ?_
      obtain ⟨v10, σ8, e9, h⟩ := h
      refine mm_cl_ (rest := []) e9 ⟨_, _, _, rfl, rfl, mm_tb_X1_isAwake, rfl, rfl, Nat.le_of_ble_eq_true rfl, Nat.le_of_ble_eq_true rfl, ⟨_, rfl, rfl⟩⟩ ?_
      refine mm_blk (M := mm_m_X10_waker) 1 (S' := ((if v10 = (0 : Int32) then 61 else 57), [.ref 0, .int x1, .int x2], [], σ8)) (P := []) rfl trivial ?_
      by_cases b11 : v10 = (0 : Int32)
      · rw [if_pos b11]
        have h := h.1 b11
        refine mm_blk (M := mm_m_X10_waker) 1 (S' := (62, [.ref 0, .int x1, .int x2], [.int (0 : Int32)], σ8)) (P := []) rfl trivial ?_
        subst h
        exact mm_rt_ ⟨_, _, _, rfl, ⟨_, _, rfl, rfl, rfl, rfl⟩⟩
      · rw [if_neg b11]
        have h := h.2 b11
        refine mm_blk (M := mm_m_X10_waker) 2 (S' := (62, [.ref 0, .int x1, .int x2], [.int (1 : Int32)], σ8)) (P := []) rfl trivial ?_
        subst h
        exact mm_rt_ ⟨_, _, _, rfl, ⟨_, _, rfl, rfl, rfl, rfl⟩⟩
    rw [show mm_tsw x2 72 1 [46, 63] = mm_tsw x2 72 2 [63] from mm_tsw_f b7]
    have h := h.2 b7
    by_cases b12 : x2 = nI 2
    · rw [show mm_tsw x2 72 2 [63] = 63 from mm_tsw_t b12]
      have h := h.1 b12
      refine mm_blk (M := mm_m_X10_waker) 3 (S' := (68, [.ref 0, .int x1, .int x2], [.int x1, .ref 10], σ1)) (P := [mm_cl 0 = 10]) rfl ⟨rfl, trivial⟩ ?_
      obtain ⟨v15, σ13, e14, h⟩ := h
      refine mm_cl_ (rest := []) e14 ⟨_, _, _, rfl, rfl, mm_tb_X1_drinkersOf, rfl, rfl, Nat.le_of_ble_eq_true rfl, Nat.le_of_ble_eq_true rfl, ⟨_, rfl, rfl⟩⟩ ?_
      subst h
      exact mm_rt_ ⟨_, _, _, rfl, ⟨_, _, rfl, rfl, rfl, rfl⟩⟩
    rw [show mm_tsw x2 72 2 [63] = mm_tsw x2 72 3 [] from mm_tsw_f b12]
    have h := h.2 b12
    change mm_Go mm_m_X10_waker (72, [.ref 0, .int x1, .int x2], [], σ1) R
    refine mm_blk (M := mm_m_X10_waker) 1 (S' := (73, [.ref 0, .int x1, .int x2], [.int (-1 : Int32)], σ1)) (P := []) rfl trivial ?_
    subst h
    exact mm_rt_ ⟨_, _, _, rfl, ⟨_, _, rfl, rfl, rfl, rfl⟩⟩
  · rw [if_neg b4]
    have h := h.2 b4
    refine mm_blk (M := mm_m_X10_waker) 1 (S' := (8, [.ref 0, .int x1, .int x2], [.int (-1 : Int32)], σ1)) (P := []) rfl trivial ?_
    subst h
    exact mm_rt_ ⟨_, _, _, rfl, ⟨_, _, rfl, rfl, rfl, rfl⟩⟩
theorem sg_X10_comes_0 (σ : mm_Sg) (x1 : Int32) (x2 : Int32) (R : Option Value × mm_Sg) (h : (∃ (v3 : Int32) (σ1 : mm_Sg), mm_Ev mm_m_X10_isShelf [.int x1] σ (some (.int v3)) σ1 ∧ (((v3 = (0 : Int32) → (R = (some (.int (-1 : Int32)), σ1))) ∧ (¬ (v3 = (0 : Int32)) → (∃ (v7 : Int32) (σ5 : mm_Sg), mm_Ev mm_m_X10_isWakerOrNobody [.int x2] σ1 (some (.int v7)) σ5 ∧ (((¬ v7 = (0 : Int32) → (∃ (v11 : Int32) (σ9 : mm_Sg), mm_Ev mm_m_X10_refusalUnless [.ref 0, .int (1 : Int32), .int x1] σ5 (some (.int v11)) σ9 ∧ (((v11 = (0 : Int32) → ((vp_in x1 8) ∧ (mm_cl (32 + 2 * x1.toNatClampNeg) = 8) ∧ ∃ (v17 : Int32) (σ15 : mm_Sg), mm_Ev mm_m_X1_joins [.ref 10, .int (σ9 (32 + 2 * x1.toNatClampNeg) 1), .int (σ9 (32 + 2 * x1.toNatClampNeg) 2), .int x2] σ9 (some (.int v17)) σ15 ∧ (((¬ v17 = (0 : Int32) → (R = (some (.int ((σ15 10 6) - (1 : Int32))), σ15))) ∧ (¬ (¬ v17 = (0 : Int32)) → (R = (some (.int (-2 : Int32)), σ15))))))) ∧ (¬ (v11 = (0 : Int32)) → (R = (some (.int v11), σ9))))))) ∧ (¬ (¬ v7 = (0 : Int32)) → (R = (some (.int (-1 : Int32)), σ5))))))))))) : mm_Go mm_m_X10_comes (0, [.ref 0, .int x1, .int x2, .null], [], σ) R := by
  refine mm_blk (M := mm_m_X10_comes) 1 (S' := (1, [.ref 0, .int x1, .int x2, .null], [.int x1], σ)) (P := []) rfl trivial ?_
  obtain ⟨v3, σ1, e2, h⟩ := h
  refine mm_cl_ (rest := []) e2 ⟨_, _, _, rfl, rfl, mm_tb_X10_isShelf, rfl, rfl, Nat.le_of_ble_eq_true rfl, Nat.le_of_ble_eq_true rfl, trivial⟩ ?_
  refine mm_blk (M := mm_m_X10_comes) 1 (S' := ((if v3 = (0 : Int32) then 14 else 7), [.ref 0, .int x1, .int x2, .null], [], σ1)) (P := []) rfl trivial ?_
  by_cases b4 : v3 = (0 : Int32)
  · rw [if_pos b4]
    have h := h.1 b4
    refine mm_blk (M := mm_m_X10_comes) 1 (S' := (15, [.ref 0, .int x1, .int x2, .null], [.int (-1 : Int32)], σ1)) (P := []) rfl trivial ?_
    subst h
    exact mm_rt_ ⟨_, _, _, rfl, ⟨_, _, rfl, rfl, rfl, rfl⟩⟩
  · rw [if_neg b4]
    have h := h.2 b4
    refine mm_blk (M := mm_m_X10_comes) 1 (S' := (8, [.ref 0, .int x1, .int x2, .null], [.int x2], σ1)) (P := []) rfl trivial ?_
    obtain ⟨v7, σ5, e6, h⟩ := h
    refine mm_cl_ (rest := []) e6 ⟨_, _, _, rfl, rfl, mm_tb_X10_isWakerOrNobody, rfl, rfl, Nat.le_of_ble_eq_true rfl, Nat.le_of_ble_eq_true rfl, trivial⟩ ?_
    refine mm_blk (M := mm_m_X10_comes) 1 (S' := ((if ¬ v7 = (0 : Int32) then 16 else 14), [.ref 0, .int x1, .int x2, .null], [], σ5)) (P := []) rfl trivial ?_
    by_cases b8 : ¬ v7 = (0 : Int32)
    · rw [if_pos b8]
      have h := h.1 b8
      refine mm_blk (M := mm_m_X10_comes) 3 (S' := (19, [.ref 0, .int x1, .int x2, .null], [.int x1, .int (1 : Int32), .ref 0], σ5)) (P := []) rfl trivial ?_
      obtain ⟨v11, σ9, e10, h⟩ := h
      refine mm_cl_ (rest := []) e10 ⟨_, _, _, rfl, rfl, mm_tb_X10_refusalUnless, rfl, rfl, Nat.le_of_ble_eq_true rfl, Nat.le_of_ble_eq_true rfl, ⟨_, rfl, rfl⟩⟩ ?_
      refine mm_blk (M := mm_m_X10_comes) 3 (S' := ((if v11 = (0 : Int32) then 29 else 27), [.ref 0, .int x1, .int x2, .int v11], [], σ9)) (P := []) rfl trivial ?_
      by_cases b12 : v11 = (0 : Int32)
      · rw [if_pos b12]
        have h := h.1 b12
        obtain ⟨c13, h⟩ := h
        obtain ⟨c14, h⟩ := h
        refine mm_blk (M := mm_m_X10_comes) 13 (S' := (52, [.ref 0, .int x1, .int x2, .int v11], [.int x2, .int (σ9 (32 + 2 * x1.toNatClampNeg) 2), .int (σ9 (32 + 2 * x1.toNatClampNeg) 1), .ref 10], σ9)) (P := [mm_cl 0 = 10, mm_cl 0 = 10, vp_in x1 8, 31 = 1 ∨ 31 = 31 ∨ 31 = 65 ∨ 31 = 74, mm_cl (32 + 2 * x1.toNatClampNeg) = 8, mm_cl 0 = 10, vp_in x1 8, 31 = 1 ∨ 31 = 31 ∨ 31 = 65 ∨ 31 = 74, mm_cl (32 + 2 * x1.toNatClampNeg) = 8]) rfl ⟨rfl, rfl, c13, (by decide), c14, rfl, c13, (by decide), c14, trivial⟩ ?_
        obtain ⟨v17, σ15, e16, h⟩ := h
        refine mm_cl_ (rest := []) e16 ⟨_, _, _, rfl, rfl, mm_tb_X1_joins, rfl, rfl, Nat.le_of_ble_eq_true rfl, Nat.le_of_ble_eq_true rfl, ⟨_, rfl, rfl⟩⟩ ?_
        refine mm_blk (M := mm_m_X10_comes) 1 (S' := ((if ¬ v17 = (0 : Int32) then 61 else 58), [.ref 0, .int x1, .int x2, .int v11], [], σ15)) (P := []) rfl trivial ?_
        by_cases b18 : ¬ v17 = (0 : Int32)
        · rw [if_pos b18]
          have h := h.1 b18
          refine mm_blk (M := mm_m_X10_comes) 5 (S' := (70, [.ref 0, .int x1, .int x2, .int v11], [.int ((σ15 10 6) - (1 : Int32))], σ15)) (P := [mm_cl 0 = 10, mm_cl 10 = 1]) rfl ⟨rfl, rfl, trivial⟩ ?_
          subst h
          exact mm_rt_ ⟨_, _, _, rfl, ⟨_, _, rfl, rfl, rfl, rfl⟩⟩
        · rw [if_neg b18]
          have h := h.2 b18
          refine mm_blk (M := mm_m_X10_comes) 1 (S' := (60, [.ref 0, .int x1, .int x2, .int v11], [.int (-2 : Int32)], σ15)) (P := []) rfl trivial ?_
          subst h
          exact mm_rt_ ⟨_, _, _, rfl, ⟨_, _, rfl, rfl, rfl, rfl⟩⟩
      · rw [if_neg b12]
        have h := h.2 b12
        refine mm_blk (M := mm_m_X10_comes) 1 (S' := (28, [.ref 0, .int x1, .int x2, .int v11], [.int v11], σ9)) (P := []) rfl trivial ?_
        subst h
        exact mm_rt_ ⟨_, _, _, rfl, ⟨_, _, rfl, rfl, rfl, rfl⟩⟩
    · rw [if_neg b8]
      have h := h.2 b8
      refine mm_blk (M := mm_m_X10_comes) 1 (S' := (15, [.ref 0, .int x1, .int x2, .null], [.int (-1 : Int32)], σ5)) (P := []) rfl trivial ?_
      subst h
      exact mm_rt_ ⟨_, _, _, rfl, ⟨_, _, rfl, rfl, rfl, rfl⟩⟩
theorem sg_X10_wakes_0 (σ : mm_Sg) (x1 : Int32) (x2 : Int32) (R : Option Value × mm_Sg) (h : (∃ (v3 : Int32) (σ1 : mm_Sg), mm_Ev mm_m_X1_has [.ref 10, .int x1] σ (some (.int v3)) σ1 ∧ (((v3 = (0 : Int32) → (R = (some (.int (-1 : Int32)), σ1))) ∧ (¬ (v3 = (0 : Int32)) → (∃ (v7 : Int32) (σ5 : mm_Sg), mm_Ev mm_m_X10_isWakerOrNobody [.int x2] σ1 (some (.int v7)) σ5 ∧ (((¬ v7 = (0 : Int32) → ((vp_in x1 (mm_len 13)) ∧ ∀ σ10 : mm_Sg, σ10 = mm_u σ5 13 x1.toNatClampNeg x2 → (R = (some (.int (σ5 13 x1.toNatClampNeg)), σ10)))) ∧ (¬ (¬ v7 = (0 : Int32)) → (R = (some (.int (-1 : Int32)), σ5))))))))))) : mm_Go mm_m_X10_wakes (0, [.ref 0, .int x1, .int x2, .null], [], σ) R := by
  refine mm_blk (M := mm_m_X10_wakes) 3 (S' := (5, [.ref 0, .int x1, .int x2, .null], [.int x1, .ref 10], σ)) (P := [mm_cl 0 = 10]) rfl ⟨rfl, trivial⟩ ?_
  obtain ⟨v3, σ1, e2, h⟩ := h
  refine mm_cl_ (rest := []) e2 ⟨_, _, _, rfl, rfl, mm_tb_X1_has, rfl, rfl, Nat.le_of_ble_eq_true rfl, Nat.le_of_ble_eq_true rfl, ⟨_, rfl, rfl⟩⟩ ?_
  refine mm_blk (M := mm_m_X10_wakes) 1 (S' := ((if v3 = (0 : Int32) then 18 else 11), [.ref 0, .int x1, .int x2, .null], [], σ1)) (P := []) rfl trivial ?_
  by_cases b4 : v3 = (0 : Int32)
  · rw [if_pos b4]
    have h := h.1 b4
    refine mm_blk (M := mm_m_X10_wakes) 1 (S' := (19, [.ref 0, .int x1, .int x2, .null], [.int (-1 : Int32)], σ1)) (P := []) rfl trivial ?_
    subst h
    exact mm_rt_ ⟨_, _, _, rfl, ⟨_, _, rfl, rfl, rfl, rfl⟩⟩
  · rw [if_neg b4]
    have h := h.2 b4
    refine mm_blk (M := mm_m_X10_wakes) 1 (S' := (12, [.ref 0, .int x1, .int x2, .null], [.int x2], σ1)) (P := []) rfl trivial ?_
    obtain ⟨v7, σ5, e6, h⟩ := h
    refine mm_cl_ (rest := []) e6 ⟨_, _, _, rfl, rfl, mm_tb_X10_isWakerOrNobody, rfl, rfl, Nat.le_of_ble_eq_true rfl, Nat.le_of_ble_eq_true rfl, trivial⟩ ?_
    refine mm_blk (M := mm_m_X10_wakes) 1 (S' := ((if ¬ v7 = (0 : Int32) then 20 else 18), [.ref 0, .int x1, .int x2, .null], [], σ5)) (P := []) rfl trivial ?_
    by_cases b8 : ¬ v7 = (0 : Int32)
    · rw [if_pos b8]
      have h := h.1 b8
      obtain ⟨c9, h⟩ := h
      refine mm_blk (M := mm_m_X10_wakes) 12 (S' := (40, [.ref 0, .int x1, .int x2, .int (σ5 13 x1.toNatClampNeg)], [], mm_u σ5 13 x1.toNatClampNeg x2)) (P := [mm_cl 0 = 10, mm_cl 10 = 1, vp_in x1 (mm_len 13), mm_cl 0 = 10, mm_cl 10 = 1, vp_in x1 (mm_len 13)]) rfl ⟨rfl, rfl, c9, rfl, rfl, c9, trivial⟩ ?_
      obtain ⟨σ10, e11⟩ : ∃ z, z = mm_u σ5 13 x1.toNatClampNeg x2 := ⟨_, rfl⟩
      rw [← e11]
      have h := h σ10 e11
      refine mm_blk (M := mm_m_X10_wakes) 1 (S' := (41, [.ref 0, .int x1, .int x2, .int (σ5 13 x1.toNatClampNeg)], [.int (σ5 13 x1.toNatClampNeg)], σ10)) (P := []) rfl trivial ?_
      subst h
      exact mm_rt_ ⟨_, _, _, rfl, ⟨_, _, rfl, rfl, rfl, rfl⟩⟩
    · rw [if_neg b8]
      have h := h.2 b8
      refine mm_blk (M := mm_m_X10_wakes) 1 (S' := (19, [.ref 0, .int x1, .int x2, .null], [.int (-1 : Int32)], σ5)) (P := []) rfl trivial ?_
      subst h
      exact mm_rt_ ⟨_, _, _, rfl, ⟨_, _, rfl, rfl, rfl, rfl⟩⟩
theorem sg_X10_tires_0 (σ : mm_Sg) (x1 : Int32) (x2 : Int32) (R : Option Value × mm_Sg) (h : (∃ (v3 : Int32) (σ1 : mm_Sg), mm_Ev mm_m_X10_isWaker [.int x1] σ (some (.int v3)) σ1 ∧ (((v3 = (0 : Int32) → (R = (some (.int (-1 : Int32)), σ1))) ∧ (¬ (v3 = (0 : Int32)) → (∃ (v7 : Int32) (σ5 : mm_Sg), mm_Ev mm_m_X10_isBetween [.int x2, .int (0 : Int32), .int (99 : Int32)] σ1 (some (.int v7)) σ5 ∧ (((¬ v7 = (0 : Int32) → ((vp_in x1 (mm_len 15)) ∧ ∀ σ10 : mm_Sg, σ10 = mm_u σ5 15 x1.toNatClampNeg x2 → (R = (some (.int (σ5 15 x1.toNatClampNeg)), σ10)))) ∧ (¬ (¬ v7 = (0 : Int32)) → (R = (some (.int (-1 : Int32)), σ5))))))))))) : mm_Go mm_m_X10_tires (0, [.ref 0, .int x1, .int x2, .null], [], σ) R := by
  refine mm_blk (M := mm_m_X10_tires) 1 (S' := (1, [.ref 0, .int x1, .int x2, .null], [.int x1], σ)) (P := []) rfl trivial ?_
  obtain ⟨v3, σ1, e2, h⟩ := h
  refine mm_cl_ (rest := []) e2 ⟨_, _, _, rfl, rfl, mm_tb_X10_isWaker, rfl, rfl, Nat.le_of_ble_eq_true rfl, Nat.le_of_ble_eq_true rfl, trivial⟩ ?_
  refine mm_blk (M := mm_m_X10_tires) 1 (S' := ((if v3 = (0 : Int32) then 17 else 7), [.ref 0, .int x1, .int x2, .null], [], σ1)) (P := []) rfl trivial ?_
  by_cases b4 : v3 = (0 : Int32)
  · rw [if_pos b4]
    have h := h.1 b4
    refine mm_blk (M := mm_m_X10_tires) 1 (S' := (18, [.ref 0, .int x1, .int x2, .null], [.int (-1 : Int32)], σ1)) (P := []) rfl trivial ?_
    subst h
    exact mm_rt_ ⟨_, _, _, rfl, ⟨_, _, rfl, rfl, rfl, rfl⟩⟩
  · rw [if_neg b4]
    have h := h.2 b4
    refine mm_blk (M := mm_m_X10_tires) 3 (S' := (11, [.ref 0, .int x1, .int x2, .null], [.int (99 : Int32), .int (0 : Int32), .int x2], σ1)) (P := []) rfl trivial ?_
    obtain ⟨v7, σ5, e6, h⟩ := h
    refine mm_cl_ (rest := []) e6 ⟨_, _, _, rfl, rfl, mm_tb_X10_isBetween, rfl, rfl, Nat.le_of_ble_eq_true rfl, Nat.le_of_ble_eq_true rfl, trivial⟩ ?_
    refine mm_blk (M := mm_m_X10_tires) 1 (S' := ((if ¬ v7 = (0 : Int32) then 19 else 17), [.ref 0, .int x1, .int x2, .null], [], σ5)) (P := []) rfl trivial ?_
    by_cases b8 : ¬ v7 = (0 : Int32)
    · rw [if_pos b8]
      have h := h.1 b8
      obtain ⟨c9, h⟩ := h
      refine mm_blk (M := mm_m_X10_tires) 12 (S' := (39, [.ref 0, .int x1, .int x2, .int (σ5 15 x1.toNatClampNeg)], [], mm_u σ5 15 x1.toNatClampNeg x2)) (P := [mm_cl 0 = 10, mm_cl 10 = 1, vp_in x1 (mm_len 15), mm_cl 0 = 10, mm_cl 10 = 1, vp_in x1 (mm_len 15)]) rfl ⟨rfl, rfl, c9, rfl, rfl, c9, trivial⟩ ?_
      obtain ⟨σ10, e11⟩ : ∃ z, z = mm_u σ5 15 x1.toNatClampNeg x2 := ⟨_, rfl⟩
      rw [← e11]
      have h := h σ10 e11
      refine mm_blk (M := mm_m_X10_tires) 1 (S' := (40, [.ref 0, .int x1, .int x2, .int (σ5 15 x1.toNatClampNeg)], [.int (σ5 15 x1.toNatClampNeg)], σ10)) (P := []) rfl trivial ?_
      subst h
      exact mm_rt_ ⟨_, _, _, rfl, ⟨_, _, rfl, rfl, rfl, rfl⟩⟩
    · rw [if_neg b8]
      have h := h.2 b8
      refine mm_blk (M := mm_m_X10_tires) 1 (S' := (18, [.ref 0, .int x1, .int x2, .null], [.int (-1 : Int32)], σ5)) (P := []) rfl trivial ?_
      subst h
      exact mm_rt_ ⟨_, _, _, rfl, ⟨_, _, rfl, rfl, rfl, rfl⟩⟩
theorem sg_X10_sleeps_0 (σ : mm_Sg) (x1 : Int32) (R : Option Value × mm_Sg) (h : (∃ (v3 : Int32) (σ1 : mm_Sg), mm_Ev mm_m_X1_turnsOver [.ref 10, .int x1] σ (some (.int v3)) σ1 ∧ (((¬ v3 = (0 : Int32) → (∃ (v7 : Int32) (σ5 : mm_Sg), mm_Ev mm_m_X1_isAwake [.ref 10, .int x1] σ1 (some (.int v7)) σ5 ∧ (((v7 = (0 : Int32) → (R = (some (.int (0 : Int32)), σ5))) ∧ (¬ (v7 = (0 : Int32)) → (R = (some (.int (1 : Int32)), σ5))))))) ∧ (¬ (¬ v3 = (0 : Int32)) → (R = (some (.int (-1 : Int32)), σ1))))))) : mm_Go mm_m_X10_sleeps (0, [.ref 0, .int x1], [], σ) R := by
  refine mm_blk (M := mm_m_X10_sleeps) 3 (S' := (5, [.ref 0, .int x1], [.int x1, .ref 10], σ)) (P := [mm_cl 0 = 10]) rfl ⟨rfl, trivial⟩ ?_
  obtain ⟨v3, σ1, e2, h⟩ := h
  refine mm_cl_ (rest := []) e2 ⟨_, _, _, rfl, rfl, mm_tb_X1_turnsOver, rfl, rfl, Nat.le_of_ble_eq_true rfl, Nat.le_of_ble_eq_true rfl, ⟨_, rfl, rfl⟩⟩ ?_
  refine mm_blk (M := mm_m_X10_sleeps) 1 (S' := ((if ¬ v3 = (0 : Int32) then 13 else 11), [.ref 0, .int x1], [], σ1)) (P := []) rfl trivial ?_
  by_cases b4 : ¬ v3 = (0 : Int32)
  · rw [if_pos b4]
    have h := h.1 b4
    refine mm_blk (M := mm_m_X10_sleeps) 3 (S' := (18, [.ref 0, .int x1], [.int x1, .ref 10], σ1)) (P := [mm_cl 0 = 10]) rfl ⟨rfl, trivial⟩ ?_
    obtain ⟨v7, σ5, e6, h⟩ := h
    refine mm_cl_ (rest := []) e6 ⟨_, _, _, rfl, rfl, mm_tb_X1_isAwake, rfl, rfl, Nat.le_of_ble_eq_true rfl, Nat.le_of_ble_eq_true rfl, ⟨_, rfl, rfl⟩⟩ ?_
    refine mm_blk (M := mm_m_X10_sleeps) 1 (S' := ((if v7 = (0 : Int32) then 28 else 24), [.ref 0, .int x1], [], σ5)) (P := []) rfl trivial ?_
    by_cases b8 : v7 = (0 : Int32)
    · rw [if_pos b8]
      have h := h.1 b8
      refine mm_blk (M := mm_m_X10_sleeps) 1 (S' := (29, [.ref 0, .int x1], [.int (0 : Int32)], σ5)) (P := []) rfl trivial ?_
      subst h
      exact mm_rt_ ⟨_, _, _, rfl, ⟨_, _, rfl, rfl, rfl, rfl⟩⟩
    · rw [if_neg b8]
      have h := h.2 b8
      refine mm_blk (M := mm_m_X10_sleeps) 2 (S' := (29, [.ref 0, .int x1], [.int (1 : Int32)], σ5)) (P := []) rfl trivial ?_
      subst h
      exact mm_rt_ ⟨_, _, _, rfl, ⟨_, _, rfl, rfl, rfl, rfl⟩⟩
  · rw [if_neg b4]
    have h := h.2 b4
    refine mm_blk (M := mm_m_X10_sleeps) 1 (S' := (12, [.ref 0, .int x1], [.int (-1 : Int32)], σ1)) (P := []) rfl trivial ?_
    subst h
    exact mm_rt_ ⟨_, _, _, rfl, ⟨_, _, rfl, rfl, rfl, rfl⟩⟩
theorem sg_X10_bags_0 (σ : mm_Sg) (x1 : Int32) (R : Option Value × mm_Sg) (h : (∃ (v3 : Int32) (σ1 : mm_Sg), mm_Ev mm_m_X10_isBetween [.int x1, .int (0 : Int32), .int (999 : Int32)] σ (some (.int v3)) σ1 ∧ (((¬ v3 = (0 : Int32) → (∀ σ5 : mm_Sg, σ5 = mm_u σ1 10 8 x1 → (R = (some (.int (σ1 10 8)), σ5)))) ∧ (¬ (¬ v3 = (0 : Int32)) → (R = (some (.int (-1 : Int32)), σ1))))))) : mm_Go mm_m_X10_bags (0, [.ref 0, .int x1, .null], [], σ) R := by
  refine mm_blk (M := mm_m_X10_bags) 3 (S' := (5, [.ref 0, .int x1, .null], [.int (999 : Int32), .int (0 : Int32), .int x1], σ)) (P := []) rfl trivial ?_
  obtain ⟨v3, σ1, e2, h⟩ := h
  refine mm_cl_ (rest := []) e2 ⟨_, _, _, rfl, rfl, mm_tb_X10_isBetween, rfl, rfl, Nat.le_of_ble_eq_true rfl, Nat.le_of_ble_eq_true rfl, trivial⟩ ?_
  refine mm_blk (M := mm_m_X10_bags) 1 (S' := ((if ¬ v3 = (0 : Int32) then 13 else 11), [.ref 0, .int x1, .null], [], σ1)) (P := []) rfl trivial ?_
  by_cases b4 : ¬ v3 = (0 : Int32)
  · rw [if_pos b4]
    have h := h.1 b4
    refine mm_blk (M := mm_m_X10_bags) 8 (S' := (29, [.ref 0, .int x1, .int (σ1 10 8)], [], mm_u σ1 10 8 x1)) (P := [mm_cl 0 = 10, mm_cl 10 = 1, mm_cl 0 = 10, mm_cl 10 = 1]) rfl ⟨rfl, rfl, rfl, rfl, trivial⟩ ?_
    obtain ⟨σ5, e6⟩ : ∃ z, z = mm_u σ1 10 8 x1 := ⟨_, rfl⟩
    rw [← e6]
    have h := h σ5 e6
    refine mm_blk (M := mm_m_X10_bags) 1 (S' := (30, [.ref 0, .int x1, .int (σ1 10 8)], [.int (σ1 10 8)], σ5)) (P := []) rfl trivial ?_
    subst h
    exact mm_rt_ ⟨_, _, _, rfl, ⟨_, _, rfl, rfl, rfl, rfl⟩⟩
  · rw [if_neg b4]
    have h := h.2 b4
    refine mm_blk (M := mm_m_X10_bags) 1 (S' := (12, [.ref 0, .int x1, .null], [.int (-1 : Int32)], σ1)) (P := []) rfl trivial ?_
    subst h
    exact mm_rt_ ⟨_, _, _, rfl, ⟨_, _, rfl, rfl, rfl, rfl⟩⟩
theorem sg_X10_days_0 (σ : mm_Sg) (x1 : Int32) (R : Option Value × mm_Sg) (h : (∃ (v3 : Int32) (σ1 : mm_Sg), mm_Ev mm_m_X10_isBetween [.int x1, .int (1 : Int32), .int (60 : Int32)] σ (some (.int v3)) σ1 ∧ (((¬ v3 = (0 : Int32) → (((((σ1 10 9) + x1) ≤ (999 : Int32) → (∃ (σ6 : mm_Sg), mm_Ev mm_m_X1_goDays [.ref 10, .int x1] σ1 none σ6 ∧ (∃ (v10 : Int32) (σ8 : mm_Sg), mm_Ev mm_m_X1_owedInAll [.ref 10] σ6 (some (.int v10)) σ8 ∧ (R = (some (.int v10), σ8))))) ∧ (¬ (((σ1 10 9) + x1) ≤ (999 : Int32)) → (R = (some (.int (-3 : Int32)), σ1)))))) ∧ (¬ (¬ v3 = (0 : Int32)) → (R = (some (.int (-1 : Int32)), σ1))))))) : mm_Go mm_m_X10_days (0, [.ref 0, .int x1], [], σ) R := by
  refine mm_blk (M := mm_m_X10_days) 3 (S' := (4, [.ref 0, .int x1], [.int (60 : Int32), .int (1 : Int32), .int x1], σ)) (P := []) rfl trivial ?_
  obtain ⟨v3, σ1, e2, h⟩ := h
  refine mm_cl_ (rest := []) e2 ⟨_, _, _, rfl, rfl, mm_tb_X10_isBetween, rfl, rfl, Nat.le_of_ble_eq_true rfl, Nat.le_of_ble_eq_true rfl, trivial⟩ ?_
  refine mm_blk (M := mm_m_X10_days) 1 (S' := ((if ¬ v3 = (0 : Int32) then 12 else 10), [.ref 0, .int x1], [], σ1)) (P := []) rfl trivial ?_
  by_cases b4 : ¬ v3 = (0 : Int32)
  · rw [if_pos b4]
    have h := h.1 b4
    refine mm_blk (M := mm_m_X10_days) 7 (S' := ((if ((σ1 10 9) + x1) ≤ (999 : Int32) then 30 else 27), [.ref 0, .int x1], [], σ1)) (P := [mm_cl 0 = 10, mm_cl 10 = 1]) rfl ⟨rfl, rfl, trivial⟩ ?_
    by_cases b5 : ((σ1 10 9) + x1) ≤ (999 : Int32)
    · rw [if_pos b5]
      have h := h.1 b5
      refine mm_blk (M := mm_m_X10_days) 3 (S' := (35, [.ref 0, .int x1], [.int x1, .ref 10], σ1)) (P := [mm_cl 0 = 10]) rfl ⟨rfl, trivial⟩ ?_
      obtain ⟨σ6, e7, h⟩ := h
      refine mm_cl_ (rest := []) e7 ⟨_, _, _, rfl, rfl, mm_tb_X1_goDays, rfl, rfl, Nat.le_of_ble_eq_true rfl, Nat.le_of_ble_eq_true rfl, ⟨_, rfl, rfl⟩⟩ ?_
      refine mm_blk (M := mm_m_X10_days) 2 (S' := (42, [.ref 0, .int x1], [.ref 10], σ6)) (P := [mm_cl 0 = 10]) rfl ⟨rfl, trivial⟩ ?_
      obtain ⟨v10, σ8, e9, h⟩ := h
      refine mm_cl_ (rest := []) e9 ⟨_, _, _, rfl, rfl, mm_tb_X1_owedInAll, rfl, rfl, Nat.le_of_ble_eq_true rfl, Nat.le_of_ble_eq_true rfl, ⟨_, rfl, rfl⟩⟩ ?_
      subst h
      exact mm_rt_ ⟨_, _, _, rfl, ⟨_, _, rfl, rfl, rfl, rfl⟩⟩
    · rw [if_neg b5]
      have h := h.2 b5
      refine mm_blk (M := mm_m_X10_days) 1 (S' := (29, [.ref 0, .int x1], [.int (-3 : Int32)], σ1)) (P := []) rfl trivial ?_
      subst h
      exact mm_rt_ ⟨_, _, _, rfl, ⟨_, _, rfl, rfl, rfl, rfl⟩⟩
  · rw [if_neg b4]
    have h := h.2 b4
    refine mm_blk (M := mm_m_X10_days) 1 (S' := (11, [.ref 0, .int x1], [.int (-1 : Int32)], σ1)) (P := []) rfl trivial ?_
    subst h
    exact mm_rt_ ⟨_, _, _, rfl, ⟨_, _, rfl, rfl, rfl, rfl⟩⟩
theorem sg_X10_owesThen_0 (σ : mm_Sg) (x1 : Int32) (x2 : Int32) (R : Option Value × mm_Sg) (h : (∃ (v3 : Int32) (σ1 : mm_Sg), mm_Ev mm_m_X1_has [.ref 10, .int x1] σ (some (.int v3)) σ1 ∧ (((v3 = (0 : Int32) → (R = (some (.int (-1 : Int32)), σ1))) ∧ (¬ (v3 = (0 : Int32)) → (∃ (v7 : Int32) (σ5 : mm_Sg), mm_Ev mm_m_X10_isBetween [.int x2, .int (0 : Int32), .int (60 : Int32)] σ1 (some (.int v7)) σ5 ∧ (((¬ v7 = (0 : Int32) → (∃ (σ9 : mm_Sg), mm_Ev mm_m_X10_thinkDaysOn [.ref 0, .int x2] σ5 none σ9 ∧ ((vp_in x1 (mm_len 28)) ∧ R = (some (.int (σ9 28 x1.toNatClampNeg)), σ9)))) ∧ (¬ (¬ v7 = (0 : Int32)) → (R = (some (.int (-1 : Int32)), σ5))))))))))) : mm_Go mm_m_X10_owesThen (0, [.ref 0, .int x1, .int x2], [], σ) R := by
  refine mm_blk (M := mm_m_X10_owesThen) 3 (S' := (5, [.ref 0, .int x1, .int x2], [.int x1, .ref 10], σ)) (P := [mm_cl 0 = 10]) rfl ⟨rfl, trivial⟩ ?_
  obtain ⟨v3, σ1, e2, h⟩ := h
  refine mm_cl_ (rest := []) e2 ⟨_, _, _, rfl, rfl, mm_tb_X1_has, rfl, rfl, Nat.le_of_ble_eq_true rfl, Nat.le_of_ble_eq_true rfl, ⟨_, rfl, rfl⟩⟩ ?_
  refine mm_blk (M := mm_m_X10_owesThen) 1 (S' := ((if v3 = (0 : Int32) then 21 else 11), [.ref 0, .int x1, .int x2], [], σ1)) (P := []) rfl trivial ?_
  by_cases b4 : v3 = (0 : Int32)
  · rw [if_pos b4]
    have h := h.1 b4
    refine mm_blk (M := mm_m_X10_owesThen) 1 (S' := (22, [.ref 0, .int x1, .int x2], [.int (-1 : Int32)], σ1)) (P := []) rfl trivial ?_
    subst h
    exact mm_rt_ ⟨_, _, _, rfl, ⟨_, _, rfl, rfl, rfl, rfl⟩⟩
  · rw [if_neg b4]
    have h := h.2 b4
    refine mm_blk (M := mm_m_X10_owesThen) 3 (S' := (15, [.ref 0, .int x1, .int x2], [.int (60 : Int32), .int (0 : Int32), .int x2], σ1)) (P := []) rfl trivial ?_
    obtain ⟨v7, σ5, e6, h⟩ := h
    refine mm_cl_ (rest := []) e6 ⟨_, _, _, rfl, rfl, mm_tb_X10_isBetween, rfl, rfl, Nat.le_of_ble_eq_true rfl, Nat.le_of_ble_eq_true rfl, trivial⟩ ?_
    refine mm_blk (M := mm_m_X10_owesThen) 1 (S' := ((if ¬ v7 = (0 : Int32) then 23 else 21), [.ref 0, .int x1, .int x2], [], σ5)) (P := []) rfl trivial ?_
    by_cases b8 : ¬ v7 = (0 : Int32)
    · rw [if_pos b8]
      have h := h.1 b8
      refine mm_blk (M := mm_m_X10_owesThen) 2 (S' := (25, [.ref 0, .int x1, .int x2], [.int x2, .ref 0], σ5)) (P := []) rfl trivial ?_
      obtain ⟨σ9, e10, h⟩ := h
      refine mm_cl_ (rest := []) e10 ⟨_, _, _, rfl, rfl, mm_tb_X10_thinkDaysOn, rfl, rfl, Nat.le_of_ble_eq_true rfl, Nat.le_of_ble_eq_true rfl, ⟨_, rfl, rfl⟩⟩ ?_
      obtain ⟨c11, h⟩ := h
      refine mm_blk (M := mm_m_X10_owesThen) 5 (S' := (37, [.ref 0, .int x1, .int x2], [.int (σ9 28 x1.toNatClampNeg)], σ9)) (P := [mm_cl 0 = 10, mm_cl 24 = 1, vp_in x1 (mm_len 28)]) rfl ⟨rfl, rfl, c11, trivial⟩ ?_
      subst h
      exact mm_rt_ ⟨_, _, _, rfl, ⟨_, _, rfl, rfl, rfl, rfl⟩⟩
    · rw [if_neg b8]
      have h := h.2 b8
      refine mm_blk (M := mm_m_X10_owesThen) 1 (S' := (22, [.ref 0, .int x1, .int x2], [.int (-1 : Int32)], σ5)) (P := []) rfl trivial ?_
      subst h
      exact mm_rt_ ⟨_, _, _, rfl, ⟨_, _, rfl, rfl, rfl, rfl⟩⟩
theorem sg_X10_tiredThen_0 (σ : mm_Sg) (x1 : Int32) (x2 : Int32) (R : Option Value × mm_Sg) (h : (∃ (v3 : Int32) (σ1 : mm_Sg), mm_Ev mm_m_X10_isWaker [.int x1] σ (some (.int v3)) σ1 ∧ (((v3 = (0 : Int32) → (R = (some (.int (-1 : Int32)), σ1))) ∧ (¬ (v3 = (0 : Int32)) → (∃ (v7 : Int32) (σ5 : mm_Sg), mm_Ev mm_m_X10_isBetween [.int x2, .int (0 : Int32), .int (60 : Int32)] σ1 (some (.int v7)) σ5 ∧ (((¬ v7 = (0 : Int32) → (∃ (σ9 : mm_Sg), mm_Ev mm_m_X10_thinkDaysOn [.ref 0, .int x2] σ5 none σ9 ∧ ((vp_in x1 (mm_len 29)) ∧ R = (some (.int (σ9 29 x1.toNatClampNeg)), σ9)))) ∧ (¬ (¬ v7 = (0 : Int32)) → (R = (some (.int (-1 : Int32)), σ5))))))))))) : mm_Go mm_m_X10_tiredThen (0, [.ref 0, .int x1, .int x2], [], σ) R := by
  refine mm_blk (M := mm_m_X10_tiredThen) 1 (S' := (1, [.ref 0, .int x1, .int x2], [.int x1], σ)) (P := []) rfl trivial ?_
  obtain ⟨v3, σ1, e2, h⟩ := h
  refine mm_cl_ (rest := []) e2 ⟨_, _, _, rfl, rfl, mm_tb_X10_isWaker, rfl, rfl, Nat.le_of_ble_eq_true rfl, Nat.le_of_ble_eq_true rfl, trivial⟩ ?_
  refine mm_blk (M := mm_m_X10_tiredThen) 1 (S' := ((if v3 = (0 : Int32) then 17 else 7), [.ref 0, .int x1, .int x2], [], σ1)) (P := []) rfl trivial ?_
  by_cases b4 : v3 = (0 : Int32)
  · rw [if_pos b4]
    have h := h.1 b4
    refine mm_blk (M := mm_m_X10_tiredThen) 1 (S' := (18, [.ref 0, .int x1, .int x2], [.int (-1 : Int32)], σ1)) (P := []) rfl trivial ?_
    subst h
    exact mm_rt_ ⟨_, _, _, rfl, ⟨_, _, rfl, rfl, rfl, rfl⟩⟩
  · rw [if_neg b4]
    have h := h.2 b4
    refine mm_blk (M := mm_m_X10_tiredThen) 3 (S' := (11, [.ref 0, .int x1, .int x2], [.int (60 : Int32), .int (0 : Int32), .int x2], σ1)) (P := []) rfl trivial ?_
    obtain ⟨v7, σ5, e6, h⟩ := h
    refine mm_cl_ (rest := []) e6 ⟨_, _, _, rfl, rfl, mm_tb_X10_isBetween, rfl, rfl, Nat.le_of_ble_eq_true rfl, Nat.le_of_ble_eq_true rfl, trivial⟩ ?_
    refine mm_blk (M := mm_m_X10_tiredThen) 1 (S' := ((if ¬ v7 = (0 : Int32) then 19 else 17), [.ref 0, .int x1, .int x2], [], σ5)) (P := []) rfl trivial ?_
    by_cases b8 : ¬ v7 = (0 : Int32)
    · rw [if_pos b8]
      have h := h.1 b8
      refine mm_blk (M := mm_m_X10_tiredThen) 2 (S' := (21, [.ref 0, .int x1, .int x2], [.int x2, .ref 0], σ5)) (P := []) rfl trivial ?_
      obtain ⟨σ9, e10, h⟩ := h
      refine mm_cl_ (rest := []) e10 ⟨_, _, _, rfl, rfl, mm_tb_X10_thinkDaysOn, rfl, rfl, Nat.le_of_ble_eq_true rfl, Nat.le_of_ble_eq_true rfl, ⟨_, rfl, rfl⟩⟩ ?_
      obtain ⟨c11, h⟩ := h
      refine mm_blk (M := mm_m_X10_tiredThen) 5 (S' := (33, [.ref 0, .int x1, .int x2], [.int (σ9 29 x1.toNatClampNeg)], σ9)) (P := [mm_cl 0 = 10, mm_cl 24 = 1, vp_in x1 (mm_len 29)]) rfl ⟨rfl, rfl, c11, trivial⟩ ?_
      subst h
      exact mm_rt_ ⟨_, _, _, rfl, ⟨_, _, rfl, rfl, rfl, rfl⟩⟩
    · rw [if_neg b8]
      have h := h.2 b8
      refine mm_blk (M := mm_m_X10_tiredThen) 1 (S' := (18, [.ref 0, .int x1, .int x2], [.int (-1 : Int32)], σ5)) (P := []) rfl trivial ?_
      subst h
      exact mm_rt_ ⟨_, _, _, rfl, ⟨_, _, rfl, rfl, rfl, rfl⟩⟩
theorem sg_X10_then_0 (σ : mm_Sg) (x1 : Int32) (x2 : Int32) (R : Option Value × mm_Sg) (h : (∃ (v3 : Int32) (σ1 : mm_Sg), mm_Ev mm_m_X10_isBetween [.int x1, .int (0 : Int32), .int (60 : Int32)] σ (some (.int v3)) σ1 ∧ (((v3 = (0 : Int32) → (R = (some (.int (-1 : Int32)), σ1))) ∧ (¬ (v3 = (0 : Int32)) → (∃ (v7 : Int32) (σ5 : mm_Sg), mm_Ev mm_m_X10_isBetween [.int x2, .int (0 : Int32), .int (2 : Int32)] σ1 (some (.int v7)) σ5 ∧ (((¬ v7 = (0 : Int32) → (∃ (σ9 : mm_Sg), mm_Ev mm_m_X10_thinkDaysOn [.ref 0, .int x1] σ5 none σ9 ∧ (((x2 = nI 0 → (R = (some (.int (σ9 24 8)), σ9))) ∧ (¬ (x2 = nI 0) → ((x2 = nI 1 → (R = (some (.int (σ9 24 7)), σ9))) ∧ (¬ (x2 = nI 1) → (∃ (v15 : Int32) (σ13 : mm_Sg), mm_Ev mm_m_X1_owedInAll [.ref 24] σ9 (some (.int v15)) σ13 ∧ (R = (some (.int v15), σ13)))))))))) ∧ (¬ (¬ v7 = (0 : Int32)) → (R = (some (.int (-1 : Int32)), σ5))))))))))) : mm_Go mm_m_X10_then (0, [.ref 0, .int x1, .int x2], [], σ) R := by
  refine mm_blk (M := mm_m_X10_then) 3 (S' := (4, [.ref 0, .int x1, .int x2], [.int (60 : Int32), .int (0 : Int32), .int x1], σ)) (P := []) rfl trivial ?_
  obtain ⟨v3, σ1, e2, h⟩ := h
  refine mm_cl_ (rest := []) e2 ⟨_, _, _, rfl, rfl, mm_tb_X10_isBetween, rfl, rfl, Nat.le_of_ble_eq_true rfl, Nat.le_of_ble_eq_true rfl, trivial⟩ ?_
  refine mm_blk (M := mm_m_X10_then) 1 (S' := ((if v3 = (0 : Int32) then 19 else 10), [.ref 0, .int x1, .int x2], [], σ1)) (P := []) rfl trivial ?_
  by_cases b4 : v3 = (0 : Int32)
  · rw [if_pos b4]
    have h := h.1 b4
    refine mm_blk (M := mm_m_X10_then) 1 (S' := (20, [.ref 0, .int x1, .int x2], [.int (-1 : Int32)], σ1)) (P := []) rfl trivial ?_
    subst h
    exact mm_rt_ ⟨_, _, _, rfl, ⟨_, _, rfl, rfl, rfl, rfl⟩⟩
  · rw [if_neg b4]
    have h := h.2 b4
    refine mm_blk (M := mm_m_X10_then) 3 (S' := (13, [.ref 0, .int x1, .int x2], [.int (2 : Int32), .int (0 : Int32), .int x2], σ1)) (P := []) rfl trivial ?_
    obtain ⟨v7, σ5, e6, h⟩ := h
    refine mm_cl_ (rest := []) e6 ⟨_, _, _, rfl, rfl, mm_tb_X10_isBetween, rfl, rfl, Nat.le_of_ble_eq_true rfl, Nat.le_of_ble_eq_true rfl, trivial⟩ ?_
    refine mm_blk (M := mm_m_X10_then) 1 (S' := ((if ¬ v7 = (0 : Int32) then 21 else 19), [.ref 0, .int x1, .int x2], [], σ5)) (P := []) rfl trivial ?_
    by_cases b8 : ¬ v7 = (0 : Int32)
    · rw [if_pos b8]
      have h := h.1 b8
      refine mm_blk (M := mm_m_X10_then) 2 (S' := (23, [.ref 0, .int x1, .int x2], [.int x1, .ref 0], σ5)) (P := []) rfl trivial ?_
      obtain ⟨σ9, e10, h⟩ := h
      refine mm_cl_ (rest := []) e10 ⟨_, _, _, rfl, rfl, mm_tb_X10_thinkDaysOn, rfl, rfl, Nat.le_of_ble_eq_true rfl, Nat.le_of_ble_eq_true rfl, ⟨_, rfl, rfl⟩⟩ ?_
      refine mm_blk (M := mm_m_X10_then) 2 (S' := ((mm_lsw x2 68 [0, 52, 1, 60]), [.ref 0, .int x1, .int x2], [], σ9)) (P := []) rfl trivial ?_
      by_cases b11 : x2 = nI 0
      · rw [show mm_lsw x2 68 [0, 52, 1, 60] = 52 from mm_lsw_t b11]
        have h := h.1 b11
        refine mm_blk (M := mm_m_X10_then) 3 (S' := (59, [.ref 0, .int x1, .int x2], [.int (σ9 24 8)], σ9)) (P := [mm_cl 0 = 10, mm_cl 24 = 1]) rfl ⟨rfl, rfl, trivial⟩ ?_
        subst h
        exact mm_rt_ ⟨_, _, _, rfl, ⟨_, _, rfl, rfl, rfl, rfl⟩⟩
      rw [show mm_lsw x2 68 [0, 52, 1, 60] = mm_lsw x2 68 [1, 60] from mm_lsw_f b11]
      have h := h.2 b11
      by_cases b12 : x2 = nI 1
      · rw [show mm_lsw x2 68 [1, 60] = 60 from mm_lsw_t b12]
        have h := h.1 b12
        refine mm_blk (M := mm_m_X10_then) 3 (S' := (67, [.ref 0, .int x1, .int x2], [.int (σ9 24 7)], σ9)) (P := [mm_cl 0 = 10, mm_cl 24 = 1]) rfl ⟨rfl, rfl, trivial⟩ ?_
        subst h
        exact mm_rt_ ⟨_, _, _, rfl, ⟨_, _, rfl, rfl, rfl, rfl⟩⟩
      rw [show mm_lsw x2 68 [1, 60] = mm_lsw x2 68 [] from mm_lsw_f b12]
      have h := h.2 b12
      change mm_Go mm_m_X10_then (68, [.ref 0, .int x1, .int x2], [], σ9) R
      refine mm_blk (M := mm_m_X10_then) 2 (S' := (72, [.ref 0, .int x1, .int x2], [.ref 24], σ9)) (P := [mm_cl 0 = 10]) rfl ⟨rfl, trivial⟩ ?_
      obtain ⟨v15, σ13, e14, h⟩ := h
      refine mm_cl_ (rest := []) e14 ⟨_, _, _, rfl, rfl, mm_tb_X1_owedInAll, rfl, rfl, Nat.le_of_ble_eq_true rfl, Nat.le_of_ble_eq_true rfl, ⟨_, rfl, rfl⟩⟩ ?_
      subst h
      exact mm_rt_ ⟨_, _, _, rfl, ⟨_, _, rfl, rfl, rfl, rfl⟩⟩
    · rw [if_neg b8]
      have h := h.2 b8
      refine mm_blk (M := mm_m_X10_then) 1 (S' := (20, [.ref 0, .int x1, .int x2], [.int (-1 : Int32)], σ5)) (P := []) rfl trivial ?_
      subst h
      exact mm_rt_ ⟨_, _, _, rfl, ⟨_, _, rfl, rfl, rfl, rfl⟩⟩
theorem sg_X10_firstAsleep_0 (σ : mm_Sg) (x1 : Int32) (R : Option Value × mm_Sg) (h : (∃ (v3 : Int32) (σ1 : mm_Sg), mm_Ev mm_m_X10_isWaker [.int x1] σ (some (.int v3)) σ1 ∧ (((¬ v3 = (0 : Int32) → (∃ (σ5 : mm_Sg), mm_Ev mm_m_X1_becomeLike [.ref 24, .ref 10] σ1 none σ5 ∧ mm_Go mm_m_X10_firstAsleep (22, [.ref 0, .int x1, .int (0 : Int32)], [], σ5) R)) ∧ (¬ (¬ v3 = (0 : Int32)) → (R = (some (.int (-1 : Int32)), σ1))))))) : mm_Go mm_m_X10_firstAsleep (0, [.ref 0, .int x1, .null], [], σ) R := by
  refine mm_blk (M := mm_m_X10_firstAsleep) 1 (S' := (1, [.ref 0, .int x1, .null], [.int x1], σ)) (P := []) rfl trivial ?_
  obtain ⟨v3, σ1, e2, h⟩ := h
  refine mm_cl_ (rest := []) e2 ⟨_, _, _, rfl, rfl, mm_tb_X10_isWaker, rfl, rfl, Nat.le_of_ble_eq_true rfl, Nat.le_of_ble_eq_true rfl, trivial⟩ ?_
  refine mm_blk (M := mm_m_X10_firstAsleep) 1 (S' := ((if ¬ v3 = (0 : Int32) then 9 else 7), [.ref 0, .int x1, .null], [], σ1)) (P := []) rfl trivial ?_
  by_cases b4 : ¬ v3 = (0 : Int32)
  · rw [if_pos b4]
    have h := h.1 b4
    refine mm_blk (M := mm_m_X10_firstAsleep) 4 (S' := (17, [.ref 0, .int x1, .null], [.ref 10, .ref 24], σ1)) (P := [mm_cl 0 = 10, mm_cl 0 = 10]) rfl ⟨rfl, rfl, trivial⟩ ?_
    obtain ⟨σ5, e6, h⟩ := h
    refine mm_cl_ (rest := []) e6 ⟨_, _, _, rfl, rfl, mm_tb_X1_becomeLike, rfl, rfl, Nat.le_of_ble_eq_true rfl, Nat.le_of_ble_eq_true rfl, ⟨_, rfl, rfl⟩⟩ ?_
    refine mm_blk (M := mm_m_X10_firstAsleep) 2 (S' := (22, [.ref 0, .int x1, .int (0 : Int32)], [], σ5)) (P := []) rfl trivial ?_
    exact h
  · rw [if_neg b4]
    have h := h.2 b4
    refine mm_blk (M := mm_m_X10_firstAsleep) 1 (S' := (8, [.ref 0, .int x1, .null], [.int (-1 : Int32)], σ1)) (P := []) rfl trivial ?_
    subst h
    exact mm_rt_ ⟨_, _, _, rfl, ⟨_, _, rfl, rfl, rfl, rfl⟩⟩
theorem sg_X10_firstAsleep_22 (σ : mm_Sg) (x1 : Int32) (x2 : Int32) (R : Option Value × mm_Sg) (h : ((((60 : Int32) ≤ x2 → (∃ (v4 : Int32) (σ2 : mm_Sg), mm_Ev mm_m_X1_isAwake [.ref 24, .int x1] σ (some (.int v4)) σ2 ∧ (((v4 = (0 : Int32) → (R = (some (.int (60 : Int32)), σ2))) ∧ (¬ (v4 = (0 : Int32)) → (R = (some (.int (-4 : Int32)), σ2))))))) ∧ (¬ ((60 : Int32) ≤ x2) → (∃ (v8 : Int32) (σ6 : mm_Sg), mm_Ev mm_m_X1_isAwake [.ref 24, .int x1] σ (some (.int v8)) σ6 ∧ (((¬ v8 = (0 : Int32) → (∃ (σ10 : mm_Sg), mm_Ev mm_m_X1_goDays [.ref 24, .int (1 : Int32)] σ6 none σ10 ∧ mm_Go mm_m_X10_firstAsleep (22, [.ref 0, .int x1, .int (x2 + (1 : Int32))], [], σ10) R)) ∧ (¬ (¬ v8 = (0 : Int32)) → (R = (some (.int x2), σ6)))))))))) : mm_Go mm_m_X10_firstAsleep (22, [.ref 0, .int x1, .int x2], [], σ) R := by
  refine mm_blk (M := mm_m_X10_firstAsleep) 3 (S' := ((if (60 : Int32) ≤ x2 then 55 else 28), [.ref 0, .int x1, .int x2], [], σ)) (P := []) rfl trivial ?_
  by_cases b1 : (60 : Int32) ≤ x2
  · rw [if_pos b1]
    have h := h.1 b1
    refine mm_blk (M := mm_m_X10_firstAsleep) 3 (S' := (60, [.ref 0, .int x1, .int x2], [.int x1, .ref 24], σ)) (P := [mm_cl 0 = 10]) rfl ⟨rfl, trivial⟩ ?_
    obtain ⟨v4, σ2, e3, h⟩ := h
    refine mm_cl_ (rest := []) e3 ⟨_, _, _, rfl, rfl, mm_tb_X1_isAwake, rfl, rfl, Nat.le_of_ble_eq_true rfl, Nat.le_of_ble_eq_true rfl, ⟨_, rfl, rfl⟩⟩ ?_
    refine mm_blk (M := mm_m_X10_firstAsleep) 1 (S' := ((if v4 = (0 : Int32) then 71 else 66), [.ref 0, .int x1, .int x2], [], σ2)) (P := []) rfl trivial ?_
    by_cases b5 : v4 = (0 : Int32)
    · rw [if_pos b5]
      have h := h.1 b5
      refine mm_blk (M := mm_m_X10_firstAsleep) 1 (S' := (73, [.ref 0, .int x1, .int x2], [.int (60 : Int32)], σ2)) (P := []) rfl trivial ?_
      subst h
      exact mm_rt_ ⟨_, _, _, rfl, ⟨_, _, rfl, rfl, rfl, rfl⟩⟩
    · rw [if_neg b5]
      have h := h.2 b5
      refine mm_blk (M := mm_m_X10_firstAsleep) 2 (S' := (73, [.ref 0, .int x1, .int x2], [.int (-4 : Int32)], σ2)) (P := []) rfl trivial ?_
      subst h
      exact mm_rt_ ⟨_, _, _, rfl, ⟨_, _, rfl, rfl, rfl, rfl⟩⟩
  · rw [if_neg b1]
    have h := h.2 b1
    refine mm_blk (M := mm_m_X10_firstAsleep) 3 (S' := (33, [.ref 0, .int x1, .int x2], [.int x1, .ref 24], σ)) (P := [mm_cl 0 = 10]) rfl ⟨rfl, trivial⟩ ?_
    obtain ⟨v8, σ6, e7, h⟩ := h
    refine mm_cl_ (rest := []) e7 ⟨_, _, _, rfl, rfl, mm_tb_X1_isAwake, rfl, rfl, Nat.le_of_ble_eq_true rfl, Nat.le_of_ble_eq_true rfl, ⟨_, rfl, rfl⟩⟩ ?_
    refine mm_blk (M := mm_m_X10_firstAsleep) 1 (S' := ((if ¬ v8 = (0 : Int32) then 41 else 39), [.ref 0, .int x1, .int x2], [], σ6)) (P := []) rfl trivial ?_
    by_cases b9 : ¬ v8 = (0 : Int32)
    · rw [if_pos b9]
      have h := h.1 b9
      refine mm_blk (M := mm_m_X10_firstAsleep) 3 (S' := (46, [.ref 0, .int x1, .int x2], [.int (1 : Int32), .ref 24], σ6)) (P := [mm_cl 0 = 10]) rfl ⟨rfl, trivial⟩ ?_
      obtain ⟨σ10, e11, h⟩ := h
      refine mm_cl_ (rest := []) e11 ⟨_, _, _, rfl, rfl, mm_tb_X1_goDays, rfl, rfl, Nat.le_of_ble_eq_true rfl, Nat.le_of_ble_eq_true rfl, ⟨_, rfl, rfl⟩⟩ ?_
      refine mm_blk (M := mm_m_X10_firstAsleep) 2 (S' := (22, [.ref 0, .int x1, .int (x2 + (1 : Int32))], [], σ10)) (P := []) rfl trivial ?_
      exact h
    · rw [if_neg b9]
      have h := h.2 b9
      refine mm_blk (M := mm_m_X10_firstAsleep) 1 (S' := (40, [.ref 0, .int x1, .int x2], [.int x2], σ6)) (P := []) rfl trivial ?_
      subst h
      exact mm_rt_ ⟨_, _, _, rfl, ⟨_, _, rfl, rfl, rfl, rfl⟩⟩
theorem sg_X10_out_0 (σ : mm_Sg) (R : Option Value × mm_Sg) (h : (∃ (σ1 : mm_Sg), mm_Ev mm_m_X1_becomeLike [.ref 24, .ref 10] σ none σ1 ∧ mm_Go mm_m_X10_out (13, [.ref 0, .int (0 : Int32)], [], σ1) R)) : mm_Go mm_m_X10_out (0, [.ref 0, .null], [], σ) R := by
  refine mm_blk (M := mm_m_X10_out) 4 (S' := (8, [.ref 0, .null], [.ref 10, .ref 24], σ)) (P := [mm_cl 0 = 10, mm_cl 0 = 10]) rfl ⟨rfl, rfl, trivial⟩ ?_
  obtain ⟨σ1, e2, h⟩ := h
  refine mm_cl_ (rest := []) e2 ⟨_, _, _, rfl, rfl, mm_tb_X1_becomeLike, rfl, rfl, Nat.le_of_ble_eq_true rfl, Nat.le_of_ble_eq_true rfl, ⟨_, rfl, rfl⟩⟩ ?_
  refine mm_blk (M := mm_m_X10_out) 2 (S' := (13, [.ref 0, .int (0 : Int32)], [], σ1)) (P := []) rfl trivial ?_
  exact h
theorem sg_X10_out_13 (σ : mm_Sg) (x1 : Int32) (R : Option Value × mm_Sg) (h : ((((60 : Int32) ≤ x1 → (((¬ (σ 24 8) = (0 : Int32) → (R = (some (.int (-4 : Int32)), σ))) ∧ (¬ (¬ (σ 24 8) = (0 : Int32)) → (R = (some (.int (60 : Int32)), σ)))))) ∧ (¬ ((60 : Int32) ≤ x1) → (((¬ (σ 24 8) = (0 : Int32) → (∃ (σ4 : mm_Sg), mm_Ev mm_m_X1_goDays [.ref 24, .int (1 : Int32)] σ none σ4 ∧ mm_Go mm_m_X10_out (13, [.ref 0, .int (x1 + (1 : Int32))], [], σ4) R)) ∧ (¬ (¬ (σ 24 8) = (0 : Int32)) → (R = (some (.int x1), σ))))))))) : mm_Go mm_m_X10_out (13, [.ref 0, .int x1], [], σ) R := by
  refine mm_blk (M := mm_m_X10_out) 3 (S' := ((if (60 : Int32) ≤ x1 then 45 else 19), [.ref 0, .int x1], [], σ)) (P := []) rfl trivial ?_
  by_cases b1 : (60 : Int32) ≤ x1
  · rw [if_pos b1]
    have h := h.1 b1
    refine mm_blk (M := mm_m_X10_out) 4 (S' := ((if ¬ (σ 24 8) = (0 : Int32) then 60 else 55), [.ref 0, .int x1], [], σ)) (P := [mm_cl 0 = 10, mm_cl 24 = 1]) rfl ⟨rfl, rfl, trivial⟩ ?_
    by_cases b2 : ¬ (σ 24 8) = (0 : Int32)
    · rw [if_pos b2]
      have h := h.1 b2
      refine mm_blk (M := mm_m_X10_out) 1 (S' := (62, [.ref 0, .int x1], [.int (-4 : Int32)], σ)) (P := []) rfl trivial ?_
      subst h
      exact mm_rt_ ⟨_, _, _, rfl, ⟨_, _, rfl, rfl, rfl, rfl⟩⟩
    · rw [if_neg b2]
      have h := h.2 b2
      refine mm_blk (M := mm_m_X10_out) 2 (S' := (62, [.ref 0, .int x1], [.int (60 : Int32)], σ)) (P := []) rfl trivial ?_
      subst h
      exact mm_rt_ ⟨_, _, _, rfl, ⟨_, _, rfl, rfl, rfl, rfl⟩⟩
  · rw [if_neg b1]
    have h := h.2 b1
    refine mm_blk (M := mm_m_X10_out) 4 (S' := ((if ¬ (σ 24 8) = (0 : Int32) then 31 else 29), [.ref 0, .int x1], [], σ)) (P := [mm_cl 0 = 10, mm_cl 24 = 1]) rfl ⟨rfl, rfl, trivial⟩ ?_
    by_cases b3 : ¬ (σ 24 8) = (0 : Int32)
    · rw [if_pos b3]
      have h := h.1 b3
      refine mm_blk (M := mm_m_X10_out) 3 (S' := (36, [.ref 0, .int x1], [.int (1 : Int32), .ref 24], σ)) (P := [mm_cl 0 = 10]) rfl ⟨rfl, trivial⟩ ?_
      obtain ⟨σ4, e5, h⟩ := h
      refine mm_cl_ (rest := []) e5 ⟨_, _, _, rfl, rfl, mm_tb_X1_goDays, rfl, rfl, Nat.le_of_ble_eq_true rfl, Nat.le_of_ble_eq_true rfl, ⟨_, rfl, rfl⟩⟩ ?_
      refine mm_blk (M := mm_m_X10_out) 2 (S' := (13, [.ref 0, .int (x1 + (1 : Int32))], [], σ4)) (P := []) rfl trivial ?_
      exact h
    · rw [if_neg b3]
      have h := h.2 b3
      refine mm_blk (M := mm_m_X10_out) 1 (S' := (30, [.ref 0, .int x1], [.int x1], σ)) (P := []) rfl trivial ?_
      subst h
      exact mm_rt_ ⟨_, _, _, rfl, ⟨_, _, rfl, rfl, rfl, rfl⟩⟩
theorem sg_X10_bestWaker_0 (σ : mm_Sg) (x1 : Int32) (x2 : Int32) (x3 : Int32) (R : Option Value × mm_Sg) (h : (∃ (v3 : Int32) (σ1 : mm_Sg), mm_Ev mm_m_X1_has [.ref 10, .int x1] σ (some (.int v3)) σ1 ∧ (((v3 = (0 : Int32) → (R = (some (.int (-1 : Int32)), σ1))) ∧ (¬ (v3 = (0 : Int32)) → (∃ (v7 : Int32) (σ5 : mm_Sg), mm_Ev mm_m_X10_isBetween [.int x2, .int (0 : Int32), .int (60 : Int32)] σ1 (some (.int v7)) σ5 ∧ (((v7 = (0 : Int32) → (R = (some (.int (-1 : Int32)), σ5))) ∧ (¬ (v7 = (0 : Int32)) → (∃ (v11 : Int32) (σ9 : mm_Sg), mm_Ev mm_m_X10_isBetween [.int x3, .int (0 : Int32), .int (1 : Int32)] σ5 (some (.int v11)) σ9 ∧ (((¬ v11 = (0 : Int32) → (∃ (v15 : Int32) (σ13 : mm_Sg), mm_Ev mm_m_X10_owedBehindWithWaker [.ref 0, .int x1, .int (0 : Int32), .int x2] σ9 (some (.int v15)) σ13 ∧ mm_Go mm_m_X10_bestWaker (47, [.ref 0, .int x1, .int x2, .int x3, .int (0 : Int32), .int v15, .int (1 : Int32), .null, .null], [], σ13) R)) ∧ (¬ (¬ v11 = (0 : Int32)) → (R = (some (.int (-1 : Int32)), σ9))))))))))))))) : mm_Go mm_m_X10_bestWaker (0, [.ref 0, .int x1, .int x2, .int x3, .null, .null, .null, .null, .null], [], σ) R := by
  refine mm_blk (M := mm_m_X10_bestWaker) 3 (S' := (5, [.ref 0, .int x1, .int x2, .int x3, .null, .null, .null, .null, .null], [.int x1, .ref 10], σ)) (P := [mm_cl 0 = 10]) rfl ⟨rfl, trivial⟩ ?_
  obtain ⟨v3, σ1, e2, h⟩ := h
  refine mm_cl_ (rest := []) e2 ⟨_, _, _, rfl, rfl, mm_tb_X1_has, rfl, rfl, Nat.le_of_ble_eq_true rfl, Nat.le_of_ble_eq_true rfl, ⟨_, rfl, rfl⟩⟩ ?_
  refine mm_blk (M := mm_m_X10_bestWaker) 1 (S' := ((if v3 = (0 : Int32) then 30 else 11), [.ref 0, .int x1, .int x2, .int x3, .null, .null, .null, .null, .null], [], σ1)) (P := []) rfl trivial ?_
  by_cases b4 : v3 = (0 : Int32)
  · rw [if_pos b4]
    have h := h.1 b4
    refine mm_blk (M := mm_m_X10_bestWaker) 1 (S' := (31, [.ref 0, .int x1, .int x2, .int x3, .null, .null, .null, .null, .null], [.int (-1 : Int32)], σ1)) (P := []) rfl trivial ?_
    subst h
    exact mm_rt_ ⟨_, _, _, rfl, ⟨_, _, rfl, rfl, rfl, rfl⟩⟩
  · rw [if_neg b4]
    have h := h.2 b4
    refine mm_blk (M := mm_m_X10_bestWaker) 3 (S' := (15, [.ref 0, .int x1, .int x2, .int x3, .null, .null, .null, .null, .null], [.int (60 : Int32), .int (0 : Int32), .int x2], σ1)) (P := []) rfl trivial ?_
    obtain ⟨v7, σ5, e6, h⟩ := h
    refine mm_cl_ (rest := []) e6 ⟨_, _, _, rfl, rfl, mm_tb_X10_isBetween, rfl, rfl, Nat.le_of_ble_eq_true rfl, Nat.le_of_ble_eq_true rfl, trivial⟩ ?_
    refine mm_blk (M := mm_m_X10_bestWaker) 1 (S' := ((if v7 = (0 : Int32) then 30 else 21), [.ref 0, .int x1, .int x2, .int x3, .null, .null, .null, .null, .null], [], σ5)) (P := []) rfl trivial ?_
    by_cases b8 : v7 = (0 : Int32)
    · rw [if_pos b8]
      have h := h.1 b8
      refine mm_blk (M := mm_m_X10_bestWaker) 1 (S' := (31, [.ref 0, .int x1, .int x2, .int x3, .null, .null, .null, .null, .null], [.int (-1 : Int32)], σ5)) (P := []) rfl trivial ?_
      subst h
      exact mm_rt_ ⟨_, _, _, rfl, ⟨_, _, rfl, rfl, rfl, rfl⟩⟩
    · rw [if_neg b8]
      have h := h.2 b8
      refine mm_blk (M := mm_m_X10_bestWaker) 3 (S' := (24, [.ref 0, .int x1, .int x2, .int x3, .null, .null, .null, .null, .null], [.int (1 : Int32), .int (0 : Int32), .int x3], σ5)) (P := []) rfl trivial ?_
      obtain ⟨v11, σ9, e10, h⟩ := h
      refine mm_cl_ (rest := []) e10 ⟨_, _, _, rfl, rfl, mm_tb_X10_isBetween, rfl, rfl, Nat.le_of_ble_eq_true rfl, Nat.le_of_ble_eq_true rfl, trivial⟩ ?_
      refine mm_blk (M := mm_m_X10_bestWaker) 1 (S' := ((if ¬ v11 = (0 : Int32) then 32 else 30), [.ref 0, .int x1, .int x2, .int x3, .null, .null, .null, .null, .null], [], σ9)) (P := []) rfl trivial ?_
      by_cases b12 : ¬ v11 = (0 : Int32)
      · rw [if_pos b12]
        have h := h.1 b12
        refine mm_blk (M := mm_m_X10_bestWaker) 6 (S' := (39, [.ref 0, .int x1, .int x2, .int x3, .int (0 : Int32), .null, .null, .null, .null], [.int x2, .int (0 : Int32), .int x1, .ref 0], σ9)) (P := []) rfl trivial ?_
        obtain ⟨v15, σ13, e14, h⟩ := h
        refine mm_cl_ (rest := []) e14 ⟨_, _, _, rfl, rfl, mm_tb_X10_owedBehindWithWaker, rfl, rfl, Nat.le_of_ble_eq_true rfl, Nat.le_of_ble_eq_true rfl, ⟨_, rfl, rfl⟩⟩ ?_
        refine mm_blk (M := mm_m_X10_bestWaker) 3 (S' := (47, [.ref 0, .int x1, .int x2, .int x3, .int (0 : Int32), .int v15, .int (1 : Int32), .null, .null], [], σ13)) (P := []) rfl trivial ?_
        exact h
      · rw [if_neg b12]
        have h := h.2 b12
        refine mm_blk (M := mm_m_X10_bestWaker) 1 (S' := (31, [.ref 0, .int x1, .int x2, .int x3, .null, .null, .null, .null, .null], [.int (-1 : Int32)], σ9)) (P := []) rfl trivial ?_
        subst h
        exact mm_rt_ ⟨_, _, _, rfl, ⟨_, _, rfl, rfl, rfl, rfl⟩⟩
theorem sg_X10_bestWaker_47 (σ : mm_Sg) (x1 : Int32) (x2 : Int32) (x3 : Int32) (x4 : Int32) (x5 : Int32) (x6 : Int32) (d7 : Value) (d8 : Value) (R : Option Value × mm_Sg) (h : ((((5 : Int32) < x6 → (((¬ x3 = (0 : Int32) → (R = (some (.int x5), σ))) ∧ (¬ (¬ x3 = (0 : Int32)) → (R = (some (.int x4), σ)))))) ∧ (¬ ((5 : Int32) < x6) → ((((5 : Int32) ≤ x6 → (∃ (v6 : Int32) (σ4 : mm_Sg), mm_Ev mm_m_X10_owedBehindWithWaker [.ref 0, .int x1, .int (9 : Int32), .int x2] σ (some (.int v6)) σ4 ∧ (((x5 ≤ v6 → mm_Go mm_m_X10_bestWaker (47, [.ref 0, .int x1, .int x2, .int x3, .int x4, .int x5, .int (x6 + (1 : Int32)), .int (9 : Int32), .int v6], [], σ4) R) ∧ (¬ (x5 ≤ v6) → mm_Go mm_m_X10_bestWaker (47, [.ref 0, .int x1, .int x2, .int x3, .int (9 : Int32), .int v6, .int (x6 + (1 : Int32)), .int (9 : Int32), .int v6], [], σ4) R))))) ∧ (¬ ((5 : Int32) ≤ x6) → (∃ (v10 : Int32) (σ8 : mm_Sg), mm_Ev mm_m_X10_owedBehindWithWaker [.ref 0, .int x1, .int x6, .int x2] σ (some (.int v10)) σ8 ∧ (((x5 ≤ v10 → mm_Go mm_m_X10_bestWaker (47, [.ref 0, .int x1, .int x2, .int x3, .int x4, .int x5, .int (x6 + (1 : Int32)), .int x6, .int v10], [], σ8) R) ∧ (¬ (x5 ≤ v10) → mm_Go mm_m_X10_bestWaker (47, [.ref 0, .int x1, .int x2, .int x3, .int x6, .int v10, .int (x6 + (1 : Int32)), .int x6, .int v10], [], σ8) R))))))))))) : mm_Go mm_m_X10_bestWaker (47, [.ref 0, .int x1, .int x2, .int x3, .int x4, .int x5, .int x6, d7, d8], [], σ) R := by
  refine mm_blk (M := mm_m_X10_bestWaker) 3 (S' := ((if (5 : Int32) < x6 then 99 else 53), [.ref 0, .int x1, .int x2, .int x3, .int x4, .int x5, .int x6, d7, d8], [], σ)) (P := []) rfl trivial ?_
  by_cases b1 : (5 : Int32) < x6
  · rw [if_pos b1]
    have h := h.1 b1
    refine mm_blk (M := mm_m_X10_bestWaker) 2 (S' := ((if ¬ x3 = (0 : Int32) then 108 else 103), [.ref 0, .int x1, .int x2, .int x3, .int x4, .int x5, .int x6, d7, d8], [], σ)) (P := []) rfl trivial ?_
    by_cases b2 : ¬ x3 = (0 : Int32)
    · rw [if_pos b2]
      have h := h.1 b2
      refine mm_blk (M := mm_m_X10_bestWaker) 1 (S' := (110, [.ref 0, .int x1, .int x2, .int x3, .int x4, .int x5, .int x6, d7, d8], [.int x5], σ)) (P := []) rfl trivial ?_
      subst h
      exact mm_rt_ ⟨_, _, _, rfl, ⟨_, _, rfl, rfl, rfl, rfl⟩⟩
    · rw [if_neg b2]
      have h := h.2 b2
      refine mm_blk (M := mm_m_X10_bestWaker) 2 (S' := (110, [.ref 0, .int x1, .int x2, .int x3, .int x4, .int x5, .int x6, d7, d8], [.int x4], σ)) (P := []) rfl trivial ?_
      subst h
      exact mm_rt_ ⟨_, _, _, rfl, ⟨_, _, rfl, rfl, rfl, rfl⟩⟩
  · rw [if_neg b1]
    have h := h.2 b1
    refine mm_blk (M := mm_m_X10_bestWaker) 3 (S' := ((if (5 : Int32) ≤ x6 then 64 else 59), [.ref 0, .int x1, .int x2, .int x3, .int x4, .int x5, .int x6, d7, d8], [], σ)) (P := []) rfl trivial ?_
    by_cases b3 : (5 : Int32) ≤ x6
    · rw [if_pos b3]
      have h := h.1 b3
      refine mm_blk (M := mm_m_X10_bestWaker) 6 (S' := (73, [.ref 0, .int x1, .int x2, .int x3, .int x4, .int x5, .int x6, .int (9 : Int32), d8], [.int x2, .int (9 : Int32), .int x1, .ref 0], σ)) (P := []) rfl trivial ?_
      obtain ⟨v6, σ4, e5, h⟩ := h
      refine mm_cl_ (rest := []) e5 ⟨_, _, _, rfl, rfl, mm_tb_X10_owedBehindWithWaker, rfl, rfl, Nat.le_of_ble_eq_true rfl, Nat.le_of_ble_eq_true rfl, ⟨_, rfl, rfl⟩⟩ ?_
      refine mm_blk (M := mm_m_X10_bestWaker) 4 (S' := ((if x5 ≤ v6 then 93 else 85), [.ref 0, .int x1, .int x2, .int x3, .int x4, .int x5, .int x6, .int (9 : Int32), .int v6], [], σ4)) (P := []) rfl trivial ?_
      by_cases b7 : x5 ≤ v6
      · rw [if_pos b7]
        have h := h.1 b7
        refine mm_blk (M := mm_m_X10_bestWaker) 2 (S' := (47, [.ref 0, .int x1, .int x2, .int x3, .int x4, .int x5, .int (x6 + (1 : Int32)), .int (9 : Int32), .int v6], [], σ4)) (P := []) rfl trivial ?_
        exact h
      · rw [if_neg b7]
        have h := h.2 b7
        refine mm_blk (M := mm_m_X10_bestWaker) 6 (S' := (47, [.ref 0, .int x1, .int x2, .int x3, .int (9 : Int32), .int v6, .int (x6 + (1 : Int32)), .int (9 : Int32), .int v6], [], σ4)) (P := []) rfl trivial ?_
        exact h
    · rw [if_neg b3]
      have h := h.2 b3
      refine mm_blk (M := mm_m_X10_bestWaker) 7 (S' := (73, [.ref 0, .int x1, .int x2, .int x3, .int x4, .int x5, .int x6, .int x6, d8], [.int x2, .int x6, .int x1, .ref 0], σ)) (P := []) rfl trivial ?_
      obtain ⟨v10, σ8, e9, h⟩ := h
      refine mm_cl_ (rest := []) e9 ⟨_, _, _, rfl, rfl, mm_tb_X10_owedBehindWithWaker, rfl, rfl, Nat.le_of_ble_eq_true rfl, Nat.le_of_ble_eq_true rfl, ⟨_, rfl, rfl⟩⟩ ?_
      refine mm_blk (M := mm_m_X10_bestWaker) 4 (S' := ((if x5 ≤ v10 then 93 else 85), [.ref 0, .int x1, .int x2, .int x3, .int x4, .int x5, .int x6, .int x6, .int v10], [], σ8)) (P := []) rfl trivial ?_
      by_cases b11 : x5 ≤ v10
      · rw [if_pos b11]
        have h := h.1 b11
        refine mm_blk (M := mm_m_X10_bestWaker) 2 (S' := (47, [.ref 0, .int x1, .int x2, .int x3, .int x4, .int x5, .int (x6 + (1 : Int32)), .int x6, .int v10], [], σ8)) (P := []) rfl trivial ?_
        exact h
      · rw [if_neg b11]
        have h := h.2 b11
        refine mm_blk (M := mm_m_X10_bestWaker) 6 (S' := (47, [.ref 0, .int x1, .int x2, .int x3, .int x6, .int v10, .int (x6 + (1 : Int32)), .int x6, .int v10], [], σ8)) (P := []) rfl trivial ?_
        exact h
theorem sg_X10_match_0 (σ : mm_Sg) (x1 : Int32) (R : Option Value × mm_Sg) (h : (((x1 = (-1 : Int32) → mm_Go mm_m_X10_match (18, [.ref 0, .int x1, .null, .null, .null], [], σ) R) ∧ (¬ (x1 = (-1 : Int32)) → (∃ (v4 : Int32) (σ2 : mm_Sg), mm_Ev mm_m_X1_has [.ref 10, .int x1] σ (some (.int v4)) σ2 ∧ (((¬ v4 = (0 : Int32) → mm_Go mm_m_X10_match (18, [.ref 0, .int x1, .null, .null, .null], [], σ2) R) ∧ (¬ (¬ v4 = (0 : Int32)) → (R = (some (.int (-1 : Int32)), σ2)))))))))) : mm_Go mm_m_X10_match (0, [.ref 0, .int x1, .null, .null, .null], [], σ) R := by
  refine mm_blk (M := mm_m_X10_match) 3 (S' := ((if x1 = (-1 : Int32) then 18 else 5), [.ref 0, .int x1, .null, .null, .null], [], σ)) (P := []) rfl trivial ?_
  by_cases b1 : x1 = (-1 : Int32)
  · rw [if_pos b1]
    have h := h.1 b1
    exact h
  · rw [if_neg b1]
    have h := h.2 b1
    refine mm_blk (M := mm_m_X10_match) 3 (S' := (10, [.ref 0, .int x1, .null, .null, .null], [.int x1, .ref 10], σ)) (P := [mm_cl 0 = 10]) rfl ⟨rfl, trivial⟩ ?_
    obtain ⟨v4, σ2, e3, h⟩ := h
    refine mm_cl_ (rest := []) e3 ⟨_, _, _, rfl, rfl, mm_tb_X1_has, rfl, rfl, Nat.le_of_ble_eq_true rfl, Nat.le_of_ble_eq_true rfl, ⟨_, rfl, rfl⟩⟩ ?_
    refine mm_blk (M := mm_m_X10_match) 1 (S' := ((if ¬ v4 = (0 : Int32) then 18 else 16), [.ref 0, .int x1, .null, .null, .null], [], σ2)) (P := []) rfl trivial ?_
    by_cases b5 : ¬ v4 = (0 : Int32)
    · rw [if_pos b5]
      have h := h.1 b5
      exact h
    · rw [if_neg b5]
      have h := h.2 b5
      refine mm_blk (M := mm_m_X10_match) 1 (S' := (17, [.ref 0, .int x1, .null, .null, .null], [.int (-1 : Int32)], σ2)) (P := []) rfl trivial ?_
      subst h
      exact mm_rt_ ⟨_, _, _, rfl, ⟨_, _, rfl, rfl, rfl, rfl⟩⟩
theorem sg_X10_match_18 (σ : mm_Sg) (x1 : Int32) (R : Option Value × mm_Sg) (h : (∃ (σ1 : mm_Sg), mm_Ev mm_m_X10_fillMostWoken [.ref 0] σ none σ1 ∧ (((¬ x1 = (-1 : Int32) → mm_Go mm_m_X10_match (48, [.ref 0, .int x1, .int (σ1 10 7), .int (9 : Int32), .int (0 : Int32)], [], σ1) R) ∧ (¬ (¬ x1 = (-1 : Int32)) → (∃ (v6 : Int32) (σ4 : mm_Sg), mm_Ev mm_m_X10_mostWokenFrom [.ref 0, .int (0 : Int32), .int (σ1 10 7)] σ1 (some (.int v6)) σ4 ∧ (R = (some (.int v6), σ4)))))))) : mm_Go mm_m_X10_match (18, [.ref 0, .int x1, .null, .null, .null], [], σ) R := by
  refine mm_blk (M := mm_m_X10_match) 1 (S' := (19, [.ref 0, .int x1, .null, .null, .null], [.ref 0], σ)) (P := []) rfl trivial ?_
  obtain ⟨σ1, e2, h⟩ := h
  refine mm_cl_ (rest := []) e2 ⟨_, _, _, rfl, rfl, mm_tb_X10_fillMostWoken, rfl, rfl, Nat.le_of_ble_eq_true rfl, Nat.le_of_ble_eq_true rfl, ⟨_, rfl, rfl⟩⟩ ?_
  refine mm_blk (M := mm_m_X10_match) 7 (S' := ((if ¬ x1 = (-1 : Int32) then 42 else 35), [.ref 0, .int x1, .int (σ1 10 7), .null, .null], [], σ1)) (P := [mm_cl 0 = 10, mm_cl 10 = 1]) rfl ⟨rfl, rfl, trivial⟩ ?_
  by_cases b3 : ¬ x1 = (-1 : Int32)
  · rw [if_pos b3]
    have h := h.1 b3
    refine mm_blk (M := mm_m_X10_match) 4 (S' := (48, [.ref 0, .int x1, .int (σ1 10 7), .int (9 : Int32), .int (0 : Int32)], [], σ1)) (P := []) rfl trivial ?_
    exact h
  · rw [if_neg b3]
    have h := h.2 b3
    refine mm_blk (M := mm_m_X10_match) 3 (S' := (38, [.ref 0, .int x1, .int (σ1 10 7), .null, .null], [.int (σ1 10 7), .int (0 : Int32), .ref 0], σ1)) (P := []) rfl trivial ?_
    obtain ⟨v6, σ4, e5, h⟩ := h
    refine mm_cl_ (rest := []) e5 ⟨_, _, _, rfl, rfl, mm_tb_X10_mostWokenFrom, rfl, rfl, Nat.le_of_ble_eq_true rfl, Nat.le_of_ble_eq_true rfl, ⟨_, rfl, rfl⟩⟩ ?_
    subst h
    exact mm_rt_ ⟨_, _, _, rfl, ⟨_, _, rfl, rfl, rfl, rfl⟩⟩
theorem sg_X10_match_48 (σ : mm_Sg) (x1 : Int32) (x2 : Int32) (x3 : Int32) (x4 : Int32) (R : Option Value × mm_Sg) (h : (((x1 < x4 → (∃ (v4 : Int32) (σ2 : mm_Sg), mm_Ev mm_m_X10_isWaker [.int x3] σ (some (.int v4)) σ2 ∧ (((v4 = (0 : Int32) → (R = (some (.int (-4 : Int32)), σ2))) ∧ (¬ (v4 = (0 : Int32)) → (R = (some (.int x3), σ2))))))) ∧ (¬ (x1 < x4) → (∃ (v8 : Int32) (σ6 : mm_Sg), mm_Ev mm_m_X10_firstMatchOf [.ref 0, .int x4, .int x2] σ (some (.int v8)) σ6 ∧ (∃ (v11 : Int32) (σ9 : mm_Sg), mm_Ev mm_m_X10_isWaker [.int v8] σ6 (some (.int v11)) σ9 ∧ (((v11 = (0 : Int32) → mm_Go mm_m_X10_match (48, [.ref 0, .int x1, .int x2, .int v8, .int (x4 + (1 : Int32))], [], σ9) R) ∧ (¬ (v11 = (0 : Int32)) → mm_Go mm_m_X10_match (48, [.ref 0, .int x1, .int (x2 ||| ((1 : Int32) <<< (v8 &&& 31))), .int v8, .int (x4 + (1 : Int32))], [], σ9) R))))))))) : mm_Go mm_m_X10_match (48, [.ref 0, .int x1, .int x2, .int x3, .int x4], [], σ) R := by
  refine mm_blk (M := mm_m_X10_match) 3 (S' := ((if x1 < x4 then 81 else 54), [.ref 0, .int x1, .int x2, .int x3, .int x4], [], σ)) (P := []) rfl trivial ?_
  by_cases b1 : x1 < x4
  · rw [if_pos b1]
    have h := h.1 b1
    refine mm_blk (M := mm_m_X10_match) 1 (S' := (82, [.ref 0, .int x1, .int x2, .int x3, .int x4], [.int x3], σ)) (P := []) rfl trivial ?_
    obtain ⟨v4, σ2, e3, h⟩ := h
    refine mm_cl_ (rest := []) e3 ⟨_, _, _, rfl, rfl, mm_tb_X10_isWaker, rfl, rfl, Nat.le_of_ble_eq_true rfl, Nat.le_of_ble_eq_true rfl, trivial⟩ ?_
    refine mm_blk (M := mm_m_X10_match) 1 (S' := ((if v4 = (0 : Int32) then 92 else 88), [.ref 0, .int x1, .int x2, .int x3, .int x4], [], σ2)) (P := []) rfl trivial ?_
    by_cases b5 : v4 = (0 : Int32)
    · rw [if_pos b5]
      have h := h.1 b5
      refine mm_blk (M := mm_m_X10_match) 1 (S' := (94, [.ref 0, .int x1, .int x2, .int x3, .int x4], [.int (-4 : Int32)], σ2)) (P := []) rfl trivial ?_
      subst h
      exact mm_rt_ ⟨_, _, _, rfl, ⟨_, _, rfl, rfl, rfl, rfl⟩⟩
    · rw [if_neg b5]
      have h := h.2 b5
      refine mm_blk (M := mm_m_X10_match) 2 (S' := (94, [.ref 0, .int x1, .int x2, .int x3, .int x4], [.int x3], σ2)) (P := []) rfl trivial ?_
      subst h
      exact mm_rt_ ⟨_, _, _, rfl, ⟨_, _, rfl, rfl, rfl, rfl⟩⟩
  · rw [if_neg b1]
    have h := h.2 b1
    refine mm_blk (M := mm_m_X10_match) 3 (S' := (58, [.ref 0, .int x1, .int x2, .int x3, .int x4], [.int x2, .int x4, .ref 0], σ)) (P := []) rfl trivial ?_
    obtain ⟨v8, σ6, e7, h⟩ := h
    refine mm_cl_ (rest := []) e7 ⟨_, _, _, rfl, rfl, mm_tb_X10_firstMatchOf, rfl, rfl, Nat.le_of_ble_eq_true rfl, Nat.le_of_ble_eq_true rfl, ⟨_, rfl, rfl⟩⟩ ?_
    refine mm_blk (M := mm_m_X10_match) 2 (S' := (63, [.ref 0, .int x1, .int x2, .int v8, .int x4], [.int v8], σ6)) (P := []) rfl trivial ?_
    obtain ⟨v11, σ9, e10, h⟩ := h
    refine mm_cl_ (rest := []) e10 ⟨_, _, _, rfl, rfl, mm_tb_X10_isWaker, rfl, rfl, Nat.le_of_ble_eq_true rfl, Nat.le_of_ble_eq_true rfl, trivial⟩ ?_
    refine mm_blk (M := mm_m_X10_match) 1 (S' := ((if v11 = (0 : Int32) then 75 else 69), [.ref 0, .int x1, .int x2, .int v8, .int x4], [], σ9)) (P := []) rfl trivial ?_
    by_cases b12 : v11 = (0 : Int32)
    · rw [if_pos b12]
      have h := h.1 b12
      refine mm_blk (M := mm_m_X10_match) 2 (S' := (48, [.ref 0, .int x1, .int x2, .int v8, .int (x4 + (1 : Int32))], [], σ9)) (P := []) rfl trivial ?_
      exact h
    · rw [if_neg b12]
      have h := h.2 b12
      refine mm_blk (M := mm_m_X10_match) 8 (S' := (48, [.ref 0, .int x1, .int (x2 ||| ((1 : Int32) <<< (v8 &&& 31))), .int v8, .int (x4 + (1 : Int32))], [], σ9)) (P := []) rfl trivial ?_
      exact h
theorem sg_X10_milk_0 (σ : mm_Sg) (x1 : Int32) (R : Option Value × mm_Sg) (h : (∃ (v3 : Int32) (σ1 : mm_Sg), mm_Ev mm_m_X10_isBetween [.int x1, .int (0 : Int32), .int (30 : Int32)] σ (some (.int v3)) σ1 ∧ (((¬ v3 = (0 : Int32) → (∃ (σ5 : mm_Sg), mm_Ev mm_m_X10_thinkDaysOn [.ref 0, .int x1] σ1 none σ5 ∧ (∃ (v9 : Int32) (σ7 : mm_Sg), mm_Ev mm_m_X1_owedInAll [.ref 24] σ5 (some (.int v9)) σ7 ∧ mm_Go mm_m_X10_milk (31, [.ref 0, .int x1, .int v9, .int (-4 : Int32), .int (0 : Int32), .null], [], σ7) R))) ∧ (¬ (¬ v3 = (0 : Int32)) → (R = (some (.int (-1 : Int32)), σ1))))))) : mm_Go mm_m_X10_milk (0, [.ref 0, .int x1, .null, .null, .null, .null], [], σ) R := by
  refine mm_blk (M := mm_m_X10_milk) 3 (S' := (4, [.ref 0, .int x1, .null, .null, .null, .null], [.int (30 : Int32), .int (0 : Int32), .int x1], σ)) (P := []) rfl trivial ?_
  obtain ⟨v3, σ1, e2, h⟩ := h
  refine mm_cl_ (rest := []) e2 ⟨_, _, _, rfl, rfl, mm_tb_X10_isBetween, rfl, rfl, Nat.le_of_ble_eq_true rfl, Nat.le_of_ble_eq_true rfl, trivial⟩ ?_
  refine mm_blk (M := mm_m_X10_milk) 1 (S' := ((if ¬ v3 = (0 : Int32) then 12 else 10), [.ref 0, .int x1, .null, .null, .null, .null], [], σ1)) (P := []) rfl trivial ?_
  by_cases b4 : ¬ v3 = (0 : Int32)
  · rw [if_pos b4]
    have h := h.1 b4
    refine mm_blk (M := mm_m_X10_milk) 2 (S' := (14, [.ref 0, .int x1, .null, .null, .null, .null], [.int x1, .ref 0], σ1)) (P := []) rfl trivial ?_
    obtain ⟨σ5, e6, h⟩ := h
    refine mm_cl_ (rest := []) e6 ⟨_, _, _, rfl, rfl, mm_tb_X10_thinkDaysOn, rfl, rfl, Nat.le_of_ble_eq_true rfl, Nat.le_of_ble_eq_true rfl, ⟨_, rfl, rfl⟩⟩ ?_
    refine mm_blk (M := mm_m_X10_milk) 2 (S' := (21, [.ref 0, .int x1, .null, .null, .null, .null], [.ref 24], σ5)) (P := [mm_cl 0 = 10]) rfl ⟨rfl, trivial⟩ ?_
    obtain ⟨v9, σ7, e8, h⟩ := h
    refine mm_cl_ (rest := []) e8 ⟨_, _, _, rfl, rfl, mm_tb_X1_owedInAll, rfl, rfl, Nat.le_of_ble_eq_true rfl, Nat.le_of_ble_eq_true rfl, ⟨_, rfl, rfl⟩⟩ ?_
    refine mm_blk (M := mm_m_X10_milk) 5 (S' := (31, [.ref 0, .int x1, .int v9, .int (-4 : Int32), .int (0 : Int32), .null], [], σ7)) (P := []) rfl trivial ?_
    exact h
  · rw [if_neg b4]
    have h := h.2 b4
    refine mm_blk (M := mm_m_X10_milk) 1 (S' := (11, [.ref 0, .int x1, .null, .null, .null, .null], [.int (-1 : Int32)], σ1)) (P := []) rfl trivial ?_
    subst h
    exact mm_rt_ ⟨_, _, _, rfl, ⟨_, _, rfl, rfl, rfl, rfl⟩⟩
theorem sg_X10_milk_31 (σ : mm_Sg) (x1 : Int32) (x2 : Int32) (x3 : Int32) (x4 : Int32) (d5 : Value) (R : Option Value × mm_Sg) (h : ((((σ 10 6) ≤ x4 → (R = (some (.int x3), σ))) ∧ (¬ ((σ 10 6) ≤ x4) → (∃ (v4 : Int32) (σ2 : mm_Sg), mm_Ev mm_m_X10_owedBehindWithMilk [.ref 0, .int x4, .int x1] σ (some (.int v4)) σ2 ∧ (((x2 ≤ v4 → mm_Go mm_m_X10_milk (31, [.ref 0, .int x1, .int x2, .int x3, .int (x4 + (1 : Int32)), .int v4], [], σ2) R) ∧ (¬ (x2 ≤ v4) → mm_Go mm_m_X10_milk (31, [.ref 0, .int x1, .int v4, .int x4, .int (x4 + (1 : Int32)), .int v4], [], σ2) R)))))))) : mm_Go mm_m_X10_milk (31, [.ref 0, .int x1, .int x2, .int x3, .int x4, d5], [], σ) R := by
  refine mm_blk (M := mm_m_X10_milk) 5 (S' := ((if (σ 10 6) ≤ x4 then 70 else 43), [.ref 0, .int x1, .int x2, .int x3, .int x4, d5], [], σ)) (P := [mm_cl 0 = 10, mm_cl 10 = 1]) rfl ⟨rfl, rfl, trivial⟩ ?_
  by_cases b1 : (σ 10 6) ≤ x4
  · rw [if_pos b1]
    have h := h.1 b1
    refine mm_blk (M := mm_m_X10_milk) 1 (S' := (71, [.ref 0, .int x1, .int x2, .int x3, .int x4, d5], [.int x3], σ)) (P := []) rfl trivial ?_
    subst h
    exact mm_rt_ ⟨_, _, _, rfl, ⟨_, _, rfl, rfl, rfl, rfl⟩⟩
  · rw [if_neg b1]
    have h := h.2 b1
    refine mm_blk (M := mm_m_X10_milk) 3 (S' := (47, [.ref 0, .int x1, .int x2, .int x3, .int x4, d5], [.int x1, .int x4, .ref 0], σ)) (P := []) rfl trivial ?_
    obtain ⟨v4, σ2, e3, h⟩ := h
    refine mm_cl_ (rest := []) e3 ⟨_, _, _, rfl, rfl, mm_tb_X10_owedBehindWithMilk, rfl, rfl, Nat.le_of_ble_eq_true rfl, Nat.le_of_ble_eq_true rfl, ⟨_, rfl, rfl⟩⟩ ?_
    refine mm_blk (M := mm_m_X10_milk) 4 (S' := ((if x2 ≤ v4 then 64 else 58), [.ref 0, .int x1, .int x2, .int x3, .int x4, .int v4], [], σ2)) (P := []) rfl trivial ?_
    by_cases b5 : x2 ≤ v4
    · rw [if_pos b5]
      have h := h.1 b5
      refine mm_blk (M := mm_m_X10_milk) 2 (S' := (31, [.ref 0, .int x1, .int x2, .int x3, .int (x4 + (1 : Int32)), .int v4], [], σ2)) (P := []) rfl trivial ?_
      exact h
    · rw [if_neg b5]
      have h := h.2 b5
      refine mm_blk (M := mm_m_X10_milk) 6 (S' := (31, [.ref 0, .int x1, .int v4, .int x4, .int (x4 + (1 : Int32)), .int v4], [], σ2)) (P := []) rfl trivial ?_
      exact h
theorem sg_X10_fewest_0 (σ : mm_Sg) (x1 : Int32) (R : Option Value × mm_Sg) (h : (∃ (v3 : Int32) (σ1 : mm_Sg), mm_Ev mm_m_X10_isBetween [.int x1, .int (0 : Int32), .int (30 : Int32)] σ (some (.int v3)) σ1 ∧ (((¬ v3 = (0 : Int32) → (∃ (σ5 : mm_Sg), mm_Ev mm_m_X10_thinkDaysOn [.ref 0, .int x1] σ1 none σ5 ∧ (∃ (v9 : Int32) (σ7 : mm_Sg), mm_Ev mm_m_X1_owedInAll [.ref 24] σ5 (some (.int v9)) σ7 ∧ mm_Go mm_m_X10_fewest (27, [.ref 0, .int x1, .int v9, .int (0 : Int32), .null], [], σ7) R))) ∧ (¬ (¬ v3 = (0 : Int32)) → (R = (some (.int (-1 : Int32)), σ1))))))) : mm_Go mm_m_X10_fewest (0, [.ref 0, .int x1, .null, .null, .null], [], σ) R := by
  refine mm_blk (M := mm_m_X10_fewest) 3 (S' := (4, [.ref 0, .int x1, .null, .null, .null], [.int (30 : Int32), .int (0 : Int32), .int x1], σ)) (P := []) rfl trivial ?_
  obtain ⟨v3, σ1, e2, h⟩ := h
  refine mm_cl_ (rest := []) e2 ⟨_, _, _, rfl, rfl, mm_tb_X10_isBetween, rfl, rfl, Nat.le_of_ble_eq_true rfl, Nat.le_of_ble_eq_true rfl, trivial⟩ ?_
  refine mm_blk (M := mm_m_X10_fewest) 1 (S' := ((if ¬ v3 = (0 : Int32) then 12 else 10), [.ref 0, .int x1, .null, .null, .null], [], σ1)) (P := []) rfl trivial ?_
  by_cases b4 : ¬ v3 = (0 : Int32)
  · rw [if_pos b4]
    have h := h.1 b4
    refine mm_blk (M := mm_m_X10_fewest) 2 (S' := (14, [.ref 0, .int x1, .null, .null, .null], [.int x1, .ref 0], σ1)) (P := []) rfl trivial ?_
    obtain ⟨σ5, e6, h⟩ := h
    refine mm_cl_ (rest := []) e6 ⟨_, _, _, rfl, rfl, mm_tb_X10_thinkDaysOn, rfl, rfl, Nat.le_of_ble_eq_true rfl, Nat.le_of_ble_eq_true rfl, ⟨_, rfl, rfl⟩⟩ ?_
    refine mm_blk (M := mm_m_X10_fewest) 2 (S' := (21, [.ref 0, .int x1, .null, .null, .null], [.ref 24], σ5)) (P := [mm_cl 0 = 10]) rfl ⟨rfl, trivial⟩ ?_
    obtain ⟨v9, σ7, e8, h⟩ := h
    refine mm_cl_ (rest := []) e8 ⟨_, _, _, rfl, rfl, mm_tb_X1_owedInAll, rfl, rfl, Nat.le_of_ble_eq_true rfl, Nat.le_of_ble_eq_true rfl, ⟨_, rfl, rfl⟩⟩ ?_
    refine mm_blk (M := mm_m_X10_fewest) 3 (S' := (27, [.ref 0, .int x1, .int v9, .int (0 : Int32), .null], [], σ7)) (P := []) rfl trivial ?_
    exact h
  · rw [if_neg b4]
    have h := h.2 b4
    refine mm_blk (M := mm_m_X10_fewest) 1 (S' := (11, [.ref 0, .int x1, .null, .null, .null], [.int (-1 : Int32)], σ1)) (P := []) rfl trivial ?_
    subst h
    exact mm_rt_ ⟨_, _, _, rfl, ⟨_, _, rfl, rfl, rfl, rfl⟩⟩
theorem sg_X10_fewest_27 (σ : mm_Sg) (x1 : Int32) (x2 : Int32) (x3 : Int32) (d4 : Value) (R : Option Value × mm_Sg) (h : ((((5 : Int32) ≤ x3 → (R = (some (.int (31 : Int32)), σ))) ∧ (¬ ((5 : Int32) ≤ x3) → mm_Go mm_m_X10_fewest (35, [.ref 0, .int x1, .int x2, .int x3, .int (0 : Int32)], [], σ) R)))) : mm_Go mm_m_X10_fewest (27, [.ref 0, .int x1, .int x2, .int x3, d4], [], σ) R := by
  refine mm_blk (M := mm_m_X10_fewest) 3 (S' := ((if (5 : Int32) ≤ x3 then 77 else 32), [.ref 0, .int x1, .int x2, .int x3, d4], [], σ)) (P := []) rfl trivial ?_
  by_cases b1 : (5 : Int32) ≤ x3
  · rw [if_pos b1]
    have h := h.1 b1
    refine mm_blk (M := mm_m_X10_fewest) 1 (S' := (79, [.ref 0, .int x1, .int x2, .int x3, d4], [.int (31 : Int32)], σ)) (P := []) rfl trivial ?_
    subst h
    exact mm_rt_ ⟨_, _, _, rfl, ⟨_, _, rfl, rfl, rfl, rfl⟩⟩
  · rw [if_neg b1]
    have h := h.2 b1
    refine mm_blk (M := mm_m_X10_fewest) 2 (S' := (35, [.ref 0, .int x1, .int x2, .int x3, .int (0 : Int32)], [], σ)) (P := []) rfl trivial ?_
    exact h
theorem sg_X10_fewest_35 (σ : mm_Sg) (x1 : Int32) (x2 : Int32) (x3 : Int32) (x4 : Int32) (R : Option Value × mm_Sg) (h : ((((32 : Int32) ≤ x4 → mm_Go mm_m_X10_fewest (27, [.ref 0, .int x1, .int x2, .int (x3 + (1 : Int32)), .int x4], [], σ) R) ∧ (¬ ((32 : Int32) ≤ x4) → (∃ (v4 : Int32) (σ2 : mm_Sg), mm_Ev mm_m_J6_bitCount_0f7a4 [.int x4] σ (some (.int v4)) σ2 ∧ (((¬ v4 = x3 → mm_Go mm_m_X10_fewest (35, [.ref 0, .int x1, .int x2, .int x3, .int (x4 + (1 : Int32))], [], σ2) R) ∧ (¬ (¬ v4 = x3) → (∃ (v8 : Int32) (σ6 : mm_Sg), mm_Ev mm_m_X10_owedBehindKeeping [.ref 0, .int x4, .int x1] σ2 (some (.int v8)) σ6 ∧ (((x2 < v8 → mm_Go mm_m_X10_fewest (35, [.ref 0, .int x1, .int x2, .int x3, .int (x4 + (1 : Int32))], [], σ6) R) ∧ (¬ (x2 < v8) → (R = (some (.int x4), σ6)))))))))))))) : mm_Go mm_m_X10_fewest (35, [.ref 0, .int x1, .int x2, .int x3, .int x4], [], σ) R := by
  refine mm_blk (M := mm_m_X10_fewest) 3 (S' := ((if (32 : Int32) ≤ x4 then 71 else 42), [.ref 0, .int x1, .int x2, .int x3, .int x4], [], σ)) (P := []) rfl trivial ?_
  by_cases b1 : (32 : Int32) ≤ x4
  · rw [if_pos b1]
    have h := h.1 b1
    refine mm_blk (M := mm_m_X10_fewest) 2 (S' := (27, [.ref 0, .int x1, .int x2, .int (x3 + (1 : Int32)), .int x4], [], σ)) (P := []) rfl trivial ?_
    exact h
  · rw [if_neg b1]
    have h := h.2 b1
    refine mm_blk (M := mm_m_X10_fewest) 1 (S' := (44, [.ref 0, .int x1, .int x2, .int x3, .int x4], [.int x4], σ)) (P := []) rfl trivial ?_
    obtain ⟨v4, σ2, e3, h⟩ := h
    refine mm_cl_ (rest := []) e3 ⟨_, _, _, rfl, rfl, mm_tb_J6_bitCount_0f7a4, rfl, rfl, Nat.le_of_ble_eq_true rfl, Nat.le_of_ble_eq_true rfl, trivial⟩ ?_
    refine mm_blk (M := mm_m_X10_fewest) 2 (S' := ((if ¬ v4 = x3 then 65 else 51), [.ref 0, .int x1, .int x2, .int x3, .int x4], [], σ2)) (P := []) rfl trivial ?_
    by_cases b5 : ¬ v4 = x3
    · rw [if_pos b5]
      have h := h.1 b5
      refine mm_blk (M := mm_m_X10_fewest) 2 (S' := (35, [.ref 0, .int x1, .int x2, .int x3, .int (x4 + (1 : Int32))], [], σ2)) (P := []) rfl trivial ?_
      exact h
    · rw [if_neg b5]
      have h := h.2 b5
      refine mm_blk (M := mm_m_X10_fewest) 3 (S' := (55, [.ref 0, .int x1, .int x2, .int x3, .int x4], [.int x1, .int x4, .ref 0], σ2)) (P := []) rfl trivial ?_
      obtain ⟨v8, σ6, e7, h⟩ := h
      refine mm_cl_ (rest := []) e7 ⟨_, _, _, rfl, rfl, mm_tb_X10_owedBehindKeeping, rfl, rfl, Nat.le_of_ble_eq_true rfl, Nat.le_of_ble_eq_true rfl, ⟨_, rfl, rfl⟩⟩ ?_
      refine mm_blk (M := mm_m_X10_fewest) 2 (S' := ((if x2 < v8 then 65 else 62), [.ref 0, .int x1, .int x2, .int x3, .int x4], [], σ6)) (P := []) rfl trivial ?_
      by_cases b9 : x2 < v8
      · rw [if_pos b9]
        have h := h.1 b9
        refine mm_blk (M := mm_m_X10_fewest) 2 (S' := (35, [.ref 0, .int x1, .int x2, .int x3, .int (x4 + (1 : Int32))], [], σ6)) (P := []) rfl trivial ?_
        exact h
      · rw [if_neg b9]
        have h := h.2 b9
        refine mm_blk (M := mm_m_X10_fewest) 1 (S' := (64, [.ref 0, .int x1, .int x2, .int x3, .int x4], [.int x4], σ6)) (P := []) rfl trivial ?_
        subst h
        exact mm_rt_ ⟨_, _, _, rfl, ⟨_, _, rfl, rfl, rfl, rfl⟩⟩
theorem sg_X10_store_0 (σ : mm_Sg) (x1 : Int32) (R : Option Value × mm_Sg) (h : (∃ (v3 : Int32) (σ1 : mm_Sg), mm_Ev mm_m_X10_isBetween [.int x1, .int (0 : Int32), .int (60 : Int32)] σ (some (.int v3)) σ1 ∧ (((¬ v3 = (0 : Int32) → mm_Go mm_m_X10_store (16, [.ref 0, .int x1, .int (0 : Int32), .int (1 : Int32)], [], σ1) R) ∧ (¬ (¬ v3 = (0 : Int32)) → (R = (some (.int (-1 : Int32)), σ1))))))) : mm_Go mm_m_X10_store (0, [.ref 0, .int x1, .null, .null], [], σ) R := by
  refine mm_blk (M := mm_m_X10_store) 3 (S' := (4, [.ref 0, .int x1, .null, .null], [.int (60 : Int32), .int (0 : Int32), .int x1], σ)) (P := []) rfl trivial ?_
  obtain ⟨v3, σ1, e2, h⟩ := h
  refine mm_cl_ (rest := []) e2 ⟨_, _, _, rfl, rfl, mm_tb_X10_isBetween, rfl, rfl, Nat.le_of_ble_eq_true rfl, Nat.le_of_ble_eq_true rfl, trivial⟩ ?_
  refine mm_blk (M := mm_m_X10_store) 1 (S' := ((if ¬ v3 = (0 : Int32) then 12 else 10), [.ref 0, .int x1, .null, .null], [], σ1)) (P := []) rfl trivial ?_
  by_cases b4 : ¬ v3 = (0 : Int32)
  · rw [if_pos b4]
    have h := h.1 b4
    refine mm_blk (M := mm_m_X10_store) 4 (S' := (16, [.ref 0, .int x1, .int (0 : Int32), .int (1 : Int32)], [], σ1)) (P := []) rfl trivial ?_
    exact h
  · rw [if_neg b4]
    have h := h.2 b4
    refine mm_blk (M := mm_m_X10_store) 1 (S' := (11, [.ref 0, .int x1, .null, .null], [.int (-1 : Int32)], σ1)) (P := []) rfl trivial ?_
    subst h
    exact mm_rt_ ⟨_, _, _, rfl, ⟨_, _, rfl, rfl, rfl, rfl⟩⟩
theorem sg_X10_store_16 (σ : mm_Sg) (x1 : Int32) (x2 : Int32) (x3 : Int32) (R : Option Value × mm_Sg) (h : (((x1 < x3 → ((((999 : Int32) < (x2 + (1 : Int32)) → (R = (some (.int (-4 : Int32)), σ))) ∧ (¬ ((999 : Int32) < (x2 + (1 : Int32))) → (R = (some (.int (x2 + (1 : Int32))), σ)))))) ∧ (¬ (x1 < x3) → (∃ (v5 : Int32) (σ3 : mm_Sg), mm_Ev mm_m_X1_thirstOfAll [.ref 10, .int ((σ 10 9) + x3)] σ (some (.int v5)) σ3 ∧ mm_Go mm_m_X10_store (16, [.ref 0, .int x1, .int (x2 + v5), .int (x3 + (1 : Int32))], [], σ3) R))))) : mm_Go mm_m_X10_store (16, [.ref 0, .int x1, .int x2, .int x3], [], σ) R := by
  refine mm_blk (M := mm_m_X10_store) 3 (S' := ((if x1 < x3 then 46 else 21), [.ref 0, .int x1, .int x2, .int x3], [], σ)) (P := []) rfl trivial ?_
  by_cases b1 : x1 < x3
  · rw [if_pos b1]
    have h := h.1 b1
    refine mm_blk (M := mm_m_X10_store) 5 (S' := ((if (999 : Int32) < (x2 + (1 : Int32)) then 61 else 55), [.ref 0, .int x1, .int x2, .int x3], [], σ)) (P := []) rfl trivial ?_
    by_cases b2 : (999 : Int32) < (x2 + (1 : Int32))
    · rw [if_pos b2]
      have h := h.1 b2
      refine mm_blk (M := mm_m_X10_store) 1 (S' := (63, [.ref 0, .int x1, .int x2, .int x3], [.int (-4 : Int32)], σ)) (P := []) rfl trivial ?_
      subst h
      exact mm_rt_ ⟨_, _, _, rfl, ⟨_, _, rfl, rfl, rfl, rfl⟩⟩
    · rw [if_neg b2]
      have h := h.2 b2
      refine mm_blk (M := mm_m_X10_store) 4 (S' := (63, [.ref 0, .int x1, .int x2, .int x3], [.int (x2 + (1 : Int32))], σ)) (P := []) rfl trivial ?_
      subst h
      exact mm_rt_ ⟨_, _, _, rfl, ⟨_, _, rfl, rfl, rfl, rfl⟩⟩
  · rw [if_neg b1]
    have h := h.2 b1
    refine mm_blk (M := mm_m_X10_store) 8 (S' := (35, [.ref 0, .int x1, .int x2, .int x3], [.int ((σ 10 9) + x3), .ref 10, .int x2], σ)) (P := [mm_cl 0 = 10, mm_cl 0 = 10, mm_cl 10 = 1]) rfl ⟨rfl, rfl, rfl, trivial⟩ ?_
    obtain ⟨v5, σ3, e4, h⟩ := h
    refine mm_cl_ (rest := [.int x2]) e4 ⟨_, _, _, rfl, rfl, mm_tb_X1_thirstOfAll, rfl, rfl, Nat.le_of_ble_eq_true rfl, Nat.le_of_ble_eq_true rfl, ⟨_, rfl, rfl⟩⟩ ?_
    refine mm_blk (M := mm_m_X10_store) 4 (S' := (16, [.ref 0, .int x1, .int (x2 + v5), .int (x3 + (1 : Int32))], [], σ3)) (P := []) rfl trivial ?_
    exact h
theorem sg_X10_heaviest_0 (σ : mm_Sg) (x1 : Int32) (R : Option Value × mm_Sg) (h : (((x1 = nI 0 → (∃ (v4 : Int32) (σ2 : mm_Sg), mm_Ev mm_m_X1_heaviestWaker [.ref 10] σ (some (.int v4)) σ2 ∧ (R = (some (.int v4), σ2)))) ∧ (¬ (x1 = nI 0) → ((x1 = nI 1 → (∃ (v8 : Int32) (σ6 : mm_Sg), mm_Ev mm_m_X1_heaviestWaker [.ref 10] σ (some (.int v8)) σ6 ∧ (∃ (v11 : Int32) (σ9 : mm_Sg), mm_Ev mm_m_X1_drinkersOf [.ref 10, .int v8] σ6 (some (.int v11)) σ9 ∧ (R = (some (.int v11), σ9))))) ∧ (¬ (x1 = nI 1) → ((x1 = nI 2 → (∃ (v15 : Int32) (σ13 : mm_Sg), mm_Ev mm_m_X1_deepestDrinker [.ref 10] σ (some (.int v15)) σ13 ∧ (R = (some (.int v15), σ13)))) ∧ (¬ (x1 = nI 2) → ((x1 = nI 3 → (∃ (v19 : Int32) (σ17 : mm_Sg), mm_Ev mm_m_X1_aloneBits [.ref 10] σ (some (.int v19)) σ17 ∧ (R = (some (.int v19), σ17)))) ∧ (¬ (x1 = nI 3) → (R = (some (.int (-1 : Int32)), σ)))))))))))) : mm_Go mm_m_X10_heaviest (0, [.ref 0, .int x1], [], σ) R := by
  refine mm_blk (M := mm_m_X10_heaviest) 2 (S' := ((mm_tsw x1 71 0 [32, 40, 55, 63]), [.ref 0, .int x1], [], σ)) (P := []) rfl trivial ?_
  by_cases b1 : x1 = nI 0
  · rw [show mm_tsw x1 71 0 [32, 40, 55, 63] = 32 from mm_tsw_t b1]
    have h := h.1 b1
    refine mm_blk (M := mm_m_X10_heaviest) 2 (S' := (36, [.ref 0, .int x1], [.ref 10], σ)) (P := [mm_cl 0 = 10]) rfl ⟨rfl, trivial⟩ ?_
    obtain ⟨v4, σ2, e3, h⟩ := h
    refine mm_cl_ (rest := []) e3 ⟨_, _, _, rfl, rfl, mm_tb_X1_heaviestWaker, rfl, rfl, Nat.le_of_ble_eq_true rfl, Nat.le_of_ble_eq_true rfl, ⟨_, rfl, rfl⟩⟩ ?_
    subst h
    exact mm_rt_ ⟨_, _, _, rfl, ⟨_, _, rfl, rfl, rfl, rfl⟩⟩
  rw [show mm_tsw x1 71 0 [32, 40, 55, 63] = mm_tsw x1 71 1 [40, 55, 63] from mm_tsw_f b1]
  have h := h.2 b1
  by_cases b5 : x1 = nI 1
  · rw [show mm_tsw x1 71 1 [40, 55, 63] = 40 from mm_tsw_t b5]
    have h := h.1 b5
    refine mm_blk (M := mm_m_X10_heaviest) 4 (S' := (48, [.ref 0, .int x1], [.ref 10, .ref 10], σ)) (P := [mm_cl 0 = 10, mm_cl 0 = 10]) rfl ⟨rfl, rfl, trivial⟩ ?_
    obtain ⟨v8, σ6, e7, h⟩ := h
    refine mm_cl_ (rest := [.ref 10]) e7 ⟨_, _, _, rfl, rfl, mm_tb_X1_heaviestWaker, rfl, rfl, Nat.le_of_ble_eq_true rfl, Nat.le_of_ble_eq_true rfl, ⟨_, rfl, rfl⟩⟩ ?_
    obtain ⟨v11, σ9, e10, h⟩ := h
    refine mm_cl_ (rest := []) e10 ⟨_, _, _, rfl, rfl, mm_tb_X1_drinkersOf, rfl, rfl, Nat.le_of_ble_eq_true rfl, Nat.le_of_ble_eq_true rfl, ⟨_, rfl, rfl⟩⟩ ?_
    subst h
    exact mm_rt_ ⟨_, _, _, rfl, ⟨_, _, rfl, rfl, rfl, rfl⟩⟩
  rw [show mm_tsw x1 71 1 [40, 55, 63] = mm_tsw x1 71 2 [55, 63] from mm_tsw_f b5]
  have h := h.2 b5
  by_cases b12 : x1 = nI 2
  · rw [show mm_tsw x1 71 2 [55, 63] = 55 from mm_tsw_t b12]
    have h := h.1 b12
    refine mm_blk (M := mm_m_X10_heaviest) 2 (S' := (59, [.ref 0, .int x1], [.ref 10], σ)) (P := [mm_cl 0 = 10]) rfl ⟨rfl, trivial⟩ ?_
    obtain ⟨v15, σ13, e14, h⟩ := h
    refine mm_cl_ (rest := []) e14 ⟨_, _, _, rfl, rfl, mm_tb_X1_deepestDrinker, rfl, rfl, Nat.le_of_ble_eq_true rfl, Nat.le_of_ble_eq_true rfl, ⟨_, rfl, rfl⟩⟩ ?_
    subst h
    exact mm_rt_ ⟨_, _, _, rfl, ⟨_, _, rfl, rfl, rfl, rfl⟩⟩
  rw [show mm_tsw x1 71 2 [55, 63] = mm_tsw x1 71 3 [63] from mm_tsw_f b12]
  have h := h.2 b12
  by_cases b16 : x1 = nI 3
  · rw [show mm_tsw x1 71 3 [63] = 63 from mm_tsw_t b16]
    have h := h.1 b16
    refine mm_blk (M := mm_m_X10_heaviest) 2 (S' := (67, [.ref 0, .int x1], [.ref 10], σ)) (P := [mm_cl 0 = 10]) rfl ⟨rfl, trivial⟩ ?_
    obtain ⟨v19, σ17, e18, h⟩ := h
    refine mm_cl_ (rest := []) e18 ⟨_, _, _, rfl, rfl, mm_tb_X1_aloneBits, rfl, rfl, Nat.le_of_ble_eq_true rfl, Nat.le_of_ble_eq_true rfl, ⟨_, rfl, rfl⟩⟩ ?_
    subst h
    exact mm_rt_ ⟨_, _, _, rfl, ⟨_, _, rfl, rfl, rfl, rfl⟩⟩
  rw [show mm_tsw x1 71 3 [63] = mm_tsw x1 71 4 [] from mm_tsw_f b16]
  have h := h.2 b16
  change mm_Go mm_m_X10_heaviest (71, [.ref 0, .int x1], [], σ) R
  refine mm_blk (M := mm_m_X10_heaviest) 1 (S' := (72, [.ref 0, .int x1], [.int (-1 : Int32)], σ)) (P := []) rfl trivial ?_
  subst h
  exact mm_rt_ ⟨_, _, _, rfl, ⟨_, _, rfl, rfl, rfl, rfl⟩⟩
theorem sg_X10_rest_0 (σ : mm_Sg) (x1 : Int32) (x2 : Int32) (R : Option Value × mm_Sg) (h : (∃ (v3 : Int32) (σ1 : mm_Sg), mm_Ev mm_m_X10_isBetween [.int x1, .int (1 : Int32), .int (30 : Int32)] σ (some (.int v3)) σ1 ∧ (((v3 = (0 : Int32) → (R = (some (.int (-1 : Int32)), σ1))) ∧ (¬ (v3 = (0 : Int32)) → (∃ (v7 : Int32) (σ5 : mm_Sg), mm_Ev mm_m_X10_isBetween [.int x2, .int (0 : Int32), .int (1 : Int32)] σ1 (some (.int v7)) σ5 ∧ (((¬ v7 = (0 : Int32) → (∃ (v11 : Int32) (σ9 : mm_Sg), mm_Ev mm_m_X10_owedBehindWithout [.ref 0, .int (0 : Int32), .int x1] σ5 (some (.int v11)) σ9 ∧ mm_Go mm_m_X10_rest (34, [.ref 0, .int x1, .int x2, .int (0 : Int32), .int v11, .int (1 : Int32), .null], [], σ9) R)) ∧ (¬ (¬ v7 = (0 : Int32)) → (R = (some (.int (-1 : Int32)), σ5))))))))))) : mm_Go mm_m_X10_rest (0, [.ref 0, .int x1, .int x2, .null, .null, .null, .null], [], σ) R := by
  refine mm_blk (M := mm_m_X10_rest) 3 (S' := (4, [.ref 0, .int x1, .int x2, .null, .null, .null, .null], [.int (30 : Int32), .int (1 : Int32), .int x1], σ)) (P := []) rfl trivial ?_
  obtain ⟨v3, σ1, e2, h⟩ := h
  refine mm_cl_ (rest := []) e2 ⟨_, _, _, rfl, rfl, mm_tb_X10_isBetween, rfl, rfl, Nat.le_of_ble_eq_true rfl, Nat.le_of_ble_eq_true rfl, trivial⟩ ?_
  refine mm_blk (M := mm_m_X10_rest) 1 (S' := ((if v3 = (0 : Int32) then 19 else 10), [.ref 0, .int x1, .int x2, .null, .null, .null, .null], [], σ1)) (P := []) rfl trivial ?_
  by_cases b4 : v3 = (0 : Int32)
  · rw [if_pos b4]
    have h := h.1 b4
    refine mm_blk (M := mm_m_X10_rest) 1 (S' := (20, [.ref 0, .int x1, .int x2, .null, .null, .null, .null], [.int (-1 : Int32)], σ1)) (P := []) rfl trivial ?_
    subst h
    exact mm_rt_ ⟨_, _, _, rfl, ⟨_, _, rfl, rfl, rfl, rfl⟩⟩
  · rw [if_neg b4]
    have h := h.2 b4
    refine mm_blk (M := mm_m_X10_rest) 3 (S' := (13, [.ref 0, .int x1, .int x2, .null, .null, .null, .null], [.int (1 : Int32), .int (0 : Int32), .int x2], σ1)) (P := []) rfl trivial ?_
    obtain ⟨v7, σ5, e6, h⟩ := h
    refine mm_cl_ (rest := []) e6 ⟨_, _, _, rfl, rfl, mm_tb_X10_isBetween, rfl, rfl, Nat.le_of_ble_eq_true rfl, Nat.le_of_ble_eq_true rfl, trivial⟩ ?_
    refine mm_blk (M := mm_m_X10_rest) 1 (S' := ((if ¬ v7 = (0 : Int32) then 21 else 19), [.ref 0, .int x1, .int x2, .null, .null, .null, .null], [], σ5)) (P := []) rfl trivial ?_
    by_cases b8 : ¬ v7 = (0 : Int32)
    · rw [if_pos b8]
      have h := h.1 b8
      refine mm_blk (M := mm_m_X10_rest) 5 (S' := (26, [.ref 0, .int x1, .int x2, .int (0 : Int32), .null, .null, .null], [.int x1, .int (0 : Int32), .ref 0], σ5)) (P := []) rfl trivial ?_
      obtain ⟨v11, σ9, e10, h⟩ := h
      refine mm_cl_ (rest := []) e10 ⟨_, _, _, rfl, rfl, mm_tb_X10_owedBehindWithout, rfl, rfl, Nat.le_of_ble_eq_true rfl, Nat.le_of_ble_eq_true rfl, ⟨_, rfl, rfl⟩⟩ ?_
      refine mm_blk (M := mm_m_X10_rest) 3 (S' := (34, [.ref 0, .int x1, .int x2, .int (0 : Int32), .int v11, .int (1 : Int32), .null], [], σ9)) (P := []) rfl trivial ?_
      exact h
    · rw [if_neg b8]
      have h := h.2 b8
      refine mm_blk (M := mm_m_X10_rest) 1 (S' := (20, [.ref 0, .int x1, .int x2, .null, .null, .null, .null], [.int (-1 : Int32)], σ5)) (P := []) rfl trivial ?_
      subst h
      exact mm_rt_ ⟨_, _, _, rfl, ⟨_, _, rfl, rfl, rfl, rfl⟩⟩
theorem sg_X10_rest_34 (σ : mm_Sg) (x1 : Int32) (x2 : Int32) (x3 : Int32) (x4 : Int32) (x5 : Int32) (d6 : Value) (R : Option Value × mm_Sg) (h : ((((5 : Int32) ≤ x5 → (((¬ x2 = (0 : Int32) → (R = (some (.int x4), σ))) ∧ (¬ (¬ x2 = (0 : Int32)) → (R = (some (.int x3), σ)))))) ∧ (¬ ((5 : Int32) ≤ x5) → (∃ (v5 : Int32) (σ3 : mm_Sg), mm_Ev mm_m_X10_owedBehindWithout [.ref 0, .int x5, .int x1] σ (some (.int v5)) σ3 ∧ (((x4 ≤ v5 → mm_Go mm_m_X10_rest (34, [.ref 0, .int x1, .int x2, .int x3, .int x4, .int (x5 + (1 : Int32)), .int v5], [], σ3) R) ∧ (¬ (x4 ≤ v5) → mm_Go mm_m_X10_rest (34, [.ref 0, .int x1, .int x2, .int x5, .int v5, .int (x5 + (1 : Int32)), .int v5], [], σ3) R)))))))) : mm_Go mm_m_X10_rest (34, [.ref 0, .int x1, .int x2, .int x3, .int x4, .int x5, d6], [], σ) R := by
  refine mm_blk (M := mm_m_X10_rest) 3 (S' := ((if (5 : Int32) ≤ x5 then 69 else 40), [.ref 0, .int x1, .int x2, .int x3, .int x4, .int x5, d6], [], σ)) (P := []) rfl trivial ?_
  by_cases b1 : (5 : Int32) ≤ x5
  · rw [if_pos b1]
    have h := h.1 b1
    refine mm_blk (M := mm_m_X10_rest) 2 (S' := ((if ¬ x2 = (0 : Int32) then 77 else 73), [.ref 0, .int x1, .int x2, .int x3, .int x4, .int x5, d6], [], σ)) (P := []) rfl trivial ?_
    by_cases b2 : ¬ x2 = (0 : Int32)
    · rw [if_pos b2]
      have h := h.1 b2
      refine mm_blk (M := mm_m_X10_rest) 1 (S' := (79, [.ref 0, .int x1, .int x2, .int x3, .int x4, .int x5, d6], [.int x4], σ)) (P := []) rfl trivial ?_
      subst h
      exact mm_rt_ ⟨_, _, _, rfl, ⟨_, _, rfl, rfl, rfl, rfl⟩⟩
    · rw [if_neg b2]
      have h := h.2 b2
      refine mm_blk (M := mm_m_X10_rest) 2 (S' := (79, [.ref 0, .int x1, .int x2, .int x3, .int x4, .int x5, d6], [.int x3], σ)) (P := []) rfl trivial ?_
      subst h
      exact mm_rt_ ⟨_, _, _, rfl, ⟨_, _, rfl, rfl, rfl, rfl⟩⟩
  · rw [if_neg b1]
    have h := h.2 b1
    refine mm_blk (M := mm_m_X10_rest) 3 (S' := (44, [.ref 0, .int x1, .int x2, .int x3, .int x4, .int x5, d6], [.int x1, .int x5, .ref 0], σ)) (P := []) rfl trivial ?_
    obtain ⟨v5, σ3, e4, h⟩ := h
    refine mm_cl_ (rest := []) e4 ⟨_, _, _, rfl, rfl, mm_tb_X10_owedBehindWithout, rfl, rfl, Nat.le_of_ble_eq_true rfl, Nat.le_of_ble_eq_true rfl, ⟨_, rfl, rfl⟩⟩ ?_
    refine mm_blk (M := mm_m_X10_rest) 4 (S' := ((if x4 ≤ v5 then 63 else 56), [.ref 0, .int x1, .int x2, .int x3, .int x4, .int x5, .int v5], [], σ3)) (P := []) rfl trivial ?_
    by_cases b6 : x4 ≤ v5
    · rw [if_pos b6]
      have h := h.1 b6
      refine mm_blk (M := mm_m_X10_rest) 2 (S' := (34, [.ref 0, .int x1, .int x2, .int x3, .int x4, .int (x5 + (1 : Int32)), .int v5], [], σ3)) (P := []) rfl trivial ?_
      exact h
    · rw [if_neg b6]
      have h := h.2 b6
      refine mm_blk (M := mm_m_X10_rest) 6 (S' := (34, [.ref 0, .int x1, .int x2, .int x5, .int v5, .int (x5 + (1 : Int32)), .int v5], [], σ3)) (P := []) rfl trivial ?_
      exact h
theorem sg_X10_whatIs_0 (σ : mm_Sg) (x1 : Int32) (x2 : Int32) (x3 : Int32) (R : Option Value × mm_Sg) (h : (∃ (v3 : Int32) (σ1 : mm_Sg), mm_Ev mm_m_X10_isShelf [.int x1] σ (some (.int v3)) σ1 ∧ (((v3 = (0 : Int32) → (R = (some (.int (-1 : Int32)), σ1))) ∧ (¬ (v3 = (0 : Int32)) → (∃ (v7 : Int32) (σ5 : mm_Sg), mm_Ev mm_m_X1_has [.ref 10, .int x2] σ1 (some (.int v7)) σ5 ∧ (((v7 = (0 : Int32) → (R = (some (.int (-1 : Int32)), σ5))) ∧ (¬ (v7 = (0 : Int32)) → (∃ (v11 : Int32) (σ9 : mm_Sg), mm_Ev mm_m_X10_isBetween [.int x3, .int (0 : Int32), .int (1 : Int32)] σ5 (some (.int v11)) σ9 ∧ (((¬ v11 = (0 : Int32) → (∃ (v15 : Int32) (σ13 : mm_Sg), mm_Ev mm_m_X10_refusalUnless [.ref 0, .int (2 : Int32), .int x1] σ9 (some (.int v15)) σ13 ∧ (((v15 = (0 : Int32) → (((¬ x3 = (0 : Int32) → mm_Go mm_m_X10_whatIs (64, [.ref 0, .int x1, .int x2, .int x3, .int v15, .int (0 : Int32), .int (10 : Int32), .int (0 : Int32)], [], σ13) R) ∧ (¬ (¬ x3 = (0 : Int32)) → mm_Go mm_m_X10_whatIs (64, [.ref 0, .int x1, .int x2, .int x3, .int v15, .int (0 : Int32), .int (8 : Int32), .int (0 : Int32)], [], σ13) R)))) ∧ (¬ (v15 = (0 : Int32)) → (R = (some (.int v15), σ13))))))) ∧ (¬ (¬ v11 = (0 : Int32)) → (R = (some (.int (-1 : Int32)), σ9))))))))))))))) : mm_Go mm_m_X10_whatIs (0, [.ref 0, .int x1, .int x2, .int x3, .null, .null, .null, .null], [], σ) R := by
  refine mm_blk (M := mm_m_X10_whatIs) 1 (S' := (1, [.ref 0, .int x1, .int x2, .int x3, .null, .null, .null, .null], [.int x1], σ)) (P := []) rfl trivial ?_
  obtain ⟨v3, σ1, e2, h⟩ := h
  refine mm_cl_ (rest := []) e2 ⟨_, _, _, rfl, rfl, mm_tb_X10_isShelf, rfl, rfl, Nat.le_of_ble_eq_true rfl, Nat.le_of_ble_eq_true rfl, trivial⟩ ?_
  refine mm_blk (M := mm_m_X10_whatIs) 1 (S' := ((if v3 = (0 : Int32) then 27 else 7), [.ref 0, .int x1, .int x2, .int x3, .null, .null, .null, .null], [], σ1)) (P := []) rfl trivial ?_
  by_cases b4 : v3 = (0 : Int32)
  · rw [if_pos b4]
    have h := h.1 b4
    refine mm_blk (M := mm_m_X10_whatIs) 1 (S' := (28, [.ref 0, .int x1, .int x2, .int x3, .null, .null, .null, .null], [.int (-1 : Int32)], σ1)) (P := []) rfl trivial ?_
    subst h
    exact mm_rt_ ⟨_, _, _, rfl, ⟨_, _, rfl, rfl, rfl, rfl⟩⟩
  · rw [if_neg b4]
    have h := h.2 b4
    refine mm_blk (M := mm_m_X10_whatIs) 3 (S' := (12, [.ref 0, .int x1, .int x2, .int x3, .null, .null, .null, .null], [.int x2, .ref 10], σ1)) (P := [mm_cl 0 = 10]) rfl ⟨rfl, trivial⟩ ?_
    obtain ⟨v7, σ5, e6, h⟩ := h
    refine mm_cl_ (rest := []) e6 ⟨_, _, _, rfl, rfl, mm_tb_X1_has, rfl, rfl, Nat.le_of_ble_eq_true rfl, Nat.le_of_ble_eq_true rfl, ⟨_, rfl, rfl⟩⟩ ?_
    refine mm_blk (M := mm_m_X10_whatIs) 1 (S' := ((if v7 = (0 : Int32) then 27 else 18), [.ref 0, .int x1, .int x2, .int x3, .null, .null, .null, .null], [], σ5)) (P := []) rfl trivial ?_
    by_cases b8 : v7 = (0 : Int32)
    · rw [if_pos b8]
      have h := h.1 b8
      refine mm_blk (M := mm_m_X10_whatIs) 1 (S' := (28, [.ref 0, .int x1, .int x2, .int x3, .null, .null, .null, .null], [.int (-1 : Int32)], σ5)) (P := []) rfl trivial ?_
      subst h
      exact mm_rt_ ⟨_, _, _, rfl, ⟨_, _, rfl, rfl, rfl, rfl⟩⟩
    · rw [if_neg b8]
      have h := h.2 b8
      refine mm_blk (M := mm_m_X10_whatIs) 3 (S' := (21, [.ref 0, .int x1, .int x2, .int x3, .null, .null, .null, .null], [.int (1 : Int32), .int (0 : Int32), .int x3], σ5)) (P := []) rfl trivial ?_
      obtain ⟨v11, σ9, e10, h⟩ := h
      refine mm_cl_ (rest := []) e10 ⟨_, _, _, rfl, rfl, mm_tb_X10_isBetween, rfl, rfl, Nat.le_of_ble_eq_true rfl, Nat.le_of_ble_eq_true rfl, trivial⟩ ?_
      refine mm_blk (M := mm_m_X10_whatIs) 1 (S' := ((if ¬ v11 = (0 : Int32) then 29 else 27), [.ref 0, .int x1, .int x2, .int x3, .null, .null, .null, .null], [], σ9)) (P := []) rfl trivial ?_
      by_cases b12 : ¬ v11 = (0 : Int32)
      · rw [if_pos b12]
        have h := h.1 b12
        refine mm_blk (M := mm_m_X10_whatIs) 3 (S' := (32, [.ref 0, .int x1, .int x2, .int x3, .null, .null, .null, .null], [.int x1, .int (2 : Int32), .ref 0], σ9)) (P := []) rfl trivial ?_
        obtain ⟨v15, σ13, e14, h⟩ := h
        refine mm_cl_ (rest := []) e14 ⟨_, _, _, rfl, rfl, mm_tb_X10_refusalUnless, rfl, rfl, Nat.le_of_ble_eq_true rfl, Nat.le_of_ble_eq_true rfl, ⟨_, rfl, rfl⟩⟩ ?_
        refine mm_blk (M := mm_m_X10_whatIs) 3 (S' := ((if v15 = (0 : Int32) then 45 else 42), [.ref 0, .int x1, .int x2, .int x3, .int v15, .null, .null, .null], [], σ13)) (P := []) rfl trivial ?_
        by_cases b16 : v15 = (0 : Int32)
        · rw [if_pos b16]
          have h := h.1 b16
          refine mm_blk (M := mm_m_X10_whatIs) 4 (S' := ((if ¬ x3 = (0 : Int32) then 57 else 52), [.ref 0, .int x1, .int x2, .int x3, .int v15, .int (0 : Int32), .null, .null], [], σ13)) (P := []) rfl trivial ?_
          by_cases b17 : ¬ x3 = (0 : Int32)
          · rw [if_pos b17]
            have h := h.1 b17
            refine mm_blk (M := mm_m_X10_whatIs) 4 (S' := (64, [.ref 0, .int x1, .int x2, .int x3, .int v15, .int (0 : Int32), .int (10 : Int32), .int (0 : Int32)], [], σ13)) (P := []) rfl trivial ?_
            exact h
          · rw [if_neg b17]
            have h := h.2 b17
            refine mm_blk (M := mm_m_X10_whatIs) 5 (S' := (64, [.ref 0, .int x1, .int x2, .int x3, .int v15, .int (0 : Int32), .int (8 : Int32), .int (0 : Int32)], [], σ13)) (P := []) rfl trivial ?_
            exact h
        · rw [if_neg b16]
          have h := h.2 b16
          refine mm_blk (M := mm_m_X10_whatIs) 1 (S' := (44, [.ref 0, .int x1, .int x2, .int x3, .int v15, .null, .null, .null], [.int v15], σ13)) (P := []) rfl trivial ?_
          subst h
          exact mm_rt_ ⟨_, _, _, rfl, ⟨_, _, rfl, rfl, rfl, rfl⟩⟩
      · rw [if_neg b12]
        have h := h.2 b12
        refine mm_blk (M := mm_m_X10_whatIs) 1 (S' := (28, [.ref 0, .int x1, .int x2, .int x3, .null, .null, .null, .null], [.int (-1 : Int32)], σ9)) (P := []) rfl trivial ?_
        subst h
        exact mm_rt_ ⟨_, _, _, rfl, ⟨_, _, rfl, rfl, rfl, rfl⟩⟩
theorem sg_X10_whatIs_64 (σ : mm_Sg) (x1 : Int32) (x2 : Int32) (x3 : Int32) (x4 : Int32) (x5 : Int32) (x6 : Int32) (x7 : Int32) (R : Option Value × mm_Sg) (h : (((x6 ≤ x7 → (R = (some (.int x5), σ))) ∧ (¬ (x6 ≤ x7) → (∃ (σ2 : mm_Sg), mm_Ev mm_m_X1_becomeLike [.ref 24, .ref 10] σ none σ2 ∧ (((¬ x3 = (0 : Int32) → ((vp_in x2 (mm_len 26)) ∧ ∀ σ6 : mm_Sg, σ6 = mm_u σ2 26 x2.toNatClampNeg x7 → ((vp_in x1 8) ∧ ∃ (v11 : Int32) (σ9 : mm_Sg), mm_Ev mm_m_X10_mindOwesAsTold [.ref 0, .int x2, .ref (32 + 2 * x1.toNatClampNeg)] σ6 (some (.int v11)) σ9 ∧ (((v11 = (0 : Int32) → mm_Go mm_m_X10_whatIs (64, [.ref 0, .int x1, .int x2, .int x3, .int x4, .int x5, .int x6, .int (x7 + (1 : Int32))], [], σ9) R) ∧ (¬ (v11 = (0 : Int32)) → mm_Go mm_m_X10_whatIs (64, [.ref 0, .int x1, .int x2, .int x3, .int x4, .int (x5 ||| ((1 : Int32) <<< (x7 &&& 31))), .int x6, .int (x7 + (1 : Int32))], [], σ9) R)))))) ∧ (¬ (¬ x3 = (0 : Int32)) → ((vp_in x2 (mm_len 25)) ∧ ∀ σ14 : mm_Sg, σ14 = mm_u σ2 25 x2.toNatClampNeg x7 → ((vp_in x1 8) ∧ ∃ (v19 : Int32) (σ17 : mm_Sg), mm_Ev mm_m_X10_mindOwesAsTold [.ref 0, .int x2, .ref (32 + 2 * x1.toNatClampNeg)] σ14 (some (.int v19)) σ17 ∧ (((v19 = (0 : Int32) → mm_Go mm_m_X10_whatIs (64, [.ref 0, .int x1, .int x2, .int x3, .int x4, .int x5, .int x6, .int (x7 + (1 : Int32))], [], σ17) R) ∧ (¬ (v19 = (0 : Int32)) → mm_Go mm_m_X10_whatIs (64, [.ref 0, .int x1, .int x2, .int x3, .int x4, .int (x5 ||| ((1 : Int32) <<< (x7 &&& 31))), .int x6, .int (x7 + (1 : Int32))], [], σ17) R))))))))))))) : mm_Go mm_m_X10_whatIs (64, [.ref 0, .int x1, .int x2, .int x3, .int x4, .int x5, .int x6, .int x7], [], σ) R := by
  refine mm_blk (M := mm_m_X10_whatIs) 3 (S' := ((if x6 ≤ x7 then 140 else 71), [.ref 0, .int x1, .int x2, .int x3, .int x4, .int x5, .int x6, .int x7], [], σ)) (P := []) rfl trivial ?_
  by_cases b1 : x6 ≤ x7
  · rw [if_pos b1]
    have h := h.1 b1
    refine mm_blk (M := mm_m_X10_whatIs) 1 (S' := (142, [.ref 0, .int x1, .int x2, .int x3, .int x4, .int x5, .int x6, .int x7], [.int x5], σ)) (P := []) rfl trivial ?_
    subst h
    exact mm_rt_ ⟨_, _, _, rfl, ⟨_, _, rfl, rfl, rfl, rfl⟩⟩
  · rw [if_neg b1]
    have h := h.2 b1
    refine mm_blk (M := mm_m_X10_whatIs) 4 (S' := (79, [.ref 0, .int x1, .int x2, .int x3, .int x4, .int x5, .int x6, .int x7], [.ref 10, .ref 24], σ)) (P := [mm_cl 0 = 10, mm_cl 0 = 10]) rfl ⟨rfl, rfl, trivial⟩ ?_
    obtain ⟨σ2, e3, h⟩ := h
    refine mm_cl_ (rest := []) e3 ⟨_, _, _, rfl, rfl, mm_tb_X1_becomeLike, rfl, rfl, Nat.le_of_ble_eq_true rfl, Nat.le_of_ble_eq_true rfl, ⟨_, rfl, rfl⟩⟩ ?_
    refine mm_blk (M := mm_m_X10_whatIs) 2 (S' := ((if ¬ x3 = (0 : Int32) then 100 else 86), [.ref 0, .int x1, .int x2, .int x3, .int x4, .int x5, .int x6, .int x7], [], σ2)) (P := []) rfl trivial ?_
    by_cases b4 : ¬ x3 = (0 : Int32)
    · rw [if_pos b4]
      have h := h.1 b4
      obtain ⟨c5, h⟩ := h
      refine mm_blk (M := mm_m_X10_whatIs) 6 (S' := (111, [.ref 0, .int x1, .int x2, .int x3, .int x4, .int x5, .int x6, .int x7], [], mm_u σ2 26 x2.toNatClampNeg x7)) (P := [mm_cl 0 = 10, mm_cl 24 = 1, vp_in x2 (mm_len 26)]) rfl ⟨rfl, rfl, c5, trivial⟩ ?_
      obtain ⟨σ6, e7⟩ : ∃ z, z = mm_u σ2 26 x2.toNatClampNeg x7 := ⟨_, rfl⟩
      rw [← e7]
      have h := h σ6 e7
      obtain ⟨c8, h⟩ := h
      refine mm_blk (M := mm_m_X10_whatIs) 6 (S' := (119, [.ref 0, .int x1, .int x2, .int x3, .int x4, .int x5, .int x6, .int x7], [.ref (32 + 2 * x1.toNatClampNeg), .int x2, .ref 0], σ6)) (P := [mm_cl 0 = 10, vp_in x1 8, 31 = 1 ∨ 31 = 31 ∨ 31 = 65 ∨ 31 = 74]) rfl ⟨rfl, c8, (by decide), trivial⟩ ?_
      obtain ⟨v11, σ9, e10, h⟩ := h
      refine mm_cl_ (rest := []) e10 ⟨_, _, _, rfl, rfl, mm_tb_X10_mindOwesAsTold, rfl, rfl, Nat.le_of_ble_eq_true rfl, Nat.le_of_ble_eq_true rfl, ⟨_, rfl, rfl⟩⟩ ?_
      refine mm_blk (M := mm_m_X10_whatIs) 1 (S' := ((if v11 = (0 : Int32) then 134 else 125), [.ref 0, .int x1, .int x2, .int x3, .int x4, .int x5, .int x6, .int x7], [], σ9)) (P := []) rfl trivial ?_
      by_cases b12 : v11 = (0 : Int32)
      · rw [if_pos b12]
        have h := h.1 b12
        refine mm_blk (M := mm_m_X10_whatIs) 2 (S' := (64, [.ref 0, .int x1, .int x2, .int x3, .int x4, .int x5, .int x6, .int (x7 + (1 : Int32))], [], σ9)) (P := []) rfl trivial ?_
        exact h
      · rw [if_neg b12]
        have h := h.2 b12
        refine mm_blk (M := mm_m_X10_whatIs) 8 (S' := (64, [.ref 0, .int x1, .int x2, .int x3, .int x4, .int (x5 ||| ((1 : Int32) <<< (x7 &&& 31))), .int x6, .int (x7 + (1 : Int32))], [], σ9)) (P := []) rfl trivial ?_
        exact h
    · rw [if_neg b4]
      have h := h.2 b4
      obtain ⟨c13, h⟩ := h
      refine mm_blk (M := mm_m_X10_whatIs) 6 (S' := (97, [.ref 0, .int x1, .int x2, .int x3, .int x4, .int x5, .int x6, .int x7], [], mm_u σ2 25 x2.toNatClampNeg x7)) (P := [mm_cl 0 = 10, mm_cl 24 = 1, vp_in x2 (mm_len 25)]) rfl ⟨rfl, rfl, c13, trivial⟩ ?_
      obtain ⟨σ14, e15⟩ : ∃ z, z = mm_u σ2 25 x2.toNatClampNeg x7 := ⟨_, rfl⟩
      rw [← e15]
      have h := h σ14 e15
      obtain ⟨c16, h⟩ := h
      refine mm_blk (M := mm_m_X10_whatIs) 7 (S' := (119, [.ref 0, .int x1, .int x2, .int x3, .int x4, .int x5, .int x6, .int x7], [.ref (32 + 2 * x1.toNatClampNeg), .int x2, .ref 0], σ14)) (P := [mm_cl 0 = 10, vp_in x1 8, 31 = 1 ∨ 31 = 31 ∨ 31 = 65 ∨ 31 = 74]) rfl ⟨rfl, c16, (by decide), trivial⟩ ?_
      obtain ⟨v19, σ17, e18, h⟩ := h
      refine mm_cl_ (rest := []) e18 ⟨_, _, _, rfl, rfl, mm_tb_X10_mindOwesAsTold, rfl, rfl, Nat.le_of_ble_eq_true rfl, Nat.le_of_ble_eq_true rfl, ⟨_, rfl, rfl⟩⟩ ?_
      refine mm_blk (M := mm_m_X10_whatIs) 1 (S' := ((if v19 = (0 : Int32) then 134 else 125), [.ref 0, .int x1, .int x2, .int x3, .int x4, .int x5, .int x6, .int x7], [], σ17)) (P := []) rfl trivial ?_
      by_cases b20 : v19 = (0 : Int32)
      · rw [if_pos b20]
        have h := h.1 b20
        refine mm_blk (M := mm_m_X10_whatIs) 2 (S' := (64, [.ref 0, .int x1, .int x2, .int x3, .int x4, .int x5, .int x6, .int (x7 + (1 : Int32))], [], σ17)) (P := []) rfl trivial ?_
        exact h
      · rw [if_neg b20]
        have h := h.2 b20
        refine mm_blk (M := mm_m_X10_whatIs) 8 (S' := (64, [.ref 0, .int x1, .int x2, .int x3, .int x4, .int (x5 ||| ((1 : Int32) <<< (x7 &&& 31))), .int x6, .int (x7 + (1 : Int32))], [], σ17)) (P := []) rfl trivial ?_
        exact h
