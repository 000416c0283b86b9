/-! pieces of runs, by program -/
theorem sg_X10_isShelf_0 (σ : mm_Sg) (x0 : Int32) (R : Option Value × mm_Sg) (h : (((x0 < (0 : Int32) → (R = (some (.int (0 : Int32)), σ))) ∧ (¬ (x0 < (0 : Int32)) → ((((8 : Int32) ≤ x0 → (R = (some (.int (0 : Int32)), σ))) ∧ (¬ ((8 : Int32) ≤ x0) → (R = (some (.int (1 : Int32)), σ))))))))) : mm_Go mm_m_X10_isShelf (0, [.int x0], [], σ) R := by
  refine mm_blk (M := mm_m_X10_isShelf) 2 (S' := ((if x0 < (0 : Int32) then 14 else 4), [.int x0], [], σ)) (P := []) rfl trivial ?_
  by_cases b1 : x0 < (0 : Int32)
  · rw [if_pos b1]
    have h := h.1 b1
    refine mm_blk (M := mm_m_X10_isShelf) 1 (S' := (15, [.int x0], [.int (0 : Int32)], σ)) (P := []) rfl trivial ?_
    subst h
    exact mm_rt_ ⟨_, _, _, rfl, ⟨_, _, rfl, rfl, rfl, rfl⟩⟩
  · rw [if_neg b1]
    have h := h.2 b1
    refine mm_blk (M := mm_m_X10_isShelf) 3 (S' := ((if (8 : Int32) ≤ x0 then 14 else 10), [.int x0], [], σ)) (P := []) rfl trivial ?_
    by_cases b2 : (8 : Int32) ≤ x0
    · rw [if_pos b2]
      have h := h.1 b2
      refine mm_blk (M := mm_m_X10_isShelf) 1 (S' := (15, [.int x0], [.int (0 : Int32)], σ)) (P := []) rfl trivial ?_
      subst h
      exact mm_rt_ ⟨_, _, _, rfl, ⟨_, _, rfl, rfl, rfl, rfl⟩⟩
    · rw [if_neg b2]
      have h := h.2 b2
      refine mm_blk (M := mm_m_X10_isShelf) 2 (S' := (15, [.int x0], [.int (1 : Int32)], σ)) (P := []) rfl trivial ?_
      subst h
      exact mm_rt_ ⟨_, _, _, rfl, ⟨_, _, rfl, rfl, rfl, rfl⟩⟩
theorem sg_X10_refusalUnless_0 (σ : mm_Sg) (x1 : Int32) (x2 : Int32) (R : Option Value × mm_Sg) (h : (∃ (v3 : Int32) (σ1 : mm_Sg), mm_Ev mm_m_X10_isShelf [.int x2] σ (some (.int v3)) σ1 ∧ (((¬ v3 = (0 : Int32) → ((vp_in x2 8) ∧ (mm_cl (32 + 2 * x2.toNatClampNeg) = 8) ∧ ((¬ (σ1 (32 + 2 * x2.toNatClampNeg) 0) = (0 : Int32) → (((¬ (σ1 (32 + 2 * x2.toNatClampNeg) 0) = x1 → (R = (some (.int (-12 : Int32)), σ1))) ∧ (¬ (¬ (σ1 (32 + 2 * x2.toNatClampNeg) 0) = x1) → (R = (some (.int (0 : Int32)), σ1)))))) ∧ (¬ (¬ (σ1 (32 + 2 * x2.toNatClampNeg) 0) = (0 : Int32)) → (R = (some (.int (-11 : Int32)), σ1)))))) ∧ (¬ (¬ v3 = (0 : Int32)) → (R = (some (.int (-1 : Int32)), σ1))))))) : mm_Go mm_m_X10_refusalUnless (0, [.ref 0, .int x1, .int x2], [], σ) R := by
  refine mm_blk (M := mm_m_X10_refusalUnless) 1 (S' := (1, [.ref 0, .int x1, .int x2], [.int x2], σ)) (P := []) rfl trivial ?_
  obtain ⟨v3, σ1, e2, h⟩ := h
  refine mm_cl_ (rest := []) e2 ⟨_, _, _, rfl, rfl, mm_tb_X10_isShelf, rfl, rfl, Nat.le_of_ble_eq_true rfl, Nat.le_of_ble_eq_true rfl, trivial⟩ ?_
  refine mm_blk (M := mm_m_X10_refusalUnless) 1 (S' := ((if ¬ v3 = (0 : Int32) then 9 else 7), [.ref 0, .int x1, .int x2], [], σ1)) (P := []) rfl trivial ?_
  by_cases b4 : ¬ v3 = (0 : Int32)
  · rw [if_pos b4]
    have h := h.1 b4
    obtain ⟨c5, h⟩ := h
    obtain ⟨c6, h⟩ := h
    refine mm_blk (M := mm_m_X10_refusalUnless) 6 (S' := ((if ¬ (σ1 (32 + 2 * x2.toNatClampNeg) 0) = (0 : Int32) then 24 else 21), [.ref 0, .int x1, .int x2], [], σ1)) (P := [mm_cl 0 = 10, vp_in x2 8, 31 = 1 ∨ 31 = 31 ∨ 31 = 65 ∨ 31 = 74, mm_cl (32 + 2 * x2.toNatClampNeg) = 8]) rfl ⟨rfl, c5, (by decide), c6, trivial⟩ ?_
    by_cases b7 : ¬ (σ1 (32 + 2 * x2.toNatClampNeg) 0) = (0 : Int32)
    · rw [if_pos b7]
      have h := h.1 b7
      refine mm_blk (M := mm_m_X10_refusalUnless) 7 (S' := ((if ¬ (σ1 (32 + 2 * x2.toNatClampNeg) 0) = x1 then 41 else 37), [.ref 0, .int x1, .int x2], [], σ1)) (P := [mm_cl 0 = 10, vp_in x2 8, 31 = 1 ∨ 31 = 31 ∨ 31 = 65 ∨ 31 = 74, mm_cl (32 + 2 * x2.toNatClampNeg) = 8]) rfl ⟨rfl, c5, (by decide), c6, trivial⟩ ?_
      by_cases b8 : ¬ (σ1 (32 + 2 * x2.toNatClampNeg) 0) = x1
      · rw [if_pos b8]
        have h := h.1 b8
        refine mm_blk (M := mm_m_X10_refusalUnless) 1 (S' := (43, [.ref 0, .int x1, .int x2], [.int (-12 : Int32)], σ1)) (P := []) rfl trivial ?_
        subst h
        exact mm_rt_ ⟨_, _, _, rfl, ⟨_, _, rfl, rfl, rfl, rfl⟩⟩
      · rw [if_neg b8]
        have h := h.2 b8
        refine mm_blk (M := mm_m_X10_refusalUnless) 2 (S' := (43, [.ref 0, .int x1, .int x2], [.int (0 : Int32)], σ1)) (P := []) rfl trivial ?_
        subst h
        exact mm_rt_ ⟨_, _, _, rfl, ⟨_, _, rfl, rfl, rfl, rfl⟩⟩
    · rw [if_neg b7]
      have h := h.2 b7
      refine mm_blk (M := mm_m_X10_refusalUnless) 1 (S' := (23, [.ref 0, .int x1, .int x2], [.int (-11 : Int32)], σ1)) (P := []) rfl trivial ?_
      subst h
      exact mm_rt_ ⟨_, _, _, rfl, ⟨_, _, rfl, rfl, rfl, rfl⟩⟩
  · rw [if_neg b4]
    have h := h.2 b4
    refine mm_blk (M := mm_m_X10_refusalUnless) 1 (S' := (8, [.ref 0, .int x1, .int x2], [.int (-1 : Int32)], σ1)) (P := []) rfl trivial ?_
    subst h
    exact mm_rt_ ⟨_, _, _, rfl, ⟨_, _, rfl, rfl, rfl, rfl⟩⟩
theorem sg_X10_refusedLong_0 (σ : mm_Sg) (x0 : Int32) (R : Option Value × mm_Sg) (h : (R = (some (.long ((1000000000 : Int64) - (x0.toInt64))), σ))) : mm_Go mm_m_X10_refusedLong (0, [.int x0], [], σ) R := by
  refine mm_blk (M := mm_m_X10_refusedLong) 4 (S' := (6, [.int x0], [.long ((1000000000 : Int64) - (x0.toInt64))], σ)) (P := []) rfl trivial ?_
  subst h
  exact mm_rt_ ⟨_, _, _, rfl, ⟨_, rfl, rfl, rfl⟩⟩
theorem sg_X10_digitsBehind_0 (σ : mm_Sg) (x0 : Int32) (R : Option Value × mm_Sg) (h : (((x0 = nI 98 → (R = (some (.int (3 : Int32)), σ))) ∧ (¬ (x0 = nI 98) → ((x0 = nI 99 → (R = (some (.int (0 : Int32)), σ))) ∧ (¬ (x0 = nI 99) → ((x0 = nI 100 → (R = (some (.int (2 : Int32)), σ))) ∧ (¬ (x0 = nI 100) → ((x0 = nI 101 → (R = (some (.int (0 : Int32)), σ))) ∧ (¬ (x0 = nI 101) → ((x0 = nI 102 → (R = (some (.int (0 : Int32)), σ))) ∧ (¬ (x0 = nI 102) → ((x0 = nI 103 → (R = (some (.int (0 : Int32)), σ))) ∧ (¬ (x0 = nI 103) → ((x0 = nI 104 → (R = (some (.int (0 : Int32)), σ))) ∧ (¬ (x0 = nI 104) → ((x0 = nI 105 → (R = (some (.int (0 : Int32)), σ))) ∧ (¬ (x0 = nI 105) → ((x0 = nI 106 → (R = (some (.int (0 : Int32)), σ))) ∧ (¬ (x0 = nI 106) → ((x0 = nI 107 → (R = (some (.int (3 : Int32)), σ))) ∧ (¬ (x0 = nI 107) → ((x0 = nI 108 → (R = (some (.int (0 : Int32)), σ))) ∧ (¬ (x0 = nI 108) → ((x0 = nI 109 → (R = (some (.int (0 : Int32)), σ))) ∧ (¬ (x0 = nI 109) → ((x0 = nI 110 → (R = (some (.int (0 : Int32)), σ))) ∧ (¬ (x0 = nI 110) → ((x0 = nI 111 → (R = (some (.int (3 : Int32)), σ))) ∧ (¬ (x0 = nI 111) → ((x0 = nI 112 → (R = (some (.int (0 : Int32)), σ))) ∧ (¬ (x0 = nI 112) → ((x0 = nI 113 → (R = (some (.int (0 : Int32)), σ))) ∧ (¬ (x0 = nI 113) → ((x0 = nI 114 → (R = (some (.int (0 : Int32)), σ))) ∧ (¬ (x0 = nI 114) → ((x0 = nI 115 → (R = (some (.int (0 : Int32)), σ))) ∧ (¬ (x0 = nI 115) → ((x0 = nI 116 → (R = (some (.int (3 : Int32)), σ))) ∧ (¬ (x0 = nI 116) → ((x0 = nI 117 → (R = (some (.int (0 : Int32)), σ))) ∧ (¬ (x0 = nI 117) → ((x0 = nI 118 → (R = (some (.int (0 : Int32)), σ))) ∧ (¬ (x0 = nI 118) → ((x0 = nI 119 → (R = (some (.int (2 : Int32)), σ))) ∧ (¬ (x0 = nI 119) → ((x0 = nI 120 → (R = (some (.int (0 : Int32)), σ))) ∧ (¬ (x0 = nI 120) → ((x0 = nI 121 → (R = (some (.int (0 : Int32)), σ))) ∧ (¬ (x0 = nI 121) → ((x0 = nI 122 → (R = (some (.int (1 : Int32)), σ))) ∧ (¬ (x0 = nI 122) → (R = (some (.int (0 : Int32)), σ)))))))))))))))))))))))))))))))))))))))))))))))))))))) : mm_Go mm_m_X10_digitsBehind (0, [.int x0], [], σ) R := by
  refine mm_blk (M := mm_m_X10_digitsBehind) 2 (S' := ((mm_tsw x0 122 98 [120, 122, 118, 122, 122, 122, 122, 122, 122, 120, 122, 122, 122, 120, 122, 122, 122, 122, 120, 122, 122, 118, 122, 122, 116]), [.int x0], [], σ)) (P := []) rfl trivial ?_
  by_cases b1 : x0 = nI 98
  · rw [show mm_tsw x0 122 98 [120, 122, 118, 122, 122, 122, 122, 122, 122, 120, 122, 122, 122, 120, 122, 122, 122, 122, 120, 122, 122, 118, 122, 122, 116] = 120 from mm_tsw_t b1]
    have h := h.1 b1
    refine mm_blk (M := mm_m_X10_digitsBehind) 1 (S' := (121, [.int x0], [.int (3 : Int32)], σ)) (P := []) rfl trivial ?_
    subst h
    exact mm_rt_ ⟨_, _, _, rfl, ⟨_, _, rfl, rfl, rfl, rfl⟩⟩
  rw [show mm_tsw x0 122 98 [120, 122, 118, 122, 122, 122, 122, 122, 122, 120, 122, 122, 122, 120, 122, 122, 122, 122, 120, 122, 122, 118, 122, 122, 116] = mm_tsw x0 122 99 [122, 118, 122, 122, 122, 122, 122, 122, 120, 122, 122, 122, 120, 122, 122, 122, 122, 120, 122, 122, 118, 122, 122, 116] from mm_tsw_f b1]
  have h := h.2 b1
  by_cases b2 : x0 = nI 99
  · rw [show mm_tsw x0 122 99 [122, 118, 122, 122, 122, 122, 122, 122, 120, 122, 122, 122, 120, 122, 122, 122, 122, 120, 122, 122, 118, 122, 122, 116] = 122 from mm_tsw_t b2]
    have h := h.1 b2
    refine mm_blk (M := mm_m_X10_digitsBehind) 1 (S' := (123, [.int x0], [.int (0 : Int32)], σ)) (P := []) rfl trivial ?_
    subst h
    exact mm_rt_ ⟨_, _, _, rfl, ⟨_, _, rfl, rfl, rfl, rfl⟩⟩
  rw [show mm_tsw x0 122 99 [122, 118, 122, 122, 122, 122, 122, 122, 120, 122, 122, 122, 120, 122, 122, 122, 122, 120, 122, 122, 118, 122, 122, 116] = mm_tsw x0 122 100 [118, 122, 122, 122, 122, 122, 122, 120, 122, 122, 122, 120, 122, 122, 122, 122, 120, 122, 122, 118, 122, 122, 116] from mm_tsw_f b2]
  have h := h.2 b2
  by_cases b3 : x0 = nI 100
  · rw [show mm_tsw x0 122 100 [118, 122, 122, 122, 122, 122, 122, 120, 122, 122, 122, 120, 122, 122, 122, 122, 120, 122, 122, 118, 122, 122, 116] = 118 from mm_tsw_t b3]
    have h := h.1 b3
    refine mm_blk (M := mm_m_X10_digitsBehind) 1 (S' := (119, [.int x0], [.int (2 : Int32)], σ)) (P := []) rfl trivial ?_
    subst h
    exact mm_rt_ ⟨_, _, _, rfl, ⟨_, _, rfl, rfl, rfl, rfl⟩⟩
  rw [show mm_tsw x0 122 100 [118, 122, 122, 122, 122, 122, 122, 120, 122, 122, 122, 120, 122, 122, 122, 122, 120, 122, 122, 118, 122, 122, 116] = mm_tsw x0 122 101 [122, 122, 122, 122, 122, 122, 120, 122, 122, 122, 120, 122, 122, 122, 122, 120, 122, 122, 118, 122, 122, 116] from mm_tsw_f b3]
  have h := h.2 b3
  by_cases b4 : x0 = nI 101
  · rw [show mm_tsw x0 122 101 [122, 122, 122, 122, 122, 122, 120, 122, 122, 122, 120, 122, 122, 122, 122, 120, 122, 122, 118, 122, 122, 116] = 122 from mm_tsw_t b4]
    have h := h.1 b4
    refine mm_blk (M := mm_m_X10_digitsBehind) 1 (S' := (123, [.int x0], [.int (0 : Int32)], σ)) (P := []) rfl trivial ?_
    subst h
    exact mm_rt_ ⟨_, _, _, rfl, ⟨_, _, rfl, rfl, rfl, rfl⟩⟩
  rw [show mm_tsw x0 122 101 [122, 122, 122, 122, 122, 122, 120, 122, 122, 122, 120, 122, 122, 122, 122, 120, 122, 122, 118, 122, 122, 116] = mm_tsw x0 122 102 [122, 122, 122, 122, 122, 120, 122, 122, 122, 120, 122, 122, 122, 122, 120, 122, 122, 118, 122, 122, 116] from mm_tsw_f b4]
  have h := h.2 b4
  by_cases b5 : x0 = nI 102
  · rw [show mm_tsw x0 122 102 [122, 122, 122, 122, 122, 120, 122, 122, 122, 120, 122, 122, 122, 122, 120, 122, 122, 118, 122, 122, 116] = 122 from mm_tsw_t b5]
    have h := h.1 b5
    refine mm_blk (M := mm_m_X10_digitsBehind) 1 (S' := (123, [.int x0], [.int (0 : Int32)], σ)) (P := []) rfl trivial ?_
    subst h
    exact mm_rt_ ⟨_, _, _, rfl, ⟨_, _, rfl, rfl, rfl, rfl⟩⟩
  rw [show mm_tsw x0 122 102 [122, 122, 122, 122, 122, 120, 122, 122, 122, 120, 122, 122, 122, 122, 120, 122, 122, 118, 122, 122, 116] = mm_tsw x0 122 103 [122, 122, 122, 122, 120, 122, 122, 122, 120, 122, 122, 122, 122, 120, 122, 122, 118, 122, 122, 116] from mm_tsw_f b5]
  have h := h.2 b5
  by_cases b6 : x0 = nI 103
  · rw [show mm_tsw x0 122 103 [122, 122, 122, 122, 120, 122, 122, 122, 120, 122, 122, 122, 122, 120, 122, 122, 118, 122, 122, 116] = 122 from mm_tsw_t b6]
    have h := h.1 b6
    refine mm_blk (M := mm_m_X10_digitsBehind) 1 (S' := (123, [.int x0], [.int (0 : Int32)], σ)) (P := []) rfl trivial ?_
    subst h
    exact mm_rt_ ⟨_, _, _, rfl, ⟨_, _, rfl, rfl, rfl, rfl⟩⟩
  rw [show mm_tsw x0 122 103 [122, 122, 122, 122, 120, 122, 122, 122, 120, 122, 122, 122, 122, 120, 122, 122, 118, 122, 122, 116] = mm_tsw x0 122 104 [122, 122, 122, 120, 122, 122, 122, 120, 122, 122, 122, 122, 120, 122, 122, 118, 122, 122, 116] from mm_tsw_f b6]
  have h := h.2 b6
  by_cases b7 : x0 = nI 104
  · rw [show mm_tsw x0 122 104 [122, 122, 122, 120, 122, 122, 122, 120, 122, 122, 122, 122, 120, 122, 122, 118, 122, 122, 116] = 122 from mm_tsw_t b7]
    have h := h.1 b7
    refine mm_blk (M := mm_m_X10_digitsBehind) 1 (S' := (123, [.int x0], [.int (0 : Int32)], σ)) (P := []) rfl trivial ?_
    subst h
    exact mm_rt_ ⟨_, _, _, rfl, ⟨_, _, rfl, rfl, rfl, rfl⟩⟩
  rw [show mm_tsw x0 122 104 [122, 122, 122, 120, 122, 122, 122, 120, 122, 122, 122, 122, 120, 122, 122, 118, 122, 122, 116] = mm_tsw x0 122 105 [122, 122, 120, 122, 122, 122, 120, 122, 122, 122, 122, 120, 122, 122, 118, 122, 122, 116] from mm_tsw_f b7]
  have h := h.2 b7
  by_cases b8 : x0 = nI 105
  · rw [show mm_tsw x0 122 105 [122, 122, 120, 122, 122, 122, 120, 122, 122, 122, 122, 120, 122, 122, 118, 122, 122, 116] = 122 from mm_tsw_t b8]
    have h := h.1 b8
    refine mm_blk (M := mm_m_X10_digitsBehind) 1 (S' := (123, [.int x0], [.int (0 : Int32)], σ)) (P := []) rfl trivial ?_
    subst h
    exact mm_rt_ ⟨_, _, _, rfl, ⟨_, _, rfl, rfl, rfl, rfl⟩⟩
  rw [show mm_tsw x0 122 105 [122, 122, 120, 122, 122, 122, 120, 122, 122, 122, 122, 120, 122, 122, 118, 122, 122, 116] = mm_tsw x0 122 106 [122, 120, 122, 122, 122, 120, 122, 122, 122, 122, 120, 122, 122, 118, 122, 122, 116] from mm_tsw_f b8]
  have h := h.2 b8
  by_cases b9 : x0 = nI 106
  · rw [show mm_tsw x0 122 106 [122, 120, 122, 122, 122, 120, 122, 122, 122, 122, 120, 122, 122, 118, 122, 122, 116] = 122 from mm_tsw_t b9]
    have h := h.1 b9
    refine mm_blk (M := mm_m_X10_digitsBehind) 1 (S' := (123, [.int x0], [.int (0 : Int32)], σ)) (P := []) rfl trivial ?_
    subst h
    exact mm_rt_ ⟨_, _, _, rfl, ⟨_, _, rfl, rfl, rfl, rfl⟩⟩
  rw [show mm_tsw x0 122 106 [122, 120, 122, 122, 122, 120, 122, 122, 122, 122, 120, 122, 122, 118, 122, 122, 116] = mm_tsw x0 122 107 [120, 122, 122, 122, 120, 122, 122, 122, 122, 120, 122, 122, 118, 122, 122, 116] from mm_tsw_f b9]
  have h := h.2 b9
  by_cases b10 : x0 = nI 107
  · rw [show mm_tsw x0 122 107 [120, 122, 122, 122, 120, 122, 122, 122, 122, 120, 122, 122, 118, 122, 122, 116] = 120 from mm_tsw_t b10]
    have h := h.1 b10
    refine mm_blk (M := mm_m_X10_digitsBehind) 1 (S' := (121, [.int x0], [.int (3 : Int32)], σ)) (P := []) rfl trivial ?_
    subst h
    exact mm_rt_ ⟨_, _, _, rfl, ⟨_, _, rfl, rfl, rfl, rfl⟩⟩
  rw [show mm_tsw x0 122 107 [120, 122, 122, 122, 120, 122, 122, 122, 122, 120, 122, 122, 118, 122, 122, 116] = mm_tsw x0 122 108 [122, 122, 122, 120, 122, 122, 122, 122, 120, 122, 122, 118, 122, 122, 116] from mm_tsw_f b10]
  have h := h.2 b10
  by_cases b11 : x0 = nI 108
  · rw [show mm_tsw x0 122 108 [122, 122, 122, 120, 122, 122, 122, 122, 120, 122, 122, 118, 122, 122, 116] = 122 from mm_tsw_t b11]
    have h := h.1 b11
    refine mm_blk (M := mm_m_X10_digitsBehind) 1 (S' := (123, [.int x0], [.int (0 : Int32)], σ)) (P := []) rfl trivial ?_
    subst h
    exact mm_rt_ ⟨_, _, _, rfl, ⟨_, _, rfl, rfl, rfl, rfl⟩⟩
  rw [show mm_tsw x0 122 108 [122, 122, 122, 120, 122, 122, 122, 122, 120, 122, 122, 118, 122, 122, 116] = mm_tsw x0 122 109 [122, 122, 120, 122, 122, 122, 122, 120, 122, 122, 118, 122, 122, 116] from mm_tsw_f b11]
  have h := h.2 b11
  by_cases b12 : x0 = nI 109
  · rw [show mm_tsw x0 122 109 [122, 122, 120, 122, 122, 122, 122, 120, 122, 122, 118, 122, 122, 116] = 122 from mm_tsw_t b12]
    have h := h.1 b12
    refine mm_blk (M := mm_m_X10_digitsBehind) 1 (S' := (123, [.int x0], [.int (0 : Int32)], σ)) (P := []) rfl trivial ?_
    subst h
    exact mm_rt_ ⟨_, _, _, rfl, ⟨_, _, rfl, rfl, rfl, rfl⟩⟩
  rw [show mm_tsw x0 122 109 [122, 122, 120, 122, 122, 122, 122, 120, 122, 122, 118, 122, 122, 116] = mm_tsw x0 122 110 [122, 120, 122, 122, 122, 122, 120, 122, 122, 118, 122, 122, 116] from mm_tsw_f b12]
  have h := h.2 b12
  by_cases b13 : x0 = nI 110
  · rw [show mm_tsw x0 122 110 [122, 120, 122, 122, 122, 122, 120, 122, 122, 118, 122, 122, 116] = 122 from mm_tsw_t b13]
    have h := h.1 b13
    refine mm_blk (M := mm_m_X10_digitsBehind) 1 (S' := (123, [.int x0], [.int (0 : Int32)], σ)) (P := []) rfl trivial ?_
    subst h
    exact mm_rt_ ⟨_, _, _, rfl, ⟨_, _, rfl, rfl, rfl, rfl⟩⟩
  rw [show mm_tsw x0 122 110 [122, 120, 122, 122, 122, 122, 120, 122, 122, 118, 122, 122, 116] = mm_tsw x0 122 111 [120, 122, 122, 122, 122, 120, 122, 122, 118, 122, 122, 116] from mm_tsw_f b13]
  have h := h.2 b13
  by_cases b14 : x0 = nI 111
  · rw [show mm_tsw x0 122 111 [120, 122, 122, 122, 122, 120, 122, 122, 118, 122, 122, 116] = 120 from mm_tsw_t b14]
    have h := h.1 b14
    refine mm_blk (M := mm_m_X10_digitsBehind) 1 (S' := (121, [.int x0], [.int (3 : Int32)], σ)) (P := []) rfl trivial ?_
    subst h
    exact mm_rt_ ⟨_, _, _, rfl, ⟨_, _, rfl, rfl, rfl, rfl⟩⟩
  rw [show mm_tsw x0 122 111 [120, 122, 122, 122, 122, 120, 122, 122, 118, 122, 122, 116] = mm_tsw x0 122 112 [122, 122, 122, 122, 120, 122, 122, 118, 122, 122, 116] from mm_tsw_f b14]
  have h := h.2 b14
  by_cases b15 : x0 = nI 112
  · rw [show mm_tsw x0 122 112 [122, 122, 122, 122, 120, 122, 122, 118, 122, 122, 116] = 122 from mm_tsw_t b15]
    have h := h.1 b15
    refine mm_blk (M := mm_m_X10_digitsBehind) 1 (S' := (123, [.int x0], [.int (0 : Int32)], σ)) (P := []) rfl trivial ?_
    subst h
    exact mm_rt_ ⟨_, _, _, rfl, ⟨_, _, rfl, rfl, rfl, rfl⟩⟩
  rw [show mm_tsw x0 122 112 [122, 122, 122, 122, 120, 122, 122, 118, 122, 122, 116] = mm_tsw x0 122 113 [122, 122, 122, 120, 122, 122, 118, 122, 122, 116] from mm_tsw_f b15]
  have h := h.2 b15
  by_cases b16 : x0 = nI 113
  · rw [show mm_tsw x0 122 113 [122, 122, 122, 120, 122, 122, 118, 122, 122, 116] = 122 from mm_tsw_t b16]
    have h := h.1 b16
    refine mm_blk (M := mm_m_X10_digitsBehind) 1 (S' := (123, [.int x0], [.int (0 : Int32)], σ)) (P := []) rfl trivial ?_
    subst h
    exact mm_rt_ ⟨_, _, _, rfl, ⟨_, _, rfl, rfl, rfl, rfl⟩⟩
  rw [show mm_tsw x0 122 113 [122, 122, 122, 120, 122, 122, 118, 122, 122, 116] = mm_tsw x0 122 114 [122, 122, 120, 122, 122, 118, 122, 122, 116] from mm_tsw_f b16]
  have h := h.2 b16
  by_cases b17 : x0 = nI 114
  · rw [show mm_tsw x0 122 114 [122, 122, 120, 122, 122, 118, 122, 122, 116] = 122 from mm_tsw_t b17]
    have h := h.1 b17
    refine mm_blk (M := mm_m_X10_digitsBehind) 1 (S' := (123, [.int x0], [.int (0 : Int32)], σ)) (P := []) rfl trivial ?_
    subst h
    exact mm_rt_ ⟨_, _, _, rfl, ⟨_, _, rfl, rfl, rfl, rfl⟩⟩
  rw [show mm_tsw x0 122 114 [122, 122, 120, 122, 122, 118, 122, 122, 116] = mm_tsw x0 122 115 [122, 120, 122, 122, 118, 122, 122, 116] from mm_tsw_f b17]
  have h := h.2 b17
  by_cases b18 : x0 = nI 115
  · rw [show mm_tsw x0 122 115 [122, 120, 122, 122, 118, 122, 122, 116] = 122 from mm_tsw_t b18]
    have h := h.1 b18
    refine mm_blk (M := mm_m_X10_digitsBehind) 1 (S' := (123, [.int x0], [.int (0 : Int32)], σ)) (P := []) rfl trivial ?_
    subst h
    exact mm_rt_ ⟨_, _, _, rfl, ⟨_, _, rfl, rfl, rfl, rfl⟩⟩
  rw [show mm_tsw x0 122 115 [122, 120, 122, 122, 118, 122, 122, 116] = mm_tsw x0 122 116 [120, 122, 122, 118, 122, 122, 116] from mm_tsw_f b18]
  have h := h.2 b18
  by_cases b19 : x0 = nI 116
  · rw [show mm_tsw x0 122 116 [120, 122, 122, 118, 122, 122, 116] = 120 from mm_tsw_t b19]
    have h := h.1 b19
    refine mm_blk (M := mm_m_X10_digitsBehind) 1 (S' := (121, [.int x0], [.int (3 : Int32)], σ)) (P := []) rfl trivial ?_
    subst h
    exact mm_rt_ ⟨_, _, _, rfl, ⟨_, _, rfl, rfl, rfl, rfl⟩⟩
  rw [show mm_tsw x0 122 116 [120, 122, 122, 118, 122, 122, 116] = mm_tsw x0 122 117 [122, 122, 118, 122, 122, 116] from mm_tsw_f b19]
  have h := h.2 b19
  by_cases b20 : x0 = nI 117
  · rw [show mm_tsw x0 122 117 [122, 122, 118, 122, 122, 116] = 122 from mm_tsw_t b20]
    have h := h.1 b20
    refine mm_blk (M := mm_m_X10_digitsBehind) 1 (S' := (123, [.int x0], [.int (0 : Int32)], σ)) (P := []) rfl trivial ?_
    subst h
    exact mm_rt_ ⟨_, _, _, rfl, ⟨_, _, rfl, rfl, rfl, rfl⟩⟩
  rw [show mm_tsw x0 122 117 [122, 122, 118, 122, 122, 116] = mm_tsw x0 122 118 [122, 118, 122, 122, 116] from mm_tsw_f b20]
  have h := h.2 b20
  by_cases b21 : x0 = nI 118
  · rw [show mm_tsw x0 122 118 [122, 118, 122, 122, 116] = 122 from mm_tsw_t b21]
    have h := h.1 b21
    refine mm_blk (M := mm_m_X10_digitsBehind) 1 (S' := (123, [.int x0], [.int (0 : Int32)], σ)) (P := []) rfl trivial ?_
    subst h
    exact mm_rt_ ⟨_, _, _, rfl, ⟨_, _, rfl, rfl, rfl, rfl⟩⟩
  rw [show mm_tsw x0 122 118 [122, 118, 122, 122, 116] = mm_tsw x0 122 119 [118, 122, 122, 116] from mm_tsw_f b21]
  have h := h.2 b21
  by_cases b22 : x0 = nI 119
  · rw [show mm_tsw x0 122 119 [118, 122, 122, 116] = 118 from mm_tsw_t b22]
    have h := h.1 b22
    refine mm_blk (M := mm_m_X10_digitsBehind) 1 (S' := (119, [.int x0], [.int (2 : Int32)], σ)) (P := []) rfl trivial ?_
    subst h
    exact mm_rt_ ⟨_, _, _, rfl, ⟨_, _, rfl, rfl, rfl, rfl⟩⟩
  rw [show mm_tsw x0 122 119 [118, 122, 122, 116] = mm_tsw x0 122 120 [122, 122, 116] from mm_tsw_f b22]
  have h := h.2 b22
  by_cases b23 : x0 = nI 120
  · rw [show mm_tsw x0 122 120 [122, 122, 116] = 122 from mm_tsw_t b23]
    have h := h.1 b23
    refine mm_blk (M := mm_m_X10_digitsBehind) 1 (S' := (123, [.int x0], [.int (0 : Int32)], σ)) (P := []) rfl trivial ?_
    subst h
    exact mm_rt_ ⟨_, _, _, rfl, ⟨_, _, rfl, rfl, rfl, rfl⟩⟩
  rw [show mm_tsw x0 122 120 [122, 122, 116] = mm_tsw x0 122 121 [122, 116] from mm_tsw_f b23]
  have h := h.2 b23
  by_cases b24 : x0 = nI 121
  · rw [show mm_tsw x0 122 121 [122, 116] = 122 from mm_tsw_t b24]
    have h := h.1 b24
    refine mm_blk (M := mm_m_X10_digitsBehind) 1 (S' := (123, [.int x0], [.int (0 : Int32)], σ)) (P := []) rfl trivial ?_
    subst h
    exact mm_rt_ ⟨_, _, _, rfl, ⟨_, _, rfl, rfl, rfl, rfl⟩⟩
  rw [show mm_tsw x0 122 121 [122, 116] = mm_tsw x0 122 122 [116] from mm_tsw_f b24]
  have h := h.2 b24
  by_cases b25 : x0 = nI 122
  · rw [show mm_tsw x0 122 122 [116] = 116 from mm_tsw_t b25]
    have h := h.1 b25
    refine mm_blk (M := mm_m_X10_digitsBehind) 1 (S' := (117, [.int x0], [.int (1 : Int32)], σ)) (P := []) rfl trivial ?_
    subst h
    exact mm_rt_ ⟨_, _, _, rfl, ⟨_, _, rfl, rfl, rfl, rfl⟩⟩
  rw [show mm_tsw x0 122 122 [116] = mm_tsw x0 122 123 [] from mm_tsw_f b25]
  have h := h.2 b25
  change mm_Go mm_m_X10_digitsBehind (122, [.int x0], [], σ) R
  refine mm_blk (M := mm_m_X10_digitsBehind) 1 (S' := (123, [.int x0], [.int (0 : Int32)], σ)) (P := []) rfl trivial ?_
  subst h
  exact mm_rt_ ⟨_, _, _, rfl, ⟨_, _, rfl, rfl, rfl, rfl⟩⟩
theorem sg_X10_isLetter_0 (σ : mm_Sg) (x0 : Int32) (R : Option Value × mm_Sg) (h : (∃ (v3 : Int32) (σ1 : mm_Sg), mm_Ev mm_m_X10_digitsBehind [.int x0] σ (some (.int v3)) σ1 ∧ (((v3 ≤ (0 : Int32) → (R = (some (.int (0 : Int32)), σ1))) ∧ (¬ (v3 ≤ (0 : Int32)) → (R = (some (.int (1 : Int32)), σ1))))))) : mm_Go mm_m_X10_isLetter (0, [.int x0], [], σ) R := by
  refine mm_blk (M := mm_m_X10_isLetter) 1 (S' := (1, [.int x0], [.int x0], σ)) (P := []) rfl trivial ?_
  obtain ⟨v3, σ1, e2, h⟩ := h
  refine mm_cl_ (rest := []) e2 ⟨_, _, _, rfl, rfl, mm_tb_X10_digitsBehind, rfl, rfl, Nat.le_of_ble_eq_true rfl, Nat.le_of_ble_eq_true rfl, trivial⟩ ?_
  refine mm_blk (M := mm_m_X10_isLetter) 1 (S' := ((if v3 ≤ (0 : Int32) then 11 else 7), [.int x0], [], σ1)) (P := []) rfl trivial ?_
  by_cases b4 : v3 ≤ (0 : Int32)
  · rw [if_pos b4]
    have h := h.1 b4
    refine mm_blk (M := mm_m_X10_isLetter) 1 (S' := (12, [.int x0], [.int (0 : Int32)], σ1)) (P := []) rfl trivial ?_
    subst h
    exact mm_rt_ ⟨_, _, _, rfl, ⟨_, _, rfl, rfl, rfl, rfl⟩⟩
  · rw [if_neg b4]
    have h := h.2 b4
    refine mm_blk (M := mm_m_X10_isLetter) 2 (S' := (12, [.int x0], [.int (1 : Int32)], σ1)) (P := []) rfl trivial ?_
    subst h
    exact mm_rt_ ⟨_, _, _, rfl, ⟨_, _, rfl, rfl, rfl, rfl⟩⟩
theorem sg_X10_firstBadByte_0 (σ : mm_Sg) (q0 : Nat) (R : Option Value × mm_Sg) (h : mm_Go mm_m_X10_firstBadByte (6, [.ref q0, .int (1 : Int32), .int (0 : Int32), .int (0 : Int32), .null], [], σ) R) : mm_Go mm_m_X10_firstBadByte (0, [.ref q0, .null, .null, .null, .null], [], σ) R := by
  refine mm_blk (M := mm_m_X10_firstBadByte) 6 (S' := (6, [.ref q0, .int (1 : Int32), .int (0 : Int32), .int (0 : Int32), .null], [], σ)) (P := []) rfl trivial ?_
  exact h
theorem sg_X10_firstBadByte_6 (σ : mm_Sg) (q0 : Nat) (x1 : Int32) (x2 : Int32) (x3 : Int32) (d4 : Value) (R : Option Value × mm_Sg) (h : ((mm_cl q0 = 8) ∧ (((σ q0 4) ≤ x3 → (((x1 = (0 : Int32) → (R = (some (.int (σ q0 4)), σ))) ∧ (¬ (x1 = (0 : Int32)) → ((((σ q0 4) ≤ (0 : Int32) → (R = (some (.int (σ q0 4)), σ))) ∧ (¬ ((σ q0 4) ≤ (0 : Int32)) → (R = (some (.int (-1 : Int32)), σ))))))))) ∧ (¬ ((σ q0 4) ≤ x3) → (∃ (v7 : Int32) (σ5 : mm_Sg), mm_Ev mm_m_X8_at [.ref q0, .int x3] σ (some (.int v7)) σ5 ∧ (((x1 = (0 : Int32) → (((x2 ≤ (0 : Int32) → (((v7 = (59 : Int32) → mm_Go mm_m_X10_firstBadByte (6, [.ref q0, .int (1 : Int32), .int x2, .int (x3 + (1 : Int32)), .int v7], [], σ5) R) ∧ (¬ (v7 = (59 : Int32)) → (R = (some (.int x3), σ5)))))) ∧ (¬ (x2 ≤ (0 : Int32)) → (∃ (v13 : Int32) (σ11 : mm_Sg), mm_Ev mm_m_X10_isBetween [.int v7, .int (48 : Int32), .int (57 : Int32)] σ5 (some (.int v13)) σ11 ∧ (((¬ v13 = (0 : Int32) → mm_Go mm_m_X10_firstBadByte (6, [.ref q0, .int x1, .int (x2 + (-1 : Int32)), .int (x3 + (1 : Int32)), .int v7], [], σ11) R) ∧ (¬ (¬ v13 = (0 : Int32)) → (R = (some (.int x3), σ11)))))))))) ∧ (¬ (x1 = (0 : Int32)) → (∃ (v17 : Int32) (σ15 : mm_Sg), mm_Ev mm_m_X10_isLetter [.int v7] σ5 (some (.int v17)) σ15 ∧ (((¬ v17 = (0 : Int32) → (∃ (v21 : Int32) (σ19 : mm_Sg), mm_Ev mm_m_X10_digitsBehind [.int v7] σ15 (some (.int v21)) σ19 ∧ mm_Go mm_m_X10_firstBadByte (6, [.ref q0, .int (0 : Int32), .int v21, .int (x3 + (1 : Int32)), .int v7], [], σ19) R)) ∧ (¬ (¬ v17 = (0 : Int32)) → (R = (some (.int x3), σ15)))))))))))))) : mm_Go mm_m_X10_firstBadByte (6, [.ref q0, .int x1, .int x2, .int x3, d4], [], σ) R := by
  obtain ⟨c1, h⟩ := h
  refine mm_blk (M := mm_m_X10_firstBadByte) 4 (S' := ((if (σ q0 4) ≤ x3 then 87 else 14), [.ref q0, .int x1, .int x2, .int x3, d4], [], σ)) (P := [mm_cl q0 = 8]) rfl ⟨c1, trivial⟩ ?_
  by_cases b2 : (σ q0 4) ≤ x3
  · rw [if_pos b2]
    have h := h.1 b2
    refine mm_blk (M := mm_m_X10_firstBadByte) 2 (S' := ((if x1 = (0 : Int32) then 102 else 91), [.ref q0, .int x1, .int x2, .int x3, d4], [], σ)) (P := []) rfl trivial ?_
    by_cases b3 : x1 = (0 : Int32)
    · rw [if_pos b3]
      have h := h.1 b3
      refine mm_blk (M := mm_m_X10_firstBadByte) 2 (S' := (106, [.ref q0, .int x1, .int x2, .int x3, d4], [.int (σ q0 4)], σ)) (P := [mm_cl q0 = 8]) rfl ⟨c1, trivial⟩ ?_
      subst h
      exact mm_rt_ ⟨_, _, _, rfl, ⟨_, _, rfl, rfl, rfl, rfl⟩⟩
    · rw [if_neg b3]
      have h := h.2 b3
      refine mm_blk (M := mm_m_X10_firstBadByte) 3 (S' := ((if (σ q0 4) ≤ (0 : Int32) then 102 else 98), [.ref q0, .int x1, .int x2, .int x3, d4], [], σ)) (P := [mm_cl q0 = 8]) rfl ⟨c1, trivial⟩ ?_
      by_cases b4 : (σ q0 4) ≤ (0 : Int32)
      · rw [if_pos b4]
        have h := h.1 b4
        refine mm_blk (M := mm_m_X10_firstBadByte) 2 (S' := (106, [.ref q0, .int x1, .int x2, .int x3, d4], [.int (σ q0 4)], σ)) (P := [mm_cl q0 = 8]) rfl ⟨c1, trivial⟩ ?_
        subst h
        exact mm_rt_ ⟨_, _, _, rfl, ⟨_, _, rfl, rfl, rfl, rfl⟩⟩
      · rw [if_neg b4]
        have h := h.2 b4
        refine mm_blk (M := mm_m_X10_firstBadByte) 2 (S' := (106, [.ref q0, .int x1, .int x2, .int x3, d4], [.int (-1 : Int32)], σ)) (P := []) rfl trivial ?_
        subst h
        exact mm_rt_ ⟨_, _, _, rfl, ⟨_, _, rfl, rfl, rfl, rfl⟩⟩
  · rw [if_neg b2]
    have h := h.2 b2
    refine mm_blk (M := mm_m_X10_firstBadByte) 2 (S' := (16, [.ref q0, .int x1, .int x2, .int x3, d4], [.int x3, .ref q0], σ)) (P := []) rfl trivial ?_
    obtain ⟨v7, σ5, e6, h⟩ := h
    refine mm_cl_ (rest := []) e6 ⟨_, _, _, rfl, rfl, mm_tb_X8_at, rfl, rfl, Nat.le_of_ble_eq_true rfl, Nat.le_of_ble_eq_true rfl, ⟨_, rfl, c1⟩⟩ ?_
    refine mm_blk (M := mm_m_X10_firstBadByte) 3 (S' := ((if x1 = (0 : Int32) then 46 else 25), [.ref q0, .int x1, .int x2, .int x3, .int v7], [], σ5)) (P := []) rfl trivial ?_
    by_cases b8 : x1 = (0 : Int32)
    · rw [if_pos b8]
      have h := h.1 b8
      refine mm_blk (M := mm_m_X10_firstBadByte) 2 (S' := ((if x2 ≤ (0 : Int32) then 70 else 50), [.ref q0, .int x1, .int x2, .int x3, .int v7], [], σ5)) (P := []) rfl trivial ?_
      by_cases b9 : x2 ≤ (0 : Int32)
      · rw [if_pos b9]
        have h := h.1 b9
        refine mm_blk (M := mm_m_X10_firstBadByte) 3 (S' := ((if v7 = (59 : Int32) then 79 else 77), [.ref q0, .int x1, .int x2, .int x3, .int v7], [], σ5)) (P := []) rfl trivial ?_
        by_cases b10 : v7 = (59 : Int32)
        · rw [if_pos b10]
          have h := h.1 b10
          refine mm_blk (M := mm_m_X10_firstBadByte) 4 (S' := (6, [.ref q0, .int (1 : Int32), .int x2, .int (x3 + (1 : Int32)), .int v7], [], σ5)) (P := []) rfl trivial ?_
          exact h
        · rw [if_neg b10]
          have h := h.2 b10
          refine mm_blk (M := mm_m_X10_firstBadByte) 1 (S' := (78, [.ref q0, .int x1, .int x2, .int x3, .int v7], [.int x3], σ5)) (P := []) rfl trivial ?_
          subst h
          exact mm_rt_ ⟨_, _, _, rfl, ⟨_, _, rfl, rfl, rfl, rfl⟩⟩
      · rw [if_neg b9]
        have h := h.2 b9
        refine mm_blk (M := mm_m_X10_firstBadByte) 3 (S' := (56, [.ref q0, .int x1, .int x2, .int x3, .int v7], [.int (57 : Int32), .int (48 : Int32), .int v7], σ5)) (P := []) rfl trivial ?_
        obtain ⟨v13, σ11, e12, h⟩ := h
        refine mm_cl_ (rest := []) e12 ⟨_, _, _, rfl, rfl, mm_tb_X10_isBetween, rfl, rfl, Nat.le_of_ble_eq_true rfl, Nat.le_of_ble_eq_true rfl, trivial⟩ ?_
        refine mm_blk (M := mm_m_X10_firstBadByte) 1 (S' := ((if ¬ v13 = (0 : Int32) then 64 else 62), [.ref q0, .int x1, .int x2, .int x3, .int v7], [], σ11)) (P := []) rfl trivial ?_
        by_cases b14 : ¬ v13 = (0 : Int32)
        · rw [if_pos b14]
          have h := h.1 b14
          refine mm_blk (M := mm_m_X10_firstBadByte) 4 (S' := (6, [.ref q0, .int x1, .int (x2 + (-1 : Int32)), .int (x3 + (1 : Int32)), .int v7], [], σ11)) (P := []) rfl trivial ?_
          exact h
        · rw [if_neg b14]
          have h := h.2 b14
          refine mm_blk (M := mm_m_X10_firstBadByte) 1 (S' := (63, [.ref q0, .int x1, .int x2, .int x3, .int v7], [.int x3], σ11)) (P := []) rfl trivial ?_
          subst h
          exact mm_rt_ ⟨_, _, _, rfl, ⟨_, _, rfl, rfl, rfl, rfl⟩⟩
    · rw [if_neg b8]
      have h := h.2 b8
      refine mm_blk (M := mm_m_X10_firstBadByte) 1 (S' := (27, [.ref q0, .int x1, .int x2, .int x3, .int v7], [.int v7], σ5)) (P := []) rfl trivial ?_
      obtain ⟨v17, σ15, e16, h⟩ := h
      refine mm_cl_ (rest := []) e16 ⟨_, _, _, rfl, rfl, mm_tb_X10_isLetter, rfl, rfl, Nat.le_of_ble_eq_true rfl, Nat.le_of_ble_eq_true rfl, trivial⟩ ?_
      refine mm_blk (M := mm_m_X10_firstBadByte) 1 (S' := ((if ¬ v17 = (0 : Int32) then 35 else 33), [.ref q0, .int x1, .int x2, .int x3, .int v7], [], σ15)) (P := []) rfl trivial ?_
      by_cases b18 : ¬ v17 = (0 : Int32)
      · rw [if_pos b18]
        have h := h.1 b18
        refine mm_blk (M := mm_m_X10_firstBadByte) 1 (S' := (37, [.ref q0, .int x1, .int x2, .int x3, .int v7], [.int v7], σ15)) (P := []) rfl trivial ?_
        obtain ⟨v21, σ19, e20, h⟩ := h
        refine mm_cl_ (rest := []) e20 ⟨_, _, _, rfl, rfl, mm_tb_X10_digitsBehind, rfl, rfl, Nat.le_of_ble_eq_true rfl, Nat.le_of_ble_eq_true rfl, trivial⟩ ?_
        refine mm_blk (M := mm_m_X10_firstBadByte) 6 (S' := (6, [.ref q0, .int (0 : Int32), .int v21, .int (x3 + (1 : Int32)), .int v7], [], σ19)) (P := []) rfl trivial ?_
        exact h
      · rw [if_neg b18]
        have h := h.2 b18
        refine mm_blk (M := mm_m_X10_firstBadByte) 1 (S' := (34, [.ref q0, .int x1, .int x2, .int x3, .int v7], [.int x3], σ15)) (P := []) rfl trivial ?_
        subst h
        exact mm_rt_ ⟨_, _, _, rfl, ⟨_, _, rfl, rfl, rfl, rfl⟩⟩
theorem sg_X10_thinkDaysOn_0 (σ : mm_Sg) (x1 : Int32) (R : Option Value × mm_Sg) (h : (∃ (σ1 : mm_Sg), mm_Ev mm_m_X1_becomeLike [.ref 24, .ref 10] σ none σ1 ∧ (∃ (σ3 : mm_Sg), mm_Ev mm_m_X1_goDays [.ref 24, .int x1] σ1 none σ3 ∧ (R = (none, σ3))))) : mm_Go mm_m_X10_thinkDaysOn (0, [.ref 0, .int x1], [], σ) R := by
  refine mm_blk (M := mm_m_X10_thinkDaysOn) 4 (S' := (8, [.ref 0, .int x1], [.ref 10, .ref 24], σ)) (P := [mm_cl 0 = 10, mm_cl 0 = 10]) rfl ⟨rfl, rfl, trivial⟩ ?_
  obtain ⟨σ1, e2, h⟩ := h
  refine mm_cl_ (rest := []) e2 ⟨_, _, _, rfl, rfl, mm_tb_X1_becomeLike, rfl, rfl, Nat.le_of_ble_eq_true rfl, Nat.le_of_ble_eq_true rfl, ⟨_, rfl, rfl⟩⟩ ?_
  refine mm_blk (M := mm_m_X10_thinkDaysOn) 3 (S' := (16, [.ref 0, .int x1], [.int x1, .ref 24], σ1)) (P := [mm_cl 0 = 10]) rfl ⟨rfl, trivial⟩ ?_
  obtain ⟨σ3, e4, h⟩ := h
  refine mm_cl_ (rest := []) e4 ⟨_, _, _, rfl, rfl, mm_tb_X1_goDays, rfl, rfl, Nat.le_of_ble_eq_true rfl, Nat.le_of_ble_eq_true rfl, ⟨_, rfl, rfl⟩⟩ ?_
  subst h
  exact mm_rt_ ⟨_, _, _, rfl, ⟨rfl, rfl, rfl⟩⟩
theorem sg_X10_owedBehindWithWaker_0 (σ : mm_Sg) (x1 : Int32) (x2 : Int32) (x3 : Int32) (R : Option Value × mm_Sg) (h : (∃ (σ1 : mm_Sg), mm_Ev mm_m_X1_becomeLike [.ref 24, .ref 10] σ none σ1 ∧ ((vp_in x1 (mm_len 27)) ∧ ∀ σ4 : mm_Sg, σ4 = mm_u σ1 27 x1.toNatClampNeg x2 → (∃ (σ6 : mm_Sg), mm_Ev mm_m_X1_goDays [.ref 24, .int x3] σ4 none σ6 ∧ (∃ (v10 : Int32) (σ8 : mm_Sg), mm_Ev mm_m_X1_owedInAll [.ref 24] σ6 (some (.int v10)) σ8 ∧ (R = (some (.int v10), σ8))))))) : mm_Go mm_m_X10_owedBehindWithWaker (0, [.ref 0, .int x1, .int x2, .int x3], [], σ) R := by
  refine mm_blk (M := mm_m_X10_owedBehindWithWaker) 4 (S' := (8, [.ref 0, .int x1, .int x2, .int x3], [.ref 10, .ref 24], σ)) (P := [mm_cl 0 = 10, mm_cl 0 = 10]) rfl ⟨rfl, rfl, trivial⟩ ?_
  obtain ⟨σ1, e2, h⟩ := h
  refine mm_cl_ (rest := []) e2 ⟨_, _, _, rfl, rfl, mm_tb_X1_becomeLike, rfl, rfl, Nat.le_of_ble_eq_true rfl, Nat.le_of_ble_eq_true rfl, ⟨_, rfl, rfl⟩⟩ ?_
  obtain ⟨c3, h⟩ := h
  refine mm_blk (M := mm_m_X10_owedBehindWithWaker) 6 (S' := (21, [.ref 0, .int x1, .int x2, .int x3], [], mm_u σ1 27 x1.toNatClampNeg x2)) (P := [mm_cl 0 = 10, mm_cl 24 = 1, vp_in x1 (mm_len 27)]) rfl ⟨rfl, rfl, c3, trivial⟩ ?_
  obtain ⟨σ4, e5⟩ : ∃ z, z = mm_u σ1 27 x1.toNatClampNeg x2 := ⟨_, rfl⟩
  rw [← e5]
  have h := h σ4 e5
  refine mm_blk (M := mm_m_X10_owedBehindWithWaker) 3 (S' := (26, [.ref 0, .int x1, .int x2, .int x3], [.int x3, .ref 24], σ4)) (P := [mm_cl 0 = 10]) rfl ⟨rfl, trivial⟩ ?_
  obtain ⟨σ6, e7, h⟩ := h
  refine mm_cl_ (rest := []) e7 ⟨_, _, _, rfl, rfl, mm_tb_X1_goDays, rfl, rfl, Nat.le_of_ble_eq_true rfl, Nat.le_of_ble_eq_true rfl, ⟨_, rfl, rfl⟩⟩ ?_
  refine mm_blk (M := mm_m_X10_owedBehindWithWaker) 2 (S' := (33, [.ref 0, .int x1, .int x2, .int x3], [.ref 24], σ6)) (P := [mm_cl 0 = 10]) rfl ⟨rfl, trivial⟩ ?_
  obtain ⟨v10, σ8, e9, h⟩ := h
  refine mm_cl_ (rest := []) e9 ⟨_, _, _, rfl, rfl, mm_tb_X1_owedInAll, rfl, rfl, Nat.le_of_ble_eq_true rfl, Nat.le_of_ble_eq_true rfl, ⟨_, rfl, rfl⟩⟩ ?_
  subst h
  exact mm_rt_ ⟨_, _, _, rfl, ⟨_, _, rfl, rfl, rfl, rfl⟩⟩
theorem sg_X10_owedBehindWithMilk_0 (σ : mm_Sg) (x1 : Int32) (x2 : Int32) (R : Option Value × mm_Sg) (h : (∃ (σ1 : mm_Sg), mm_Ev mm_m_X1_becomeLike [.ref 24, .ref 10] σ none σ1 ∧ (∀ σ3 : mm_Sg, σ3 = mm_u σ1 24 11 x1 → (∃ (σ5 : mm_Sg), mm_Ev mm_m_X1_goDays [.ref 24, .int x2] σ3 none σ5 ∧ (∃ (v9 : Int32) (σ7 : mm_Sg), mm_Ev mm_m_X1_owedInAll [.ref 24] σ5 (some (.int v9)) σ7 ∧ (R = (some (.int v9), σ7))))))) : mm_Go mm_m_X10_owedBehindWithMilk (0, [.ref 0, .int x1, .int x2], [], σ) R := by
  refine mm_blk (M := mm_m_X10_owedBehindWithMilk) 4 (S' := (8, [.ref 0, .int x1, .int x2], [.ref 10, .ref 24], σ)) (P := [mm_cl 0 = 10, mm_cl 0 = 10]) rfl ⟨rfl, rfl, trivial⟩ ?_
  obtain ⟨σ1, e2, h⟩ := h
  refine mm_cl_ (rest := []) e2 ⟨_, _, _, rfl, rfl, mm_tb_X1_becomeLike, rfl, rfl, Nat.le_of_ble_eq_true rfl, Nat.le_of_ble_eq_true rfl, ⟨_, rfl, rfl⟩⟩ ?_
  refine mm_blk (M := mm_m_X10_owedBehindWithMilk) 4 (S' := (19, [.ref 0, .int x1, .int x2], [], mm_u σ1 24 11 x1)) (P := [mm_cl 0 = 10, mm_cl 24 = 1]) rfl ⟨rfl, rfl, trivial⟩ ?_
  obtain ⟨σ3, e4⟩ : ∃ z, z = mm_u σ1 24 11 x1 := ⟨_, rfl⟩
  rw [← e4]
  have h := h σ3 e4
  refine mm_blk (M := mm_m_X10_owedBehindWithMilk) 3 (S' := (24, [.ref 0, .int x1, .int x2], [.int x2, .ref 24], σ3)) (P := [mm_cl 0 = 10]) rfl ⟨rfl, trivial⟩ ?_
  obtain ⟨σ5, e6, h⟩ := h
  refine mm_cl_ (rest := []) e6 ⟨_, _, _, rfl, rfl, mm_tb_X1_goDays, rfl, rfl, Nat.le_of_ble_eq_true rfl, Nat.le_of_ble_eq_true rfl, ⟨_, rfl, rfl⟩⟩ ?_
  refine mm_blk (M := mm_m_X10_owedBehindWithMilk) 2 (S' := (31, [.ref 0, .int x1, .int x2], [.ref 24], σ5)) (P := [mm_cl 0 = 10]) rfl ⟨rfl, trivial⟩ ?_
  obtain ⟨v9, σ7, e8, h⟩ := h
  refine mm_cl_ (rest := []) e8 ⟨_, _, _, rfl, rfl, mm_tb_X1_owedInAll, rfl, rfl, Nat.le_of_ble_eq_true rfl, Nat.le_of_ble_eq_true rfl, ⟨_, rfl, rfl⟩⟩ ?_
  subst h
  exact mm_rt_ ⟨_, _, _, rfl, ⟨_, _, rfl, rfl, rfl, rfl⟩⟩
theorem sg_X10_owedBehindWithout_0 (σ : mm_Sg) (x1 : Int32) (x2 : Int32) (R : Option Value × mm_Sg) (h : (∃ (σ1 : mm_Sg), mm_Ev mm_m_X1_becomeLike [.ref 24, .ref 10] σ none σ1 ∧ (∀ σ3 : mm_Sg, σ3 = mm_u σ1 24 7 ((σ1 24 7) ||| ((1 : Int32) <<< (x1 &&& 31))) → (∃ (σ5 : mm_Sg), mm_Ev mm_m_X1_goDays [.ref 24, .int x2] σ3 none σ5 ∧ (∃ (v9 : Int32) (σ7 : mm_Sg), mm_Ev mm_m_X1_owedInAll [.ref 24] σ5 (some (.int v9)) σ7 ∧ (R = (some (.int v9), σ7))))))) : mm_Go mm_m_X10_owedBehindWithout (0, [.ref 0, .int x1, .int x2], [], σ) R := by
  refine mm_blk (M := mm_m_X10_owedBehindWithout) 4 (S' := (8, [.ref 0, .int x1, .int x2], [.ref 10, .ref 24], σ)) (P := [mm_cl 0 = 10, mm_cl 0 = 10]) rfl ⟨rfl, rfl, trivial⟩ ?_
  obtain ⟨σ1, e2, h⟩ := h
  refine mm_cl_ (rest := []) e2 ⟨_, _, _, rfl, rfl, mm_tb_X1_becomeLike, rfl, rfl, Nat.le_of_ble_eq_true rfl, Nat.le_of_ble_eq_true rfl, ⟨_, rfl, rfl⟩⟩ ?_
  refine mm_blk (M := mm_m_X10_owedBehindWithout) 9 (S' := (26, [.ref 0, .int x1, .int x2], [], mm_u σ1 24 7 ((σ1 24 7) ||| ((1 : Int32) <<< (x1 &&& 31))))) (P := [mm_cl 0 = 10, mm_cl 24 = 1, mm_cl 24 = 1]) rfl ⟨rfl, rfl, rfl, trivial⟩ ?_
  obtain ⟨σ3, e4⟩ : ∃ z, z = mm_u σ1 24 7 ((σ1 24 7) ||| ((1 : Int32) <<< (x1 &&& 31))) := ⟨_, rfl⟩
  rw [← e4]
  have h := h σ3 e4
  refine mm_blk (M := mm_m_X10_owedBehindWithout) 3 (S' := (31, [.ref 0, .int x1, .int x2], [.int x2, .ref 24], σ3)) (P := [mm_cl 0 = 10]) rfl ⟨rfl, trivial⟩ ?_
  obtain ⟨σ5, e6, h⟩ := h
  refine mm_cl_ (rest := []) e6 ⟨_, _, _, rfl, rfl, mm_tb_X1_goDays, rfl, rfl, Nat.le_of_ble_eq_true rfl, Nat.le_of_ble_eq_true rfl, ⟨_, rfl, rfl⟩⟩ ?_
  refine mm_blk (M := mm_m_X10_owedBehindWithout) 2 (S' := (38, [.ref 0, .int x1, .int x2], [.ref 24], σ5)) (P := [mm_cl 0 = 10]) rfl ⟨rfl, trivial⟩ ?_
  obtain ⟨v9, σ7, e8, h⟩ := h
  refine mm_cl_ (rest := []) e8 ⟨_, _, _, rfl, rfl, mm_tb_X1_owedInAll, rfl, rfl, Nat.le_of_ble_eq_true rfl, Nat.le_of_ble_eq_true rfl, ⟨_, rfl, rfl⟩⟩ ?_
  subst h
  exact mm_rt_ ⟨_, _, _, rfl, ⟨_, _, rfl, rfl, rfl, rfl⟩⟩
theorem sg_X10_owedBehindKeeping_0 (σ : mm_Sg) (x1 : Int32) (x2 : Int32) (R : Option Value × mm_Sg) (h : (∃ (σ1 : mm_Sg), mm_Ev mm_m_X1_becomeLike [.ref 24, .ref 10] σ none σ1 ∧ (∀ σ3 : mm_Sg, σ3 = mm_u σ1 24 13 ((31 : Int32) &&& (x1 ^^^ (-1 : Int32))) → (∀ σ5 : mm_Sg, σ5 = mm_u σ3 24 7 ((σ3 24 7) ||| (σ3 24 13)) → (∃ (σ7 : mm_Sg), mm_Ev mm_m_X1_goDays [.ref 24, .int x2] σ5 none σ7 ∧ (∃ (v11 : Int32) (σ9 : mm_Sg), mm_Ev mm_m_X1_owedInAll [.ref 24] σ7 (some (.int v11)) σ9 ∧ (R = (some (.int v11), σ9)))))))) : mm_Go mm_m_X10_owedBehindKeeping (0, [.ref 0, .int x1, .int x2], [], σ) R := by
  refine mm_blk (M := mm_m_X10_owedBehindKeeping) 4 (S' := (8, [.ref 0, .int x1, .int x2], [.ref 10, .ref 24], σ)) (P := [mm_cl 0 = 10, mm_cl 0 = 10]) rfl ⟨rfl, rfl, trivial⟩ ?_
  obtain ⟨σ1, e2, h⟩ := h
  refine mm_cl_ (rest := []) e2 ⟨_, _, _, rfl, rfl, mm_tb_X1_becomeLike, rfl, rfl, Nat.le_of_ble_eq_true rfl, Nat.le_of_ble_eq_true rfl, ⟨_, rfl, rfl⟩⟩ ?_
  refine mm_blk (M := mm_m_X10_owedBehindKeeping) 8 (S' := (24, [.ref 0, .int x1, .int x2], [], mm_u σ1 24 13 ((31 : Int32) &&& (x1 ^^^ (-1 : Int32))))) (P := [mm_cl 0 = 10, mm_cl 24 = 1]) rfl ⟨rfl, rfl, trivial⟩ ?_
  obtain ⟨σ3, e4⟩ : ∃ z, z = mm_u σ1 24 13 ((31 : Int32) &&& (x1 ^^^ (-1 : Int32))) := ⟨_, rfl⟩
  rw [← e4]
  have h := h σ3 e4
  refine mm_blk (M := mm_m_X10_owedBehindKeeping) 9 (S' := (43, [.ref 0, .int x1, .int x2], [], mm_u σ3 24 7 ((σ3 24 7) ||| (σ3 24 13)))) (P := [mm_cl 0 = 10, mm_cl 24 = 1, mm_cl 0 = 10, mm_cl 24 = 1, mm_cl 24 = 1]) rfl ⟨rfl, rfl, rfl, rfl, rfl, trivial⟩ ?_
  obtain ⟨σ5, e6⟩ : ∃ z, z = mm_u σ3 24 7 ((σ3 24 7) ||| (σ3 24 13)) := ⟨_, rfl⟩
  rw [← e6]
  have h := h σ5 e6
  refine mm_blk (M := mm_m_X10_owedBehindKeeping) 3 (S' := (48, [.ref 0, .int x1, .int x2], [.int x2, .ref 24], σ5)) (P := [mm_cl 0 = 10]) rfl ⟨rfl, trivial⟩ ?_
  obtain ⟨σ7, e8, h⟩ := h
  refine mm_cl_ (rest := []) e8 ⟨_, _, _, rfl, rfl, mm_tb_X1_goDays, rfl, rfl, Nat.le_of_ble_eq_true rfl, Nat.le_of_ble_eq_true rfl, ⟨_, rfl, rfl⟩⟩ ?_
  refine mm_blk (M := mm_m_X10_owedBehindKeeping) 2 (S' := (55, [.ref 0, .int x1, .int x2], [.ref 24], σ7)) (P := [mm_cl 0 = 10]) rfl ⟨rfl, trivial⟩ ?_
  obtain ⟨v11, σ9, e10, h⟩ := h
  refine mm_cl_ (rest := []) e10 ⟨_, _, _, rfl, rfl, mm_tb_X1_owedInAll, rfl, rfl, Nat.le_of_ble_eq_true rfl, Nat.le_of_ble_eq_true rfl, ⟨_, rfl, rfl⟩⟩ ?_
  subst h
  exact mm_rt_ ⟨_, _, _, rfl, ⟨_, _, rfl, rfl, rfl, rfl⟩⟩
theorem sg_X10_owedBehindFalls_0 (σ : mm_Sg) (x1 : Int32) (x2 : Int32) (R : Option Value × mm_Sg) (h : (∃ (σ1 : mm_Sg), mm_Ev mm_m_X1_becomeLike [.ref 24, .ref 10] σ none σ1 ∧ mm_Go mm_m_X10_owedBehindFalls (13, [.ref 0, .int x1, .int x2, .int (0 : Int32)], [], σ1) R)) : mm_Go mm_m_X10_owedBehindFalls (0, [.ref 0, .int x1, .int x2, .null], [], σ) R := by
  refine mm_blk (M := mm_m_X10_owedBehindFalls) 4 (S' := (8, [.ref 0, .int x1, .int x2, .null], [.ref 10, .ref 24], σ)) (P := [mm_cl 0 = 10, mm_cl 0 = 10]) rfl ⟨rfl, rfl, trivial⟩ ?_
  obtain ⟨σ1, e2, h⟩ := h
  refine mm_cl_ (rest := []) e2 ⟨_, _, _, rfl, rfl, mm_tb_X1_becomeLike, rfl, rfl, Nat.le_of_ble_eq_true rfl, Nat.le_of_ble_eq_true rfl, ⟨_, rfl, rfl⟩⟩ ?_
  refine mm_blk (M := mm_m_X10_owedBehindFalls) 2 (S' := (13, [.ref 0, .int x1, .int x2, .int (0 : Int32)], [], σ1)) (P := []) rfl trivial ?_
  exact h
theorem sg_X10_owedBehindFalls_13 (σ : mm_Sg) (x1 : Int32) (x2 : Int32) (x3 : Int32) (R : Option Value × mm_Sg) (h : (((x1 ≤ x3 → (∃ (v4 : Int32) (σ2 : mm_Sg), mm_Ev mm_m_X1_owedInAll [.ref 24] σ (some (.int v4)) σ2 ∧ (R = (some (.int v4), σ2)))) ∧ (¬ (x1 ≤ x3) → (((((x2 >>> (x3 &&& 31)) &&& (1 : Int32)) = (0 : Int32) → (∃ (σ6 : mm_Sg), mm_Ev mm_m_X1_goDays [.ref 24, .int (1 : Int32)] σ none σ6 ∧ mm_Go mm_m_X10_owedBehindFalls (13, [.ref 0, .int x1, .int x2, .int (x3 + (1 : Int32))], [], σ6) R)) ∧ (¬ (((x2 >>> (x3 &&& 31)) &&& (1 : Int32)) = (0 : Int32)) → (∀ σ8 : mm_Sg, σ8 = mm_u σ 24 7 (31 : Int32) → (∃ (σ10 : mm_Sg), mm_Ev mm_m_X1_goDays [.ref 24, .int (1 : Int32)] σ8 none σ10 ∧ mm_Go mm_m_X10_owedBehindFalls (13, [.ref 0, .int x1, .int x2, .int (x3 + (1 : Int32))], [], σ10) R))))))))) : mm_Go mm_m_X10_owedBehindFalls (13, [.ref 0, .int x1, .int x2, .int x3], [], σ) R := by
  refine mm_blk (M := mm_m_X10_owedBehindFalls) 3 (S' := ((if x1 ≤ x3 then 49 else 18), [.ref 0, .int x1, .int x2, .int x3], [], σ)) (P := []) rfl trivial ?_
  by_cases b1 : x1 ≤ x3
  · rw [if_pos b1]
    have h := h.1 b1
    refine mm_blk (M := mm_m_X10_owedBehindFalls) 2 (S' := (53, [.ref 0, .int x1, .int x2, .int x3], [.ref 24], σ)) (P := [mm_cl 0 = 10]) rfl ⟨rfl, trivial⟩ ?_
    obtain ⟨v4, σ2, e3, h⟩ := h
    refine mm_cl_ (rest := []) e3 ⟨_, _, _, rfl, rfl, mm_tb_X1_owedInAll, rfl, rfl, Nat.le_of_ble_eq_true rfl, Nat.le_of_ble_eq_true rfl, ⟨_, rfl, rfl⟩⟩ ?_
    subst h
    exact mm_rt_ ⟨_, _, _, rfl, ⟨_, _, rfl, rfl, rfl, rfl⟩⟩
  · rw [if_neg b1]
    have h := h.2 b1
    refine mm_blk (M := mm_m_X10_owedBehindFalls) 6 (S' := ((if ((x2 >>> (x3 &&& 31)) &&& (1 : Int32)) = (0 : Int32) then 35 else 26), [.ref 0, .int x1, .int x2, .int x3], [], σ)) (P := []) rfl trivial ?_
    by_cases b5 : ((x2 >>> (x3 &&& 31)) &&& (1 : Int32)) = (0 : Int32)
    · rw [if_pos b5]
      have h := h.1 b5
      refine mm_blk (M := mm_m_X10_owedBehindFalls) 3 (S' := (40, [.ref 0, .int x1, .int x2, .int x3], [.int (1 : Int32), .ref 24], σ)) (P := [mm_cl 0 = 10]) rfl ⟨rfl, trivial⟩ ?_
      obtain ⟨σ6, e7, h⟩ := h
      refine mm_cl_ (rest := []) e7 ⟨_, _, _, rfl, rfl, mm_tb_X1_goDays, rfl, rfl, Nat.le_of_ble_eq_true rfl, Nat.le_of_ble_eq_true rfl, ⟨_, rfl, rfl⟩⟩ ?_
      refine mm_blk (M := mm_m_X10_owedBehindFalls) 2 (S' := (13, [.ref 0, .int x1, .int x2, .int (x3 + (1 : Int32))], [], σ6)) (P := []) rfl trivial ?_
      exact h
    · rw [if_neg b5]
      have h := h.2 b5
      refine mm_blk (M := mm_m_X10_owedBehindFalls) 4 (S' := (35, [.ref 0, .int x1, .int x2, .int x3], [], mm_u σ 24 7 (31 : Int32))) (P := [mm_cl 0 = 10, mm_cl 24 = 1]) rfl ⟨rfl, rfl, trivial⟩ ?_
      obtain ⟨σ8, e9⟩ : ∃ z, z = mm_u σ 24 7 (31 : Int32) := ⟨_, rfl⟩
      rw [← e9]
      have h := h σ8 e9
      refine mm_blk (M := mm_m_X10_owedBehindFalls) 3 (S' := (40, [.ref 0, .int x1, .int x2, .int x3], [.int (1 : Int32), .ref 24], σ8)) (P := [mm_cl 0 = 10]) rfl ⟨rfl, trivial⟩ ?_
      obtain ⟨σ10, e11, h⟩ := h
      refine mm_cl_ (rest := []) e11 ⟨_, _, _, rfl, rfl, mm_tb_X1_goDays, rfl, rfl, Nat.le_of_ble_eq_true rfl, Nat.le_of_ble_eq_true rfl, ⟨_, rfl, rfl⟩⟩ ?_
      refine mm_blk (M := mm_m_X10_owedBehindFalls) 2 (S' := (13, [.ref 0, .int x1, .int x2, .int (x3 + (1 : Int32))], [], σ10)) (P := []) rfl trivial ?_
      exact h
theorem sg_X10_mindOwesAsTold_0 (σ : mm_Sg) (x1 : Int32) (q2 : Nat) (R : Option Value × mm_Sg) (h : mm_Go mm_m_X10_mindOwesAsTold (2, [.ref 0, .int x1, .ref q2, .int (0 : Int32)], [], σ) R) : mm_Go mm_m_X10_mindOwesAsTold (0, [.ref 0, .int x1, .ref q2, .null], [], σ) R := by
  refine mm_blk (M := mm_m_X10_mindOwesAsTold) 2 (S' := (2, [.ref 0, .int x1, .ref q2, .int (0 : Int32)], [], σ)) (P := []) rfl trivial ?_
  exact h
theorem sg_X10_mindOwesAsTold_2 (σ : mm_Sg) (x1 : Int32) (q2 : Nat) (x3 : Int32) (R : Option Value × mm_Sg) (h : ((mm_cl q2 = 8) ∧ (((σ q2 4) ≤ x3 → (R = (some (.int (1 : Int32)), σ))) ∧ (¬ ((σ q2 4) ≤ x3) → ((vp_in x1 (mm_len 28)) ∧ ∃ (v6 : Int32) (σ4 : mm_Sg), mm_Ev mm_m_X8_allows [.ref q2, .int x3, .int (σ 28 x1.toNatClampNeg)] σ (some (.int v6)) σ4 ∧ (((¬ v6 = (0 : Int32) → (∃ (σ8 : mm_Sg), mm_Ev mm_m_X1_goDays [.ref 24, .int (1 : Int32)] σ4 none σ8 ∧ mm_Go mm_m_X10_mindOwesAsTold (2, [.ref 0, .int x1, .ref q2, .int (x3 + (1 : Int32))], [], σ8) R)) ∧ (¬ (¬ v6 = (0 : Int32)) → (R = (some (.int (0 : Int32)), σ4)))))))))) : mm_Go mm_m_X10_mindOwesAsTold (2, [.ref 0, .int x1, .ref q2, .int x3], [], σ) R := by
  obtain ⟨c1, h⟩ := h
  refine mm_blk (M := mm_m_X10_mindOwesAsTold) 4 (S' := ((if (σ q2 4) ≤ x3 then 43 else 10), [.ref 0, .int x1, .ref q2, .int x3], [], σ)) (P := [mm_cl q2 = 8]) rfl ⟨c1, trivial⟩ ?_
  by_cases b2 : (σ q2 4) ≤ x3
  · rw [if_pos b2]
    have h := h.1 b2
    refine mm_blk (M := mm_m_X10_mindOwesAsTold) 1 (S' := (44, [.ref 0, .int x1, .ref q2, .int x3], [.int (1 : Int32)], σ)) (P := []) rfl trivial ?_
    subst h
    exact mm_rt_ ⟨_, _, _, rfl, ⟨_, _, rfl, rfl, rfl, rfl⟩⟩
  · rw [if_neg b2]
    have h := h.2 b2
    obtain ⟨c3, h⟩ := h
    refine mm_blk (M := mm_m_X10_mindOwesAsTold) 7 (S' := (21, [.ref 0, .int x1, .ref q2, .int x3], [.int (σ 28 x1.toNatClampNeg), .int x3, .ref q2], σ)) (P := [mm_cl 0 = 10, mm_cl 24 = 1, vp_in x1 (mm_len 28)]) rfl ⟨rfl, rfl, c3, trivial⟩ ?_
    obtain ⟨v6, σ4, e5, h⟩ := h
    refine mm_cl_ (rest := []) e5 ⟨_, _, _, rfl, rfl, mm_tb_X8_allows, rfl, rfl, Nat.le_of_ble_eq_true rfl, Nat.le_of_ble_eq_true rfl, ⟨_, rfl, c1⟩⟩ ?_
    refine mm_blk (M := mm_m_X10_mindOwesAsTold) 1 (S' := ((if ¬ v6 = (0 : Int32) then 29 else 27), [.ref 0, .int x1, .ref q2, .int x3], [], σ4)) (P := []) rfl trivial ?_
    by_cases b7 : ¬ v6 = (0 : Int32)
    · rw [if_pos b7]
      have h := h.1 b7
      refine mm_blk (M := mm_m_X10_mindOwesAsTold) 3 (S' := (34, [.ref 0, .int x1, .ref q2, .int x3], [.int (1 : Int32), .ref 24], σ4)) (P := [mm_cl 0 = 10]) rfl ⟨rfl, trivial⟩ ?_
      obtain ⟨σ8, e9, h⟩ := h
      refine mm_cl_ (rest := []) e9 ⟨_, _, _, rfl, rfl, mm_tb_X1_goDays, rfl, rfl, Nat.le_of_ble_eq_true rfl, Nat.le_of_ble_eq_true rfl, ⟨_, rfl, rfl⟩⟩ ?_
      refine mm_blk (M := mm_m_X10_mindOwesAsTold) 2 (S' := (2, [.ref 0, .int x1, .ref q2, .int (x3 + (1 : Int32))], [], σ8)) (P := []) rfl trivial ?_
      exact h
    · rw [if_neg b7]
      have h := h.2 b7
      refine mm_blk (M := mm_m_X10_mindOwesAsTold) 1 (S' := (28, [.ref 0, .int x1, .ref q2, .int x3], [.int (0 : Int32)], σ4)) (P := []) rfl trivial ?_
      subst h
      exact mm_rt_ ⟨_, _, _, rfl, ⟨_, _, rfl, rfl, rfl, rfl⟩⟩
theorem sg_X10_gainInMind_0 (σ : mm_Sg) (x1 : Int32) (R : Option Value × mm_Sg) (h : ((vp_in x1 (mm_len 30)) ∧ (vp_in x1 (mm_len 28)) ∧ (vp_in x1 (mm_len 14)) ∧ R = (some (.int ((σ 30 x1.toNatClampNeg) - (((σ 28 x1.toNatClampNeg) - (σ 14 x1.toNatClampNeg)) / (2 : Int32)))), σ))) : mm_Go mm_m_X10_gainInMind (0, [.ref 0, .int x1], [], σ) R := by
  obtain ⟨c1, h⟩ := h
  obtain ⟨c2, h⟩ := h
  obtain ⟨c3, h⟩ := h
  refine mm_blk (M := mm_m_X10_gainInMind) 19 (S' := (31, [.ref 0, .int x1], [.int ((σ 30 x1.toNatClampNeg) - (((σ 28 x1.toNatClampNeg) - (σ 14 x1.toNatClampNeg)) / (2 : Int32)))], σ)) (P := [mm_cl 0 = 10, mm_cl 24 = 1, vp_in x1 (mm_len 30), mm_cl 0 = 10, mm_cl 24 = 1, vp_in x1 (mm_len 28), mm_cl 0 = 10, mm_cl 10 = 1, vp_in x1 (mm_len 14), ¬ (2 : Int32) = 0]) rfl ⟨rfl, rfl, c1, rfl, rfl, c2, rfl, rfl, c3, (by decide), trivial⟩ ?_
  subst h
  exact mm_rt_ ⟨_, _, _, rfl, ⟨_, _, rfl, rfl, rfl, rfl⟩⟩
theorem sg_X10_fillDrunkBehind_0 (σ : mm_Sg) (R : Option Value × mm_Sg) (h : mm_Go mm_m_X10_fillDrunkBehind (4, [.ref 0, .int (0 : Int32), .int (0 : Int32)], [], σ) R) : mm_Go mm_m_X10_fillDrunkBehind (0, [.ref 0, .null, .null], [], σ) R := by
  refine mm_blk (M := mm_m_X10_fillDrunkBehind) 4 (S' := (4, [.ref 0, .int (0 : Int32), .int (0 : Int32)], [], σ)) (P := []) rfl trivial ?_
  exact h
theorem sg_X10_fillDrunkBehind_4 (σ : mm_Sg) (x1 : Int32) (x2 : Int32) (R : Option Value × mm_Sg) (h : ((((100 : Int32) ≤ x2 → (R = (none, σ))) ∧ (¬ ((100 : Int32) ≤ x2) → (∃ (v4 : Int32) (σ2 : mm_Sg), mm_Ev mm_m_X1_thirstOfAll [.ref 10, .int (((σ 10 9) + x2) + (1 : Int32))] σ (some (.int v4)) σ2 ∧ ((vp_in x2 (mm_len 49)) ∧ ∀ σ6 : mm_Sg, σ6 = mm_u σ2 49 x2.toNatClampNeg (x1 + v4) → mm_Go mm_m_X10_fillDrunkBehind (4, [.ref 0, .int (x1 + v4), .int (x2 + (1 : Int32))], [], σ6) R)))))) : mm_Go mm_m_X10_fillDrunkBehind (4, [.ref 0, .int x1, .int x2], [], σ) R := by
  refine mm_blk (M := mm_m_X10_fillDrunkBehind) 3 (S' := ((if (100 : Int32) ≤ x2 then 44 else 10), [.ref 0, .int x1, .int x2], [], σ)) (P := []) rfl trivial ?_
  by_cases b1 : (100 : Int32) ≤ x2
  · rw [if_pos b1]
    have h := h.1 b1
    subst h
    exact mm_rt_ ⟨_, _, _, rfl, ⟨rfl, rfl, rfl⟩⟩
  · rw [if_neg b1]
    have h := h.2 b1
    refine mm_blk (M := mm_m_X10_fillDrunkBehind) 10 (S' := (26, [.ref 0, .int x1, .int x2], [.int (((σ 10 9) + x2) + (1 : Int32)), .ref 10, .int x1], σ)) (P := [mm_cl 0 = 10, mm_cl 0 = 10, mm_cl 10 = 1]) rfl ⟨rfl, rfl, rfl, trivial⟩ ?_
    obtain ⟨v4, σ2, e3, h⟩ := h
    refine mm_cl_ (rest := [.int x1]) e3 ⟨_, _, _, rfl, rfl, mm_tb_X1_thirstOfAll, rfl, rfl, Nat.le_of_ble_eq_true rfl, Nat.le_of_ble_eq_true rfl, ⟨_, rfl, rfl⟩⟩ ?_
    obtain ⟨c5, h⟩ := h
    refine mm_blk (M := mm_m_X10_fillDrunkBehind) 7 (S' := (38, [.ref 0, .int (x1 + v4), .int x2], [], mm_u σ2 49 x2.toNatClampNeg (x1 + v4))) (P := [mm_cl 0 = 10, vp_in x2 (mm_len 49)]) rfl ⟨rfl, c5, trivial⟩ ?_
    obtain ⟨σ6, e7⟩ : ∃ z, z = mm_u σ2 49 x2.toNatClampNeg (x1 + v4) := ⟨_, rfl⟩
    rw [← e7]
    have h := h σ6 e7
    refine mm_blk (M := mm_m_X10_fillDrunkBehind) 2 (S' := (4, [.ref 0, .int (x1 + v4), .int (x2 + (1 : Int32))], [], σ6)) (P := []) rfl trivial ?_
    exact h
theorem sg_X10_bagsGoAsTold_0 (σ : mm_Sg) (x1 : Int32) (q2 : Nat) (R : Option Value × mm_Sg) (h : mm_Go mm_m_X10_bagsGoAsTold (2, [.ref 0, .int x1, .ref q2, .int (0 : Int32)], [], σ) R) : mm_Go mm_m_X10_bagsGoAsTold (0, [.ref 0, .int x1, .ref q2, .null], [], σ) R := by
  refine mm_blk (M := mm_m_X10_bagsGoAsTold) 2 (S' := (2, [.ref 0, .int x1, .ref q2, .int (0 : Int32)], [], σ)) (P := []) rfl trivial ?_
  exact h
theorem sg_X10_bagsGoAsTold_2 (σ : mm_Sg) (x1 : Int32) (q2 : Nat) (x3 : Int32) (R : Option Value × mm_Sg) (h : ((mm_cl q2 = 8) ∧ (((σ q2 4) ≤ x3 → (R = (some (.int (1 : Int32)), σ))) ∧ (¬ ((σ q2 4) ≤ x3) → ((((100 : Int32) ≤ x3 → (R = (some (.int (1 : Int32)), σ))) ∧ (¬ ((100 : Int32) ≤ x3) → ((vp_in x3 (mm_len 49)) ∧ ∃ (v7 : Int32) (σ5 : mm_Sg), mm_Ev mm_m_X8_allows [.ref q2, .int x3, .int (if (0 : Int32) < (x1 - (σ 49 x3.toNatClampNeg)) then (x1 - (σ 49 x3.toNatClampNeg)) else (0 : Int32))] σ (some (.int v7)) σ5 ∧ (((¬ v7 = (0 : Int32) → mm_Go mm_m_X10_bagsGoAsTold (2, [.ref 0, .int x1, .ref q2, .int (x3 + (1 : Int32))], [], σ5) R) ∧ (¬ (¬ v7 = (0 : Int32)) → (R = (some (.int (0 : Int32)), σ5))))))))))))) : mm_Go mm_m_X10_bagsGoAsTold (2, [.ref 0, .int x1, .ref q2, .int x3], [], σ) R := by
  obtain ⟨c1, h⟩ := h
  refine mm_blk (M := mm_m_X10_bagsGoAsTold) 4 (S' := ((if (σ q2 4) ≤ x3 then 44 else 10), [.ref 0, .int x1, .ref q2, .int x3], [], σ)) (P := [mm_cl q2 = 8]) rfl ⟨c1, trivial⟩ ?_
  by_cases b2 : (σ q2 4) ≤ x3
  · rw [if_pos b2]
    have h := h.1 b2
    refine mm_blk (M := mm_m_X10_bagsGoAsTold) 1 (S' := (45, [.ref 0, .int x1, .ref q2, .int x3], [.int (1 : Int32)], σ)) (P := []) rfl trivial ?_
    subst h
    exact mm_rt_ ⟨_, _, _, rfl, ⟨_, _, rfl, rfl, rfl, rfl⟩⟩
  · rw [if_neg b2]
    have h := h.2 b2
    refine mm_blk (M := mm_m_X10_bagsGoAsTold) 3 (S' := ((if (100 : Int32) ≤ x3 then 44 else 16), [.ref 0, .int x1, .ref q2, .int x3], [], σ)) (P := []) rfl trivial ?_
    by_cases b3 : (100 : Int32) ≤ x3
    · rw [if_pos b3]
      have h := h.1 b3
      refine mm_blk (M := mm_m_X10_bagsGoAsTold) 1 (S' := (45, [.ref 0, .int x1, .ref q2, .int x3], [.int (1 : Int32)], σ)) (P := []) rfl trivial ?_
      subst h
      exact mm_rt_ ⟨_, _, _, rfl, ⟨_, _, rfl, rfl, rfl, rfl⟩⟩
    · rw [if_neg b3]
      have h := h.2 b3
      obtain ⟨c4, h⟩ := h
      refine mm_blk (M := mm_m_X10_bagsGoAsTold) 10 (S' := (30, [.ref 0, .int x1, .ref q2, .int x3], [.int (if (0 : Int32) < (x1 - (σ 49 x3.toNatClampNeg)) then (x1 - (σ 49 x3.toNatClampNeg)) else (0 : Int32)), .int x3, .ref q2], σ)) (P := [mm_cl 0 = 10, vp_in x3 (mm_len 49)]) rfl ⟨rfl, c4, trivial⟩ ?_
      obtain ⟨v7, σ5, e6, h⟩ := h
      refine mm_cl_ (rest := []) e6 ⟨_, _, _, rfl, rfl, mm_tb_X8_allows, rfl, rfl, Nat.le_of_ble_eq_true rfl, Nat.le_of_ble_eq_true rfl, ⟨_, rfl, c1⟩⟩ ?_
      refine mm_blk (M := mm_m_X10_bagsGoAsTold) 1 (S' := ((if ¬ v7 = (0 : Int32) then 38 else 36), [.ref 0, .int x1, .ref q2, .int x3], [], σ5)) (P := []) rfl trivial ?_
      by_cases b8 : ¬ v7 = (0 : Int32)
      · rw [if_pos b8]
        have h := h.1 b8
        refine mm_blk (M := mm_m_X10_bagsGoAsTold) 2 (S' := (2, [.ref 0, .int x1, .ref q2, .int (x3 + (1 : Int32))], [], σ5)) (P := []) rfl trivial ?_
        exact h
      · rw [if_neg b8]
        have h := h.2 b8
        refine mm_blk (M := mm_m_X10_bagsGoAsTold) 1 (S' := (37, [.ref 0, .int x1, .ref q2, .int x3], [.int (0 : Int32)], σ5)) (P := []) rfl trivial ?_
        subst h
        exact mm_rt_ ⟨_, _, _, rfl, ⟨_, _, rfl, rfl, rfl, rfl⟩⟩
theorem sg_X10_matchCell_0 (σ : mm_Sg) (x0 : Int32) (x1 : Int32) (R : Option Value × mm_Sg) (h : (∃ (v3 : Int32) (σ1 : mm_Sg), mm_Ev mm_m_X10_isBetween [.int x0, .int (0 : Int32), .int (7 : Int32)] σ (some (.int v3)) σ1 ∧ (((v3 = (0 : Int32) → (R = (some (.int (0 : Int32)), σ1))) ∧ (¬ (v3 = (0 : Int32)) → (∃ (v7 : Int32) (σ5 : mm_Sg), mm_Ev mm_m_X10_isBetween [.int x1, .int (0 : Int32), .int (31 : Int32)] σ1 (some (.int v7)) σ5 ∧ (((v7 = (0 : Int32) → (R = (some (.int (0 : Int32)), σ5))) ∧ (¬ (v7 = (0 : Int32)) → (R = (some (.int ((x0 * (32 : Int32)) + x1)), σ5))))))))))) : mm_Go mm_m_X10_matchCell (0, [.int x0, .int x1], [], σ) R := by
  refine mm_blk (M := mm_m_X10_matchCell) 3 (S' := (4, [.int x0, .int x1], [.int (7 : Int32), .int (0 : Int32), .int x0], σ)) (P := []) rfl trivial ?_
  obtain ⟨v3, σ1, e2, h⟩ := h
  refine mm_cl_ (rest := []) e2 ⟨_, _, _, rfl, rfl, mm_tb_X10_isBetween, rfl, rfl, Nat.le_of_ble_eq_true rfl, Nat.le_of_ble_eq_true rfl, trivial⟩ ?_
  refine mm_blk (M := mm_m_X10_matchCell) 1 (S' := ((if v3 = (0 : Int32) then 29 else 10), [.int x0, .int x1], [], σ1)) (P := []) rfl trivial ?_
  by_cases b4 : v3 = (0 : Int32)
  · rw [if_pos b4]
    have h := h.1 b4
    refine mm_blk (M := mm_m_X10_matchCell) 1 (S' := (30, [.int x0, .int x1], [.int (0 : Int32)], σ1)) (P := []) rfl trivial ?_
    subst h
    exact mm_rt_ ⟨_, _, _, rfl, ⟨_, _, rfl, rfl, rfl, rfl⟩⟩
  · rw [if_neg b4]
    have h := h.2 b4
    refine mm_blk (M := mm_m_X10_matchCell) 3 (S' := (14, [.int x0, .int x1], [.int (31 : Int32), .int (0 : Int32), .int x1], σ1)) (P := []) rfl trivial ?_
    obtain ⟨v7, σ5, e6, h⟩ := h
    refine mm_cl_ (rest := []) e6 ⟨_, _, _, rfl, rfl, mm_tb_X10_isBetween, rfl, rfl, Nat.le_of_ble_eq_true rfl, Nat.le_of_ble_eq_true rfl, trivial⟩ ?_
    refine mm_blk (M := mm_m_X10_matchCell) 1 (S' := ((if v7 = (0 : Int32) then 29 else 20), [.int x0, .int x1], [], σ5)) (P := []) rfl trivial ?_
    by_cases b8 : v7 = (0 : Int32)
    · rw [if_pos b8]
      have h := h.1 b8
      refine mm_blk (M := mm_m_X10_matchCell) 1 (S' := (30, [.int x0, .int x1], [.int (0 : Int32)], σ5)) (P := []) rfl trivial ?_
      subst h
      exact mm_rt_ ⟨_, _, _, rfl, ⟨_, _, rfl, rfl, rfl, rfl⟩⟩
    · rw [if_neg b8]
      have h := h.2 b8
      refine mm_blk (M := mm_m_X10_matchCell) 6 (S' := (30, [.int x0, .int x1], [.int ((x0 * (32 : Int32)) + x1)], σ5)) (P := []) rfl trivial ?_
      subst h
      exact mm_rt_ ⟨_, _, _, rfl, ⟨_, _, rfl, rfl, rfl, rfl⟩⟩
theorem sg_X10_mostWokenFrom_0 (σ : mm_Sg) (x1 : Int32) (x2 : Int32) (R : Option Value × mm_Sg) (h : (∃ (v3 : Int32) (σ1 : mm_Sg), mm_Ev mm_m_X10_matchCell [.int x1, .int x2] σ (some (.int v3)) σ1 ∧ ((vp_in v3 (mm_len 48)) ∧ R = (some (.int (σ1 48 v3.toNatClampNeg)), σ1)))) : mm_Go mm_m_X10_mostWokenFrom (0, [.ref 0, .int x1, .int x2], [], σ) R := by
  refine mm_blk (M := mm_m_X10_mostWokenFrom) 4 (S' := (6, [.ref 0, .int x1, .int x2], [.int x2, .int x1, .ref 48], σ)) (P := [mm_cl 0 = 10]) rfl ⟨rfl, trivial⟩ ?_
  obtain ⟨v3, σ1, e2, h⟩ := h
  refine mm_cl_ (rest := [.ref 48]) e2 ⟨_, _, _, rfl, rfl, mm_tb_X10_matchCell, rfl, rfl, Nat.le_of_ble_eq_true rfl, Nat.le_of_ble_eq_true rfl, trivial⟩ ?_
  obtain ⟨c4, h⟩ := h
  refine mm_blk (M := mm_m_X10_mostWokenFrom) 1 (S' := (10, [.ref 0, .int x1, .int x2], [.int (σ1 48 v3.toNatClampNeg)], σ1)) (P := [vp_in v3 (mm_len 48)]) rfl ⟨c4, trivial⟩ ?_
  subst h
  exact mm_rt_ ⟨_, _, _, rfl, ⟨_, _, rfl, rfl, rfl, rfl⟩⟩
theorem sg_X10_fillMostWoken_0 (σ : mm_Sg) (R : Option Value × mm_Sg) (h : (∃ (σ1 : mm_Sg), mm_Ev mm_m_J7_fill_53178 [.ref 48, .int (0 : Int32)] σ none σ1 ∧ mm_Go mm_m_X10_fillMostWoken (18, [.ref 0, .int ((σ1 10 6) - (1 : Int32)), .null, .null, .null, .null], [], σ1) R)) : mm_Go mm_m_X10_fillMostWoken (0, [.ref 0, .null, .null, .null, .null, .null], [], σ) R := by
  refine mm_blk (M := mm_m_X10_fillMostWoken) 3 (S' := (5, [.ref 0, .null, .null, .null, .null, .null], [.int (0 : Int32), .ref 48], σ)) (P := [mm_cl 0 = 10]) rfl ⟨rfl, trivial⟩ ?_
  obtain ⟨σ1, e2, h⟩ := h
  refine mm_cl_ (rest := []) e2 ⟨_, _, _, rfl, rfl, mm_tb_J7_fill_53178, rfl, rfl, Nat.le_of_ble_eq_true rfl, Nat.le_of_ble_eq_true rfl, trivial⟩ ?_
  refine mm_blk (M := mm_m_X10_fillMostWoken) 6 (S' := (18, [.ref 0, .int ((σ1 10 6) - (1 : Int32)), .null, .null, .null, .null], [], σ1)) (P := [mm_cl 0 = 10, mm_cl 10 = 1]) rfl ⟨rfl, rfl, trivial⟩ ?_
  exact h
theorem sg_X10_fillMostWoken_18 (σ : mm_Sg) (x1 : Int32) (d2 : Value) (d3 : Value) (d4 : Value) (d5 : Value) (R : Option Value × mm_Sg) (h : (((x1 < (0 : Int32) → (R = (none, σ))) ∧ (¬ (x1 < (0 : Int32)) → (∃ (v4 : Int32) (σ2 : mm_Sg), mm_Ev mm_m_X1_thirstOf [.ref 10, .int x1, .int ((σ 10 9) + (1 : Int32))] σ (some (.int v4)) σ2 ∧ mm_Go mm_m_X10_fillMostWoken (42, [.ref 0, .int x1, .int v4, .int (0 : Int32), d4, d5], [], σ2) R))))) : mm_Go mm_m_X10_fillMostWoken (18, [.ref 0, .int x1, d2, d3, d4, d5], [], σ) R := by
  refine mm_blk (M := mm_m_X10_fillMostWoken) 2 (S' := ((if x1 < (0 : Int32) then 128 else 22), [.ref 0, .int x1, d2, d3, d4, d5], [], σ)) (P := []) rfl trivial ?_
  by_cases b1 : x1 < (0 : Int32)
  · rw [if_pos b1]
    have h := h.1 b1
    subst h
    exact mm_rt_ ⟨_, _, _, rfl, ⟨rfl, rfl, rfl⟩⟩
  · rw [if_neg b1]
    have h := h.2 b1
    refine mm_blk (M := mm_m_X10_fillMostWoken) 8 (S' := (36, [.ref 0, .int x1, d2, d3, d4, d5], [.int ((σ 10 9) + (1 : Int32)), .int x1, .ref 10], σ)) (P := [mm_cl 0 = 10, mm_cl 0 = 10, mm_cl 10 = 1]) rfl ⟨rfl, rfl, rfl, trivial⟩ ?_
    obtain ⟨v4, σ2, e3, h⟩ := h
    refine mm_cl_ (rest := []) e3 ⟨_, _, _, rfl, rfl, mm_tb_X1_thirstOf, rfl, rfl, Nat.le_of_ble_eq_true rfl, Nat.le_of_ble_eq_true rfl, ⟨_, rfl, rfl⟩⟩ ?_
    refine mm_blk (M := mm_m_X10_fillMostWoken) 3 (S' := (42, [.ref 0, .int x1, .int v4, .int (0 : Int32), d4, d5], [], σ2)) (P := []) rfl trivial ?_
    exact h
theorem sg_X10_fillMostWoken_42 (σ : mm_Sg) (x1 : Int32) (x2 : Int32) (x3 : Int32) (d4 : Value) (d5 : Value) (R : Option Value × mm_Sg) (h : ((((32 : Int32) ≤ x3 → mm_Go mm_m_X10_fillMostWoken (18, [.ref 0, .int (x1 + (-1 : Int32)), .int x2, .int x3, d4, d5], [], σ) R) ∧ (¬ ((32 : Int32) ≤ x3) → (∃ (v4 : Int32) (σ2 : mm_Sg), mm_Ev mm_m_X10_mostWokenFrom [.ref 0, .int (x1 + (1 : Int32)), .int x3] σ (some (.int v4)) σ2 ∧ mm_Go mm_m_X10_fillMostWoken (61, [.ref 0, .int x1, .int x2, .int x3, .int v4, .int (0 : Int32)], [], σ2) R))))) : mm_Go mm_m_X10_fillMostWoken (42, [.ref 0, .int x1, .int x2, .int x3, d4, d5], [], σ) R := by
  refine mm_blk (M := mm_m_X10_fillMostWoken) 3 (S' := ((if (32 : Int32) ≤ x3 then 122 else 48), [.ref 0, .int x1, .int x2, .int x3, d4, d5], [], σ)) (P := []) rfl trivial ?_
  by_cases b1 : (32 : Int32) ≤ x3
  · rw [if_pos b1]
    have h := h.1 b1
    refine mm_blk (M := mm_m_X10_fillMostWoken) 2 (S' := (18, [.ref 0, .int (x1 + (-1 : Int32)), .int x2, .int x3, d4, d5], [], σ)) (P := []) rfl trivial ?_
    exact h
  · rw [if_neg b1]
    have h := h.2 b1
    refine mm_blk (M := mm_m_X10_fillMostWoken) 5 (S' := (53, [.ref 0, .int x1, .int x2, .int x3, d4, d5], [.int x3, .int (x1 + (1 : Int32)), .ref 0], σ)) (P := []) rfl trivial ?_
    obtain ⟨v4, σ2, e3, h⟩ := h
    refine mm_cl_ (rest := []) e3 ⟨_, _, _, rfl, rfl, mm_tb_X10_mostWokenFrom, rfl, rfl, Nat.le_of_ble_eq_true rfl, Nat.le_of_ble_eq_true rfl, ⟨_, rfl, rfl⟩⟩ ?_
    refine mm_blk (M := mm_m_X10_fillMostWoken) 3 (S' := (61, [.ref 0, .int x1, .int x2, .int x3, .int v4, .int (0 : Int32)], [], σ2)) (P := []) rfl trivial ?_
    exact h
theorem sg_X10_fillMostWoken_61 (σ : mm_Sg) (x1 : Int32) (x2 : Int32) (x3 : Int32) (x4 : Int32) (x5 : Int32) (R : Option Value × mm_Sg) (h : ((((5 : Int32) ≤ x5 → (∃ (v4 : Int32) (σ2 : mm_Sg), mm_Ev mm_m_X10_matchCell [.int x1, .int x3] σ (some (.int v4)) σ2 ∧ ((vp_in v4 (mm_len 48)) ∧ ∀ σ6 : mm_Sg, σ6 = mm_u σ2 48 v4.toNatClampNeg x4 → mm_Go mm_m_X10_fillMostWoken (42, [.ref 0, .int x1, .int x2, .int (x3 + (1 : Int32)), .int x4, .int x5], [], σ6) R))) ∧ (¬ ((5 : Int32) ≤ x5) → (((¬ ((x3 >>> (x5 &&& 31)) &&& (1 : Int32)) = (0 : Int32) → mm_Go mm_m_X10_fillMostWoken (61, [.ref 0, .int x1, .int x2, .int x3, .int x4, .int (x5 + (1 : Int32))], [], σ) R) ∧ (¬ (¬ ((x3 >>> (x5 &&& 31)) &&& (1 : Int32)) = (0 : Int32)) → (∃ (v11 : Int32) (σ9 : mm_Sg), mm_Ev mm_m_X10_mostWokenFrom [.ref 0, .int (x1 + (1 : Int32)), .int (x3 ||| ((1 : Int32) <<< (x5 &&& 31)))] σ (some (.int v11)) σ9 ∧ mm_Go mm_m_X10_fillMostWoken (61, [.ref 0, .int x1, .int x2, .int x3, .int (if x4 < (x2 + v11) then (x2 + v11) else x4), .int (x5 + (1 : Int32))], [], σ9) R)))))))) : mm_Go mm_m_X10_fillMostWoken (61, [.ref 0, .int x1, .int x2, .int x3, .int x4, .int x5], [], σ) R := by
  refine mm_blk (M := mm_m_X10_fillMostWoken) 3 (S' := ((if (5 : Int32) ≤ x5 then 104 else 67), [.ref 0, .int x1, .int x2, .int x3, .int x4, .int x5], [], σ)) (P := []) rfl trivial ?_
  by_cases b1 : (5 : Int32) ≤ x5
  · rw [if_pos b1]
    have h := h.1 b1
    refine mm_blk (M := mm_m_X10_fillMostWoken) 4 (S' := (110, [.ref 0, .int x1, .int x2, .int x3, .int x4, .int x5], [.int x3, .int x1, .ref 48], σ)) (P := [mm_cl 0 = 10]) rfl ⟨rfl, trivial⟩ ?_
    obtain ⟨v4, σ2, e3, h⟩ := h
    refine mm_cl_ (rest := [.ref 48]) e3 ⟨_, _, _, rfl, rfl, mm_tb_X10_matchCell, rfl, rfl, Nat.le_of_ble_eq_true rfl, Nat.le_of_ble_eq_true rfl, trivial⟩ ?_
    obtain ⟨c5, h⟩ := h
    refine mm_blk (M := mm_m_X10_fillMostWoken) 2 (S' := (116, [.ref 0, .int x1, .int x2, .int x3, .int x4, .int x5], [], mm_u σ2 48 v4.toNatClampNeg x4)) (P := [vp_in v4 (mm_len 48)]) rfl ⟨c5, trivial⟩ ?_
    obtain ⟨σ6, e7⟩ : ∃ z, z = mm_u σ2 48 v4.toNatClampNeg x4 := ⟨_, rfl⟩
    rw [← e7]
    have h := h σ6 e7
    refine mm_blk (M := mm_m_X10_fillMostWoken) 2 (S' := (42, [.ref 0, .int x1, .int x2, .int (x3 + (1 : Int32)), .int x4, .int x5], [], σ6)) (P := []) rfl trivial ?_
    exact h
  · rw [if_neg b1]
    have h := h.2 b1
    refine mm_blk (M := mm_m_X10_fillMostWoken) 6 (S' := ((if ¬ ((x3 >>> (x5 &&& 31)) &&& (1 : Int32)) = (0 : Int32) then 98 else 76), [.ref 0, .int x1, .int x2, .int x3, .int x4, .int x5], [], σ)) (P := []) rfl trivial ?_
    by_cases b8 : ¬ ((x3 >>> (x5 &&& 31)) &&& (1 : Int32)) = (0 : Int32)
    · rw [if_pos b8]
      have h := h.1 b8
      refine mm_blk (M := mm_m_X10_fillMostWoken) 2 (S' := (61, [.ref 0, .int x1, .int x2, .int x3, .int x4, .int (x5 + (1 : Int32))], [], σ)) (P := []) rfl trivial ?_
      exact h
    · rw [if_neg b8]
      have h := h.2 b8
      refine mm_blk (M := mm_m_X10_fillMostWoken) 11 (S' := (89, [.ref 0, .int x1, .int x2, .int x3, .int x4, .int x5], [.int (x3 ||| ((1 : Int32) <<< (x5 &&& 31))), .int (x1 + (1 : Int32)), .ref 0, .int x2, .int x4], σ)) (P := []) rfl trivial ?_
      obtain ⟨v11, σ9, e10, h⟩ := h
      refine mm_cl_ (rest := [.int x2, .int x4]) e10 ⟨_, _, _, rfl, rfl, mm_tb_X10_mostWokenFrom, rfl, rfl, Nat.le_of_ble_eq_true rfl, Nat.le_of_ble_eq_true rfl, ⟨_, rfl, rfl⟩⟩ ?_
      refine mm_blk (M := mm_m_X10_fillMostWoken) 5 (S' := (61, [.ref 0, .int x1, .int x2, .int x3, .int (if x4 < (x2 + v11) then (x2 + v11) else x4), .int (x5 + (1 : Int32))], [], σ9)) (P := []) rfl trivial ?_
      exact h
theorem sg_X10_firstMatchOf_0 (σ : mm_Sg) (x1 : Int32) (x2 : Int32) (R : Option Value × mm_Sg) (h : (∃ (v3 : Int32) (σ1 : mm_Sg), mm_Ev mm_m_X1_thirstOf [.ref 10, .int x1, .int ((σ 10 9) + (1 : Int32))] σ (some (.int v3)) σ1 ∧ (∃ (v6 : Int32) (σ4 : mm_Sg), mm_Ev mm_m_X10_mostWokenFrom [.ref 0, .int x1, .int x2] σ1 (some (.int v6)) σ4 ∧ mm_Go mm_m_X10_firstMatchOf (29, [.ref 0, .int x1, .int x2, .int v3, .int v6, .int (0 : Int32)], [], σ4) R))) : mm_Go mm_m_X10_firstMatchOf (0, [.ref 0, .int x1, .int x2, .null, .null, .null], [], σ) R := by
  refine mm_blk (M := mm_m_X10_firstMatchOf) 8 (S' := (14, [.ref 0, .int x1, .int x2, .null, .null, .null], [.int ((σ 10 9) + (1 : Int32)), .int x1, .ref 10], σ)) (P := [mm_cl 0 = 10, mm_cl 0 = 10, mm_cl 10 = 1]) rfl ⟨rfl, rfl, rfl, trivial⟩ ?_
  obtain ⟨v3, σ1, e2, h⟩ := h
  refine mm_cl_ (rest := []) e2 ⟨_, _, _, rfl, rfl, mm_tb_X1_thirstOf, rfl, rfl, Nat.le_of_ble_eq_true rfl, Nat.le_of_ble_eq_true rfl, ⟨_, rfl, rfl⟩⟩ ?_
  refine mm_blk (M := mm_m_X10_firstMatchOf) 4 (S' := (21, [.ref 0, .int x1, .int x2, .int v3, .null, .null], [.int x2, .int x1, .ref 0], σ1)) (P := []) rfl trivial ?_
  obtain ⟨v6, σ4, e5, h⟩ := h
  refine mm_cl_ (rest := []) e5 ⟨_, _, _, rfl, rfl, mm_tb_X10_mostWokenFrom, rfl, rfl, Nat.le_of_ble_eq_true rfl, Nat.le_of_ble_eq_true rfl, ⟨_, rfl, rfl⟩⟩ ?_
  refine mm_blk (M := mm_m_X10_firstMatchOf) 3 (S' := (29, [.ref 0, .int x1, .int x2, .int v3, .int v6, .int (0 : Int32)], [], σ4)) (P := []) rfl trivial ?_
  exact h
theorem sg_X10_firstMatchOf_29 (σ : mm_Sg) (x1 : Int32) (x2 : Int32) (x3 : Int32) (x4 : Int32) (x5 : Int32) (R : Option Value × mm_Sg) (h : ((((5 : Int32) ≤ x5 → (R = (some (.int (9 : Int32)), σ))) ∧ (¬ ((5 : Int32) ≤ x5) → (((¬ ((x2 >>> (x5 &&& 31)) &&& (1 : Int32)) = (0 : Int32) → mm_Go mm_m_X10_firstMatchOf (29, [.ref 0, .int x1, .int x2, .int x3, .int x4, .int (x5 + (1 : Int32))], [], σ) R) ∧ (¬ (¬ ((x2 >>> (x5 &&& 31)) &&& (1 : Int32)) = (0 : Int32)) → (∃ (v5 : Int32) (σ3 : mm_Sg), mm_Ev mm_m_X10_mostWokenFrom [.ref 0, .int (x1 + (1 : Int32)), .int (x2 ||| ((1 : Int32) <<< (x5 &&& 31)))] σ (some (.int v5)) σ3 ∧ (((¬ (x3 + v5) = x4 → mm_Go mm_m_X10_firstMatchOf (29, [.ref 0, .int x1, .int x2, .int x3, .int x4, .int (x5 + (1 : Int32))], [], σ3) R) ∧ (¬ (¬ (x3 + v5) = x4) → (R = (some (.int x5), σ3))))))))))))) : mm_Go mm_m_X10_firstMatchOf (29, [.ref 0, .int x1, .int x2, .int x3, .int x4, .int x5], [], σ) R := by
  refine mm_blk (M := mm_m_X10_firstMatchOf) 3 (S' := ((if (5 : Int32) ≤ x5 then 73 else 35), [.ref 0, .int x1, .int x2, .int x3, .int x4, .int x5], [], σ)) (P := []) rfl trivial ?_
  by_cases b1 : (5 : Int32) ≤ x5
  · rw [if_pos b1]
    have h := h.1 b1
    refine mm_blk (M := mm_m_X10_firstMatchOf) 1 (S' := (75, [.ref 0, .int x1, .int x2, .int x3, .int x4, .int x5], [.int (9 : Int32)], σ)) (P := []) rfl trivial ?_
    subst h
    exact mm_rt_ ⟨_, _, _, rfl, ⟨_, _, rfl, rfl, rfl, rfl⟩⟩
  · rw [if_neg b1]
    have h := h.2 b1
    refine mm_blk (M := mm_m_X10_firstMatchOf) 6 (S' := ((if ¬ ((x2 >>> (x5 &&& 31)) &&& (1 : Int32)) = (0 : Int32) then 67 else 44), [.ref 0, .int x1, .int x2, .int x3, .int x4, .int x5], [], σ)) (P := []) rfl trivial ?_
    by_cases b2 : ¬ ((x2 >>> (x5 &&& 31)) &&& (1 : Int32)) = (0 : Int32)
    · rw [if_pos b2]
      have h := h.1 b2
      refine mm_blk (M := mm_m_X10_firstMatchOf) 2 (S' := (29, [.ref 0, .int x1, .int x2, .int x3, .int x4, .int (x5 + (1 : Int32))], [], σ)) (P := []) rfl trivial ?_
      exact h
    · rw [if_neg b2]
      have h := h.2 b2
      refine mm_blk (M := mm_m_X10_firstMatchOf) 10 (S' := (55, [.ref 0, .int x1, .int x2, .int x3, .int x4, .int x5], [.int (x2 ||| ((1 : Int32) <<< (x5 &&& 31))), .int (x1 + (1 : Int32)), .ref 0, .int x3], σ)) (P := []) rfl trivial ?_
      obtain ⟨v5, σ3, e4, h⟩ := h
      refine mm_cl_ (rest := [.int x3]) e4 ⟨_, _, _, rfl, rfl, mm_tb_X10_mostWokenFrom, rfl, rfl, Nat.le_of_ble_eq_true rfl, Nat.le_of_ble_eq_true rfl, ⟨_, rfl, rfl⟩⟩ ?_
      refine mm_blk (M := mm_m_X10_firstMatchOf) 3 (S' := ((if ¬ (x3 + v5) = x4 then 67 else 64), [.ref 0, .int x1, .int x2, .int x3, .int x4, .int x5], [], σ3)) (P := []) rfl trivial ?_
      by_cases b6 : ¬ (x3 + v5) = x4
      · rw [if_pos b6]
        have h := h.1 b6
        refine mm_blk (M := mm_m_X10_firstMatchOf) 2 (S' := (29, [.ref 0, .int x1, .int x2, .int x3, .int x4, .int (x5 + (1 : Int32))], [], σ3)) (P := []) rfl trivial ?_
        exact h
      · rw [if_neg b6]
        have h := h.2 b6
        refine mm_blk (M := mm_m_X10_firstMatchOf) 1 (S' := (66, [.ref 0, .int x1, .int x2, .int x3, .int x4, .int x5], [.int x5], σ3)) (P := []) rfl trivial ?_
        subst h
        exact mm_rt_ ⟨_, _, _, rfl, ⟨_, _, rfl, rfl, rfl, rfl⟩⟩
theorem sg_X10_power_0 (σ : mm_Sg) (l0 : Int64) (x2 : Int32) (R : Option Value × mm_Sg) (h : mm_Go mm_m_X10_power (5, [.long l0, .null, .int x2, .long (1 : Int64), .null, .int (0 : Int32)], [], σ) R) : mm_Go mm_m_X10_power (0, [.long l0, .null, .int x2, .null, .null, .null], [], σ) R := by
  refine mm_blk (M := mm_m_X10_power) 4 (S' := (5, [.long l0, .null, .int x2, .long (1 : Int64), .null, .int (0 : Int32)], [], σ)) (P := []) rfl trivial ?_
  exact h
theorem sg_X10_power_5 (σ : mm_Sg) (l0 : Int64) (x2 : Int32) (l3 : Int64) (x5 : Int32) (R : Option Value × mm_Sg) (h : (((x2 ≤ x5 → (R = (some (.long l3), σ))) ∧ (¬ (x2 ≤ x5) → mm_Go mm_m_X10_power (5, [.long l0, .null, .int x2, .long (l3 * l0), .null, .int (x5 + (1 : Int32))], [], σ) R)))) : mm_Go mm_m_X10_power (5, [.long l0, .null, .int x2, .long l3, .null, .int x5], [], σ) R := by
  refine mm_blk (M := mm_m_X10_power) 3 (S' := ((if x2 ≤ x5 then 21 else 11), [.long l0, .null, .int x2, .long l3, .null, .int x5], [], σ)) (P := []) rfl trivial ?_
  by_cases b1 : x2 ≤ x5
  · rw [if_pos b1]
    have h := h.1 b1
    refine mm_blk (M := mm_m_X10_power) 1 (S' := (22, [.long l0, .null, .int x2, .long l3, .null, .int x5], [.long l3], σ)) (P := []) rfl trivial ?_
    subst h
    exact mm_rt_ ⟨_, _, _, rfl, ⟨_, rfl, rfl, rfl⟩⟩
  · rw [if_neg b1]
    have h := h.2 b1
    refine mm_blk (M := mm_m_X10_power) 6 (S' := (5, [.long l0, .null, .int x2, .long (l3 * l0), .null, .int (x5 + (1 : Int32))], [], σ)) (P := []) rfl trivial ?_
    exact h
theorem sg_X10_partOfFraction_0 (σ : mm_Sg) (l0 : Int64) (l2 : Int64) (x4 : Int32) (R : Option Value × mm_Sg) (h : mm_Go mm_m_X10_partOfFraction (9, [.long l0, .null, .long l2, .null, .int x4, .long l0, .null, .long l2, .null, .int (0 : Int32), .null, .null], [], σ) R) : mm_Go mm_m_X10_partOfFraction (0, [.long l0, .null, .long l2, .null, .int x4, .null, .null, .null, .null, .null, .null, .null], [], σ) R := by
  refine mm_blk (M := mm_m_X10_partOfFraction) 6 (S' := (9, [.long l0, .null, .long l2, .null, .int x4, .long l0, .null, .long l2, .null, .int (0 : Int32), .null, .null], [], σ)) (P := []) rfl trivial ?_
  exact h
theorem sg_X10_partOfFraction_9 (σ : mm_Sg) (l0 : Int64) (l2 : Int64) (x4 : Int32) (l5 : Int64) (l7 : Int64) (x9 : Int32) (d10 : Value) (R : Option Value × mm_Sg) (h : ((((100 : Int32) ≤ x9 → (((¬ (lg_cmp l5 (0 : Int64)) = (0 : Int32) → (((¬ x4 = (0 : Int32) → ((¬ l5 = 0) ∧ R = (some (.long (l2 / l5)), σ))) ∧ (¬ (¬ x4 = (0 : Int32)) → ((¬ l5 = 0) ∧ R = (some (.long (l0 / l5)), σ)))))) ∧ (¬ (¬ (lg_cmp l5 (0 : Int64)) = (0 : Int32)) → (R = (some (.long (0 : Int64)), σ)))))) ∧ (¬ ((100 : Int32) ≤ x9) → ((((lg_cmp l7 (0 : Int64)) = (0 : Int32) → (((¬ (lg_cmp l5 (0 : Int64)) = (0 : Int32) → (((¬ x4 = (0 : Int32) → ((¬ l5 = 0) ∧ R = (some (.long (l2 / l5)), σ))) ∧ (¬ (¬ x4 = (0 : Int32)) → ((¬ l5 = 0) ∧ R = (some (.long (l0 / l5)), σ)))))) ∧ (¬ (¬ (lg_cmp l5 (0 : Int64)) = (0 : Int32)) → (R = (some (.long (0 : Int64)), σ)))))) ∧ (¬ ((lg_cmp l7 (0 : Int64)) = (0 : Int32)) → ((¬ l7 = 0) ∧ mm_Go mm_m_X10_partOfFraction (9, [.long l0, .null, .long l2, .null, .int x4, .long l7, .null, .long (l5 - l5 / l7 * l7), .null, .int (x9 + (1 : Int32)), .long (l5 - l5 / l7 * l7), .null], [], σ) R)))))))) : mm_Go mm_m_X10_partOfFraction (9, [.long l0, .null, .long l2, .null, .int x4, .long l5, .null, .long l7, .null, .int x9, d10, .null], [], σ) R := by
  refine mm_blk (M := mm_m_X10_partOfFraction) 3 (S' := ((if (100 : Int32) ≤ x9 then 44 else 16), [.long l0, .null, .long l2, .null, .int x4, .long l5, .null, .long l7, .null, .int x9, d10, .null], [], σ)) (P := []) rfl trivial ?_
  by_cases b1 : (100 : Int32) ≤ x9
  · rw [if_pos b1]
    have h := h.1 b1
    refine mm_blk (M := mm_m_X10_partOfFraction) 4 (S' := ((if ¬ (lg_cmp l5 (0 : Int64)) = (0 : Int32) then 53 else 51), [.long l0, .null, .long l2, .null, .int x4, .long l5, .null, .long l7, .null, .int x9, d10, .null], [], σ)) (P := []) rfl trivial ?_
    by_cases b2 : ¬ (lg_cmp l5 (0 : Int64)) = (0 : Int32)
    · rw [if_pos b2]
      have h := h.1 b2
      refine mm_blk (M := mm_m_X10_partOfFraction) 2 (S' := ((if ¬ x4 = (0 : Int32) then 65 else 58), [.long l0, .null, .long l2, .null, .int x4, .long l5, .null, .long l7, .null, .int x9, d10, .null], [], σ)) (P := []) rfl trivial ?_
      by_cases b3 : ¬ x4 = (0 : Int32)
      · rw [if_pos b3]
        have h := h.1 b3
        obtain ⟨c4, h⟩ := h
        refine mm_blk (M := mm_m_X10_partOfFraction) 3 (S' := (69, [.long l0, .null, .long l2, .null, .int x4, .long l5, .null, .long l7, .null, .int x9, d10, .null], [.long (l2 / l5)], σ)) (P := [¬ l5 = 0]) rfl ⟨c4, trivial⟩ ?_
        subst h
        exact mm_rt_ ⟨_, _, _, rfl, ⟨_, rfl, rfl, rfl⟩⟩
      · rw [if_neg b3]
        have h := h.2 b3
        obtain ⟨c5, h⟩ := h
        refine mm_blk (M := mm_m_X10_partOfFraction) 4 (S' := (69, [.long l0, .null, .long l2, .null, .int x4, .long l5, .null, .long l7, .null, .int x9, d10, .null], [.long (l0 / l5)], σ)) (P := [¬ l5 = 0]) rfl ⟨c5, trivial⟩ ?_
        subst h
        exact mm_rt_ ⟨_, _, _, rfl, ⟨_, rfl, rfl, rfl⟩⟩
    · rw [if_neg b2]
      have h := h.2 b2
      refine mm_blk (M := mm_m_X10_partOfFraction) 1 (S' := (52, [.long l0, .null, .long l2, .null, .int x4, .long l5, .null, .long l7, .null, .int x9, d10, .null], [.long (0 : Int64)], σ)) (P := []) rfl trivial ?_
      subst h
      exact mm_rt_ ⟨_, _, _, rfl, ⟨_, rfl, rfl, rfl⟩⟩
  · rw [if_neg b1]
    have h := h.2 b1
    refine mm_blk (M := mm_m_X10_partOfFraction) 4 (S' := ((if (lg_cmp l7 (0 : Int64)) = (0 : Int32) then 44 else 23), [.long l0, .null, .long l2, .null, .int x4, .long l5, .null, .long l7, .null, .int x9, d10, .null], [], σ)) (P := []) rfl trivial ?_
    by_cases b6 : (lg_cmp l7 (0 : Int64)) = (0 : Int32)
    · rw [if_pos b6]
      have h := h.1 b6
      refine mm_blk (M := mm_m_X10_partOfFraction) 4 (S' := ((if ¬ (lg_cmp l5 (0 : Int64)) = (0 : Int32) then 53 else 51), [.long l0, .null, .long l2, .null, .int x4, .long l5, .null, .long l7, .null, .int x9, d10, .null], [], σ)) (P := []) rfl trivial ?_
      by_cases b7 : ¬ (lg_cmp l5 (0 : Int64)) = (0 : Int32)
      · rw [if_pos b7]
        have h := h.1 b7
        refine mm_blk (M := mm_m_X10_partOfFraction) 2 (S' := ((if ¬ x4 = (0 : Int32) then 65 else 58), [.long l0, .null, .long l2, .null, .int x4, .long l5, .null, .long l7, .null, .int x9, d10, .null], [], σ)) (P := []) rfl trivial ?_
        by_cases b8 : ¬ x4 = (0 : Int32)
        · rw [if_pos b8]
          have h := h.1 b8
          obtain ⟨c9, h⟩ := h
          refine mm_blk (M := mm_m_X10_partOfFraction) 3 (S' := (69, [.long l0, .null, .long l2, .null, .int x4, .long l5, .null, .long l7, .null, .int x9, d10, .null], [.long (l2 / l5)], σ)) (P := [¬ l5 = 0]) rfl ⟨c9, trivial⟩ ?_
          subst h
          exact mm_rt_ ⟨_, _, _, rfl, ⟨_, rfl, rfl, rfl⟩⟩
        · rw [if_neg b8]
          have h := h.2 b8
          obtain ⟨c10, h⟩ := h
          refine mm_blk (M := mm_m_X10_partOfFraction) 4 (S' := (69, [.long l0, .null, .long l2, .null, .int x4, .long l5, .null, .long l7, .null, .int x9, d10, .null], [.long (l0 / l5)], σ)) (P := [¬ l5 = 0]) rfl ⟨c10, trivial⟩ ?_
          subst h
          exact mm_rt_ ⟨_, _, _, rfl, ⟨_, rfl, rfl, rfl⟩⟩
      · rw [if_neg b7]
        have h := h.2 b7
        refine mm_blk (M := mm_m_X10_partOfFraction) 1 (S' := (52, [.long l0, .null, .long l2, .null, .int x4, .long l5, .null, .long l7, .null, .int x9, d10, .null], [.long (0 : Int64)], σ)) (P := []) rfl trivial ?_
        subst h
        exact mm_rt_ ⟨_, _, _, rfl, ⟨_, rfl, rfl, rfl⟩⟩
    · rw [if_neg b6]
      have h := h.2 b6
      obtain ⟨c11, h⟩ := h
      refine mm_blk (M := mm_m_X10_partOfFraction) 10 (S' := (9, [.long l0, .null, .long l2, .null, .int x4, .long l7, .null, .long (l5 - l5 / l7 * l7), .null, .int (x9 + (1 : Int32)), .long (l5 - l5 / l7 * l7), .null], [], σ)) (P := [¬ l7 = 0]) rfl ⟨c11, trivial⟩ ?_
      exact h
theorem sg_X10_nextSeed_0 (σ : mm_Sg) (x0 : Int32) (R : Option Value × mm_Sg) (h : (R = (some (.int ((x0 * (1103515245 : Int32)) + (12345 : Int32))), σ))) : mm_Go mm_m_X10_nextSeed (0, [.int x0], [], σ) R := by
  refine mm_blk (M := mm_m_X10_nextSeed) 5 (S' := (9, [.int x0], [.int ((x0 * (1103515245 : Int32)) + (12345 : Int32))], σ)) (P := []) rfl trivial ?_
  subst h
  exact mm_rt_ ⟨_, _, _, rfl, ⟨_, _, rfl, rfl, rfl, rfl⟩⟩
theorem sg_X10_drawOf_0 (σ : mm_Sg) (x0 : Int32) (x1 : Int32) (R : Option Value × mm_Sg) (h : (((x1 ≤ (0 : Int32) → (R = (some (.int (0 : Int32)), σ))) ∧ (¬ (x1 ≤ (0 : Int32)) → ((¬ x1 = 0) ∧ R = (some (.int (((x0 &&& (2147483647 : Int32)) / (65536 : Int32)) - ((x0 &&& (2147483647 : Int32)) / (65536 : Int32)) / x1 * x1)), σ)))))) : mm_Go mm_m_X10_drawOf (0, [.int x0, .int x1], [], σ) R := by
  refine mm_blk (M := mm_m_X10_drawOf) 2 (S' := ((if x1 ≤ (0 : Int32) then 18 else 4), [.int x0, .int x1], [], σ)) (P := []) rfl trivial ?_
  by_cases b1 : x1 ≤ (0 : Int32)
  · rw [if_pos b1]
    have h := h.1 b1
    refine mm_blk (M := mm_m_X10_drawOf) 1 (S' := (19, [.int x0, .int x1], [.int (0 : Int32)], σ)) (P := []) rfl trivial ?_
    subst h
    exact mm_rt_ ⟨_, _, _, rfl, ⟨_, _, rfl, rfl, rfl, rfl⟩⟩
  · rw [if_neg b1]
    have h := h.2 b1
    obtain ⟨c2, h⟩ := h
    refine mm_blk (M := mm_m_X10_drawOf) 8 (S' := (19, [.int x0, .int x1], [.int (((x0 &&& (2147483647 : Int32)) / (65536 : Int32)) - ((x0 &&& (2147483647 : Int32)) / (65536 : Int32)) / x1 * x1)], σ)) (P := [¬ (65536 : Int32) = 0, ¬ x1 = 0]) rfl ⟨(by decide), c2, trivial⟩ ?_
    subst h
    exact mm_rt_ ⟨_, _, _, rfl, ⟨_, _, rfl, rfl, rfl, rfl⟩⟩
