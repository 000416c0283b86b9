/-! pieces of runs, by program -/
theorem sg_X11_drinker_0 (σ : mm_Sg) (x1 : Int32) (x2 : Int32) (R : Option Value × mm_Sg) (h : (∃ (v3 : Int32) (σ1 : mm_Sg), mm_Ev mm_m_X11_isDrinker [.ref 51, .int x1] σ (some (.int v3)) σ1 ∧ (((v3 = (0 : Int32) → (R = (some (.int (-1 : Int32)), σ1))) ∧ (¬ (v3 = (0 : Int32)) → (∃ (v7 : Int32) (σ5 : mm_Sg), mm_Ev mm_m_X11_isIn [.int x2, .int (0 : Int32), .int (4 : Int32)] σ1 (some (.int v7)) σ5 ∧ (((¬ v7 = (0 : Int32) → (((¬ x2 = (4 : Int32) → (∃ (v12 : Int32) (σ10 : mm_Sg), mm_Ev mm_m_X11_of [.int x1, .int x2] σ5 (some (.int v12)) σ10 ∧ ((vp_in v12 (mm_len 52)) ∧ R = (some (.int (σ10 52 v12.toNatClampNeg)), σ10)))) ∧ (¬ (¬ x2 = (4 : Int32)) → (∃ (v16 : Int32) (σ14 : mm_Sg), mm_Ev mm_m_X11_nextOf [.ref 51, .int x1] σ5 (some (.int v16)) σ14 ∧ (R = (some (.int v16), σ14))))))) ∧ (¬ (¬ v7 = (0 : Int32)) → (R = (some (.int (-1 : Int32)), σ5))))))))))) : mm_Go mm_m_X11_drinker (0, [.ref 51, .int x1, .int x2], [], σ) R := by
  refine mm_blk (M := mm_m_X11_drinker) 2 (S' := (2, [.ref 51, .int x1, .int x2], [.int x1, .ref 51], σ)) (P := []) rfl trivial ?_
  obtain ⟨v3, σ1, e2, h⟩ := h
  refine mm_cl_ (rest := []) e2 ⟨_, _, _, rfl, rfl, mm_tb_X11_isDrinker, rfl, rfl, Nat.le_of_ble_eq_true rfl, Nat.le_of_ble_eq_true rfl, ⟨_, rfl, rfl⟩⟩ ?_
  refine mm_blk (M := mm_m_X11_drinker) 1 (S' := ((if v3 = (0 : Int32) then 17 else 8), [.ref 51, .int x1, .int x2], [], σ1)) (P := []) rfl trivial ?_
  by_cases b4 : v3 = (0 : Int32)
  · rw [if_pos b4]
    have h := h.1 b4
    refine mm_blk (M := mm_m_X11_drinker) 1 (S' := (18, [.ref 51, .int x1, .int x2], [.int (-1 : Int32)], σ1)) (P := []) rfl trivial ?_
    subst h
    exact mm_rt_ ⟨_, _, _, rfl, ⟨_, _, rfl, rfl, rfl, rfl⟩⟩
  · rw [if_neg b4]
    have h := h.2 b4
    refine mm_blk (M := mm_m_X11_drinker) 3 (S' := (11, [.ref 51, .int x1, .int x2], [.int (4 : Int32), .int (0 : Int32), .int x2], σ1)) (P := []) rfl trivial ?_
    obtain ⟨v7, σ5, e6, h⟩ := h
    refine mm_cl_ (rest := []) e6 ⟨_, _, _, rfl, rfl, mm_tb_X11_isIn, rfl, rfl, Nat.le_of_ble_eq_true rfl, Nat.le_of_ble_eq_true rfl, trivial⟩ ?_
    refine mm_blk (M := mm_m_X11_drinker) 1 (S' := ((if ¬ v7 = (0 : Int32) then 19 else 17), [.ref 51, .int x1, .int x2], [], σ5)) (P := []) rfl trivial ?_
    by_cases b8 : ¬ v7 = (0 : Int32)
    · rw [if_pos b8]
      have h := h.1 b8
      refine mm_blk (M := mm_m_X11_drinker) 3 (S' := ((if ¬ x2 = (4 : Int32) then 32 else 24), [.ref 51, .int x1, .int x2], [], σ5)) (P := []) rfl trivial ?_
      by_cases b9 : ¬ x2 = (4 : Int32)
      · rw [if_pos b9]
        have h := h.1 b9
        refine mm_blk (M := mm_m_X11_drinker) 4 (S' := (38, [.ref 51, .int x1, .int x2], [.int x2, .int x1, .ref 52], σ5)) (P := [mm_cl 51 = 11]) rfl ⟨rfl, trivial⟩ ?_
        obtain ⟨v12, σ10, e11, h⟩ := h
        refine mm_cl_ (rest := [.ref 52]) e11 ⟨_, _, _, rfl, rfl, mm_tb_X11_of, rfl, rfl, Nat.le_of_ble_eq_true rfl, Nat.le_of_ble_eq_true rfl, trivial⟩ ?_
        obtain ⟨c13, h⟩ := h
        refine mm_blk (M := mm_m_X11_drinker) 1 (S' := (42, [.ref 51, .int x1, .int x2], [.int (σ10 52 v12.toNatClampNeg)], σ10)) (P := [vp_in v12 (mm_len 52)]) rfl ⟨c13, trivial⟩ ?_
        subst h
        exact mm_rt_ ⟨_, _, _, rfl, ⟨_, _, rfl, rfl, rfl, rfl⟩⟩
      · rw [if_neg b9]
        have h := h.2 b9
        refine mm_blk (M := mm_m_X11_drinker) 2 (S' := (26, [.ref 51, .int x1, .int x2], [.int x1, .ref 51], σ5)) (P := []) rfl trivial ?_
        obtain ⟨v16, σ14, e15, h⟩ := h
        refine mm_cl_ (rest := []) e15 ⟨_, _, _, rfl, rfl, mm_tb_X11_nextOf, rfl, rfl, Nat.le_of_ble_eq_true rfl, Nat.le_of_ble_eq_true rfl, ⟨_, rfl, rfl⟩⟩ ?_
        refine mm_blk (M := mm_m_X11_drinker) 1 (S' := (42, [.ref 51, .int x1, .int x2], [.int v16], σ14)) (P := []) rfl trivial ?_
        subst h
        exact mm_rt_ ⟨_, _, _, rfl, ⟨_, _, rfl, rfl, rfl, rfl⟩⟩
    · rw [if_neg b8]
      have h := h.2 b8
      refine mm_blk (M := mm_m_X11_drinker) 1 (S' := (18, [.ref 51, .int x1, .int x2], [.int (-1 : Int32)], σ5)) (P := []) rfl trivial ?_
      subst h
      exact mm_rt_ ⟨_, _, _, rfl, ⟨_, _, rfl, rfl, rfl, rfl⟩⟩
theorem sg_X11_manyOf_0 (σ : mm_Sg) (x1 : Int32) (R : Option Value × mm_Sg) (h : mm_Go mm_m_X11_manyOf (4, [.ref 51, .int x1, .int (0 : Int32), .int (0 : Int32)], [], σ) R) : mm_Go mm_m_X11_manyOf (0, [.ref 51, .int x1, .null, .null], [], σ) R := by
  refine mm_blk (M := mm_m_X11_manyOf) 4 (S' := (4, [.ref 51, .int x1, .int (0 : Int32), .int (0 : Int32)], [], σ)) (P := []) rfl trivial ?_
  exact h
theorem sg_X11_manyOf_4 (σ : mm_Sg) (x1 : Int32) (x2 : Int32) (x3 : Int32) (R : Option Value × mm_Sg) (h : ((((σ 52 0) ≤ x3 → (R = (some (.int x2), σ))) ∧ (¬ ((σ 52 0) ≤ x3) → (∃ (v4 : Int32) (σ2 : mm_Sg), mm_Ev mm_m_X11_of [.int x3, .int (2 : Int32)] σ (some (.int v4)) σ2 ∧ ((vp_in v4 (mm_len 52)) ∧ ((¬ (σ2 52 v4.toNatClampNeg) = x1 → mm_Go mm_m_X11_manyOf (4, [.ref 51, .int x1, .int (x2 + (0 : Int32)), .int (x3 + (1 : Int32))], [], σ2) R) ∧ (¬ (¬ (σ2 52 v4.toNatClampNeg) = x1) → mm_Go mm_m_X11_manyOf (4, [.ref 51, .int x1, .int (x2 + (1 : Int32)), .int (x3 + (1 : Int32))], [], σ2) R)))))))) : mm_Go mm_m_X11_manyOf (4, [.ref 51, .int x1, .int x2, .int x3], [], σ) R := by
  refine mm_blk (M := mm_m_X11_manyOf) 6 (S' := ((if (σ 52 0) ≤ x3 then 42 else 14), [.ref 51, .int x1, .int x2, .int x3], [], σ)) (P := [mm_cl 51 = 11, vp_in (0 : Int32) (mm_len 52)]) rfl ⟨rfl, (by unfold vp_in; decide), trivial⟩ ?_
  by_cases b1 : (σ 52 0) ≤ x3
  · rw [if_pos b1]
    have h := h.1 b1
    refine mm_blk (M := mm_m_X11_manyOf) 1 (S' := (43, [.ref 51, .int x1, .int x2, .int x3], [.int x2], σ)) (P := []) rfl trivial ?_
    subst h
    exact mm_rt_ ⟨_, _, _, rfl, ⟨_, _, rfl, rfl, rfl, rfl⟩⟩
  · rw [if_neg b1]
    have h := h.2 b1
    refine mm_blk (M := mm_m_X11_manyOf) 5 (S' := (21, [.ref 51, .int x1, .int x2, .int x3], [.int (2 : Int32), .int x3, .ref 52, .int x2], σ)) (P := [mm_cl 51 = 11]) rfl ⟨rfl, trivial⟩ ?_
    obtain ⟨v4, σ2, e3, h⟩ := h
    refine mm_cl_ (rest := [.ref 52, .int x2]) e3 ⟨_, _, _, rfl, rfl, mm_tb_X11_of, rfl, rfl, Nat.le_of_ble_eq_true rfl, Nat.le_of_ble_eq_true rfl, trivial⟩ ?_
    obtain ⟨c5, h⟩ := h
    refine mm_blk (M := mm_m_X11_manyOf) 3 (S' := ((if ¬ (σ2 52 v4.toNatClampNeg) = x1 then 33 else 29), [.ref 51, .int x1, .int x2, .int x3], [.int x2], σ2)) (P := [vp_in v4 (mm_len 52)]) rfl ⟨c5, trivial⟩ ?_
    by_cases b6 : ¬ (σ2 52 v4.toNatClampNeg) = x1
    · rw [if_pos b6]
      have h := h.1 b6
      refine mm_blk (M := mm_m_X11_manyOf) 5 (S' := (4, [.ref 51, .int x1, .int (x2 + (0 : Int32)), .int (x3 + (1 : Int32))], [], σ2)) (P := []) rfl trivial ?_
      exact h
    · rw [if_neg b6]
      have h := h.2 b6
      refine mm_blk (M := mm_m_X11_manyOf) 6 (S' := (4, [.ref 51, .int x1, .int (x2 + (1 : Int32)), .int (x3 + (1 : Int32))], [], σ2)) (P := []) rfl trivial ?_
      exact h
theorem sg_X11_waker_0 (σ : mm_Sg) (x1 : Int32) (x2 : Int32) (R : Option Value × mm_Sg) (h : (∃ (v3 : Int32) (σ1 : mm_Sg), mm_Ev mm_m_X11_isWaker [.int x1] σ (some (.int v3)) σ1 ∧ (((v3 = (0 : Int32) → (R = (some (.int (-1 : Int32)), σ1))) ∧ (¬ (v3 = (0 : Int32)) → (∃ (v7 : Int32) (σ5 : mm_Sg), mm_Ev mm_m_X11_isIn [.int x2, .int (0 : Int32), .int (2 : Int32)] σ1 (some (.int v7)) σ5 ∧ (((¬ v7 = (0 : Int32) → (((¬ x2 = (0 : Int32) → (((¬ x2 = (2 : Int32) → (∃ (v13 : Int32) (σ11 : mm_Sg), mm_Ev mm_m_X11_isAwake [.ref 52, .int x1] σ5 (some (.int v13)) σ11 ∧ (((v13 = (0 : Int32) → (R = (some (.int (0 : Int32)), σ11))) ∧ (¬ (v13 = (0 : Int32)) → (R = (some (.int (1 : Int32)), σ11))))))) ∧ (¬ (¬ x2 = (2 : Int32)) → (∃ (v17 : Int32) (σ15 : mm_Sg), mm_Ev mm_m_X11_manyOf [.ref 51, .int x1] σ5 (some (.int v17)) σ15 ∧ (R = (some (.int v17), σ15))))))) ∧ (¬ (¬ x2 = (0 : Int32)) → ((vp_in ((35 : Int32) + x1) (mm_len 52)) ∧ R = (some (.int (σ5 52 ((35 : Int32) + x1).toNatClampNeg)), σ5)))))) ∧ (¬ (¬ v7 = (0 : Int32)) → (R = (some (.int (-1 : Int32)), σ5))))))))))) : mm_Go mm_m_X11_waker (0, [.ref 51, .int x1, .int x2], [], σ) R := by
  refine mm_blk (M := mm_m_X11_waker) 1 (S' := (1, [.ref 51, .int x1, .int x2], [.int x1], σ)) (P := []) rfl trivial ?_
  obtain ⟨v3, σ1, e2, h⟩ := h
  refine mm_cl_ (rest := []) e2 ⟨_, _, _, rfl, rfl, mm_tb_X11_isWaker, rfl, rfl, Nat.le_of_ble_eq_true rfl, Nat.le_of_ble_eq_true rfl, trivial⟩ ?_
  refine mm_blk (M := mm_m_X11_waker) 1 (S' := ((if v3 = (0 : Int32) then 16 else 7), [.ref 51, .int x1, .int x2], [], σ1)) (P := []) rfl trivial ?_
  by_cases b4 : v3 = (0 : Int32)
  · rw [if_pos b4]
    have h := h.1 b4
    refine mm_blk (M := mm_m_X11_waker) 1 (S' := (17, [.ref 51, .int x1, .int x2], [.int (-1 : Int32)], σ1)) (P := []) rfl trivial ?_
    subst h
    exact mm_rt_ ⟨_, _, _, rfl, ⟨_, _, rfl, rfl, rfl, rfl⟩⟩
  · rw [if_neg b4]
    have h := h.2 b4
    refine mm_blk (M := mm_m_X11_waker) 3 (S' := (10, [.ref 51, .int x1, .int x2], [.int (2 : Int32), .int (0 : Int32), .int x2], σ1)) (P := []) rfl trivial ?_
    obtain ⟨v7, σ5, e6, h⟩ := h
    refine mm_cl_ (rest := []) e6 ⟨_, _, _, rfl, rfl, mm_tb_X11_isIn, rfl, rfl, Nat.le_of_ble_eq_true rfl, Nat.le_of_ble_eq_true rfl, trivial⟩ ?_
    refine mm_blk (M := mm_m_X11_waker) 1 (S' := ((if ¬ v7 = (0 : Int32) then 18 else 16), [.ref 51, .int x1, .int x2], [], σ5)) (P := []) rfl trivial ?_
    by_cases b8 : ¬ v7 = (0 : Int32)
    · rw [if_pos b8]
      have h := h.1 b8
      refine mm_blk (M := mm_m_X11_waker) 2 (S' := ((if ¬ x2 = (0 : Int32) then 34 else 22), [.ref 51, .int x1, .int x2], [], σ5)) (P := []) rfl trivial ?_
      by_cases b9 : ¬ x2 = (0 : Int32)
      · rw [if_pos b9]
        have h := h.1 b9
        refine mm_blk (M := mm_m_X11_waker) 3 (S' := ((if ¬ x2 = (2 : Int32) then 47 else 39), [.ref 51, .int x1, .int x2], [], σ5)) (P := []) rfl trivial ?_
        by_cases b10 : ¬ x2 = (2 : Int32)
        · rw [if_pos b10]
          have h := h.1 b10
          refine mm_blk (M := mm_m_X11_waker) 3 (S' := (52, [.ref 51, .int x1, .int x2], [.int x1, .ref 52], σ5)) (P := [mm_cl 51 = 11]) rfl ⟨rfl, trivial⟩ ?_
          obtain ⟨v13, σ11, e12, h⟩ := h
          refine mm_cl_ (rest := []) e12 ⟨_, _, _, rfl, rfl, mm_tb_X11_isAwake, rfl, rfl, Nat.le_of_ble_eq_true rfl, Nat.le_of_ble_eq_true rfl, trivial⟩ ?_
          refine mm_blk (M := mm_m_X11_waker) 1 (S' := ((if v13 = (0 : Int32) then 62 else 58), [.ref 51, .int x1, .int x2], [], σ11)) (P := []) rfl trivial ?_
          by_cases b14 : v13 = (0 : Int32)
          · rw [if_pos b14]
            have h := h.1 b14
            refine mm_blk (M := mm_m_X11_waker) 1 (S' := (63, [.ref 51, .int x1, .int x2], [.int (0 : Int32)], σ11)) (P := []) rfl trivial ?_
            subst h
            exact mm_rt_ ⟨_, _, _, rfl, ⟨_, _, rfl, rfl, rfl, rfl⟩⟩
          · rw [if_neg b14]
            have h := h.2 b14
            refine mm_blk (M := mm_m_X11_waker) 2 (S' := (63, [.ref 51, .int x1, .int x2], [.int (1 : Int32)], σ11)) (P := []) rfl trivial ?_
            subst h
            exact mm_rt_ ⟨_, _, _, rfl, ⟨_, _, rfl, rfl, rfl, rfl⟩⟩
        · rw [if_neg b10]
          have h := h.2 b10
          refine mm_blk (M := mm_m_X11_waker) 2 (S' := (41, [.ref 51, .int x1, .int x2], [.int x1, .ref 51], σ5)) (P := []) rfl trivial ?_
          obtain ⟨v17, σ15, e16, h⟩ := h
          refine mm_cl_ (rest := []) e16 ⟨_, _, _, rfl, rfl, mm_tb_X11_manyOf, rfl, rfl, Nat.le_of_ble_eq_true rfl, Nat.le_of_ble_eq_true rfl, ⟨_, rfl, rfl⟩⟩ ?_
          refine mm_blk (M := mm_m_X11_waker) 1 (S' := (63, [.ref 51, .int x1, .int x2], [.int v17], σ15)) (P := []) rfl trivial ?_
          subst h
          exact mm_rt_ ⟨_, _, _, rfl, ⟨_, _, rfl, rfl, rfl, rfl⟩⟩
      · rw [if_neg b9]
        have h := h.2 b9
        obtain ⟨c18, h⟩ := h
        refine mm_blk (M := mm_m_X11_waker) 7 (S' := (63, [.ref 51, .int x1, .int x2], [.int (σ5 52 ((35 : Int32) + x1).toNatClampNeg)], σ5)) (P := [mm_cl 51 = 11, vp_in ((35 : Int32) + x1) (mm_len 52)]) rfl ⟨rfl, c18, trivial⟩ ?_
        subst h
        exact mm_rt_ ⟨_, _, _, rfl, ⟨_, _, rfl, rfl, rfl, rfl⟩⟩
    · rw [if_neg b8]
      have h := h.2 b8
      refine mm_blk (M := mm_m_X11_waker) 1 (S' := (17, [.ref 51, .int x1, .int x2], [.int (-1 : Int32)], σ5)) (P := []) rfl trivial ?_
      subst h
      exact mm_rt_ ⟨_, _, _, rfl, ⟨_, _, rfl, rfl, rfl, rfl⟩⟩
theorem sg_X11_comes_0 (σ : mm_Sg) (x1 : Int32) (x2 : Int32) (R : Option Value × mm_Sg) (h : (∃ (v3 : Int32) (σ1 : mm_Sg), mm_Ev mm_m_X11_isWakerOrNone [.int x2] σ (some (.int v3)) σ1 ∧ (((¬ v3 = (0 : Int32) → (∃ (v7 : Int32) (σ5 : mm_Sg), mm_Ev mm_m_X11_wrongKept [.ref 51, .int x1] σ1 (some (.int v7)) σ5 ∧ (((v7 = (0 : Int32) → (((¬ (σ5 52 0) = (7 : Int32) → ((vp_in x1 (mm_len 60)) ∧ (vp_in x1 (mm_len 61)) ∧ ∃ (σ12 : mm_Sg), mm_Ev mm_m_X11_adds [.ref 51, .int (σ5 60 x1.toNatClampNeg), .int (σ5 61 x1.toNatClampNeg), .int x2] σ5 none σ12 ∧ (R = (some (.int ((σ12 52 0) - (1 : Int32))), σ12)))) ∧ (¬ (¬ (σ5 52 0) = (7 : Int32)) → (R = (some (.int (-2 : Int32)), σ5)))))) ∧ (¬ (v7 = (0 : Int32)) → (R = (some (.int v7), σ5))))))) ∧ (¬ (¬ v3 = (0 : Int32)) → (R = (some (.int (-1 : Int32)), σ1))))))) : mm_Go mm_m_X11_comes (0, [.ref 51, .int x1, .int x2, .null], [], σ) R := by
  refine mm_blk (M := mm_m_X11_comes) 1 (S' := (1, [.ref 51, .int x1, .int x2, .null], [.int x2], σ)) (P := []) rfl trivial ?_
  obtain ⟨v3, σ1, e2, h⟩ := h
  refine mm_cl_ (rest := []) e2 ⟨_, _, _, rfl, rfl, mm_tb_X11_isWakerOrNone, rfl, rfl, Nat.le_of_ble_eq_true rfl, Nat.le_of_ble_eq_true rfl, trivial⟩ ?_
  refine mm_blk (M := mm_m_X11_comes) 1 (S' := ((if ¬ v3 = (0 : Int32) then 9 else 7), [.ref 51, .int x1, .int x2, .null], [], σ1)) (P := []) rfl trivial ?_
  by_cases b4 : ¬ v3 = (0 : Int32)
  · rw [if_pos b4]
    have h := h.1 b4
    refine mm_blk (M := mm_m_X11_comes) 2 (S' := (11, [.ref 51, .int x1, .int x2, .null], [.int x1, .ref 51], σ1)) (P := []) rfl trivial ?_
    obtain ⟨v7, σ5, e6, h⟩ := h
    refine mm_cl_ (rest := []) e6 ⟨_, _, _, rfl, rfl, mm_tb_X11_wrongKept, rfl, rfl, Nat.le_of_ble_eq_true rfl, Nat.le_of_ble_eq_true rfl, ⟨_, rfl, rfl⟩⟩ ?_
    refine mm_blk (M := mm_m_X11_comes) 3 (S' := ((if v7 = (0 : Int32) then 21 else 19), [.ref 51, .int x1, .int x2, .int v7], [], σ5)) (P := []) rfl trivial ?_
    by_cases b8 : v7 = (0 : Int32)
    · rw [if_pos b8]
      have h := h.1 b8
      refine mm_blk (M := mm_m_X11_comes) 6 (S' := ((if ¬ (σ5 52 0) = (7 : Int32) then 35 else 32), [.ref 51, .int x1, .int x2, .int v7], [], σ5)) (P := [mm_cl 51 = 11, vp_in (0 : Int32) (mm_len 52)]) rfl ⟨rfl, (by unfold vp_in; decide), trivial⟩ ?_
      by_cases b9 : ¬ (σ5 52 0) = (7 : Int32)
      · rw [if_pos b9]
        have h := h.1 b9
        obtain ⟨c10, h⟩ := h
        obtain ⟨c11, h⟩ := h
        refine mm_blk (M := mm_m_X11_comes) 10 (S' := (49, [.ref 51, .int x1, .int x2, .int v7], [.int x2, .int (σ5 61 x1.toNatClampNeg), .int (σ5 60 x1.toNatClampNeg), .ref 51], σ5)) (P := [mm_cl 51 = 11, vp_in x1 (mm_len 60), mm_cl 51 = 11, vp_in x1 (mm_len 61)]) rfl ⟨rfl, c10, rfl, c11, trivial⟩ ?_
        obtain ⟨σ12, e13, h⟩ := h
        refine mm_cl_ (rest := []) e13 ⟨_, _, _, rfl, rfl, mm_tb_X11_adds, rfl, rfl, Nat.le_of_ble_eq_true rfl, Nat.le_of_ble_eq_true rfl, ⟨_, rfl, rfl⟩⟩ ?_
        refine mm_blk (M := mm_m_X11_comes) 6 (S' := (60, [.ref 51, .int x1, .int x2, .int v7], [.int ((σ12 52 0) - (1 : Int32))], σ12)) (P := [mm_cl 51 = 11, vp_in (0 : Int32) (mm_len 52)]) rfl ⟨rfl, (by unfold vp_in; decide), trivial⟩ ?_
        subst h
        exact mm_rt_ ⟨_, _, _, rfl, ⟨_, _, rfl, rfl, rfl, rfl⟩⟩
      · rw [if_neg b9]
        have h := h.2 b9
        refine mm_blk (M := mm_m_X11_comes) 1 (S' := (34, [.ref 51, .int x1, .int x2, .int v7], [.int (-2 : Int32)], σ5)) (P := []) rfl trivial ?_
        subst h
        exact mm_rt_ ⟨_, _, _, rfl, ⟨_, _, rfl, rfl, rfl, rfl⟩⟩
    · rw [if_neg b8]
      have h := h.2 b8
      refine mm_blk (M := mm_m_X11_comes) 1 (S' := (20, [.ref 51, .int x1, .int x2, .int v7], [.int v7], σ5)) (P := []) rfl trivial ?_
      subst h
      exact mm_rt_ ⟨_, _, _, rfl, ⟨_, _, rfl, rfl, rfl, rfl⟩⟩
  · rw [if_neg b4]
    have h := h.2 b4
    refine mm_blk (M := mm_m_X11_comes) 1 (S' := (8, [.ref 51, .int x1, .int x2, .null], [.int (-1 : Int32)], σ1)) (P := []) rfl trivial ?_
    subst h
    exact mm_rt_ ⟨_, _, _, rfl, ⟨_, _, rfl, rfl, rfl, rfl⟩⟩
theorem sg_X11_sets_0 (σ : mm_Sg) (x1 : Int32) (x2 : Int32) (R : Option Value × mm_Sg) (h : ((vp_in x1 (mm_len 52)) ∧ ∀ σ2 : mm_Sg, σ2 = mm_u σ 52 x1.toNatClampNeg x2 → (R = (some (.int (σ 52 x1.toNatClampNeg)), σ2)))) : mm_Go mm_m_X11_sets (0, [.ref 51, .int x1, .int x2, .null], [], σ) R := by
  obtain ⟨c1, h⟩ := h
  refine mm_blk (M := mm_m_X11_sets) 10 (S' := (14, [.ref 51, .int x1, .int x2, .int (σ 52 x1.toNatClampNeg)], [], mm_u σ 52 x1.toNatClampNeg x2)) (P := [mm_cl 51 = 11, vp_in x1 (mm_len 52), mm_cl 51 = 11, vp_in x1 (mm_len 52)]) rfl ⟨rfl, c1, rfl, c1, trivial⟩ ?_
  obtain ⟨σ2, e3⟩ : ∃ z, z = mm_u σ 52 x1.toNatClampNeg x2 := ⟨_, rfl⟩
  rw [← e3]
  have h := h σ2 e3
  refine mm_blk (M := mm_m_X11_sets) 1 (S' := (15, [.ref 51, .int x1, .int x2, .int (σ 52 x1.toNatClampNeg)], [.int (σ 52 x1.toNatClampNeg)], σ2)) (P := []) rfl trivial ?_
  subst h
  exact mm_rt_ ⟨_, _, _, rfl, ⟨_, _, rfl, rfl, rfl, rfl⟩⟩
theorem sg_X11_wakes_0 (σ : mm_Sg) (x1 : Int32) (x2 : Int32) (R : Option Value × mm_Sg) (h : (∃ (v3 : Int32) (σ1 : mm_Sg), mm_Ev mm_m_X11_isDrinker [.ref 51, .int x1] σ (some (.int v3)) σ1 ∧ (((v3 = (0 : Int32) → (R = (some (.int (-1 : Int32)), σ1))) ∧ (¬ (v3 = (0 : Int32)) → (∃ (v7 : Int32) (σ5 : mm_Sg), mm_Ev mm_m_X11_isWakerOrNone [.int x2] σ1 (some (.int v7)) σ5 ∧ (((v7 = (0 : Int32) → (R = (some (.int (-1 : Int32)), σ5))) ∧ (¬ (v7 = (0 : Int32)) → (∃ (v11 : Int32) (σ9 : mm_Sg), mm_Ev mm_m_X11_of [.int x1, .int (2 : Int32)] σ5 (some (.int v11)) σ9 ∧ (∃ (v14 : Int32) (σ12 : mm_Sg), mm_Ev mm_m_X11_sets [.ref 51, .int v11, .int x2] σ9 (some (.int v14)) σ12 ∧ (R = (some (.int v14), σ12))))))))))))) : mm_Go mm_m_X11_wakes (0, [.ref 51, .int x1, .int x2], [], σ) R := by
  refine mm_blk (M := mm_m_X11_wakes) 2 (S' := (2, [.ref 51, .int x1, .int x2], [.int x1, .ref 51], σ)) (P := []) rfl trivial ?_
  obtain ⟨v3, σ1, e2, h⟩ := h
  refine mm_cl_ (rest := []) e2 ⟨_, _, _, rfl, rfl, mm_tb_X11_isDrinker, rfl, rfl, Nat.le_of_ble_eq_true rfl, Nat.le_of_ble_eq_true rfl, ⟨_, rfl, rfl⟩⟩ ?_
  refine mm_blk (M := mm_m_X11_wakes) 1 (S' := ((if v3 = (0 : Int32) then 28 else 8), [.ref 51, .int x1, .int x2], [], σ1)) (P := []) rfl trivial ?_
  by_cases b4 : v3 = (0 : Int32)
  · rw [if_pos b4]
    have h := h.1 b4
    refine mm_blk (M := mm_m_X11_wakes) 1 (S' := (29, [.ref 51, .int x1, .int x2], [.int (-1 : Int32)], σ1)) (P := []) rfl trivial ?_
    subst h
    exact mm_rt_ ⟨_, _, _, rfl, ⟨_, _, rfl, rfl, rfl, rfl⟩⟩
  · rw [if_neg b4]
    have h := h.2 b4
    refine mm_blk (M := mm_m_X11_wakes) 1 (S' := (9, [.ref 51, .int x1, .int x2], [.int x2], σ1)) (P := []) rfl trivial ?_
    obtain ⟨v7, σ5, e6, h⟩ := h
    refine mm_cl_ (rest := []) e6 ⟨_, _, _, rfl, rfl, mm_tb_X11_isWakerOrNone, rfl, rfl, Nat.le_of_ble_eq_true rfl, Nat.le_of_ble_eq_true rfl, trivial⟩ ?_
    refine mm_blk (M := mm_m_X11_wakes) 1 (S' := ((if v7 = (0 : Int32) then 28 else 15), [.ref 51, .int x1, .int x2], [], σ5)) (P := []) rfl trivial ?_
    by_cases b8 : v7 = (0 : Int32)
    · rw [if_pos b8]
      have h := h.1 b8
      refine mm_blk (M := mm_m_X11_wakes) 1 (S' := (29, [.ref 51, .int x1, .int x2], [.int (-1 : Int32)], σ5)) (P := []) rfl trivial ?_
      subst h
      exact mm_rt_ ⟨_, _, _, rfl, ⟨_, _, rfl, rfl, rfl, rfl⟩⟩
    · rw [if_neg b8]
      have h := h.2 b8
      refine mm_blk (M := mm_m_X11_wakes) 3 (S' := (18, [.ref 51, .int x1, .int x2], [.int (2 : Int32), .int x1, .ref 51], σ5)) (P := []) rfl trivial ?_
      obtain ⟨v11, σ9, e10, h⟩ := h
      refine mm_cl_ (rest := [.ref 51]) e10 ⟨_, _, _, rfl, rfl, mm_tb_X11_of, rfl, rfl, Nat.le_of_ble_eq_true rfl, Nat.le_of_ble_eq_true rfl, trivial⟩ ?_
      refine mm_blk (M := mm_m_X11_wakes) 1 (S' := (22, [.ref 51, .int x1, .int x2], [.int x2, .int v11, .ref 51], σ9)) (P := []) rfl trivial ?_
      obtain ⟨v14, σ12, e13, h⟩ := h
      refine mm_cl_ (rest := []) e13 ⟨_, _, _, rfl, rfl, mm_tb_X11_sets, rfl, rfl, Nat.le_of_ble_eq_true rfl, Nat.le_of_ble_eq_true rfl, ⟨_, rfl, rfl⟩⟩ ?_
      refine mm_blk (M := mm_m_X11_wakes) 1 (S' := (29, [.ref 51, .int x1, .int x2], [.int v14], σ12)) (P := []) rfl trivial ?_
      subst h
      exact mm_rt_ ⟨_, _, _, rfl, ⟨_, _, rfl, rfl, rfl, rfl⟩⟩
theorem sg_X11_tires_0 (σ : mm_Sg) (x1 : Int32) (x2 : Int32) (R : Option Value × mm_Sg) (h : (∃ (v3 : Int32) (σ1 : mm_Sg), mm_Ev mm_m_X11_isWaker [.int x1] σ (some (.int v3)) σ1 ∧ (((v3 = (0 : Int32) → (R = (some (.int (-1 : Int32)), σ1))) ∧ (¬ (v3 = (0 : Int32)) → (∃ (v7 : Int32) (σ5 : mm_Sg), mm_Ev mm_m_X11_isIn [.int x2, .int (0 : Int32), .int (99 : Int32)] σ1 (some (.int v7)) σ5 ∧ (((v7 = (0 : Int32) → (R = (some (.int (-1 : Int32)), σ5))) ∧ (¬ (v7 = (0 : Int32)) → (∃ (v11 : Int32) (σ9 : mm_Sg), mm_Ev mm_m_X11_sets [.ref 51, .int ((35 : Int32) + x1), .int x2] σ5 (some (.int v11)) σ9 ∧ (R = (some (.int v11), σ9)))))))))))) : mm_Go mm_m_X11_tires (0, [.ref 51, .int x1, .int x2], [], σ) R := by
  refine mm_blk (M := mm_m_X11_tires) 1 (S' := (1, [.ref 51, .int x1, .int x2], [.int x1], σ)) (P := []) rfl trivial ?_
  obtain ⟨v3, σ1, e2, h⟩ := h
  refine mm_cl_ (rest := []) e2 ⟨_, _, _, rfl, rfl, mm_tb_X11_isWaker, rfl, rfl, Nat.le_of_ble_eq_true rfl, Nat.le_of_ble_eq_true rfl, trivial⟩ ?_
  refine mm_blk (M := mm_m_X11_tires) 1 (S' := ((if v3 = (0 : Int32) then 29 else 7), [.ref 51, .int x1, .int x2], [], σ1)) (P := []) rfl trivial ?_
  by_cases b4 : v3 = (0 : Int32)
  · rw [if_pos b4]
    have h := h.1 b4
    refine mm_blk (M := mm_m_X11_tires) 1 (S' := (30, [.ref 51, .int x1, .int x2], [.int (-1 : Int32)], σ1)) (P := []) rfl trivial ?_
    subst h
    exact mm_rt_ ⟨_, _, _, rfl, ⟨_, _, rfl, rfl, rfl, rfl⟩⟩
  · rw [if_neg b4]
    have h := h.2 b4
    refine mm_blk (M := mm_m_X11_tires) 3 (S' := (11, [.ref 51, .int x1, .int x2], [.int (99 : Int32), .int (0 : Int32), .int x2], σ1)) (P := []) rfl trivial ?_
    obtain ⟨v7, σ5, e6, h⟩ := h
    refine mm_cl_ (rest := []) e6 ⟨_, _, _, rfl, rfl, mm_tb_X11_isIn, rfl, rfl, Nat.le_of_ble_eq_true rfl, Nat.le_of_ble_eq_true rfl, trivial⟩ ?_
    refine mm_blk (M := mm_m_X11_tires) 1 (S' := ((if v7 = (0 : Int32) then 29 else 17), [.ref 51, .int x1, .int x2], [], σ5)) (P := []) rfl trivial ?_
    by_cases b8 : v7 = (0 : Int32)
    · rw [if_pos b8]
      have h := h.1 b8
      refine mm_blk (M := mm_m_X11_tires) 1 (S' := (30, [.ref 51, .int x1, .int x2], [.int (-1 : Int32)], σ5)) (P := []) rfl trivial ?_
      subst h
      exact mm_rt_ ⟨_, _, _, rfl, ⟨_, _, rfl, rfl, rfl, rfl⟩⟩
    · rw [if_neg b8]
      have h := h.2 b8
      refine mm_blk (M := mm_m_X11_tires) 5 (S' := (23, [.ref 51, .int x1, .int x2], [.int x2, .int ((35 : Int32) + x1), .ref 51], σ5)) (P := []) rfl trivial ?_
      obtain ⟨v11, σ9, e10, h⟩ := h
      refine mm_cl_ (rest := []) e10 ⟨_, _, _, rfl, rfl, mm_tb_X11_sets, rfl, rfl, Nat.le_of_ble_eq_true rfl, Nat.le_of_ble_eq_true rfl, ⟨_, rfl, rfl⟩⟩ ?_
      refine mm_blk (M := mm_m_X11_tires) 1 (S' := (30, [.ref 51, .int x1, .int x2], [.int v11], σ9)) (P := []) rfl trivial ?_
      subst h
      exact mm_rt_ ⟨_, _, _, rfl, ⟨_, _, rfl, rfl, rfl, rfl⟩⟩
theorem sg_X11_sleeps_0 (σ : mm_Sg) (x1 : Int32) (R : Option Value × mm_Sg) (h : (∃ (v3 : Int32) (σ1 : mm_Sg), mm_Ev mm_m_X11_isWaker [.int x1] σ (some (.int v3)) σ1 ∧ (((¬ v3 = (0 : Int32) → (∀ σ5 : mm_Sg, σ5 = mm_u σ1 52 3 ((σ1 52 3) ^^^ ((1 : Int32) <<< (x1 &&& 31))) → (∃ (v9 : Int32) (σ7 : mm_Sg), mm_Ev mm_m_X11_isAwake [.ref 52, .int x1] σ5 (some (.int v9)) σ7 ∧ (((v9 = (0 : Int32) → (R = (some (.int (0 : Int32)), σ7))) ∧ (¬ (v9 = (0 : Int32)) → (R = (some (.int (1 : Int32)), σ7)))))))) ∧ (¬ (¬ v3 = (0 : Int32)) → (R = (some (.int (-1 : Int32)), σ1))))))) : mm_Go mm_m_X11_sleeps (0, [.ref 51, .int x1], [], σ) R := by
  refine mm_blk (M := mm_m_X11_sleeps) 1 (S' := (1, [.ref 51, .int x1], [.int x1], σ)) (P := []) rfl trivial ?_
  obtain ⟨v3, σ1, e2, h⟩ := h
  refine mm_cl_ (rest := []) e2 ⟨_, _, _, rfl, rfl, mm_tb_X11_isWaker, rfl, rfl, Nat.le_of_ble_eq_true rfl, Nat.le_of_ble_eq_true rfl, trivial⟩ ?_
  refine mm_blk (M := mm_m_X11_sleeps) 1 (S' := ((if ¬ v3 = (0 : Int32) then 9 else 7), [.ref 51, .int x1], [], σ1)) (P := []) rfl trivial ?_
  by_cases b4 : ¬ v3 = (0 : Int32)
  · rw [if_pos b4]
    have h := h.1 b4
    refine mm_blk (M := mm_m_X11_sleeps) 10 (S' := (21, [.ref 51, .int x1], [], mm_u σ1 52 3 ((σ1 52 3) ^^^ ((1 : Int32) <<< (x1 &&& 31))))) (P := [mm_cl 51 = 11, vp_in (3 : Int32) (mm_len 52), vp_in (3 : Int32) (mm_len 52)]) rfl ⟨rfl, (by unfold vp_in; decide), (by unfold vp_in; decide), trivial⟩ ?_
    obtain ⟨σ5, e6⟩ : ∃ z, z = mm_u σ1 52 3 ((σ1 52 3) ^^^ ((1 : Int32) <<< (x1 &&& 31))) := ⟨_, rfl⟩
    rw [← e6]
    have h := h σ5 e6
    refine mm_blk (M := mm_m_X11_sleeps) 3 (S' := (26, [.ref 51, .int x1], [.int x1, .ref 52], σ5)) (P := [mm_cl 51 = 11]) rfl ⟨rfl, trivial⟩ ?_
    obtain ⟨v9, σ7, e8, h⟩ := h
    refine mm_cl_ (rest := []) e8 ⟨_, _, _, rfl, rfl, mm_tb_X11_isAwake, rfl, rfl, Nat.le_of_ble_eq_true rfl, Nat.le_of_ble_eq_true rfl, trivial⟩ ?_
    refine mm_blk (M := mm_m_X11_sleeps) 1 (S' := ((if v9 = (0 : Int32) then 36 else 32), [.ref 51, .int x1], [], σ7)) (P := []) rfl trivial ?_
    by_cases b10 : v9 = (0 : Int32)
    · rw [if_pos b10]
      have h := h.1 b10
      refine mm_blk (M := mm_m_X11_sleeps) 1 (S' := (37, [.ref 51, .int x1], [.int (0 : Int32)], σ7)) (P := []) rfl trivial ?_
      subst h
      exact mm_rt_ ⟨_, _, _, rfl, ⟨_, _, rfl, rfl, rfl, rfl⟩⟩
    · rw [if_neg b10]
      have h := h.2 b10
      refine mm_blk (M := mm_m_X11_sleeps) 2 (S' := (37, [.ref 51, .int x1], [.int (1 : Int32)], σ7)) (P := []) rfl trivial ?_
      subst h
      exact mm_rt_ ⟨_, _, _, rfl, ⟨_, _, rfl, rfl, rfl, rfl⟩⟩
  · rw [if_neg b4]
    have h := h.2 b4
    refine mm_blk (M := mm_m_X11_sleeps) 1 (S' := (8, [.ref 51, .int x1], [.int (-1 : Int32)], σ1)) (P := []) rfl trivial ?_
    subst h
    exact mm_rt_ ⟨_, _, _, rfl, ⟨_, _, rfl, rfl, rfl, rfl⟩⟩
theorem sg_X11_bags_0 (σ : mm_Sg) (x1 : Int32) (R : Option Value × mm_Sg) (h : (∃ (v3 : Int32) (σ1 : mm_Sg), mm_Ev mm_m_X11_isIn [.int x1, .int (0 : Int32), .int (999 : Int32)] σ (some (.int v3)) σ1 ∧ (((v3 = (0 : Int32) → (R = (some (.int (-1 : Int32)), σ1))) ∧ (¬ (v3 = (0 : Int32)) → (∃ (v7 : Int32) (σ5 : mm_Sg), mm_Ev mm_m_X11_sets [.ref 51, .int (2 : Int32), .int x1] σ1 (some (.int v7)) σ5 ∧ (R = (some (.int v7), σ5)))))))) : mm_Go mm_m_X11_bags (0, [.ref 51, .int x1], [], σ) R := by
  refine mm_blk (M := mm_m_X11_bags) 3 (S' := (5, [.ref 51, .int x1], [.int (999 : Int32), .int (0 : Int32), .int x1], σ)) (P := []) rfl trivial ?_
  obtain ⟨v3, σ1, e2, h⟩ := h
  refine mm_cl_ (rest := []) e2 ⟨_, _, _, rfl, rfl, mm_tb_X11_isIn, rfl, rfl, Nat.le_of_ble_eq_true rfl, Nat.le_of_ble_eq_true rfl, trivial⟩ ?_
  refine mm_blk (M := mm_m_X11_bags) 1 (S' := ((if v3 = (0 : Int32) then 20 else 11), [.ref 51, .int x1], [], σ1)) (P := []) rfl trivial ?_
  by_cases b4 : v3 = (0 : Int32)
  · rw [if_pos b4]
    have h := h.1 b4
    refine mm_blk (M := mm_m_X11_bags) 1 (S' := (21, [.ref 51, .int x1], [.int (-1 : Int32)], σ1)) (P := []) rfl trivial ?_
    subst h
    exact mm_rt_ ⟨_, _, _, rfl, ⟨_, _, rfl, rfl, rfl, rfl⟩⟩
  · rw [if_neg b4]
    have h := h.2 b4
    refine mm_blk (M := mm_m_X11_bags) 3 (S' := (14, [.ref 51, .int x1], [.int x1, .int (2 : Int32), .ref 51], σ1)) (P := []) rfl trivial ?_
    obtain ⟨v7, σ5, e6, h⟩ := h
    refine mm_cl_ (rest := []) e6 ⟨_, _, _, rfl, rfl, mm_tb_X11_sets, rfl, rfl, Nat.le_of_ble_eq_true rfl, Nat.le_of_ble_eq_true rfl, ⟨_, rfl, rfl⟩⟩ ?_
    refine mm_blk (M := mm_m_X11_bags) 1 (S' := (21, [.ref 51, .int x1], [.int v7], σ5)) (P := []) rfl trivial ?_
    subst h
    exact mm_rt_ ⟨_, _, _, rfl, ⟨_, _, rfl, rfl, rfl, rfl⟩⟩
theorem sg_X11_days_0 (σ : mm_Sg) (x1 : Int32) (R : Option Value × mm_Sg) (h : (∃ (v3 : Int32) (σ1 : mm_Sg), mm_Ev mm_m_X11_isIn [.int x1, .int (1 : Int32), .int (60 : Int32)] σ (some (.int v3)) σ1 ∧ (((¬ v3 = (0 : Int32) → (((((σ1 52 1) + x1) ≤ (999 : Int32) → (∃ (σ6 : mm_Sg), mm_Ev mm_m_X11_daysOn [.ref 51, .ref 52, .int x1] σ1 none σ6 ∧ (∃ (v10 : Int32) (σ8 : mm_Sg), mm_Ev mm_m_X11_allOwed [.ref 52] σ6 (some (.int v10)) σ8 ∧ (R = (some (.int v10), σ8))))) ∧ (¬ (((σ1 52 1) + x1) ≤ (999 : Int32)) → (R = (some (.int (-3 : Int32)), σ1)))))) ∧ (¬ (¬ v3 = (0 : Int32)) → (R = (some (.int (-1 : Int32)), σ1))))))) : mm_Go mm_m_X11_days (0, [.ref 51, .int x1], [], σ) R := by
  refine mm_blk (M := mm_m_X11_days) 3 (S' := (4, [.ref 51, .int x1], [.int (60 : Int32), .int (1 : Int32), .int x1], σ)) (P := []) rfl trivial ?_
  obtain ⟨v3, σ1, e2, h⟩ := h
  refine mm_cl_ (rest := []) e2 ⟨_, _, _, rfl, rfl, mm_tb_X11_isIn, rfl, rfl, Nat.le_of_ble_eq_true rfl, Nat.le_of_ble_eq_true rfl, trivial⟩ ?_
  refine mm_blk (M := mm_m_X11_days) 1 (S' := ((if ¬ v3 = (0 : Int32) then 12 else 10), [.ref 51, .int x1], [], σ1)) (P := []) rfl trivial ?_
  by_cases b4 : ¬ v3 = (0 : Int32)
  · rw [if_pos b4]
    have h := h.1 b4
    refine mm_blk (M := mm_m_X11_days) 8 (S' := ((if ((σ1 52 1) + x1) ≤ (999 : Int32) then 29 else 26), [.ref 51, .int x1], [], σ1)) (P := [mm_cl 51 = 11, vp_in (1 : Int32) (mm_len 52)]) rfl ⟨rfl, (by unfold vp_in; decide), trivial⟩ ?_
    by_cases b5 : ((σ1 52 1) + x1) ≤ (999 : Int32)
    · rw [if_pos b5]
      have h := h.1 b5
      refine mm_blk (M := mm_m_X11_days) 4 (S' := (35, [.ref 51, .int x1], [.int x1, .ref 52, .ref 51], σ1)) (P := [mm_cl 51 = 11]) rfl ⟨rfl, trivial⟩ ?_
      obtain ⟨σ6, e7, h⟩ := h
      refine mm_cl_ (rest := []) e7 ⟨_, _, _, rfl, rfl, mm_tb_X11_daysOn, rfl, rfl, Nat.le_of_ble_eq_true rfl, Nat.le_of_ble_eq_true rfl, ⟨_, rfl, rfl⟩⟩ ?_
      refine mm_blk (M := mm_m_X11_days) 2 (S' := (42, [.ref 51, .int x1], [.ref 52], σ6)) (P := [mm_cl 51 = 11]) rfl ⟨rfl, trivial⟩ ?_
      obtain ⟨v10, σ8, e9, h⟩ := h
      refine mm_cl_ (rest := []) e9 ⟨_, _, _, rfl, rfl, mm_tb_X11_allOwed, rfl, rfl, Nat.le_of_ble_eq_true rfl, Nat.le_of_ble_eq_true rfl, trivial⟩ ?_
      subst h
      exact mm_rt_ ⟨_, _, _, rfl, ⟨_, _, rfl, rfl, rfl, rfl⟩⟩
    · rw [if_neg b5]
      have h := h.2 b5
      refine mm_blk (M := mm_m_X11_days) 1 (S' := (28, [.ref 51, .int x1], [.int (-3 : Int32)], σ1)) (P := []) rfl trivial ?_
      subst h
      exact mm_rt_ ⟨_, _, _, rfl, ⟨_, _, rfl, rfl, rfl, rfl⟩⟩
  · rw [if_neg b4]
    have h := h.2 b4
    refine mm_blk (M := mm_m_X11_days) 1 (S' := (11, [.ref 51, .int x1], [.int (-1 : Int32)], σ1)) (P := []) rfl trivial ?_
    subst h
    exact mm_rt_ ⟨_, _, _, rfl, ⟨_, _, rfl, rfl, rfl, rfl⟩⟩
theorem sg_X11_isLate_0 (σ : mm_Sg) (x0 : Int32) (R : Option Value × mm_Sg) (h : (∃ (v3 : Int32) (σ1 : mm_Sg), mm_Ev mm_m_X11_isIn [.int x0, .int (0 : Int32), .int (60 : Int32)] σ (some (.int v3)) σ1 ∧ ((v3 = 0 ∨ v3 = 1) ∧ R = (some (.int v3), σ1)))) : mm_Go mm_m_X11_isLate (0, [.int x0], [], σ) R := by
  refine mm_blk (M := mm_m_X11_isLate) 3 (S' := (4, [.int x0], [.int (60 : Int32), .int (0 : Int32), .int x0], σ)) (P := []) rfl trivial ?_
  obtain ⟨v3, σ1, e2, h⟩ := h
  refine mm_cl_ (rest := []) e2 ⟨_, _, _, rfl, rfl, mm_tb_X11_isIn, rfl, rfl, Nat.le_of_ble_eq_true rfl, Nat.le_of_ble_eq_true rfl, trivial⟩ ?_
  obtain ⟨c4, h⟩ := h
  subst h
  exact mm_rt_ ⟨_, _, _, rfl, ⟨_, _, rfl, rfl, rfl, (mm_nb c4)⟩⟩
theorem sg_X11_takes_0 (σ : mm_Sg) (x1 : Int32) (R : Option Value × mm_Sg) (h : (∃ (σ1 : mm_Sg), mm_Ev mm_m_X11_copies [.ref 52, .ref 53] σ none σ1 ∧ (∃ (σ3 : mm_Sg), mm_Ev mm_m_X11_daysOn [.ref 51, .ref 53, .int x1] σ1 none σ3 ∧ (R = (none, σ3))))) : mm_Go mm_m_X11_takes (0, [.ref 51, .int x1], [], σ) R := by
  refine mm_blk (M := mm_m_X11_takes) 4 (S' := (8, [.ref 51, .int x1], [.ref 53, .ref 52], σ)) (P := [mm_cl 51 = 11, mm_cl 51 = 11]) rfl ⟨rfl, rfl, trivial⟩ ?_
  obtain ⟨σ1, e2, h⟩ := h
  refine mm_cl_ (rest := []) e2 ⟨_, _, _, rfl, rfl, mm_tb_X11_copies, rfl, rfl, Nat.le_of_ble_eq_true rfl, Nat.le_of_ble_eq_true rfl, trivial⟩ ?_
  refine mm_blk (M := mm_m_X11_takes) 4 (S' := (17, [.ref 51, .int x1], [.int x1, .ref 53, .ref 51], σ1)) (P := [mm_cl 51 = 11]) rfl ⟨rfl, trivial⟩ ?_
  obtain ⟨σ3, e4, h⟩ := h
  refine mm_cl_ (rest := []) e4 ⟨_, _, _, rfl, rfl, mm_tb_X11_daysOn, rfl, rfl, Nat.le_of_ble_eq_true rfl, Nat.le_of_ble_eq_true rfl, ⟨_, rfl, rfl⟩⟩ ?_
  subst h
  exact mm_rt_ ⟨_, _, _, rfl, ⟨rfl, rfl, rfl⟩⟩
theorem sg_X11_owesThen_0 (σ : mm_Sg) (x1 : Int32) (x2 : Int32) (R : Option Value × mm_Sg) (h : (∃ (v3 : Int32) (σ1 : mm_Sg), mm_Ev mm_m_X11_isDrinker [.ref 51, .int x1] σ (some (.int v3)) σ1 ∧ (((v3 = (0 : Int32) → (R = (some (.int (-1 : Int32)), σ1))) ∧ (¬ (v3 = (0 : Int32)) → (∃ (v7 : Int32) (σ5 : mm_Sg), mm_Ev mm_m_X11_isLate [.int x2] σ1 (some (.int v7)) σ5 ∧ (((¬ v7 = (0 : Int32) → (∃ (σ9 : mm_Sg), mm_Ev mm_m_X11_takes [.ref 51, .int x2] σ5 none σ9 ∧ (∃ (v13 : Int32) (σ11 : mm_Sg), mm_Ev mm_m_X11_of [.int x1, .int (3 : Int32)] σ9 (some (.int v13)) σ11 ∧ ((vp_in v13 (mm_len 53)) ∧ R = (some (.int (σ11 53 v13.toNatClampNeg)), σ11))))) ∧ (¬ (¬ v7 = (0 : Int32)) → (R = (some (.int (-1 : Int32)), σ5))))))))))) : mm_Go mm_m_X11_owesThen (0, [.ref 51, .int x1, .int x2], [], σ) R := by
  refine mm_blk (M := mm_m_X11_owesThen) 2 (S' := (2, [.ref 51, .int x1, .int x2], [.int x1, .ref 51], σ)) (P := []) rfl trivial ?_
  obtain ⟨v3, σ1, e2, h⟩ := h
  refine mm_cl_ (rest := []) e2 ⟨_, _, _, rfl, rfl, mm_tb_X11_isDrinker, rfl, rfl, Nat.le_of_ble_eq_true rfl, Nat.le_of_ble_eq_true rfl, ⟨_, rfl, rfl⟩⟩ ?_
  refine mm_blk (M := mm_m_X11_owesThen) 1 (S' := ((if v3 = (0 : Int32) then 15 else 8), [.ref 51, .int x1, .int x2], [], σ1)) (P := []) rfl trivial ?_
  by_cases b4 : v3 = (0 : Int32)
  · rw [if_pos b4]
    have h := h.1 b4
    refine mm_blk (M := mm_m_X11_owesThen) 1 (S' := (16, [.ref 51, .int x1, .int x2], [.int (-1 : Int32)], σ1)) (P := []) rfl trivial ?_
    subst h
    exact mm_rt_ ⟨_, _, _, rfl, ⟨_, _, rfl, rfl, rfl, rfl⟩⟩
  · rw [if_neg b4]
    have h := h.2 b4
    refine mm_blk (M := mm_m_X11_owesThen) 1 (S' := (9, [.ref 51, .int x1, .int x2], [.int x2], σ1)) (P := []) rfl trivial ?_
    obtain ⟨v7, σ5, e6, h⟩ := h
    refine mm_cl_ (rest := []) e6 ⟨_, _, _, rfl, rfl, mm_tb_X11_isLate, rfl, rfl, Nat.le_of_ble_eq_true rfl, Nat.le_of_ble_eq_true rfl, trivial⟩ ?_
    refine mm_blk (M := mm_m_X11_owesThen) 1 (S' := ((if ¬ v7 = (0 : Int32) then 17 else 15), [.ref 51, .int x1, .int x2], [], σ5)) (P := []) rfl trivial ?_
    by_cases b8 : ¬ v7 = (0 : Int32)
    · rw [if_pos b8]
      have h := h.1 b8
      refine mm_blk (M := mm_m_X11_owesThen) 2 (S' := (19, [.ref 51, .int x1, .int x2], [.int x2, .ref 51], σ5)) (P := []) rfl trivial ?_
      obtain ⟨σ9, e10, h⟩ := h
      refine mm_cl_ (rest := []) e10 ⟨_, _, _, rfl, rfl, mm_tb_X11_takes, rfl, rfl, Nat.le_of_ble_eq_true rfl, Nat.le_of_ble_eq_true rfl, ⟨_, rfl, rfl⟩⟩ ?_
      refine mm_blk (M := mm_m_X11_owesThen) 4 (S' := (28, [.ref 51, .int x1, .int x2], [.int (3 : Int32), .int x1, .ref 53], σ9)) (P := [mm_cl 51 = 11]) rfl ⟨rfl, trivial⟩ ?_
      obtain ⟨v13, σ11, e12, h⟩ := h
      refine mm_cl_ (rest := [.ref 53]) e12 ⟨_, _, _, rfl, rfl, mm_tb_X11_of, rfl, rfl, Nat.le_of_ble_eq_true rfl, Nat.le_of_ble_eq_true rfl, trivial⟩ ?_
      obtain ⟨c14, h⟩ := h
      refine mm_blk (M := mm_m_X11_owesThen) 1 (S' := (32, [.ref 51, .int x1, .int x2], [.int (σ11 53 v13.toNatClampNeg)], σ11)) (P := [vp_in v13 (mm_len 53)]) rfl ⟨c14, trivial⟩ ?_
      subst h
      exact mm_rt_ ⟨_, _, _, rfl, ⟨_, _, rfl, rfl, rfl, rfl⟩⟩
    · rw [if_neg b8]
      have h := h.2 b8
      refine mm_blk (M := mm_m_X11_owesThen) 1 (S' := (16, [.ref 51, .int x1, .int x2], [.int (-1 : Int32)], σ5)) (P := []) rfl trivial ?_
      subst h
      exact mm_rt_ ⟨_, _, _, rfl, ⟨_, _, rfl, rfl, rfl, rfl⟩⟩
theorem sg_X11_tiredThen_0 (σ : mm_Sg) (x1 : Int32) (x2 : Int32) (R : Option Value × mm_Sg) (h : (∃ (v3 : Int32) (σ1 : mm_Sg), mm_Ev mm_m_X11_isWaker [.int x1] σ (some (.int v3)) σ1 ∧ (((v3 = (0 : Int32) → (R = (some (.int (-1 : Int32)), σ1))) ∧ (¬ (v3 = (0 : Int32)) → (∃ (v7 : Int32) (σ5 : mm_Sg), mm_Ev mm_m_X11_isLate [.int x2] σ1 (some (.int v7)) σ5 ∧ (((¬ v7 = (0 : Int32) → (∃ (σ9 : mm_Sg), mm_Ev mm_m_X11_takes [.ref 51, .int x2] σ5 none σ9 ∧ ((vp_in ((35 : Int32) + x1) (mm_len 53)) ∧ R = (some (.int (σ9 53 ((35 : Int32) + x1).toNatClampNeg)), σ9)))) ∧ (¬ (¬ v7 = (0 : Int32)) → (R = (some (.int (-1 : Int32)), σ5))))))))))) : mm_Go mm_m_X11_tiredThen (0, [.ref 51, .int x1, .int x2], [], σ) R := by
  refine mm_blk (M := mm_m_X11_tiredThen) 1 (S' := (1, [.ref 51, .int x1, .int x2], [.int x1], σ)) (P := []) rfl trivial ?_
  obtain ⟨v3, σ1, e2, h⟩ := h
  refine mm_cl_ (rest := []) e2 ⟨_, _, _, rfl, rfl, mm_tb_X11_isWaker, rfl, rfl, Nat.le_of_ble_eq_true rfl, Nat.le_of_ble_eq_true rfl, trivial⟩ ?_
  refine mm_blk (M := mm_m_X11_tiredThen) 1 (S' := ((if v3 = (0 : Int32) then 14 else 7), [.ref 51, .int x1, .int x2], [], σ1)) (P := []) rfl trivial ?_
  by_cases b4 : v3 = (0 : Int32)
  · rw [if_pos b4]
    have h := h.1 b4
    refine mm_blk (M := mm_m_X11_tiredThen) 1 (S' := (15, [.ref 51, .int x1, .int x2], [.int (-1 : Int32)], σ1)) (P := []) rfl trivial ?_
    subst h
    exact mm_rt_ ⟨_, _, _, rfl, ⟨_, _, rfl, rfl, rfl, rfl⟩⟩
  · rw [if_neg b4]
    have h := h.2 b4
    refine mm_blk (M := mm_m_X11_tiredThen) 1 (S' := (8, [.ref 51, .int x1, .int x2], [.int x2], σ1)) (P := []) rfl trivial ?_
    obtain ⟨v7, σ5, e6, h⟩ := h
    refine mm_cl_ (rest := []) e6 ⟨_, _, _, rfl, rfl, mm_tb_X11_isLate, rfl, rfl, Nat.le_of_ble_eq_true rfl, Nat.le_of_ble_eq_true rfl, trivial⟩ ?_
    refine mm_blk (M := mm_m_X11_tiredThen) 1 (S' := ((if ¬ v7 = (0 : Int32) then 16 else 14), [.ref 51, .int x1, .int x2], [], σ5)) (P := []) rfl trivial ?_
    by_cases b8 : ¬ v7 = (0 : Int32)
    · rw [if_pos b8]
      have h := h.1 b8
      refine mm_blk (M := mm_m_X11_tiredThen) 2 (S' := (18, [.ref 51, .int x1, .int x2], [.int x2, .ref 51], σ5)) (P := []) rfl trivial ?_
      obtain ⟨σ9, e10, h⟩ := h
      refine mm_cl_ (rest := []) e10 ⟨_, _, _, rfl, rfl, mm_tb_X11_takes, rfl, rfl, Nat.le_of_ble_eq_true rfl, Nat.le_of_ble_eq_true rfl, ⟨_, rfl, rfl⟩⟩ ?_
      obtain ⟨c11, h⟩ := h
      refine mm_blk (M := mm_m_X11_tiredThen) 6 (S' := (30, [.ref 51, .int x1, .int x2], [.int (σ9 53 ((35 : Int32) + x1).toNatClampNeg)], σ9)) (P := [mm_cl 51 = 11, vp_in ((35 : Int32) + x1) (mm_len 53)]) rfl ⟨rfl, c11, trivial⟩ ?_
      subst h
      exact mm_rt_ ⟨_, _, _, rfl, ⟨_, _, rfl, rfl, rfl, rfl⟩⟩
    · rw [if_neg b8]
      have h := h.2 b8
      refine mm_blk (M := mm_m_X11_tiredThen) 1 (S' := (15, [.ref 51, .int x1, .int x2], [.int (-1 : Int32)], σ5)) (P := []) rfl trivial ?_
      subst h
      exact mm_rt_ ⟨_, _, _, rfl, ⟨_, _, rfl, rfl, rfl, rfl⟩⟩
theorem sg_X11_then_0 (σ : mm_Sg) (x1 : Int32) (x2 : Int32) (R : Option Value × mm_Sg) (h : (∃ (v3 : Int32) (σ1 : mm_Sg), mm_Ev mm_m_X11_isLate [.int x1] σ (some (.int v3)) σ1 ∧ (((v3 = (0 : Int32) → (R = (some (.int (-1 : Int32)), σ1))) ∧ (¬ (v3 = (0 : Int32)) → (∃ (v7 : Int32) (σ5 : mm_Sg), mm_Ev mm_m_X11_isIn [.int x2, .int (0 : Int32), .int (2 : Int32)] σ1 (some (.int v7)) σ5 ∧ (((¬ v7 = (0 : Int32) → (∃ (σ9 : mm_Sg), mm_Ev mm_m_X11_takes [.ref 51, .int x1] σ5 none σ9 ∧ (((¬ x2 = (0 : Int32) → (((¬ x2 = (1 : Int32) → (∃ (v15 : Int32) (σ13 : mm_Sg), mm_Ev mm_m_X11_allOwed [.ref 53] σ9 (some (.int v15)) σ13 ∧ (R = (some (.int v15), σ13)))) ∧ (¬ (¬ x2 = (1 : Int32)) → (R = (some (.int (σ9 53 3)), σ9)))))) ∧ (¬ (¬ x2 = (0 : Int32)) → (R = (some (.int (σ9 53 2)), σ9))))))) ∧ (¬ (¬ v7 = (0 : Int32)) → (R = (some (.int (-1 : Int32)), σ5))))))))))) : mm_Go mm_m_X11_then (0, [.ref 51, .int x1, .int x2], [], σ) R := by
  refine mm_blk (M := mm_m_X11_then) 1 (S' := (1, [.ref 51, .int x1, .int x2], [.int x1], σ)) (P := []) rfl trivial ?_
  obtain ⟨v3, σ1, e2, h⟩ := h
  refine mm_cl_ (rest := []) e2 ⟨_, _, _, rfl, rfl, mm_tb_X11_isLate, rfl, rfl, Nat.le_of_ble_eq_true rfl, Nat.le_of_ble_eq_true rfl, trivial⟩ ?_
  refine mm_blk (M := mm_m_X11_then) 1 (S' := ((if v3 = (0 : Int32) then 16 else 7), [.ref 51, .int x1, .int x2], [], σ1)) (P := []) rfl trivial ?_
  by_cases b4 : v3 = (0 : Int32)
  · rw [if_pos b4]
    have h := h.1 b4
    refine mm_blk (M := mm_m_X11_then) 1 (S' := (17, [.ref 51, .int x1, .int x2], [.int (-1 : Int32)], σ1)) (P := []) rfl trivial ?_
    subst h
    exact mm_rt_ ⟨_, _, _, rfl, ⟨_, _, rfl, rfl, rfl, rfl⟩⟩
  · rw [if_neg b4]
    have h := h.2 b4
    refine mm_blk (M := mm_m_X11_then) 3 (S' := (10, [.ref 51, .int x1, .int x2], [.int (2 : Int32), .int (0 : Int32), .int x2], σ1)) (P := []) rfl trivial ?_
    obtain ⟨v7, σ5, e6, h⟩ := h
    refine mm_cl_ (rest := []) e6 ⟨_, _, _, rfl, rfl, mm_tb_X11_isIn, rfl, rfl, Nat.le_of_ble_eq_true rfl, Nat.le_of_ble_eq_true rfl, trivial⟩ ?_
    refine mm_blk (M := mm_m_X11_then) 1 (S' := ((if ¬ v7 = (0 : Int32) then 18 else 16), [.ref 51, .int x1, .int x2], [], σ5)) (P := []) rfl trivial ?_
    by_cases b8 : ¬ v7 = (0 : Int32)
    · rw [if_pos b8]
      have h := h.1 b8
      refine mm_blk (M := mm_m_X11_then) 2 (S' := (20, [.ref 51, .int x1, .int x2], [.int x1, .ref 51], σ5)) (P := []) rfl trivial ?_
      obtain ⟨σ9, e10, h⟩ := h
      refine mm_cl_ (rest := []) e10 ⟨_, _, _, rfl, rfl, mm_tb_X11_takes, rfl, rfl, Nat.le_of_ble_eq_true rfl, Nat.le_of_ble_eq_true rfl, ⟨_, rfl, rfl⟩⟩ ?_
      refine mm_blk (M := mm_m_X11_then) 2 (S' := ((if ¬ x2 = (0 : Int32) then 36 else 27), [.ref 51, .int x1, .int x2], [], σ9)) (P := []) rfl trivial ?_
      by_cases b11 : ¬ x2 = (0 : Int32)
      · rw [if_pos b11]
        have h := h.1 b11
        refine mm_blk (M := mm_m_X11_then) 3 (S' := ((if ¬ x2 = (1 : Int32) then 50 else 41), [.ref 51, .int x1, .int x2], [], σ9)) (P := []) rfl trivial ?_
        by_cases b12 : ¬ x2 = (1 : Int32)
        · rw [if_pos b12]
          have h := h.1 b12
          refine mm_blk (M := mm_m_X11_then) 2 (S' := (54, [.ref 51, .int x1, .int x2], [.ref 53], σ9)) (P := [mm_cl 51 = 11]) rfl ⟨rfl, trivial⟩ ?_
          obtain ⟨v15, σ13, e14, h⟩ := h
          refine mm_cl_ (rest := []) e14 ⟨_, _, _, rfl, rfl, mm_tb_X11_allOwed, rfl, rfl, Nat.le_of_ble_eq_true rfl, Nat.le_of_ble_eq_true rfl, trivial⟩ ?_
          subst h
          exact mm_rt_ ⟨_, _, _, rfl, ⟨_, _, rfl, rfl, rfl, rfl⟩⟩
        · rw [if_neg b12]
          have h := h.2 b12
          refine mm_blk (M := mm_m_X11_then) 5 (S' := (57, [.ref 51, .int x1, .int x2], [.int (σ9 53 3)], σ9)) (P := [mm_cl 51 = 11, vp_in (3 : Int32) (mm_len 53)]) rfl ⟨rfl, (by unfold vp_in; decide), trivial⟩ ?_
          subst h
          exact mm_rt_ ⟨_, _, _, rfl, ⟨_, _, rfl, rfl, rfl, rfl⟩⟩
      · rw [if_neg b11]
        have h := h.2 b11
        refine mm_blk (M := mm_m_X11_then) 5 (S' := (57, [.ref 51, .int x1, .int x2], [.int (σ9 53 2)], σ9)) (P := [mm_cl 51 = 11, vp_in (2 : Int32) (mm_len 53)]) rfl ⟨rfl, (by unfold vp_in; decide), trivial⟩ ?_
        subst h
        exact mm_rt_ ⟨_, _, _, rfl, ⟨_, _, rfl, rfl, rfl, rfl⟩⟩
    · rw [if_neg b8]
      have h := h.2 b8
      refine mm_blk (M := mm_m_X11_then) 1 (S' := (17, [.ref 51, .int x1, .int x2], [.int (-1 : Int32)], σ5)) (P := []) rfl trivial ?_
      subst h
      exact mm_rt_ ⟨_, _, _, rfl, ⟨_, _, rfl, rfl, rfl, rfl⟩⟩
theorem sg_X11_firstAsleep_0 (σ : mm_Sg) (x1 : Int32) (R : Option Value × mm_Sg) (h : (∃ (v3 : Int32) (σ1 : mm_Sg), mm_Ev mm_m_X11_isWaker [.int x1] σ (some (.int v3)) σ1 ∧ (((¬ v3 = (0 : Int32) → (∃ (σ5 : mm_Sg), mm_Ev mm_m_X11_copies [.ref 52, .ref 53] σ1 none σ5 ∧ mm_Go mm_m_X11_firstAsleep (22, [.ref 51, .int x1, .int (0 : Int32)], [], σ5) R)) ∧ (¬ (¬ v3 = (0 : Int32)) → (R = (some (.int (-1 : Int32)), σ1))))))) : mm_Go mm_m_X11_firstAsleep (0, [.ref 51, .int x1, .null], [], σ) R := by
  refine mm_blk (M := mm_m_X11_firstAsleep) 1 (S' := (1, [.ref 51, .int x1, .null], [.int x1], σ)) (P := []) rfl trivial ?_
  obtain ⟨v3, σ1, e2, h⟩ := h
  refine mm_cl_ (rest := []) e2 ⟨_, _, _, rfl, rfl, mm_tb_X11_isWaker, rfl, rfl, Nat.le_of_ble_eq_true rfl, Nat.le_of_ble_eq_true rfl, trivial⟩ ?_
  refine mm_blk (M := mm_m_X11_firstAsleep) 1 (S' := ((if ¬ v3 = (0 : Int32) then 9 else 7), [.ref 51, .int x1, .null], [], σ1)) (P := []) rfl trivial ?_
  by_cases b4 : ¬ v3 = (0 : Int32)
  · rw [if_pos b4]
    have h := h.1 b4
    refine mm_blk (M := mm_m_X11_firstAsleep) 4 (S' := (17, [.ref 51, .int x1, .null], [.ref 53, .ref 52], σ1)) (P := [mm_cl 51 = 11, mm_cl 51 = 11]) rfl ⟨rfl, rfl, trivial⟩ ?_
    obtain ⟨σ5, e6, h⟩ := h
    refine mm_cl_ (rest := []) e6 ⟨_, _, _, rfl, rfl, mm_tb_X11_copies, rfl, rfl, Nat.le_of_ble_eq_true rfl, Nat.le_of_ble_eq_true rfl, trivial⟩ ?_
    refine mm_blk (M := mm_m_X11_firstAsleep) 2 (S' := (22, [.ref 51, .int x1, .int (0 : Int32)], [], σ5)) (P := []) rfl trivial ?_
    exact h
  · rw [if_neg b4]
    have h := h.2 b4
    refine mm_blk (M := mm_m_X11_firstAsleep) 1 (S' := (8, [.ref 51, .int x1, .null], [.int (-1 : Int32)], σ1)) (P := []) rfl trivial ?_
    subst h
    exact mm_rt_ ⟨_, _, _, rfl, ⟨_, _, rfl, rfl, rfl, rfl⟩⟩
theorem sg_X11_firstAsleep_22 (σ : mm_Sg) (x1 : Int32) (x2 : Int32) (R : Option Value × mm_Sg) (h : ((((60 : Int32) < x2 → (R = (some (.int (-4 : Int32)), σ))) ∧ (¬ ((60 : Int32) < x2) → (∃ (v4 : Int32) (σ2 : mm_Sg), mm_Ev mm_m_X11_isAwake [.ref 53, .int x1] σ (some (.int v4)) σ2 ∧ (((¬ v4 = (0 : Int32) → (∃ (σ6 : mm_Sg), mm_Ev mm_m_X11_day [.ref 51, .ref 53] σ2 none σ6 ∧ mm_Go mm_m_X11_firstAsleep (22, [.ref 51, .int x1, .int (x2 + (1 : Int32))], [], σ6) R)) ∧ (¬ (¬ v4 = (0 : Int32)) → (R = (some (.int x2), σ2)))))))))) : mm_Go mm_m_X11_firstAsleep (22, [.ref 51, .int x1, .int x2], [], σ) R := by
  refine mm_blk (M := mm_m_X11_firstAsleep) 3 (S' := ((if (60 : Int32) < x2 then 55 else 28), [.ref 51, .int x1, .int x2], [], σ)) (P := []) rfl trivial ?_
  by_cases b1 : (60 : Int32) < x2
  · rw [if_pos b1]
    have h := h.1 b1
    refine mm_blk (M := mm_m_X11_firstAsleep) 1 (S' := (57, [.ref 51, .int x1, .int x2], [.int (-4 : Int32)], σ)) (P := []) rfl trivial ?_
    subst h
    exact mm_rt_ ⟨_, _, _, rfl, ⟨_, _, rfl, rfl, rfl, rfl⟩⟩
  · rw [if_neg b1]
    have h := h.2 b1
    refine mm_blk (M := mm_m_X11_firstAsleep) 3 (S' := (33, [.ref 51, .int x1, .int x2], [.int x1, .ref 53], σ)) (P := [mm_cl 51 = 11]) rfl ⟨rfl, trivial⟩ ?_
    obtain ⟨v4, σ2, e3, h⟩ := h
    refine mm_cl_ (rest := []) e3 ⟨_, _, _, rfl, rfl, mm_tb_X11_isAwake, rfl, rfl, Nat.le_of_ble_eq_true rfl, Nat.le_of_ble_eq_true rfl, trivial⟩ ?_
    refine mm_blk (M := mm_m_X11_firstAsleep) 1 (S' := ((if ¬ v4 = (0 : Int32) then 41 else 39), [.ref 51, .int x1, .int x2], [], σ2)) (P := []) rfl trivial ?_
    by_cases b5 : ¬ v4 = (0 : Int32)
    · rw [if_pos b5]
      have h := h.1 b5
      refine mm_blk (M := mm_m_X11_firstAsleep) 3 (S' := (46, [.ref 51, .int x1, .int x2], [.ref 53, .ref 51], σ2)) (P := [mm_cl 51 = 11]) rfl ⟨rfl, trivial⟩ ?_
      obtain ⟨σ6, e7, h⟩ := h
      refine mm_cl_ (rest := []) e7 ⟨_, _, _, rfl, rfl, mm_tb_X11_day, rfl, rfl, Nat.le_of_ble_eq_true rfl, Nat.le_of_ble_eq_true rfl, ⟨_, rfl, rfl⟩⟩ ?_
      refine mm_blk (M := mm_m_X11_firstAsleep) 2 (S' := (22, [.ref 51, .int x1, .int (x2 + (1 : Int32))], [], σ6)) (P := []) rfl trivial ?_
      exact h
    · rw [if_neg b5]
      have h := h.2 b5
      refine mm_blk (M := mm_m_X11_firstAsleep) 1 (S' := (40, [.ref 51, .int x1, .int x2], [.int x2], σ2)) (P := []) rfl trivial ?_
      subst h
      exact mm_rt_ ⟨_, _, _, rfl, ⟨_, _, rfl, rfl, rfl, rfl⟩⟩
theorem sg_X11_out_0 (σ : mm_Sg) (R : Option Value × mm_Sg) (h : (∃ (σ1 : mm_Sg), mm_Ev mm_m_X11_copies [.ref 52, .ref 53] σ none σ1 ∧ mm_Go mm_m_X11_out (13, [.ref 51, .int (0 : Int32)], [], σ1) R)) : mm_Go mm_m_X11_out (0, [.ref 51, .null], [], σ) R := by
  refine mm_blk (M := mm_m_X11_out) 4 (S' := (8, [.ref 51, .null], [.ref 53, .ref 52], σ)) (P := [mm_cl 51 = 11, mm_cl 51 = 11]) rfl ⟨rfl, rfl, trivial⟩ ?_
  obtain ⟨σ1, e2, h⟩ := h
  refine mm_cl_ (rest := []) e2 ⟨_, _, _, rfl, rfl, mm_tb_X11_copies, rfl, rfl, Nat.le_of_ble_eq_true rfl, Nat.le_of_ble_eq_true rfl, trivial⟩ ?_
  refine mm_blk (M := mm_m_X11_out) 2 (S' := (13, [.ref 51, .int (0 : Int32)], [], σ1)) (P := []) rfl trivial ?_
  exact h
theorem sg_X11_out_13 (σ : mm_Sg) (x1 : Int32) (R : Option Value × mm_Sg) (h : ((((60 : Int32) < x1 → (R = (some (.int (-4 : Int32)), σ))) ∧ (¬ ((60 : Int32) < x1) → (((¬ (σ 53 2) = (0 : Int32) → (∃ (σ3 : mm_Sg), mm_Ev mm_m_X11_day [.ref 51, .ref 53] σ none σ3 ∧ mm_Go mm_m_X11_out (13, [.ref 51, .int (x1 + (1 : Int32))], [], σ3) R)) ∧ (¬ (¬ (σ 53 2) = (0 : Int32)) → (R = (some (.int x1), σ))))))))) : mm_Go mm_m_X11_out (13, [.ref 51, .int x1], [], σ) R := by
  refine mm_blk (M := mm_m_X11_out) 3 (S' := ((if (60 : Int32) < x1 then 44 else 19), [.ref 51, .int x1], [], σ)) (P := []) rfl trivial ?_
  by_cases b1 : (60 : Int32) < x1
  · rw [if_pos b1]
    have h := h.1 b1
    refine mm_blk (M := mm_m_X11_out) 1 (S' := (46, [.ref 51, .int x1], [.int (-4 : Int32)], σ)) (P := []) rfl trivial ?_
    subst h
    exact mm_rt_ ⟨_, _, _, rfl, ⟨_, _, rfl, rfl, rfl, rfl⟩⟩
  · rw [if_neg b1]
    have h := h.2 b1
    refine mm_blk (M := mm_m_X11_out) 5 (S' := ((if ¬ (σ 53 2) = (0 : Int32) then 30 else 28), [.ref 51, .int x1], [], σ)) (P := [mm_cl 51 = 11, vp_in (2 : Int32) (mm_len 53)]) rfl ⟨rfl, (by unfold vp_in; decide), trivial⟩ ?_
    by_cases b2 : ¬ (σ 53 2) = (0 : Int32)
    · rw [if_pos b2]
      have h := h.1 b2
      refine mm_blk (M := mm_m_X11_out) 3 (S' := (35, [.ref 51, .int x1], [.ref 53, .ref 51], σ)) (P := [mm_cl 51 = 11]) rfl ⟨rfl, trivial⟩ ?_
      obtain ⟨σ3, e4, h⟩ := h
      refine mm_cl_ (rest := []) e4 ⟨_, _, _, rfl, rfl, mm_tb_X11_day, rfl, rfl, Nat.le_of_ble_eq_true rfl, Nat.le_of_ble_eq_true rfl, ⟨_, rfl, rfl⟩⟩ ?_
      refine mm_blk (M := mm_m_X11_out) 2 (S' := (13, [.ref 51, .int (x1 + (1 : Int32))], [], σ3)) (P := []) rfl trivial ?_
      exact h
    · rw [if_neg b2]
      have h := h.2 b2
      refine mm_blk (M := mm_m_X11_out) 1 (S' := (29, [.ref 51, .int x1], [.int x1], σ)) (P := []) rfl trivial ?_
      subst h
      exact mm_rt_ ⟨_, _, _, rfl, ⟨_, _, rfl, rfl, rfl, rfl⟩⟩
theorem sg_X11_owedNow_0 (σ : mm_Sg) (x1 : Int32) (R : Option Value × mm_Sg) (h : (∃ (σ1 : mm_Sg), mm_Ev mm_m_X11_takes [.ref 51, .int x1] σ none σ1 ∧ (∃ (v5 : Int32) (σ3 : mm_Sg), mm_Ev mm_m_X11_allOwed [.ref 53] σ1 (some (.int v5)) σ3 ∧ (R = (some (.int v5), σ3))))) : mm_Go mm_m_X11_owedNow (0, [.ref 51, .int x1], [], σ) R := by
  refine mm_blk (M := mm_m_X11_owedNow) 2 (S' := (2, [.ref 51, .int x1], [.int x1, .ref 51], σ)) (P := []) rfl trivial ?_
  obtain ⟨σ1, e2, h⟩ := h
  refine mm_cl_ (rest := []) e2 ⟨_, _, _, rfl, rfl, mm_tb_X11_takes, rfl, rfl, Nat.le_of_ble_eq_true rfl, Nat.le_of_ble_eq_true rfl, ⟨_, rfl, rfl⟩⟩ ?_
  refine mm_blk (M := mm_m_X11_owedNow) 2 (S' := (9, [.ref 51, .int x1], [.ref 53], σ1)) (P := [mm_cl 51 = 11]) rfl ⟨rfl, trivial⟩ ?_
  obtain ⟨v5, σ3, e4, h⟩ := h
  refine mm_cl_ (rest := []) e4 ⟨_, _, _, rfl, rfl, mm_tb_X11_allOwed, rfl, rfl, Nat.le_of_ble_eq_true rfl, Nat.le_of_ble_eq_true rfl, trivial⟩ ?_
  subst h
  exact mm_rt_ ⟨_, _, _, rfl, ⟨_, _, rfl, rfl, rfl, rfl⟩⟩
theorem sg_X11_bestWaker_0 (σ : mm_Sg) (x1 : Int32) (x2 : Int32) (x3 : Int32) (R : Option Value × mm_Sg) (h : (∃ (v3 : Int32) (σ1 : mm_Sg), mm_Ev mm_m_X11_isDrinker [.ref 51, .int x1] σ (some (.int v3)) σ1 ∧ (((v3 = (0 : Int32) → (R = (some (.int (-1 : Int32)), σ1))) ∧ (¬ (v3 = (0 : Int32)) → (∃ (v7 : Int32) (σ5 : mm_Sg), mm_Ev mm_m_X11_isLate [.int x2] σ1 (some (.int v7)) σ5 ∧ (((v7 = (0 : Int32) → (R = (some (.int (-1 : Int32)), σ5))) ∧ (¬ (v7 = (0 : Int32)) → (∃ (v11 : Int32) (σ9 : mm_Sg), mm_Ev mm_m_X11_isIn [.int x3, .int (0 : Int32), .int (1 : Int32)] σ5 (some (.int v11)) σ9 ∧ (((¬ v11 = (0 : Int32) → mm_Go mm_m_X11_bestWaker (37, [.ref 51, .int x1, .int x2, .int x3, .int (9 : Int32), .int (1000000000 : Int32), .int (0 : Int32)], [], σ9) R) ∧ (¬ (¬ v11 = (0 : Int32)) → (R = (some (.int (-1 : Int32)), σ9))))))))))))))) : mm_Go mm_m_X11_bestWaker (0, [.ref 51, .int x1, .int x2, .int x3, .null, .null, .null], [], σ) R := by
  refine mm_blk (M := mm_m_X11_bestWaker) 2 (S' := (2, [.ref 51, .int x1, .int x2, .int x3, .null, .null, .null], [.int x1, .ref 51], σ)) (P := []) rfl trivial ?_
  obtain ⟨v3, σ1, e2, h⟩ := h
  refine mm_cl_ (rest := []) e2 ⟨_, _, _, rfl, rfl, mm_tb_X11_isDrinker, rfl, rfl, Nat.le_of_ble_eq_true rfl, Nat.le_of_ble_eq_true rfl, ⟨_, rfl, rfl⟩⟩ ?_
  refine mm_blk (M := mm_m_X11_bestWaker) 1 (S' := ((if v3 = (0 : Int32) then 24 else 8), [.ref 51, .int x1, .int x2, .int x3, .null, .null, .null], [], σ1)) (P := []) rfl trivial ?_
  by_cases b4 : v3 = (0 : Int32)
  · rw [if_pos b4]
    have h := h.1 b4
    refine mm_blk (M := mm_m_X11_bestWaker) 1 (S' := (25, [.ref 51, .int x1, .int x2, .int x3, .null, .null, .null], [.int (-1 : Int32)], σ1)) (P := []) rfl trivial ?_
    subst h
    exact mm_rt_ ⟨_, _, _, rfl, ⟨_, _, rfl, rfl, rfl, rfl⟩⟩
  · rw [if_neg b4]
    have h := h.2 b4
    refine mm_blk (M := mm_m_X11_bestWaker) 1 (S' := (9, [.ref 51, .int x1, .int x2, .int x3, .null, .null, .null], [.int x2], σ1)) (P := []) rfl trivial ?_
    obtain ⟨v7, σ5, e6, h⟩ := h
    refine mm_cl_ (rest := []) e6 ⟨_, _, _, rfl, rfl, mm_tb_X11_isLate, rfl, rfl, Nat.le_of_ble_eq_true rfl, Nat.le_of_ble_eq_true rfl, trivial⟩ ?_
    refine mm_blk (M := mm_m_X11_bestWaker) 1 (S' := ((if v7 = (0 : Int32) then 24 else 15), [.ref 51, .int x1, .int x2, .int x3, .null, .null, .null], [], σ5)) (P := []) rfl trivial ?_
    by_cases b8 : v7 = (0 : Int32)
    · rw [if_pos b8]
      have h := h.1 b8
      refine mm_blk (M := mm_m_X11_bestWaker) 1 (S' := (25, [.ref 51, .int x1, .int x2, .int x3, .null, .null, .null], [.int (-1 : Int32)], σ5)) (P := []) rfl trivial ?_
      subst h
      exact mm_rt_ ⟨_, _, _, rfl, ⟨_, _, rfl, rfl, rfl, rfl⟩⟩
    · rw [if_neg b8]
      have h := h.2 b8
      refine mm_blk (M := mm_m_X11_bestWaker) 3 (S' := (18, [.ref 51, .int x1, .int x2, .int x3, .null, .null, .null], [.int (1 : Int32), .int (0 : Int32), .int x3], σ5)) (P := []) rfl trivial ?_
      obtain ⟨v11, σ9, e10, h⟩ := h
      refine mm_cl_ (rest := []) e10 ⟨_, _, _, rfl, rfl, mm_tb_X11_isIn, rfl, rfl, Nat.le_of_ble_eq_true rfl, Nat.le_of_ble_eq_true rfl, trivial⟩ ?_
      refine mm_blk (M := mm_m_X11_bestWaker) 1 (S' := ((if ¬ v11 = (0 : Int32) then 26 else 24), [.ref 51, .int x1, .int x2, .int x3, .null, .null, .null], [], σ9)) (P := []) rfl trivial ?_
      by_cases b12 : ¬ v11 = (0 : Int32)
      · rw [if_pos b12]
        have h := h.1 b12
        refine mm_blk (M := mm_m_X11_bestWaker) 6 (S' := (37, [.ref 51, .int x1, .int x2, .int x3, .int (9 : Int32), .int (1000000000 : Int32), .int (0 : Int32)], [], σ9)) (P := []) rfl trivial ?_
        exact h
      · rw [if_neg b12]
        have h := h.2 b12
        refine mm_blk (M := mm_m_X11_bestWaker) 1 (S' := (25, [.ref 51, .int x1, .int x2, .int x3, .null, .null, .null], [.int (-1 : Int32)], σ9)) (P := []) rfl trivial ?_
        subst h
        exact mm_rt_ ⟨_, _, _, rfl, ⟨_, _, rfl, rfl, rfl, rfl⟩⟩
theorem sg_X11_bestWaker_37 (σ : mm_Sg) (x1 : Int32) (x2 : Int32) (x3 : Int32) (x4 : Int32) (x5 : Int32) (x6 : Int32) (R : Option Value × mm_Sg) (h : ((((5 : Int32) < x6 → (((¬ x3 = (0 : Int32) → (R = (some (.int x5), σ))) ∧ (¬ (¬ x3 = (0 : Int32)) → (R = (some (.int x4), σ)))))) ∧ (¬ ((5 : Int32) < x6) → (∃ (σ3 : mm_Sg), mm_Ev mm_m_X11_copies [.ref 52, .ref 53] σ none σ3 ∧ (∃ (v7 : Int32) (σ5 : mm_Sg), mm_Ev mm_m_X11_of [.int x1, .int (2 : Int32)] σ3 (some (.int v7)) σ5 ∧ ((((5 : Int32) ≤ x6 → mm_Go mm_m_X11_bestWaker (76, [.ref 51, .int x1, .int x2, .int x3, .int x4, .int x5, .int x6], [.int (9 : Int32), .int v7, .ref 53], σ5) R) ∧ (¬ ((5 : Int32) ≤ x6) → mm_Go mm_m_X11_bestWaker (76, [.ref 51, .int x1, .int x2, .int x3, .int x4, .int x5, .int x6], [.int x6, .int v7, .ref 53], σ5) R))))))))) : mm_Go mm_m_X11_bestWaker (37, [.ref 51, .int x1, .int x2, .int x3, .int x4, .int x5, .int x6], [], σ) R := by
  refine mm_blk (M := mm_m_X11_bestWaker) 3 (S' := ((if (5 : Int32) < x6 then 131 else 43), [.ref 51, .int x1, .int x2, .int x3, .int x4, .int x5, .int x6], [], σ)) (P := []) rfl trivial ?_
  by_cases b1 : (5 : Int32) < x6
  · rw [if_pos b1]
    have h := h.1 b1
    refine mm_blk (M := mm_m_X11_bestWaker) 2 (S' := ((if ¬ x3 = (0 : Int32) then 140 else 135), [.ref 51, .int x1, .int x2, .int x3, .int x4, .int x5, .int x6], [], σ)) (P := []) rfl trivial ?_
    by_cases b2 : ¬ x3 = (0 : Int32)
    · rw [if_pos b2]
      have h := h.1 b2
      refine mm_blk (M := mm_m_X11_bestWaker) 1 (S' := (142, [.ref 51, .int x1, .int x2, .int x3, .int x4, .int x5, .int x6], [.int x5], σ)) (P := []) rfl trivial ?_
      subst h
      exact mm_rt_ ⟨_, _, _, rfl, ⟨_, _, rfl, rfl, rfl, rfl⟩⟩
    · rw [if_neg b2]
      have h := h.2 b2
      refine mm_blk (M := mm_m_X11_bestWaker) 2 (S' := (142, [.ref 51, .int x1, .int x2, .int x3, .int x4, .int x5, .int x6], [.int x4], σ)) (P := []) rfl trivial ?_
      subst h
      exact mm_rt_ ⟨_, _, _, rfl, ⟨_, _, rfl, rfl, rfl, rfl⟩⟩
  · rw [if_neg b1]
    have h := h.2 b1
    refine mm_blk (M := mm_m_X11_bestWaker) 4 (S' := (51, [.ref 51, .int x1, .int x2, .int x3, .int x4, .int x5, .int x6], [.ref 53, .ref 52], σ)) (P := [mm_cl 51 = 11, mm_cl 51 = 11]) rfl ⟨rfl, rfl, trivial⟩ ?_
    obtain ⟨σ3, e4, h⟩ := h
    refine mm_cl_ (rest := []) e4 ⟨_, _, _, rfl, rfl, mm_tb_X11_copies, rfl, rfl, Nat.le_of_ble_eq_true rfl, Nat.le_of_ble_eq_true rfl, trivial⟩ ?_
    refine mm_blk (M := mm_m_X11_bestWaker) 4 (S' := (60, [.ref 51, .int x1, .int x2, .int x3, .int x4, .int x5, .int x6], [.int (2 : Int32), .int x1, .ref 53], σ3)) (P := [mm_cl 51 = 11]) rfl ⟨rfl, trivial⟩ ?_
    obtain ⟨v7, σ5, e6, h⟩ := h
    refine mm_cl_ (rest := [.ref 53]) e6 ⟨_, _, _, rfl, rfl, mm_tb_X11_of, rfl, rfl, Nat.le_of_ble_eq_true rfl, Nat.le_of_ble_eq_true rfl, trivial⟩ ?_
    refine mm_blk (M := mm_m_X11_bestWaker) 3 (S' := ((if (5 : Int32) ≤ x6 then 74 else 69), [.ref 51, .int x1, .int x2, .int x3, .int x4, .int x5, .int x6], [.int v7, .ref 53], σ5)) (P := []) rfl trivial ?_
    by_cases b8 : (5 : Int32) ≤ x6
    · rw [if_pos b8]
      have h := h.1 b8
      refine mm_blk (M := mm_m_X11_bestWaker) 1 (S' := (76, [.ref 51, .int x1, .int x2, .int x3, .int x4, .int x5, .int x6], [.int (9 : Int32), .int v7, .ref 53], σ5)) (P := []) rfl trivial ?_
      exact h
    · rw [if_neg b8]
      have h := h.2 b8
      refine mm_blk (M := mm_m_X11_bestWaker) 2 (S' := (76, [.ref 51, .int x1, .int x2, .int x3, .int x4, .int x5, .int x6], [.int x6, .int v7, .ref 53], σ5)) (P := []) rfl trivial ?_
      exact h
theorem sg_X11_bestWaker_76 (σ : mm_Sg) (x1 : Int32) (x2 : Int32) (x3 : Int32) (x4 : Int32) (x5 : Int32) (x6 : Int32) (s0 : Int32) (s1 : Int32) (s2 : Nat) (R : Option Value × mm_Sg) (h : ((vp_in s1 (mm_len s2)) ∧ ∀ σ2 : mm_Sg, σ2 = mm_u σ s2 s1.toNatClampNeg s0 → (∃ (σ4 : mm_Sg), mm_Ev mm_m_X11_daysOn [.ref 51, .ref 53, .int x2] σ2 none σ4 ∧ (∃ (v8 : Int32) (σ6 : mm_Sg), mm_Ev mm_m_X11_allOwed [.ref 53] σ4 (some (.int v8)) σ6 ∧ (((v8 < x5 → ((((5 : Int32) ≤ x6 → (∃ (v13 : Int32) (σ11 : mm_Sg), mm_Ev mm_m_X11_allOwed [.ref 53] σ6 (some (.int v13)) σ11 ∧ mm_Go mm_m_X11_bestWaker (37, [.ref 51, .int x1, .int x2, .int x3, .int (9 : Int32), .int v13, .int (x6 + (1 : Int32))], [], σ11) R)) ∧ (¬ ((5 : Int32) ≤ x6) → (∃ (v16 : Int32) (σ14 : mm_Sg), mm_Ev mm_m_X11_allOwed [.ref 53] σ6 (some (.int v16)) σ14 ∧ mm_Go mm_m_X11_bestWaker (37, [.ref 51, .int x1, .int x2, .int x3, .int x6, .int v16, .int (x6 + (1 : Int32))], [], σ14) R))))) ∧ (¬ (v8 < x5) → mm_Go mm_m_X11_bestWaker (37, [.ref 51, .int x1, .int x2, .int x3, .int x4, .int x5, .int (x6 + (1 : Int32))], [], σ6) R))))))) : mm_Go mm_m_X11_bestWaker (76, [.ref 51, .int x1, .int x2, .int x3, .int x4, .int x5, .int x6], [.int s0, .int s1, .ref s2], σ) R := by
  obtain ⟨c1, h⟩ := h
  refine mm_blk (M := mm_m_X11_bestWaker) 1 (S' := (77, [.ref 51, .int x1, .int x2, .int x3, .int x4, .int x5, .int x6], [], mm_u σ s2 s1.toNatClampNeg s0)) (P := [vp_in s1 (mm_len s2)]) rfl ⟨c1, trivial⟩ ?_
  obtain ⟨σ2, e3⟩ : ∃ z, z = mm_u σ s2 s1.toNatClampNeg s0 := ⟨_, rfl⟩
  rw [← e3]
  have h := h σ2 e3
  refine mm_blk (M := mm_m_X11_bestWaker) 4 (S' := (83, [.ref 51, .int x1, .int x2, .int x3, .int x4, .int x5, .int x6], [.int x2, .ref 53, .ref 51], σ2)) (P := [mm_cl 51 = 11]) rfl ⟨rfl, trivial⟩ ?_
  obtain ⟨σ4, e5, h⟩ := h
  refine mm_cl_ (rest := []) e5 ⟨_, _, _, rfl, rfl, mm_tb_X11_daysOn, rfl, rfl, Nat.le_of_ble_eq_true rfl, Nat.le_of_ble_eq_true rfl, ⟨_, rfl, rfl⟩⟩ ?_
  refine mm_blk (M := mm_m_X11_bestWaker) 2 (S' := (90, [.ref 51, .int x1, .int x2, .int x3, .int x4, .int x5, .int x6], [.ref 53], σ4)) (P := [mm_cl 51 = 11]) rfl ⟨rfl, trivial⟩ ?_
  obtain ⟨v8, σ6, e7, h⟩ := h
  refine mm_cl_ (rest := []) e7 ⟨_, _, _, rfl, rfl, mm_tb_X11_allOwed, rfl, rfl, Nat.le_of_ble_eq_true rfl, Nat.le_of_ble_eq_true rfl, trivial⟩ ?_
  refine mm_blk (M := mm_m_X11_bestWaker) 2 (S' := ((if v8 < x5 then 101 else 98), [.ref 51, .int x1, .int x2, .int x3, .int x4, .int x5, .int x6], [], σ6)) (P := []) rfl trivial ?_
  by_cases b9 : v8 < x5
  · rw [if_pos b9]
    have h := h.1 b9
    refine mm_blk (M := mm_m_X11_bestWaker) 3 (S' := ((if (5 : Int32) ≤ x6 then 112 else 107), [.ref 51, .int x1, .int x2, .int x3, .int x4, .int x5, .int x6], [], σ6)) (P := []) rfl trivial ?_
    by_cases b10 : (5 : Int32) ≤ x6
    · rw [if_pos b10]
      have h := h.1 b10
      refine mm_blk (M := mm_m_X11_bestWaker) 4 (S' := (120, [.ref 51, .int x1, .int x2, .int x3, .int (9 : Int32), .int x5, .int x6], [.ref 53], σ6)) (P := [mm_cl 51 = 11]) rfl ⟨rfl, trivial⟩ ?_
      obtain ⟨v13, σ11, e12, h⟩ := h
      refine mm_cl_ (rest := []) e12 ⟨_, _, _, rfl, rfl, mm_tb_X11_allOwed, rfl, rfl, Nat.le_of_ble_eq_true rfl, Nat.le_of_ble_eq_true rfl, trivial⟩ ?_
      refine mm_blk (M := mm_m_X11_bestWaker) 3 (S' := (37, [.ref 51, .int x1, .int x2, .int x3, .int (9 : Int32), .int v13, .int (x6 + (1 : Int32))], [], σ11)) (P := []) rfl trivial ?_
      exact h
    · rw [if_neg b10]
      have h := h.2 b10
      refine mm_blk (M := mm_m_X11_bestWaker) 5 (S' := (120, [.ref 51, .int x1, .int x2, .int x3, .int x6, .int x5, .int x6], [.ref 53], σ6)) (P := [mm_cl 51 = 11]) rfl ⟨rfl, trivial⟩ ?_
      obtain ⟨v16, σ14, e15, h⟩ := h
      refine mm_cl_ (rest := []) e15 ⟨_, _, _, rfl, rfl, mm_tb_X11_allOwed, rfl, rfl, Nat.le_of_ble_eq_true rfl, Nat.le_of_ble_eq_true rfl, trivial⟩ ?_
      refine mm_blk (M := mm_m_X11_bestWaker) 3 (S' := (37, [.ref 51, .int x1, .int x2, .int x3, .int x6, .int v16, .int (x6 + (1 : Int32))], [], σ14)) (P := []) rfl trivial ?_
      exact h
  · rw [if_neg b9]
    have h := h.2 b9
    refine mm_blk (M := mm_m_X11_bestWaker) 3 (S' := (37, [.ref 51, .int x1, .int x2, .int x3, .int x4, .int x5, .int (x6 + (1 : Int32))], [], σ6)) (P := []) rfl trivial ?_
    exact h
theorem sg_X11_canWake_0 (σ : mm_Sg) (x1 : Int32) (x2 : Int32) (R : Option Value × mm_Sg) (h : (∃ (v3 : Int32) (σ1 : mm_Sg), mm_Ev mm_m_X11_isAwake [.ref 52, .int x1] σ (some (.int v3)) σ1 ∧ (((v3 = (0 : Int32) → (R = (some (.int (0 : Int32)), σ1))) ∧ (¬ (v3 = (0 : Int32)) → (∃ (v7 : Int32) (σ5 : mm_Sg), mm_Ev mm_m_X11_has [.int x2, .int x1] σ1 (some (.int v7)) σ5 ∧ (((¬ v7 = (0 : Int32) → (R = (some (.int (0 : Int32)), σ5))) ∧ (¬ (¬ v7 = (0 : Int32)) → (R = (some (.int (1 : Int32)), σ5))))))))))) : mm_Go mm_m_X11_canWake (0, [.ref 51, .int x1, .int x2], [], σ) R := by
  refine mm_blk (M := mm_m_X11_canWake) 3 (S' := (5, [.ref 51, .int x1, .int x2], [.int x1, .ref 52], σ)) (P := [mm_cl 51 = 11]) rfl ⟨rfl, trivial⟩ ?_
  obtain ⟨v3, σ1, e2, h⟩ := h
  refine mm_cl_ (rest := []) e2 ⟨_, _, _, rfl, rfl, mm_tb_X11_isAwake, rfl, rfl, Nat.le_of_ble_eq_true rfl, Nat.le_of_ble_eq_true rfl, trivial⟩ ?_
  refine mm_blk (M := mm_m_X11_canWake) 1 (S' := ((if v3 = (0 : Int32) then 23 else 11), [.ref 51, .int x1, .int x2], [], σ1)) (P := []) rfl trivial ?_
  by_cases b4 : v3 = (0 : Int32)
  · rw [if_pos b4]
    have h := h.1 b4
    refine mm_blk (M := mm_m_X11_canWake) 1 (S' := (24, [.ref 51, .int x1, .int x2], [.int (0 : Int32)], σ1)) (P := []) rfl trivial ?_
    subst h
    exact mm_rt_ ⟨_, _, _, rfl, ⟨_, _, rfl, rfl, rfl, rfl⟩⟩
  · rw [if_neg b4]
    have h := h.2 b4
    refine mm_blk (M := mm_m_X11_canWake) 2 (S' := (13, [.ref 51, .int x1, .int x2], [.int x1, .int x2], σ1)) (P := []) rfl trivial ?_
    obtain ⟨v7, σ5, e6, h⟩ := h
    refine mm_cl_ (rest := []) e6 ⟨_, _, _, rfl, rfl, mm_tb_X11_has, rfl, rfl, Nat.le_of_ble_eq_true rfl, Nat.le_of_ble_eq_true rfl, trivial⟩ ?_
    refine mm_blk (M := mm_m_X11_canWake) 1 (S' := ((if ¬ v7 = (0 : Int32) then 23 else 19), [.ref 51, .int x1, .int x2], [], σ5)) (P := []) rfl trivial ?_
    by_cases b8 : ¬ v7 = (0 : Int32)
    · rw [if_pos b8]
      have h := h.1 b8
      refine mm_blk (M := mm_m_X11_canWake) 1 (S' := (24, [.ref 51, .int x1, .int x2], [.int (0 : Int32)], σ5)) (P := []) rfl trivial ?_
      subst h
      exact mm_rt_ ⟨_, _, _, rfl, ⟨_, _, rfl, rfl, rfl, rfl⟩⟩
    · rw [if_neg b8]
      have h := h.2 b8
      refine mm_blk (M := mm_m_X11_canWake) 2 (S' := (24, [.ref 51, .int x1, .int x2], [.int (1 : Int32)], σ5)) (P := []) rfl trivial ?_
      subst h
      exact mm_rt_ ⟨_, _, _, rfl, ⟨_, _, rfl, rfl, rfl, rfl⟩⟩
theorem sg_X11_matches_0 (σ : mm_Sg) (R : Option Value × mm_Sg) (h : mm_Go mm_m_X11_matches (7, [.ref 51, .int (σ 52 0), .null, .null, .null], [], σ) R) : mm_Go mm_m_X11_matches (0, [.ref 51, .null, .null, .null, .null], [], σ) R := by
  refine mm_blk (M := mm_m_X11_matches) 5 (S' := (7, [.ref 51, .int (σ 52 0), .null, .null, .null], [], σ)) (P := [mm_cl 51 = 11, vp_in (0 : Int32) (mm_len 52)]) rfl ⟨rfl, (by unfold vp_in; decide), trivial⟩ ?_
  exact h
theorem sg_X11_matches_7 (σ : mm_Sg) (x1 : Int32) (d2 : Value) (d3 : Value) (d4 : Value) (R : Option Value × mm_Sg) (h : (((x1 < (0 : Int32) → (R = (none, σ))) ∧ (¬ (x1 < (0 : Int32)) → mm_Go mm_m_X11_matches (13, [.ref 51, .int x1, .int (0 : Int32), d3, d4], [], σ) R)))) : mm_Go mm_m_X11_matches (7, [.ref 51, .int x1, d2, d3, d4], [], σ) R := by
  refine mm_blk (M := mm_m_X11_matches) 2 (S' := ((if x1 < (0 : Int32) then 155 else 11), [.ref 51, .int x1, d2, d3, d4], [], σ)) (P := []) rfl trivial ?_
  by_cases b1 : x1 < (0 : Int32)
  · rw [if_pos b1]
    have h := h.1 b1
    subst h
    exact mm_rt_ ⟨_, _, _, rfl, ⟨rfl, rfl, rfl⟩⟩
  · rw [if_neg b1]
    have h := h.2 b1
    refine mm_blk (M := mm_m_X11_matches) 2 (S' := (13, [.ref 51, .int x1, .int (0 : Int32), d3, d4], [], σ)) (P := []) rfl trivial ?_
    exact h
theorem sg_X11_matches_13 (σ : mm_Sg) (x1 : Int32) (x2 : Int32) (d3 : Value) (d4 : Value) (R : Option Value × mm_Sg) (h : ((((32 : Int32) ≤ x2 → mm_Go mm_m_X11_matches (7, [.ref 51, .int (x1 + (-1 : Int32)), .int x2, d3, d4], [], σ) R) ∧ (¬ ((32 : Int32) ≤ x2) → (((¬ x1 = (σ 52 0) → ((vp_in (((x1 + (1 : Int32)) <<< ((5 : Int32) &&& 31)) ||| x2) (mm_len 58)) ∧ mm_Go mm_m_X11_matches (49, [.ref 51, .int x1, .int x2, .int (σ 58 (((x1 + (1 : Int32)) <<< ((5 : Int32) &&& 31)) ||| x2).toNatClampNeg), .int (0 : Int32)], [], σ) R)) ∧ (¬ (¬ x1 = (σ 52 0)) → mm_Go mm_m_X11_matches (49, [.ref 51, .int x1, .int x2, .int (0 : Int32), .int (0 : Int32)], [], σ) R))))))) : mm_Go mm_m_X11_matches (13, [.ref 51, .int x1, .int x2, d3, d4], [], σ) R := by
  refine mm_blk (M := mm_m_X11_matches) 3 (S' := ((if (32 : Int32) ≤ x2 then 149 else 19), [.ref 51, .int x1, .int x2, d3, d4], [], σ)) (P := []) rfl trivial ?_
  by_cases b1 : (32 : Int32) ≤ x2
  · rw [if_pos b1]
    have h := h.1 b1
    refine mm_blk (M := mm_m_X11_matches) 2 (S' := (7, [.ref 51, .int (x1 + (-1 : Int32)), .int x2, d3, d4], [], σ)) (P := []) rfl trivial ?_
    exact h
  · rw [if_neg b1]
    have h := h.2 b1
    refine mm_blk (M := mm_m_X11_matches) 6 (S' := ((if ¬ x1 = (σ 52 0) then 33 else 29), [.ref 51, .int x1, .int x2, d3, d4], [], σ)) (P := [mm_cl 51 = 11, vp_in (0 : Int32) (mm_len 52)]) rfl ⟨rfl, (by unfold vp_in; decide), trivial⟩ ?_
    by_cases b2 : ¬ x1 = (σ 52 0)
    · rw [if_pos b2]
      have h := h.1 b2
      obtain ⟨c3, h⟩ := h
      refine mm_blk (M := mm_m_X11_matches) 13 (S' := (49, [.ref 51, .int x1, .int x2, .int (σ 58 (((x1 + (1 : Int32)) <<< ((5 : Int32) &&& 31)) ||| x2).toNatClampNeg), .int (0 : Int32)], [], σ)) (P := [mm_cl 51 = 11, vp_in (((x1 + (1 : Int32)) <<< ((5 : Int32) &&& 31)) ||| x2) (mm_len 58)]) rfl ⟨rfl, c3, trivial⟩ ?_
      exact h
    · rw [if_neg b2]
      have h := h.2 b2
      refine mm_blk (M := mm_m_X11_matches) 5 (S' := (49, [.ref 51, .int x1, .int x2, .int (0 : Int32), .int (0 : Int32)], [], σ)) (P := []) rfl trivial ?_
      exact h
theorem sg_X11_matches_49 (σ : mm_Sg) (x1 : Int32) (x2 : Int32) (x3 : Int32) (x4 : Int32) (R : Option Value × mm_Sg) (h : ((((5 : Int32) ≤ x4 → ((vp_in ((x1 <<< ((5 : Int32) &&& 31)) ||| x2) (mm_len 58)) ∧ ∀ σ3 : mm_Sg, σ3 = mm_u σ 58 ((x1 <<< ((5 : Int32) &&& 31)) ||| x2).toNatClampNeg x3 → mm_Go mm_m_X11_matches (13, [.ref 51, .int x1, .int (x2 + (1 : Int32)), .int x3, .int x4], [], σ3) R)) ∧ (¬ ((5 : Int32) ≤ x4) → ((((σ 52 0) ≤ x1 → ((vp_in ((x1 <<< ((5 : Int32) &&& 31)) ||| x2) (mm_len 58)) ∧ ∀ σ7 : mm_Sg, σ7 = mm_u σ 58 ((x1 <<< ((5 : Int32) &&& 31)) ||| x2).toNatClampNeg x3 → mm_Go mm_m_X11_matches (13, [.ref 51, .int x1, .int (x2 + (1 : Int32)), .int x3, .int x4], [], σ7) R)) ∧ (¬ ((σ 52 0) ≤ x1) → (∃ (v11 : Int32) (σ9 : mm_Sg), mm_Ev mm_m_X11_canWake [.ref 51, .int x4, .int x2] σ (some (.int v11)) σ9 ∧ (((v11 = (0 : Int32) → mm_Go mm_m_X11_matches (49, [.ref 51, .int x1, .int x2, .int x3, .int (x4 + (1 : Int32))], [], σ9) R) ∧ (¬ (v11 = (0 : Int32)) → (∃ (v15 : Int32) (σ13 : mm_Sg), mm_Ev mm_m_X11_nextOf [.ref 51, .int x1] σ9 (some (.int v15)) σ13 ∧ ((vp_in ((((x1 + (1 : Int32)) <<< ((5 : Int32) &&& 31)) ||| x2) ||| ((1 : Int32) <<< (x4 &&& 31))) (mm_len 58)) ∧ (((v15 + (σ13 58 ((((x1 + (1 : Int32)) <<< ((5 : Int32) &&& 31)) ||| x2) ||| ((1 : Int32) <<< (x4 &&& 31))).toNatClampNeg)) ≤ x3 → mm_Go mm_m_X11_matches (49, [.ref 51, .int x1, .int x2, .int x3, .int (x4 + (1 : Int32))], [], σ13) R) ∧ (¬ ((v15 + (σ13 58 ((((x1 + (1 : Int32)) <<< ((5 : Int32) &&& 31)) ||| x2) ||| ((1 : Int32) <<< (x4 &&& 31))).toNatClampNeg)) ≤ x3) → (∃ (v20 : Int32) (σ18 : mm_Sg), mm_Ev mm_m_X11_nextOf [.ref 51, .int x1] σ13 (some (.int v20)) σ18 ∧ mm_Go mm_m_X11_matches (49, [.ref 51, .int x1, .int x2, .int (v20 + (σ18 58 ((((x1 + (1 : Int32)) <<< ((5 : Int32) &&& 31)) ||| x2) ||| ((1 : Int32) <<< (x4 &&& 31))).toNatClampNeg)), .int (x4 + (1 : Int32))], [], σ18) R)))))))))))))))) : mm_Go mm_m_X11_matches (49, [.ref 51, .int x1, .int x2, .int x3, .int x4], [], σ) R := by
  refine mm_blk (M := mm_m_X11_matches) 3 (S' := ((if (5 : Int32) ≤ x4 then 132 else 55), [.ref 51, .int x1, .int x2, .int x3, .int x4], [], σ)) (P := []) rfl trivial ?_
  by_cases b1 : (5 : Int32) ≤ x4
  · rw [if_pos b1]
    have h := h.1 b1
    obtain ⟨c2, h⟩ := h
    refine mm_blk (M := mm_m_X11_matches) 9 (S' := (143, [.ref 51, .int x1, .int x2, .int x3, .int x4], [], mm_u σ 58 ((x1 <<< ((5 : Int32) &&& 31)) ||| x2).toNatClampNeg x3)) (P := [mm_cl 51 = 11, vp_in ((x1 <<< ((5 : Int32) &&& 31)) ||| x2) (mm_len 58)]) rfl ⟨rfl, c2, trivial⟩ ?_
    obtain ⟨σ3, e4⟩ : ∃ z, z = mm_u σ 58 ((x1 <<< ((5 : Int32) &&& 31)) ||| x2).toNatClampNeg x3 := ⟨_, rfl⟩
    rw [← e4]
    have h := h σ3 e4
    refine mm_blk (M := mm_m_X11_matches) 2 (S' := (13, [.ref 51, .int x1, .int (x2 + (1 : Int32)), .int x3, .int x4], [], σ3)) (P := []) rfl trivial ?_
    exact h
  · rw [if_neg b1]
    have h := h.2 b1
    refine mm_blk (M := mm_m_X11_matches) 6 (S' := ((if (σ 52 0) ≤ x1 then 132 else 65), [.ref 51, .int x1, .int x2, .int x3, .int x4], [], σ)) (P := [mm_cl 51 = 11, vp_in (0 : Int32) (mm_len 52)]) rfl ⟨rfl, (by unfold vp_in; decide), trivial⟩ ?_
    by_cases b5 : (σ 52 0) ≤ x1
    · rw [if_pos b5]
      have h := h.1 b5
      obtain ⟨c6, h⟩ := h
      refine mm_blk (M := mm_m_X11_matches) 9 (S' := (143, [.ref 51, .int x1, .int x2, .int x3, .int x4], [], mm_u σ 58 ((x1 <<< ((5 : Int32) &&& 31)) ||| x2).toNatClampNeg x3)) (P := [mm_cl 51 = 11, vp_in ((x1 <<< ((5 : Int32) &&& 31)) ||| x2) (mm_len 58)]) rfl ⟨rfl, c6, trivial⟩ ?_
      obtain ⟨σ7, e8⟩ : ∃ z, z = mm_u σ 58 ((x1 <<< ((5 : Int32) &&& 31)) ||| x2).toNatClampNeg x3 := ⟨_, rfl⟩
      rw [← e8]
      have h := h σ7 e8
      refine mm_blk (M := mm_m_X11_matches) 2 (S' := (13, [.ref 51, .int x1, .int (x2 + (1 : Int32)), .int x3, .int x4], [], σ7)) (P := []) rfl trivial ?_
      exact h
    · rw [if_neg b5]
      have h := h.2 b5
      refine mm_blk (M := mm_m_X11_matches) 3 (S' := (69, [.ref 51, .int x1, .int x2, .int x3, .int x4], [.int x2, .int x4, .ref 51], σ)) (P := []) rfl trivial ?_
      obtain ⟨v11, σ9, e10, h⟩ := h
      refine mm_cl_ (rest := []) e10 ⟨_, _, _, rfl, rfl, mm_tb_X11_canWake, rfl, rfl, Nat.le_of_ble_eq_true rfl, Nat.le_of_ble_eq_true rfl, ⟨_, rfl, rfl⟩⟩ ?_
      refine mm_blk (M := mm_m_X11_matches) 1 (S' := ((if v11 = (0 : Int32) then 126 else 75), [.ref 51, .int x1, .int x2, .int x3, .int x4], [], σ9)) (P := []) rfl trivial ?_
      by_cases b12 : v11 = (0 : Int32)
      · rw [if_pos b12]
        have h := h.1 b12
        refine mm_blk (M := mm_m_X11_matches) 2 (S' := (49, [.ref 51, .int x1, .int x2, .int x3, .int (x4 + (1 : Int32))], [], σ9)) (P := []) rfl trivial ?_
        exact h
      · rw [if_neg b12]
        have h := h.2 b12
        refine mm_blk (M := mm_m_X11_matches) 2 (S' := (77, [.ref 51, .int x1, .int x2, .int x3, .int x4], [.int x1, .ref 51], σ9)) (P := []) rfl trivial ?_
        obtain ⟨v15, σ13, e14, h⟩ := h
        refine mm_cl_ (rest := []) e14 ⟨_, _, _, rfl, rfl, mm_tb_X11_nextOf, rfl, rfl, Nat.le_of_ble_eq_true rfl, Nat.le_of_ble_eq_true rfl, ⟨_, rfl, rfl⟩⟩ ?_
        obtain ⟨c16, h⟩ := h
        refine mm_blk (M := mm_m_X11_matches) 17 (S' := ((if (v15 + (σ13 58 ((((x1 + (1 : Int32)) <<< ((5 : Int32) &&& 31)) ||| x2) ||| ((1 : Int32) <<< (x4 &&& 31))).toNatClampNeg)) ≤ x3 then 126 else 102), [.ref 51, .int x1, .int x2, .int x3, .int x4], [], σ13)) (P := [mm_cl 51 = 11, vp_in ((((x1 + (1 : Int32)) <<< ((5 : Int32) &&& 31)) ||| x2) ||| ((1 : Int32) <<< (x4 &&& 31))) (mm_len 58)]) rfl ⟨rfl, c16, trivial⟩ ?_
        by_cases b17 : (v15 + (σ13 58 ((((x1 + (1 : Int32)) <<< ((5 : Int32) &&& 31)) ||| x2) ||| ((1 : Int32) <<< (x4 &&& 31))).toNatClampNeg)) ≤ x3
        · rw [if_pos b17]
          have h := h.1 b17
          refine mm_blk (M := mm_m_X11_matches) 2 (S' := (49, [.ref 51, .int x1, .int x2, .int x3, .int (x4 + (1 : Int32))], [], σ13)) (P := []) rfl trivial ?_
          exact h
        · rw [if_neg b17]
          have h := h.2 b17
          refine mm_blk (M := mm_m_X11_matches) 2 (S' := (104, [.ref 51, .int x1, .int x2, .int x3, .int x4], [.int x1, .ref 51], σ13)) (P := []) rfl trivial ?_
          obtain ⟨v20, σ18, e19, h⟩ := h
          refine mm_cl_ (rest := []) e19 ⟨_, _, _, rfl, rfl, mm_tb_X11_nextOf, rfl, rfl, Nat.le_of_ble_eq_true rfl, Nat.le_of_ble_eq_true rfl, ⟨_, rfl, rfl⟩⟩ ?_
          refine mm_blk (M := mm_m_X11_matches) 18 (S' := (49, [.ref 51, .int x1, .int x2, .int (v20 + (σ18 58 ((((x1 + (1 : Int32)) <<< ((5 : Int32) &&& 31)) ||| x2) ||| ((1 : Int32) <<< (x4 &&& 31))).toNatClampNeg)), .int (x4 + (1 : Int32))], [], σ18)) (P := [mm_cl 51 = 11, vp_in ((((x1 + (1 : Int32)) <<< ((5 : Int32) &&& 31)) ||| x2) ||| ((1 : Int32) <<< (x4 &&& 31))) (mm_len 58)]) rfl ⟨rfl, c16, trivial⟩ ?_
          exact h
theorem sg_X11_wakerOf_0 (σ : mm_Sg) (x1 : Int32) (x2 : Int32) (R : Option Value × mm_Sg) (h : mm_Go mm_m_X11_wakerOf (2, [.ref 51, .int x1, .int x2, .int (0 : Int32)], [], σ) R) : mm_Go mm_m_X11_wakerOf (0, [.ref 51, .int x1, .int x2, .null], [], σ) R := by
  refine mm_blk (M := mm_m_X11_wakerOf) 2 (S' := (2, [.ref 51, .int x1, .int x2, .int (0 : Int32)], [], σ)) (P := []) rfl trivial ?_
  exact h
theorem sg_X11_wakerOf_2 (σ : mm_Sg) (x1 : Int32) (x2 : Int32) (x3 : Int32) (R : Option Value × mm_Sg) (h : ((((5 : Int32) ≤ x3 → (R = (some (.int (-4 : Int32)), σ))) ∧ (¬ ((5 : Int32) ≤ x3) → (∃ (v4 : Int32) (σ2 : mm_Sg), mm_Ev mm_m_X11_canWake [.ref 51, .int x3, .int x2] σ (some (.int v4)) σ2 ∧ (((v4 = (0 : Int32) → mm_Go mm_m_X11_wakerOf (2, [.ref 51, .int x1, .int x2, .int (x3 + (1 : Int32))], [], σ2) R) ∧ (¬ (v4 = (0 : Int32)) → (∃ (v8 : Int32) (σ6 : mm_Sg), mm_Ev mm_m_X11_nextOf [.ref 51, .int x1] σ2 (some (.int v8)) σ6 ∧ ((vp_in ((((x1 + (1 : Int32)) <<< ((5 : Int32) &&& 31)) ||| x2) ||| ((1 : Int32) <<< (x3 &&& 31))) (mm_len 58)) ∧ (vp_in ((x1 <<< ((5 : Int32) &&& 31)) ||| x2) (mm_len 58)) ∧ ((¬ (v8 + (σ6 58 ((((x1 + (1 : Int32)) <<< ((5 : Int32) &&& 31)) ||| x2) ||| ((1 : Int32) <<< (x3 &&& 31))).toNatClampNeg)) = (σ6 58 ((x1 <<< ((5 : Int32) &&& 31)) ||| x2).toNatClampNeg) → mm_Go mm_m_X11_wakerOf (2, [.ref 51, .int x1, .int x2, .int (x3 + (1 : Int32))], [], σ6) R) ∧ (¬ (¬ (v8 + (σ6 58 ((((x1 + (1 : Int32)) <<< ((5 : Int32) &&& 31)) ||| x2) ||| ((1 : Int32) <<< (x3 &&& 31))).toNatClampNeg)) = (σ6 58 ((x1 <<< ((5 : Int32) &&& 31)) ||| x2).toNatClampNeg)) → (R = (some (.int x3), σ6)))))))))))))) : mm_Go mm_m_X11_wakerOf (2, [.ref 51, .int x1, .int x2, .int x3], [], σ) R := by
  refine mm_blk (M := mm_m_X11_wakerOf) 3 (S' := ((if (5 : Int32) ≤ x3 then 59 else 7), [.ref 51, .int x1, .int x2, .int x3], [], σ)) (P := []) rfl trivial ?_
  by_cases b1 : (5 : Int32) ≤ x3
  · rw [if_pos b1]
    have h := h.1 b1
    refine mm_blk (M := mm_m_X11_wakerOf) 1 (S' := (61, [.ref 51, .int x1, .int x2, .int x3], [.int (-4 : Int32)], σ)) (P := []) rfl trivial ?_
    subst h
    exact mm_rt_ ⟨_, _, _, rfl, ⟨_, _, rfl, rfl, rfl, rfl⟩⟩
  · rw [if_neg b1]
    have h := h.2 b1
    refine mm_blk (M := mm_m_X11_wakerOf) 3 (S' := (10, [.ref 51, .int x1, .int x2, .int x3], [.int x2, .int x3, .ref 51], σ)) (P := []) rfl trivial ?_
    obtain ⟨v4, σ2, e3, h⟩ := h
    refine mm_cl_ (rest := []) e3 ⟨_, _, _, rfl, rfl, mm_tb_X11_canWake, rfl, rfl, Nat.le_of_ble_eq_true rfl, Nat.le_of_ble_eq_true rfl, ⟨_, rfl, rfl⟩⟩ ?_
    refine mm_blk (M := mm_m_X11_wakerOf) 1 (S' := ((if v4 = (0 : Int32) then 53 else 16), [.ref 51, .int x1, .int x2, .int x3], [], σ2)) (P := []) rfl trivial ?_
    by_cases b5 : v4 = (0 : Int32)
    · rw [if_pos b5]
      have h := h.1 b5
      refine mm_blk (M := mm_m_X11_wakerOf) 2 (S' := (2, [.ref 51, .int x1, .int x2, .int (x3 + (1 : Int32))], [], σ2)) (P := []) rfl trivial ?_
      exact h
    · rw [if_neg b5]
      have h := h.2 b5
      refine mm_blk (M := mm_m_X11_wakerOf) 2 (S' := (18, [.ref 51, .int x1, .int x2, .int x3], [.int x1, .ref 51], σ2)) (P := []) rfl trivial ?_
      obtain ⟨v8, σ6, e7, h⟩ := h
      refine mm_cl_ (rest := []) e7 ⟨_, _, _, rfl, rfl, mm_tb_X11_nextOf, rfl, rfl, Nat.le_of_ble_eq_true rfl, Nat.le_of_ble_eq_true rfl, ⟨_, rfl, rfl⟩⟩ ?_
      obtain ⟨c9, h⟩ := h
      obtain ⟨c10, h⟩ := h
      refine mm_blk (M := mm_m_X11_wakerOf) 24 (S' := ((if ¬ (v8 + (σ6 58 ((((x1 + (1 : Int32)) <<< ((5 : Int32) &&& 31)) ||| x2) ||| ((1 : Int32) <<< (x3 &&& 31))).toNatClampNeg)) = (σ6 58 ((x1 <<< ((5 : Int32) &&& 31)) ||| x2).toNatClampNeg) then 53 else 51), [.ref 51, .int x1, .int x2, .int x3], [], σ6)) (P := [mm_cl 51 = 11, vp_in ((((x1 + (1 : Int32)) <<< ((5 : Int32) &&& 31)) ||| x2) ||| ((1 : Int32) <<< (x3 &&& 31))) (mm_len 58), mm_cl 51 = 11, vp_in ((x1 <<< ((5 : Int32) &&& 31)) ||| x2) (mm_len 58)]) rfl ⟨rfl, c9, rfl, c10, trivial⟩ ?_
      by_cases b11 : ¬ (v8 + (σ6 58 ((((x1 + (1 : Int32)) <<< ((5 : Int32) &&& 31)) ||| x2) ||| ((1 : Int32) <<< (x3 &&& 31))).toNatClampNeg)) = (σ6 58 ((x1 <<< ((5 : Int32) &&& 31)) ||| x2).toNatClampNeg)
      · rw [if_pos b11]
        have h := h.1 b11
        refine mm_blk (M := mm_m_X11_wakerOf) 2 (S' := (2, [.ref 51, .int x1, .int x2, .int (x3 + (1 : Int32))], [], σ6)) (P := []) rfl trivial ?_
        exact h
      · rw [if_neg b11]
        have h := h.2 b11
        refine mm_blk (M := mm_m_X11_wakerOf) 1 (S' := (52, [.ref 51, .int x1, .int x2, .int x3], [.int x3], σ6)) (P := []) rfl trivial ?_
        subst h
        exact mm_rt_ ⟨_, _, _, rfl, ⟨_, _, rfl, rfl, rfl, rfl⟩⟩
theorem sg_X11_match_0 (σ : mm_Sg) (x1 : Int32) (R : Option Value × mm_Sg) (h : (((x1 = (-1 : Int32) → (∃ (σ2 : mm_Sg), mm_Ev mm_m_X11_matches [.ref 51] σ none σ2 ∧ ((((0 : Int32) ≤ x1 → mm_Go mm_m_X11_match (34, [.ref 51, .int x1, .int (0 : Int32), .int (0 : Int32), .null], [], σ2) R) ∧ (¬ ((0 : Int32) ≤ x1) → (R = (some (.int (σ2 58 0)), σ2))))))) ∧ (¬ (x1 = (-1 : Int32)) → (∃ (v7 : Int32) (σ5 : mm_Sg), mm_Ev mm_m_X11_isDrinker [.ref 51, .int x1] σ (some (.int v7)) σ5 ∧ (((¬ v7 = (0 : Int32) → (∃ (σ9 : mm_Sg), mm_Ev mm_m_X11_matches [.ref 51] σ5 none σ9 ∧ ((((0 : Int32) ≤ x1 → mm_Go mm_m_X11_match (34, [.ref 51, .int x1, .int (0 : Int32), .int (0 : Int32), .null], [], σ9) R) ∧ (¬ ((0 : Int32) ≤ x1) → (R = (some (.int (σ9 58 0)), σ9))))))) ∧ (¬ (¬ v7 = (0 : Int32)) → (R = (some (.int (-1 : Int32)), σ5)))))))))) : mm_Go mm_m_X11_match (0, [.ref 51, .int x1, .null, .null, .null], [], σ) R := by
  refine mm_blk (M := mm_m_X11_match) 3 (S' := ((if x1 = (-1 : Int32) then 15 else 5), [.ref 51, .int x1, .null, .null, .null], [], σ)) (P := []) rfl trivial ?_
  by_cases b1 : x1 = (-1 : Int32)
  · rw [if_pos b1]
    have h := h.1 b1
    refine mm_blk (M := mm_m_X11_match) 1 (S' := (16, [.ref 51, .int x1, .null, .null, .null], [.ref 51], σ)) (P := []) rfl trivial ?_
    obtain ⟨σ2, e3, h⟩ := h
    refine mm_cl_ (rest := []) e3 ⟨_, _, _, rfl, rfl, mm_tb_X11_matches, rfl, rfl, Nat.le_of_ble_eq_true rfl, Nat.le_of_ble_eq_true rfl, ⟨_, rfl, rfl⟩⟩ ?_
    refine mm_blk (M := mm_m_X11_match) 2 (S' := ((if (0 : Int32) ≤ x1 then 30 else 23), [.ref 51, .int x1, .null, .null, .null], [], σ2)) (P := []) rfl trivial ?_
    by_cases b4 : (0 : Int32) ≤ x1
    · rw [if_pos b4]
      have h := h.1 b4
      refine mm_blk (M := mm_m_X11_match) 4 (S' := (34, [.ref 51, .int x1, .int (0 : Int32), .int (0 : Int32), .null], [], σ2)) (P := []) rfl trivial ?_
      exact h
    · rw [if_neg b4]
      have h := h.2 b4
      refine mm_blk (M := mm_m_X11_match) 4 (S' := (29, [.ref 51, .int x1, .null, .null, .null], [.int (σ2 58 0)], σ2)) (P := [mm_cl 51 = 11, vp_in (0 : Int32) (mm_len 58)]) rfl ⟨rfl, (by unfold vp_in; decide), trivial⟩ ?_
      subst h
      exact mm_rt_ ⟨_, _, _, rfl, ⟨_, _, rfl, rfl, rfl, rfl⟩⟩
  · rw [if_neg b1]
    have h := h.2 b1
    refine mm_blk (M := mm_m_X11_match) 2 (S' := (7, [.ref 51, .int x1, .null, .null, .null], [.int x1, .ref 51], σ)) (P := []) rfl trivial ?_
    obtain ⟨v7, σ5, e6, h⟩ := h
    refine mm_cl_ (rest := []) e6 ⟨_, _, _, rfl, rfl, mm_tb_X11_isDrinker, rfl, rfl, Nat.le_of_ble_eq_true rfl, Nat.le_of_ble_eq_true rfl, ⟨_, rfl, rfl⟩⟩ ?_
    refine mm_blk (M := mm_m_X11_match) 1 (S' := ((if ¬ v7 = (0 : Int32) then 15 else 13), [.ref 51, .int x1, .null, .null, .null], [], σ5)) (P := []) rfl trivial ?_
    by_cases b8 : ¬ v7 = (0 : Int32)
    · rw [if_pos b8]
      have h := h.1 b8
      refine mm_blk (M := mm_m_X11_match) 1 (S' := (16, [.ref 51, .int x1, .null, .null, .null], [.ref 51], σ5)) (P := []) rfl trivial ?_
      obtain ⟨σ9, e10, h⟩ := h
      refine mm_cl_ (rest := []) e10 ⟨_, _, _, rfl, rfl, mm_tb_X11_matches, rfl, rfl, Nat.le_of_ble_eq_true rfl, Nat.le_of_ble_eq_true rfl, ⟨_, rfl, rfl⟩⟩ ?_
      refine mm_blk (M := mm_m_X11_match) 2 (S' := ((if (0 : Int32) ≤ x1 then 30 else 23), [.ref 51, .int x1, .null, .null, .null], [], σ9)) (P := []) rfl trivial ?_
      by_cases b11 : (0 : Int32) ≤ x1
      · rw [if_pos b11]
        have h := h.1 b11
        refine mm_blk (M := mm_m_X11_match) 4 (S' := (34, [.ref 51, .int x1, .int (0 : Int32), .int (0 : Int32), .null], [], σ9)) (P := []) rfl trivial ?_
        exact h
      · rw [if_neg b11]
        have h := h.2 b11
        refine mm_blk (M := mm_m_X11_match) 4 (S' := (29, [.ref 51, .int x1, .null, .null, .null], [.int (σ9 58 0)], σ9)) (P := [mm_cl 51 = 11, vp_in (0 : Int32) (mm_len 58)]) rfl ⟨rfl, (by unfold vp_in; decide), trivial⟩ ?_
        subst h
        exact mm_rt_ ⟨_, _, _, rfl, ⟨_, _, rfl, rfl, rfl, rfl⟩⟩
    · rw [if_neg b8]
      have h := h.2 b8
      refine mm_blk (M := mm_m_X11_match) 1 (S' := (14, [.ref 51, .int x1, .null, .null, .null], [.int (-1 : Int32)], σ5)) (P := []) rfl trivial ?_
      subst h
      exact mm_rt_ ⟨_, _, _, rfl, ⟨_, _, rfl, rfl, rfl, rfl⟩⟩
theorem sg_X11_match_34 (σ : mm_Sg) (x1 : Int32) (x2 : Int32) (x3 : Int32) (d4 : Value) (R : Option Value × mm_Sg) (h : (((x1 ≤ x3 → (∃ (v4 : Int32) (σ2 : mm_Sg), mm_Ev mm_m_X11_wakerOf [.ref 51, .int x1, .int x2] σ (some (.int v4)) σ2 ∧ (R = (some (.int v4), σ2)))) ∧ (¬ (x1 ≤ x3) → (∃ (v7 : Int32) (σ5 : mm_Sg), mm_Ev mm_m_X11_wakerOf [.ref 51, .int x3, .int x2] σ (some (.int v7)) σ5 ∧ ((((0 : Int32) ≤ v7 → mm_Go mm_m_X11_match (34, [.ref 51, .int x1, .int (x2 ||| ((1 : Int32) <<< (v7 &&& 31))), .int (x3 + (1 : Int32)), .int v7], [], σ5) R) ∧ (¬ ((0 : Int32) ≤ v7) → mm_Go mm_m_X11_match (34, [.ref 51, .int x1, .int (x2 ||| (0 : Int32)), .int (x3 + (1 : Int32)), .int v7], [], σ5) R)))))))) : mm_Go mm_m_X11_match (34, [.ref 51, .int x1, .int x2, .int x3, d4], [], σ) R := by
  refine mm_blk (M := mm_m_X11_match) 3 (S' := ((if x1 ≤ x3 then 69 else 39), [.ref 51, .int x1, .int x2, .int x3, d4], [], σ)) (P := []) rfl trivial ?_
  by_cases b1 : x1 ≤ x3
  · rw [if_pos b1]
    have h := h.1 b1
    refine mm_blk (M := mm_m_X11_match) 3 (S' := (72, [.ref 51, .int x1, .int x2, .int x3, d4], [.int x2, .int x1, .ref 51], σ)) (P := []) rfl trivial ?_
    obtain ⟨v4, σ2, e3, h⟩ := h
    refine mm_cl_ (rest := []) e3 ⟨_, _, _, rfl, rfl, mm_tb_X11_wakerOf, rfl, rfl, Nat.le_of_ble_eq_true rfl, Nat.le_of_ble_eq_true rfl, ⟨_, rfl, rfl⟩⟩ ?_
    subst h
    exact mm_rt_ ⟨_, _, _, rfl, ⟨_, _, rfl, rfl, rfl, rfl⟩⟩
  · rw [if_neg b1]
    have h := h.2 b1
    refine mm_blk (M := mm_m_X11_match) 3 (S' := (42, [.ref 51, .int x1, .int x2, .int x3, d4], [.int x2, .int x3, .ref 51], σ)) (P := []) rfl trivial ?_
    obtain ⟨v7, σ5, e6, h⟩ := h
    refine mm_cl_ (rest := []) e6 ⟨_, _, _, rfl, rfl, mm_tb_X11_wakerOf, rfl, rfl, Nat.le_of_ble_eq_true rfl, Nat.le_of_ble_eq_true rfl, ⟨_, rfl, rfl⟩⟩ ?_
    refine mm_blk (M := mm_m_X11_match) 4 (S' := ((if (0 : Int32) ≤ v7 then 57 else 53), [.ref 51, .int x1, .int x2, .int x3, .int v7], [.int x2], σ5)) (P := []) rfl trivial ?_
    by_cases b8 : (0 : Int32) ≤ v7
    · rw [if_pos b8]
      have h := h.1 b8
      refine mm_blk (M := mm_m_X11_match) 7 (S' := (34, [.ref 51, .int x1, .int (x2 ||| ((1 : Int32) <<< (v7 &&& 31))), .int (x3 + (1 : Int32)), .int v7], [], σ5)) (P := []) rfl trivial ?_
      exact h
    · rw [if_neg b8]
      have h := h.2 b8
      refine mm_blk (M := mm_m_X11_match) 6 (S' := (34, [.ref 51, .int x1, .int (x2 ||| (0 : Int32)), .int (x3 + (1 : Int32)), .int v7], [], σ5)) (P := []) rfl trivial ?_
      exact h
theorem sg_X11_milk_0 (σ : mm_Sg) (x1 : Int32) (R : Option Value × mm_Sg) (h : (∃ (v3 : Int32) (σ1 : mm_Sg), mm_Ev mm_m_X11_isIn [.int x1, .int (0 : Int32), .int (30 : Int32)] σ (some (.int v3)) σ1 ∧ (((¬ v3 = (0 : Int32) → (∃ (v7 : Int32) (σ5 : mm_Sg), mm_Ev mm_m_X11_owedNow [.ref 51, .int x1] σ1 (some (.int v7)) σ5 ∧ mm_Go mm_m_X11_milk (24, [.ref 51, .int x1, .int v7, .int (-4 : Int32), .int (0 : Int32)], [], σ5) R)) ∧ (¬ (¬ v3 = (0 : Int32)) → (R = (some (.int (-1 : Int32)), σ1))))))) : mm_Go mm_m_X11_milk (0, [.ref 51, .int x1, .null, .null, .null], [], σ) R := by
  refine mm_blk (M := mm_m_X11_milk) 3 (S' := (4, [.ref 51, .int x1, .null, .null, .null], [.int (30 : Int32), .int (0 : Int32), .int x1], σ)) (P := []) rfl trivial ?_
  obtain ⟨v3, σ1, e2, h⟩ := h
  refine mm_cl_ (rest := []) e2 ⟨_, _, _, rfl, rfl, mm_tb_X11_isIn, rfl, rfl, Nat.le_of_ble_eq_true rfl, Nat.le_of_ble_eq_true rfl, trivial⟩ ?_
  refine mm_blk (M := mm_m_X11_milk) 1 (S' := ((if ¬ v3 = (0 : Int32) then 12 else 10), [.ref 51, .int x1, .null, .null, .null], [], σ1)) (P := []) rfl trivial ?_
  by_cases b4 : ¬ v3 = (0 : Int32)
  · rw [if_pos b4]
    have h := h.1 b4
    refine mm_blk (M := mm_m_X11_milk) 2 (S' := (14, [.ref 51, .int x1, .null, .null, .null], [.int x1, .ref 51], σ1)) (P := []) rfl trivial ?_
    obtain ⟨v7, σ5, e6, h⟩ := h
    refine mm_cl_ (rest := []) e6 ⟨_, _, _, rfl, rfl, mm_tb_X11_owedNow, rfl, rfl, Nat.le_of_ble_eq_true rfl, Nat.le_of_ble_eq_true rfl, ⟨_, rfl, rfl⟩⟩ ?_
    refine mm_blk (M := mm_m_X11_milk) 5 (S' := (24, [.ref 51, .int x1, .int v7, .int (-4 : Int32), .int (0 : Int32)], [], σ5)) (P := []) rfl trivial ?_
    exact h
  · rw [if_neg b4]
    have h := h.2 b4
    refine mm_blk (M := mm_m_X11_milk) 1 (S' := (11, [.ref 51, .int x1, .null, .null, .null], [.int (-1 : Int32)], σ1)) (P := []) rfl trivial ?_
    subst h
    exact mm_rt_ ⟨_, _, _, rfl, ⟨_, _, rfl, rfl, rfl, rfl⟩⟩
theorem sg_X11_milk_24 (σ : mm_Sg) (x1 : Int32) (x2 : Int32) (x3 : Int32) (x4 : Int32) (R : Option Value × mm_Sg) (h : ((((σ 52 0) ≤ x4 → (R = (some (.int x3), σ))) ∧ (¬ ((σ 52 0) ≤ x4) → (∃ (σ2 : mm_Sg), mm_Ev mm_m_X11_copies [.ref 52, .ref 53] σ none σ2 ∧ (∀ σ4 : mm_Sg, σ4 = mm_u σ2 53 4 ((1 : Int32) <<< (x4 &&& 31)) → (∃ (σ6 : mm_Sg), mm_Ev mm_m_X11_daysOn [.ref 51, .ref 53, .int x1] σ4 none σ6 ∧ (∃ (v10 : Int32) (σ8 : mm_Sg), mm_Ev mm_m_X11_allOwed [.ref 53] σ6 (some (.int v10)) σ8 ∧ (((v10 < x2 → (∃ (v14 : Int32) (σ12 : mm_Sg), mm_Ev mm_m_X11_allOwed [.ref 53] σ8 (some (.int v14)) σ12 ∧ mm_Go mm_m_X11_milk (24, [.ref 51, .int x1, .int v14, .int x4, .int (x4 + (1 : Int32))], [], σ12) R)) ∧ (¬ (v10 < x2) → mm_Go mm_m_X11_milk (24, [.ref 51, .int x1, .int x2, .int x3, .int (x4 + (1 : Int32))], [], σ8) R))))))))))) : mm_Go mm_m_X11_milk (24, [.ref 51, .int x1, .int x2, .int x3, .int x4], [], σ) R := by
  refine mm_blk (M := mm_m_X11_milk) 6 (S' := ((if (σ 52 0) ≤ x4 then 96 else 35), [.ref 51, .int x1, .int x2, .int x3, .int x4], [], σ)) (P := [mm_cl 51 = 11, vp_in (0 : Int32) (mm_len 52)]) rfl ⟨rfl, (by unfold vp_in; decide), trivial⟩ ?_
  by_cases b1 : (σ 52 0) ≤ x4
  · rw [if_pos b1]
    have h := h.1 b1
    refine mm_blk (M := mm_m_X11_milk) 1 (S' := (97, [.ref 51, .int x1, .int x2, .int x3, .int x4], [.int x3], σ)) (P := []) rfl trivial ?_
    subst h
    exact mm_rt_ ⟨_, _, _, rfl, ⟨_, _, rfl, rfl, rfl, rfl⟩⟩
  · rw [if_neg b1]
    have h := h.2 b1
    refine mm_blk (M := mm_m_X11_milk) 4 (S' := (43, [.ref 51, .int x1, .int x2, .int x3, .int x4], [.ref 53, .ref 52], σ)) (P := [mm_cl 51 = 11, mm_cl 51 = 11]) rfl ⟨rfl, rfl, trivial⟩ ?_
    obtain ⟨σ2, e3, h⟩ := h
    refine mm_cl_ (rest := []) e3 ⟨_, _, _, rfl, rfl, mm_tb_X11_copies, rfl, rfl, Nat.le_of_ble_eq_true rfl, Nat.le_of_ble_eq_true rfl, trivial⟩ ?_
    refine mm_blk (M := mm_m_X11_milk) 7 (S' := (56, [.ref 51, .int x1, .int x2, .int x3, .int x4], [], mm_u σ2 53 4 ((1 : Int32) <<< (x4 &&& 31)))) (P := [mm_cl 51 = 11, vp_in (4 : Int32) (mm_len 53)]) rfl ⟨rfl, (by unfold vp_in; decide), trivial⟩ ?_
    obtain ⟨σ4, e5⟩ : ∃ z, z = mm_u σ2 53 4 ((1 : Int32) <<< (x4 &&& 31)) := ⟨_, rfl⟩
    rw [← e5]
    have h := h σ4 e5
    refine mm_blk (M := mm_m_X11_milk) 4 (S' := (62, [.ref 51, .int x1, .int x2, .int x3, .int x4], [.int x1, .ref 53, .ref 51], σ4)) (P := [mm_cl 51 = 11]) rfl ⟨rfl, trivial⟩ ?_
    obtain ⟨σ6, e7, h⟩ := h
    refine mm_cl_ (rest := []) e7 ⟨_, _, _, rfl, rfl, mm_tb_X11_daysOn, rfl, rfl, Nat.le_of_ble_eq_true rfl, Nat.le_of_ble_eq_true rfl, ⟨_, rfl, rfl⟩⟩ ?_
    refine mm_blk (M := mm_m_X11_milk) 2 (S' := (69, [.ref 51, .int x1, .int x2, .int x3, .int x4], [.ref 53], σ6)) (P := [mm_cl 51 = 11]) rfl ⟨rfl, trivial⟩ ?_
    obtain ⟨v10, σ8, e9, h⟩ := h
    refine mm_cl_ (rest := []) e9 ⟨_, _, _, rfl, rfl, mm_tb_X11_allOwed, rfl, rfl, Nat.le_of_ble_eq_true rfl, Nat.le_of_ble_eq_true rfl, trivial⟩ ?_
    refine mm_blk (M := mm_m_X11_milk) 2 (S' := ((if v10 < x2 then 79 else 76), [.ref 51, .int x1, .int x2, .int x3, .int x4], [], σ8)) (P := []) rfl trivial ?_
    by_cases b11 : v10 < x2
    · rw [if_pos b11]
      have h := h.1 b11
      refine mm_blk (M := mm_m_X11_milk) 4 (S' := (86, [.ref 51, .int x1, .int x2, .int x4, .int x4], [.ref 53], σ8)) (P := [mm_cl 51 = 11]) rfl ⟨rfl, trivial⟩ ?_
      obtain ⟨v14, σ12, e13, h⟩ := h
      refine mm_cl_ (rest := []) e13 ⟨_, _, _, rfl, rfl, mm_tb_X11_allOwed, rfl, rfl, Nat.le_of_ble_eq_true rfl, Nat.le_of_ble_eq_true rfl, trivial⟩ ?_
      refine mm_blk (M := mm_m_X11_milk) 3 (S' := (24, [.ref 51, .int x1, .int v14, .int x4, .int (x4 + (1 : Int32))], [], σ12)) (P := []) rfl trivial ?_
      exact h
    · rw [if_neg b11]
      have h := h.2 b11
      refine mm_blk (M := mm_m_X11_milk) 3 (S' := (24, [.ref 51, .int x1, .int x2, .int x3, .int (x4 + (1 : Int32))], [], σ8)) (P := []) rfl trivial ?_
      exact h
theorem sg_X11_fewest_0 (σ : mm_Sg) (x1 : Int32) (R : Option Value × mm_Sg) (h : (∃ (v3 : Int32) (σ1 : mm_Sg), mm_Ev mm_m_X11_isIn [.int x1, .int (0 : Int32), .int (30 : Int32)] σ (some (.int v3)) σ1 ∧ (((¬ v3 = (0 : Int32) → (∃ (v7 : Int32) (σ5 : mm_Sg), mm_Ev mm_m_X11_owedNow [.ref 51, .int x1] σ1 (some (.int v7)) σ5 ∧ mm_Go mm_m_X11_fewest (24, [.ref 51, .int x1, .int v7, .int (31 : Int32), .int (0 : Int32)], [], σ5) R)) ∧ (¬ (¬ v3 = (0 : Int32)) → (R = (some (.int (-1 : Int32)), σ1))))))) : mm_Go mm_m_X11_fewest (0, [.ref 51, .int x1, .null, .null, .null], [], σ) R := by
  refine mm_blk (M := mm_m_X11_fewest) 3 (S' := (4, [.ref 51, .int x1, .null, .null, .null], [.int (30 : Int32), .int (0 : Int32), .int x1], σ)) (P := []) rfl trivial ?_
  obtain ⟨v3, σ1, e2, h⟩ := h
  refine mm_cl_ (rest := []) e2 ⟨_, _, _, rfl, rfl, mm_tb_X11_isIn, rfl, rfl, Nat.le_of_ble_eq_true rfl, Nat.le_of_ble_eq_true rfl, trivial⟩ ?_
  refine mm_blk (M := mm_m_X11_fewest) 1 (S' := ((if ¬ v3 = (0 : Int32) then 12 else 10), [.ref 51, .int x1, .null, .null, .null], [], σ1)) (P := []) rfl trivial ?_
  by_cases b4 : ¬ v3 = (0 : Int32)
  · rw [if_pos b4]
    have h := h.1 b4
    refine mm_blk (M := mm_m_X11_fewest) 2 (S' := (14, [.ref 51, .int x1, .null, .null, .null], [.int x1, .ref 51], σ1)) (P := []) rfl trivial ?_
    obtain ⟨v7, σ5, e6, h⟩ := h
    refine mm_cl_ (rest := []) e6 ⟨_, _, _, rfl, rfl, mm_tb_X11_owedNow, rfl, rfl, Nat.le_of_ble_eq_true rfl, Nat.le_of_ble_eq_true rfl, ⟨_, rfl, rfl⟩⟩ ?_
    refine mm_blk (M := mm_m_X11_fewest) 5 (S' := (24, [.ref 51, .int x1, .int v7, .int (31 : Int32), .int (0 : Int32)], [], σ5)) (P := []) rfl trivial ?_
    exact h
  · rw [if_neg b4]
    have h := h.2 b4
    refine mm_blk (M := mm_m_X11_fewest) 1 (S' := (11, [.ref 51, .int x1, .null, .null, .null], [.int (-1 : Int32)], σ1)) (P := []) rfl trivial ?_
    subst h
    exact mm_rt_ ⟨_, _, _, rfl, ⟨_, _, rfl, rfl, rfl, rfl⟩⟩
theorem sg_X11_fewest_24 (σ : mm_Sg) (x1 : Int32) (x2 : Int32) (x3 : Int32) (x4 : Int32) (R : Option Value × mm_Sg) (h : ((((32 : Int32) ≤ x4 → (R = (some (.int x3), σ))) ∧ (¬ ((32 : Int32) ≤ x4) → (∃ (v4 : Int32) (σ2 : mm_Sg), mm_Ev mm_m_X11_bits [.int x4] σ (some (.int v4)) σ2 ∧ (∃ (v7 : Int32) (σ5 : mm_Sg), mm_Ev mm_m_X11_bits [.int x3] σ2 (some (.int v7)) σ5 ∧ (((v4 < v7 → (∃ (σ9 : mm_Sg), mm_Ev mm_m_X11_copies [.ref 52, .ref 53] σ5 none σ9 ∧ (∀ σ11 : mm_Sg, σ11 = mm_u σ9 53 6 ((31 : Int32) &&& (x4 ^^^ (-1 : Int32))) → (∀ σ13 : mm_Sg, σ13 = mm_u σ11 53 3 ((σ11 53 3) ||| (σ11 53 6)) → (∃ (σ15 : mm_Sg), mm_Ev mm_m_X11_daysOn [.ref 51, .ref 53, .int x1] σ13 none σ15 ∧ (∃ (v19 : Int32) (σ17 : mm_Sg), mm_Ev mm_m_X11_allOwed [.ref 53] σ15 (some (.int v19)) σ17 ∧ (((x2 < v19 → mm_Go mm_m_X11_fewest (24, [.ref 51, .int x1, .int x2, .int x3, .int (x4 + (1 : Int32))], [], σ17) R) ∧ (¬ (x2 < v19) → mm_Go mm_m_X11_fewest (24, [.ref 51, .int x1, .int x2, .int x4, .int (x4 + (1 : Int32))], [], σ17) R))))))))) ∧ (¬ (v4 < v7) → mm_Go mm_m_X11_fewest (24, [.ref 51, .int x1, .int x2, .int x3, .int (x4 + (1 : Int32))], [], σ5) R))))))))) : mm_Go mm_m_X11_fewest (24, [.ref 51, .int x1, .int x2, .int x3, .int x4], [], σ) R := by
  refine mm_blk (M := mm_m_X11_fewest) 3 (S' := ((if (32 : Int32) ≤ x4 then 116 else 31), [.ref 51, .int x1, .int x2, .int x3, .int x4], [], σ)) (P := []) rfl trivial ?_
  by_cases b1 : (32 : Int32) ≤ x4
  · rw [if_pos b1]
    have h := h.1 b1
    refine mm_blk (M := mm_m_X11_fewest) 1 (S' := (117, [.ref 51, .int x1, .int x2, .int x3, .int x4], [.int x3], σ)) (P := []) rfl trivial ?_
    subst h
    exact mm_rt_ ⟨_, _, _, rfl, ⟨_, _, rfl, rfl, rfl, rfl⟩⟩
  · rw [if_neg b1]
    have h := h.2 b1
    refine mm_blk (M := mm_m_X11_fewest) 1 (S' := (33, [.ref 51, .int x1, .int x2, .int x3, .int x4], [.int x4], σ)) (P := []) rfl trivial ?_
    obtain ⟨v4, σ2, e3, h⟩ := h
    refine mm_cl_ (rest := []) e3 ⟨_, _, _, rfl, rfl, mm_tb_X11_bits, rfl, rfl, Nat.le_of_ble_eq_true rfl, Nat.le_of_ble_eq_true rfl, trivial⟩ ?_
    refine mm_blk (M := mm_m_X11_fewest) 1 (S' := (37, [.ref 51, .int x1, .int x2, .int x3, .int x4], [.int x3, .int v4], σ2)) (P := []) rfl trivial ?_
    obtain ⟨v7, σ5, e6, h⟩ := h
    refine mm_cl_ (rest := [.int v4]) e6 ⟨_, _, _, rfl, rfl, mm_tb_X11_bits, rfl, rfl, Nat.le_of_ble_eq_true rfl, Nat.le_of_ble_eq_true rfl, trivial⟩ ?_
    refine mm_blk (M := mm_m_X11_fewest) 1 (S' := ((if v4 < v7 then 46 else 43), [.ref 51, .int x1, .int x2, .int x3, .int x4], [], σ5)) (P := []) rfl trivial ?_
    by_cases b8 : v4 < v7
    · rw [if_pos b8]
      have h := h.1 b8
      refine mm_blk (M := mm_m_X11_fewest) 4 (S' := (54, [.ref 51, .int x1, .int x2, .int x3, .int x4], [.ref 53, .ref 52], σ5)) (P := [mm_cl 51 = 11, mm_cl 51 = 11]) rfl ⟨rfl, rfl, trivial⟩ ?_
      obtain ⟨σ9, e10, h⟩ := h
      refine mm_cl_ (rest := []) e10 ⟨_, _, _, rfl, rfl, mm_tb_X11_copies, rfl, rfl, Nat.le_of_ble_eq_true rfl, Nat.le_of_ble_eq_true rfl, trivial⟩ ?_
      refine mm_blk (M := mm_m_X11_fewest) 9 (S' := (71, [.ref 51, .int x1, .int x2, .int x3, .int x4], [], mm_u σ9 53 6 ((31 : Int32) &&& (x4 ^^^ (-1 : Int32))))) (P := [mm_cl 51 = 11, vp_in (6 : Int32) (mm_len 53)]) rfl ⟨rfl, (by unfold vp_in; decide), trivial⟩ ?_
      obtain ⟨σ11, e12⟩ : ∃ z, z = mm_u σ9 53 6 ((31 : Int32) &&& (x4 ^^^ (-1 : Int32))) := ⟨_, rfl⟩
      rw [← e12]
      have h := h σ11 e12
      refine mm_blk (M := mm_m_X11_fewest) 11 (S' := (87, [.ref 51, .int x1, .int x2, .int x3, .int x4], [], mm_u σ11 53 3 ((σ11 53 3) ||| (σ11 53 6)))) (P := [mm_cl 51 = 11, vp_in (3 : Int32) (mm_len 53), mm_cl 51 = 11, vp_in (6 : Int32) (mm_len 53), vp_in (3 : Int32) (mm_len 53)]) rfl ⟨rfl, (by unfold vp_in; decide), rfl, (by unfold vp_in; decide), (by unfold vp_in; decide), trivial⟩ ?_
      obtain ⟨σ13, e14⟩ : ∃ z, z = mm_u σ11 53 3 ((σ11 53 3) ||| (σ11 53 6)) := ⟨_, rfl⟩
      rw [← e14]
      have h := h σ13 e14
      refine mm_blk (M := mm_m_X11_fewest) 4 (S' := (93, [.ref 51, .int x1, .int x2, .int x3, .int x4], [.int x1, .ref 53, .ref 51], σ13)) (P := [mm_cl 51 = 11]) rfl ⟨rfl, trivial⟩ ?_
      obtain ⟨σ15, e16, h⟩ := h
      refine mm_cl_ (rest := []) e16 ⟨_, _, _, rfl, rfl, mm_tb_X11_daysOn, rfl, rfl, Nat.le_of_ble_eq_true rfl, Nat.le_of_ble_eq_true rfl, ⟨_, rfl, rfl⟩⟩ ?_
      refine mm_blk (M := mm_m_X11_fewest) 2 (S' := (100, [.ref 51, .int x1, .int x2, .int x3, .int x4], [.ref 53], σ15)) (P := [mm_cl 51 = 11]) rfl ⟨rfl, trivial⟩ ?_
      obtain ⟨v19, σ17, e18, h⟩ := h
      refine mm_cl_ (rest := []) e18 ⟨_, _, _, rfl, rfl, mm_tb_X11_allOwed, rfl, rfl, Nat.le_of_ble_eq_true rfl, Nat.le_of_ble_eq_true rfl, trivial⟩ ?_
      refine mm_blk (M := mm_m_X11_fewest) 2 (S' := ((if x2 < v19 then 110 else 107), [.ref 51, .int x1, .int x2, .int x3, .int x4], [], σ17)) (P := []) rfl trivial ?_
      by_cases b20 : x2 < v19
      · rw [if_pos b20]
        have h := h.1 b20
        refine mm_blk (M := mm_m_X11_fewest) 2 (S' := (24, [.ref 51, .int x1, .int x2, .int x3, .int (x4 + (1 : Int32))], [], σ17)) (P := []) rfl trivial ?_
        exact h
      · rw [if_neg b20]
        have h := h.2 b20
        refine mm_blk (M := mm_m_X11_fewest) 4 (S' := (24, [.ref 51, .int x1, .int x2, .int x4, .int (x4 + (1 : Int32))], [], σ17)) (P := []) rfl trivial ?_
        exact h
    · rw [if_neg b8]
      have h := h.2 b8
      refine mm_blk (M := mm_m_X11_fewest) 3 (S' := (24, [.ref 51, .int x1, .int x2, .int x3, .int (x4 + (1 : Int32))], [], σ5)) (P := []) rfl trivial ?_
      exact h
theorem sg_X11_store_0 (σ : mm_Sg) (x1 : Int32) (R : Option Value × mm_Sg) (h : (∃ (v3 : Int32) (σ1 : mm_Sg), mm_Ev mm_m_X11_isLate [.int x1] σ (some (.int v3)) σ1 ∧ (((¬ v3 = (0 : Int32) → mm_Go mm_m_X11_store (11, [.ref 51, .int x1, .int (0 : Int32)], [], σ1) R) ∧ (¬ (¬ v3 = (0 : Int32)) → (R = (some (.int (-1 : Int32)), σ1))))))) : mm_Go mm_m_X11_store (0, [.ref 51, .int x1, .null], [], σ) R := by
  refine mm_blk (M := mm_m_X11_store) 1 (S' := (1, [.ref 51, .int x1, .null], [.int x1], σ)) (P := []) rfl trivial ?_
  obtain ⟨v3, σ1, e2, h⟩ := h
  refine mm_cl_ (rest := []) e2 ⟨_, _, _, rfl, rfl, mm_tb_X11_isLate, rfl, rfl, Nat.le_of_ble_eq_true rfl, Nat.le_of_ble_eq_true rfl, trivial⟩ ?_
  refine mm_blk (M := mm_m_X11_store) 1 (S' := ((if ¬ v3 = (0 : Int32) then 9 else 7), [.ref 51, .int x1, .null], [], σ1)) (P := []) rfl trivial ?_
  by_cases b4 : ¬ v3 = (0 : Int32)
  · rw [if_pos b4]
    have h := h.1 b4
    refine mm_blk (M := mm_m_X11_store) 2 (S' := (11, [.ref 51, .int x1, .int (0 : Int32)], [], σ1)) (P := []) rfl trivial ?_
    exact h
  · rw [if_neg b4]
    have h := h.2 b4
    refine mm_blk (M := mm_m_X11_store) 1 (S' := (8, [.ref 51, .int x1, .null], [.int (-1 : Int32)], σ1)) (P := []) rfl trivial ?_
    subst h
    exact mm_rt_ ⟨_, _, _, rfl, ⟨_, _, rfl, rfl, rfl, rfl⟩⟩
theorem sg_X11_store_11 (σ : mm_Sg) (x1 : Int32) (x2 : Int32) (R : Option Value × mm_Sg) (h : ((((999 : Int32) < x2 → (R = (some (.int (-4 : Int32)), σ))) ∧ (¬ ((999 : Int32) < x2) → (∃ (σ2 : mm_Sg), mm_Ev mm_m_X11_copies [.ref 52, .ref 53] σ none σ2 ∧ (∀ σ4 : mm_Sg, σ4 = mm_u σ2 53 2 x2 → (∃ (σ6 : mm_Sg), mm_Ev mm_m_X11_daysOn [.ref 51, .ref 53, .int x1] σ4 none σ6 ∧ ((((σ6 53 2) ≤ (0 : Int32) → mm_Go mm_m_X11_store (11, [.ref 51, .int x1, .int (x2 + (1 : Int32))], [], σ6) R) ∧ (¬ ((σ6 53 2) ≤ (0 : Int32)) → (R = (some (.int x2), σ6)))))))))))) : mm_Go mm_m_X11_store (11, [.ref 51, .int x1, .int x2], [], σ) R := by
  refine mm_blk (M := mm_m_X11_store) 3 (S' := ((if (999 : Int32) < x2 then 62 else 18), [.ref 51, .int x1, .int x2], [], σ)) (P := []) rfl trivial ?_
  by_cases b1 : (999 : Int32) < x2
  · rw [if_pos b1]
    have h := h.1 b1
    refine mm_blk (M := mm_m_X11_store) 1 (S' := (64, [.ref 51, .int x1, .int x2], [.int (-4 : Int32)], σ)) (P := []) rfl trivial ?_
    subst h
    exact mm_rt_ ⟨_, _, _, rfl, ⟨_, _, rfl, rfl, rfl, rfl⟩⟩
  · rw [if_neg b1]
    have h := h.2 b1
    refine mm_blk (M := mm_m_X11_store) 4 (S' := (26, [.ref 51, .int x1, .int x2], [.ref 53, .ref 52], σ)) (P := [mm_cl 51 = 11, mm_cl 51 = 11]) rfl ⟨rfl, rfl, trivial⟩ ?_
    obtain ⟨σ2, e3, h⟩ := h
    refine mm_cl_ (rest := []) e3 ⟨_, _, _, rfl, rfl, mm_tb_X11_copies, rfl, rfl, Nat.le_of_ble_eq_true rfl, Nat.le_of_ble_eq_true rfl, trivial⟩ ?_
    refine mm_blk (M := mm_m_X11_store) 5 (S' := (36, [.ref 51, .int x1, .int x2], [], mm_u σ2 53 2 x2)) (P := [mm_cl 51 = 11, vp_in (2 : Int32) (mm_len 53)]) rfl ⟨rfl, (by unfold vp_in; decide), trivial⟩ ?_
    obtain ⟨σ4, e5⟩ : ∃ z, z = mm_u σ2 53 2 x2 := ⟨_, rfl⟩
    rw [← e5]
    have h := h σ4 e5
    refine mm_blk (M := mm_m_X11_store) 4 (S' := (42, [.ref 51, .int x1, .int x2], [.int x1, .ref 53, .ref 51], σ4)) (P := [mm_cl 51 = 11]) rfl ⟨rfl, trivial⟩ ?_
    obtain ⟨σ6, e7, h⟩ := h
    refine mm_cl_ (rest := []) e7 ⟨_, _, _, rfl, rfl, mm_tb_X11_daysOn, rfl, rfl, Nat.le_of_ble_eq_true rfl, Nat.le_of_ble_eq_true rfl, ⟨_, rfl, rfl⟩⟩ ?_
    refine mm_blk (M := mm_m_X11_store) 5 (S' := ((if (σ6 53 2) ≤ (0 : Int32) then 56 else 54), [.ref 51, .int x1, .int x2], [], σ6)) (P := [mm_cl 51 = 11, vp_in (2 : Int32) (mm_len 53)]) rfl ⟨rfl, (by unfold vp_in; decide), trivial⟩ ?_
    by_cases b8 : (σ6 53 2) ≤ (0 : Int32)
    · rw [if_pos b8]
      have h := h.1 b8
      refine mm_blk (M := mm_m_X11_store) 2 (S' := (11, [.ref 51, .int x1, .int (x2 + (1 : Int32))], [], σ6)) (P := []) rfl trivial ?_
      exact h
    · rw [if_neg b8]
      have h := h.2 b8
      refine mm_blk (M := mm_m_X11_store) 1 (S' := (55, [.ref 51, .int x1, .int x2], [.int x2], σ6)) (P := []) rfl trivial ?_
      subst h
      exact mm_rt_ ⟨_, _, _, rfl, ⟨_, _, rfl, rfl, rfl, rfl⟩⟩
theorem sg_X11_heaviest_0 (σ : mm_Sg) (x1 : Int32) (R : Option Value × mm_Sg) (h : (∃ (v3 : Int32) (σ1 : mm_Sg), mm_Ev mm_m_X11_isIn [.int x1, .int (0 : Int32), .int (3 : Int32)] σ (some (.int v3)) σ1 ∧ (((¬ v3 = (0 : Int32) → mm_Go mm_m_X11_heaviest (15, [.ref 51, .int x1, .int (0 : Int32), .int (0 : Int32), .null, .null], [], σ1) R) ∧ (¬ (¬ v3 = (0 : Int32)) → (R = (some (.int (-1 : Int32)), σ1))))))) : mm_Go mm_m_X11_heaviest (0, [.ref 51, .int x1, .null, .null, .null, .null], [], σ) R := by
  refine mm_blk (M := mm_m_X11_heaviest) 3 (S' := (3, [.ref 51, .int x1, .null, .null, .null, .null], [.int (3 : Int32), .int (0 : Int32), .int x1], σ)) (P := []) rfl trivial ?_
  obtain ⟨v3, σ1, e2, h⟩ := h
  refine mm_cl_ (rest := []) e2 ⟨_, _, _, rfl, rfl, mm_tb_X11_isIn, rfl, rfl, Nat.le_of_ble_eq_true rfl, Nat.le_of_ble_eq_true rfl, trivial⟩ ?_
  refine mm_blk (M := mm_m_X11_heaviest) 1 (S' := ((if ¬ v3 = (0 : Int32) then 11 else 9), [.ref 51, .int x1, .null, .null, .null, .null], [], σ1)) (P := []) rfl trivial ?_
  by_cases b4 : ¬ v3 = (0 : Int32)
  · rw [if_pos b4]
    have h := h.1 b4
    refine mm_blk (M := mm_m_X11_heaviest) 4 (S' := (15, [.ref 51, .int x1, .int (0 : Int32), .int (0 : Int32), .null, .null], [], σ1)) (P := []) rfl trivial ?_
    exact h
  · rw [if_neg b4]
    have h := h.2 b4
    refine mm_blk (M := mm_m_X11_heaviest) 1 (S' := (10, [.ref 51, .int x1, .null, .null, .null, .null], [.int (-1 : Int32)], σ1)) (P := []) rfl trivial ?_
    subst h
    exact mm_rt_ ⟨_, _, _, rfl, ⟨_, _, rfl, rfl, rfl, rfl⟩⟩
theorem sg_X11_heaviest_15 (σ : mm_Sg) (x1 : Int32) (x2 : Int32) (x3 : Int32) (R : Option Value × mm_Sg) (h : ((((5 : Int32) ≤ x3 → mm_Go mm_m_X11_heaviest (50, [.ref 51, .int x1, .int x2, .int (-4 : Int32), .int (0 : Int32), .int (0 : Int32)], [], σ) R) ∧ (¬ ((5 : Int32) ≤ x3) → (∃ (v4 : Int32) (σ2 : mm_Sg), mm_Ev mm_m_X11_manyOf [.ref 51, .int x3] σ (some (.int v4)) σ2 ∧ (∃ (v7 : Int32) (σ5 : mm_Sg), mm_Ev mm_m_X11_manyOf [.ref 51, .int x2] σ2 (some (.int v7)) σ5 ∧ (((v4 ≤ v7 → mm_Go mm_m_X11_heaviest (15, [.ref 51, .int x1, .int x2, .int (x3 + (1 : Int32)), .null, .null], [], σ5) R) ∧ (¬ (v4 ≤ v7) → mm_Go mm_m_X11_heaviest (15, [.ref 51, .int x1, .int x3, .int (x3 + (1 : Int32)), .null, .null], [], σ5) R))))))))) : mm_Go mm_m_X11_heaviest (15, [.ref 51, .int x1, .int x2, .int x3, .null, .null], [], σ) R := by
  refine mm_blk (M := mm_m_X11_heaviest) 3 (S' := ((if (5 : Int32) ≤ x3 then 41 else 20), [.ref 51, .int x1, .int x2, .int x3, .null, .null], [], σ)) (P := []) rfl trivial ?_
  by_cases b1 : (5 : Int32) ≤ x3
  · rw [if_pos b1]
    have h := h.1 b1
    refine mm_blk (M := mm_m_X11_heaviest) 6 (S' := (50, [.ref 51, .int x1, .int x2, .int (-4 : Int32), .int (0 : Int32), .int (0 : Int32)], [], σ)) (P := []) rfl trivial ?_
    exact h
  · rw [if_neg b1]
    have h := h.2 b1
    refine mm_blk (M := mm_m_X11_heaviest) 2 (S' := (22, [.ref 51, .int x1, .int x2, .int x3, .null, .null], [.int x3, .ref 51], σ)) (P := []) rfl trivial ?_
    obtain ⟨v4, σ2, e3, h⟩ := h
    refine mm_cl_ (rest := []) e3 ⟨_, _, _, rfl, rfl, mm_tb_X11_manyOf, rfl, rfl, Nat.le_of_ble_eq_true rfl, Nat.le_of_ble_eq_true rfl, ⟨_, rfl, rfl⟩⟩ ?_
    refine mm_blk (M := mm_m_X11_heaviest) 2 (S' := (27, [.ref 51, .int x1, .int x2, .int x3, .null, .null], [.int x2, .ref 51, .int v4], σ2)) (P := []) rfl trivial ?_
    obtain ⟨v7, σ5, e6, h⟩ := h
    refine mm_cl_ (rest := [.int v4]) e6 ⟨_, _, _, rfl, rfl, mm_tb_X11_manyOf, rfl, rfl, Nat.le_of_ble_eq_true rfl, Nat.le_of_ble_eq_true rfl, ⟨_, rfl, rfl⟩⟩ ?_
    refine mm_blk (M := mm_m_X11_heaviest) 1 (S' := ((if v4 ≤ v7 then 35 else 33), [.ref 51, .int x1, .int x2, .int x3, .null, .null], [], σ5)) (P := []) rfl trivial ?_
    by_cases b8 : v4 ≤ v7
    · rw [if_pos b8]
      have h := h.1 b8
      refine mm_blk (M := mm_m_X11_heaviest) 2 (S' := (15, [.ref 51, .int x1, .int x2, .int (x3 + (1 : Int32)), .null, .null], [], σ5)) (P := []) rfl trivial ?_
      exact h
    · rw [if_neg b8]
      have h := h.2 b8
      refine mm_blk (M := mm_m_X11_heaviest) 4 (S' := (15, [.ref 51, .int x1, .int x3, .int (x3 + (1 : Int32)), .null, .null], [], σ5)) (P := []) rfl trivial ?_
      exact h
theorem sg_X11_heaviest_50 (σ : mm_Sg) (x1 : Int32) (x2 : Int32) (x3 : Int32) (x4 : Int32) (x5 : Int32) (R : Option Value × mm_Sg) (h : ((((σ 52 0) ≤ x5 → (((¬ x1 = (0 : Int32) → (((¬ x1 = (1 : Int32) → (((¬ x1 = (2 : Int32) → (R = (some (.int x4), σ))) ∧ (¬ (¬ x1 = (2 : Int32)) → (R = (some (.int x3), σ)))))) ∧ (¬ (¬ x1 = (1 : Int32)) → (∃ (v7 : Int32) (σ5 : mm_Sg), mm_Ev mm_m_X11_manyOf [.ref 51, .int x2] σ (some (.int v7)) σ5 ∧ (R = (some (.int v7), σ5))))))) ∧ (¬ (¬ x1 = (0 : Int32)) → (R = (some (.int x2), σ)))))) ∧ (¬ ((σ 52 0) ≤ x5) → (((x3 < (0 : Int32) → mm_Go mm_m_X11_heaviest (92, [.ref 51, .int x1, .int x2, .int x5, .int x4, .int x5], [], σ) R) ∧ (¬ (x3 < (0 : Int32)) → (∃ (v11 : Int32) (σ9 : mm_Sg), mm_Ev mm_m_X11_of [.int x5, .int (3 : Int32)] σ (some (.int v11)) σ9 ∧ ((vp_in v11 (mm_len 52)) ∧ ∃ (v15 : Int32) (σ13 : mm_Sg), mm_Ev mm_m_X11_of [.int x3, .int (3 : Int32)] σ9 (some (.int v15)) σ13 ∧ ((vp_in v15 (mm_len 52)) ∧ (((σ9 52 v11.toNatClampNeg) ≤ (σ13 52 v15.toNatClampNeg) → mm_Go mm_m_X11_heaviest (92, [.ref 51, .int x1, .int x2, .int x3, .int x4, .int x5], [], σ13) R) ∧ (¬ ((σ9 52 v11.toNatClampNeg) ≤ (σ13 52 v15.toNatClampNeg)) → mm_Go mm_m_X11_heaviest (92, [.ref 51, .int x1, .int x2, .int x5, .int x4, .int x5], [], σ13) R)))))))))))) : mm_Go mm_m_X11_heaviest (50, [.ref 51, .int x1, .int x2, .int x3, .int x4, .int x5], [], σ) R := by
  refine mm_blk (M := mm_m_X11_heaviest) 6 (S' := ((if (σ 52 0) ≤ x5 then 132 else 61), [.ref 51, .int x1, .int x2, .int x3, .int x4, .int x5], [], σ)) (P := [mm_cl 51 = 11, vp_in (0 : Int32) (mm_len 52)]) rfl ⟨rfl, (by unfold vp_in; decide), trivial⟩ ?_
  by_cases b1 : (σ 52 0) ≤ x5
  · rw [if_pos b1]
    have h := h.1 b1
    refine mm_blk (M := mm_m_X11_heaviest) 2 (S' := ((if ¬ x1 = (0 : Int32) then 140 else 136), [.ref 51, .int x1, .int x2, .int x3, .int x4, .int x5], [], σ)) (P := []) rfl trivial ?_
    by_cases b2 : ¬ x1 = (0 : Int32)
    · rw [if_pos b2]
      have h := h.1 b2
      refine mm_blk (M := mm_m_X11_heaviest) 3 (S' := ((if ¬ x1 = (1 : Int32) then 153 else 145), [.ref 51, .int x1, .int x2, .int x3, .int x4, .int x5], [], σ)) (P := []) rfl trivial ?_
      by_cases b3 : ¬ x1 = (1 : Int32)
      · rw [if_pos b3]
        have h := h.1 b3
        refine mm_blk (M := mm_m_X11_heaviest) 3 (S' := ((if ¬ x1 = (2 : Int32) then 162 else 158), [.ref 51, .int x1, .int x2, .int x3, .int x4, .int x5], [], σ)) (P := []) rfl trivial ?_
        by_cases b4 : ¬ x1 = (2 : Int32)
        · rw [if_pos b4]
          have h := h.1 b4
          refine mm_blk (M := mm_m_X11_heaviest) 1 (S' := (164, [.ref 51, .int x1, .int x2, .int x3, .int x4, .int x5], [.int x4], σ)) (P := []) rfl trivial ?_
          subst h
          exact mm_rt_ ⟨_, _, _, rfl, ⟨_, _, rfl, rfl, rfl, rfl⟩⟩
        · rw [if_neg b4]
          have h := h.2 b4
          refine mm_blk (M := mm_m_X11_heaviest) 2 (S' := (164, [.ref 51, .int x1, .int x2, .int x3, .int x4, .int x5], [.int x3], σ)) (P := []) rfl trivial ?_
          subst h
          exact mm_rt_ ⟨_, _, _, rfl, ⟨_, _, rfl, rfl, rfl, rfl⟩⟩
      · rw [if_neg b3]
        have h := h.2 b3
        refine mm_blk (M := mm_m_X11_heaviest) 2 (S' := (147, [.ref 51, .int x1, .int x2, .int x3, .int x4, .int x5], [.int x2, .ref 51], σ)) (P := []) rfl trivial ?_
        obtain ⟨v7, σ5, e6, h⟩ := h
        refine mm_cl_ (rest := []) e6 ⟨_, _, _, rfl, rfl, mm_tb_X11_manyOf, rfl, rfl, Nat.le_of_ble_eq_true rfl, Nat.le_of_ble_eq_true rfl, ⟨_, rfl, rfl⟩⟩ ?_
        refine mm_blk (M := mm_m_X11_heaviest) 1 (S' := (164, [.ref 51, .int x1, .int x2, .int x3, .int x4, .int x5], [.int v7], σ5)) (P := []) rfl trivial ?_
        subst h
        exact mm_rt_ ⟨_, _, _, rfl, ⟨_, _, rfl, rfl, rfl, rfl⟩⟩
    · rw [if_neg b2]
      have h := h.2 b2
      refine mm_blk (M := mm_m_X11_heaviest) 2 (S' := (164, [.ref 51, .int x1, .int x2, .int x3, .int x4, .int x5], [.int x2], σ)) (P := []) rfl trivial ?_
      subst h
      exact mm_rt_ ⟨_, _, _, rfl, ⟨_, _, rfl, rfl, rfl, rfl⟩⟩
  · rw [if_neg b1]
    have h := h.2 b1
    refine mm_blk (M := mm_m_X11_heaviest) 2 (S' := ((if x3 < (0 : Int32) then 89 else 65), [.ref 51, .int x1, .int x2, .int x3, .int x4, .int x5], [], σ)) (P := []) rfl trivial ?_
    by_cases b8 : x3 < (0 : Int32)
    · rw [if_pos b8]
      have h := h.1 b8
      refine mm_blk (M := mm_m_X11_heaviest) 2 (S' := (92, [.ref 51, .int x1, .int x2, .int x5, .int x4, .int x5], [], σ)) (P := []) rfl trivial ?_
      exact h
    · rw [if_neg b8]
      have h := h.2 b8
      refine mm_blk (M := mm_m_X11_heaviest) 4 (S' := (72, [.ref 51, .int x1, .int x2, .int x3, .int x4, .int x5], [.int (3 : Int32), .int x5, .ref 52], σ)) (P := [mm_cl 51 = 11]) rfl ⟨rfl, trivial⟩ ?_
      obtain ⟨v11, σ9, e10, h⟩ := h
      refine mm_cl_ (rest := [.ref 52]) e10 ⟨_, _, _, rfl, rfl, mm_tb_X11_of, rfl, rfl, Nat.le_of_ble_eq_true rfl, Nat.le_of_ble_eq_true rfl, trivial⟩ ?_
      obtain ⟨c12, h⟩ := h
      refine mm_blk (M := mm_m_X11_heaviest) 5 (S' := (82, [.ref 51, .int x1, .int x2, .int x3, .int x4, .int x5], [.int (3 : Int32), .int x3, .ref 52, .int (σ9 52 v11.toNatClampNeg)], σ9)) (P := [vp_in v11 (mm_len 52), mm_cl 51 = 11]) rfl ⟨c12, rfl, trivial⟩ ?_
      obtain ⟨v15, σ13, e14, h⟩ := h
      refine mm_cl_ (rest := [.ref 52, .int (σ9 52 v11.toNatClampNeg)]) e14 ⟨_, _, _, rfl, rfl, mm_tb_X11_of, rfl, rfl, Nat.le_of_ble_eq_true rfl, Nat.le_of_ble_eq_true rfl, trivial⟩ ?_
      obtain ⟨c16, h⟩ := h
      refine mm_blk (M := mm_m_X11_heaviest) 2 (S' := ((if (σ9 52 v11.toNatClampNeg) ≤ (σ13 52 v15.toNatClampNeg) then 92 else 89), [.ref 51, .int x1, .int x2, .int x3, .int x4, .int x5], [], σ13)) (P := [vp_in v15 (mm_len 52)]) rfl ⟨c16, trivial⟩ ?_
      by_cases b17 : (σ9 52 v11.toNatClampNeg) ≤ (σ13 52 v15.toNatClampNeg)
      · rw [if_pos b17]
        have h := h.1 b17
        exact h
      · rw [if_neg b17]
        have h := h.2 b17
        refine mm_blk (M := mm_m_X11_heaviest) 2 (S' := (92, [.ref 51, .int x1, .int x2, .int x5, .int x4, .int x5], [], σ13)) (P := []) rfl trivial ?_
        exact h
theorem sg_X11_heaviest_92 (σ : mm_Sg) (x1 : Int32) (x2 : Int32) (x3 : Int32) (x4 : Int32) (x5 : Int32) (R : Option Value × mm_Sg) (h : (∃ (v3 : Int32) (σ1 : mm_Sg), mm_Ev mm_m_X11_of [.int x5, .int (2 : Int32)] σ (some (.int v3)) σ1 ∧ ((vp_in v3 (mm_len 52)) ∧ ∃ (v7 : Int32) (σ5 : mm_Sg), mm_Ev mm_m_X11_isAwake [.ref 52, .int (σ1 52 v3.toNatClampNeg)] σ1 (some (.int v7)) σ5 ∧ (((v7 = (0 : Int32) → mm_Go mm_m_X11_heaviest (50, [.ref 51, .int x1, .int x2, .int x3, .int (x4 ||| ((1 : Int32) <<< (x5 &&& 31))), .int (x5 + (1 : Int32))], [], σ5) R) ∧ (¬ (v7 = (0 : Int32)) → mm_Go mm_m_X11_heaviest (50, [.ref 51, .int x1, .int x2, .int x3, .int (x4 ||| (0 : Int32)), .int (x5 + (1 : Int32))], [], σ5) R)))))) : mm_Go mm_m_X11_heaviest (92, [.ref 51, .int x1, .int x2, .int x3, .int x4, .int x5], [], σ) R := by
  refine mm_blk (M := mm_m_X11_heaviest) 7 (S' := (105, [.ref 51, .int x1, .int x2, .int x3, .int x4, .int x5], [.int (2 : Int32), .int x5, .ref 52, .ref 52, .int x4], σ)) (P := [mm_cl 51 = 11, mm_cl 51 = 11]) rfl ⟨rfl, rfl, trivial⟩ ?_
  obtain ⟨v3, σ1, e2, h⟩ := h
  refine mm_cl_ (rest := [.ref 52, .ref 52, .int x4]) e2 ⟨_, _, _, rfl, rfl, mm_tb_X11_of, rfl, rfl, Nat.le_of_ble_eq_true rfl, Nat.le_of_ble_eq_true rfl, trivial⟩ ?_
  obtain ⟨c4, h⟩ := h
  refine mm_blk (M := mm_m_X11_heaviest) 1 (S' := (109, [.ref 51, .int x1, .int x2, .int x3, .int x4, .int x5], [.int (σ1 52 v3.toNatClampNeg), .ref 52, .int x4], σ1)) (P := [vp_in v3 (mm_len 52)]) rfl ⟨c4, trivial⟩ ?_
  obtain ⟨v7, σ5, e6, h⟩ := h
  refine mm_cl_ (rest := [.int x4]) e6 ⟨_, _, _, rfl, rfl, mm_tb_X11_isAwake, rfl, rfl, Nat.le_of_ble_eq_true rfl, Nat.le_of_ble_eq_true rfl, trivial⟩ ?_
  refine mm_blk (M := mm_m_X11_heaviest) 1 (S' := ((if v7 = (0 : Int32) then 119 else 115), [.ref 51, .int x1, .int x2, .int x3, .int x4, .int x5], [.int x4], σ5)) (P := []) rfl trivial ?_
  by_cases b8 : v7 = (0 : Int32)
  · rw [if_pos b8]
    have h := h.1 b8
    refine mm_blk (M := mm_m_X11_heaviest) 7 (S' := (50, [.ref 51, .int x1, .int x2, .int x3, .int (x4 ||| ((1 : Int32) <<< (x5 &&& 31))), .int (x5 + (1 : Int32))], [], σ5)) (P := []) rfl trivial ?_
    exact h
  · rw [if_neg b8]
    have h := h.2 b8
    refine mm_blk (M := mm_m_X11_heaviest) 6 (S' := (50, [.ref 51, .int x1, .int x2, .int x3, .int (x4 ||| (0 : Int32)), .int (x5 + (1 : Int32))], [], σ5)) (P := []) rfl trivial ?_
    exact h
