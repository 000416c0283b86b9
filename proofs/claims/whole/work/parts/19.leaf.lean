/-! what loopless methods answer, by program -/
def f_X4_cupsOn (σ : mm_Sg) (q0 : Nat) (x1 : Int32) (x2 : Int32) : Int32 := (2 : Int32)
theorem ev_X4_cupsOn (σ : mm_Sg) (q0 : Nat) (x1 : Int32) (x2 : Int32) : mm_Ev mm_m_X4_cupsOn [.ref q0, .int x1, .int x2] σ (some (.int (f_X4_cupsOn σ q0 x1 x2))) σ := by
  refine sg_X4_cupsOn_0 σ q0 x1 x2 _ ?_
  unfold f_X4_cupsOn
  all_goals first | rfl | trivial
def f_X0_cupsOn (σ : mm_Sg) (q0 : Nat) (x1 : Int32) (x2 : Int32) : Int32 := ((f_X4_cupsOn σ q0 x1 x2) + (x2 / (2 : Int32)))
theorem ev_X0_cupsOn (σ : mm_Sg) (q0 : Nat) (x1 : Int32) (x2 : Int32) (hs1 : (mm_cl q0 < 12)) : mm_Ev mm_m_X0_cupsOn [.ref q0, .int x1, .int x2] σ (some (.int (f_X0_cupsOn σ q0 x1 x2))) σ := by
  refine sg_X0_cupsOn_0 σ q0 x1 x2 _ ?_
  unfold f_X0_cupsOn
  refine ⟨hs1, ?_⟩
  refine ⟨_, _, ev_X4_cupsOn σ q0 x1 x2, ?_⟩
  all_goals first | rfl | trivial
def f_X4_tiringFor (σ : mm_Sg) (q0 : Nat) (x1 : Int32) (x2 : Int32) : Int32 := ((3 : Int32) * x1)
theorem ev_X4_tiringFor (σ : mm_Sg) (q0 : Nat) (x1 : Int32) (x2 : Int32) : mm_Ev mm_m_X4_tiringFor [.ref q0, .int x1, .int x2] σ (some (.int (f_X4_tiringFor σ q0 x1 x2))) σ := by
  refine sg_X4_tiringFor_0 σ q0 x1 x2 _ ?_
  unfold f_X4_tiringFor
  all_goals first | rfl | trivial
def f_X0_tiringFor (σ : mm_Sg) (q0 : Nat) (x1 : Int32) (x2 : Int32) : Int32 := ((f_X4_tiringFor σ q0 x1 x2) + x1)
theorem ev_X0_tiringFor (σ : mm_Sg) (q0 : Nat) (x1 : Int32) (x2 : Int32) (hs1 : (mm_cl q0 < 12)) : mm_Ev mm_m_X0_tiringFor [.ref q0, .int x1, .int x2] σ (some (.int (f_X0_tiringFor σ q0 x1 x2))) σ := by
  refine sg_X0_tiringFor_0 σ q0 x1 x2 _ ?_
  unfold f_X0_tiringFor
  refine ⟨hs1, ?_⟩
  refine ⟨_, _, ev_X4_tiringFor σ q0 x1 x2, ?_⟩
  all_goals first | rfl | trivial
def f_X4_debtFor (σ : mm_Sg) (q0 : Nat) (x1 : Int32) (x2 : Int32) : Int32 := x1
theorem ev_X4_debtFor (σ : mm_Sg) (q0 : Nat) (x1 : Int32) (x2 : Int32) : mm_Ev mm_m_X4_debtFor [.ref q0, .int x1, .int x2] σ (some (.int (f_X4_debtFor σ q0 x1 x2))) σ := by
  refine sg_X4_debtFor_0 σ q0 x1 x2 _ ?_
  unfold f_X4_debtFor
  all_goals first | rfl | trivial
def f_X0_debtFor (σ : mm_Sg) (q0 : Nat) (x1 : Int32) (x2 : Int32) : Int32 := ((2 : Int32) * (f_X4_debtFor σ q0 x1 x2))
theorem ev_X0_debtFor (σ : mm_Sg) (q0 : Nat) (x1 : Int32) (x2 : Int32) (hs1 : (mm_cl q0 < 12)) : mm_Ev mm_m_X0_debtFor [.ref q0, .int x1, .int x2] σ (some (.int (f_X0_debtFor σ q0 x1 x2))) σ := by
  refine sg_X0_debtFor_0 σ q0 x1 x2 _ ?_
  unfold f_X0_debtFor
  refine ⟨hs1, ?_⟩
  refine ⟨_, _, ev_X4_debtFor σ q0 x1 x2, ?_⟩
  all_goals first | rfl | trivial
def f_X4_priceOf (σ : mm_Sg) (q0 : Nat) (x1 : Int32) : Int32 := (3 : Int32)
theorem ev_X4_priceOf (σ : mm_Sg) (q0 : Nat) (x1 : Int32) : mm_Ev mm_m_X4_priceOf [.ref q0, .int x1] σ (some (.int (f_X4_priceOf σ q0 x1))) σ := by
  refine sg_X4_priceOf_0 σ q0 x1 _ ?_
  unfold f_X4_priceOf
  all_goals first | rfl | trivial
def f_X0_priceOf (σ : mm_Sg) (q0 : Nat) (x1 : Int32) : Int32 := ((f_X4_priceOf σ q0 x1) + x1)
theorem ev_X0_priceOf (σ : mm_Sg) (q0 : Nat) (x1 : Int32) (hs1 : (mm_cl q0 < 12)) : mm_Ev mm_m_X0_priceOf [.ref q0, .int x1] σ (some (.int (f_X0_priceOf σ q0 x1))) σ := by
  refine sg_X0_priceOf_0 σ q0 x1 _ ?_
  unfold f_X0_priceOf
  refine ⟨hs1, ?_⟩
  refine ⟨_, _, ev_X4_priceOf σ q0 x1, ?_⟩
  all_goals first | rfl | trivial
def f_X4_failureOf (σ : mm_Sg) (q0 : Nat) (x1 : Int32) : Int32 := x1
theorem ev_X4_failureOf (σ : mm_Sg) (q0 : Nat) (x1 : Int32) : mm_Ev mm_m_X4_failureOf [.ref q0, .int x1] σ (some (.int (f_X4_failureOf σ q0 x1))) σ := by
  refine sg_X4_failureOf_0 σ q0 x1 _ ?_
  unfold f_X4_failureOf
  all_goals first | rfl | trivial
def f_X0_failureOf (σ : mm_Sg) (q0 : Nat) (x1 : Int32) : Int32 := ((f_X4_failureOf σ q0 x1) + (100 : Int32))
theorem ev_X0_failureOf (σ : mm_Sg) (q0 : Nat) (x1 : Int32) (hs1 : (mm_cl q0 < 12)) : mm_Ev mm_m_X0_failureOf [.ref q0, .int x1] σ (some (.int (f_X0_failureOf σ q0 x1))) σ := by
  refine sg_X0_failureOf_0 σ q0 x1 _ ?_
  unfold f_X0_failureOf
  refine ⟨hs1, ?_⟩
  refine ⟨_, _, ev_X4_failureOf σ q0 x1, ?_⟩
  all_goals first | rfl | trivial
def f_X2_cupsOn (σ : mm_Sg) (q0 : Nat) (x1 : Int32) (x2 : Int32) : Int32 := ((2 : Int32) * (f_X0_cupsOn σ q0 x1 x2))
theorem ev_X2_cupsOn (σ : mm_Sg) (q0 : Nat) (x1 : Int32) (x2 : Int32) (hs1 : (mm_cl q0 < 12)) : mm_Ev mm_m_X2_cupsOn [.ref q0, .int x1, .int x2] σ (some (.int (f_X2_cupsOn σ q0 x1 x2))) σ := by
  refine sg_X2_cupsOn_0 σ q0 x1 x2 _ ?_
  unfold f_X2_cupsOn
  refine ⟨hs1, ?_⟩
  refine ⟨_, _, ev_X0_cupsOn σ q0 x1 x2 hs1, ?_⟩
  all_goals first | rfl | trivial
def f_X2_priceOf (σ : mm_Sg) (q0 : Nat) (x1 : Int32) : Int32 := ((2 : Int32) * (f_X0_priceOf σ q0 x1))
theorem ev_X2_priceOf (σ : mm_Sg) (q0 : Nat) (x1 : Int32) (hs1 : (mm_cl q0 < 12)) : mm_Ev mm_m_X2_priceOf [.ref q0, .int x1] σ (some (.int (f_X2_priceOf σ q0 x1))) σ := by
  refine sg_X2_priceOf_0 σ q0 x1 _ ?_
  unfold f_X2_priceOf
  refine ⟨hs1, ?_⟩
  refine ⟨_, _, ev_X0_priceOf σ q0 x1 hs1, ?_⟩
  all_goals first | rfl | trivial
def f_X3_cupsOn (σ : mm_Sg) (q0 : Nat) (x1 : Int32) (x2 : Int32) : Int32 := (if (x1 - x1 / (2 : Int32) * (2 : Int32)) = (0 : Int32) then ((f_X4_cupsOn σ q0 x1 x2) + (0 : Int32)) else ((f_X4_cupsOn σ q0 x1 x2) + (1 : Int32)))
theorem ev_X3_cupsOn (σ : mm_Sg) (q0 : Nat) (x1 : Int32) (x2 : Int32) (hs1 : (mm_cl q0 < 12)) : mm_Ev mm_m_X3_cupsOn [.ref q0, .int x1, .int x2] σ (some (.int (f_X3_cupsOn σ q0 x1 x2))) σ := by
  refine sg_X3_cupsOn_0 σ q0 x1 x2 _ ?_
  unfold f_X3_cupsOn
  refine ⟨hs1, ?_⟩
  refine ⟨_, _, ev_X4_cupsOn σ q0 x1 x2, ?_⟩
  refine ⟨fun b1 => ?_, fun b1 => ?_⟩
  · simp only [if_pos b1]
    all_goals first | rfl | trivial
  · simp only [if_neg b1]
    all_goals first | rfl | trivial
def f_X3_tiringFor (σ : mm_Sg) (q0 : Nat) (x1 : Int32) (x2 : Int32) : Int32 := ((2 : Int32) * x1)
theorem ev_X3_tiringFor (σ : mm_Sg) (q0 : Nat) (x1 : Int32) (x2 : Int32) : mm_Ev mm_m_X3_tiringFor [.ref q0, .int x1, .int x2] σ (some (.int (f_X3_tiringFor σ q0 x1 x2))) σ := by
  refine sg_X3_tiringFor_0 σ q0 x1 x2 _ ?_
  unfold f_X3_tiringFor
  all_goals first | rfl | trivial
def f_X3_priceOf (σ : mm_Sg) (q0 : Nat) (x1 : Int32) : Int32 := ((f_X4_priceOf σ q0 x1) + (1 : Int32))
theorem ev_X3_priceOf (σ : mm_Sg) (q0 : Nat) (x1 : Int32) (hs1 : (mm_cl q0 < 12)) : mm_Ev mm_m_X3_priceOf [.ref q0, .int x1] σ (some (.int (f_X3_priceOf σ q0 x1))) σ := by
  refine sg_X3_priceOf_0 σ q0 x1 _ ?_
  unfold f_X3_priceOf
  refine ⟨hs1, ?_⟩
  refine ⟨_, _, ev_X4_priceOf σ q0 x1, ?_⟩
  all_goals first | rfl | trivial
def f_X5_cupsOn (σ : mm_Sg) (q0 : Nat) (x1 : Int32) (x2 : Int32) : Int32 := (if ¬ (x1 - x1 / (3 : Int32) * (3 : Int32)) = (0 : Int32) then (f_X3_cupsOn σ q0 x1 x2) else (0 : Int32))
theorem ev_X5_cupsOn (σ : mm_Sg) (q0 : Nat) (x1 : Int32) (x2 : Int32) (hs1 : (¬ (x1 - x1 / (3 : Int32) * (3 : Int32)) = (0 : Int32)) → (mm_cl q0 < 12)) : mm_Ev mm_m_X5_cupsOn [.ref q0, .int x1, .int x2] σ (some (.int (f_X5_cupsOn σ q0 x1 x2))) σ := by
  refine sg_X5_cupsOn_0 σ q0 x1 x2 _ ?_
  unfold f_X5_cupsOn
  refine ⟨fun b1 => ?_, fun b1 => ?_⟩
  · simp only [if_pos b1]
    refine ⟨(hs1 b1), ?_⟩
    refine ⟨_, _, ev_X3_cupsOn σ q0 x1 x2 (hs1 b1), ?_⟩
    all_goals first | rfl | trivial
  · simp only [if_neg b1]
    all_goals first | rfl | trivial
def f_X5_tiringFor (σ : mm_Sg) (q0 : Nat) (x1 : Int32) (x2 : Int32) : Int32 := (if (0 : Int32) < ((f_X3_tiringFor σ q0 x1 x2) - x2) then ((f_X3_tiringFor σ q0 x1 x2) - x2) else (0 : Int32))
theorem ev_X5_tiringFor (σ : mm_Sg) (q0 : Nat) (x1 : Int32) (x2 : Int32) (hs1 : (mm_cl q0 < 12)) : mm_Ev mm_m_X5_tiringFor [.ref q0, .int x1, .int x2] σ (some (.int (f_X5_tiringFor σ q0 x1 x2))) σ := by
  refine sg_X5_tiringFor_0 σ q0 x1 x2 _ ?_
  unfold f_X5_tiringFor
  refine ⟨hs1, ?_⟩
  refine ⟨_, _, ev_X3_tiringFor σ q0 x1 x2, ?_⟩
  all_goals first | rfl | trivial
def f_X6_cupsOn (σ : mm_Sg) (q0 : Nat) (x1 : Int32) (x2 : Int32) : Int32 := (1 : Int32)
theorem ev_X6_cupsOn (σ : mm_Sg) (q0 : Nat) (x1 : Int32) (x2 : Int32) : mm_Ev mm_m_X6_cupsOn [.ref q0, .int x1, .int x2] σ (some (.int (f_X6_cupsOn σ q0 x1 x2))) σ := by
  refine sg_X6_cupsOn_0 σ q0 x1 x2 _ ?_
  unfold f_X6_cupsOn
  all_goals first | rfl | trivial
def f_X6_tiringFor (σ : mm_Sg) (q0 : Nat) (x1 : Int32) (x2 : Int32) : Int32 := x1
theorem ev_X6_tiringFor (σ : mm_Sg) (q0 : Nat) (x1 : Int32) (x2 : Int32) : mm_Ev mm_m_X6_tiringFor [.ref q0, .int x1, .int x2] σ (some (.int (f_X6_tiringFor σ q0 x1 x2))) σ := by
  refine sg_X6_tiringFor_0 σ q0 x1 x2 _ ?_
  unfold f_X6_tiringFor
  all_goals first | rfl | trivial
def f_X6_priceOf (σ : mm_Sg) (q0 : Nat) (x1 : Int32) : Int32 := (2 : Int32)
theorem ev_X6_priceOf (σ : mm_Sg) (q0 : Nat) (x1 : Int32) : mm_Ev mm_m_X6_priceOf [.ref q0, .int x1] σ (some (.int (f_X6_priceOf σ q0 x1))) σ := by
  refine sg_X6_priceOf_0 σ q0 x1 _ ?_
  unfold f_X6_priceOf
  all_goals first | rfl | trivial
def f_X7_cupsOn (σ : mm_Sg) (q0 : Nat) (x1 : Int32) (x2 : Int32) : Int32 := (0 : Int32)
theorem ev_X7_cupsOn (σ : mm_Sg) (q0 : Nat) (x1 : Int32) (x2 : Int32) : mm_Ev mm_m_X7_cupsOn [.ref q0, .int x1, .int x2] σ (some (.int (f_X7_cupsOn σ q0 x1 x2))) σ := by
  refine sg_X7_cupsOn_0 σ q0 x1 x2 _ ?_
  unfold f_X7_cupsOn
  all_goals first | rfl | trivial
def f_X7_tiringFor (σ : mm_Sg) (q0 : Nat) (x1 : Int32) (x2 : Int32) : Int32 := (5 : Int32)
theorem ev_X7_tiringFor (σ : mm_Sg) (q0 : Nat) (x1 : Int32) (x2 : Int32) : mm_Ev mm_m_X7_tiringFor [.ref q0, .int x1, .int x2] σ (some (.int (f_X7_tiringFor σ q0 x1 x2))) σ := by
  refine sg_X7_tiringFor_0 σ q0 x1 x2 _ ?_
  unfold f_X7_tiringFor
  all_goals first | rfl | trivial
def f_X7_debtFor (σ : mm_Sg) (q0 : Nat) (x1 : Int32) (x2 : Int32) : Int32 := (0 : Int32)
theorem ev_X7_debtFor (σ : mm_Sg) (q0 : Nat) (x1 : Int32) (x2 : Int32) : mm_Ev mm_m_X7_debtFor [.ref q0, .int x1, .int x2] σ (some (.int (f_X7_debtFor σ q0 x1 x2))) σ := by
  refine sg_X7_debtFor_0 σ q0 x1 x2 _ ?_
  unfold f_X7_debtFor
  all_goals first | rfl | trivial
def f_X7_priceOf (σ : mm_Sg) (q0 : Nat) (x1 : Int32) : Int32 := ((f_X6_priceOf σ q0 x1) / (2 : Int32))
theorem ev_X7_priceOf (σ : mm_Sg) (q0 : Nat) (x1 : Int32) (hs1 : (mm_cl q0 < 12)) : mm_Ev mm_m_X7_priceOf [.ref q0, .int x1] σ (some (.int (f_X7_priceOf σ q0 x1))) σ := by
  refine sg_X7_priceOf_0 σ q0 x1 _ ?_
  unfold f_X7_priceOf
  refine ⟨hs1, ?_⟩
  refine ⟨_, _, ev_X6_priceOf σ q0 x1, ?_⟩
  all_goals first | rfl | trivial
def f_X9_cupsOn (σ : mm_Sg) (q0 : Nat) (x1 : Int32) (x2 : Int32) : Int32 := ((f_X2_cupsOn σ q0 x1 x2) - (1 : Int32))
theorem ev_X9_cupsOn (σ : mm_Sg) (q0 : Nat) (x1 : Int32) (x2 : Int32) (hs1 : (mm_cl q0 < 12)) : mm_Ev mm_m_X9_cupsOn [.ref q0, .int x1, .int x2] σ (some (.int (f_X9_cupsOn σ q0 x1 x2))) σ := by
  refine sg_X9_cupsOn_0 σ q0 x1 x2 _ ?_
  unfold f_X9_cupsOn
  refine ⟨hs1, ?_⟩
  refine ⟨_, _, ev_X2_cupsOn σ q0 x1 x2 hs1, ?_⟩
  all_goals first | rfl | trivial
def f_X9_tiringFor (σ : mm_Sg) (q0 : Nat) (x1 : Int32) (x2 : Int32) : Int32 := (0 : Int32)
theorem ev_X9_tiringFor (σ : mm_Sg) (q0 : Nat) (x1 : Int32) (x2 : Int32) : mm_Ev mm_m_X9_tiringFor [.ref q0, .int x1, .int x2] σ (some (.int (f_X9_tiringFor σ q0 x1 x2))) σ := by
  refine sg_X9_tiringFor_0 σ q0 x1 x2 _ ?_
  unfold f_X9_tiringFor
  all_goals first | rfl | trivial
def f_X9_debtFor (σ : mm_Sg) (q0 : Nat) (x1 : Int32) (x2 : Int32) : Int32 := (if x1 ≤ (0 : Int32) then (0 : Int32) else ((f_X0_debtFor σ q0 x1 x2) + x2))
theorem ev_X9_debtFor (σ : mm_Sg) (q0 : Nat) (x1 : Int32) (x2 : Int32) (hs1 : (¬ (x1 ≤ (0 : Int32))) → (mm_cl q0 < 12)) : mm_Ev mm_m_X9_debtFor [.ref q0, .int x1, .int x2] σ (some (.int (f_X9_debtFor σ q0 x1 x2))) σ := by
  refine sg_X9_debtFor_0 σ q0 x1 x2 _ ?_
  unfold f_X9_debtFor
  refine ⟨fun b1 => ?_, fun b1 => ?_⟩
  · simp only [if_pos b1]
    all_goals first | rfl | trivial
  · simp only [if_neg b1]
    refine ⟨(hs1 b1), ?_⟩
    refine ⟨_, _, ev_X0_debtFor σ q0 x1 x2 (hs1 b1), ?_⟩
    all_goals first | rfl | trivial
def f_X9_priceOf (σ : mm_Sg) (q0 : Nat) (x1 : Int32) : Int32 := ((f_X2_priceOf σ q0 x1) - (5 : Int32))
theorem ev_X9_priceOf (σ : mm_Sg) (q0 : Nat) (x1 : Int32) (hs1 : (mm_cl q0 < 12)) : mm_Ev mm_m_X9_priceOf [.ref q0, .int x1] σ (some (.int (f_X9_priceOf σ q0 x1))) σ := by
  refine sg_X9_priceOf_0 σ q0 x1 _ ?_
  unfold f_X9_priceOf
  refine ⟨hs1, ?_⟩
  refine ⟨_, _, ev_X2_priceOf σ q0 x1 hs1, ?_⟩
  all_goals first | rfl | trivial
def f_X9_failureOf (σ : mm_Sg) (q0 : Nat) (x1 : Int32) : Int32 := ((200 : Int32) + (f_X9_priceOf σ q0 x1))
theorem ev_X9_failureOf (σ : mm_Sg) (q0 : Nat) (x1 : Int32) (hs1 : (mm_cl q0 = 9)) (hs2 : (mm_cl q0 < 12)) : mm_Ev mm_m_X9_failureOf [.ref q0, .int x1] σ (some (.int (f_X9_failureOf σ q0 x1))) σ := by
  refine sg_X9_failureOf_0 σ q0 x1 _ ?_
  unfold f_X9_failureOf
  refine ⟨hs1, ?_⟩
  refine ⟨_, _, ev_X9_priceOf σ q0 x1 hs2, ?_⟩
  all_goals first | rfl | trivial
def f_D0 (σ : mm_Sg) (q : Nat) (x1 x2 : Int32) : Int32 := if q = 3 then f_X3_cupsOn σ q x1 x2 else (if q = 4 then f_X0_cupsOn σ q x1 x2 else (if q = 5 then f_X6_cupsOn σ q x1 x2 else (if q = 6 then f_X2_cupsOn σ q x1 x2 else (if q = 7 then f_X5_cupsOn σ q x1 x2 else (if q = 8 then f_X9_cupsOn σ q x1 x2 else (if q = 9 then f_X7_cupsOn σ q x1 x2 else f_X4_cupsOn σ q x1 x2))))))
theorem ev_D0 (σ : mm_Sg) (q : Nat) (x1 x2 : Int32) (hq : 2 ≤ q ∧ q < 10) : mm_Dv 0 [.ref q, .int x1, .int x2] σ (some (.int (f_D0 σ q x1 x2))) σ := by
  obtain ⟨h1, h2⟩ := hq
  rcases (show q = 2 ∨ q = 3 ∨ q = 4 ∨ q = 5 ∨ q = 6 ∨ q = 7 ∨ q = 8 ∨ q = 9 by omega) with rfl | rfl | rfl | rfl | rfl | rfl | rfl | rfl
  · exact ⟨mm_m_X4_cupsOn, _, _, rfl, rfl, by decide, Nat.le_of_ble_eq_true rfl, ev_X4_cupsOn σ 2 x1 x2⟩
  · exact ⟨mm_m_X3_cupsOn, _, _, rfl, rfl, by decide, Nat.le_of_ble_eq_true rfl, ev_X3_cupsOn σ 3 x1 x2 (by intros; decide)⟩
  · exact ⟨mm_m_X0_cupsOn, _, _, rfl, rfl, by decide, Nat.le_of_ble_eq_true rfl, ev_X0_cupsOn σ 4 x1 x2 (by intros; decide)⟩
  · exact ⟨mm_m_X6_cupsOn, _, _, rfl, rfl, by decide, Nat.le_of_ble_eq_true rfl, ev_X6_cupsOn σ 5 x1 x2⟩
  · exact ⟨mm_m_X2_cupsOn, _, _, rfl, rfl, by decide, Nat.le_of_ble_eq_true rfl, ev_X2_cupsOn σ 6 x1 x2 (by intros; decide)⟩
  · exact ⟨mm_m_X5_cupsOn, _, _, rfl, rfl, by decide, Nat.le_of_ble_eq_true rfl, ev_X5_cupsOn σ 7 x1 x2 (by intros; decide)⟩
  · exact ⟨mm_m_X9_cupsOn, _, _, rfl, rfl, by decide, Nat.le_of_ble_eq_true rfl, ev_X9_cupsOn σ 8 x1 x2 (by intros; decide)⟩
  · exact ⟨mm_m_X7_cupsOn, _, _, rfl, rfl, by decide, Nat.le_of_ble_eq_true rfl, ev_X7_cupsOn σ 9 x1 x2⟩
theorem ev_DK0 (σ : mm_Sg) (b kd : Nat) (x1 x2 : Int32) (hb : b = 2 ∨ b = 66 ∨ b = 75) (hk : kd < 8) : mm_Dv 0 [.ref (b + kd), .int x1, .int x2] σ (some (.int (f_D0 σ (2 + kd) x1 x2))) σ := by
  rcases hb with rfl | rfl | rfl
  · exact ev_D0 σ (2 + kd) x1 x2 (by omega)
  · rcases (show kd = 0 ∨ kd = 1 ∨ kd = 2 ∨ kd = 3 ∨ kd = 4 ∨ kd = 5 ∨ kd = 6 ∨ kd = 7 by omega) with rfl | rfl | rfl | rfl | rfl | rfl | rfl | rfl
    · exact ⟨mm_m_X4_cupsOn, _, _, rfl, rfl, by decide, Nat.le_of_ble_eq_true rfl, ev_X4_cupsOn σ 66 x1 x2⟩
    · exact ⟨mm_m_X3_cupsOn, _, _, rfl, rfl, by decide, Nat.le_of_ble_eq_true rfl, ev_X3_cupsOn σ 67 x1 x2 (by intros; decide)⟩
    · exact ⟨mm_m_X0_cupsOn, _, _, rfl, rfl, by decide, Nat.le_of_ble_eq_true rfl, ev_X0_cupsOn σ 68 x1 x2 (by intros; decide)⟩
    · exact ⟨mm_m_X6_cupsOn, _, _, rfl, rfl, by decide, Nat.le_of_ble_eq_true rfl, ev_X6_cupsOn σ 69 x1 x2⟩
    · exact ⟨mm_m_X2_cupsOn, _, _, rfl, rfl, by decide, Nat.le_of_ble_eq_true rfl, ev_X2_cupsOn σ 70 x1 x2 (by intros; decide)⟩
    · exact ⟨mm_m_X5_cupsOn, _, _, rfl, rfl, by decide, Nat.le_of_ble_eq_true rfl, ev_X5_cupsOn σ 71 x1 x2 (by intros; decide)⟩
    · exact ⟨mm_m_X9_cupsOn, _, _, rfl, rfl, by decide, Nat.le_of_ble_eq_true rfl, ev_X9_cupsOn σ 72 x1 x2 (by intros; decide)⟩
    · exact ⟨mm_m_X7_cupsOn, _, _, rfl, rfl, by decide, Nat.le_of_ble_eq_true rfl, ev_X7_cupsOn σ 73 x1 x2⟩
  · rcases (show kd = 0 ∨ kd = 1 ∨ kd = 2 ∨ kd = 3 ∨ kd = 4 ∨ kd = 5 ∨ kd = 6 ∨ kd = 7 by omega) with rfl | rfl | rfl | rfl | rfl | rfl | rfl | rfl
    · exact ⟨mm_m_X4_cupsOn, _, _, rfl, rfl, by decide, Nat.le_of_ble_eq_true rfl, ev_X4_cupsOn σ 75 x1 x2⟩
    · exact ⟨mm_m_X3_cupsOn, _, _, rfl, rfl, by decide, Nat.le_of_ble_eq_true rfl, ev_X3_cupsOn σ 76 x1 x2 (by intros; decide)⟩
    · exact ⟨mm_m_X0_cupsOn, _, _, rfl, rfl, by decide, Nat.le_of_ble_eq_true rfl, ev_X0_cupsOn σ 77 x1 x2 (by intros; decide)⟩
    · exact ⟨mm_m_X6_cupsOn, _, _, rfl, rfl, by decide, Nat.le_of_ble_eq_true rfl, ev_X6_cupsOn σ 78 x1 x2⟩
    · exact ⟨mm_m_X2_cupsOn, _, _, rfl, rfl, by decide, Nat.le_of_ble_eq_true rfl, ev_X2_cupsOn σ 79 x1 x2 (by intros; decide)⟩
    · exact ⟨mm_m_X5_cupsOn, _, _, rfl, rfl, by decide, Nat.le_of_ble_eq_true rfl, ev_X5_cupsOn σ 80 x1 x2 (by intros; decide)⟩
    · exact ⟨mm_m_X9_cupsOn, _, _, rfl, rfl, by decide, Nat.le_of_ble_eq_true rfl, ev_X9_cupsOn σ 81 x1 x2 (by intros; decide)⟩
    · exact ⟨mm_m_X7_cupsOn, _, _, rfl, rfl, by decide, Nat.le_of_ble_eq_true rfl, ev_X7_cupsOn σ 82 x1 x2⟩
def f_D1 (σ : mm_Sg) (q : Nat) (x1 x2 : Int32) : Int32 := if q = 3 then f_X3_tiringFor σ q x1 x2 else (if q = 4 then f_X0_tiringFor σ q x1 x2 else (if q = 5 then f_X6_tiringFor σ q x1 x2 else (if q = 6 then f_X0_tiringFor σ q x1 x2 else (if q = 7 then f_X5_tiringFor σ q x1 x2 else (if q = 8 then f_X9_tiringFor σ q x1 x2 else (if q = 9 then f_X7_tiringFor σ q x1 x2 else f_X4_tiringFor σ q x1 x2))))))
theorem ev_D1 (σ : mm_Sg) (q : Nat) (x1 x2 : Int32) (hq : 2 ≤ q ∧ q < 10) : mm_Dv 1 [.ref q, .int x1, .int x2] σ (some (.int (f_D1 σ q x1 x2))) σ := by
  obtain ⟨h1, h2⟩ := hq
  rcases (show q = 2 ∨ q = 3 ∨ q = 4 ∨ q = 5 ∨ q = 6 ∨ q = 7 ∨ q = 8 ∨ q = 9 by omega) with rfl | rfl | rfl | rfl | rfl | rfl | rfl | rfl
  · exact ⟨mm_m_X4_tiringFor, _, _, rfl, rfl, by decide, Nat.le_of_ble_eq_true rfl, ev_X4_tiringFor σ 2 x1 x2⟩
  · exact ⟨mm_m_X3_tiringFor, _, _, rfl, rfl, by decide, Nat.le_of_ble_eq_true rfl, ev_X3_tiringFor σ 3 x1 x2⟩
  · exact ⟨mm_m_X0_tiringFor, _, _, rfl, rfl, by decide, Nat.le_of_ble_eq_true rfl, ev_X0_tiringFor σ 4 x1 x2 (by intros; decide)⟩
  · exact ⟨mm_m_X6_tiringFor, _, _, rfl, rfl, by decide, Nat.le_of_ble_eq_true rfl, ev_X6_tiringFor σ 5 x1 x2⟩
  · exact ⟨mm_m_X0_tiringFor, _, _, rfl, rfl, by decide, Nat.le_of_ble_eq_true rfl, ev_X0_tiringFor σ 6 x1 x2 (by intros; decide)⟩
  · exact ⟨mm_m_X5_tiringFor, _, _, rfl, rfl, by decide, Nat.le_of_ble_eq_true rfl, ev_X5_tiringFor σ 7 x1 x2 (by intros; decide)⟩
  · exact ⟨mm_m_X9_tiringFor, _, _, rfl, rfl, by decide, Nat.le_of_ble_eq_true rfl, ev_X9_tiringFor σ 8 x1 x2⟩
  · exact ⟨mm_m_X7_tiringFor, _, _, rfl, rfl, by decide, Nat.le_of_ble_eq_true rfl, ev_X7_tiringFor σ 9 x1 x2⟩
theorem ev_DK1 (σ : mm_Sg) (b kd : Nat) (x1 x2 : Int32) (hb : b = 2 ∨ b = 66 ∨ b = 75) (hk : kd < 8) : mm_Dv 1 [.ref (b + kd), .int x1, .int x2] σ (some (.int (f_D1 σ (2 + kd) x1 x2))) σ := by
  rcases hb with rfl | rfl | rfl
  · exact ev_D1 σ (2 + kd) x1 x2 (by omega)
  · rcases (show kd = 0 ∨ kd = 1 ∨ kd = 2 ∨ kd = 3 ∨ kd = 4 ∨ kd = 5 ∨ kd = 6 ∨ kd = 7 by omega) with rfl | rfl | rfl | rfl | rfl | rfl | rfl | rfl
    · exact ⟨mm_m_X4_tiringFor, _, _, rfl, rfl, by decide, Nat.le_of_ble_eq_true rfl, ev_X4_tiringFor σ 66 x1 x2⟩
    · exact ⟨mm_m_X3_tiringFor, _, _, rfl, rfl, by decide, Nat.le_of_ble_eq_true rfl, ev_X3_tiringFor σ 67 x1 x2⟩
    · exact ⟨mm_m_X0_tiringFor, _, _, rfl, rfl, by decide, Nat.le_of_ble_eq_true rfl, ev_X0_tiringFor σ 68 x1 x2 (by intros; decide)⟩
    · exact ⟨mm_m_X6_tiringFor, _, _, rfl, rfl, by decide, Nat.le_of_ble_eq_true rfl, ev_X6_tiringFor σ 69 x1 x2⟩
    · exact ⟨mm_m_X0_tiringFor, _, _, rfl, rfl, by decide, Nat.le_of_ble_eq_true rfl, ev_X0_tiringFor σ 70 x1 x2 (by intros; decide)⟩
    · exact ⟨mm_m_X5_tiringFor, _, _, rfl, rfl, by decide, Nat.le_of_ble_eq_true rfl, ev_X5_tiringFor σ 71 x1 x2 (by intros; decide)⟩
    · exact ⟨mm_m_X9_tiringFor, _, _, rfl, rfl, by decide, Nat.le_of_ble_eq_true rfl, ev_X9_tiringFor σ 72 x1 x2⟩
    · exact ⟨mm_m_X7_tiringFor, _, _, rfl, rfl, by decide, Nat.le_of_ble_eq_true rfl, ev_X7_tiringFor σ 73 x1 x2⟩
  · rcases (show kd = 0 ∨ kd = 1 ∨ kd = 2 ∨ kd = 3 ∨ kd = 4 ∨ kd = 5 ∨ kd = 6 ∨ kd = 7 by omega) with rfl | rfl | rfl | rfl | rfl | rfl | rfl | rfl
    · exact ⟨mm_m_X4_tiringFor, _, _, rfl, rfl, by decide, Nat.le_of_ble_eq_true rfl, ev_X4_tiringFor σ 75 x1 x2⟩
    · exact ⟨mm_m_X3_tiringFor, _, _, rfl, rfl, by decide, Nat.le_of_ble_eq_true rfl, ev_X3_tiringFor σ 76 x1 x2⟩
    · exact ⟨mm_m_X0_tiringFor, _, _, rfl, rfl, by decide, Nat.le_of_ble_eq_true rfl, ev_X0_tiringFor σ 77 x1 x2 (by intros; decide)⟩
    · exact ⟨mm_m_X6_tiringFor, _, _, rfl, rfl, by decide, Nat.le_of_ble_eq_true rfl, ev_X6_tiringFor σ 78 x1 x2⟩
    · exact ⟨mm_m_X0_tiringFor, _, _, rfl, rfl, by decide, Nat.le_of_ble_eq_true rfl, ev_X0_tiringFor σ 79 x1 x2 (by intros; decide)⟩
    · exact ⟨mm_m_X5_tiringFor, _, _, rfl, rfl, by decide, Nat.le_of_ble_eq_true rfl, ev_X5_tiringFor σ 80 x1 x2 (by intros; decide)⟩
    · exact ⟨mm_m_X9_tiringFor, _, _, rfl, rfl, by decide, Nat.le_of_ble_eq_true rfl, ev_X9_tiringFor σ 81 x1 x2⟩
    · exact ⟨mm_m_X7_tiringFor, _, _, rfl, rfl, by decide, Nat.le_of_ble_eq_true rfl, ev_X7_tiringFor σ 82 x1 x2⟩
def f_D2 (σ : mm_Sg) (q : Nat) (x1 x2 : Int32) : Int32 := if q = 3 then f_X4_debtFor σ q x1 x2 else (if q = 4 then f_X0_debtFor σ q x1 x2 else (if q = 5 then f_X4_debtFor σ q x1 x2 else (if q = 6 then f_X0_debtFor σ q x1 x2 else (if q = 7 then f_X4_debtFor σ q x1 x2 else (if q = 8 then f_X9_debtFor σ q x1 x2 else (if q = 9 then f_X7_debtFor σ q x1 x2 else f_X4_debtFor σ q x1 x2))))))
theorem ev_D2 (σ : mm_Sg) (q : Nat) (x1 x2 : Int32) (hq : 2 ≤ q ∧ q < 10) : mm_Dv 2 [.ref q, .int x1, .int x2] σ (some (.int (f_D2 σ q x1 x2))) σ := by
  obtain ⟨h1, h2⟩ := hq
  rcases (show q = 2 ∨ q = 3 ∨ q = 4 ∨ q = 5 ∨ q = 6 ∨ q = 7 ∨ q = 8 ∨ q = 9 by omega) with rfl | rfl | rfl | rfl | rfl | rfl | rfl | rfl
  · exact ⟨mm_m_X4_debtFor, _, _, rfl, rfl, by decide, Nat.le_of_ble_eq_true rfl, ev_X4_debtFor σ 2 x1 x2⟩
  · exact ⟨mm_m_X4_debtFor, _, _, rfl, rfl, by decide, Nat.le_of_ble_eq_true rfl, ev_X4_debtFor σ 3 x1 x2⟩
  · exact ⟨mm_m_X0_debtFor, _, _, rfl, rfl, by decide, Nat.le_of_ble_eq_true rfl, ev_X0_debtFor σ 4 x1 x2 (by intros; decide)⟩
  · exact ⟨mm_m_X4_debtFor, _, _, rfl, rfl, by decide, Nat.le_of_ble_eq_true rfl, ev_X4_debtFor σ 5 x1 x2⟩
  · exact ⟨mm_m_X0_debtFor, _, _, rfl, rfl, by decide, Nat.le_of_ble_eq_true rfl, ev_X0_debtFor σ 6 x1 x2 (by intros; decide)⟩
  · exact ⟨mm_m_X4_debtFor, _, _, rfl, rfl, by decide, Nat.le_of_ble_eq_true rfl, ev_X4_debtFor σ 7 x1 x2⟩
  · exact ⟨mm_m_X9_debtFor, _, _, rfl, rfl, by decide, Nat.le_of_ble_eq_true rfl, ev_X9_debtFor σ 8 x1 x2 (by intros; decide)⟩
  · exact ⟨mm_m_X7_debtFor, _, _, rfl, rfl, by decide, Nat.le_of_ble_eq_true rfl, ev_X7_debtFor σ 9 x1 x2⟩
theorem ev_DK2 (σ : mm_Sg) (b kd : Nat) (x1 x2 : Int32) (hb : b = 2 ∨ b = 66 ∨ b = 75) (hk : kd < 8) : mm_Dv 2 [.ref (b + kd), .int x1, .int x2] σ (some (.int (f_D2 σ (2 + kd) x1 x2))) σ := by
  rcases hb with rfl | rfl | rfl
  · exact ev_D2 σ (2 + kd) x1 x2 (by omega)
  · rcases (show kd = 0 ∨ kd = 1 ∨ kd = 2 ∨ kd = 3 ∨ kd = 4 ∨ kd = 5 ∨ kd = 6 ∨ kd = 7 by omega) with rfl | rfl | rfl | rfl | rfl | rfl | rfl | rfl
    · exact ⟨mm_m_X4_debtFor, _, _, rfl, rfl, by decide, Nat.le_of_ble_eq_true rfl, ev_X4_debtFor σ 66 x1 x2⟩
    · exact ⟨mm_m_X4_debtFor, _, _, rfl, rfl, by decide, Nat.le_of_ble_eq_true rfl, ev_X4_debtFor σ 67 x1 x2⟩
    · exact ⟨mm_m_X0_debtFor, _, _, rfl, rfl, by decide, Nat.le_of_ble_eq_true rfl, ev_X0_debtFor σ 68 x1 x2 (by intros; decide)⟩
    · exact ⟨mm_m_X4_debtFor, _, _, rfl, rfl, by decide, Nat.le_of_ble_eq_true rfl, ev_X4_debtFor σ 69 x1 x2⟩
    · exact ⟨mm_m_X0_debtFor, _, _, rfl, rfl, by decide, Nat.le_of_ble_eq_true rfl, ev_X0_debtFor σ 70 x1 x2 (by intros; decide)⟩
    · exact ⟨mm_m_X4_debtFor, _, _, rfl, rfl, by decide, Nat.le_of_ble_eq_true rfl, ev_X4_debtFor σ 71 x1 x2⟩
    · exact ⟨mm_m_X9_debtFor, _, _, rfl, rfl, by decide, Nat.le_of_ble_eq_true rfl, ev_X9_debtFor σ 72 x1 x2 (by intros; decide)⟩
    · exact ⟨mm_m_X7_debtFor, _, _, rfl, rfl, by decide, Nat.le_of_ble_eq_true rfl, ev_X7_debtFor σ 73 x1 x2⟩
  · rcases (show kd = 0 ∨ kd = 1 ∨ kd = 2 ∨ kd = 3 ∨ kd = 4 ∨ kd = 5 ∨ kd = 6 ∨ kd = 7 by omega) with rfl | rfl | rfl | rfl | rfl | rfl | rfl | rfl
    · exact ⟨mm_m_X4_debtFor, _, _, rfl, rfl, by decide, Nat.le_of_ble_eq_true rfl, ev_X4_debtFor σ 75 x1 x2⟩
    · exact ⟨mm_m_X4_debtFor, _, _, rfl, rfl, by decide, Nat.le_of_ble_eq_true rfl, ev_X4_debtFor σ 76 x1 x2⟩
    · exact ⟨mm_m_X0_debtFor, _, _, rfl, rfl, by decide, Nat.le_of_ble_eq_true rfl, ev_X0_debtFor σ 77 x1 x2 (by intros; decide)⟩
    · exact ⟨mm_m_X4_debtFor, _, _, rfl, rfl, by decide, Nat.le_of_ble_eq_true rfl, ev_X4_debtFor σ 78 x1 x2⟩
    · exact ⟨mm_m_X0_debtFor, _, _, rfl, rfl, by decide, Nat.le_of_ble_eq_true rfl, ev_X0_debtFor σ 79 x1 x2 (by intros; decide)⟩
    · exact ⟨mm_m_X4_debtFor, _, _, rfl, rfl, by decide, Nat.le_of_ble_eq_true rfl, ev_X4_debtFor σ 80 x1 x2⟩
    · exact ⟨mm_m_X9_debtFor, _, _, rfl, rfl, by decide, Nat.le_of_ble_eq_true rfl, ev_X9_debtFor σ 81 x1 x2 (by intros; decide)⟩
    · exact ⟨mm_m_X7_debtFor, _, _, rfl, rfl, by decide, Nat.le_of_ble_eq_true rfl, ev_X7_debtFor σ 82 x1 x2⟩
def f_D3 (σ : mm_Sg) (q : Nat) (x1 : Int32) : Int32 := if q = 3 then f_X3_priceOf σ q x1 else (if q = 4 then f_X0_priceOf σ q x1 else (if q = 5 then f_X6_priceOf σ q x1 else (if q = 6 then f_X2_priceOf σ q x1 else (if q = 7 then f_X3_priceOf σ q x1 else (if q = 8 then f_X9_priceOf σ q x1 else (if q = 9 then f_X7_priceOf σ q x1 else f_X4_priceOf σ q x1))))))
theorem ev_D3 (σ : mm_Sg) (q : Nat) (x1 : Int32) (hq : 2 ≤ q ∧ q < 10) : mm_Dv 3 [.ref q, .int x1] σ (some (.int (f_D3 σ q x1))) σ := by
  obtain ⟨h1, h2⟩ := hq
  rcases (show q = 2 ∨ q = 3 ∨ q = 4 ∨ q = 5 ∨ q = 6 ∨ q = 7 ∨ q = 8 ∨ q = 9 by omega) with rfl | rfl | rfl | rfl | rfl | rfl | rfl | rfl
  · exact ⟨mm_m_X4_priceOf, _, _, rfl, rfl, by decide, Nat.le_of_ble_eq_true rfl, ev_X4_priceOf σ 2 x1⟩
  · exact ⟨mm_m_X3_priceOf, _, _, rfl, rfl, by decide, Nat.le_of_ble_eq_true rfl, ev_X3_priceOf σ 3 x1 (by intros; decide)⟩
  · exact ⟨mm_m_X0_priceOf, _, _, rfl, rfl, by decide, Nat.le_of_ble_eq_true rfl, ev_X0_priceOf σ 4 x1 (by intros; decide)⟩
  · exact ⟨mm_m_X6_priceOf, _, _, rfl, rfl, by decide, Nat.le_of_ble_eq_true rfl, ev_X6_priceOf σ 5 x1⟩
  · exact ⟨mm_m_X2_priceOf, _, _, rfl, rfl, by decide, Nat.le_of_ble_eq_true rfl, ev_X2_priceOf σ 6 x1 (by intros; decide)⟩
  · exact ⟨mm_m_X3_priceOf, _, _, rfl, rfl, by decide, Nat.le_of_ble_eq_true rfl, ev_X3_priceOf σ 7 x1 (by intros; decide)⟩
  · exact ⟨mm_m_X9_priceOf, _, _, rfl, rfl, by decide, Nat.le_of_ble_eq_true rfl, ev_X9_priceOf σ 8 x1 (by intros; decide)⟩
  · exact ⟨mm_m_X7_priceOf, _, _, rfl, rfl, by decide, Nat.le_of_ble_eq_true rfl, ev_X7_priceOf σ 9 x1 (by intros; decide)⟩
def f_D4 (σ : mm_Sg) (q : Nat) (x1 : Int32) : Int32 := if q = 3 then f_X4_failureOf σ q x1 else (if q = 4 then f_X0_failureOf σ q x1 else (if q = 5 then f_X4_failureOf σ q x1 else (if q = 6 then f_X0_failureOf σ q x1 else (if q = 7 then f_X4_failureOf σ q x1 else (if q = 8 then f_X9_failureOf σ q x1 else (if q = 9 then f_X4_failureOf σ q x1 else f_X4_failureOf σ q x1))))))
theorem ev_D4 (σ : mm_Sg) (q : Nat) (x1 : Int32) (hq : 2 ≤ q ∧ q < 10) : mm_Dv 4 [.ref q, .int x1] σ (some (.int (f_D4 σ q x1))) σ := by
  obtain ⟨h1, h2⟩ := hq
  rcases (show q = 2 ∨ q = 3 ∨ q = 4 ∨ q = 5 ∨ q = 6 ∨ q = 7 ∨ q = 8 ∨ q = 9 by omega) with rfl | rfl | rfl | rfl | rfl | rfl | rfl | rfl
  · exact ⟨mm_m_X4_failureOf, _, _, rfl, rfl, by decide, Nat.le_of_ble_eq_true rfl, ev_X4_failureOf σ 2 x1⟩
  · exact ⟨mm_m_X4_failureOf, _, _, rfl, rfl, by decide, Nat.le_of_ble_eq_true rfl, ev_X4_failureOf σ 3 x1⟩
  · exact ⟨mm_m_X0_failureOf, _, _, rfl, rfl, by decide, Nat.le_of_ble_eq_true rfl, ev_X0_failureOf σ 4 x1 (by intros; decide)⟩
  · exact ⟨mm_m_X4_failureOf, _, _, rfl, rfl, by decide, Nat.le_of_ble_eq_true rfl, ev_X4_failureOf σ 5 x1⟩
  · exact ⟨mm_m_X0_failureOf, _, _, rfl, rfl, by decide, Nat.le_of_ble_eq_true rfl, ev_X0_failureOf σ 6 x1 (by intros; decide)⟩
  · exact ⟨mm_m_X4_failureOf, _, _, rfl, rfl, by decide, Nat.le_of_ble_eq_true rfl, ev_X4_failureOf σ 7 x1⟩
  · exact ⟨mm_m_X9_failureOf, _, _, rfl, rfl, by decide, Nat.le_of_ble_eq_true rfl, ev_X9_failureOf σ 8 x1 (by intros; decide) (by intros; decide)⟩
  · exact ⟨mm_m_X4_failureOf, _, _, rfl, rfl, by decide, Nat.le_of_ble_eq_true rfl, ev_X4_failureOf σ 9 x1⟩
def f_X10_isBetween (σ : mm_Sg) (x0 : Int32) (x1 : Int32) (x2 : Int32) : Int32 := (if x0 < x1 then (0 : Int32) else (if x2 < x0 then (0 : Int32) else (1 : Int32)))
theorem ev_X10_isBetween (σ : mm_Sg) (x0 : Int32) (x1 : Int32) (x2 : Int32) : mm_Ev mm_m_X10_isBetween [.int x0, .int x1, .int x2] σ (some (.int (f_X10_isBetween σ x0 x1 x2))) σ := by
  refine sg_X10_isBetween_0 σ x0 x1 x2 _ ?_
  unfold f_X10_isBetween
  refine ⟨fun b1 => ?_, fun b1 => ?_⟩
  · simp only [if_pos b1]
    all_goals first | rfl | trivial
  · simp only [if_neg b1]
    refine ⟨fun b2 => ?_, fun b2 => ?_⟩
    · simp only [if_pos b2]
      all_goals first | rfl | trivial
    · simp only [if_neg b2]
      all_goals first | rfl | trivial
theorem b01_X10_isBetween (σ : mm_Sg) (x0 : Int32) (x1 : Int32) (x2 : Int32) : f_X10_isBetween σ x0 x1 x2 = 0 ∨ f_X10_isBetween σ x0 x1 x2 = 1 := by
  unfold f_X10_isBetween
  (repeat' split) <;> first | exact Or.inl rfl | exact Or.inr rfl
def f_X10_isWaker (σ : mm_Sg) (x0 : Int32) : Int32 := (if x0 < (0 : Int32) then (0 : Int32) else (if (5 : Int32) ≤ x0 then (0 : Int32) else (1 : Int32)))
theorem ev_X10_isWaker (σ : mm_Sg) (x0 : Int32) : mm_Ev mm_m_X10_isWaker [.int x0] σ (some (.int (f_X10_isWaker σ x0))) σ := by
  refine sg_X10_isWaker_0 σ x0 _ ?_
  unfold f_X10_isWaker
  refine ⟨fun b1 => ?_, fun b1 => ?_⟩
  · simp only [if_pos b1]
    all_goals first | rfl | trivial
  · simp only [if_neg b1]
    refine ⟨fun b2 => ?_, fun b2 => ?_⟩
    · simp only [if_pos b2]
      all_goals first | rfl | trivial
    · simp only [if_neg b2]
      all_goals first | rfl | trivial
theorem b01_X10_isWaker (σ : mm_Sg) (x0 : Int32) : f_X10_isWaker σ x0 = 0 ∨ f_X10_isWaker σ x0 = 1 := by
  unfold f_X10_isWaker
  (repeat' split) <;> first | exact Or.inl rfl | exact Or.inr rfl
def f_X10_isWakerOrNobody (σ : mm_Sg) (x0 : Int32) : Int32 := (if ¬ (f_X10_isWaker σ x0) = (0 : Int32) then (1 : Int32) else (if ¬ x0 = (9 : Int32) then (0 : Int32) else (1 : Int32)))
theorem ev_X10_isWakerOrNobody (σ : mm_Sg) (x0 : Int32) : mm_Ev mm_m_X10_isWakerOrNobody [.int x0] σ (some (.int (f_X10_isWakerOrNobody σ x0))) σ := by
  refine sg_X10_isWakerOrNobody_0 σ x0 _ ?_
  unfold f_X10_isWakerOrNobody
  refine ⟨_, _, ev_X10_isWaker σ x0, ?_⟩
  refine ⟨fun b1 => ?_, fun b1 => ?_⟩
  · simp only [if_pos b1]
    all_goals first | rfl | trivial
  · simp only [if_neg b1]
    refine ⟨fun b2 => ?_, fun b2 => ?_⟩
    · simp only [if_pos b2]
      all_goals first | rfl | trivial
    · simp only [if_neg b2]
      all_goals first | rfl | trivial
theorem b01_X10_isWakerOrNobody (σ : mm_Sg) (x0 : Int32) : f_X10_isWakerOrNobody σ x0 = 0 ∨ f_X10_isWakerOrNobody σ x0 = 1 := by
  unfold f_X10_isWakerOrNobody
  (repeat' split) <;> first | exact Or.inl rfl | exact Or.inr rfl | exact b01_X10_isWaker _ _
def f_X10_isShelf (σ : mm_Sg) (x0 : Int32) : Int32 := (if x0 < (0 : Int32) then (0 : Int32) else (if (8 : Int32) ≤ x0 then (0 : Int32) else (1 : Int32)))
theorem ev_X10_isShelf (σ : mm_Sg) (x0 : Int32) : mm_Ev mm_m_X10_isShelf [.int x0] σ (some (.int (f_X10_isShelf σ x0))) σ := by
  refine sg_X10_isShelf_0 σ x0 _ ?_
  unfold f_X10_isShelf
  refine ⟨fun b1 => ?_, fun b1 => ?_⟩
  · simp only [if_pos b1]
    all_goals first | rfl | trivial
  · simp only [if_neg b1]
    refine ⟨fun b2 => ?_, fun b2 => ?_⟩
    · simp only [if_pos b2]
      all_goals first | rfl | trivial
    · simp only [if_neg b2]
      all_goals first | rfl | trivial
theorem b01_X10_isShelf (σ : mm_Sg) (x0 : Int32) : f_X10_isShelf σ x0 = 0 ∨ f_X10_isShelf σ x0 = 1 := by
  unfold f_X10_isShelf
  (repeat' split) <;> first | exact Or.inl rfl | exact Or.inr rfl
def f_X10_refusedLong (σ : mm_Sg) (x0 : Int32) : Int64 := ((1000000000 : Int64) - (x0.toInt64))
theorem ev_X10_refusedLong (σ : mm_Sg) (x0 : Int32) : mm_Ev mm_m_X10_refusedLong [.int x0] σ (some (.long (f_X10_refusedLong σ x0))) σ := by
  refine sg_X10_refusedLong_0 σ x0 _ ?_
  unfold f_X10_refusedLong
  all_goals first | rfl | trivial
def f_X10_digitsBehind (σ : mm_Sg) (x0 : Int32) : Int32 := (if x0 = nI 98 then (3 : Int32) else (if x0 = nI 99 then (0 : Int32) else (if x0 = nI 100 then (2 : Int32) else (if x0 = nI 101 then (0 : Int32) else (if x0 = nI 102 then (0 : Int32) else (if x0 = nI 103 then (0 : Int32) else (if x0 = nI 104 then (0 : Int32) else (if x0 = nI 105 then (0 : Int32) else (if x0 = nI 106 then (0 : Int32) else (if x0 = nI 107 then (3 : Int32) else (if x0 = nI 108 then (0 : Int32) else (if x0 = nI 109 then (0 : Int32) else (if x0 = nI 110 then (0 : Int32) else (if x0 = nI 111 then (3 : Int32) else (if x0 = nI 112 then (0 : Int32) else (if x0 = nI 113 then (0 : Int32) else (if x0 = nI 114 then (0 : Int32) else (if x0 = nI 115 then (0 : Int32) else (if x0 = nI 116 then (3 : Int32) else (if x0 = nI 117 then (0 : Int32) else (if x0 = nI 118 then (0 : Int32) else (if x0 = nI 119 then (2 : Int32) else (if x0 = nI 120 then (0 : Int32) else (if x0 = nI 121 then (0 : Int32) else (if x0 = nI 122 then (1 : Int32) else (0 : Int32))))))))))))))))))))))))))
theorem ev_X10_digitsBehind (σ : mm_Sg) (x0 : Int32) : mm_Ev mm_m_X10_digitsBehind [.int x0] σ (some (.int (f_X10_digitsBehind σ x0))) σ := by
  refine sg_X10_digitsBehind_0 σ x0 _ ?_
  unfold f_X10_digitsBehind
  refine ⟨fun b1 => ?_, fun b1 => ?_⟩
  · simp only [if_pos b1]
    all_goals first | rfl | trivial
  simp only [if_neg b1]
  refine ⟨fun b2 => ?_, fun b2 => ?_⟩
  · simp only [if_pos b2]
    all_goals first | rfl | trivial
  simp only [if_neg b2]
  refine ⟨fun b3 => ?_, fun b3 => ?_⟩
  · simp only [if_pos b3]
    all_goals first | rfl | trivial
  simp only [if_neg b3]
  refine ⟨fun b4 => ?_, fun b4 => ?_⟩
  · simp only [if_pos b4]
    all_goals first | rfl | trivial
  simp only [if_neg b4]
  refine ⟨fun b5 => ?_, fun b5 => ?_⟩
  · simp only [if_pos b5]
    all_goals first | rfl | trivial
  simp only [if_neg b5]
  refine ⟨fun b6 => ?_, fun b6 => ?_⟩
  · simp only [if_pos b6]
    all_goals first | rfl | trivial
  simp only [if_neg b6]
  refine ⟨fun b7 => ?_, fun b7 => ?_⟩
  · simp only [if_pos b7]
    all_goals first | rfl | trivial
  simp only [if_neg b7]
  refine ⟨fun b8 => ?_, fun b8 => ?_⟩
  · simp only [if_pos b8]
    all_goals first | rfl | trivial
  simp only [if_neg b8]
  refine ⟨fun b9 => ?_, fun b9 => ?_⟩
  · simp only [if_pos b9]
    all_goals first | rfl | trivial
  simp only [if_neg b9]
  refine ⟨fun b10 => ?_, fun b10 => ?_⟩
  · simp only [if_pos b10]
    all_goals first | rfl | trivial
  simp only [if_neg b10]
  refine ⟨fun b11 => ?_, fun b11 => ?_⟩
  · simp only [if_pos b11]
    all_goals first | rfl | trivial
  simp only [if_neg b11]
  refine ⟨fun b12 => ?_, fun b12 => ?_⟩
  · simp only [if_pos b12]
    all_goals first | rfl | trivial
  simp only [if_neg b12]
  refine ⟨fun b13 => ?_, fun b13 => ?_⟩
  · simp only [if_pos b13]
    all_goals first | rfl | trivial
  simp only [if_neg b13]
  refine ⟨fun b14 => ?_, fun b14 => ?_⟩
  · simp only [if_pos b14]
    all_goals first | rfl | trivial
  simp only [if_neg b14]
  refine ⟨fun b15 => ?_, fun b15 => ?_⟩
  · simp only [if_pos b15]
    all_goals first | rfl | trivial
  simp only [if_neg b15]
  refine ⟨fun b16 => ?_, fun b16 => ?_⟩
  · simp only [if_pos b16]
    all_goals first | rfl | trivial
  simp only [if_neg b16]
  refine ⟨fun b17 => ?_, fun b17 => ?_⟩
  · simp only [if_pos b17]
    all_goals first | rfl | trivial
  simp only [if_neg b17]
  refine ⟨fun b18 => ?_, fun b18 => ?_⟩
  · simp only [if_pos b18]
    all_goals first | rfl | trivial
  simp only [if_neg b18]
  refine ⟨fun b19 => ?_, fun b19 => ?_⟩
  · simp only [if_pos b19]
    all_goals first | rfl | trivial
  simp only [if_neg b19]
  refine ⟨fun b20 => ?_, fun b20 => ?_⟩
  · simp only [if_pos b20]
    all_goals first | rfl | trivial
  simp only [if_neg b20]
  refine ⟨fun b21 => ?_, fun b21 => ?_⟩
  · simp only [if_pos b21]
    all_goals first | rfl | trivial
  simp only [if_neg b21]
  refine ⟨fun b22 => ?_, fun b22 => ?_⟩
  · simp only [if_pos b22]
    all_goals first | rfl | trivial
  simp only [if_neg b22]
  refine ⟨fun b23 => ?_, fun b23 => ?_⟩
  · simp only [if_pos b23]
    all_goals first | rfl | trivial
  simp only [if_neg b23]
  refine ⟨fun b24 => ?_, fun b24 => ?_⟩
  · simp only [if_pos b24]
    all_goals first | rfl | trivial
  simp only [if_neg b24]
  refine ⟨fun b25 => ?_, fun b25 => ?_⟩
  · simp only [if_pos b25]
    all_goals first | rfl | trivial
  simp only [if_neg b25]
  all_goals first | rfl | trivial
def f_X10_isLetter (σ : mm_Sg) (x0 : Int32) : Int32 := (if (f_X10_digitsBehind σ x0) ≤ (0 : Int32) then (0 : Int32) else (1 : Int32))
theorem ev_X10_isLetter (σ : mm_Sg) (x0 : Int32) : mm_Ev mm_m_X10_isLetter [.int x0] σ (some (.int (f_X10_isLetter σ x0))) σ := by
  refine sg_X10_isLetter_0 σ x0 _ ?_
  unfold f_X10_isLetter
  refine ⟨_, _, ev_X10_digitsBehind σ x0, ?_⟩
  refine ⟨fun b1 => ?_, fun b1 => ?_⟩
  · simp only [if_pos b1]
    all_goals first | rfl | trivial
  · simp only [if_neg b1]
    all_goals first | rfl | trivial
theorem b01_X10_isLetter (σ : mm_Sg) (x0 : Int32) : f_X10_isLetter σ x0 = 0 ∨ f_X10_isLetter σ x0 = 1 := by
  unfold f_X10_isLetter
  (repeat' split) <;> first | exact Or.inl rfl | exact Or.inr rfl
def f_X10_matchCell (σ : mm_Sg) (x0 : Int32) (x1 : Int32) : Int32 := (if (f_X10_isBetween σ x0 (0 : Int32) (7 : Int32)) = (0 : Int32) then (0 : Int32) else (if (f_X10_isBetween σ x1 (0 : Int32) (31 : Int32)) = (0 : Int32) then (0 : Int32) else ((x0 * (32 : Int32)) + x1)))
theorem ev_X10_matchCell (σ : mm_Sg) (x0 : Int32) (x1 : Int32) : mm_Ev mm_m_X10_matchCell [.int x0, .int x1] σ (some (.int (f_X10_matchCell σ x0 x1))) σ := by
  refine sg_X10_matchCell_0 σ x0 x1 _ ?_
  unfold f_X10_matchCell
  refine ⟨_, _, ev_X10_isBetween σ x0 (0 : Int32) (7 : Int32), ?_⟩
  refine ⟨fun b1 => ?_, fun b1 => ?_⟩
  · simp only [if_pos b1]
    all_goals first | rfl | trivial
  · simp only [if_neg b1]
    refine ⟨_, _, ev_X10_isBetween σ x1 (0 : Int32) (31 : Int32), ?_⟩
    refine ⟨fun b2 => ?_, fun b2 => ?_⟩
    · simp only [if_pos b2]
      all_goals first | rfl | trivial
    · simp only [if_neg b2]
      all_goals first | rfl | trivial
def f_X10_nextSeed (σ : mm_Sg) (x0 : Int32) : Int32 := ((x0 * (1103515245 : Int32)) + (12345 : Int32))
theorem ev_X10_nextSeed (σ : mm_Sg) (x0 : Int32) : mm_Ev mm_m_X10_nextSeed [.int x0] σ (some (.int (f_X10_nextSeed σ x0))) σ := by
  refine sg_X10_nextSeed_0 σ x0 _ ?_
  unfold f_X10_nextSeed
  all_goals first | rfl | trivial
def f_X10_drawOf (σ : mm_Sg) (x0 : Int32) (x1 : Int32) : Int32 := (if x1 ≤ (0 : Int32) then (0 : Int32) else (((x0 &&& (2147483647 : Int32)) / (65536 : Int32)) - ((x0 &&& (2147483647 : Int32)) / (65536 : Int32)) / x1 * x1))
theorem ev_X10_drawOf (σ : mm_Sg) (x0 : Int32) (x1 : Int32) (hs1 : (¬ (x1 ≤ (0 : Int32))) → (¬ x1 = 0)) : mm_Ev mm_m_X10_drawOf [.int x0, .int x1] σ (some (.int (f_X10_drawOf σ x0 x1))) σ := by
  refine sg_X10_drawOf_0 σ x0 x1 _ ?_
  unfold f_X10_drawOf
  refine ⟨fun b1 => ?_, fun b1 => ?_⟩
  · simp only [if_pos b1]
    all_goals first | rfl | trivial
  · simp only [if_neg b1]
    refine ⟨(hs1 b1), ?_⟩
    all_goals first | rfl | trivial
def f_X10_refusalUnless (σ : mm_Sg) (_q : Nat) (x1 : Int32) (x2 : Int32) : Int32 := (if ¬ (f_X10_isShelf σ x2) = (0 : Int32) then (if ¬ (σ (32 + 2 * x2.toNatClampNeg) 0) = (0 : Int32) then (if ¬ (σ (32 + 2 * x2.toNatClampNeg) 0) = x1 then (-12 : Int32) else (0 : Int32)) else (-11 : Int32)) else (-1 : Int32))
theorem ev_X10_refusalUnless (σ : mm_Sg) (x1 : Int32) (x2 : Int32) (hs1 : (¬ (f_X10_isShelf σ x2) = (0 : Int32)) → (vp_in x2 8)) (hs2 : (¬ (f_X10_isShelf σ x2) = (0 : Int32)) → (mm_cl (32 + 2 * x2.toNatClampNeg) = 8)) : mm_Ev mm_m_X10_refusalUnless [.ref 0, .int x1, .int x2] σ (some (.int (f_X10_refusalUnless σ 0 x1 x2))) σ := by
  refine sg_X10_refusalUnless_0 σ x1 x2 _ ?_
  unfold f_X10_refusalUnless
  refine ⟨_, _, ev_X10_isShelf σ x2, ?_⟩
  refine ⟨fun b1 => ?_, fun b1 => ?_⟩
  · simp only [if_pos b1]
    refine ⟨(hs1 b1), ?_⟩
    refine ⟨(hs2 b1), ?_⟩
    refine ⟨fun b2 => ?_, fun b2 => ?_⟩
    · simp only [if_pos b2]
      refine ⟨fun b3 => ?_, fun b3 => ?_⟩
      · simp only [if_pos b3]
        all_goals first | rfl | trivial
      · simp only [if_neg b3]
        all_goals first | rfl | trivial
    · simp only [if_neg b2]
      all_goals first | rfl | trivial
  · simp only [if_neg b1]
    all_goals first | rfl | trivial
def f_X1_kindNumbered (σ : mm_Sg) (q0 : Nat) (x1 : Int32) : Nat := (if (f_X10_isBetween σ x1 (0 : Int32) (7 : Int32)) = (0 : Int32) then (mm_el (mm_kr q0) 0) else (mm_el (mm_kr q0) (x1.toNatClampNeg)))
theorem ev_X1_kindNumbered (σ : mm_Sg) (q0 : Nat) (x1 : Int32) (hs1 : (mm_cl q0 = 1)) (hs2 : ((f_X10_isBetween σ x1 (0 : Int32) (7 : Int32)) = (0 : Int32)) → ((mm_kr q0) = 1 ∨ (mm_kr q0) = 31 ∨ (mm_kr q0) = 65 ∨ (mm_kr q0) = 74)) (hs3 : (¬ ((f_X10_isBetween σ x1 (0 : Int32) (7 : Int32)) = (0 : Int32))) → (vp_in x1 8)) (hs4 : (¬ ((f_X10_isBetween σ x1 (0 : Int32) (7 : Int32)) = (0 : Int32))) → ((mm_kr q0) = 1 ∨ (mm_kr q0) = 31 ∨ (mm_kr q0) = 65 ∨ (mm_kr q0) = 74)) : mm_Ev mm_m_X1_kindNumbered [.ref q0, .int x1] σ (some (.ref (f_X1_kindNumbered σ q0 x1))) σ := by
  refine sg_X1_kindNumbered_0 σ q0 x1 _ ?_
  unfold f_X1_kindNumbered
  refine ⟨hs1, ?_⟩
  refine ⟨_, _, ev_X10_isBetween σ x1 (0 : Int32) (7 : Int32), ?_⟩
  refine ⟨fun b1 => ?_, fun b1 => ?_⟩
  · simp only [if_pos b1]
    refine ⟨(hs2 b1), ?_⟩
    all_goals first | rfl | trivial
  · simp only [if_neg b1]
    refine ⟨(hs3 b1), ?_⟩
    refine ⟨(hs4 b1), ?_⟩
    all_goals first | rfl | trivial
def f_X1_has (σ : mm_Sg) (q0 : Nat) (x1 : Int32) : Int32 := (if x1 < (0 : Int32) then (0 : Int32) else (if (σ q0 6) ≤ x1 then (0 : Int32) else (if (7 : Int32) ≤ x1 then (0 : Int32) else (1 : Int32))))
theorem ev_X1_has (σ : mm_Sg) (q0 : Nat) (x1 : Int32) (hs1 : (¬ (x1 < (0 : Int32))) → (mm_cl q0 = 1)) : mm_Ev mm_m_X1_has [.ref q0, .int x1] σ (some (.int (f_X1_has σ q0 x1))) σ := by
  refine sg_X1_has_0 σ q0 x1 _ ?_
  unfold f_X1_has
  refine ⟨fun b1 => ?_, fun b1 => ?_⟩
  · simp only [if_pos b1]
    all_goals first | rfl | trivial
  · simp only [if_neg b1]
    refine ⟨(hs1 b1), ?_⟩
    refine ⟨fun b2 => ?_, fun b2 => ?_⟩
    · simp only [if_pos b2]
      all_goals first | rfl | trivial
    · simp only [if_neg b2]
      refine ⟨fun b3 => ?_, fun b3 => ?_⟩
      · simp only [if_pos b3]
        all_goals first | rfl | trivial
      · simp only [if_neg b3]
        all_goals first | rfl | trivial
theorem b01_X1_has (σ : mm_Sg) (q0 : Nat) (x1 : Int32) : f_X1_has σ q0 x1 = 0 ∨ f_X1_has σ q0 x1 = 1 := by
  unfold f_X1_has
  (repeat' split) <;> first | exact Or.inl rfl | exact Or.inr rfl
def f_X1_isAwake (σ : mm_Sg) (q0 : Nat) (x1 : Int32) : Int32 := (if (f_X10_isWaker σ x1) = (0 : Int32) then (0 : Int32) else (if ¬ (((σ q0 7) >>> (x1 &&& 31)) &&& (1 : Int32)) = (0 : Int32) then (0 : Int32) else (1 : Int32)))
theorem ev_X1_isAwake (σ : mm_Sg) (q0 : Nat) (x1 : Int32) (hs1 : (¬ ((f_X10_isWaker σ x1) = (0 : Int32))) → (mm_cl q0 = 1)) : mm_Ev mm_m_X1_isAwake [.ref q0, .int x1] σ (some (.int (f_X1_isAwake σ q0 x1))) σ := by
  refine sg_X1_isAwake_0 σ q0 x1 _ ?_
  unfold f_X1_isAwake
  refine ⟨_, _, ev_X10_isWaker σ x1, ?_⟩
  refine ⟨fun b1 => ?_, fun b1 => ?_⟩
  · simp only [if_pos b1]
    all_goals first | rfl | trivial
  · simp only [if_neg b1]
    refine ⟨(hs1 b1), ?_⟩
    refine ⟨fun b2 => ?_, fun b2 => ?_⟩
    · simp only [if_pos b2]
      all_goals first | rfl | trivial
    · simp only [if_neg b2]
      all_goals first | rfl | trivial
theorem b01_X1_isAwake (σ : mm_Sg) (q0 : Nat) (x1 : Int32) : f_X1_isAwake σ q0 x1 = 0 ∨ f_X1_isAwake σ q0 x1 = 1 := by
  unfold f_X1_isAwake
  (repeat' split) <;> first | exact Or.inl rfl | exact Or.inr rfl | exact b01_X10_isWaker _ _
def f_X8_hasPlace (σ : mm_Sg) (q0 : Nat) (x1 : Int32) : Int32 := (if x1 < (0 : Int32) then (0 : Int32) else (if (σ q0 4) ≤ x1 then (0 : Int32) else (if (100 : Int32) ≤ x1 then (0 : Int32) else (1 : Int32))))
theorem ev_X8_hasPlace (σ : mm_Sg) (q0 : Nat) (x1 : Int32) (hs1 : (¬ (x1 < (0 : Int32))) → (mm_cl q0 = 8)) : mm_Ev mm_m_X8_hasPlace [.ref q0, .int x1] σ (some (.int (f_X8_hasPlace σ q0 x1))) σ := by
  refine sg_X8_hasPlace_0 σ q0 x1 _ ?_
  unfold f_X8_hasPlace
  refine ⟨fun b1 => ?_, fun b1 => ?_⟩
  · simp only [if_pos b1]
    all_goals first | rfl | trivial
  · simp only [if_neg b1]
    refine ⟨(hs1 b1), ?_⟩
    refine ⟨fun b2 => ?_, fun b2 => ?_⟩
    · simp only [if_pos b2]
      all_goals first | rfl | trivial
    · simp only [if_neg b2]
      refine ⟨fun b3 => ?_, fun b3 => ?_⟩
      · simp only [if_pos b3]
        all_goals first | rfl | trivial
      · simp only [if_neg b3]
        all_goals first | rfl | trivial
theorem b01_X8_hasPlace (σ : mm_Sg) (q0 : Nat) (x1 : Int32) : f_X8_hasPlace σ q0 x1 = 0 ∨ f_X8_hasPlace σ q0 x1 = 1 := by
  unfold f_X8_hasPlace
  (repeat' split) <;> first | exact Or.inl rfl | exact Or.inr rfl
def f_X8_hasPlaces (σ : mm_Sg) (q0 : Nat) (x1 : Int32) (x2 : Int32) : Int32 := (if x2 < (0 : Int32) then (0 : Int32) else (if x1 < (0 : Int32) then (0 : Int32) else (if (σ q0 4) < x2 then (0 : Int32) else (if ((σ q0 4) - x2) < x1 then (0 : Int32) else (1 : Int32)))))
theorem ev_X8_hasPlaces (σ : mm_Sg) (q0 : Nat) (x1 : Int32) (x2 : Int32) (hs1 : (¬ (x2 < (0 : Int32))) → (¬ (x1 < (0 : Int32))) → (mm_cl q0 = 8)) : mm_Ev mm_m_X8_hasPlaces [.ref q0, .int x1, .int x2] σ (some (.int (f_X8_hasPlaces σ q0 x1 x2))) σ := by
  refine sg_X8_hasPlaces_0 σ q0 x1 x2 _ ?_
  unfold f_X8_hasPlaces
  refine ⟨fun b1 => ?_, fun b1 => ?_⟩
  · simp only [if_pos b1]
    all_goals first | rfl | trivial
  · simp only [if_neg b1]
    refine ⟨fun b2 => ?_, fun b2 => ?_⟩
    · simp only [if_pos b2]
      all_goals first | rfl | trivial
    · simp only [if_neg b2]
      refine ⟨(hs1 b1 b2), ?_⟩
      refine ⟨fun b3 => ?_, fun b3 => ?_⟩
      · simp only [if_pos b3]
        all_goals first | rfl | trivial
      · simp only [if_neg b3]
        refine ⟨fun b4 => ?_, fun b4 => ?_⟩
        · simp only [if_pos b4]
          all_goals first | rfl | trivial
        · simp only [if_neg b4]
          all_goals first | rfl | trivial
theorem b01_X8_hasPlaces (σ : mm_Sg) (q0 : Nat) (x1 : Int32) (x2 : Int32) : f_X8_hasPlaces σ q0 x1 x2 = 0 ∨ f_X8_hasPlaces σ q0 x1 x2 = 1 := by
  unfold f_X8_hasPlaces
  (repeat' split) <;> first | exact Or.inl rfl | exact Or.inr rfl
def f_X8_at (σ : mm_Sg) (q0 : Nat) (x1 : Int32) : Int32 := (if (f_X8_hasPlace σ q0 x1) = (0 : Int32) then (0 : Int32) else (σ (q0 + 1) x1.toNatClampNeg))
theorem ev_X8_at (σ : mm_Sg) (q0 : Nat) (x1 : Int32) (hs1 : (mm_cl q0 = 8)) (hs2 : (¬ ((f_X8_hasPlace σ q0 x1) = (0 : Int32))) → (vp_in x1 (mm_len (q0 + 1)))) : mm_Ev mm_m_X8_at [.ref q0, .int x1] σ (some (.int (f_X8_at σ q0 x1))) σ := by
  refine sg_X8_at_0 σ q0 x1 _ ?_
  unfold f_X8_at
  refine ⟨hs1, ?_⟩
  refine ⟨_, _, ev_X8_hasPlace σ q0 x1 (fun _ => hs1), ?_⟩
  refine ⟨fun b1 => ?_, fun b1 => ?_⟩
  · simp only [if_pos b1]
    all_goals first | rfl | trivial
  · simp only [if_neg b1]
    refine ⟨(hs2 b1), ?_⟩
    all_goals first | rfl | trivial
def f_X8_leastOfSort (σ : mm_Sg) (q0 : Nat) : Int32 := (if ¬ (σ q0 3) = (0 : Int32) then (if ¬ (σ q0 3) = (1 : Int32) then (-2147483648 : Int32) else (-32768 : Int32)) else (-128 : Int32))
theorem ev_X8_leastOfSort (σ : mm_Sg) (q0 : Nat) (hs1 : (mm_cl q0 = 8)) : mm_Ev mm_m_X8_leastOfSort [.ref q0] σ (some (.int (f_X8_leastOfSort σ q0))) σ := by
  refine sg_X8_leastOfSort_0 σ q0 _ ?_
  unfold f_X8_leastOfSort
  refine ⟨hs1, ?_⟩
  refine ⟨fun b1 => ?_, fun b1 => ?_⟩
  · simp only [if_pos b1]
    refine ⟨fun b2 => ?_, fun b2 => ?_⟩
    · simp only [if_pos b2]
      all_goals first | rfl | trivial
    · simp only [if_neg b2]
      all_goals first | rfl | trivial
  · simp only [if_neg b1]
    all_goals first | rfl | trivial
def f_X8_allows (σ : mm_Sg) (q0 : Nat) (x1 : Int32) (x2 : Int32) : Int32 := (if (f_X8_at σ q0 x1) = x2 then (1 : Int32) else (if ¬ (f_X8_at σ q0 x1) = (f_X8_leastOfSort σ q0) then (0 : Int32) else (1 : Int32)))
theorem ev_X8_allows (σ : mm_Sg) (q0 : Nat) (x1 : Int32) (x2 : Int32) (hs1 : (mm_cl q0 = 8)) (hs2 : (¬ ((f_X8_hasPlace σ q0 x1) = (0 : Int32))) → (vp_in x1 (mm_len (q0 + 1)))) (hs3 : (¬ ((f_X8_at σ q0 x1) = x2)) → (¬ ((f_X8_hasPlace σ q0 x1) = (0 : Int32))) → (vp_in x1 (mm_len (q0 + 1)))) : mm_Ev mm_m_X8_allows [.ref q0, .int x1, .int x2] σ (some (.int (f_X8_allows σ q0 x1 x2))) σ := by
  refine sg_X8_allows_0 σ q0 x1 x2 _ ?_
  unfold f_X8_allows
  refine ⟨hs1, ?_⟩
  refine ⟨_, _, ev_X8_at σ q0 x1 hs1 hs2, ?_⟩
  refine ⟨fun b1 => ?_, fun b1 => ?_⟩
  · simp only [if_pos b1]
    all_goals first | rfl | trivial
  · simp only [if_neg b1]
    refine ⟨_, _, ev_X8_at σ q0 x1 hs1 (hs3 b1), ?_⟩
    refine ⟨_, _, ev_X8_leastOfSort σ q0 hs1, ?_⟩
    refine ⟨fun b2 => ?_, fun b2 => ?_⟩
    · simp only [if_pos b2]
      all_goals first | rfl | trivial
    · simp only [if_neg b2]
      all_goals first | rfl | trivial
theorem b01_X8_allows (σ : mm_Sg) (q0 : Nat) (x1 : Int32) (x2 : Int32) : f_X8_allows σ q0 x1 x2 = 0 ∨ f_X8_allows σ q0 x1 x2 = 1 := by
  unfold f_X8_allows
  (repeat' split) <;> first | exact Or.inl rfl | exact Or.inr rfl
def f_X11_isIn (σ : mm_Sg) (x0 : Int32) (x1 : Int32) (x2 : Int32) : Int32 := (if x0 < x1 then (0 : Int32) else (if x2 < x0 then (0 : Int32) else (1 : Int32)))
theorem ev_X11_isIn (σ : mm_Sg) (x0 : Int32) (x1 : Int32) (x2 : Int32) : mm_Ev mm_m_X11_isIn [.int x0, .int x1, .int x2] σ (some (.int (f_X11_isIn σ x0 x1 x2))) σ := by
  refine sg_X11_isIn_0 σ x0 x1 x2 _ ?_
  unfold f_X11_isIn
  refine ⟨fun b1 => ?_, fun b1 => ?_⟩
  · simp only [if_pos b1]
    all_goals first | rfl | trivial
  · simp only [if_neg b1]
    refine ⟨fun b2 => ?_, fun b2 => ?_⟩
    · simp only [if_pos b2]
      all_goals first | rfl | trivial
    · simp only [if_neg b2]
      all_goals first | rfl | trivial
theorem b01_X11_isIn (σ : mm_Sg) (x0 : Int32) (x1 : Int32) (x2 : Int32) : f_X11_isIn σ x0 x1 x2 = 0 ∨ f_X11_isIn σ x0 x1 x2 = 1 := by
  unfold f_X11_isIn
  (repeat' split) <;> first | exact Or.inl rfl | exact Or.inr rfl
def f_X11_least (σ : mm_Sg) (x0 : Int32) (x1 : Int32) : Int32 := (if x1 ≤ x0 then x1 else x0)
theorem ev_X11_least (σ : mm_Sg) (x0 : Int32) (x1 : Int32) : mm_Ev mm_m_X11_least [.int x0, .int x1] σ (some (.int (f_X11_least σ x0 x1))) σ := by
  refine sg_X11_least_0 σ x0 x1 _ ?_
  unfold f_X11_least
  refine ⟨fun b1 => ?_, fun b1 => ?_⟩
  · simp only [if_pos b1]
    all_goals first | rfl | trivial
  · simp only [if_neg b1]
    all_goals first | rfl | trivial
def f_X11_lessBy (σ : mm_Sg) (x0 : Int32) (x1 : Int32) : Int32 := (if x1 ≤ x0 then (x0 - x1) else (0 : Int32))
theorem ev_X11_lessBy (σ : mm_Sg) (x0 : Int32) (x1 : Int32) : mm_Ev mm_m_X11_lessBy [.int x0, .int x1] σ (some (.int (f_X11_lessBy σ x0 x1))) σ := by
  refine sg_X11_lessBy_0 σ x0 x1 _ ?_
  unfold f_X11_lessBy
  refine ⟨fun b1 => ?_, fun b1 => ?_⟩
  · simp only [if_pos b1]
    all_goals first | rfl | trivial
  · simp only [if_neg b1]
    all_goals first | rfl | trivial
def f_X11_of (σ : mm_Sg) (x0 : Int32) (x1 : Int32) : Int32 := (((7 : Int32) + ((4 : Int32) * x0)) + x1)
theorem ev_X11_of (σ : mm_Sg) (x0 : Int32) (x1 : Int32) : mm_Ev mm_m_X11_of [.int x0, .int x1] σ (some (.int (f_X11_of σ x0 x1))) σ := by
  refine sg_X11_of_0 σ x0 x1 _ ?_
  unfold f_X11_of
  all_goals first | rfl | trivial
def f_X11_isDrinker (σ : mm_Sg) (_q : Nat) (x1 : Int32) : Int32 := (f_X11_isIn σ x1 (0 : Int32) ((σ 52 0) - (1 : Int32)))
theorem ev_X11_isDrinker (σ : mm_Sg) (x1 : Int32) : mm_Ev mm_m_X11_isDrinker [.ref 51, .int x1] σ (some (.int (f_X11_isDrinker σ 51 x1))) σ := by
  refine sg_X11_isDrinker_0 σ x1 _ ?_
  unfold f_X11_isDrinker
  refine ⟨_, _, ev_X11_isIn σ x1 (0 : Int32) ((σ 52 0) - (1 : Int32)), ?_⟩
  refine ⟨(b01_X11_isIn σ x1 (0 : Int32) ((σ 52 0) - (1 : Int32))), ?_⟩
  all_goals first | rfl | trivial
theorem b01_X11_isDrinker (σ : mm_Sg) (x1 : Int32) : f_X11_isDrinker σ 51 x1 = 0 ∨ f_X11_isDrinker σ 51 x1 = 1 := by
  unfold f_X11_isDrinker
  (repeat' split) <;> first | exact Or.inl rfl | exact Or.inr rfl | exact b01_X11_isIn _ _ _ _
def f_X11_isWaker (σ : mm_Sg) (x0 : Int32) : Int32 := (f_X11_isIn σ x0 (0 : Int32) (4 : Int32))
theorem ev_X11_isWaker (σ : mm_Sg) (x0 : Int32) : mm_Ev mm_m_X11_isWaker [.int x0] σ (some (.int (f_X11_isWaker σ x0))) σ := by
  refine sg_X11_isWaker_0 σ x0 _ ?_
  unfold f_X11_isWaker
  refine ⟨_, _, ev_X11_isIn σ x0 (0 : Int32) (4 : Int32), ?_⟩
  refine ⟨(b01_X11_isIn σ x0 (0 : Int32) (4 : Int32)), ?_⟩
  all_goals first | rfl | trivial
theorem b01_X11_isWaker (σ : mm_Sg) (x0 : Int32) : f_X11_isWaker σ x0 = 0 ∨ f_X11_isWaker σ x0 = 1 := by
  unfold f_X11_isWaker
  (repeat' split) <;> first | exact Or.inl rfl | exact Or.inr rfl | exact b01_X11_isIn _ _ _ _
def f_X11_isWakerOrNone (σ : mm_Sg) (x0 : Int32) : Int32 := (if ¬ (f_X11_isWaker σ x0) = (0 : Int32) then (1 : Int32) else (if ¬ x0 = (9 : Int32) then (0 : Int32) else (1 : Int32)))
theorem ev_X11_isWakerOrNone (σ : mm_Sg) (x0 : Int32) : mm_Ev mm_m_X11_isWakerOrNone [.int x0] σ (some (.int (f_X11_isWakerOrNone σ x0))) σ := by
  refine sg_X11_isWakerOrNone_0 σ x0 _ ?_
  unfold f_X11_isWakerOrNone
  refine ⟨_, _, ev_X11_isWaker σ x0, ?_⟩
  refine ⟨fun b1 => ?_, fun b1 => ?_⟩
  · simp only [if_pos b1]
    all_goals first | rfl | trivial
  · simp only [if_neg b1]
    refine ⟨fun b2 => ?_, fun b2 => ?_⟩
    · simp only [if_pos b2]
      all_goals first | rfl | trivial
    · simp only [if_neg b2]
      all_goals first | rfl | trivial
theorem b01_X11_isWakerOrNone (σ : mm_Sg) (x0 : Int32) : f_X11_isWakerOrNone σ x0 = 0 ∨ f_X11_isWakerOrNone σ x0 = 1 := by
  unfold f_X11_isWakerOrNone
  (repeat' split) <;> first | exact Or.inl rfl | exact Or.inr rfl | exact b01_X11_isWaker _ _
def f_X11_has (σ : mm_Sg) (x0 : Int32) (x1 : Int32) : Int32 := (if ¬ ((x0 >>> (x1 &&& 31)) &&& (1 : Int32)) = (1 : Int32) then (0 : Int32) else (1 : Int32))
theorem ev_X11_has (σ : mm_Sg) (x0 : Int32) (x1 : Int32) : mm_Ev mm_m_X11_has [.int x0, .int x1] σ (some (.int (f_X11_has σ x0 x1))) σ := by
  refine sg_X11_has_0 σ x0 x1 _ ?_
  unfold f_X11_has
  refine ⟨fun b1 => ?_, fun b1 => ?_⟩
  · simp only [if_pos b1]
    all_goals first | rfl | trivial
  · simp only [if_neg b1]
    all_goals first | rfl | trivial
theorem b01_X11_has (σ : mm_Sg) (x0 : Int32) (x1 : Int32) : f_X11_has σ x0 x1 = 0 ∨ f_X11_has σ x0 x1 = 1 := by
  unfold f_X11_has
  (repeat' split) <;> first | exact Or.inl rfl | exact Or.inr rfl
def f_X11_drinksBy (σ : mm_Sg) (x0 : Int32) (x1 : Int32) (x2 : Int32) : Int32 := (if x0 = nI 1 then ((2 : Int32) + (x2 - x2 / (2 : Int32) * (2 : Int32))) else (if x0 = nI 2 then ((2 : Int32) + (x1 / (2 : Int32))) else (if x0 = nI 3 then (1 : Int32) else (if x0 = nI 4 then ((2 : Int32) * ((2 : Int32) + (x1 / (2 : Int32)))) else (if x0 = nI 5 then (if ¬ (x2 - x2 / (3 : Int32) * (3 : Int32)) = (0 : Int32) then ((2 : Int32) + (x2 - x2 / (2 : Int32) * (2 : Int32))) else (0 : Int32)) else (if x0 = nI 6 then (((2 : Int32) * ((2 : Int32) + (x1 / (2 : Int32)))) - (1 : Int32)) else (if x0 = nI 7 then (0 : Int32) else (2 : Int32))))))))
theorem ev_X11_drinksBy (σ : mm_Sg) (x0 : Int32) (x1 : Int32) (x2 : Int32) : mm_Ev mm_m_X11_drinksBy [.int x0, .int x1, .int x2] σ (some (.int (f_X11_drinksBy σ x0 x1 x2))) σ := by
  refine sg_X11_drinksBy_0 σ x0 x1 x2 _ ?_
  unfold f_X11_drinksBy
  refine ⟨fun b1 => ?_, fun b1 => ?_⟩
  · simp only [if_pos b1]
    all_goals first | rfl | trivial
  simp only [if_neg b1]
  refine ⟨fun b2 => ?_, fun b2 => ?_⟩
  · simp only [if_pos b2]
    all_goals first | rfl | trivial
  simp only [if_neg b2]
  refine ⟨fun b3 => ?_, fun b3 => ?_⟩
  · simp only [if_pos b3]
    all_goals first | rfl | trivial
  simp only [if_neg b3]
  refine ⟨fun b4 => ?_, fun b4 => ?_⟩
  · simp only [if_pos b4]
    all_goals first | rfl | trivial
  simp only [if_neg b4]
  refine ⟨fun b5 => ?_, fun b5 => ?_⟩
  · simp only [if_pos b5]
    refine ⟨fun b6 => ?_, fun b6 => ?_⟩
    · simp only [if_pos b6]
      all_goals first | rfl | trivial
    · simp only [if_neg b6]
      all_goals first | rfl | trivial
  simp only [if_neg b5]
  refine ⟨fun b7 => ?_, fun b7 => ?_⟩
  · simp only [if_pos b7]
    all_goals first | rfl | trivial
  simp only [if_neg b7]
  refine ⟨fun b8 => ?_, fun b8 => ?_⟩
  · simp only [if_pos b8]
    all_goals first | rfl | trivial
  simp only [if_neg b8]
  all_goals first | rfl | trivial
def f_X11_tiresBy (σ : mm_Sg) (x0 : Int32) (x1 : Int32) (x2 : Int32) : Int32 := (if x0 = nI 1 then ((2 : Int32) * x2) else (if x0 = nI 2 then ((4 : Int32) * x2) else (if x0 = nI 3 then x2 else (if x0 = nI 4 then ((4 : Int32) * x2) else (if x0 = nI 5 then (f_X11_lessBy σ ((2 : Int32) * x2) x1) else (if x0 = nI 6 then (0 : Int32) else (if x0 = nI 7 then (5 : Int32) else ((3 : Int32) * x2))))))))
theorem ev_X11_tiresBy (σ : mm_Sg) (x0 : Int32) (x1 : Int32) (x2 : Int32) : mm_Ev mm_m_X11_tiresBy [.int x0, .int x1, .int x2] σ (some (.int (f_X11_tiresBy σ x0 x1 x2))) σ := by
  refine sg_X11_tiresBy_0 σ x0 x1 x2 _ ?_
  unfold f_X11_tiresBy
  refine ⟨fun b1 => ?_, fun b1 => ?_⟩
  · simp only [if_pos b1]
    all_goals first | rfl | trivial
  simp only [if_neg b1]
  refine ⟨fun b2 => ?_, fun b2 => ?_⟩
  · simp only [if_pos b2]
    all_goals first | rfl | trivial
  simp only [if_neg b2]
  refine ⟨fun b3 => ?_, fun b3 => ?_⟩
  · simp only [if_pos b3]
    all_goals first | rfl | trivial
  simp only [if_neg b3]
  refine ⟨fun b4 => ?_, fun b4 => ?_⟩
  · simp only [if_pos b4]
    all_goals first | rfl | trivial
  simp only [if_neg b4]
  refine ⟨fun b5 => ?_, fun b5 => ?_⟩
  · simp only [if_pos b5]
    refine ⟨_, _, ev_X11_lessBy σ ((2 : Int32) * x2) x1, ?_⟩
    all_goals first | rfl | trivial
  simp only [if_neg b5]
  refine ⟨fun b6 => ?_, fun b6 => ?_⟩
  · simp only [if_pos b6]
    all_goals first | rfl | trivial
  simp only [if_neg b6]
  refine ⟨fun b7 => ?_, fun b7 => ?_⟩
  · simp only [if_pos b7]
    all_goals first | rfl | trivial
  simp only [if_neg b7]
  all_goals first | rfl | trivial
def f_X11_owesBy (σ : mm_Sg) (x0 : Int32) (x1 : Int32) (x2 : Int32) : Int32 := (if x0 = nI 2 then ((2 : Int32) * x2) else (if x0 = nI 3 then x2 else (if x0 = nI 4 then ((2 : Int32) * x2) else (if x0 = nI 5 then x2 else (if x0 = nI 6 then (if x2 ≤ (0 : Int32) then (0 : Int32) else (((2 : Int32) * x2) + x1)) else (if x0 = nI 7 then (0 : Int32) else x2))))))
theorem ev_X11_owesBy (σ : mm_Sg) (x0 : Int32) (x1 : Int32) (x2 : Int32) : mm_Ev mm_m_X11_owesBy [.int x0, .int x1, .int x2] σ (some (.int (f_X11_owesBy σ x0 x1 x2))) σ := by
  refine sg_X11_owesBy_0 σ x0 x1 x2 _ ?_
  unfold f_X11_owesBy
  refine ⟨fun b1 => ?_, fun b1 => ?_⟩
  · simp only [if_pos b1]
    all_goals first | rfl | trivial
  simp only [if_neg b1]
  refine ⟨fun b2 => ?_, fun b2 => ?_⟩
  · simp only [if_pos b2]
    all_goals first | rfl | trivial
  simp only [if_neg b2]
  refine ⟨fun b3 => ?_, fun b3 => ?_⟩
  · simp only [if_pos b3]
    all_goals first | rfl | trivial
  simp only [if_neg b3]
  refine ⟨fun b4 => ?_, fun b4 => ?_⟩
  · simp only [if_pos b4]
    all_goals first | rfl | trivial
  simp only [if_neg b4]
  refine ⟨fun b5 => ?_, fun b5 => ?_⟩
  · simp only [if_pos b5]
    refine ⟨fun b6 => ?_, fun b6 => ?_⟩
    · simp only [if_pos b6]
      all_goals first | rfl | trivial
    · simp only [if_neg b6]
      all_goals first | rfl | trivial
  simp only [if_neg b5]
  refine ⟨fun b7 => ?_, fun b7 => ?_⟩
  · simp only [if_pos b7]
    all_goals first | rfl | trivial
  simp only [if_neg b7]
  all_goals first | rfl | trivial
def f_X11_isAwake (σ : mm_Sg) (q0 : Nat) (x1 : Int32) : Int32 := (if x1 = (9 : Int32) then (0 : Int32) else (if ¬ (f_X11_has σ (σ q0 3) x1) = (0 : Int32) then (0 : Int32) else (1 : Int32)))
theorem ev_X11_isAwake (σ : mm_Sg) (q0 : Nat) (x1 : Int32) (hs1 : (¬ (x1 = (9 : Int32))) → (vp_in (3 : Int32) (mm_len q0))) : mm_Ev mm_m_X11_isAwake [.ref q0, .int x1] σ (some (.int (f_X11_isAwake σ q0 x1))) σ := by
  refine sg_X11_isAwake_0 σ q0 x1 _ ?_
  unfold f_X11_isAwake
  refine ⟨fun b1 => ?_, fun b1 => ?_⟩
  · simp only [if_pos b1]
    all_goals first | rfl | trivial
  · simp only [if_neg b1]
    refine ⟨(hs1 b1), ?_⟩
    refine ⟨_, _, ev_X11_has σ (σ q0 3) x1, ?_⟩
    refine ⟨fun b2 => ?_, fun b2 => ?_⟩
    · simp only [if_pos b2]
      all_goals first | rfl | trivial
    · simp only [if_neg b2]
      all_goals first | rfl | trivial
theorem b01_X11_isAwake (σ : mm_Sg) (q0 : Nat) (x1 : Int32) : f_X11_isAwake σ q0 x1 = 0 ∨ f_X11_isAwake σ q0 x1 = 1 := by
  unfold f_X11_isAwake
  (repeat' split) <;> first | exact Or.inl rfl | exact Or.inr rfl | exact b01_X11_has _ _ _
def h_X11_wakesUp (σ : mm_Sg) (q0 : Nat) (x1 : Int32) : mm_Sg := (if (f_X11_isAwake σ q0 x1) = (0 : Int32) then (if (20 : Int32) ≤ ((mm_u σ q0 ((35 : Int32) + x1).toNatClampNeg (f_X11_lessBy σ (σ q0 ((35 : Int32) + x1).toNatClampNeg) (15 : Int32))) q0 ((35 : Int32) + x1).toNatClampNeg) then mm_u σ q0 ((35 : Int32) + x1).toNatClampNeg (f_X11_lessBy σ (σ q0 ((35 : Int32) + x1).toNatClampNeg) (15 : Int32)) else (if ¬ (f_X11_has (mm_u σ q0 ((35 : Int32) + x1).toNatClampNeg (f_X11_lessBy σ (σ q0 ((35 : Int32) + x1).toNatClampNeg) (15 : Int32))) ((mm_u σ q0 ((35 : Int32) + x1).toNatClampNeg (f_X11_lessBy σ (σ q0 ((35 : Int32) + x1).toNatClampNeg) (15 : Int32))) q0 6) x1) = (0 : Int32) then mm_u σ q0 ((35 : Int32) + x1).toNatClampNeg (f_X11_lessBy σ (σ q0 ((35 : Int32) + x1).toNatClampNeg) (15 : Int32)) else mm_u (mm_u σ q0 ((35 : Int32) + x1).toNatClampNeg (f_X11_lessBy σ (σ q0 ((35 : Int32) + x1).toNatClampNeg) (15 : Int32))) q0 3 (((mm_u σ q0 ((35 : Int32) + x1).toNatClampNeg (f_X11_lessBy σ (σ q0 ((35 : Int32) + x1).toNatClampNeg) (15 : Int32))) q0 3) &&& (((1 : Int32) <<< (x1 &&& 31)) ^^^ (-1 : Int32))))) else σ)
theorem ev_X11_wakesUp (σ : mm_Sg) (q0 : Nat) (x1 : Int32) (hs1 : (¬ (x1 = (9 : Int32))) → (vp_in (3 : Int32) (mm_len q0))) (hs2 : ((f_X11_isAwake σ q0 x1) = (0 : Int32)) → (vp_in ((35 : Int32) + x1) (mm_len q0))) (hs3 : ((f_X11_isAwake σ q0 x1) = (0 : Int32)) → (¬ ((20 : Int32) ≤ ((mm_u σ q0 ((35 : Int32) + x1).toNatClampNeg (f_X11_lessBy σ (σ q0 ((35 : Int32) + x1).toNatClampNeg) (15 : Int32))) q0 ((35 : Int32) + x1).toNatClampNeg))) → (vp_in (6 : Int32) (mm_len q0))) (hs4 : ((f_X11_isAwake σ q0 x1) = (0 : Int32)) → (¬ ((20 : Int32) ≤ ((mm_u σ q0 ((35 : Int32) + x1).toNatClampNeg (f_X11_lessBy σ (σ q0 ((35 : Int32) + x1).toNatClampNeg) (15 : Int32))) q0 ((35 : Int32) + x1).toNatClampNeg))) → (¬ (¬ (f_X11_has (mm_u σ q0 ((35 : Int32) + x1).toNatClampNeg (f_X11_lessBy σ (σ q0 ((35 : Int32) + x1).toNatClampNeg) (15 : Int32))) ((mm_u σ q0 ((35 : Int32) + x1).toNatClampNeg (f_X11_lessBy σ (σ q0 ((35 : Int32) + x1).toNatClampNeg) (15 : Int32))) q0 6) x1) = (0 : Int32))) → (vp_in (3 : Int32) (mm_len q0))) : mm_Ev mm_m_X11_wakesUp [.ref q0, .int x1] σ none (h_X11_wakesUp σ q0 x1) := by
  refine sg_X11_wakesUp_0 σ q0 x1 _ ?_
  unfold h_X11_wakesUp
  refine ⟨_, _, ev_X11_isAwake σ q0 x1 hs1, ?_⟩
  refine ⟨fun b1 => ?_, fun b1 => ?_⟩
  · simp only [if_pos b1]
    refine ⟨(hs2 b1), ?_⟩
    refine ⟨_, _, ev_X11_lessBy σ (σ q0 ((35 : Int32) + x1).toNatClampNeg) (15 : Int32), ?_⟩
    rintro _ rfl
    refine ⟨fun b2 => ?_, fun b2 => ?_⟩
    · simp only [if_pos b2]
      all_goals first | rfl | trivial
    · simp only [if_neg b2]
      refine ⟨(hs3 b1 b2), ?_⟩
      refine ⟨_, _, ev_X11_has (mm_u σ q0 ((35 : Int32) + x1).toNatClampNeg (f_X11_lessBy σ (σ q0 ((35 : Int32) + x1).toNatClampNeg) (15 : Int32))) ((mm_u σ q0 ((35 : Int32) + x1).toNatClampNeg (f_X11_lessBy σ (σ q0 ((35 : Int32) + x1).toNatClampNeg) (15 : Int32))) q0 6) x1, ?_⟩
      refine ⟨fun b3 => ?_, fun b3 => ?_⟩
      · simp only [if_pos b3]
        all_goals first | rfl | trivial
      · simp only [if_neg b3]
        refine ⟨(hs4 b1 b2 b3), ?_⟩
        rintro _ rfl
        all_goals first | rfl | trivial
  · simp only [if_neg b1]
    all_goals first | rfl | trivial
def h_X11_liesDown (σ : mm_Sg) (q0 : Nat) (x1 : Int32) : mm_Sg := (if ¬ (f_X11_isAwake σ q0 x1) = (0 : Int32) then (if (σ q0 ((35 : Int32) + x1).toNatClampNeg) < (60 : Int32) then mm_u σ q0 ((35 : Int32) + x1).toNatClampNeg (f_X11_lessBy σ (σ q0 ((35 : Int32) + x1).toNatClampNeg) (2 : Int32)) else mm_u σ q0 3 ((σ q0 3) ||| ((1 : Int32) <<< (x1 &&& 31)))) else σ)
theorem ev_X11_liesDown (σ : mm_Sg) (q0 : Nat) (x1 : Int32) (hs1 : (¬ (x1 = (9 : Int32))) → (vp_in (3 : Int32) (mm_len q0))) (hs2 : (¬ (f_X11_isAwake σ q0 x1) = (0 : Int32)) → (vp_in ((35 : Int32) + x1) (mm_len q0))) (hs3 : (¬ (f_X11_isAwake σ q0 x1) = (0 : Int32)) → (¬ ((σ q0 ((35 : Int32) + x1).toNatClampNeg) < (60 : Int32))) → (vp_in (3 : Int32) (mm_len q0))) : mm_Ev mm_m_X11_liesDown [.ref q0, .int x1] σ none (h_X11_liesDown σ q0 x1) := by
  refine sg_X11_liesDown_0 σ q0 x1 _ ?_
  unfold h_X11_liesDown
  refine ⟨_, _, ev_X11_isAwake σ q0 x1 hs1, ?_⟩
  refine ⟨fun b1 => ?_, fun b1 => ?_⟩
  · simp only [if_pos b1]
    refine ⟨(hs2 b1), ?_⟩
    refine ⟨fun b2 => ?_, fun b2 => ?_⟩
    · simp only [if_pos b2]
      refine ⟨_, _, ev_X11_lessBy σ (σ q0 ((35 : Int32) + x1).toNatClampNeg) (2 : Int32), ?_⟩
      rintro _ rfl
      all_goals first | rfl | trivial
    · simp only [if_neg b2]
      refine ⟨(hs3 b1 b2), ?_⟩
      rintro _ rfl
      all_goals first | rfl | trivial
  · simp only [if_neg b1]
    all_goals first | rfl | trivial
def f_X11_here (σ : mm_Sg) (_q : Nat) : Int32 := (if (σ 51 8) ≤ (σ 51 6) then (-1 : Int32) else ((σ 64 ((σ 51 7) + (σ 51 6)).toNatClampNeg) &&& (255 : Int32)))
theorem ev_X11_here (σ : mm_Sg) (hs1 : (¬ ((σ 51 8) ≤ (σ 51 6))) → (vp_in ((σ 51 7) + (σ 51 6)) (mm_len 64))) : mm_Ev mm_m_X11_here [.ref 51] σ (some (.int (f_X11_here σ 51))) σ := by
  refine sg_X11_here_0 σ  _ ?_
  unfold f_X11_here
  refine ⟨fun b1 => ?_, fun b1 => ?_⟩
  · simp only [if_pos b1]
    all_goals first | rfl | trivial
  · simp only [if_neg b1]
    refine ⟨(hs1 b1), ?_⟩
    all_goals first | rfl | trivial
def f_X11_nextOf (σ : mm_Sg) (_q : Nat) (x1 : Int32) : Int32 := (f_X11_drinksBy σ (σ 52 (f_X11_of σ x1 (0 : Int32)).toNatClampNeg) (σ 52 (f_X11_of σ x1 (1 : Int32)).toNatClampNeg) ((σ 52 1) + (1 : Int32)))
theorem ev_X11_nextOf (σ : mm_Sg) (x1 : Int32) (hs1 : (vp_in (f_X11_of σ x1 (0 : Int32)) (mm_len 52))) (hs2 : (vp_in (f_X11_of σ x1 (1 : Int32)) (mm_len 52))) : mm_Ev mm_m_X11_nextOf [.ref 51, .int x1] σ (some (.int (f_X11_nextOf σ 51 x1))) σ := by
  refine sg_X11_nextOf_0 σ x1 _ ?_
  unfold f_X11_nextOf
  refine ⟨_, _, ev_X11_of σ x1 (0 : Int32), ?_⟩
  refine ⟨hs1, ?_⟩
  refine ⟨_, _, ev_X11_of σ x1 (1 : Int32), ?_⟩
  refine ⟨hs2, ?_⟩
  refine ⟨_, _, ev_X11_drinksBy σ (σ 52 (f_X11_of σ x1 (0 : Int32)).toNatClampNeg) (σ 52 (f_X11_of σ x1 (1 : Int32)).toNatClampNeg) ((σ 52 1) + (1 : Int32)), ?_⟩
  all_goals first | rfl | trivial
def f_X11_leastOf (σ : mm_Sg) (x0 : Int32) : Int32 := (if ¬ x0 = (0 : Int32) then (if ¬ x0 = (1 : Int32) then (-2147483648 : Int32) else (-32768 : Int32)) else (-128 : Int32))
theorem ev_X11_leastOf (σ : mm_Sg) (x0 : Int32) : mm_Ev mm_m_X11_leastOf [.int x0] σ (some (.int (f_X11_leastOf σ x0))) σ := by
  refine sg_X11_leastOf_0 σ x0 _ ?_
  unfold f_X11_leastOf
  refine ⟨fun b1 => ?_, fun b1 => ?_⟩
  · simp only [if_pos b1]
    refine ⟨fun b2 => ?_, fun b2 => ?_⟩
    · simp only [if_pos b2]
      all_goals first | rfl | trivial
    · simp only [if_neg b2]
      all_goals first | rfl | trivial
  · simp only [if_neg b1]
    all_goals first | rfl | trivial
def f_X11_isTold (σ : mm_Sg) (_q : Nat) (x1 : Int32) (x2 : Int32) (x3 : Int32) : Int32 := (if (σ 64 (((100 : Int32) * x1) + x2).toNatClampNeg) = (f_X11_leastOf σ (σ 62 x1.toNatClampNeg)) then (1 : Int32) else (if ¬ (σ 64 (((100 : Int32) * x1) + x2).toNatClampNeg) = x3 then (0 : Int32) else (1 : Int32)))
theorem ev_X11_isTold (σ : mm_Sg) (x1 : Int32) (x2 : Int32) (x3 : Int32) (hs1 : (vp_in (((100 : Int32) * x1) + x2) (mm_len 64))) (hs2 : (vp_in x1 (mm_len 62))) : mm_Ev mm_m_X11_isTold [.ref 51, .int x1, .int x2, .int x3] σ (some (.int (f_X11_isTold σ 51 x1 x2 x3))) σ := by
  refine sg_X11_isTold_0 σ x1 x2 x3 _ ?_
  unfold f_X11_isTold
  refine ⟨hs1, ?_⟩
  refine ⟨hs2, ?_⟩
  refine ⟨_, _, ev_X11_leastOf σ (σ 62 x1.toNatClampNeg), ?_⟩
  refine ⟨fun b1 => ?_, fun b1 => ?_⟩
  · simp only [if_pos b1]
    all_goals first | rfl | trivial
  · simp only [if_neg b1]
    refine ⟨fun b2 => ?_, fun b2 => ?_⟩
    · simp only [if_pos b2]
      all_goals first | rfl | trivial
    · simp only [if_neg b2]
      all_goals first | rfl | trivial
theorem b01_X11_isTold (σ : mm_Sg) (x1 : Int32) (x2 : Int32) (x3 : Int32) : f_X11_isTold σ 51 x1 x2 x3 = 0 ∨ f_X11_isTold σ 51 x1 x2 x3 = 1 := by
  unfold f_X11_isTold
  (repeat' split) <;> first | exact Or.inl rfl | exact Or.inr rfl
def f_X11_isShelf (σ : mm_Sg) (x0 : Int32) : Int32 := (f_X11_isIn σ x0 (0 : Int32) (7 : Int32))
theorem ev_X11_isShelf (σ : mm_Sg) (x0 : Int32) : mm_Ev mm_m_X11_isShelf [.int x0] σ (some (.int (f_X11_isShelf σ x0))) σ := by
  refine sg_X11_isShelf_0 σ x0 _ ?_
  unfold f_X11_isShelf
  refine ⟨_, _, ev_X11_isIn σ x0 (0 : Int32) (7 : Int32), ?_⟩
  refine ⟨(b01_X11_isIn σ x0 (0 : Int32) (7 : Int32)), ?_⟩
  all_goals first | rfl | trivial
theorem b01_X11_isShelf (σ : mm_Sg) (x0 : Int32) : f_X11_isShelf σ x0 = 0 ∨ f_X11_isShelf σ x0 = 1 := by
  unfold f_X11_isShelf
  (repeat' split) <;> first | exact Or.inl rfl | exact Or.inr rfl | exact b01_X11_isIn _ _ _ _
def f_X11_wrongRow (σ : mm_Sg) (_q : Nat) (x1 : Int32) (x2 : Int32) : Int32 := (if ¬ (f_X11_isShelf σ x1) = (0 : Int32) then (if ¬ (σ 59 x1.toNatClampNeg) = (0 : Int32) then (if ¬ (σ 59 x1.toNatClampNeg) = (2 : Int32) then (-12 : Int32) else (if x2 < (0 : Int32) then (0 : Int32) else (if (σ 62 x1.toNatClampNeg) = x2 then (0 : Int32) else (-12 : Int32)))) else (-11 : Int32)) else (-1 : Int32))
theorem ev_X11_wrongRow (σ : mm_Sg) (x1 : Int32) (x2 : Int32) (hs1 : (¬ (f_X11_isShelf σ x1) = (0 : Int32)) → (vp_in x1 (mm_len 59))) (hs2 : (¬ (f_X11_isShelf σ x1) = (0 : Int32)) → (¬ (σ 59 x1.toNatClampNeg) = (0 : Int32)) → (¬ (¬ (σ 59 x1.toNatClampNeg) = (2 : Int32))) → (¬ (x2 < (0 : Int32))) → (vp_in x1 (mm_len 62))) : mm_Ev mm_m_X11_wrongRow [.ref 51, .int x1, .int x2] σ (some (.int (f_X11_wrongRow σ 51 x1 x2))) σ := by
  refine sg_X11_wrongRow_0 σ x1 x2 _ ?_
  unfold f_X11_wrongRow
  refine ⟨_, _, ev_X11_isShelf σ x1, ?_⟩
  refine ⟨fun b1 => ?_, fun b1 => ?_⟩
  · simp only [if_pos b1]
    refine ⟨(hs1 b1), ?_⟩
    refine ⟨fun b2 => ?_, fun b2 => ?_⟩
    · simp only [if_pos b2]
      refine ⟨fun b3 => ?_, fun b3 => ?_⟩
      · simp only [if_pos b3]
        all_goals first | rfl | trivial
      · simp only [if_neg b3]
        refine ⟨fun b4 => ?_, fun b4 => ?_⟩
        · simp only [if_pos b4]
          all_goals first | rfl | trivial
        · simp only [if_neg b4]
          refine ⟨(hs2 b1 b2 b3 b4), ?_⟩
          refine ⟨fun b5 => ?_, fun b5 => ?_⟩
          · simp only [if_pos b5]
            all_goals first | rfl | trivial
          · simp only [if_neg b5]
            all_goals first | rfl | trivial
    · simp only [if_neg b2]
      all_goals first | rfl | trivial
  · simp only [if_neg b1]
    all_goals first | rfl | trivial
def f_X11_wrongKept (σ : mm_Sg) (_q : Nat) (x1 : Int32) : Int32 := (if ¬ (f_X11_isShelf σ x1) = (0 : Int32) then (if ¬ (σ 59 x1.toNatClampNeg) = (0 : Int32) then (if ¬ (σ 59 x1.toNatClampNeg) = (2 : Int32) then (0 : Int32) else (-12 : Int32)) else (-11 : Int32)) else (-1 : Int32))
theorem ev_X11_wrongKept (σ : mm_Sg) (x1 : Int32) (hs1 : (¬ (f_X11_isShelf σ x1) = (0 : Int32)) → (vp_in x1 (mm_len 59))) : mm_Ev mm_m_X11_wrongKept [.ref 51, .int x1] σ (some (.int (f_X11_wrongKept σ 51 x1))) σ := by
  refine sg_X11_wrongKept_0 σ x1 _ ?_
  unfold f_X11_wrongKept
  refine ⟨_, _, ev_X11_isShelf σ x1, ?_⟩
  refine ⟨fun b1 => ?_, fun b1 => ?_⟩
  · simp only [if_pos b1]
    refine ⟨(hs1 b1), ?_⟩
    refine ⟨fun b2 => ?_, fun b2 => ?_⟩
    · simp only [if_pos b2]
      refine ⟨fun b3 => ?_, fun b3 => ?_⟩
      · simp only [if_pos b3]
        all_goals first | rfl | trivial
      · simp only [if_neg b3]
        all_goals first | rfl | trivial
    · simp only [if_neg b2]
      all_goals first | rfl | trivial
  · simp only [if_neg b1]
    all_goals first | rfl | trivial
def f_X11_costBy (σ : mm_Sg) (x0 : Int32) (x1 : Int32) : Int32 := (if x0 = nI 1 then (4 : Int32) else (if x0 = nI 2 then ((3 : Int32) + x1) else (if x0 = nI 3 then (2 : Int32) else (if x0 = nI 4 then ((2 : Int32) * ((3 : Int32) + x1)) else (if x0 = nI 5 then (4 : Int32) else (if x0 = nI 6 then (((2 : Int32) * ((3 : Int32) + x1)) - (5 : Int32)) else (if x0 = nI 7 then (1 : Int32) else (3 : Int32))))))))
theorem ev_X11_costBy (σ : mm_Sg) (x0 : Int32) (x1 : Int32) : mm_Ev mm_m_X11_costBy [.int x0, .int x1] σ (some (.int (f_X11_costBy σ x0 x1))) σ := by
  refine sg_X11_costBy_0 σ x0 x1 _ ?_
  unfold f_X11_costBy
  refine ⟨fun b1 => ?_, fun b1 => ?_⟩
  · simp only [if_pos b1]
    all_goals first | rfl | trivial
  simp only [if_neg b1]
  refine ⟨fun b2 => ?_, fun b2 => ?_⟩
  · simp only [if_pos b2]
    all_goals first | rfl | trivial
  simp only [if_neg b2]
  refine ⟨fun b3 => ?_, fun b3 => ?_⟩
  · simp only [if_pos b3]
    all_goals first | rfl | trivial
  simp only [if_neg b3]
  refine ⟨fun b4 => ?_, fun b4 => ?_⟩
  · simp only [if_pos b4]
    all_goals first | rfl | trivial
  simp only [if_neg b4]
  refine ⟨fun b5 => ?_, fun b5 => ?_⟩
  · simp only [if_pos b5]
    all_goals first | rfl | trivial
  simp only [if_neg b5]
  refine ⟨fun b6 => ?_, fun b6 => ?_⟩
  · simp only [if_pos b6]
    all_goals first | rfl | trivial
  simp only [if_neg b6]
  refine ⟨fun b7 => ?_, fun b7 => ?_⟩
  · simp only [if_pos b7]
    all_goals first | rfl | trivial
  simp only [if_neg b7]
  all_goals first | rfl | trivial
def f_X11_isLate (σ : mm_Sg) (x0 : Int32) : Int32 := (f_X11_isIn σ x0 (0 : Int32) (60 : Int32))
theorem ev_X11_isLate (σ : mm_Sg) (x0 : Int32) : mm_Ev mm_m_X11_isLate [.int x0] σ (some (.int (f_X11_isLate σ x0))) σ := by
  refine sg_X11_isLate_0 σ x0 _ ?_
  unfold f_X11_isLate
  refine ⟨_, _, ev_X11_isIn σ x0 (0 : Int32) (60 : Int32), ?_⟩
  refine ⟨(b01_X11_isIn σ x0 (0 : Int32) (60 : Int32)), ?_⟩
  all_goals first | rfl | trivial
theorem b01_X11_isLate (σ : mm_Sg) (x0 : Int32) : f_X11_isLate σ x0 = 0 ∨ f_X11_isLate σ x0 = 1 := by
  unfold f_X11_isLate
  (repeat' split) <;> first | exact Or.inl rfl | exact Or.inr rfl | exact b01_X11_isIn _ _ _ _
def f_X11_canWake (σ : mm_Sg) (_q : Nat) (x1 : Int32) (x2 : Int32) : Int32 := (if (f_X11_isAwake σ 52 x1) = (0 : Int32) then (0 : Int32) else (if ¬ (f_X11_has σ x2 x1) = (0 : Int32) then (0 : Int32) else (1 : Int32)))
theorem ev_X11_canWake (σ : mm_Sg) (x1 : Int32) (x2 : Int32) (hs1 : (¬ (x1 = (9 : Int32))) → (vp_in (3 : Int32) (mm_len 52))) : mm_Ev mm_m_X11_canWake [.ref 51, .int x1, .int x2] σ (some (.int (f_X11_canWake σ 51 x1 x2))) σ := by
  refine sg_X11_canWake_0 σ x1 x2 _ ?_
  unfold f_X11_canWake
  refine ⟨_, _, ev_X11_isAwake σ 52 x1 hs1, ?_⟩
  refine ⟨fun b1 => ?_, fun b1 => ?_⟩
  · simp only [if_pos b1]
    all_goals first | rfl | trivial
  · simp only [if_neg b1]
    refine ⟨_, _, ev_X11_has σ x2 x1, ?_⟩
    refine ⟨fun b2 => ?_, fun b2 => ?_⟩
    · simp only [if_pos b2]
      all_goals first | rfl | trivial
    · simp only [if_neg b2]
      all_goals first | rfl | trivial
theorem b01_X11_canWake (σ : mm_Sg) (x1 : Int32) (x2 : Int32) : f_X11_canWake σ 51 x1 x2 = 0 ∨ f_X11_canWake σ 51 x1 x2 = 1 := by
  unfold f_X11_canWake
  (repeat' split) <;> first | exact Or.inl rfl | exact Or.inr rfl | exact b01_X11_isAwake _ _ _ | exact b01_X11_has _ _ _
def f_X11_thrown (σ : mm_Sg) (_q : Nat) : Int32 := (σ 51 18)
theorem ev_X11_thrown (σ : mm_Sg) : mm_Ev mm_m_X11_thrown [.ref 51] σ (some (.int (f_X11_thrown σ 51))) σ := by
  refine sg_X11_thrown_0 σ  _ ?_
  unfold f_X11_thrown
  all_goals first | rfl | trivial
def f_X11_sets (σ : mm_Sg) (_q : Nat) (x1 : Int32) (x2 : Int32) : Int32 := (σ 52 x1.toNatClampNeg)
def h_X11_sets (σ : mm_Sg) (_q : Nat) (x1 : Int32) (x2 : Int32) : mm_Sg := mm_u σ 52 x1.toNatClampNeg x2
theorem ev_X11_sets (σ : mm_Sg) (x1 : Int32) (x2 : Int32) (hs1 : (vp_in x1 (mm_len 52))) : mm_Ev mm_m_X11_sets [.ref 51, .int x1, .int x2] σ (some (.int (f_X11_sets σ 51 x1 x2))) (h_X11_sets σ 51 x1 x2) := by
  refine sg_X11_sets_0 σ x1 x2 _ ?_
  unfold f_X11_sets h_X11_sets
  refine ⟨hs1, ?_⟩
  rintro _ rfl
  all_goals first | rfl | trivial
def f_X11_drawn (σ : mm_Sg) (_q : Nat) (x1 : Int32) : Int32 := (((((mm_u σ 51 11 (((σ 51 11) * (1103515245 : Int32)) + (12345 : Int32))) 51 11) &&& (2147483647 : Int32)) / (65536 : Int32)) - ((((mm_u σ 51 11 (((σ 51 11) * (1103515245 : Int32)) + (12345 : Int32))) 51 11) &&& (2147483647 : Int32)) / (65536 : Int32)) / x1 * x1)
def h_X11_drawn (σ : mm_Sg) (_q : Nat) (x1 : Int32) : mm_Sg := mm_u σ 51 11 (((σ 51 11) * (1103515245 : Int32)) + (12345 : Int32))
theorem ev_X11_drawn (σ : mm_Sg) (x1 : Int32) (hs1 : (¬ x1 = 0)) : mm_Ev mm_m_X11_drawn [.ref 51, .int x1] σ (some (.int (f_X11_drawn σ 51 x1))) (h_X11_drawn σ 51 x1) := by
  refine sg_X11_drawn_0 σ x1 _ ?_
  unfold f_X11_drawn h_X11_drawn
  rintro _ rfl
  refine ⟨hs1, ?_⟩
  all_goals first | rfl | trivial
def f_J6_bitCount_0f7a4 (σ : mm_Sg) (x0 : Int32) : Int32 := ((((((((x0 - (((x0.toUInt32 >>> (((1 : Int32) : Int32).toUInt32 &&& Int32.toUInt32 31)).toInt32) &&& (1431655765 : Int32))) &&& (858993459 : Int32)) + ((((x0 - (((x0.toUInt32 >>> (((1 : Int32) : Int32).toUInt32 &&& Int32.toUInt32 31)).toInt32) &&& (1431655765 : Int32))).toUInt32 >>> (((2 : Int32) : Int32).toUInt32 &&& Int32.toUInt32 31)).toInt32) &&& (858993459 : Int32))) + (((((x0 - (((x0.toUInt32 >>> (((1 : Int32) : Int32).toUInt32 &&& Int32.toUInt32 31)).toInt32) &&& (1431655765 : Int32))) &&& (858993459 : Int32)) + ((((x0 - (((x0.toUInt32 >>> (((1 : Int32) : Int32).toUInt32 &&& Int32.toUInt32 31)).toInt32) &&& (1431655765 : Int32))).toUInt32 >>> (((2 : Int32) : Int32).toUInt32 &&& Int32.toUInt32 31)).toInt32) &&& (858993459 : Int32))).toUInt32 >>> (((4 : Int32) : Int32).toUInt32 &&& Int32.toUInt32 31)).toInt32)) &&& (252645135 : Int32)) + (((((((x0 - (((x0.toUInt32 >>> (((1 : Int32) : Int32).toUInt32 &&& Int32.toUInt32 31)).toInt32) &&& (1431655765 : Int32))) &&& (858993459 : Int32)) + ((((x0 - (((x0.toUInt32 >>> (((1 : Int32) : Int32).toUInt32 &&& Int32.toUInt32 31)).toInt32) &&& (1431655765 : Int32))).toUInt32 >>> (((2 : Int32) : Int32).toUInt32 &&& Int32.toUInt32 31)).toInt32) &&& (858993459 : Int32))) + (((((x0 - (((x0.toUInt32 >>> (((1 : Int32) : Int32).toUInt32 &&& Int32.toUInt32 31)).toInt32) &&& (1431655765 : Int32))) &&& (858993459 : Int32)) + ((((x0 - (((x0.toUInt32 >>> (((1 : Int32) : Int32).toUInt32 &&& Int32.toUInt32 31)).toInt32) &&& (1431655765 : Int32))).toUInt32 >>> (((2 : Int32) : Int32).toUInt32 &&& Int32.toUInt32 31)).toInt32) &&& (858993459 : Int32))).toUInt32 >>> (((4 : Int32) : Int32).toUInt32 &&& Int32.toUInt32 31)).toInt32)) &&& (252645135 : Int32)).toUInt32 >>> (((8 : Int32) : Int32).toUInt32 &&& Int32.toUInt32 31)).toInt32)) + ((((((((x0 - (((x0.toUInt32 >>> (((1 : Int32) : Int32).toUInt32 &&& Int32.toUInt32 31)).toInt32) &&& (1431655765 : Int32))) &&& (858993459 : Int32)) + ((((x0 - (((x0.toUInt32 >>> (((1 : Int32) : Int32).toUInt32 &&& Int32.toUInt32 31)).toInt32) &&& (1431655765 : Int32))).toUInt32 >>> (((2 : Int32) : Int32).toUInt32 &&& Int32.toUInt32 31)).toInt32) &&& (858993459 : Int32))) + (((((x0 - (((x0.toUInt32 >>> (((1 : Int32) : Int32).toUInt32 &&& Int32.toUInt32 31)).toInt32) &&& (1431655765 : Int32))) &&& (858993459 : Int32)) + ((((x0 - (((x0.toUInt32 >>> (((1 : Int32) : Int32).toUInt32 &&& Int32.toUInt32 31)).toInt32) &&& (1431655765 : Int32))).toUInt32 >>> (((2 : Int32) : Int32).toUInt32 &&& Int32.toUInt32 31)).toInt32) &&& (858993459 : Int32))).toUInt32 >>> (((4 : Int32) : Int32).toUInt32 &&& Int32.toUInt32 31)).toInt32)) &&& (252645135 : Int32)) + (((((((x0 - (((x0.toUInt32 >>> (((1 : Int32) : Int32).toUInt32 &&& Int32.toUInt32 31)).toInt32) &&& (1431655765 : Int32))) &&& (858993459 : Int32)) + ((((x0 - (((x0.toUInt32 >>> (((1 : Int32) : Int32).toUInt32 &&& Int32.toUInt32 31)).toInt32) &&& (1431655765 : Int32))).toUInt32 >>> (((2 : Int32) : Int32).toUInt32 &&& Int32.toUInt32 31)).toInt32) &&& (858993459 : Int32))) + (((((x0 - (((x0.toUInt32 >>> (((1 : Int32) : Int32).toUInt32 &&& Int32.toUInt32 31)).toInt32) &&& (1431655765 : Int32))) &&& (858993459 : Int32)) + ((((x0 - (((x0.toUInt32 >>> (((1 : Int32) : Int32).toUInt32 &&& Int32.toUInt32 31)).toInt32) &&& (1431655765 : Int32))).toUInt32 >>> (((2 : Int32) : Int32).toUInt32 &&& Int32.toUInt32 31)).toInt32) &&& (858993459 : Int32))).toUInt32 >>> (((4 : Int32) : Int32).toUInt32 &&& Int32.toUInt32 31)).toInt32)) &&& (252645135 : Int32)).toUInt32 >>> (((8 : Int32) : Int32).toUInt32 &&& Int32.toUInt32 31)).toInt32)).toUInt32 >>> (((16 : Int32) : Int32).toUInt32 &&& Int32.toUInt32 31)).toInt32)) &&& (63 : Int32))
theorem ev_J6_bitCount_0f7a4 (σ : mm_Sg) (x0 : Int32) : mm_Ev mm_m_J6_bitCount_0f7a4 [.int x0] σ (some (.int (f_J6_bitCount_0f7a4 σ x0))) σ := by
  refine sg_J6_bitCount_0f7a4_0 σ x0 _ ?_
  unfold f_J6_bitCount_0f7a4
  all_goals first | rfl | trivial
