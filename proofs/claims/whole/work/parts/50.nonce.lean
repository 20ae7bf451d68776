/-! puzzles -/
def solP (A : AS) (id : Int32) (n : Nat) : Bool := decide (¬ nI (zr id (nI n) (epA A)) < dif A)
def solN (A : AS) (id : Int32) : Nat := fs (solP A id) 100000
def sol (A : AS) (id : Int32) : Int32 := if solN A id < 100000 then nI (solN A id) else -1
theorem sol_le (A : AS) (id : Int32) : solN A id ≤ 100000 := fs_le _ _
theorem mxv3 (a e : Int32) (n : Nat) : (a * (-1640531535)) + (e * 69069) + nI n * 40503 = mxv a (nI n) e := mxv2 a (nI n) e
theorem pX2_smallestNonce {N s : Nat} {m : zMem} {A : AS} (hN : 100000 < N) (h : RepC m s A) (ht : tOK A) (id : Int32) : fX2_smallestNonce N s id m = some (sol A id) := by
  have hle := sol_le A id
  simp only [fX2_smallestNonce, kjn]
  rw [pX2_epoch h ht, kc1_s]
  unfold fX0_sumWithoutNonce
  rw [kc1_s, pX2_difficulty h, kc1_s]
  have st : ∀ n K rec, sX2_smallestNonce_17 (dif A) K rec ((id * (-1640531535)) + (epA A * 69069) + nI n * 40503, nI n) = if (99999 : Int32) < nI n then K else if nI (zr id (nI n) (epA A)) < dif A then rec ((id * (-1640531535)) + (epA A * 69069) + nI n * 40503 + 40503, nI n + 1) else some (nI n) := fun n K rec => by
    simp only [sX2_smallestNonce_17, klt]
    rw [pX0_mix, kc1_s, pJ6, kc1_s, mxv3]; rfl
  refine klp_at (fun n => ((id * (-1640531535)) + (epA A * 69069) + nI n * 40503, nI n)) (solN A id) ?_ (fun n hn rec => ?_) (fun rec => ?_) (by omega)
  · show _ = (_, _)
    rw [show nI 0 = 0 from rfl, Int32.zero_mul, Int32.add_zero]
  · have hno := of_decide_eq_false (fs_no (p := solP A id) (n := 100000) hn)
    have hlt : nI (zr id (nI n) (epA A)) < dif A := Decidable.not_not.mp hno
    rw [st, show (99999 : Int32) = nI 99999 from rfl, if_neg (nI_nlt (by omega) (by omega)), if_pos hlt]
    have e1 : (id * (-1640531535)) + (epA A * 69069) + nI n * 40503 + 40503 = (id * (-1640531535)) + (epA A * 69069) + nI (n + 1) * 40503 := by
      rw [← nI_1, Int32.add_mul, Int32.one_mul, ← Int32.add_assoc]
    rw [e1, nI_1]
  · rw [st, show (99999 : Int32) = nI 99999 from rfl]
    unfold sol
    by_cases q : solN A id = 100000
    · rw [q, if_pos (nI_lt (by omega) (by omega)), if_neg (by omega)]
    · have hat := of_decide_eq_true (fs_at (p := solP A id) (n := 100000) (show solN A id < 100000 by omega))
      rw [if_neg (nI_nlt (by omega) (by omega)), if_pos (show solN A id < 100000 by omega)]
      exact if_neg hat
theorem pX2_isSolvedBy {s : Nat} {m : zMem} {A : AS} (h : RepC m s A) (ht : tOK A) (id n : Int32) : fX2_isSolvedBy s id n m = some (if nI (zr id n (epA A)) < dif A then 0 else 1) := by
  unfold fX2_isSolvedBy
  rw [pX2_epoch h ht, kc1_s, pX0_leadingZeros, kc1_s, pX2_difficulty h, kc1_s]
  split <;> rfl
theorem pX6_solution {N : Nat} {m : zMem} {A : AS} (hN : 100000 < N) (h : RowM (m.1 1) A) (ht : tOK A) (id : Int32) : fX6_solution N id m = some (sol A id) := by
  have hle := sol_le A id
  simp only [fX6_solution, kjn]
  rw [pX6_difficulty h, kc1_s]
  refine klp_at (fun n => nI n) (solN A id) rfl (fun n hn rec => ?_) (fun rec => ?_) (by omega)
  · have hno := of_decide_eq_false (fs_no (p := solP A id) (n := 100000) hn)
    have hlt : nI (zr id (nI n) (epA A)) < dif A := Decidable.not_not.mp hno
    simp only [sX6_solution_7]
    rw [show (100000 : Int32) = nI 100000 from rfl, if_neg (nI_ge (by omega) (by omega)), pX6_epochNow h ht, kc1_s, pX6_zerosOf (by omega), kc1_s, if_pos hlt, nI_1]
  · simp only [sX6_solution_7]
    unfold sol
    by_cases q : solN A id = 100000
    · rw [q, show (100000 : Int32) = nI 100000 from rfl, if_pos (nI_le (Nat.le_refl _) (by omega)), if_neg (by omega)]
    · have hat := of_decide_eq_true (fs_at (p := solP A id) (n := 100000) (show solN A id < 100000 by omega))
      rw [show (100000 : Int32) = nI 100000 from rfl, if_neg (nI_ge (by omega) (by omega)), pX6_epochNow h ht, kc1_s, pX6_zerosOf (by omega), kc1_s, if_pos (show solN A id < 100000 by omega)]
      exact if_neg hat
