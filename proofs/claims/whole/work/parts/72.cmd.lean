/-! one command read by the reference -/
def rcT (f : Nat → Int32) (k p : Nat) : Nat := skP (isLt f) k p
def rcW (f : Nat → Int32) (k p : Nat) : Nat := wdA f p (rcT f k p)
def rcN (w : Nat) : Nat := if w = 1 then 3 else if w = 3 then 2 else 1
def rcS (f : Nat → Int32) (k p : Nat) : Nat := skP (isSp f) k (npE f k (rcT f k p) (rcN (rcW f k p)))
/-- it stands there; where reading ends -/
def rcB (f : Nat → Int32) (k p : Nat) : Bool := decide (rcW f k p ≠ 0) && decide (nfB f k (rcT f k p) (rcN (rcW f k p)) = rcN (rcW f k p)) && decide (rcS f k p < k ∧ f (rcS f k p) = 59)
def rcE (f : Nat → Int32) (k p : Nat) : Nat := if rcW f k p = 0 then p else if nfB f k (rcT f k p) (rcN (rcW f k p)) = rcN (rcW f k p) then (if rcS f k p < k ∧ f (rcS f k p) = 59 then rcS f k p + 1 else rcS f k p) else npE f k (rcT f k p) (nfB f k (rcT f k p) (rcN (rcW f k p)) + 1)
theorem at59 (f : Nat → Int32) (k p : Nat) : (p < k ∧ (59 : Int32) ≤ f p ∧ f p ≤ 59) ↔ (p < k ∧ f p = 59) := ⟨fun z => ⟨z.1, Int32.le_antisymm z.2.2 z.2.1⟩, fun z => ⟨z.1, by rw [z.2]; exact ⟨Int32.le_refl _, Int32.le_refl _⟩⟩⟩
theorem wdA_le (f : Nat → Int32) (t p : Nat) : wdA f t p ≤ 4 := by
  unfold wdA
  split
  · omega
  · split
    · omega
    · split
      · omega
      · split <;> omega
theorem rcN_le (w : Nat) : rcN w ≤ 3 := by
  unfold rcN
  split
  · omega
  · split <;> omega
/-- what follows the numbers -/
theorem reads_end {N k e : Nat} {f : Nat → Int32} {m : zMem} (hN : 121 < N) (h : ScM m k f) (he : e ≤ k) : (kc2 (fX6_skips N (zsI m 0 11 (nI e))) fun v11 m12 => kc1 (fX6_isAt 59 59 m12) fun v13 => if v13 = 0 then kbz v13 (some (v13, zsI m12 0 11 (m12.1 0 11 + 0))) else kbz v13 (some (v13, zsI m12 0 11 (m12.1 0 11 + 1)))) = some (if skP (isSp f) k e < k ∧ f (skP (isSp f) k e) = 59 then 1 else 0, zsI m 0 11 (nI (if skP (isSp f) k e < k ∧ f (skP (isSp f) k e) = 59 then skP (isSp f) k e + 1 else skP (isSp f) k e))) := by
  have hs := skP_le (q := isSp f) he
  rw [pX6_skips hN h he, kc2_s, pX6_isAt h hs.1, kc1_s]
  by_cases q : skP (isSp f) k e < k ∧ f (skP (isSp f) k e) = 59
  · rw [if_pos ((at59 f k _).mpr q), if_neg (show ¬ (1 : Int32) = 0 by decide), if_pos q, if_pos q, zsI_s, nI_1, zsI_zz]; rfl
  · rw [if_neg (fun z => q ((at59 f k _).mp z)), if_pos (show (0 : Int32) = 0 from rfl), if_neg q, if_neg q, zsI_s, Int32.add_zero, zsI_zz]; rfl
