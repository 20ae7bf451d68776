/-! the same, where several arguments are held one after the other -/
theorem r6_setPuzzles {N : Nat} {m : zMem} {a b c : Int32} (hf : ¬ okP a b c) : fX6_setPuzzles N a b c m = some (0, zsI m 0 4 1) := by
  simp only [fX6_setPuzzles, kjn]
  rw [pX6_in, kc1_s, pX6_in, kc1_s, pX6_in, kc1_s]
  by_cases q1 : (0 : Int32) ≤ a ∧ a ≤ 6
  · rw [if_pos q1, if_neg (show ¬ (1 : Int32) = 0 by decide)]
    by_cases q2 : (10 : Int32) ≤ b ∧ b ≤ 1000
    · rw [if_pos q2, if_neg (show ¬ (1 : Int32) = 0 by decide)]
      by_cases q3 : (5 : Int32) ≤ c ∧ c ≤ 100
      · exact absurd ⟨q1, q2, q3⟩ hf
      · rw [if_neg q3, if_pos (show (0 : Int32) = 0 from rfl), rf1, kc2_s, if_neg (show ¬ (1 : Int32) = 0 by decide)]
    · rw [if_neg q2, if_pos (show (0 : Int32) = 0 from rfl), rf1, kc2_s, if_neg (show ¬ (1 : Int32) = 0 by decide)]
  · rw [if_neg q1, if_pos (show (0 : Int32) = 0 from rfl), rf1, kc2_s, if_neg (show ¬ (1 : Int32) = 0 by decide)]
theorem r6_setQuotas {N : Nat} {m : zMem} {a b : Int32} (hf : ¬ okQ a b) : fX6_setQuotas N a b m = some (0, zsI m 0 4 1) := by
  simp only [fX6_setQuotas, kjn]
  rw [pX6_in, kc1_s, pX6_in, kc1_s]
  by_cases q1 : (1 : Int32) ≤ a ∧ a ≤ 4
  · rw [if_pos q1, if_neg (show ¬ (1 : Int32) = 0 by decide)]
    by_cases q2 : (1 : Int32) ≤ b ∧ b ≤ 32
    · exact absurd ⟨q1, q2⟩ hf
    · rw [if_neg q2, if_pos (show (0 : Int32) = 0 from rfl), rf1, kc2_s, if_neg (show ¬ (1 : Int32) = 0 by decide)]
  · rw [if_neg q1, if_pos (show (0 : Int32) = 0 from rfl), rf1, kc2_s, if_neg (show ¬ (1 : Int32) = 0 by decide)]
theorem r6_member {N : Nat} {m : zMem} {a q : Int32} (hf : ¬ okM a q) : fX6_member N a q m = some (0, zsI m 0 4 1) := by
  simp only [fX6_member, kjn]
  rw [id_iff, kc1_s, pX6_in, kc1_s]
  by_cases q1 : (0 : Int32) ≤ a ∧ a ≤ 255
  · rw [if_pos q1, if_neg (show ¬ (1 : Int32) = 0 by decide)]
    by_cases q2 : (0 : Int32) ≤ q ∧ q ≤ 4
    · exact absurd ⟨q1, q2⟩ hf
    · rw [if_neg q2, if_pos (show (0 : Int32) = 0 from rfl), rf1, kc2_s, if_neg (show ¬ (1 : Int32) = 0 by decide)]
  · rw [if_neg q1, if_pos (show (0 : Int32) = 0 from rfl), rf1, kc2_s, if_neg (show ¬ (1 : Int32) = 0 by decide)]
theorem r6_zeros {N : Nat} {m : zMem} {a b c : Int32} (hf : ¬ okZ a b c) : fX6_zeros N a b c m = some (0, zsI m 0 4 1) := by
  simp only [fX6_zeros, kjn]
  rw [id_iff, kc1_s, nonce_iff, kc1_s]
  by_cases q1 : (0 : Int32) ≤ a ∧ a ≤ 255
  · rw [if_pos q1, if_neg (show ¬ (1 : Int32) = 0 by decide)]
    by_cases q2 : (0 : Int32) ≤ b ∧ b ≤ 99999
    · rw [if_pos q2, if_neg (show ¬ (1 : Int32) = 0 by decide)]
      by_cases q3 : c < 0
      · rw [if_pos q3, rf1, kc2_s, if_neg (show ¬ (1 : Int32) = 0 by decide)]
      · exact absurd ⟨q1, q2, Int32.not_lt.mp q3⟩ hf
    · rw [if_neg q2, if_pos (show (0 : Int32) = 0 from rfl), rf1, kc2_s, if_neg (show ¬ (1 : Int32) = 0 by decide)]
  · rw [if_neg q1, if_pos (show (0 : Int32) = 0 from rfl), rf1, kc2_s, if_neg (show ¬ (1 : Int32) = 0 by decide)]
theorem r6_type1 {m : zMem} {a : Int32} (hf : ¬ (0 ≤ a ∧ a ≤ 127)) : fX6_type a m = some (0, zsI m 0 4 1) := by
  simp only [fX6_type, kjn, kgi]
  rw [pX6_in, if_neg hf, kc1_s, if_pos (show (0 : Int32) = 0 from rfl), rf1, kc2_s, if_neg (show ¬ (1 : Int32) = 0 by decide)]
theorem r6_type2 {m : zMem} {a : Int32} {f : Nat → Int32} (hf : 0 ≤ a ∧ a ≤ 127) (s : ScM m 120 f) : fX6_type a m = some (0, zsI m 0 4 2) := by
  have e : m.1 0 6 = 120 := s.1
  simp only [fX6_type, kjn, kgi]
  rw [pX6_in, if_pos hf, kc1_s, if_neg (show ¬ (1 : Int32) = 0 by decide), if_pos e, rf2, kc2_s, if_neg (show ¬ (1 : Int32) = 0 by decide)]
