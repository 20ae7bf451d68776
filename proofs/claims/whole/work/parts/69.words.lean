/-! words of a script -/
abbrev sp4 (f : Nat → Int32) (t p : Nat) (c0 c1 c2 c3 : Int32) : Prop := p = t + 4 ∧ f t = c0 ∧ f (t + 1) = c1 ∧ f (t + 2) = c2 ∧ f (t + 3) = c3
abbrev sp5 (f : Nat → Int32) (t p : Nat) (c0 c1 c2 c3 c4 : Int32) : Prop := p = t + 5 ∧ f t = c0 ∧ f (t + 1) = c1 ∧ f (t + 2) = c2 ∧ f (t + 3) = c3 ∧ f (t + 4) = c4
theorem spells_ld {k p t i : Nat} {f : Nat → Int32} {m : zMem} (h : ScM m k f) (hp : p ≤ k) (hi : t + i < p) (g : Int32 → Option Int32) : kld (zsI m 0 11 (nI p)) 4 120 (nI t + nI i) g = g (f (t + i)) := by
  have := h.2.1
  rw [nI_add, kld_n (by omega) (by decide), zsI_n _ _ (by omega), h.2.2 _ (by omega)]
theorem pX6_spells4 {k p t : Nat} {f : Nat → Int32} {m : zMem} {c0 c1 c2 c3 c4 : Int32} (h : ScM m k f) (hp : p ≤ k) (ht : t ≤ p) : fX6_spells (nI t) 4 c0 c1 c2 c3 c4 (zsI m 0 11 (nI p)) = some (if sp4 f t p c0 c1 c2 c3 then 1 else 0) := by
  have hk := h.2.1
  simp only [fX6_spells, kgi, kjn]
  rw [zsI_s, nI_sb ht]
  by_cases q : p = t + 4
  · have e4 : nI (p - t) = 4 := by rw [show p - t = 4 by omega]; rfl
    have l0 : ∀ g : Int32 → Option Int32, kld (zsI m 0 11 (nI p)) 4 120 (nI t) g = g (f t) := fun g => by
      rw [kld_n (by omega) (by decide), zsI_n _ _ (by omega), h.2.2 _ (by omega)]
    rw [if_pos e4, l0]
    by_cases q0 : f t = c0
    · rw [if_pos q0, nn1, spells_ld h hp (by omega)]
      by_cases q1 : f (t + 1) = c1
      · rw [if_pos q1, nn2, spells_ld h hp (by omega)]
        by_cases q2 : f (t + 2) = c2
        · rw [if_pos q2, nn3, spells_ld h hp (by omega)]
          by_cases q3 : f (t + 3) = c3
          · rw [if_pos q3, if_pos (show sp4 f t p c0 c1 c2 c3 from ⟨q, q0, q1, q2, q3⟩)]; rfl
          · rw [if_neg q3, if_neg (show ¬ sp4 f t p c0 c1 c2 c3 from fun z => q3 z.2.2.2.2)]; rfl
        · rw [if_neg q2, if_neg (show ¬ sp4 f t p c0 c1 c2 c3 from fun z => q2 z.2.2.2.1)]; rfl
      · rw [if_neg q1, if_neg (show ¬ sp4 f t p c0 c1 c2 c3 from fun z => q1 z.2.2.1)]; rfl
    · rw [if_neg q0, if_neg (show ¬ sp4 f t p c0 c1 c2 c3 from fun z => q0 z.2.1)]; rfl
  · have e4 : ¬ nI (p - t) = 4 := fun z => by have := nI_inj (by omega) (by omega) (z.trans nn4); omega
    rw [if_neg e4, if_neg (show ¬ sp4 f t p c0 c1 c2 c3 from fun z => q z.1)]; rfl
theorem pX6_spells5 {k p t : Nat} {f : Nat → Int32} {m : zMem} {c0 c1 c2 c3 c4 : Int32} (h : ScM m k f) (hp : p ≤ k) (ht : t ≤ p) : fX6_spells (nI t) 5 c0 c1 c2 c3 c4 (zsI m 0 11 (nI p)) = some (if sp5 f t p c0 c1 c2 c3 c4 then 1 else 0) := by
  have hk := h.2.1
  simp only [fX6_spells, kgi, kjn]
  rw [zsI_s, nI_sb ht]
  by_cases q : p = t + 5
  · have e4 : nI (p - t) = 5 := by rw [show p - t = 5 by omega]; rfl
    have l0 : ∀ g : Int32 → Option Int32, kld (zsI m 0 11 (nI p)) 4 120 (nI t) g = g (f t) := fun g => by
      rw [kld_n (by omega) (by decide), zsI_n _ _ (by omega), h.2.2 _ (by omega)]
    have l4 : ∀ g : Int32 → Option Int32, kld (zsI m 0 11 (nI p)) 4 120 (nI t + 4) g = g (f (t + 4)) := fun g => by
      rw [nn4, spells_ld h hp (by omega)]
    rw [if_pos e4, l0, l4]
    by_cases q0 : f t = c0
    · rw [if_pos q0, nn1, spells_ld h hp (by omega)]
      by_cases q1 : f (t + 1) = c1
      · rw [if_pos q1, nn2, spells_ld h hp (by omega)]
        by_cases q2 : f (t + 2) = c2
        · rw [if_pos q2, nn3, spells_ld h hp (by omega)]
          by_cases q3 : f (t + 3) = c3
          · rw [if_pos q3]
            by_cases q4 : f (t + 4) = c4
            · rw [if_pos q4, if_pos (show sp5 f t p c0 c1 c2 c3 c4 from ⟨q, q0, q1, q2, q3, q4⟩)]; rfl
            · rw [if_neg q4, if_neg (show ¬ sp5 f t p c0 c1 c2 c3 c4 from fun z => q4 z.2.2.2.2.2)]; rfl
          · rw [if_neg q3, if_neg (show ¬ sp5 f t p c0 c1 c2 c3 c4 from fun z => q3 z.2.2.2.2.1)]; rfl
        · rw [if_neg q2, if_neg (show ¬ sp5 f t p c0 c1 c2 c3 c4 from fun z => q2 z.2.2.2.1)]; rfl
      · rw [if_neg q1, if_neg (show ¬ sp5 f t p c0 c1 c2 c3 c4 from fun z => q1 z.2.2.1)]; rfl
    · rw [if_neg q0, if_neg (show ¬ sp5 f t p c0 c1 c2 c3 c4 from fun z => q0 z.2.1)]; rfl
  · have e4 : ¬ nI (p - t) = 5 := fun z => by have := nI_inj (by omega) (by omega) (z.trans nn5); omega
    rw [if_neg e4, if_neg (show ¬ sp5 f t p c0 c1 c2 c3 c4 from fun z => q z.1)]; rfl
/-- the word from t up to p: 0 none, 1 join, 2 leave, 3 look, 4 tick -/
def wdA (f : Nat → Int32) (t p : Nat) : Nat :=
  if sp4 f t p 106 111 105 110 then 1 else if sp5 f t p 108 101 97 118 101 then 2 else if sp4 f t p 108 111 111 107 then 3 else if sp4 f t p 116 105 99 107 then 4 else 0
