/-! reading one command as a whole -/
theorem pX6_reads {N k p : Nat} {f : Nat → Int32} {m : zMem} (hN : 121 < N) (h : ScM m k f) (hp : p ≤ k) : ∃ m' : zMem, fX6_reads N (zsI m 0 11 (nI p)) = some (if rcB f k p = true then 1 else 0, zsI m' 0 11 (nI (rcE f k p))) ∧ m'.2 = m.2 ∧ (∀ c, c ≠ 6 → c ≠ 0 → m'.1 c = m.1 c) ∧ (∀ j, j ≠ 12 → m'.1 0 j = m.1 0 j) ∧ m'.1 0 12 = nI (rcW f k p) ∧ (rcB f k p = true → ∀ j, j < rcN (rcW f k p) → m'.1 6 j = rdV f k (npE f k (rcT f k p) j)) := by
  have hT := skP_le (q := isLt f) hp
  have eT : skP (isLt f) k p = rcT f k p := rfl
  have hw4 := wdA_le f p (rcT f k p)
  have h3 := rcN_le (rcW f k p)
  rw [eT] at hT
  simp only [fX6_reads, kgi, kpi, kjn]
  rw [zsI_s, reads_lt hN h hp, eT, pX6_spells4 h hT.1 hT.2, kc1_s, pX6_spells4 h hT.1 hT.2, kc1_s, pX6_spells5 h hT.1 hT.2, kc1_s, pX6_spells4 h hT.1 hT.2, kc1_s]
  have body : ∀ w : Nat, w ≤ 4 → rcW f k p = w → ∃ m' : zMem, (if (zsI (zsI m 0 11 (nI (rcT f k p))) 0 12 (nI w)).1 0 12 = 0 then some (0, zsI (zsI (zsI m 0 11 (nI (rcT f k p))) 0 12 (nI w)) 0 11 (nI p)) else if (zsI (zsI m 0 11 (nI (rcT f k p))) 0 12 (nI w)).1 0 12 = 1 then klp (sX6_reads_168 N 3 fun m10 => kc2 (fX6_skips N m10) fun v11 m12 => kc1 (fX6_isAt 59 59 m12) fun v13 => if v13 = 0 then kbz v13 (some (v13, zsI m12 0 11 (m12.1 0 11 + 0))) else kbz v13 (some (v13, zsI m12 0 11 (m12.1 0 11 + 1)))) N (0, zsI (zsI m 0 11 (nI (rcT f k p))) 0 12 (nI w)) else if (zsI (zsI m 0 11 (nI (rcT f k p))) 0 12 (nI w)).1 0 12 = 3 then klp (sX6_reads_168 N 2 fun m10 => kc2 (fX6_skips N m10) fun v11 m12 => kc1 (fX6_isAt 59 59 m12) fun v13 => if v13 = 0 then kbz v13 (some (v13, zsI m12 0 11 (m12.1 0 11 + 0))) else kbz v13 (some (v13, zsI m12 0 11 (m12.1 0 11 + 1)))) N (0, zsI (zsI m 0 11 (nI (rcT f k p))) 0 12 (nI w)) else klp (sX6_reads_168 N 1 fun m10 => kc2 (fX6_skips N m10) fun v11 m12 => kc1 (fX6_isAt 59 59 m12) fun v13 => if v13 = 0 then kbz v13 (some (v13, zsI m12 0 11 (m12.1 0 11 + 0))) else kbz v13 (some (v13, zsI m12 0 11 (m12.1 0 11 + 1)))) N (0, zsI (zsI m 0 11 (nI (rcT f k p))) 0 12 (nI w))) = some (if rcB f k p = true then 1 else 0, zsI m' 0 11 (nI (rcE f k p))) ∧ m'.2 = m.2 ∧ (∀ c, c ≠ 6 → c ≠ 0 → m'.1 c = m.1 c) ∧ (∀ j, j ≠ 12 → m'.1 0 j = m.1 0 j) ∧ m'.1 0 12 = nI (rcW f k p) ∧ (rcB f k p = true → ∀ j, j < rcN (rcW f k p) → m'.1 6 j = rdV f k (npE f k (rcT f k p) j)) := by
    intro w hw ew
    rw [zsI_s, zsI_cm m (a := 0) (j := 11) (b := 0) (k := 12) _ _ (by omega)]
    have hS : ScM (zsI m 0 12 (nI w)) k f := ScM_I h (by omega) (by omega)
    by_cases q0 : w = 0
    · subst q0
      have hB : ¬ rcB f k p = true := fun z => by unfold rcB at z; rw [ew] at z; simp at z
      rw [if_pos (show nI 0 = 0 from rfl), zsI_zz, if_neg hB]
      refine ⟨zsI m 0 12 (nI 0), ?_, rfl, fun c _ hc => zsI_ne _ _ _ hc, fun j hj => zsI_n _ _ (by omega), by rw [zsI_s, ew], fun z => absurd z hB⟩
      unfold rcE
      rw [if_pos ew]
    · have ne0 : ¬ nI w = 0 := fun z => q0 (nI_inj (by omega) (by omega) (z.trans nn0))
      rw [if_neg ne0]
      have step : ∀ n, n = rcN w → n ≤ 3 → ∃ m' : zMem, klp (sX6_reads_168 N (nI n) fun m10 => kc2 (fX6_skips N m10) fun v11 m12 => kc1 (fX6_isAt 59 59 m12) fun v13 => if v13 = 0 then kbz v13 (some (v13, zsI m12 0 11 (m12.1 0 11 + 0))) else kbz v13 (some (v13, zsI m12 0 11 (m12.1 0 11 + 1)))) N (0, zsI (zsI m 0 12 (nI w)) 0 11 (nI (rcT f k p))) = some (if rcB f k p = true then 1 else 0, zsI m' 0 11 (nI (rcE f k p))) ∧ m'.2 = m.2 ∧ (∀ c, c ≠ 6 → c ≠ 0 → m'.1 c = m.1 c) ∧ (∀ j, j ≠ 12 → m'.1 0 j = m.1 0 j) ∧ m'.1 0 12 = nI (rcW f k p) ∧ (rcB f k p = true → ∀ j, j < rcN (rcW f k p) → m'.1 6 j = rdV f k (npE f k (rcT f k p) j)) := by
        intro n en hn
        obtain ⟨y, e1, y1, y2, y3⟩ := reads_nb (N := N) (n := n) hN hS hT.1 hn (fun m10 => kc2 (fX6_skips N m10) fun v11 m12 => kc1 (fX6_isAt 59 59 m12) fun v13 => if v13 = 0 then kbz v13 (some (v13, zsI m12 0 11 (m12.1 0 11 + 0))) else kbz v13 (some (v13, zsI m12 0 11 (m12.1 0 11 + 1))))
        refine ⟨y, ?_, y1, fun c h6 h0 => by rw [y2 c h6, zsI_ne _ _ _ h0], fun j hj => by rw [y2 0 (by omega), zsI_n _ _ (by omega)], by rw [y2 0 (by omega), zsI_s, ew], fun z j hj => ?_⟩
        · rw [e1]
          by_cases q : nfB f k (rcT f k p) n = n
          · rw [if_pos q, reads_end hN (ScM_6 hS y2) (npE_le hT.1 n)]
            have eS : skP (isSp f) k (npE f k (rcT f k p) n) = rcS f k p := by unfold rcS; rw [ew, en]
            rw [eS]
            unfold rcE rcB
            rw [ew, ← en, if_neg q0, if_pos q, decide_eq_true q, decide_eq_true q0]
            by_cases q2 : rcS f k p < k ∧ f (rcS f k p) = 59
            · rw [if_pos q2, decide_eq_true q2]; rfl
            · rw [if_neg q2, decide_eq_false q2]; rfl
          · have hB : ¬ rcB f k p = true := fun z => by unfold rcB at z; rw [ew, ← en, decide_eq_false q] at z; simp at z
            rw [if_neg q, if_neg hB]
            unfold rcE
            rw [ew, ← en, if_neg q0, if_neg q]
        · unfold rcB at z
          simp only [Bool.and_eq_true, decide_eq_true_eq] at z
          have z2 := z.1.2
          rw [ew, ← en] at z2
          rw [ew, ← en] at hj
          exact y3 j (by omega)
      rcases (by omega : w = 1 ∨ w = 2 ∨ w = 3 ∨ w = 4) with e | e | e | e <;> subst e
      · rw [if_pos (show nI 1 = 1 from rfl)]; exact step 3 rfl (by omega)
      · rw [if_neg (show ¬ nI 2 = 1 by decide), if_neg (show ¬ nI 2 = 3 by decide)]; exact step 1 rfl (by omega)
      · rw [if_neg (show ¬ nI 3 = 1 by decide), if_pos (show nI 3 = 3 from rfl)]; exact step 2 rfl (by omega)
      · rw [if_neg (show ¬ nI 4 = 1 by decide), if_neg (show ¬ nI 4 = 3 by decide)]; exact step 1 rfl (by omega)
  have wd : rcW f k p = wdA f p (rcT f k p) := rfl
  unfold wdA at wd
  by_cases j1 : sp4 f p (rcT f k p) 106 111 105 110
  · rw [if_pos j1] at wd ⊢
    exact body 1 (by omega) wd
  · rw [if_neg j1] at wd ⊢
    by_cases j2 : sp5 f p (rcT f k p) 108 101 97 118 101
    · rw [if_pos j2] at wd ⊢
      exact body 2 (by omega) wd
    · rw [if_neg j2] at wd ⊢
      by_cases j3 : sp4 f p (rcT f k p) 108 111 111 107
      · rw [if_pos j3] at wd ⊢
        exact body 3 (by omega) wd
      · rw [if_neg j3] at wd ⊢
        by_cases j4 : sp4 f p (rcT f k p) 116 105 99 107
        · rw [if_pos j4] at wd ⊢
          exact body 4 (by omega) wd
        · rw [if_neg j4] at wd ⊢
          exact body 0 (by omega) wd
