/-! the class reads a command -/
theorem sp_len : ∀ i : Fin 4, sLn i.val >>> ((0 : Int32) &&& 31) = nI (kkL.getD i.val 0) := by decide +kernel
theorem sp_ch : ∀ i : Fin 4, ∀ j : Fin 5, j.val < kkL.getD i.val 0 → fJ1_charAt i.val (nI j.val) = some ((kkB.getD i.val []).getD j.val 0) := by decide +kernel
theorem kkL_5 : ∀ i : Fin 4, kkL.getD i.val 0 ≤ 5 := by decide
theorem fs_all {p : Nat → Bool} {n : Nat} (h : ∀ j, j < n → p j = false) : fs p n = n := fs_eq h (fun z => absurd z (by omega)) (Nat.le_refl _)
theorem spell_fs {N k p t i : Nat} {f : Nat → Int32} {m : zMem} (hN : 121 < N) (h : ScC m k f) (hp : p ≤ k) (ht : t ≤ p) (hi : i < 4) : fX1_spells N (nI t) i (zsI m 6 5 (nI p)) = some (if p = t + kkL.getD i 0 ∧ fs (fun j => !decide (f (t + j) = (kkB.getD i []).getD j 0)) (kkL.getD i 0) = kkL.getD i 0 then 1 else 0) := by
  have hk := h.2.1
  have el : sLn i >>> ((0 : Int32) &&& 31) = nI (kkL.getD i 0) := sp_len ⟨i, hi⟩
  have h5 : kkL.getD i 0 ≤ 5 := kkL_5 ⟨i, hi⟩
  have ch : ∀ j, j < kkL.getD i 0 → fJ1_charAt i (nI j) = some ((kkB.getD i []).getD j 0) := fun j hj => sp_ch ⟨i, hi⟩ ⟨j, by omega⟩ hj
  simp only [fX1_spells, kgi, kjn]
  rw [zsI_s, nI_sb ht, el]
  by_cases q : p = t + kkL.getD i 0
  · have e1 : p - t = kkL.getD i 0 := by omega
    rw [e1, if_pos rfl]
    have hq := fs_le (fun j => !decide (f (t + j) = (kkB.getD i []).getD j 0)) (kkL.getD i 0)
    refine klp_at (fun j => nI j) (fs (fun j => !decide (f (t + j) = (kkB.getD i []).getD j 0)) (kkL.getD i 0)) rfl (fun j hj rec => ?_) (fun rec => ?_) (by omega)
    · have hno := fs_no hj
      have hv : f (t + j) = (kkB.getD i []).getD j 0 := by simpa using hno
      simp only [sX1_spells_17]
      rw [el, if_neg (nI_ge (by omega) (by omega)), nI_add, kld_n (by omega) (by decide), zsI_n _ _ (by omega), h.2.2 _ (by omega), ch j (by omega), kc1_s, if_pos hv, nI_1]
    · simp only [sX1_spells_17]
      rw [el]
      by_cases q2 : fs (fun j => !decide (f (t + j) = (kkB.getD i []).getD j 0)) (kkL.getD i 0) = kkL.getD i 0
      · rw [if_pos (show p = t + kkL.getD i 0 ∧ fs (fun j => !decide (f (t + j) = (kkB.getD i []).getD j 0)) (kkL.getD i 0) = kkL.getD i 0 from ⟨q, q2⟩), q2, if_pos (nI_le (Nat.le_refl _) (by omega))]
      · have hat := fs_at (p := fun j => !decide (f (t + j) = (kkB.getD i []).getD j 0)) (n := kkL.getD i 0) (by omega)
        have hv : ¬ f (t + fs (fun j => !decide (f (t + j) = (kkB.getD i []).getD j 0)) (kkL.getD i 0)) = (kkB.getD i []).getD (fs (fun j => !decide (f (t + j) = (kkB.getD i []).getD j 0)) (kkL.getD i 0)) 0 := by
          have h2 : (!decide (f (t + fs (fun j => !decide (f (t + j) = (kkB.getD i []).getD j 0)) (kkL.getD i 0)) = (kkB.getD i []).getD (fs (fun j => !decide (f (t + j) = (kkB.getD i []).getD j 0)) (kkL.getD i 0)) 0)) = true := hat
          intro z
          rw [decide_eq_true z] at h2
          cases h2
        rw [if_neg (show ¬ (p = t + kkL.getD i 0 ∧ fs (fun j => !decide (f (t + j) = (kkB.getD i []).getD j 0)) (kkL.getD i 0) = kkL.getD i 0) from fun z => q2 z.2), if_neg (nI_ge (by omega) (by omega)), nI_add, kld_n (by omega) (by decide), zsI_n _ _ (by omega), h.2.2 _ (by omega), ch _ (by omega), kc1_s, if_neg hv]
  · rw [if_neg (show ¬ (p = t + kkL.getD i 0 ∧ fs (fun j => !decide (f (t + j) = (kkB.getD i []).getD j 0)) (kkL.getD i 0) = kkL.getD i 0) from fun z => q z.1), if_neg]
    intro z
    have := nI_inj (by omega) (by omega) z
    omega
theorem fs4 (p : Nat → Bool) : fs p 4 = 4 ↔ (p 0 = false ∧ p 1 = false ∧ p 2 = false ∧ p 3 = false) := by
  constructor
  · intro h
    exact ⟨fs_no (p := p) (n := 4) (by omega), fs_no (p := p) (n := 4) (by omega), fs_no (p := p) (n := 4) (by omega), fs_no (p := p) (n := 4) (by omega)⟩
  · rintro ⟨h0, h1, h2, h3⟩
    refine fs_all (fun j hj => ?_)
    rcases (by omega : j = 0 ∨ j = 1 ∨ j = 2 ∨ j = 3) with e | e | e | e <;> subst e <;> assumption
theorem fs5 (p : Nat → Bool) : fs p 5 = 5 ↔ (p 0 = false ∧ p 1 = false ∧ p 2 = false ∧ p 3 = false ∧ p 4 = false) := by
  constructor
  · intro h
    exact ⟨fs_no (p := p) (n := 5) (by omega), fs_no (p := p) (n := 5) (by omega), fs_no (p := p) (n := 5) (by omega), fs_no (p := p) (n := 5) (by omega), fs_no (p := p) (n := 5) (by omega)⟩
  · rintro ⟨h0, h1, h2, h3, h4⟩
    refine fs_all (fun j hj => ?_)
    rcases (by omega : j = 0 ∨ j = 1 ∨ j = 2 ∨ j = 3 ∨ j = 4) with e | e | e | e | e <;> subst e <;> assumption
theorem nd_f {a b : Int32} : ((!decide (a = b)) = false) ↔ a = b := by simp
theorem spell_0 (f : Nat → Int32) (t p : Nat) : (p = t + kkL.getD 0 0 ∧ fs (fun j => !decide (f (t + j) = (kkB.getD 0 []).getD j 0)) (kkL.getD 0 0) = kkL.getD 0 0) ↔ sp4 f t p 106 111 105 110 := and_congr Iff.rfl ((fs4 _).trans (and_congr nd_f (and_congr nd_f (and_congr nd_f nd_f))))
theorem spell_1 (f : Nat → Int32) (t p : Nat) : (p = t + kkL.getD 1 0 ∧ fs (fun j => !decide (f (t + j) = (kkB.getD 1 []).getD j 0)) (kkL.getD 1 0) = kkL.getD 1 0) ↔ sp5 f t p 108 101 97 118 101 := and_congr Iff.rfl ((fs5 _).trans (and_congr nd_f (and_congr nd_f (and_congr nd_f (and_congr nd_f nd_f)))))
theorem spell_2 (f : Nat → Int32) (t p : Nat) : (p = t + kkL.getD 2 0 ∧ fs (fun j => !decide (f (t + j) = (kkB.getD 2 []).getD j 0)) (kkL.getD 2 0) = kkL.getD 2 0) ↔ sp4 f t p 108 111 111 107 := and_congr Iff.rfl ((fs4 _).trans (and_congr nd_f (and_congr nd_f (and_congr nd_f nd_f))))
theorem spell_3 (f : Nat → Int32) (t p : Nat) : (p = t + kkL.getD 3 0 ∧ fs (fun j => !decide (f (t + j) = (kkB.getD 3 []).getD j 0)) (kkL.getD 3 0) = kkL.getD 3 0) ↔ sp4 f t p 116 105 99 107 := and_congr Iff.rfl ((fs4 _).trans (and_congr nd_f (and_congr nd_f (and_congr nd_f nd_f))))
theorem ite_iff {P Q : Prop} [Decidable P] [Decidable Q] (h : P ↔ Q) (a b : Int32) : (if P then a else b) = if Q then a else b := by
  by_cases q : Q
  · rw [if_pos q, if_pos (h.mpr q)]
  · rw [if_neg q, if_neg (fun z => q (h.mp z))]
theorem pX1_wordFrom {N k p t : Nat} {f : Nat → Int32} {m : zMem} (hN : 121 < N) (h : ScC m k f) (hp : p ≤ k) (ht : t ≤ p) : fX1_wordFrom N (nI t) (zsI m 6 5 (nI p)) = some (nI (wdA f t p) - 1) := by
  unfold fX1_wordFrom wdA
  rw [spell_fs hN h hp ht (i := 0) (by omega), kc1_s, ite_iff (spell_0 f t p), spell_fs hN h hp ht (i := 1) (by omega), kc1_s, ite_iff (spell_1 f t p), spell_fs hN h hp ht (i := 2) (by omega), kc1_s, ite_iff (spell_2 f t p), spell_fs hN h hp ht (i := 3) (by omega), kc1_s, ite_iff (spell_3 f t p)]
  by_cases q0 : sp4 f t p 106 111 105 110
  · rw [if_pos q0, if_pos q0, if_neg (show ¬ (1 : Int32) = 0 by decide)]; rfl
  · rw [if_neg q0, if_neg q0, if_pos (show (0 : Int32) = 0 from rfl)]
    by_cases q1 : sp5 f t p 108 101 97 118 101
    · rw [if_pos q1, if_pos q1, if_neg (show ¬ (1 : Int32) = 0 by decide)]; rfl
    · rw [if_neg q1, if_neg q1, if_pos (show (0 : Int32) = 0 from rfl)]
      by_cases q2 : sp4 f t p 108 111 111 107
      · rw [if_pos q2, if_pos q2, if_neg (show ¬ (1 : Int32) = 0 by decide)]; rfl
      · rw [if_neg q2, if_neg q2, if_pos (show (0 : Int32) = 0 from rfl)]
        by_cases q3 : sp4 f t p 116 105 99 107
        · rw [if_pos q3, if_pos q3, if_neg (show ¬ (1 : Int32) = 0 by decide)]; rfl
        · rw [if_neg q3, if_neg q3, if_pos (show (0 : Int32) = 0 from rfl)]; rfl
/-! the numbers of a command in the class: it stops at a sixth digit, where the reference stops a step later -/
def nfC (f : Nat → Int32) (k p n : Nat) : Nat := fs (fun i => !(rdB f k (npE f k p i) && rdX f k (npE f k p i))) n
theorem nfC_le (f : Nat → Int32) (k p n : Nat) : nfC f k p n ≤ n := fs_le _ _
theorem nfC_in {f : Nat → Int32} {k p n i : Nat} (h : i < nfC f k p n) : rdB f k (npE f k p i) = true ∧ rdX f k (npE f k p i) = true := by
  have := fs_no (p := fun i => !(rdB f k (npE f k p i) && rdX f k (npE f k p i))) (n := n) h
  simpa using this
theorem nfC_at {f : Nat → Int32} {k p n : Nat} (h : nfC f k p n < n) : ¬ (rdB f k (npE f k p (nfC f k p n)) = true ∧ rdX f k (npE f k p (nfC f k p n)) = true) := by
  have h2 : (!(rdB f k (npE f k p (nfC f k p n)) && rdX f k (npE f k p (nfC f k p n)))) = true := fs_at (p := fun i => !(rdB f k (npE f k p i) && rdX f k (npE f k p i))) (n := n) h
  intro z
  rw [z.1, z.2] at h2
  cases h2
theorem dg_sp {f : Nat → Int32} {j : Nat} (h : isDg f j = true) : isSp f j = false := by
  have hv : 48 ≤ f j ∧ f j ≤ 57 := of_decide_eq_true h
  unfold isSp
  refine decide_eq_false (fun z => ?_)
  rw [z] at hv
  exact absurd hv.1 (by decide)
theorem skP_0 {q : Nat → Bool} {k p : Nat} (h : q p = false) (hp : p ≤ k) : skP q k p = p := by
  unfold skP
  have : fs (fun i => !q (p + i)) (k - p) = 0 := by
    refine fs_eq (fun j hj => absurd hj (by omega)) (fun hj => ?_) (by omega)
    simpa using h
  omega
/-- where the class stops ahead of the end -/
theorem nfC_f {f : Nat → Int32} {k p : Nat} (hp : p ≤ k) (hw : rcW f k p ≠ 0) (h : nfC f k (rcT f k p) (rcN (rcW f k p)) < rcN (rcW f k p)) : ¬ rcB f k p = true ∧ rcE f k p = npE f k (rcT f k p) (nfC f k (rcT f k p) (rcN (rcW f k p)) + 1) := by
  have hT := rcT_le (f := f) hp
  have hat := nfC_at h
  generalize ej : nfC f k (rcT f k p) (rcN (rcW f k p)) = j at h hat ⊢
  have hin : ∀ i, i < j → rdB f k (npE f k (rcT f k p) i) = true := fun i hi => (nfC_in (n := rcN (rcW f k p)) (by omega)).1
  by_cases hB : rdB f k (npE f k (rcT f k p) j) = true
  · have hX : rdX f k (npE f k (rcT f k p) j) = false := by
      cases e : rdX f k (npE f k (rcT f k p) j)
      · rfl
      · exact absurd ⟨hB, e⟩ hat
    have hd : npE f k (rcT f k p) (j + 1) < k ∧ isDg f (npE f k (rcT f k p) (j + 1)) = true := by
      unfold rdX at hX
      have h2 : (decide (rdE f k (npE f k (rcT f k p) j) < k) && isDg f (rdE f k (npE f k (rcT f k p) j))) = true := by simpa using hX
      have h3 : rdE f k (npE f k (rcT f k p) j) < k ∧ isDg f (rdE f k (npE f k (rcT f k p) j)) = true := by simpa using h2
      exact h3
    have hsp := dg_sp hd.2
    by_cases hl : j + 1 = rcN (rcW f k p)
    · have hn : nfB f k (rcT f k p) (rcN (rcW f k p)) = rcN (rcW f k p) := fs_all (fun i hi => by
        have : rdB f k (npE f k (rcT f k p) i) = true := by
          by_cases q : i = j
          · rw [q]; exact hB
          · exact hin i (by omega)
        simpa using this)
      have hS : rcS f k p = npE f k (rcT f k p) (j + 1) := by
        unfold rcS
        rw [← hl]
        exact skP_0 hsp (by omega)
      have h59 : ¬ (rcS f k p < k ∧ f (rcS f k p) = 59) := by
        rw [hS]
        intro z
        have hv : 48 ≤ f (npE f k (rcT f k p) (j + 1)) ∧ f (npE f k (rcT f k p) (j + 1)) ≤ 57 := of_decide_eq_true hd.2
        rw [z.2] at hv
        exact absurd hv.2 (by decide)
      refine ⟨fun z => h59 (rcB_3 z).2.2, ?_⟩
      unfold rcE
      rw [if_neg hw, if_pos hn, if_neg h59, hS]
    · have hn : nfB f k (rcT f k p) (rcN (rcW f k p)) = j + 1 := fs_eq (fun i hi => by
        have : rdB f k (npE f k (rcT f k p) i) = true := by
          by_cases q : i = j
          · rw [q]; exact hB
          · exact hin i (by omega)
        simpa using this) (fun _ => by
        unfold rdB
        rw [hsp]
        simp) (by omega)
      refine ⟨fun z => ?_, ?_⟩
      · have := (rcB_3 z).2.1
        omega
      · unfold rcE
        rw [if_neg hw, if_neg (by omega), hn]
        show rdE f k (npE f k (rcT f k p) (j + 1)) = _
        unfold rdE
        rw [if_neg (fun z => by rw [hsp] at z; cases z.2)]
  · have hn : nfB f k (rcT f k p) (rcN (rcW f k p)) = j := fs_eq (fun i hi => by simpa using hin i hi) (fun _ => by simpa using hB) (by omega)
    refine ⟨fun z => ?_, ?_⟩
    · have := (rcB_3 z).2.1
      omega
    · unfold rcE
      rw [if_neg hw, if_neg (by omega), hn]
theorem nfC_e {f : Nat → Int32} {k p n : Nat} (h : nfC f k p n = n) : nfB f k p n = n := fs_all (fun i hi => by
  have := (nfC_in (f := f) (k := k) (p := p) (n := n) (i := i) (by omega)).1
  simpa using this)
theorem pX1_numbersOf {w : Nat} (h1 : w ≠ 0) (h4 : w ≤ 4) : fX1_numbersOf (nI w - 1) = some (nI (rcN w)) := by
  rcases (by omega : w = 1 ∨ w = 2 ∨ w = 3 ∨ w = 4) with e | e | e | e <;> subst e <;> rfl
