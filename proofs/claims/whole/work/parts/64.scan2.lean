/-! numbers in a script -/
theorem zsI_cm (m : zMem) {a j b k : Nat} (x y : Int32) (h : ¬ (b = a ∧ k = j)) : zsI (zsI m a j x) b k y = zsI (zsI m b k y) a j x := by
  unfold zsI
  refine congrArg (fun z => (z, m.2)) ?_
  funext c i
  by_cases e1 : c = a ∧ i = j
  · by_cases e2 : c = b ∧ i = k
    · exact absurd ⟨by omega, by omega⟩ h
    · simp [e1, e2]
      intro q1 q2
      exact absurd ⟨by omega, by omega⟩ h
  · by_cases e2 : c = b ∧ i = k
    · simp [e2]
      intro q1 q2
      exact absurd ⟨q1, q2⟩ h
    · simp [e1, e2]
theorem ScC_I {m : zMem} {k a j : Nat} {f : Nat → Int32} {v : Int32} (h : ScC m k f) (h1 : ¬ (a = 6 ∧ j = 1)) (h2 : a ≠ 7) : ScC (zsI m a j v) k f := ⟨by rw [zsI_n _ _ (by omega)]; exact h.1, h.2.1, fun i hi => by rw [zsI_n _ _ (by omega)]; exact h.2.2 i hi⟩
theorem ScM_I {m : zMem} {k a j : Nat} {f : Nat → Int32} {v : Int32} (h : ScM m k f) (h1 : ¬ (a = 0 ∧ j = 6)) (h2 : a ≠ 4) : ScM (zsI m a j v) k f := ⟨by rw [zsI_n _ _ (by omega)]; exact h.1, h.2.1, fun i hi => by rw [zsI_n _ _ (by omega)]; exact h.2.2 i hi⟩
/-- reading a number from p: where it ends, whether it stands there, its value -/
def rdP (f : Nat → Int32) (k p : Nat) : Nat := skP (isSp f) k p
def rdE (f : Nat → Int32) (k p : Nat) : Nat := if p < k ∧ isSp f p = true then rdP f k p + ndg f k (rdP f k p) else p
def rdB (f : Nat → Int32) (k p : Nat) : Bool := decide (p < k) && isSp f p && decide (0 < ndg f k (rdP f k p))
def rdV (f : Nat → Int32) (k p : Nat) : Int32 := nmv f (rdP f k p) (ndg f k (rdP f k p))
/-- nothing follows that would make the number longer -/
def rdX (f : Nat → Int32) (k p : Nat) : Bool := !(decide (rdE f k p < k) && isDg f (rdE f k p))
theorem pk_sp (f : Nat → Int32) (k p : Nat) : (pk f k p = 32) ↔ (p < k ∧ isSp f p = true) := by
  unfold pk isSp
  by_cases q : p < k
  · rw [if_pos q]
    exact ⟨fun z => ⟨q, decide_eq_true z⟩, fun z => of_decide_eq_true z.2⟩
  · rw [if_neg q]
    exact ⟨fun z => absurd z (by decide), fun z => absurd z.1 q⟩
theorem ndg_0 {f : Nat → Int32} {k p : Nat} : (0 < ndg f k p) ↔ (p < k ∧ isDg f p = true) := by
  constructor
  · intro h
    exact ndg_in (i := 0) h
  · intro h
    apply Nat.pos_of_ne_zero
    intro z
    have := ndg_at (f := f) (k := k) (p := p) (by omega)
    rw [z] at this
    exact this h
theorem rdE_le {f : Nat → Int32} {k p : Nat} (hp : p ≤ k) : rdE f k p ≤ k ∧ p ≤ rdE f k p := by
  unfold rdE
  have h1 := skP_le (q := isSp f) hp
  split
  · have := ndg_k (f := f) (k := k) (p := rdP f k p) h1.1
    unfold rdP at *
    omega
  · omega
/-- the class's: the number lies in its place if it stands there -/
theorem pX1_readNumber {N k p sp : Nat} {f : Nat → Int32} {m : zMem} (hN : 121 < N) (h : ScC m k f) (hp : p ≤ k) (hsp : sp < 60) : fX1_readNumber N (nI sp) (zsI m 6 5 (nI p)) = some (if rdB f k p = true ∧ rdX f k p = true then 1 else 0, if rdB f k p = true then zsI (zsI m 9 sp (rdV f k p)) 6 5 (nI (rdE f k p)) else zsI m 6 5 (nI (rdE f k p))) := by
  have hr := skP_le (q := isSp f) hp
  simp only [fX1_readNumber, kjn]
  rw [pX1_peek h hp, kc1_s]
  by_cases q1 : p < k ∧ isSp f p = true
  · have eE : rdE f k p = rdP f k p + ndg f k (rdP f k p) := if_pos q1
    rw [if_pos ((pk_sp f k p).mpr q1), pX1_skipSpaces hN h hp, kc1_s, pX1_peek h hr.1, kc1_s, pX1_isDigit, kc1_s]
    have eR : skP (isSp f) k p = rdP f k p := rfl
    rw [eR] at hr ⊢
    by_cases q2 : rdP f k p < k ∧ isDg f (rdP f k p) = true
    · have hB : rdB f k p = true := by unfold rdB; rw [decide_eq_true q1.1, q1.2, decide_eq_true (ndg_0.mpr q2)]; rfl
      have hk := ndg_k (f := f) hr.1
      have h5 := ndg_le f k (rdP f k p)
      rw [if_pos ((pk_dg f k _).mpr q2), if_neg (by decide), if_pos hB]
      have fin : ∀ rec, sX1_readNumber_31 (fun w5 m6 => kst m6 9 60 (nI sp) w5 fun m7 => kc1 (fX1_peek m7) fun v8 => kc1 (fX1_isDigit v8) fun v9 => if v9 = 0 then some (1, m7) else some (0, m7)) rec (nmv f (rdP f k p) (ndg f k (rdP f k p)), nI (ndg f k (rdP f k p)), zsI m 6 5 (nI (rdP f k p + ndg f k (rdP f k p)))) = some (if rdB f k p = true ∧ rdX f k p = true then 1 else 0, zsI (zsI m 9 sp (rdV f k p)) 6 5 (nI (rdE f k p))) := by
        intro rec
        have tail : (kst (zsI m 6 5 (nI (rdP f k p + ndg f k (rdP f k p)))) 9 60 (nI sp) (nmv f (rdP f k p) (ndg f k (rdP f k p))) fun m7 => kc1 (fX1_peek m7) fun v8 => kc1 (fX1_isDigit v8) fun v9 => if v9 = 0 then some ((1 : Int32), m7) else some (0, m7)) = some (if rdB f k p = true ∧ rdX f k p = true then 1 else 0, zsI (zsI m 9 sp (rdV f k p)) 6 5 (nI (rdE f k p))) := by
          rw [kst_n hsp (by decide), zsI_cm _ _ _ (by omega), ← eE, pX1_peek (ScC_I h (by omega) (by omega)) (by omega), kc1_s, pX1_isDigit, kc1_s]
          by_cases q3 : rdE f k p < k ∧ isDg f (rdE f k p) = true
          · have hX : rdX f k p = false := by unfold rdX; rw [decide_eq_true q3.1, q3.2]; rfl
            rw [if_pos ((pk_dg f k _).mpr q3), if_neg (by decide), if_neg (fun z => by rw [hX] at z; cases z.2)]; rfl
          · have hX : rdX f k p = true := by
              unfold rdX
              cases e : (decide (rdE f k p < k) && isDg f (rdE f k p))
              · rfl
              · simp only [Bool.and_eq_true, decide_eq_true_eq] at e
                exact absurd e q3
            rw [if_neg (fun z => q3 ((pk_dg f k _).mp z)), if_pos rfl, if_pos ⟨hB, hX⟩]; rfl
        simp only [sX1_readNumber_31, klt, kgi, kpi]
        by_cases q4 : ndg f k (rdP f k p) = 5
        · rw [nn5, if_pos (nI_le (by omega) (by omega))]
          exact tail
        · rw [nn5, if_neg (nI_ge (by omega) (by omega)), pX1_peek h (by omega), kc1_s, pX1_isDigit, kc1_s, if_neg (fun z => ndg_at (by omega) ((pk_dg f k _).mp z)), if_pos rfl]
          exact tail
      refine klp_at (fun i => (nmv f (rdP f k p) i, nI i, zsI m 6 5 (nI (rdP f k p + i)))) (ndg f k (rdP f k p)) rfl (fun i hi rec => ?_) fin (by omega)
      have hd := ndg_in hi
      simp only [sX1_readNumber_31, klt, kgi, kpi]
      rw [nn5, if_neg (nI_ge (by omega) (by omega)), pX1_peek h (by omega), kc1_s, pX1_isDigit, kc1_s, if_pos ((pk_dg f k _).mpr hd), if_neg (by decide), kc1_s, zsI_s, nI_1, nI_1, zsI_zz]
      unfold pk
      rw [if_pos hd.1]; rfl
    · have hB : rdB f k p = false := by
        unfold rdB
        rw [decide_eq_false (fun z => q2 (ndg_0.mp z)), Bool.and_false]
      have h0 : ndg f k (rdP f k p) = 0 := by
        apply Nat.eq_zero_of_not_pos
        exact fun z => q2 (ndg_0.mp z)
      have hB1 : ¬ rdB f k p = true := fun z => by rw [hB] at z; cases z
      rw [if_neg (fun z => q2 ((pk_dg f k _).mp z)), if_pos rfl, if_neg (fun z => hB1 z.1), if_neg hB1, eE, h0]; rfl
  · have eE : rdE f k p = p := if_neg q1
    have hB1 : ¬ rdB f k p = true := fun z => by
      unfold rdB at z
      simp only [Bool.and_eq_true, decide_eq_true_eq] at z
      exact q1 ⟨z.1.1, z.1.2⟩
    rw [if_neg (fun z => q1 ((pk_sp f k p).mp z)), if_neg (fun z => hB1 z.1), if_neg hB1, eE]
/-! the reference's -/
theorem pX6_isAt {k p : Nat} {f : Nat → Int32} {m : zMem} {lo hi : Int32} (h : ScM m k f) (hp : p ≤ k) : fX6_isAt lo hi (zsI m 0 11 (nI p)) = some (if p < k ∧ lo ≤ f p ∧ f p ≤ hi then 1 else 0) := by
  obtain ⟨h1, h2, h3⟩ := h
  simp only [fX6_isAt, kgi]
  rw [zsI_s, zsI_n _ _ (by omega), h1]
  by_cases q : p < k
  · rw [if_neg (nI_ge q (by omega)), kld_n (by omega) (by decide), zsI_n _ _ (by omega), h3 _ q, pX6_in, kc1_s]
    by_cases q2 : lo ≤ f p ∧ f p ≤ hi
    · rw [if_pos q2, if_neg (by decide), if_pos ⟨q, q2⟩]
    · rw [if_neg q2, if_pos rfl, if_neg (fun z => q2 z.2)]
  · rw [if_pos (nI_le (by omega) (by omega)), if_neg (fun z => q z.1)]
theorem at32 (f : Nat → Int32) (k p : Nat) : (p < k ∧ (32 : Int32) ≤ f p ∧ f p ≤ 32) ↔ (p < k ∧ isSp f p = true) := by
  unfold isSp
  exact ⟨fun z => ⟨z.1, decide_eq_true (Int32.le_antisymm z.2.2 z.2.1)⟩, fun z => ⟨z.1, by rw [of_decide_eq_true z.2]; exact ⟨Int32.le_refl _, Int32.le_refl _⟩⟩⟩
theorem at48 (f : Nat → Int32) (k p : Nat) : (p < k ∧ (48 : Int32) ≤ f p ∧ f p ≤ 57) ↔ (p < k ∧ isDg f p = true) := by
  unfold isDg
  exact ⟨fun z => ⟨z.1, decide_eq_true z.2⟩, fun z => ⟨z.1, of_decide_eq_true z.2⟩⟩
theorem pX6_skips {N k p : Nat} {f : Nat → Int32} {m : zMem} (hN : 121 < N) (h : ScM m k f) (hp : p ≤ k) : fX6_skips N (zsI m 0 11 (nI p)) = some (if p < k ∧ isSp f p = true then 1 else 0, zsI m 0 11 (nI (skP (isSp f) k p))) := by
  have hle := fs_le (fun i => !isSp f (p + i)) (k - p)
  have hk := h.2.1
  simp only [fX6_skips, kjn]
  rw [pX6_isAt h hp, kc1_s]
  have ev : (if p < k ∧ (32 : Int32) ≤ f p ∧ f p ≤ 32 then (1 : Int32) else 0) = if p < k ∧ isSp f p = true then 1 else 0 := by
    by_cases q : p < k ∧ isSp f p = true
    · rw [if_pos q, if_pos ((at32 f k p).mpr q)]
    · rw [if_neg q, if_neg (fun z => q ((at32 f k p).mp z))]
  rw [ev]
  refine klp_at (fun i => zsI m 0 11 (nI (p + i))) (fs (fun i => !isSp f (p + i)) (k - p)) rfl (fun i hi rec => ?_) (fun rec => ?_) (by omega)
  · have hno : isSp f (p + i) = true := by simpa using fs_no hi
    simp only [sX6_skips_9, kgi, kpi]
    rw [pX6_isAt h (by omega), kc1_s, if_pos ((at32 f k _).mpr ⟨by omega, hno⟩), if_neg (by decide), zsI_s, nI_1, zsI_zz]; rfl
  · simp only [sX6_skips_9, kgi, kpi]
    have hn : ¬ (p + fs (fun i => !isSp f (p + i)) (k - p) < k ∧ isSp f (p + fs (fun i => !isSp f (p + i)) (k - p)) = true) := fun z => by
      have := fs_at (p := fun i => !isSp f (p + i)) (n := k - p) (by omega)
      simp at this
      rw [this] at z; cases z.2
    rw [pX6_isAt h (by omega), kc1_s, if_neg (fun z => hn ((at32 f k _).mp z)), if_pos rfl, kbz_i]; rfl
theorem pX6_readsNumber {N k p : Nat} {f : Nat → Int32} {m : zMem} (hN : 121 < N) (h : ScM m k f) (hp : p ≤ k) : fX6_readsNumber N (zsI m 0 11 (nI p)) = some (if rdB f k p = true then rdV f k p else -1, zsI m 0 11 (nI (rdE f k p))) := by
  have hr := skP_le (q := isSp f) hp
  simp only [fX6_readsNumber, kjn]
  rw [pX6_skips hN h hp, kc2_s]
  have eR : skP (isSp f) k p = rdP f k p := rfl
  rw [eR] at hr ⊢
  by_cases q1 : p < k ∧ isSp f p = true
  · have eE : rdE f k p = rdP f k p + ndg f k (rdP f k p) := if_pos q1
    rw [if_pos q1, if_neg (by decide), pX6_isAt h hr.1, kc1_s]
    by_cases q2 : rdP f k p < k ∧ isDg f (rdP f k p) = true
    · have hB : rdB f k p = true := by unfold rdB; rw [decide_eq_true q1.1, q1.2, decide_eq_true (ndg_0.mpr q2)]; rfl
      have hk := ndg_k (f := f) hr.1
      have h5 := ndg_le f k (rdP f k p)
      have h12 := h.2.1
      rw [if_pos ((at48 f k _).mpr q2), if_neg (by decide), if_pos hB, eE]
      refine klp_at (fun i => (nmv f (rdP f k p) i, nI i, zsI m 0 11 (nI (rdP f k p + i)))) (ndg f k (rdP f k p)) rfl (fun i hi rec => ?_) (fun rec => ?_) (by omega)
      · have hd := ndg_in hi
        simp only [sX6_readsNumber_24, klt, kgi, kpi]
        rw [nn5, if_neg (nI_ge (by omega) (by omega)), pX6_isAt h (by omega), kc1_s, if_pos ((at48 f k _).mpr hd), if_neg (by decide), zsI_s, kld_n (by omega) (by decide), zsI_n _ _ (by omega), h.2.2 _ hd.1, nI_1, nI_1, zsI_zz]
        show rec (10 * nmv f (rdP f k p) i + f (rdP f k p + i) - 48, _) = rec (10 * nmv f (rdP f k p) i + (f (rdP f k p + i) - 48), _)
        rw [Int32.sub_eq_add_neg, Int32.sub_eq_add_neg, Int32.add_assoc]; rfl
      · simp only [sX6_readsNumber_24, klt, kgi, kpi]
        by_cases q4 : ndg f k (rdP f k p) = 5
        · rw [nn5, if_pos (nI_le (by omega) (by omega))]; rfl
        · rw [nn5, if_neg (nI_ge (by omega) (by omega)), pX6_isAt h (by omega), kc1_s, if_neg (fun z => ndg_at (by omega) ((at48 f k _).mp z)), if_pos rfl]; rfl
    · have h0 : ndg f k (rdP f k p) = 0 := by
        apply Nat.eq_zero_of_not_pos
        exact fun z => q2 (ndg_0.mp z)
      have hB1 : ¬ rdB f k p = true := fun z => by
        unfold rdB at z
        rw [h0] at z
        simp at z
      rw [if_neg (fun z => q2 ((at48 f k _).mp z)), if_pos rfl, if_neg hB1, eE, h0]; rfl
  · have eE : rdE f k p = p := if_neg q1
    have eP : rdP f k p = p := by
      unfold rdP skP
      have : fs (fun i => !isSp f (p + i)) (k - p) = 0 := by
        refine fs_eq (fun j hj => absurd hj (by omega)) (fun hj => ?_) (by omega)
        have : ¬ isSp f p = true := fun z => q1 ⟨by omega, z⟩
        simpa using this
      omega
    have hB1 : ¬ rdB f k p = true := fun z => by
      unfold rdB at z
      simp only [Bool.and_eq_true, decide_eq_true_eq] at z
      exact q1 ⟨z.1.1, z.1.2⟩
    rw [if_neg q1, if_pos rfl, if_neg hB1, eE, eP]
