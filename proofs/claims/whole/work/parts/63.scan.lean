/-! scanning a script -/
theorem zsI_id (m : zMem) (a j : Nat) : zsI m a j (m.1 a j) = m := by
  obtain ⟨f, r⟩ := m
  unfold zsI
  refine congrArg (fun z => (z, r)) ?_
  funext b k
  by_cases e : b = a ∧ k = j
  · obtain ⟨e1, e2⟩ := e
    subst e1; subst e2
    simp
  · simp [e]
theorem zsI_zz (m : zMem) (a j : Nat) (x y : Int32) : zsI (zsI m a j x) a j y = zsI m a j y := by
  unfold zsI
  refine congrArg (fun z => (z, m.2)) ?_
  funext b k
  by_cases e : b = a ∧ k = j
  · simp [e]
  · simp [e]
/-- the first place from p on where q fails, or the end -/
def skP (q : Nat → Bool) (k p : Nat) : Nat := p + fs (fun i => !q (p + i)) (k - p)
theorem skP_le {q : Nat → Bool} {k p : Nat} (h : p ≤ k) : skP q k p ≤ k ∧ p ≤ skP q k p := by
  have := fs_le (fun i => !q (p + i)) (k - p)
  unfold skP
  omega
def isSp (f : Nat → Int32) (j : Nat) : Bool := decide (f j = 32)
def isLt (f : Nat → Int32) (j : Nat) : Bool := decide (97 ≤ f j ∧ f j ≤ 122)
def isDg (f : Nat → Int32) (j : Nat) : Bool := decide (48 ≤ f j ∧ f j ≤ 57)
theorem pX1_skipSpaces {N k p : Nat} {f : Nat → Int32} {m : zMem} (hN : 121 < N) (h : ScC m k f) (hp : p ≤ k) : fX1_skipSpaces N (zsI m 6 5 (nI p)) = some (zsI m 6 5 (nI (skP (isSp f) k p))) := by
  obtain ⟨h1, h2, h3⟩ := h
  have hle := fs_le (fun i => !isSp f (p + i)) (k - p)
  simp only [fX1_skipSpaces, kjn]
  refine klp_at (fun i => zsI m 6 5 (nI (p + i))) (fs (fun i => !isSp f (p + i)) (k - p)) rfl (fun i hi rec => ?_) (fun rec => ?_) (by omega)
  · have hno : isSp f (p + i) = true := by simpa using fs_no hi
    have hv : f (p + i) = 32 := of_decide_eq_true hno
    simp only [sX1_skipSpaces_0, kgi, kpi]
    rw [zsI_s, zsI_n _ _ (by omega), h1, if_neg (nI_ge (by omega) (by omega)), kld_n (by omega) (by decide), zsI_n _ _ (by omega), h3 _ (by omega), if_pos hv, nI_1, zsI_zz]; rfl
  · simp only [sX1_skipSpaces_0, kgi, kpi]
    rw [zsI_s, zsI_n _ _ (by omega), h1]
    unfold skP
    by_cases q : fs (fun i => !isSp f (p + i)) (k - p) = k - p
    · rw [q, if_pos (nI_le (by omega) (by omega))]
    · have hat : isSp f (p + fs (fun i => !isSp f (p + i)) (k - p)) = false := by
        have := fs_at (p := fun i => !isSp f (p + i)) (n := k - p) (by omega)
        simpa using this
      have hv : ¬ f (p + fs (fun i => !isSp f (p + i)) (k - p)) = 32 := of_decide_eq_false hat
      rw [if_neg (nI_ge (by omega) (by omega)), kld_n (by omega) (by decide), zsI_n _ _ (by omega), h3 _ (by omega), if_neg hv]
theorem pX1_skipLetters {N k p : Nat} {f : Nat → Int32} {m : zMem} (hN : 121 < N) (h : ScC m k f) (hp : p ≤ k) : fX1_skipLetters N (zsI m 6 5 (nI p)) = some (zsI m 6 5 (nI (skP (isLt f) k p))) := by
  obtain ⟨h1, h2, h3⟩ := h
  have hle := fs_le (fun i => !isLt f (p + i)) (k - p)
  simp only [fX1_skipLetters, kjn]
  refine klp_at (fun i => zsI m 6 5 (nI (p + i))) (fs (fun i => !isLt f (p + i)) (k - p)) rfl (fun i hi rec => ?_) (fun rec => ?_) (by omega)
  · have hno : isLt f (p + i) = true := by simpa using fs_no hi
    have hv : 97 ≤ f (p + i) ∧ f (p + i) ≤ 122 := of_decide_eq_true hno
    simp only [sX1_skipLetters_0, kgi, kpi]
    rw [zsI_s, zsI_n _ _ (by omega), h1, if_neg (nI_ge (by omega) (by omega)), kld_n (by omega) (by decide), zsI_n _ _ (by omega), h3 _ (by omega), if_neg (Int32.not_lt.mpr hv.1), kld_n (by omega) (by decide), zsI_n _ _ (by omega), h3 _ (by omega), if_neg (Int32.not_lt.mpr hv.2), nI_1, zsI_zz]; rfl
  · simp only [sX1_skipLetters_0, kgi, kpi]
    rw [zsI_s, zsI_n _ _ (by omega), h1]
    unfold skP
    by_cases q : fs (fun i => !isLt f (p + i)) (k - p) = k - p
    · rw [q, if_pos (nI_le (by omega) (by omega))]
    · have hat : isLt f (p + fs (fun i => !isLt f (p + i)) (k - p)) = false := by
        have := fs_at (p := fun i => !isLt f (p + i)) (n := k - p) (by omega)
        simpa using this
      have hv : ¬ (97 ≤ f (p + fs (fun i => !isLt f (p + i)) (k - p)) ∧ f (p + fs (fun i => !isLt f (p + i)) (k - p)) ≤ 122) := of_decide_eq_false hat
      rw [if_neg (nI_ge (by omega) (by omega)), kld_n (by omega) (by decide), zsI_n _ _ (by omega), h3 _ (by omega)]
      by_cases q2 : f (p + fs (fun i => !isLt f (p + i)) (k - p)) < 97
      · rw [if_pos q2]
      · rw [if_neg q2, kld_n (by omega) (by decide), zsI_n _ _ (by omega), h3 _ (by omega), if_pos]
        exact Int32.not_le.mp (fun z => hv ⟨Int32.not_lt.mp q2, z⟩)
def pk (f : Nat → Int32) (k p : Nat) : Int32 := if p < k then f p else -1
theorem pX1_peek {k p : Nat} {f : Nat → Int32} {m : zMem} (h : ScC m k f) (hp : p ≤ k) : fX1_peek (zsI m 6 5 (nI p)) = some (pk f k p) := by
  obtain ⟨h1, h2, h3⟩ := h
  simp only [fX1_peek, kgi]
  rw [zsI_s, zsI_n _ _ (by omega), h1]
  unfold pk
  by_cases q : p < k
  · rw [if_neg (nI_ge q (by omega)), kld_n (by omega) (by decide), zsI_n _ _ (by omega), h3 _ q, if_pos q]
  · rw [if_pos (nI_le (by omega) (by omega)), if_neg q]
theorem pX1_isDigit (v : Int32) : fX1_isDigit v = some (if 48 ≤ v ∧ v ≤ 57 then 1 else 0) := by
  unfold fX1_isDigit
  by_cases h1 : v < 48
  · rw [if_pos h1, if_neg (fun z => Int32.not_lt.mpr z.1 h1)]
  · rw [if_neg h1]
    by_cases h2 : 57 < v
    · rw [if_pos h2, if_neg (fun z => Int32.not_lt.mpr z.2 h2)]
    · rw [if_neg h2, if_pos ⟨Int32.not_lt.mp h1, Int32.not_lt.mp h2⟩]
theorem pk_dg (f : Nat → Int32) (k p : Nat) : (48 ≤ pk f k p ∧ pk f k p ≤ 57) ↔ (p < k ∧ isDg f p = true) := by
  unfold pk isDg
  by_cases q : p < k
  · rw [if_pos q]
    exact ⟨fun z => ⟨q, decide_eq_true z⟩, fun z => of_decide_eq_true z.2⟩
  · rw [if_neg q]
    exact ⟨fun z => absurd z.1 (by decide), fun z => absurd z.1 q⟩
/-- how many digits are read, and the number that they make -/
def ndg (f : Nat → Int32) (k p : Nat) : Nat := fs (fun i => !(decide (p + i < k) && isDg f (p + i))) 5
def nmv (f : Nat → Int32) (p : Nat) : Nat → Int32
  | 0 => 0
  | i + 1 => 10 * nmv f p i + (f (p + i) - 48)
theorem ndg_le (f : Nat → Int32) (k p : Nat) : ndg f k p ≤ 5 := fs_le _ _
theorem ndg_in {f : Nat → Int32} {k p i : Nat} (h : i < ndg f k p) : p + i < k ∧ isDg f (p + i) = true := by
  have := fs_no (p := fun i => !(decide (p + i < k) && isDg f (p + i))) (n := 5) h
  simpa using this
theorem ndg_k {f : Nat → Int32} {k p : Nat} (hp : p ≤ k) : p + ndg f k p ≤ k := by
  by_cases q : ndg f k p = 0
  · omega
  · have := ndg_in (f := f) (k := k) (p := p) (i := ndg f k p - 1) (by omega)
    omega
theorem ndg_at {f : Nat → Int32} {k p : Nat} (h : ndg f k p < 5) : ¬ (p + ndg f k p < k ∧ isDg f (p + ndg f k p) = true) := by
  have := fs_at (p := fun i => !(decide (p + i < k) && isDg f (p + i))) (n := 5) h
  intro z
  have h2 : (!(decide (p + ndg f k p < k) && isDg f (p + ndg f k p))) = true := this
  rw [decide_eq_true z.1, z.2] at h2
  cases h2
