/-! the numbers that are read are never -1; letters in the reference's script -/
theorem dg_n {f : Nat → Int32} {j : Nat} (h : isDg f j = true) : ∃ u, u ≤ 9 ∧ f j - 48 = nI u := by
  have hv : 48 ≤ f j ∧ f j ≤ 57 := of_decide_eq_true h
  obtain ⟨k1, k2⟩ := inN (n := 57) (Int32.le_trans (by decide) hv.1) hv.2 (by omega)
  have k3 : 48 ≤ iN (f j) := by
    apply Nat.le_of_not_lt
    intro z
    have := hv.1
    rw [k2, show (48 : Int32) = nI 48 from rfl] at this
    exact nI_ge z (by omega) this
  refine ⟨iN (f j) - 48, by omega, ?_⟩
  rw [show f j - 48 = nI (iN (f j)) - nI 48 by rw [← k2]; rfl, nI_sb k3]
theorem nmv_n {f : Nat → Int32} {k p : Nat} (i : Nat) (h : i ≤ ndg f k p) : ∃ v, v < 10 ^ i ∧ nmv f p i = nI v := by
  induction i with
  | zero => exact ⟨0, by decide, rfl⟩
  | succ i ih =>
    obtain ⟨v, h1, h2⟩ := ih (by omega)
    obtain ⟨u, h3, h4⟩ := dg_n (ndg_in (show i < ndg f k p by omega)).2
    refine ⟨10 * v + u, ?_, ?_⟩
    · rw [Nat.pow_succ]; omega
    · show 10 * nmv f p i + (f (p + i) - 48) = _
      rw [h2, h4, show (10 : Int32) = nI 10 from rfl, pk_mul, nI_add]
theorem rdV_n (f : Nat → Int32) (k p : Nat) : ∃ v, v < 100000 ∧ rdV f k p = nI v := by
  obtain ⟨v, h1, h2⟩ := nmv_n (f := f) (k := k) (p := rdP f k p) (ndg f k (rdP f k p)) (Nat.le_refl _)
  have h3 := ndg_le f k (rdP f k p)
  have h4 : (10 : Nat) ^ ndg f k (rdP f k p) ≤ 10 ^ 5 := Nat.pow_le_pow_right (by omega) h3
  exact ⟨v, by omega, h2⟩
theorem rdV_ne (f : Nat → Int32) (k p : Nat) : ¬ rdV f k p = -1 := by
  obtain ⟨v, h1, h2⟩ := rdV_n f k p
  rw [h2]; exact nI_ne_m1 (by omega)
theorem at97 (f : Nat → Int32) (k p : Nat) : (p < k ∧ (97 : Int32) ≤ f p ∧ f p ≤ 122) ↔ (p < k ∧ isLt f p = true) := by
  unfold isLt
  exact ⟨fun z => ⟨z.1, decide_eq_true z.2⟩, fun z => ⟨z.1, of_decide_eq_true z.2⟩⟩
theorem reads_lt {N k p : Nat} {f : Nat → Int32} {m : zMem} (hN : 121 < N) (h : ScM m k f) (hp : p ≤ k) (K : zMem → Option (Int32 × zMem)) : klp (sX6_reads_5 K) N (zsI m 0 11 (nI p)) = K (zsI m 0 11 (nI (skP (isLt f) k p))) := by
  have hle := fs_le (fun i => !isLt f (p + i)) (k - p)
  have hk := h.2.1
  refine klp_at (fun i => zsI m 0 11 (nI (p + i))) (fs (fun i => !isLt f (p + i)) (k - p)) rfl (fun i hi rec => ?_) (fun rec => ?_) (by omega)
  · have hno : isLt f (p + i) = true := by simpa using fs_no hi
    simp only [sX6_reads_5, kgi, kpi]
    rw [pX6_isAt h (by omega), kc1_s, if_pos ((at97 f k _).mpr ⟨by omega, hno⟩), if_neg (by decide), zsI_s, nI_1, zsI_zz]; rfl
  · simp only [sX6_reads_5, kgi, kpi]
    have hn : ¬ (p + fs (fun i => !isLt f (p + i)) (k - p) < k ∧ isLt f (p + fs (fun i => !isLt f (p + i)) (k - p)) = true) := fun z => by
      have := fs_at (p := fun i => !isLt f (p + i)) (n := k - p) (by omega)
      simp at this
      rw [this] at z; cases z.2
    rw [pX6_isAt h (by omega), kc1_s, if_neg (fun z => hn ((at97 f k _).mp z)), if_pos rfl]; rfl
