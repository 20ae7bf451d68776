/-! the numbers of a command in the reference -/
def npE (f : Nat → Int32) (k p : Nat) : Nat → Nat
  | 0 => p
  | i + 1 => rdE f k (npE f k p i)
def nfB (f : Nat → Int32) (k p n : Nat) : Nat := fs (fun i => !rdB f k (npE f k p i)) n
theorem npE_le {f : Nat → Int32} {k p : Nat} (hp : p ≤ k) (i : Nat) : npE f k p i ≤ k := by
  induction i with
  | zero => exact hp
  | succ i ih => exact (rdE_le ih).1
theorem ScM_6 {m y : zMem} {k : Nat} {f : Nat → Int32} (h : ScM m k f) (e : ∀ c, c ≠ 6 → y.1 c = m.1 c) : ScM y k f := ⟨by rw [e 0 (by omega)]; exact h.1, h.2.1, fun j hj => by rw [e 4 (by omega)]; exact h.2.2 j hj⟩
theorem reads_nb {N k p n : Nat} {f : Nat → Int32} {m : zMem} (hN : 121 < N) (h : ScM m k f) (hp : p ≤ k) (hn : n ≤ 3) (K : zMem → Option (Int32 × zMem)) : ∃ m' : zMem, klp (sX6_reads_168 N (nI n) K) N (0, zsI m 0 11 (nI p)) = (if nfB f k p n = n then K (zsI m' 0 11 (nI (npE f k p n))) else some (0, zsI m' 0 11 (nI (npE f k p (nfB f k p n + 1))))) ∧ m'.2 = m.2 ∧ (∀ c, c ≠ 6 → m'.1 c = m.1 c) ∧ ∀ j, j < nfB f k p n → m'.1 6 j = rdV f k (npE f k p j) := by
  have hle : nfB f k p n ≤ n := fs_le _ _
  refine klp_iR (n := N) (z := (0, zsI m 0 11 (nI p))) (fun (i : Nat) (z : Int32 × zMem) => z.1 = nI i ∧ ∃ y : zMem, z.2 = zsI y 0 11 (nI (npE f k p i)) ∧ y.2 = m.2 ∧ (∀ c, c ≠ 6 → y.1 c = m.1 c) ∧ ∀ j, j < i → y.1 6 j = rdV f k (npE f k p j)) (nfB f k p n) (fun r => ∃ m' : zMem, r = (if nfB f k p n = n then K (zsI m' 0 11 (nI (npE f k p n))) else some (0, zsI m' 0 11 (nI (npE f k p (nfB f k p n + 1))))) ∧ m'.2 = m.2 ∧ (∀ c, c ≠ 6 → m'.1 c = m.1 c) ∧ ∀ j, j < nfB f k p n → m'.1 6 j = rdV f k (npE f k p j)) (fun i hi z hz => ?_) (fun z hz rec => ?_) ⟨rfl, m, rfl, rfl, fun _ _ => rfl, fun j hj => absurd hj (by omega)⟩ (by omega)
  · obtain ⟨z1, z2⟩ := z
    obtain ⟨g1, y, g2, g3, g4, g5⟩ := hz
    dsimp only at g1 g2
    subst g1; subst g2
    have hB : rdB f k (npE f k p i) = true := by
      have := fs_no (p := fun i => !rdB f k (npE f k p i)) (n := n) hi
      simpa using this
    refine ⟨(nI (i + 1), zsI (zsI y 6 i (rdV f k (npE f k p i))) 0 11 (nI (npE f k p (i + 1)))), ⟨rfl, zsI y 6 i (rdV f k (npE f k p i)), rfl, g3, fun c hc => by rw [zsI_ne _ _ _ hc]; exact g4 c hc, fun j hj => ?_⟩, fun rec => ?_⟩
    · by_cases q : j = i
      · rw [q, zsI_s]
      · rw [zsI_n _ _ (by omega)]; exact g5 j (by omega)
    · simp only [sX6_reads_168]
      rw [if_neg (nI_ge (by omega) (by omega)), pX6_readsNumber hN (ScM_6 h g4) (npE_le hp i), kc2_s, if_pos hB, kst_n (by omega) (by decide), kld_n (by omega) (by decide), zsI_s, if_neg (rdV_ne f k _), nI_1, zsI_cm _ _ _ (by omega)]
      rfl
  · obtain ⟨z1, z2⟩ := z
    obtain ⟨g1, y, g2, g3, g4, g5⟩ := hz
    dsimp only at g1 g2
    subst g1; subst g2
    simp only [sX6_reads_168]
    by_cases q : nfB f k p n = n
    · refine ⟨y, ?_, g3, g4, g5⟩
      rw [if_pos q, q, if_pos (nI_le (Nat.le_refl _) (by omega))]
    · have hB : ¬ rdB f k (npE f k p (nfB f k p n)) = true := by
        have := fs_at (p := fun i => !rdB f k (npE f k p i)) (n := n) (show nfB f k p n < n by omega)
        have h2 : (!rdB f k (npE f k p (nfB f k p n))) = true := this
        simpa using h2
      refine ⟨zsI y 6 (nfB f k p n) (-1), ?_, g3, fun c hc => by rw [zsI_ne _ _ _ hc]; exact g4 c hc, fun j hj => by rw [zsI_n _ _ (by omega)]; exact g5 j hj⟩
      rw [if_neg q, if_neg (nI_ge (by omega) (by omega)), pX6_readsNumber hN (ScM_6 h g4) (npE_le hp _), kc2_s, if_neg hB, kst_n (by omega) (by decide), kld_n (by omega) (by decide), zsI_s, if_pos rfl, zsI_cm _ _ _ (by omega)]
      rfl
