/-! ranks: ct p d counts the places below d that have p -/
theorem ct_app {p : Nat → Bool} {d e : Nat} (h : d < e) (hp : p d = true) : ct p d < ct p e := by
  have h1 := ct_mono p (show d + 1 ≤ e by omega)
  rw [ct_s, if_pos hp] at h1
  omega
theorem ct_lt_iff {p : Nat → Bool} {d e : Nat} (hp : p d = true) : ct p d < ct p e ↔ d < e := by
  constructor
  · intro h
    apply Nat.lt_of_not_le
    intro hle
    have := ct_mono p hle
    omega
  · intro h; exact ct_app h hp
theorem ct_inj {p : Nat → Bool} {d e : Nat} (hd : p d = true) (he : p e = true) (h : ct p d = ct p e) : d = e := by
  rcases Nat.lt_trichotomy d e with h1 | h1 | h1
  · have := ct_app h1 hd; omega
  · exact h1
  · have := ct_app h1 he; omega
theorem ct_sel {p : Nat → Bool} {n j : Nat} (h : j < ct p n) : ∃ d, d < n ∧ p d = true ∧ ct p d = j := by
  induction n with
  | zero => exact absurd h (by unfold ct; omega)
  | succ n ih =>
    rw [ct_s] at h
    by_cases hp : p n = true
    · rw [if_pos hp] at h
      by_cases e : j = ct p n
      · exact ⟨n, by omega, hp, e.symm⟩
      · obtain ⟨d, h1, h2, h3⟩ := ih (by omega)
        exact ⟨d, by omega, h2, h3⟩
    · rw [if_neg hp] at h
      obtain ⟨d, h1, h2, h3⟩ := ih (by omega)
      exact ⟨d, by omega, h2, h3⟩
/-- nothing between: the count stays -/
theorem ct_gap {p : Nat → Bool} {d e : Nat} (h : d ≤ e) (hp : ∀ i, d ≤ i → i < e → p i = false) : ct p e = ct p d := by
  induction e with
  | zero => rw [show d = 0 by omega]
  | succ e ih =>
    by_cases e1 : d = e + 1
    · rw [e1]
    · rw [ct_s, hp e (by omega) (by omega), ih (by omega) (fun i h1 h2 => hp i h1 (by omega))]
      rfl
/-- one place more: below it ranks stay, above it they go up by one -/
theorem ct_one {p q : Nat → Bool} {d0 : Nat} (hp : p d0 = false) (hq : q d0 = true) (h : ∀ d, d ≠ d0 → q d = p d) (d : Nat) : ct q d = ct p d + (if d0 < d then 1 else 0) := by
  induction d with
  | zero => rfl
  | succ d ih =>
    rw [ct_s, ct_s, ih]
    by_cases e : d = d0
    · subst e
      simp [hp, hq]
    · rw [h d e]
      by_cases h1 : d0 < d
      · have h2 : d0 < d + 1 := by omega
        simp only [h1, h2, if_true]
        omega
      · have h2 : ¬ d0 < d + 1 := by omega
        simp only [h1, h2, if_false]
        omega
/-! the three nearest of a set of distances, in the cells 3 and (1, 6) -/
def mn3 (n : Nat) : Nat := if n < 3 then n else 3
def NRr (m : zMem) (P : Nat → Bool) : Prop := m.1 1 6 = nI (mn3 (ct P 256)) ∧ ∀ d, d < 256 → P d = true → ct P d < 3 → m.1 3 (ct P d) = nI d
/-- the walk's cells alone have changed, of its fields the listed one -/
def frF (m m' : zMem) (a f : Nat) : Prop := m'.2 = m.2 ∧ ∀ c j, ¬ (c = 1 ∧ j = f) → c ≠ a → m'.1 c j = m.1 c j
theorem nI_m1 {n : Nat} (h : 0 < n) : nI n + (-1) = nI (n - 1) := sb_m1 h
theorem pX4_offer {N d0 : Nat} {m : zMem} {P Q : Nat → Bool} (hN : 3 < N) (hd : d0 < 256) (hm : NRr m P) (hp : P d0 = false) (hq : Q d0 = true) (hPQ : ∀ d, d ≠ d0 → Q d = P d) : ∃ m', fX4_offerNearest N (nI d0) m = some m' ∧ NRr m' Q ∧ frF m m' 3 6 := by
  have hc := ct_one hp hq hPQ
  obtain ⟨h1, h2⟩ := hm
  have hcd := ct_mono P (show d0 ≤ 256 by omega)
  -- the shift, from a spot of c cells
  have key : ∀ (c : Nat) (m1 : zMem), c ≤ 2 → ct P d0 ≤ c → c ≤ ct P 256 → (c = 2 ∨ c = ct P 256) → m1.1 1 6 = nI (mn3 (ct Q 256)) → frF m m1 3 6 → (∀ j, m1.1 3 j = m.1 3 j) →
      ∃ m', klp (sX4_offerNearest_42 (nI d0) fun w5 m6 => kst m6 3 3 w5 (nI d0) fun m7 => some m7) N (nI c, m1) = some m' ∧ NRr m' Q ∧ frF m m' 3 6 := by
    intro c m1 hc2 hcl hcu hm3 g1 g2 g3
    refine klp_iR (n := N) (z := (nI c, m1)) (fun (i : Nat) (z : Int32 × zMem) => z.1 = nI (c - i) ∧ z.2.1 1 6 = nI (mn3 (ct Q 256)) ∧ frF m z.2 3 6 ∧ ∀ j, z.2.1 3 j = if c - i < j ∧ j ≤ c then m.1 3 (j - 1) else m.1 3 j) (c - ct P d0) (fun r => ∃ m', r = some m' ∧ NRr m' Q ∧ frF m m' 3 6) (fun i hi z hz => ?_) (fun z hz rec => ?_) ⟨rfl, g1, g2, fun j => by rw [if_neg (by omega)]; exact g3 j⟩ (by omega)
    · obtain ⟨z1, z2⟩ := z
      obtain ⟨e1, e2, e3, e4⟩ := hz
      dsimp only at e1 e2 e3 e4
      subst e1
      obtain ⟨d, hd1, hd2, hd3⟩ := ct_sel (p := P) (n := 256) (j := c - i - 1) (by omega)
      have hgt : d0 < d := by
        have h9 : ct P d0 ≤ ct P d := by omega
        rcases Nat.lt_or_ge d0 d with h | h
        · exact h
        · have := ct_mono P h
          have e : d ≠ d0 := fun z => by rw [z, hp] at hd2; cases hd2
          have := ct_app (p := P) (d := d) (e := d0) (by omega) hd2
          omega
      have hv : z2.1 3 (c - i - 1) = nI d := by rw [e4, if_neg (by omega), ← hd3]; exact h2 d hd1 hd2 (by omega)
      refine ⟨(nI (c - (i + 1)), zsI z2 3 (c - i) (nI d)), ⟨rfl, by dsimp only; rw [zsI_n _ _ (by omega)]; exact e2, ⟨e3.1, fun c9 j9 a1 a2 => by dsimp only; rw [zsI_n _ _ (by omega)]; exact e3.2 c9 j9 a1 a2⟩, fun j => ?_⟩, fun rec => ?_⟩
      · dsimp only
        by_cases e : j = c - i
        · subst e
          rw [zsI_s, if_pos (by omega), ← hd3]
          exact (h2 d hd1 hd2 (by omega)).symm
        · rw [zsI_n _ _ (by omega), e4]
          by_cases e5 : c - i < j ∧ j ≤ c
          · rw [if_pos e5, if_pos (by omega)]
          · rw [if_neg e5, if_neg (by omega)]
      · simp only [sX4_offerNearest_42]
        rw [if_neg (nI_nle (by omega) (by omega)), nI_sub1 (by omega), kld_n (by omega) (by decide), hv, if_neg (nI_ge hgt (by omega)), kld_n (by omega) (by decide), hv, kst_n (by omega) (by decide), nI_m1 (by omega)]
        rfl
    · obtain ⟨z1, z2⟩ := z
      obtain ⟨e1, e2, e3, e4⟩ := hz
      dsimp only at e1 e2 e3 e4
      subst e1
      have ep : c - (c - ct P d0) = ct P d0 := by omega
      rw [ep] at e4
      have fin : ∃ m', (kst z2 3 3 (nI (ct P d0)) (nI d0) fun m7 => some m7) = some m' ∧ NRr m' Q ∧ frF m m' 3 6 := by
        rw [kst_n (by omega) (by decide)]
        refine ⟨_, rfl, ⟨by rw [zsI_n _ _ (by omega)]; exact e2, fun d hd1 hd2 hd3 => ?_⟩, ⟨e3.1, fun c9 j9 a1 a2 => by rw [zsI_n _ _ (by omega)]; exact e3.2 c9 j9 a1 a2⟩⟩
        rw [hc d] at hd3 ⊢
        by_cases e : d = d0
        · subst e
          rw [if_neg (by omega), Nat.add_zero, zsI_s]
        · rw [hPQ d e] at hd2
          by_cases hlt : d0 < d
          · rw [if_pos hlt] at hd3 ⊢
            have := ct_mono P (show d0 ≤ d by omega)
            have hle : ct P d + 1 ≤ c := by
              have := (ct_app (p := P) (d := d) (e := 256) (by omega) hd2)
              omega
            rw [zsI_n _ _ (by omega), e4, if_pos (by omega)]
            exact h2 d hd1 hd2 (by omega)
          · rw [if_neg hlt] at hd3 ⊢
            have := ct_app (p := P) (d := d) (e := d0) (by omega) hd2
            rw [zsI_n _ _ (by omega), e4, if_neg (by omega)]
            exact h2 d hd1 hd2 (by omega)
      simp only [sX4_offerNearest_42]
      rw [ep]
      by_cases e0 : ct P d0 = 0
      · rw [e0] at fin ⊢
        rw [if_pos (by decide)]
        exact fin
      · obtain ⟨d, hd1, hd2, hd3⟩ := ct_sel (p := P) (n := 256) (j := ct P d0 - 1) (by omega)
        have hlt : d < d0 := (ct_lt_iff hd2).mp (by omega)
        have hv : z2.1 3 (ct P d0 - 1) = nI d := by rw [e4, if_neg (by omega), ← hd3]; exact h2 d hd1 hd2 (by omega)
        rw [if_neg (nI_nle (by omega) (by omega)), nI_sub1 (by omega), kld_n (by omega) (by decide), hv, if_pos (nI_le (by omega) (by omega))]
        exact fin
  have hQ := hc 256
  rw [if_pos (by omega)] at hQ
  simp only [fX4_offerNearest, kgi, kpi, kjn]
  by_cases hn : ct P 256 < 3
  · have e1 : mn3 (ct P 256) = ct P 256 := by unfold mn3; rw [if_pos hn]
    have e2 : mn3 (ct Q 256) = ct P 256 + 1 := by unfold mn3; rw [hQ]; split <;> omega
    rw [h1, e1, nn3, if_neg (nI_ge (by omega) (by omega)), nI_1]
    exact key (ct P 256) _ (by omega) hcd (Nat.le_refl _) (Or.inr rfl) (by rw [zsI_s, e2]) ⟨rfl, fun c j a1 a2 => zsI_n _ _ (by omega)⟩ (fun j => zsI_n _ _ (by omega))
  · have e1 : mn3 (ct P 256) = 3 := by unfold mn3; rw [if_neg hn]
    have e2 : mn3 (ct Q 256) = 3 := by unfold mn3; rw [if_neg (by omega)]
    obtain ⟨d, hd1, hd2, hd3⟩ := ct_sel (p := P) (n := 256) (j := 2) (by omega)
    have hv : m.1 3 2 = nI d := by rw [← hd3]; exact h2 d hd1 hd2 (by omega)
    rw [h1, e1, nn3, if_pos (nI_le (Nat.le_refl _) (by omega)), nn2, kld_n (by omega) (by decide), hv]
    by_cases hle : d ≤ d0
    · have hne : d ≠ d0 := fun z => by rw [z, hp] at hd2; cases hd2
      have h3 := ct_app (p := P) (d := d) (e := d0) (by omega) hd2
      rw [if_pos (nI_le hle (by omega))]
      refine ⟨m, rfl, ⟨by rw [h1, e1, e2], fun d5 hd5 hq5 hc5 => ?_⟩, rfl, fun _ _ _ _ => rfl⟩
      rw [hc d5] at hc5 ⊢
      have hne5 : d5 ≠ d0 := fun z => by rw [z] at hc5; rw [if_neg (by omega)] at hc5; omega
      rw [hPQ d5 hne5] at hq5
      by_cases h6 : d0 < d5
      · have := ct_mono P (show d0 ≤ d5 by omega)
        rw [if_pos h6] at hc5
        omega
      · rw [if_neg h6] at hc5 ⊢
        exact h2 d5 hd5 hq5 (by omega)
    · rw [if_neg (nI_ge (by omega) (by omega))]
      have h3 := ct_mono P (show d0 ≤ d by omega)
      exact key 2 m (by omega) (by omega) (by omega) (Or.inl rfl) (by rw [h1, e1, e2]) ⟨rfl, fun _ _ _ _ => rfl⟩ (fun _ => rfl)
