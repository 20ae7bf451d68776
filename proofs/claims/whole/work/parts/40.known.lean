/-! the known identities of the class's walk: by their distances, in ascending order, with marks -/
def Qk (mk : Nat → Nat) (x : Nat) : Nat → Bool := fun d => decide (mk (x ^^^ d) ≠ 0)
def KN (m : zMem) (mk : Nat → Nat) (x : Nat) : Prop := m.1 1 9 = nI (ct (Qk mk x) 256) ∧ ct (Qk mk x) 256 ≤ 39 ∧ ∀ d, d < 256 → Qk mk x d = true → m.1 4 (ct (Qk mk x) d) = nI d ∧ m.1 5 (ct (Qk mk x) d) = nI (mk (x ^^^ d) - 1) ∧ mk (x ^^^ d) ≤ 3
def addS (mk : Nat → Nat) (x d : Nat) : Nat → Nat := if mk (x ^^^ d) = 0 then up mk (x ^^^ d) 1 else mk
/-- the known ones' cells alone have changed -/
def frK (m m' : zMem) : Prop := m'.2 = m.2 ∧ ∀ c j, ¬ (c = 1 ∧ j = 9) → c ≠ 4 → c ≠ 5 → m'.1 c j = m.1 c j
theorem frK.rf (m : zMem) : frK m m := ⟨rfl, fun _ _ _ _ _ => rfl⟩
theorem frK.tr {m m1 m2 : zMem} (h : frK m m1) (h2 : frK m1 m2) : frK m m2 := ⟨h2.1.trans h.1, fun c j a b d => (h2.2 c j a b d).trans (h.2 c j a b d)⟩
theorem xor_inj {x a b : Nat} (h : x ^^^ a = x ^^^ b) : a = b := by
  have := congrArg (fun z => x ^^^ z) h
  simpa [xx] using this
theorem pX4_addKnown {N d0 x : Nat} {m : zMem} {mk : Nat → Nat} (hN : 40 < N) (hd : d0 < 256) (hm : KN m mk x) (hcap : ct (Qk mk x) 256 < 39) : ∃ m', fX4_addKnown N (nI d0) m = some m' ∧ KN m' (addS mk x d0) x ∧ frK m m' := by
  obtain ⟨h1, -, h3⟩ := hm
  have hp1 : ct (Qk mk x) (d0 + 1) ≤ ct (Qk mk x) 256 := ct_mono _ (by omega)
  -- the cell below a spot
  have at_ : ∀ j, j < ct (Qk mk x) 256 → ∃ d, d < 256 ∧ Qk mk x d = true ∧ ct (Qk mk x) d = j ∧ m.1 4 j = nI d ∧ m.1 5 j = nI (mk (x ^^^ d) - 1) := fun j hj => by
    obtain ⟨d, a1, a2, a3⟩ := ct_sel hj
    have := h3 d a1 a2
    rw [a3] at this
    exact ⟨d, a1, a2, a3, this.1, this.2.1⟩
  simp only [fX4_addKnown, kgi, kpi, kjn]
  rw [h1]
  refine klp_iR (n := N) (z := nI (ct (Qk mk x) 256)) (fun (i : Nat) (z : Int32) => z = nI (ct (Qk mk x) 256 - i)) (ct (Qk mk x) 256 - ct (Qk mk x) (d0 + 1)) (fun r => ∃ m', r = some m' ∧ KN m' (addS mk x d0) x ∧ frK m m') (fun i hi z hz => ?_) (fun z hz rec => ?_) rfl (by omega)
  · subst hz
    obtain ⟨d, a1, a2, a3, a4, a5⟩ := at_ (ct (Qk mk x) 256 - i - 1) (by omega)
    have hgt : d0 < d := by
      apply Nat.lt_of_not_le
      intro hle
      have := ct_app (p := Qk mk x) (d := d) (e := d0 + 1) (by omega) a2
      omega
    refine ⟨nI (ct (Qk mk x) 256 - (i + 1)), rfl, fun rec => ?_⟩
    simp only [sX4_addKnown_5]
    rw [if_neg (nI_nle (by omega) (by omega)), nI_sub1 (by omega), kld_n (by omega) (by decide), a4, if_neg (nI_ge hgt (by omega)), nI_m1 (by omega)]
    rfl
  subst hz
  have ep : ct (Qk mk x) 256 - (ct (Qk mk x) 256 - ct (Qk mk x) (d0 + 1)) = ct (Qk mk x) (d0 + 1) := by omega
  rw [ep]
  have hstop : ∀ (α : Type) (u v : Option α), (if nI (ct (Qk mk x) (d0 + 1)) ≤ 0 then u else kld m 4 39 (nI (ct (Qk mk x) (d0 + 1)) - 1) fun v19 => if v19 ≤ nI d0 then u else v) = u := by
    intro α u v
    by_cases e0 : ct (Qk mk x) (d0 + 1) = 0
    · rw [e0, if_pos (by decide)]
    · obtain ⟨d, a1, a2, a3, a4, a5⟩ := at_ (ct (Qk mk x) (d0 + 1) - 1) (by omega)
      have hlt : d < d0 + 1 := (ct_lt_iff a2).mp (by omega)
      rw [if_neg (nI_nle (by omega) (by omega)), nI_sub1 (by omega), kld_n (by omega) (by decide), a4, if_pos (nI_le (by omega) (by omega))]
  simp only [sX4_addKnown_5]
  rw [hstop]
  by_cases hq : Qk mk x d0 = true
  · -- it is there
    have e1 : ct (Qk mk x) (d0 + 1) = ct (Qk mk x) d0 + 1 := by rw [ct_s, if_pos hq]
    have hv := (h3 d0 hd hq).1
    rw [e1, if_neg (nI_nle (by omega) (by omega)), nI_sub1 (by omega), kld_n (by omega) (by decide), Nat.add_sub_cancel, hv, if_pos rfl, if_neg (by decide)]
    have e2 : addS mk x d0 = mk := by
      unfold addS
      rw [if_neg (of_decide_eq_true hq)]
    rw [e2]
    exact ⟨m, rfl, ⟨h1, by omega, h3⟩, frK.rf m⟩
  · -- it isn't
    have hqf : Qk mk x d0 = false := by simpa using hq
    have e1 : ct (Qk mk x) (d0 + 1) = ct (Qk mk x) d0 := by rw [ct_s, if_neg hq]; rfl
    have hmk0 : mk (x ^^^ d0) = 0 := by
      have := of_decide_eq_false hqf
      omega
    have e2 : addS mk x d0 = up mk (x ^^^ d0) 1 := by
      unfold addS
      rw [if_pos hmk0]
    rw [e1] at hp1
    rw [e1, e2]
    have hQ1 : Qk (up mk (x ^^^ d0) 1) x d0 = true := by unfold Qk; rw [up_s]; rfl
    have hQn : ∀ d, d ≠ d0 → Qk (up mk (x ^^^ d0) 1) x d = Qk mk x d := fun d hd9 => by
      unfold Qk
      rw [up_n _ _ (fun z => hd9 (xor_inj z))]
    have hc := ct_one hqf hQ1 hQn
    have hno : ∀ (α : Type) (u v : Option α), (if nI (ct (Qk mk x) d0) ≤ 0 then (if True then u else v) else kld m 4 39 (nI (ct (Qk mk x) d0) - 1) fun v17 => if v17 = nI d0 then (if (1 : Int32) = 0 then u else v) else (if True then u else v)) = u := by
      intro α u v
      by_cases e0 : ct (Qk mk x) d0 = 0
      · rw [e0, if_pos (by decide), if_pos trivial]
      · obtain ⟨d, a1, a2, a3, a4, a5⟩ := at_ (ct (Qk mk x) d0 - 1) (by omega)
        have hne : d ≠ d0 := fun z => by rw [z, hqf] at a2; cases a2
        rw [if_neg (nI_nle (by omega) (by omega)), nI_sub1 (by omega), kld_n (by omega) (by decide), a4, if_neg (fun z => hne (nI_inj (by omega) (by omega) z)), if_pos trivial]
    rw [hno, nn39, if_pos (nI_lt hcap (by omega))]
    refine klp_iR (n := N) (z := (nI (ct (Qk mk x) 256), m)) (fun (i : Nat) (z : Int32 × zMem) => z.1 = nI (ct (Qk mk x) 256 - i) ∧ frK m z.2 ∧ z.2.1 1 9 = m.1 1 9 ∧ ∀ c j, c = 4 ∨ c = 5 → z.2.1 c j = if ct (Qk mk x) 256 - i < j ∧ j ≤ ct (Qk mk x) 256 then m.1 c (j - 1) else m.1 c j) (ct (Qk mk x) 256 - ct (Qk mk x) d0) (fun r => ∃ m', r = some m' ∧ KN m' (up mk (x ^^^ d0) 1) x ∧ frK m m') (fun i hi z hz => ?_) (fun z hz rec => ?_) ⟨rfl, frK.rf m, rfl, fun c j _ => by rw [if_neg (by omega)]⟩ (by omega)
    · obtain ⟨z1, z2⟩ := z
      obtain ⟨q1, q2, q3, q4⟩ := hz
      dsimp only at q1 q2 q3 q4
      subst q1
      have v4 : z2.1 4 (ct (Qk mk x) 256 - i - 1) = m.1 4 (ct (Qk mk x) 256 - i - 1) := by rw [q4 4 _ (Or.inl rfl), if_neg (by omega)]
      have v5 : z2.1 5 (ct (Qk mk x) 256 - i - 1) = m.1 5 (ct (Qk mk x) 256 - i - 1) := by rw [q4 5 _ (Or.inr rfl), if_neg (by omega)]
      refine ⟨(nI (ct (Qk mk x) 256 - (i + 1)), zsI (zsI z2 4 (ct (Qk mk x) 256 - i) (m.1 4 (ct (Qk mk x) 256 - i - 1))) 5 (ct (Qk mk x) 256 - i) (m.1 5 (ct (Qk mk x) 256 - i - 1))), ⟨rfl, ⟨q2.1, fun c j a b d => ?_⟩, ?_, fun c j hcj => ?_⟩, fun rec => ?_⟩
      · dsimp only
        rw [zsI_n _ _ (by omega), zsI_n _ _ (by omega)]
        exact q2.2 c j a b d
      · dsimp only
        rw [zsI_n _ _ (by omega), zsI_n _ _ (by omega)]
        exact q3
      · dsimp only
        by_cases ej : j = ct (Qk mk x) 256 - i
        · subst ej
          rw [if_pos (by omega)]
          rcases hcj with rfl | rfl
          · rw [zsI_n _ _ (by omega), zsI_s]
          · rw [zsI_s]
        · rw [zsI_n _ _ (by omega), zsI_n _ _ (by omega), q4 c j hcj]
          by_cases e5 : ct (Qk mk x) 256 - i < j ∧ j ≤ ct (Qk mk x) 256
          · rw [if_pos e5, if_pos (by omega)]
          · rw [if_neg e5, if_neg (by omega)]
      · simp only [sX4_addKnown_69]
        rw [if_neg (nI_ge (by omega) (by omega)), nI_sub1 (by omega), kld_n (by omega) (by decide), v4, kst_n (by omega) (by decide), kld_n (by omega) (by decide), zsI_n _ _ (by omega), v5, kst_n (by omega) (by decide), nI_m1 (by omega)]
        rfl
    · obtain ⟨z1, z2⟩ := z
      obtain ⟨q1, q2, q3, q4⟩ := hz
      dsimp only at q1 q2 q3 q4
      subst q1
      have ep2 : ct (Qk mk x) 256 - (ct (Qk mk x) 256 - ct (Qk mk x) d0) = ct (Qk mk x) d0 := by omega
      rw [ep2] at q4
      simp only [sX4_addKnown_69]
      rw [ep2, if_pos (nI_le (Nat.le_refl _) (by omega)), kst_n (by omega) (by decide), kst_n (by omega) (by decide), zsI_n (b := 1) _ _ (by omega), zsI_n (b := 1) _ _ (by omega), q3, h1, nI_1]
      refine ⟨_, rfl, ⟨?_, ?_, fun d hd1 hd2 => ?_⟩, ⟨q2.1, fun c j a b d => ?_⟩⟩
      · rw [zsI_s, hc 256, if_pos (by omega)]
      · rw [hc 256, if_pos (by omega)]; omega
      · rw [zsI_n _ _ (by omega), zsI_n (b := 5) _ _ (by omega), hc d]
        by_cases e : d = d0
        · subst e
          rw [if_neg (by omega), Nat.add_zero, zsI_n _ _ (by omega), zsI_s, zsI_s, up_s]
          exact ⟨rfl, rfl, by decide⟩
        · have hq9 : Qk mk x d = true := by rw [← hQn d e]; exact hd2
          have hh := h3 d hd1 hq9
          rw [up_n _ _ (fun z => e (xor_inj z))]
          by_cases hlt : d0 < d
          · have := ct_mono (Qk mk x) (show d0 ≤ d by omega)
            have hu := ct_app (p := Qk mk x) (d := d) (e := 256) (by omega) hq9
            rw [if_pos hlt, zsI_n _ _ (by omega), zsI_n _ _ (by omega), zsI_n _ _ (by omega), zsI_n _ _ (by omega), q4 4 _ (Or.inl rfl), q4 5 _ (Or.inr rfl), if_pos (by omega), if_pos (by omega), Nat.add_sub_cancel]
            exact hh
          · have := ct_app (p := Qk mk x) (d := d) (e := d0) (by omega) hq9
            rw [if_neg hlt, Nat.add_zero, zsI_n _ _ (by omega), zsI_n _ _ (by omega), zsI_n _ _ (by omega), zsI_n _ _ (by omega), q4 4 _ (Or.inl rfl), q4 5 _ (Or.inr rfl), if_neg (by omega), if_neg (by omega)]
            exact hh
      · rw [zsI_n _ _ (by omega), zsI_n _ _ (by omega), zsI_n _ _ (by omega)]
        exact q2.2 c j a b d
