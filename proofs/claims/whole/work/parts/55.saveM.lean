/-! the same of the reference -/
theorem RowM_cg {f f' : Nat → Int32} {A : AS} (h : RowM f A) (e : ∀ j, j < 1816 → f' j = f j) : RowM f' A := by
  refine ⟨fun i hi => by rw [e i (by omega)]; exact h.1 i hi, fun k hk => ?_⟩
  obtain ⟨a1, a2, a3, a4⟩ := h.2 k hk
  exact ⟨by rw [e _ (by omega)]; exact a1, by rw [e _ (by omega)]; exact a2, by rw [e _ (by omega)]; exact a3, fun b hb => BK_congr (a4 b hb) (e _ (by omega)) (fun j hj => e _ (by omega)) (fun j hj => e _ (by omega))⟩
def PM (m : zMem) (A : AS) (L : List AS) : Prop := RowM (m.1 1) A ∧ L.length ≤ 3 ∧ m.1 0 3 = nI L.length ∧ ∀ i B, L[i]? = some B → RowM (fun j => m.1 2 (1816 * (L.length - 1 - i) + j)) B
/-- the reference's script is as it was -/
def frY (m m' : zMem) : Prop := (∀ c, c = 4 → m'.1 c = m.1 c) ∧ (∀ j, j = 6 → m'.1 0 j = m.1 0 j) ∧ m'.2.2 = m.2.2
theorem frY.rf (m : zMem) : frY m m := ⟨fun _ _ => rfl, fun _ _ => rfl, rfl⟩
theorem frY.tr {m m1 m2 : zMem} (h : frY m m1) (h2 : frY m1 m2) : frY m m2 := ⟨fun c a => (h2.1 c a).trans (h.1 c a), fun j a => (h2.2.1 j a).trans (h.2.1 j a), h2.2.2.trans h.2.2⟩
theorem PM_now {m m' : zMem} {A B : AS} {L : List AS} (h : PM m A L) (f : frL m m') (hr : RowM (m'.1 1) B) : PM m' B L ∧ frY m m' := by
  obtain ⟨h1, h2, h3, h4⟩ := h
  refine ⟨⟨hr, h2, by rw [f.2.2 3 (by omega) (by omega) (by omega)]; exact h3, fun i B2 hB => ?_⟩, fun c a => f.2.1 c (by omega) (by omega) (by omega), fun j a => f.2.2 j (by omega) (by omega) (by omega), by rw [f.1]⟩
  rw [f.2.1 2 (by omega) (by omega) (by omega)]
  exact h4 i B2 hB
theorem PM_0 {m : zMem} {A : AS} {L : List AS} (h : PM m A L) {j : Nat} (v : Int32) (hj : j ≠ 3) : PM (zsI m 0 j v) A L := by
  obtain ⟨h1, h2, h3, h4⟩ := h
  refine ⟨by rw [zsI_ne _ _ _ (by omega)]; exact h1, h2, by rw [zsI_n _ _ (by omega)]; exact h3, fun i B hB => ?_⟩
  rw [zsI_ne _ _ _ (by omega)]
  exact h4 i B hB
theorem frY_0 (m : zMem) {j : Nat} (v : Int32) (hj : j ≠ 6) : frY m (zsI m 0 j v) := ⟨fun c a => zsI_ne _ _ _ (by omega), fun i a => zsI_n _ _ (by omega), rfl⟩
theorem saves_cp {N n : Nat} {m : zMem} (hN : 1816 < N) (h : m.1 0 3 = nI n) (hn : n < 3) (K : zMem → Option zMem) : ∃ m', klp (sX6_saves_51 K) N (0, m) = K m' ∧ m'.2 = m.2 ∧ (∀ c, c ≠ 2 → m'.1 c = m.1 c) ∧ ∀ j, m'.1 2 j = if 1816 * n ≤ j ∧ j < 1816 * n + 1816 then m.1 1 (j - 1816 * n) else m.1 2 j := by
  refine klp_iR (n := N) (z := (0, m)) (fun (i : Nat) (z : Int32 × zMem) => z.1 = nI i ∧ z.2.2 = m.2 ∧ (∀ c, c ≠ 2 → z.2.1 c = m.1 c) ∧ ∀ j, z.2.1 2 j = if 1816 * n ≤ j ∧ j < 1816 * n + i then m.1 1 (j - 1816 * n) else m.1 2 j) 1816 (fun r => ∃ m', r = K m' ∧ m'.2 = m.2 ∧ (∀ c, c ≠ 2 → m'.1 c = m.1 c) ∧ ∀ j, m'.1 2 j = if 1816 * n ≤ j ∧ j < 1816 * n + 1816 then m.1 1 (j - 1816 * n) else m.1 2 j) (fun i hi z hz => ?_) (fun z hz rec => ?_) ⟨rfl, rfl, fun _ _ => rfl, fun j => by rw [if_neg (by omega)]⟩ hN
  · obtain ⟨z1, z2⟩ := z
    obtain ⟨g1, g2, g3, g4⟩ := hz
    dsimp only at g1 g2 g3 g4
    subst g1
    refine ⟨(nI (i + 1), zsI z2 2 (1816 * n + i) (m.1 1 i)), ⟨rfl, g2, fun c hc => by rw [zsI_ne _ _ _ hc]; exact g3 c hc, fun j => ?_⟩, fun rec => ?_⟩
    · show (zsI z2 2 (1816 * n + i) (m.1 1 i)).1 2 j = _
      by_cases q : j = 1816 * n + i
      · rw [q, zsI_s, if_pos (by omega), show 1816 * n + i - 1816 * n = i by omega]
      · rw [zsI_n _ _ (by omega), g4]
        by_cases q2 : 1816 * n ≤ j ∧ j < 1816 * n + i
        · rw [if_pos q2, if_pos (by omega)]
        · rw [if_neg q2, if_neg (by omega)]
    · simp only [sX6_saves_51, kgi]
      rw [nn1816, if_neg (nI_ge (by omega) (by omega)), g3 0 (by omega), h, kld_n hi (by decide), g3 1 (by omega), pk_mul, nI_add, kst_n (by omega) (by decide), nI_1]
  · obtain ⟨z1, z2⟩ := z
    obtain ⟨g1, g2, g3, g4⟩ := hz
    dsimp only at g1 g2 g3 g4
    subst g1
    refine ⟨z2, ?_, g2, g3, g4⟩
    simp only [sX6_saves_51]
    rw [nn1816, if_pos (nI_le (Nat.le_refl _) (by omega))]
theorem saves_sh {N : Nat} {m : zMem} (hN : 3632 < N) (K : zMem → Option zMem) : ∃ m', klp (sX6_saves_10 K) N (0, m) = K m' ∧ m'.2 = m.2 ∧ (∀ c, c ≠ 2 → m'.1 c = m.1 c) ∧ ∀ j, m'.1 2 j = if j < 3632 then m.1 2 (j + 1816) else m.1 2 j := by
  refine klp_iR (n := N) (z := (0, m)) (fun (i : Nat) (z : Int32 × zMem) => z.1 = nI i ∧ z.2.2 = m.2 ∧ (∀ c, c ≠ 2 → z.2.1 c = m.1 c) ∧ ∀ j, z.2.1 2 j = if j < i then m.1 2 (j + 1816) else m.1 2 j) 3632 (fun r => ∃ m', r = K m' ∧ m'.2 = m.2 ∧ (∀ c, c ≠ 2 → m'.1 c = m.1 c) ∧ ∀ j, m'.1 2 j = if j < 3632 then m.1 2 (j + 1816) else m.1 2 j) (fun i hi z hz => ?_) (fun z hz rec => ?_) ⟨rfl, rfl, fun _ _ => rfl, fun j => by rw [if_neg (by omega)]⟩ hN
  · obtain ⟨z1, z2⟩ := z
    obtain ⟨g1, g2, g3, g4⟩ := hz
    dsimp only at g1 g2 g3 g4
    subst g1
    refine ⟨(nI (i + 1), zsI z2 2 i (m.1 2 (i + 1816))), ⟨rfl, g2, fun c hc => by rw [zsI_ne _ _ _ hc]; exact g3 c hc, fun j => ?_⟩, fun rec => ?_⟩
    · show (zsI z2 2 i (m.1 2 (i + 1816))).1 2 j = _
      by_cases q : j = i
      · rw [q, zsI_s, if_pos (by omega)]
      · rw [zsI_n _ _ (by omega), g4]
        by_cases q2 : j < i
        · rw [if_pos q2, if_pos (by omega)]
        · rw [if_neg q2, if_neg (by omega)]
    · simp only [sX6_saves_10]
      rw [nn3632, if_neg (nI_ge (by omega) (by omega)), nn1816, nI_add, kld_n (by omega) (by decide), g4, if_neg (by omega), kst_n (by omega) (by decide), nI_1]
  · obtain ⟨z1, z2⟩ := z
    obtain ⟨g1, g2, g3, g4⟩ := hz
    dsimp only at g1 g2 g3 g4
    subst g1
    refine ⟨z2, ?_, g2, g3, g4⟩
    simp only [sX6_saves_10]
    rw [nn3632, if_pos (nI_le (Nat.le_refl _) (by omega))]
theorem pX6_saves {N : Nat} {m : zMem} {A : AS} {L : List AS} (hN : 3632 < N) (h : PM m A L) : ∃ m', fX6_saves N m = some m' ∧ PM m' A (pushL A L) ∧ frY m m' ∧ m'.2 = m.2 ∧ (∀ c, c ≠ 0 → c ≠ 2 → m'.1 c = m.1 c) ∧ (∀ j, j ≠ 3 → m'.1 0 j = m.1 0 j) := by
  obtain ⟨h1, h2, h3, h4⟩ := h
  simp only [fX6_saves, kjn, kgi, kpi]
  have tail : ∀ (m2 : zMem) (n : Nat) (L2 : List AS), n < 3 → L2.length = n → pushL A L = A :: L2 → m2.1 0 3 = nI n → m2.2 = m.2 → (∀ c, c ≠ 0 → c ≠ 2 → m2.1 c = m.1 c) → (∀ j, j ≠ 3 → m2.1 0 j = m.1 0 j) → (∀ i B, L2[i]? = some B → RowM (fun j => m2.1 2 (1816 * (n - 1 - i) + j)) B) →
      ∃ m', klp (sX6_saves_51 fun m3 => some (zsI m3 0 3 (m3.1 0 3 + 1))) N (0, m2) = some m' ∧ PM m' A (pushL A L) ∧ frY m m' ∧ m'.2 = m.2 ∧ (∀ c, c ≠ 0 → c ≠ 2 → m'.1 c = m.1 c) ∧ (∀ j, j ≠ 3 → m'.1 0 j = m.1 0 j) := by
    intro m2 n L2 hn hL hp e3 k1 k2 k3 k4
    obtain ⟨m3, e, g1, g2, g3⟩ := saves_cp (N := N) (by omega) e3 hn (fun m3 => some (zsI m3 0 3 (m3.1 0 3 + 1)))
    refine ⟨_, e, ⟨?_, push_le A L, ?_, fun i B hB => ?_⟩, ⟨fun c hc => ?_, fun j hj => ?_, ?_⟩, ?_, fun c hc hc2 => ?_, fun j hj => ?_⟩
    · rw [zsI_ne _ _ _ (by omega), g2 1 (by omega), k2 1 (by omega) (by omega)]; exact h1
    · rw [zsI_s, g2 0 (by omega), e3, nI_1, hp, List.length_cons, hL]
    · rw [zsI_ne _ _ _ (by omega)]
      rw [hp] at hB ⊢
      rw [List.length_cons, hL]
      cases i with
      | zero =>
        simp at hB
        subst hB
        refine RowM_cg h1 (fun j hj => ?_)
        rw [g3, if_pos (by omega), k2 1 (by omega) (by omega)]
        exact congrArg (m.1 1) (by omega)
      | succ i =>
        have hB2 : L2[i]? = some B := by simpa using hB
        have hi : i < L2.length := (List.getElem?_eq_some_iff.mp hB2).1
        refine RowM_cg (k4 i B hB2) (fun j hj => ?_)
        rw [show n + 1 - 1 - (i + 1) = n - 1 - i by omega, g3, if_neg (by omega)]
    · rw [zsI_ne _ _ _ (by omega), g2 c (by omega)]; exact k2 c (by omega) (by omega)
    · rw [zsI_n _ _ (by omega), g2 0 (by omega)]; exact k3 j (by omega)
    · rw [zsI_2, g1, k1]
    · rw [zsI_2, g1, k1]
    · rw [zsI_ne _ _ _ hc, g2 c hc2]; exact k2 c hc hc2
    · rw [zsI_n _ _ (by omega), g2 0 (by omega)]; exact k3 j hj
  rw [h3]
  by_cases q : L.length = 3
  · rw [q, nn3, if_pos rfl]
    obtain ⟨m1, e, g1, g2, g3⟩ := saves_sh (N := N) (m := m) hN (fun m11 => klp (sX6_saves_51 fun m3 => some (zsI m3 0 3 (m3.1 0 3 + 1))) N (0, zsI m11 0 3 (m11.1 0 3 - 1)))
    rw [e]
    refine tail _ 2 (L.take 2) (by omega) (by rw [List.length_take]; omega) ?_ ?_ ?_ (fun c hc hc2 => ?_) (fun j hj => ?_) (fun i B hB => ?_)
    · unfold pushL; rfl
    · rw [zsI_s, g2 0 (by omega), h3, q]; rfl
    · rw [zsI_2, g1]
    · rw [zsI_ne _ _ _ hc, g2 c hc2]
    · rw [zsI_n _ _ (by omega), g2 0 (by omega)]
    · rw [List.getElem?_take] at hB
      by_cases q2 : i < 2
      · rw [if_pos q2] at hB
        refine RowM_cg (h4 i B hB) (fun j hj => ?_)
        rw [zsI_ne _ _ _ (by omega), g3, if_pos (by omega), q]
        exact congrArg (m.1 2) (by omega)
      · rw [if_neg q2] at hB; cases hB
  · rw [if_neg (fun z => by rw [nn3] at z; exact q (nI_inj (by omega) (by omega) z))]
    refine tail m L.length L (by omega) rfl ?_ h3 rfl (fun c _ _ => rfl) (fun j _ => rfl) h4
    unfold pushL
    rw [List.take_of_length_le]
    rw [List.length_cons]; omega
theorem pX6_refused0 (m : zMem) : fX6_refused 0 m = some (0, zsI m 0 4 0) := by
  unfold fX6_refused kpi
  exact if_pos (by decide)
theorem pX6_refusedp {r : Int32} (h : r = 1 ∨ r = 2 ∨ r = 3) (m : zMem) : fX6_refused r m = some (1, zsI m 0 4 r) := by
  unfold fX6_refused kpi
  refine if_neg ?_
  rcases h with e | e | e <;> subst e <;> decide
theorem pX6_undo {N : Nat} {m : zMem} {A B : AS} {L : List AS} (hN : 3632 < N) (h : PM m A (B :: L)) : ∃ m', fX6_undo N m = some (nI L.length, m') ∧ PM m' B L ∧ frY m m' ∧ m'.1 0 4 = 0 := by
  obtain ⟨h1, h2, h3, h4⟩ := h
  rw [List.length_cons] at h2 h3
  simp only [fX6_undo, kjn, kgi, kpi]
  have hne : ¬ nI (L.length + 1) = 0 := fun z => by have := nI_inj (by omega) (by omega) (z.trans nn0); omega
  rw [h3, if_neg hne, pX6_refused0, kc2_s, if_pos rfl]
  obtain ⟨m1, hm1⟩ : ∃ z, z = zsI (zsI m 0 4 0) 0 3 ((zsI m 0 4 0).1 0 3 - 1) := ⟨_, rfl⟩
  rw [← hm1]
  have e3 : m1.1 0 3 = nI L.length := by rw [hm1, zsI_s, zsI_n _ _ (by omega), h3, nI_sub1 (by omega), Nat.add_sub_cancel]
  have e4 : m1.1 0 4 = 0 := by rw [hm1, zsI_n _ _ (by omega), zsI_s]
  have o1 : ∀ c, c ≠ 0 → m1.1 c = m.1 c := fun c hc => by rw [hm1, zsI_ne _ _ _ hc, zsI_ne _ _ _ hc]
  have o0 : ∀ j, j ≠ 3 → j ≠ 4 → m1.1 0 j = m.1 0 j := fun j a b => by rw [hm1, zsI_n _ _ (by omega), zsI_n _ _ (by omega)]
  have z1 : m1.2 = m.2 := by rw [hm1]; rfl
  refine klp_iR (n := N) (z := (0, m1)) (fun (i : Nat) (z : Int32 × zMem) => z.1 = nI i ∧ z.2.2 = m.2 ∧ (∀ c, c ≠ 1 → z.2.1 c = m1.1 c) ∧ ∀ j, j < i → z.2.1 1 j = m.1 2 (1816 * L.length + j)) 1816 (fun r => ∃ m', r = some (nI L.length, m') ∧ PM m' B L ∧ frY m m' ∧ m'.1 0 4 = 0) (fun i hi z hz => ?_) (fun z hz rec => ?_) ⟨rfl, z1, fun _ _ => rfl, fun j hj => absurd hj (by omega)⟩ (by omega)
  · obtain ⟨z1, z2⟩ := z
    obtain ⟨g1, g2, g3, g4⟩ := hz
    dsimp only at g1 g2 g3 g4
    subst g1
    refine ⟨(nI (i + 1), zsI z2 1 i (m.1 2 (1816 * L.length + i))), ⟨rfl, g2, fun c hc => by rw [zsI_ne _ _ _ hc]; exact g3 c hc, fun j hj => ?_⟩, fun rec => ?_⟩
    · show (zsI z2 1 i _).1 1 j = _
      by_cases q : j = i
      · rw [q, zsI_s]
      · rw [zsI_n _ _ (by omega)]; exact g4 j (by omega)
    · simp only [sX6_undo_33, kgi]
      rw [nn1816, if_neg (nI_ge (by omega) (by omega)), g3 0 (by omega), e3, pk_mul, nI_add, kld_n (by omega) (by decide), g3 2 (by omega), o1 2 (by omega), kst_n (by omega) (by decide), nI_1]
  · obtain ⟨z1, z2⟩ := z
    obtain ⟨g1, g2, g3, g4⟩ := hz
    dsimp only at g1 g2 g3 g4
    subst g1
    have h0 := h4 0 B rfl
    refine ⟨z2, ?_, ⟨?_, by omega, ?_, fun i C hC => ?_⟩, ⟨fun c hc => ?_, fun j hj => ?_, ?_⟩, ?_⟩
    · simp only [sX6_undo_33]
      rw [nn1816, if_pos (nI_le (Nat.le_refl _) (by omega)), g3 0 (by omega), e3]
    · refine RowM_cg h0 (fun j hj => ?_)
      rw [g4 j hj, List.length_cons]
      exact congrArg (m.1 2) (by omega)
    · rw [g3 0 (by omega), e3]
    · have hi : i < L.length := (List.getElem?_eq_some_iff.mp hC).1
      rw [g3 2 (by omega), o1 2 (by omega)]
      have := h4 (i + 1) C (by simpa using hC)
      rw [List.length_cons, show L.length + 1 - 1 - (i + 1) = L.length - 1 - i by omega] at this
      exact this
    · rw [g3 c (by omega), o1 c (by omega)]
    · rw [g3 0 (by omega), o0 j (by omega) (by omega)]
    · rw [g2]
    · rw [g3 0 (by omega)]; exact e4
