/-! a run of the reference -/
def frG (m y : zMem) : Prop := y.2 = m.2 ∧ (∀ c, c ≠ 6 → c ≠ 0 → y.1 c = m.1 c) ∧ ∀ j, j ≠ 12 → y.1 0 j = m.1 0 j
theorem frG.rf (m : zMem) : frG m m := ⟨rfl, fun _ _ _ => rfl, fun _ _ => rfl⟩
theorem frG.tr {m m1 m2 : zMem} (h : frG m m1) (h2 : frG m1 m2) : frG m m2 := ⟨h2.1.trans h.1, fun c a b => (h2.2.1 c a b).trans (h.2.1 c a b), fun j a => (h2.2.2 j a).trans (h.2.2 j a)⟩
theorem frG.sc {m y : zMem} {k : Nat} {f : Nat → Int32} (h : frG m y) (s : ScM m k f) : ScM y k f := ⟨by rw [h.2.2 6 (by omega)]; exact s.1, s.2.1, fun j hj => by rw [h.2.1 4 (by omega) (by omega)]; exact s.2.2 j hj⟩
theorem frG.pm {m y : zMem} {A : AS} {L : List AS} (h : frG m y) (p : PM m A L) : PM y A L := ⟨by rw [h.2.1 1 (by omega) (by omega)]; exact p.1, p.2.1, by rw [h.2.2 3 (by omega)]; exact p.2.2.1, fun i B hB => by rw [h.2.1 2 (by omega) (by omega)]; exact p.2.2.2 i B hB⟩
theorem run_p1 {N k : Nat} {f : Nat → Int32} {m : zMem} (hN : 121 < N) (h : ScM m k f) (K : zMem → Option (Int32 × zMem)) : ∃ y, frG m y ∧ klp (sX6_run_15 N K) N (zsI m 0 11 (nI (cmP f k 0))) = if rnB f k then some (-10 - nI (rcE f k (cmP f k (cmN f k))), zsI y 0 11 (nI (rcE f k (cmP f k (cmN f k))))) else K (zsI y 0 11 (nI (cmP f k (cmN f k)))) := by
  have hk := h.2.1
  have hN2 := cmN_le (f := f) hk
  refine klp_iR (n := N) (z := zsI m 0 11 (nI (cmP f k 0))) (fun (i : Nat) (z : zMem) => ∃ y, frG m y ∧ z = zsI y 0 11 (nI (cmP f k i))) (cmN f k) (fun r => ∃ y, frG m y ∧ r = if rnB f k then some (-10 - nI (rcE f k (cmP f k (cmN f k))), zsI y 0 11 (nI (rcE f k (cmP f k (cmN f k))))) else K (zsI y 0 11 (nI (cmP f k (cmN f k))))) (fun i hi z hz => ?_) (fun z hz rec => ?_) ⟨m, frG.rf m, rfl⟩ (by omega)
  · obtain ⟨y, g1, g2⟩ := hz
    subst g2
    obtain ⟨h1, h2⟩ := cmN_in hi
    have sy := g1.sc h
    obtain ⟨y2, e1, k1, k2, k3, k4, k5⟩ := pX6_reads hN sy (cmP_le f k i)
    have g2 : frG m y2 := g1.tr ⟨k1, k2, k3⟩
    refine ⟨zsI y2 0 11 (nI (cmP f k (i + 1))), ⟨y2, g2, rfl⟩, fun rec => ?_⟩
    simp only [sX6_run_15, kgi]
    rw [zsI_s, zsI_n _ _ (by omega), sy.1, if_neg (nI_ge h1 (by omega)), e1, kc2_s, if_pos h2, if_neg (show ¬ (1 : Int32) = 0 by decide), pX6_skips hN (g2.sc h) (rcE_le (cmP_le f k i)), kc2_s]
    rfl
  · obtain ⟨y, g1, g2⟩ := hz
    subst g2
    have sy := g1.sc h
    simp only [sX6_run_15, kgi]
    by_cases q : rnB f k
    · obtain ⟨y2, e1, k1, k2, k3, k4, k5⟩ := pX6_reads hN sy (cmP_le f k (cmN f k))
      refine ⟨y2, g1.tr ⟨k1, k2, k3⟩, ?_⟩
      rw [if_pos q, zsI_s, zsI_n _ _ (by omega), sy.1, if_neg (nI_ge q (by omega)), e1, kc2_s, if_neg (cmN_end hk q), if_pos (show (0 : Int32) = 0 from rfl), zsI_s]
    · refine ⟨y, g1, ?_⟩
      rw [if_neg q, zsI_s, zsI_n _ _ (by omega), sy.1, if_pos (nI_le (by omega) (by have := cmP_le f k (cmN f k); omega))]
theorem run_st {N n k i : Nat} {f : Nat → Int32} {y : zMem} {A : AS} {L : List AS} (hN : 100000 < N) (s : ScM y k f) (h : PM y A L) (g : GD A n) (hn : n + 500 < 2 ^ 31) (hi : i < cmN f k) (K : Int32 → zMem → Option (Int32 × zMem)) : ∃ y', PM y' (cmD f k A i).2 L ∧ ScM y' k f ∧ y'.1 0 4 = y.1 0 4 ∧ ∀ rec, sX6_run_67 N K rec (nI i, 1, zsI y 0 11 (nI (cmP f k i))) = rec (if (cmD f k A i).1 = true then nI (i + 1) else nI i, if (cmD f k A i).1 = true then 1 else 0, zsI y' 0 11 (nI (cmP f k (i + 1)))) := by
  have hk := s.2.1
  obtain ⟨h1, h2⟩ := cmN_in hi
  obtain ⟨w1, w2, w3⟩ := rcB_3 h2
  have w4 := rcW_le f k (cmP f k i)
  obtain ⟨y2, e1, k1, k2, k3, k4, k5⟩ := pX6_reads (N := N) (by omega) s (cmP_le f k i)
  have f2 : frG y y2 := ⟨k1, k2, k3⟩
  have k6 := k5 h2
  have w5 : rcW f k (cmP f k i) - 1 + 1 = rcW f k (cmP f k i) := by omega
  obtain ⟨y3, e2, p3, f3⟩ := e6_does (N := N) (n := n) (w := rcW f k (cmP f k i) - 1) (m := zsI y2 0 11 (nI (rcE f k (cmP f k i)))) (a := cmV f k i 0) (b := y2.1 6 1) (c := y2.1 6 2) hN (PM_0 (f2.pm h) _ (by omega)) g hn (by omega) (by rw [zsI_n _ _ (by omega), k4, w5]) (by rw [zsI_n _ _ (by omega)]; exact k6 0 (by have := rcN_pos (rcW f k (cmP f k i)); omega)) (zsI_n _ _ (by omega)) (zsI_n _ _ (by omega))
  have eD : doS A (rcW f k (cmP f k i) - 1) (cmV f k i 0) (y2.1 6 1) (y2.1 6 2) = cmD f k A i := by
    unfold cmD
    refine doS_irr A _ _ (fun z => ?_) (fun z => ?_)
    · have z1 : rcW f k (cmP f k i) = 1 := by omega
      rw [z1] at k6
      exact ⟨k6 1 (by decide), k6 2 (by decide)⟩
    · have z1 : rcW f k (cmP f k i) = 3 := by omega
      rw [z1] at k6
      exact k6 1 (by decide)
  rw [eD] at e2 p3
  have s3 : ScM y3 k f := f3.P.sc (ScM_I (f2.sc s) (by omega) (by omega))
  have e4 : y3.1 0 4 = y.1 0 4 := by rw [f3.q4, zsI_n _ _ (by omega), f2.2.2 4 (by omega)]
  have e11 : y3 = zsI y3 0 11 (nI (rcE f k (cmP f k i))) := by
    have : y3.1 0 11 = nI (rcE f k (cmP f k i)) := by rw [f3.2 11 (by omega) (by omega) (by omega) (by omega), zsI_s]
    rw [← this, zsI_id]
  refine ⟨y3, p3, s3, e4, fun rec => ?_⟩
  simp only [sX6_run_67, kgi, kjn, klt]
  rw [zsI_s, zsI_n _ _ (by omega), s.1, if_neg (nI_ge h1 (by omega)), if_neg (show ¬ (1 : Int32) = 0 by decide), e1, kc2_s, if_pos h2, if_neg (show ¬ (1 : Int32) = 0 by decide), e2, kc2_s]
  have sk : fX6_skips N y3 = some (if rcE f k (cmP f k i) < k ∧ isSp f (rcE f k (cmP f k i)) = true then 1 else 0, zsI y3 0 11 (nI (cmP f k (i + 1)))) := by
    have h0 := pX6_skips (N := N) (by omega) s3 (rcE_le (f := f) (cmP_le f k i))
    rw [← e11] at h0
    exact h0
  by_cases q : (cmD f k A i).1 = true
  · rw [if_pos q, if_neg (show ¬ (1 : Int32) = 0 by decide), if_neg (show ¬ (1 : Int32) = 0 by decide), sk, kc2_s, nI_1]
    simp only [if_pos q]
  · rw [if_neg q, if_pos (show (0 : Int32) = 0 from rfl), if_pos trivial, sk, kc2_s, Int32.add_zero]
    simp only [if_neg q]
theorem run_p2 {N n k : Nat} {f : Nat → Int32} {m : zMem} {A : AS} {L : List AS} (hN : 100000 < N) (s : ScM m k f) (h : PM m A L) (g : GD A n) (hn : n + 10000 < 2 ^ 31) (hq : ¬ rnB f k) : ∃ y, klp (sX6_run_67 N fun w x => some (w, x)) N (0, 1, zsI m 0 11 (nI (cmP f k 0))) = some (nI (cmK f k A), y) ∧ PM y (cmS f k A (cmK f k A)) L ∧ ScM y k f ∧ y.1 0 4 = m.1 0 4 := by
  have hk := s.2.1
  have hN2 := cmN_le (f := f) hk
  have hK := cmK_le f k A
  refine klp_iR (n := N) (z := (0, 1, zsI m 0 11 (nI (cmP f k 0)))) (fun (i : Nat) (z : Int32 × Int32 × zMem) => (i ≤ cmK f k A ∧ z.1 = nI i ∧ z.2.1 = 1 ∧ ∃ y, z.2.2 = zsI y 0 11 (nI (cmP f k i)) ∧ PM y (cmS f k A i) L ∧ ScM y k f ∧ y.1 0 4 = m.1 0 4) ∨ (i = cmK f k A + 1 ∧ z.1 = nI (cmK f k A) ∧ z.2.1 = 0 ∧ PM z.2.2 (cmS f k A (cmK f k A)) L ∧ ScM z.2.2 k f ∧ z.2.2.1 0 4 = m.1 0 4)) (if cmK f k A = cmN f k then cmK f k A else cmK f k A + 1) (fun r => ∃ y, r = some (nI (cmK f k A), y) ∧ PM y (cmS f k A (cmK f k A)) L ∧ ScM y k f ∧ y.1 0 4 = m.1 0 4) (fun i hi z hz => ?_) (fun z hz rec => ?_) (Or.inl ⟨Nat.zero_le _, rfl, rfl, m, rfl, h, s, rfl⟩) (by split <;> omega)
  · have hi2 : i < cmN f k := by
      by_cases q : cmK f k A = cmN f k
      · rw [if_pos q] at hi; omega
      · rw [if_neg q] at hi; omega
    rcases hz with ⟨g0, g1, g2, y, g3, g4, g5, g6⟩ | ⟨g0, -⟩
    · obtain ⟨z1, z2, z3⟩ := z
      dsimp only at g1 g2 g3
      subst g1; subst g2; subst g3
      obtain ⟨y2, p2, s2, e4, st⟩ := run_st (N := N) hN g5 g4 (GD_cm g i) (by omega) hi2 (fun w x => some (w, x))
      refine ⟨_, ?_, st⟩
      by_cases q : i = cmK f k A
      · right
        subst q
        have hf := cmK_at hi2
        have hf2 : ¬ (cmD f k (cmS f k A (cmK f k A)) (cmK f k A)).1 = true := fun z => by rw [hf] at z; cases z
        refine ⟨rfl, if_neg hf2, if_neg hf2, ?_, ScM_I s2 (by omega) (by omega), ?_⟩
        · have : (cmD f k (cmS f k A (cmK f k A)) (cmK f k A)).2 = cmS f k A (cmK f k A) := doS_f hf
          rw [this] at p2
          exact PM_0 p2 _ (by omega)
        · rw [zsI_n _ _ (by omega), e4, g6]
      · left
        have ht := cmK_in (show i < cmK f k A by omega)
        exact ⟨by omega, if_pos ht, if_pos ht, y2, rfl, p2, s2, by rw [e4, g6]⟩
    · by_cases q : cmK f k A = cmN f k
      · rw [if_pos q] at hi; omega
      · rw [if_neg q] at hi; omega
  · obtain ⟨z1, z2, z3⟩ := z
    simp only [sX6_run_67, kgi]
    by_cases q : cmK f k A = cmN f k
    · rw [if_pos q] at hz
      rcases hz with ⟨g0, g1, g2, y, g3, g4, g5, g6⟩ | ⟨g0, -⟩
      · dsimp only at g1 g2 g3
        subst g1; subst g2; subst g3
        refine ⟨zsI y 0 11 (nI (cmP f k (cmK f k A))), ?_, PM_0 g4 _ (by omega), ScM_I g5 (by omega) (by omega), by rw [zsI_n _ _ (by omega)]; exact g6⟩
        rw [zsI_s, zsI_n _ _ (by omega), g5.1, if_pos]
        refine nI_le ?_ (by have := cmP_le f k (cmK f k A); omega)
        rw [q]
        exact Nat.le_of_not_lt hq
      · omega
    · rw [if_neg q] at hz
      rcases hz with ⟨g0, -⟩ | ⟨g0, g1, g2, g3, g4, g5⟩
      · omega
      · dsimp only at g1 g2 g3 g4 g5
        subst g1; subst g2
        refine ⟨z3, ?_, g3, g4, g5⟩
        split
        · rfl
        · rw [if_pos (show (0 : Int32) = 0 from rfl)]
theorem e6_run {N n k : Nat} {m : zMem} {A : AS} {L : List AS} {f : Nat → Int32} (hN : 100000 < N) (h : PM m A L) (s : ScM m k f) (g : GD A n) (hn : n + 10000 < 2 ^ 31) : ∃ m', fX6_run N m = some (rnR f k A, m') ∧ PM m' (rnS f k A) (rnL f k A L) ∧ ScM m' k f ∧ m'.1 0 4 = 0 := by
  simp only [fX6_run, kpi, kjn]
  have s1 : ScM (zsI m 0 4 0) k f := ScM_I s (by omega) (by omega)
  have p1 : PM (zsI m 0 4 0) A L := (PM_4 h 0).1
  have e0 : skP (isSp f) k 0 = cmP f k 0 := rfl
  have sk : ∀ y : zMem, ScM y k f → ∃ v, fX6_skips N (zsI y 0 11 0) = some (v, zsI y 0 11 (nI (cmP f k 0))) := fun y hy => ⟨_, pX6_skips (N := N) (p := 0) (by omega) hy (Nat.zero_le _)⟩
  obtain ⟨v0, sk0⟩ := sk _ s1
  rw [sk0, kc2_s]
  obtain ⟨y, g1, e1⟩ := run_p1 (N := N) (by omega) s1 (fun m5 => kc1 (fX6_saves N m5) fun m6 => kc2 (fX6_skips N (zsI m6 0 11 0)) fun v8 m9 => klp (sX6_run_67 N fun w10 m11 => some (w10, m11)) N (0, 1, m9))
  have q4 : y.1 0 4 = 0 := by rw [g1.2.2 4 (by omega), zsI_s]
  have py := g1.pm p1
  have sy := g1.sc s1
  rw [e1]
  unfold rnR rnS rnL
  by_cases q : rnB f k
  · rw [if_pos q, if_pos q, if_pos q, if_pos q]
    exact ⟨_, rfl, PM_0 py _ (by omega), ScM_I sy (by omega) (by omega), by rw [zsI_n _ _ (by omega)]; exact q4⟩
  · rw [if_neg q, if_neg q, if_neg q, if_neg q]
    obtain ⟨y2, e2, p2, f2⟩ := eX6_saves (N := N) (by omega) (PM_0 (j := 11) py (nI (cmP f k (cmN f k))) (by omega))
    have s2 : ScM y2 k f := f2.P.sc (ScM_I sy (by omega) (by omega))
    obtain ⟨v2, sk2⟩ := sk _ s2
    rw [e2, kc1_s, sk2, kc2_s]
    obtain ⟨y3, e3, p3, s3, q3⟩ := run_p2 (N := N) hN s2 p2 g hn q
    exact ⟨y3, e3, p3, s3, by rw [q3, f2.q4, zsI_n _ _ (by omega)]; exact q4⟩
