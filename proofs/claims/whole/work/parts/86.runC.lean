/-! a run of the class -/
/-- only the reading of the script has changed -/
def frHh (m y : zMem) : Prop := y.2 = m.2 ∧ (∀ c, c ≠ 6 → c ≠ 8 → c ≠ 9 → y.1 c = m.1 c) ∧ y.1 6 1 = m.1 6 1
theorem frHh.rf (m : zMem) : frHh m m := ⟨rfl, fun _ _ _ _ => rfl, rfl⟩
theorem frHh.tr {m m1 m2 : zMem} (h : frHh m m1) (h2 : frHh m1 m2) : frHh m m2 := ⟨h2.1.trans h.1, fun c a b d => (h2.2.1 c a b d).trans (h.2.1 c a b d), h2.2.2.trans h.2.2⟩
theorem frHh.sc {m y : zMem} {k : Nat} {f : Nat → Int32} (h : frHh m y) (s : ScC m k f) : ScC y k f := ⟨h.2.2.trans s.1, s.2.1, fun j hj => by rw [h.2.1 7 (by omega) (by omega) (by omega)]; exact s.2.2 j hj⟩
theorem frHh.pc {m y : zMem} {A : AS} {L : List AS} (h : frHh m y) (p : PC m A L) : PC y A L := PC_scr p h.1 (fun c hc => h.2.1 c (by omega) (by omega) (by omega))
theorem frHh5 (m : zMem) (v : Int32) : frHh m (zsI m 6 5 v) := ⟨rfl, fun c h _ _ => zsI_ne _ _ _ h, zsI_n _ _ (by omega)⟩
theorem frHh3 (m : zMem) (v : Int32) : frHh m (zsI m 6 3 v) := ⟨rfl, fun c h _ _ => zsI_ne _ _ _ h, zsI_n _ _ (by omega)⟩
theorem frHh8 (m : zMem) (j : Nat) (v : Int32) : frHh m (zsI m 8 j v) := ⟨rfl, fun c _ h _ => zsI_ne _ _ _ h, zsI_n _ _ (by omega)⟩
theorem frHh9 (m : zMem) (j : Nat) (v : Int32) : frHh m (zsI m 9 j v) := ⟨rfl, fun c _ _ h => zsI_ne _ _ _ h, zsI_n _ _ (by omega)⟩
theorem cmd_nb {N k p n c : Nat} {f : Nat → Int32} {m : zMem} {v : Int32} (hN : 121 < N) (h : ScC m k f) (hp : p ≤ k) (hn : n ≤ 3) (hc : c < 20) (h3 : m.1 6 3 = nI c) (hv : fX1_numbersOf v = some (nI n)) (K : zMem → Option (Int32 × zMem)) : ∃ y : zMem, frHh m y ∧ y.1 6 3 = nI c ∧ y.1 8 = m.1 8 ∧ (∀ q, q < 3 * c → y.1 9 q = m.1 9 q) ∧ (∀ j, j < nfC f k p n → y.1 9 (3 * c + j) = rdV f k (npE f k p j)) ∧ klp (sX1_readCommand_34 N v K) N (0, zsI m 6 5 (nI p)) = (if nfC f k p n = n then K (zsI y 6 5 (nI (npE f k p n))) else some (nI (npE f k p (nfC f k p n + 1)), zsI y 6 5 (nI (npE f k p (nfC f k p n + 1))))) := by
  have hle := nfC_le f k p n
  refine klp_iR (n := N) (z := (0, zsI m 6 5 (nI p))) (fun (i : Nat) (z : Int32 × zMem) => z.1 = nI i ∧ ∃ y : zMem, z.2 = zsI y 6 5 (nI (npE f k p i)) ∧ frHh m y ∧ y.1 6 3 = nI c ∧ y.1 8 = m.1 8 ∧ (∀ q, q < 3 * c → y.1 9 q = m.1 9 q) ∧ ∀ j, j < i → y.1 9 (3 * c + j) = rdV f k (npE f k p j)) (nfC f k p n) (fun r => ∃ y : zMem, frHh m y ∧ y.1 6 3 = nI c ∧ y.1 8 = m.1 8 ∧ (∀ q, q < 3 * c → y.1 9 q = m.1 9 q) ∧ (∀ j, j < nfC f k p n → y.1 9 (3 * c + j) = rdV f k (npE f k p j)) ∧ r = (if nfC f k p n = n then K (zsI y 6 5 (nI (npE f k p n))) else some (nI (npE f k p (nfC f k p n + 1)), zsI y 6 5 (nI (npE f k p (nfC f k p n + 1)))))) (fun i hi z hz => ?_) (fun z hz rec => ?_) ⟨rfl, m, rfl, frHh.rf m, h3, rfl, fun _ _ => rfl, fun j hj => absurd hj (by omega)⟩ (by omega)
  · obtain ⟨z1, z2⟩ := z
    obtain ⟨g1, y, g2, g3, g4, g5, g6, g7⟩ := hz
    dsimp only at g1 g2
    subst g1; subst g2
    obtain ⟨hB, hX⟩ := nfC_in hi
    refine ⟨(nI (i + 1), zsI (zsI y 9 (3 * c + i) (rdV f k (npE f k p i))) 6 5 (nI (npE f k p (i + 1)))), ⟨rfl, zsI y 9 (3 * c + i) (rdV f k (npE f k p i)), rfl, g3.tr (frHh9 _ _ _), by rw [zsI_n _ _ (by omega)]; exact g4, by rw [zsI_ne _ _ _ (by omega)]; exact g5, fun q hq => by rw [zsI_n _ _ (by omega)]; exact g6 q hq, fun j hj => ?_⟩, fun rec => ?_⟩
    · by_cases q : j = i
      · rw [q, zsI_s]
      · rw [zsI_n _ _ (by omega)]; exact g7 j (by omega)
    · simp only [sX1_readCommand_34, kgi]
      rw [hv, kc1_s, if_neg (nI_ge (by omega) (by omega)), zsI_n _ _ (by omega), g4, nn3, pk_mul, nI_add, Nat.mul_comm c 3, pX1_readNumber hN (g3.sc h) (npE_le hp i) (by omega), kc2_s, if_pos (show rdB f k (npE f k p i) = true ∧ rdX f k (npE f k p i) = true from ⟨hB, hX⟩), if_pos hB, if_neg (show ¬ (1 : Int32) = 0 by decide), nI_1]
      rfl
  · obtain ⟨z1, z2⟩ := z
    obtain ⟨g1, y, g2, g3, g4, g5, g6, g7⟩ := hz
    dsimp only at g1 g2
    subst g1; subst g2
    simp only [sX1_readCommand_34, kgi]
    rw [hv, kc1_s]
    by_cases q : nfC f k p n = n
    · refine ⟨y, g3, g4, g5, g6, g7, ?_⟩
      rw [if_pos q, q, if_pos (nI_le (Nat.le_refl _) (by omega))]
    · have hat := nfC_at (show nfC f k p n < n by omega)
      rw [if_neg (nI_ge (show nfC f k p n < n by omega) (by omega)), zsI_n _ _ (by omega), g4, nn3, pk_mul, nI_add, Nat.mul_comm c 3, pX1_readNumber hN (g3.sc h) (npE_le hp _) (by omega), kc2_s, if_neg hat, if_pos (show (0 : Int32) = 0 from rfl)]
      by_cases hB : rdB f k (npE f k p (nfC f k p n)) = true
      · refine ⟨zsI y 9 (3 * c + nfC f k p n) (rdV f k (npE f k p (nfC f k p n))), g3.tr (frHh9 _ _ _), by rw [zsI_n _ _ (by omega)]; exact g4, by rw [zsI_ne _ _ _ (by omega)]; exact g5, fun q hq => by rw [zsI_n _ _ (by omega)]; exact g6 q hq, fun j hj => by rw [zsI_n _ _ (by omega)]; exact g7 j hj, ?_⟩
        rw [if_pos hB, if_neg q, zsI_s]
        rfl
      · refine ⟨y, g3, g4, g5, g6, g7, ?_⟩
        rw [if_neg hB, if_neg q, zsI_s]
        rfl
theorem pk_59 (f : Nat → Int32) (k p : Nat) : (pk f k p = 59) ↔ (p < k ∧ f p = 59) := by
  unfold pk
  by_cases q : p < k
  · rw [if_pos q]
    exact ⟨fun z => ⟨q, z⟩, fun z => z.2⟩
  · rw [if_neg q]
    exact ⟨fun z => absurd z (by decide), fun z => absurd z.1 q⟩
theorem pX1_readCommand {N k p c : Nat} {f : Nat → Int32} {m : zMem} (hN : 121 < N) (h : ScC m k f) (hp : p ≤ k) (hc : c < 20) (h3 : m.1 6 3 = nI c) : ∃ m' : zMem, fX1_readCommand N (zsI m 6 5 (nI p)) = some (if rcB f k p = true then -1 else nI (rcE f k p), m') ∧ frHh m m' ∧ (rcB f k p = true → m'.1 6 5 = nI (rcE f k p) ∧ m'.1 6 3 = nI c ∧ (∀ q, q < c → m'.1 8 q = m.1 8 q) ∧ (∀ q, q < 3 * c → m'.1 9 q = m.1 9 q) ∧ m'.1 8 c = nI (rcW f k p - 1) ∧ ∀ j, j < rcN (rcW f k p) → m'.1 9 (3 * c + j) = rdV f k (npE f k (rcT f k p) j)) := by
  have hT := rcT_le (f := f) hp
  have hk := h.2.1
  have hw4 := rcW_le f k p
  simp only [fX1_readCommand, kgi, kpi, kjn]
  have eT : skP (isLt f) k p = rcT f k p := rfl
  have eW : wdA f p (rcT f k p) = rcW f k p := rfl
  rw [zsI_s, pX1_skipLetters hN h hp, kc1_s, eT, pX1_wordFrom hN h hT.1 hT.2, kc1_s, eW]
  by_cases q0 : rcW f k p = 0
  · have hB : ¬ rcB f k p = true := fun z => (rcB_3 z).1 q0
    have eE : rcE f k p = p := by unfold rcE; rw [if_pos q0]
    rw [q0, if_pos (show nI 0 - 1 = -1 by decide), if_neg hB, eE]
    exact ⟨_, rfl, frHh5 _ _, fun z => absurd z hB⟩
  · have hne : ¬ nI (rcW f k p) - 1 = -1 := by
      rw [nI_sub1 (by omega)]
      exact nI_ne_m1 (by omega)
    rw [if_neg hne, zsI_n _ _ (by omega), h3, kst_n hc (by decide), zsI_cm _ _ _ (by omega)]
    have s2 : ScC (zsI m 8 c (nI (rcW f k p) - 1)) k f := (frHh8 _ _ _).sc h
    obtain ⟨y, g1, g2, g3, g4, g5, e1⟩ := cmd_nb (N := N) (n := rcN (rcW f k p)) (m := zsI m 8 c (nI (rcW f k p) - 1)) hN s2 hT.1 (rcN_le _) hc (by rw [zsI_n _ _ (by omega)]; exact h3) (pX1_numbersOf q0 hw4) (fun m6 => kc1 (fX1_skipSpaces N m6) fun m7 => kc1 (fX1_peek m7) fun v8 => if v8 = 59 then some (-1, zsI m7 6 5 (m7.1 6 5 + 1)) else some (m7.1 6 5, m7))
    rw [e1]
    have g0 := (frHh8 m c (nI (rcW f k p) - 1)).tr g1
    have sy := g0.sc h
    by_cases q : nfC f k (rcT f k p) (rcN (rcW f k p)) = rcN (rcW f k p)
    · rw [if_pos q, pX1_skipSpaces hN sy (npE_le hT.1 _), kc1_s]
      have eS : skP (isSp f) k (npE f k (rcT f k p) (rcN (rcW f k p))) = rcS f k p := rfl
      have hS := (rcS_le (f := f) hp).1
      rw [eS, pX1_peek sy hS, kc1_s]
      have hn := nfC_e q
      by_cases q5 : rcS f k p < k ∧ f (rcS f k p) = 59
      · have hB : rcB f k p = true := by
          unfold rcB
          rw [decide_eq_true q0, decide_eq_true hn, decide_eq_true q5]; rfl
        have eE : rcE f k p = rcS f k p + 1 := by unfold rcE; rw [if_neg q0, if_pos hn, if_pos q5]
        rw [if_pos ((pk_59 f k _).mpr q5), if_pos hB, zsI_s, nI_1, zsI_zz]
        refine ⟨_, rfl, g0.tr (frHh5 _ _), fun _ => ⟨by rw [zsI_s, eE], by rw [zsI_n _ _ (by omega)]; exact g2, fun q hq => ?_, fun q hq => ?_, ?_, fun j hj => ?_⟩⟩
        · rw [zsI_ne _ _ _ (by omega), g3, zsI_n _ _ (by omega)]
        · rw [zsI_ne _ _ _ (by omega), g4 q hq, zsI_ne _ _ _ (by omega)]
        · rw [zsI_ne _ _ _ (by omega), g3, zsI_s, nI_sub1 (by omega)]
        · rw [zsI_ne _ _ _ (by omega)]
          exact g5 j (by omega)
      · have hB : ¬ rcB f k p = true := fun z => q5 (rcB_3 z).2.2
        have eE : rcE f k p = rcS f k p := by unfold rcE; rw [if_neg q0, if_pos hn, if_neg q5]
        rw [if_neg (fun z => q5 ((pk_59 f k _).mp z)), if_neg hB, zsI_s, eE]
        exact ⟨_, rfl, g0.tr (frHh5 _ _), fun z => absurd z hB⟩
    · have hle := nfC_le f k (rcT f k p) (rcN (rcW f k p))
      obtain ⟨hB, eE⟩ := nfC_f hp q0 (by omega)
      rw [if_neg q, if_neg hB, eE]
      exact ⟨_, rfl, g0.tr (frHh5 _ _), fun z => absurd z hB⟩
/-- the place from which the command number i is looked for -/
def cmQ (f : Nat → Int32) (k : Nat) : Nat → Nat
  | 0 => 0
  | i + 1 => rcE f k (cmP f k i)
theorem cmQ_le (f : Nat → Int32) (k i : Nat) : cmQ f k i ≤ k := by
  cases i with
  | zero => exact Nat.zero_le _
  | succ i => exact rcE_le (cmP_le f k i)
theorem cmQ_s (f : Nat → Int32) (k i : Nat) : skP (isSp f) k (cmQ f k i) = cmP f k i := by
  cases i with
  | zero => rfl
  | succ i => rfl
/-- the commands that are read -/
def cmR (f : Nat → Int32) (k : Nat) (y : zMem) (i : Nat) : Prop := ∀ c, c < i → y.1 8 c = nI (rcW f k (cmP f k c) - 1) ∧ ∀ j, j < rcN (rcW f k (cmP f k c)) → y.1 9 (3 * c + j) = cmV f k c j
theorem pX1_parse {N k : Nat} {f : Nat → Int32} {m : zMem} (hN : 121 < N) (h : ScC m k f) : ∃ y : zMem, fX1_parse N m = some (if rnB f k then nI (rcE f k (cmP f k (cmN f k))) else -1, y) ∧ frHh m y ∧ (¬ rnB f k → y.1 6 3 = nI (cmN f k) ∧ cmR f k y (cmN f k)) := by
  have hk := h.2.1
  have hN2 := cmN_le (f := f) hk
  simp only [fX1_parse, kpi, kjn]
  have z0 : zsI (zsI m 6 5 0) 6 3 0 = zsI (zsI m 6 3 0) 6 5 (nI (cmQ f k 0)) := zsI_cm _ _ _ (by omega)
  rw [z0]
  refine klp_iR (n := N) (z := (0, zsI (zsI m 6 3 0) 6 5 (nI (cmQ f k 0)))) (fun (i : Nat) (z : Int32 × zMem) => z.1 = nI i ∧ ∃ y : zMem, z.2 = zsI y 6 5 (nI (cmQ f k i)) ∧ frHh m y ∧ y.1 6 3 = nI i ∧ cmR f k y i) (cmN f k) (fun r => ∃ y : zMem, r = some (if rnB f k then nI (rcE f k (cmP f k (cmN f k))) else -1, y) ∧ frHh m y ∧ (¬ rnB f k → y.1 6 3 = nI (cmN f k) ∧ cmR f k y (cmN f k))) (fun i hi z hz => ?_) (fun z hz rec => ?_) ⟨rfl, _, rfl, frHh3 _ _, zsI_s _ _ _ _, fun c hc => absurd hc (by omega)⟩ (by omega)
  · obtain ⟨z1, z2⟩ := z
    obtain ⟨g1, y, g2, g3, g4, g5⟩ := hz
    dsimp only at g1 g2
    subst g1; subst g2
    obtain ⟨h1, h2⟩ := cmN_in hi
    have sy := g3.sc h
    obtain ⟨y2, e1, f2, k1⟩ := pX1_readCommand hN sy (cmP_le f k i) (show i < 20 by omega) g4
    obtain ⟨k2, k3, k4, k5, k6, k7⟩ := k1 h2
    refine ⟨(nI (i + 1), zsI y2 6 3 (nI (i + 1))), ⟨rfl, zsI y2 6 3 (nI (i + 1)), ?_, (g3.tr f2).tr (frHh3 _ _), zsI_s _ _ _ _, fun c hc => ?_⟩, fun rec => ?_⟩
    · have : (zsI y2 6 3 (nI (i + 1))).1 6 5 = nI (cmQ f k (i + 1)) := by rw [zsI_n _ _ (by omega)]; exact k2
      rw [← this, zsI_id]
    · rw [zsI_ne _ _ _ (by omega), zsI_ne _ _ _ (by omega)]
      by_cases q : c = i
      · subst q
        exact ⟨k6, k7⟩
      · obtain ⟨r1, r2⟩ := g5 c (by omega)
        refine ⟨by rw [k4 c (by omega)]; exact r1, fun j hj => ?_⟩
        have := rcN_le (rcW f k (cmP f k c))
        rw [k5 _ (by omega)]
        exact r2 j hj
    · simp only [sX1_parse_12, kgi, kpi]
      rw [show (20 : Int32) = nI 20 from rfl, if_neg (nI_ge (by omega) (by omega)), pX1_skipSpaces hN sy (cmQ_le f k i), kc1_s, cmQ_s, zsI_s, zsI_n _ _ (by omega), sy.1, if_pos (nI_lt h1 (by omega)), e1, kc2_s, if_pos h2, if_pos (show (-1 : Int32) = -1 from rfl), k3, nI_1]
  · obtain ⟨z1, z2⟩ := z
    obtain ⟨g1, y, g2, g3, g4, g5⟩ := hz
    dsimp only at g1 g2
    subst g1; subst g2
    have sy := g3.sc h
    simp only [sX1_parse_12, kgi, kpi]
    rw [show (20 : Int32) = nI 20 from rfl, if_neg (nI_ge (by omega) (by omega)), pX1_skipSpaces hN sy (cmQ_le f k _), kc1_s, cmQ_s, zsI_s, zsI_n _ _ (by omega), sy.1]
    by_cases q : rnB f k
    · obtain ⟨y2, e1, f2, -⟩ := pX1_readCommand hN sy (cmP_le f k (cmN f k)) (show cmN f k < 20 by omega) g4
      have hE := rcE_le (f := f) (cmP_le f k (cmN f k))
      refine ⟨y2, ?_, g3.tr f2, fun z => absurd q z⟩
      rw [if_pos (nI_lt q (by omega)), e1, kc2_s, if_neg (cmN_end hk q), if_neg (nI_ne_m1 (by omega)), if_pos q]
    · refine ⟨zsI y 6 5 (nI (cmP f k (cmN f k))), ?_, g3.tr (frHh5 _ _), fun _ => ⟨by rw [zsI_n _ _ (by omega)]; exact g4, fun c hc => ?_⟩⟩
      · rw [if_neg (nI_nlt (by omega) (by have := cmP_le f k (cmN f k); omega)), if_neg q]
      · rw [zsI_ne _ _ _ (by omega), zsI_ne _ _ _ (by omega)]
        exact g5 c hc
theorem e5_run {N n k : Nat} {m : zMem} {A : AS} {L : List AS} {f : Nat → Int32} (hN : 100000 < N) (h : PC m A L) (s : ScC m k f) (g : GD A n) (hn : n + 10000 < 2 ^ 31) : ∃ m', fX5_run N m = some (rnR f k A, m') ∧ PC m' (rnS f k A) (rnL f k A L) ∧ ScC m' k f := by
  have hk := s.2.1
  have hN2 := cmN_le (f := f) hk
  have hK := cmK_le f k A
  obtain ⟨y, e1, f1, k1⟩ := pX1_parse (N := N) (by omega) s
  simp only [fX5_run, kjn]
  rw [e1, kc2_s]
  unfold rnR rnS rnL
  by_cases q : rnB f k
  · have hE := rcE_le (f := f) (cmP_le f k (cmN f k))
    rw [if_pos q, if_pos q, if_pos q, if_pos q, if_neg (nI_ne_m1 (by omega))]
    exact ⟨y, rfl, f1.pc h, f1.sc s⟩
  · rw [if_neg q, if_neg q, if_neg q, if_neg q, if_pos (show (-1 : Int32) = -1 from rfl)]
    obtain ⟨k2, k3⟩ := k1 q
    obtain ⟨y2, e2, p2, f2, -⟩ := pX5_save (f1.pc h)
    rw [e2, kc1_s]
    have s2 := f2.sc (f1.sc s)
    refine klp_iR (n := N) (z := (0, y2)) (fun (i : Nat) (z : Int32 × zMem) => z.1 = nI i ∧ PC z.2 (cmS f k A i) (pushL A L) ∧ frX y2 z.2) (cmK f k A) (fun r => ∃ m', r = some (nI (cmK f k A), m') ∧ PC m' (cmS f k A (cmK f k A)) (pushL A L) ∧ ScC m' k f) (fun i hi z hz => ?_) (fun z hz rec => ?_) ⟨rfl, p2, frX.rf y2⟩ (by omega)
    · obtain ⟨z1, z2⟩ := z
      obtain ⟨g1, g2, g3⟩ := hz
      dsimp only at g1 g2 g3
      subst g1
      have fx := f2.tr g3
      have e8 : z2.1 8 = y.1 8 := fx.1 8 (by omega) (by omega)
      have e9 : z2.1 9 = y.1 9 := fx.1 9 (by omega) (by omega)
      have e6 : z2.1 6 = y.1 6 := fx.1 6 (by omega) (by omega)
      obtain ⟨r1, r2⟩ := k3 i (by omega)
      obtain ⟨b1, b2⟩ := cmN_in (show i < cmN f k by omega)
      have w0 := (rcB_3 b2).1
      have w4 := rcW_le f k (cmP f k i)
      obtain ⟨z3, e3, p3, f3⟩ := e5_carry (N := N) (w := rcW f k (cmP f k i) - 1) (a := cmV f k i 0) (b := z2.1 9 (3 * i + 1)) (c := z2.1 9 (3 * i + 2)) hN g2 (GD_cm g i) (by omega) (show i < 20 by omega) (by omega) (by rw [e8]; exact r1) (by rw [e9]; exact r2 0 (by have := rcN_pos (rcW f k (cmP f k i)); omega)) rfl rfl
      have eD : doS (cmS f k A i) (rcW f k (cmP f k i) - 1) (cmV f k i 0) (z2.1 9 (3 * i + 1)) (z2.1 9 (3 * i + 2)) = cmD f k (cmS f k A i) i := by
        unfold cmD
        rw [e9]
        refine doS_irr _ _ _ (fun z => ?_) (fun z => ?_)
        · have z1 : rcW f k (cmP f k i) = 1 := by omega
          rw [z1] at r2
          exact ⟨r2 1 (by decide), r2 2 (by decide)⟩
        · have z1 : rcW f k (cmP f k i) = 3 := by omega
          rw [z1] at r2
          exact r2 1 (by decide)
      rw [eD] at e3 p3
      have ht := cmK_in hi
      refine ⟨(nI (i + 1), z3), ⟨rfl, p3, g3.tr f3⟩, fun rec => ?_⟩
      simp only [sX5_run_24, kgi]
      rw [e6, k2, if_neg (nI_ge (by omega) (by omega)), e3, kc2_s, if_pos ht, if_neg (show ¬ (1 : Int32) = 0 by decide), nI_1]
    · obtain ⟨z1, z2⟩ := z
      obtain ⟨g1, g2, g3⟩ := hz
      dsimp only at g1 g2 g3
      subst g1
      have fx := f2.tr g3
      have e8 : z2.1 8 = y.1 8 := fx.1 8 (by omega) (by omega)
      have e9 : z2.1 9 = y.1 9 := fx.1 9 (by omega) (by omega)
      have e6 : z2.1 6 = y.1 6 := fx.1 6 (by omega) (by omega)
      simp only [sX5_run_24, kgi]
      rw [e6, k2]
      by_cases qK : cmK f k A = cmN f k
      · refine ⟨z2, ?_, g2, g3.sc s2⟩
        rw [← qK, if_pos (nI_le (Nat.le_refl _) (by omega))]
      · generalize ei : cmK f k A = i at *
        obtain ⟨r1, r2⟩ := k3 i (by omega)
        obtain ⟨b1, b2⟩ := cmN_in (show i < cmN f k by omega)
        have w0 := (rcB_3 b2).1
        have w4 := rcW_le f k (cmP f k i)
        obtain ⟨z3, e3, p3, f3⟩ := e5_carry (N := N) (w := rcW f k (cmP f k i) - 1) (a := cmV f k i 0) (b := z2.1 9 (3 * i + 1)) (c := z2.1 9 (3 * i + 2)) hN g2 (GD_cm g i) (by omega) (show i < 20 by omega) (by omega) (by rw [e8]; exact r1) (by rw [e9]; exact r2 0 (by have := rcN_pos (rcW f k (cmP f k i)); omega)) rfl rfl
        have eD : doS (cmS f k A i) (rcW f k (cmP f k i) - 1) (cmV f k i 0) (z2.1 9 (3 * i + 1)) (z2.1 9 (3 * i + 2)) = cmD f k (cmS f k A i) i := by
          unfold cmD
          rw [e9]
          refine doS_irr _ _ _ (fun z => ?_) (fun z => ?_)
          · have z1 : rcW f k (cmP f k i) = 1 := by omega
            rw [z1] at r2
            exact ⟨r2 1 (by decide), r2 2 (by decide)⟩
          · have z1 : rcW f k (cmP f k i) = 3 := by omega
            rw [z1] at r2
            exact r2 1 (by decide)
        rw [eD] at e3 p3
        have hf : (cmD f k (cmS f k A i) i).1 = false := by
          have := cmK_at (f := f) (k := k) (A := A) (by omega)
          rw [ei] at this
          exact this
        have hf2 : ¬ (cmD f k (cmS f k A i) i).1 = true := fun z => by rw [hf] at z; cases z
        have hs : (cmD f k (cmS f k A i) i).2 = cmS f k A i := doS_f hf
        rw [hs] at p3
        refine ⟨z3, ?_, p3, f3.sc (g3.sc s2)⟩
        rw [if_neg (nI_ge (by omega) (by omega)), e3, kc2_s, if_neg hf2, if_pos (show (0 : Int32) = 0 from rfl)]
