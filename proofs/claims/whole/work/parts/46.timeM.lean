/-! the same of the reference -/
def z75 (m : zMem) (v : Nat) : Nat → zMem
  | 0 => m
  | i + 1 => zsI (z75 m v i) 1 (v + i) 0
theorem z75_g (m : zMem) (v i : Nat) : (z75 m v i).2 = m.2 ∧ ∀ c j, (z75 m v i).1 c j = if c = 1 ∧ v ≤ j ∧ j < v + i then 0 else m.1 c j := by
  induction i with
  | zero => exact ⟨rfl, fun c j => by rw [if_neg (by omega)]; rfl⟩
  | succ i ih =>
    refine ⟨ih.1, fun c j => ?_⟩
    show (zsI (z75 m v i) 1 (v + i) 0).1 c j = _
    rw [zsI_g]
    by_cases e : c = 1 ∧ j = v + i
    · rw [if_pos e, if_pos (by omega)]
    · rw [if_neg e, ih.2]
      by_cases e2 : c = 1 ∧ v ≤ j ∧ j < v + i
      · rw [if_pos e2, if_pos (by omega)]
      · rw [if_neg e2, if_neg (by omega)]
theorem pX6_ends {N k : Nat} {m : zMem} {A : AS} (hN : 75 < N) (h : RowM (m.1 1) A) (hk : k < 24) : ∃ m', fX6_ends N (nI (16 + 75 * k)) m = some m' ∧ RowM (m'.1 1) (endS A k) ∧ frM m m' := by
  simp only [fX6_ends, kjn]
  have hz := z75_g m (16 + 75 * k) 75
  have main : klp (sX6_ends_2 (nI (16 + 75 * k)) fun m1 => kld m1 1 1816 8 fun v2 => kst m1 1 1816 8 (v2 + 1) fun m3 => some m3) N (0, m) = some (zsI (z75 m (16 + 75 * k) 75) 1 8 (aS A 8 + 1)) := by
    refine klp_at (fun i => (nI i, z75 m (16 + 75 * k) i)) 75 rfl (fun i hi rec => ?_) (fun rec => ?_) (by omega)
    · simp only [sX6_ends_2]
      rw [nn75, if_neg (nI_ge (by omega) (by omega)), nI_add, kst_n (by omega) (by decide), nI_1]; rfl
    · simp only [sX6_ends_2]
      rw [nn75, if_pos (nI_le (Nat.le_refl _) (by omega)), nn8, kld_n (by omega) (by decide), kst_n (by omega) (by decide), hz.2, if_neg (by omega), h.1 8 (by omega)]
  refine ⟨_, main, ?_, ?_⟩
  · refine ⟨fun i hi => ?_, fun j hj => ?_⟩
    · show (zsI _ 1 8 _).1 1 i = up (aS A) 8 (aS A 8 + 1) i
      by_cases e : i = 8
      · subst e; rw [zsI_s, up_s]
      · rw [zsI_n _ _ (by omega), up_n _ _ e, hz.2, if_neg (by omega)]; exact h.1 i hi
    · obtain ⟨a1, a2, a3, a4⟩ := h.2 j hj
      have g : ∀ t, 16 ≤ t → (zsI (z75 m (16 + 75 * k) 75) 1 8 (aS A 8 + 1)).1 1 t = if 16 + 75 * k ≤ t ∧ t < 16 + 75 * k + 75 then 0 else m.1 1 t := fun t ht => by
        rw [zsI_n _ _ (by omega), hz.2]
        by_cases e : 16 + 75 * k ≤ t ∧ t < 16 + 75 * k + 75
        · rw [if_pos e, if_pos ⟨rfl, e⟩]
        · rw [if_neg e, if_neg (fun z => e z.2)]
      show _ = nI (up (aW A) k 0 j) ∧ _ = up (aO A) k 0 j ∧ _ = up (aC A) k 0 j ∧ ∀ b, b < 8 → BkR _ j b (up (aB A) k (fun _ => []) j b)
      by_cases e : j = k
      · subst e
        rw [up_s, up_s, up_s, up_s, g _ (by omega), if_pos (by omega), g _ (by omega), if_pos (by omega), g _ (by omega), if_pos (by omega)]
        refine ⟨rfl, rfl, rfl, fun b hb => ⟨?_, by simp, fun j e he => by simp at he⟩⟩
        rw [g _ (by omega), if_pos (by omega)]; rfl
      · have ho : ∀ t, 16 + 75 * j ≤ t → t < 16 + 75 * j + 75 → (zsI (z75 m (16 + 75 * k) 75) 1 8 (aS A 8 + 1)).1 1 t = m.1 1 t := fun t h1 h2 => by
          rw [g t (by omega), if_neg]
          intro z
          rcases (by omega : j + 1 ≤ k ∨ k + 1 ≤ j) with q | q
          · have := Nat.mul_le_mul_left 75 q; omega
          · have := Nat.mul_le_mul_left 75 q; omega
        rw [up_n _ _ e, up_n _ _ e, up_n _ _ e, up_n _ _ e, ho _ (by omega) (by omega), ho _ (by omega) (by omega), ho _ (by omega) (by omega)]
        exact ⟨a1, a2, a3, fun b hb => BK_congr (a4 b hb) (ho _ (by omega) (by omega)) (fun t ht => ho _ (by omega) (by omega)) (fun t ht => ho _ (by omega) (by omega))⟩
  · exact ⟨hz.1, fun c hc => by
      rw [zsI_ne _ _ _ hc]; funext j; rw [hz.2, if_neg (fun z => hc z.1)]⟩
theorem pX6_passes {N : Nat} {m : zMem} {A : AS} {d : Int32} (hN : 75 < N) (h : RowM (m.1 1) A) (hw : WF A) (ht : tOK A) (ht2 : tOK (sS A 5 (aS A 5 + d))) : ∃ m', fX6_passes N d m = some (nI (tkS A d).1, m') ∧ RowM (m'.1 1) (tkS A d).2 ∧ frM m m' := by
  simp only [fX6_passes, kjn]
  rw [pX6_epochNow h ht, kc1_s, nn5, kld_n (by omega) (by decide), kst_n (by omega) (by decide), h.1 5 (by omega)]
  obtain ⟨m4, e4, R4, f4⟩ := pX6_turnsTo (m := zsI m 1 5 (aS A 5 + d)) (e := epA A) (RowM_S (v := aS A 5 + d) h (show 5 < 16 by omega)) ht2
  rw [e4, kc1_s]
  have hw4 : WF (stS (sS A 5 (aS A 5 + d)) (epA A)) := by unfold stS; split; exact hw; exact hw
  unfold tkS
  generalize stS (sS A 5 (aS A 5 + d)) (epA A) = B at *
  have f4' : frM m m4 := (frM_I _ _ _).tr f4
  refine klp_iR (n := N) (z := (0, 0, m4)) (fun (i : Nat) (z : Int32 × Int32 × zMem) => z.1 = nI (psS B i).1 ∧ z.2.1 = nI i ∧ RowM (z.2.2.1 1) (psS B i).2 ∧ frM m z.2.2) 24 (fun r => ∃ m', r = some (nI (psS B 24).1, m') ∧ RowM (m'.1 1) (psS B 24).2 ∧ frM m m') (fun i hi z hz => ?_) (fun z hz rec => ?_) ⟨rfl, rfl, R4, f4'⟩ (by omega)
  · obtain ⟨z1, z2, z3⟩ := z
    obtain ⟨g1, g2, g3, g4⟩ := hz
    dsimp only at g1 g2 g3 g4
    subst g1; subst g2
    have hwi := WF_ps hw4 i
    obtain ⟨a1, a2, a3, a4⟩ := g3.2 i hi
    have ha := hwi.1 i hi
    have hst : psS B (i + 1) = if aW (psS B i).2 i ≠ 0 ∧ ¬ aS (psS B i).2 5 < aC (psS B i).2 i + aS (psS B i).2 1 then ((psS B i).1 + 1, endS (psS B i).2 i) else psS B i := rfl
    by_cases q : aW (psS B i).2 i = 0
    · refine ⟨(nI (psS B i).1, nI (i + 1), z3), ⟨?_, rfl, ?_, g4⟩, fun rec => ?_⟩
      · rw [hst, if_neg (fun z => z.1 q)]
      · rw [hst, if_neg (fun z => z.1 q)]; exact g3
      · simp only [sX6_passes_25]
        rw [nn24, if_neg (nI_ge (by omega) (by omega)), pX6_of, kc1_s, kld_n (by omega) (by decide), a1, q, if_pos (by decide), nI_1]
    · by_cases q2 : aS (psS B i).2 5 < aC (psS B i).2 i + aS (psS B i).2 1
      · refine ⟨(nI (psS B i).1, nI (i + 1), z3), ⟨?_, rfl, ?_, g4⟩, fun rec => ?_⟩
        · rw [hst, if_neg (fun z => z.2 q2)]
        · rw [hst, if_neg (fun z => z.2 q2)]; exact g3
        · simp only [sX6_passes_25]
          rw [nn24, if_neg (nI_ge (by omega) (by omega)), pX6_of, kc1_s, kld_n (by omega) (by decide), a1, nn0, if_neg (nI_ge (by omega) (by omega)), nn2, nI_add, nn1, nn5, kld_n (by omega) (by decide), kld_n (by omega) (by decide), kld_n (by omega) (by decide), show 16 + 75 * i + 2 = 18 + 75 * i by omega, a3, g3.1 1 (by omega), g3.1 5 (by omega), if_pos q2, nI_add]
      · obtain ⟨m6, e6, R6, f6⟩ := pX6_ends (N := N) hN g3 hi
        refine ⟨(nI ((psS B i).1 + 1), nI (i + 1), m6), ⟨?_, rfl, ?_, g4.tr f6⟩, fun rec => ?_⟩
        · rw [hst, if_pos ⟨q, q2⟩]
        · rw [hst, if_pos ⟨q, q2⟩]; exact R6
        · simp only [sX6_passes_25]
          rw [nn24, if_neg (nI_ge (by omega) (by omega)), pX6_of, kc1_s, kld_n (by omega) (by decide), a1, nn0, if_neg (nI_ge (by omega) (by omega)), nn2, nI_add, nn1, nn5, kld_n (by omega) (by decide), kld_n (by omega) (by decide), kld_n (by omega) (by decide), show 16 + 75 * i + 2 = 18 + 75 * i by omega, a3, g3.1 1 (by omega), g3.1 5 (by omega), if_neg q2, e6, kc1_s, nI_add, nI_add]
  · obtain ⟨z1, z2, z3⟩ := z
    obtain ⟨g1, g2, g3, g4⟩ := hz
    dsimp only at g1 g2 g3 g4
    subst g1; subst g2
    refine ⟨z3, ?_, g3, g4⟩
    simp only [sX6_passes_25]
    rw [nn24, if_pos (nI_le (Nat.le_refl _) (by omega))]
