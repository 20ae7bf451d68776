/-! one call: what a wrapper answers, what the reference answers, and that both go on together -/
theorem st_setPuzzles {l : Launch} {g : zG} {kk : zKK} {cL : ClassId} {ao n : Nat} (hst : l.stackTraces = false) (hC : isC g) (a1 : Int32) (a2 : Int32) (a3 : Int32) {mC mM : zMem} (v : Int64) (h : INV mC mM n) (hn : n + 10000 < 2 ^ 31) : ∃ (r : Int32) (mC' : zMem) (v' : Int64) (b : Int32) (mM' : zMem), wMet l g kk cL ao yL_setPuzzles wsL_setPuzzles { frames := 8, cells := 1, slots := 6, locals := 136 } [.ref (zad g 0), .int a1, .int a2, .int a3, .ref ao] (mC, v) r (mC', v') ∧ fX6_setPuzzles NN a1 a2 a3 mM = some (b, mM') ∧ mM'.1 0 4 = r ∧ (r = 0 → v' = b.toInt64) ∧ INV mC' mM' (n + 10000) := by
  obtain ⟨A, L, k, f, hP, hM, sC, sM, g1, g2⟩ := h
  by_cases q : okP a1 a2 a3
  · obtain ⟨m1, e1, p1, f1⟩ := e5_setPuzzles hP g1 (by omega) q
    obtain ⟨m2, e2, p2, f2, z2⟩ := e6_setPuzzles (N := NN) (by decide) hM g1 (by omega) q
    exact ⟨0, m1, _, _, m2, wn_setPuzzles hC a1 a2 a3 mC v _ m1 e1, e2, z2, fun _ => rfl, INV.mk p1 p2 (f1.sc sC) (f2.sc sM) ((GD_pz g1 q.2.2).2) (GL_push g2 g1) (by omega)⟩
  · exact ⟨1, mC, v, 0, zsI mM 0 4 1, wt_setPuzzles_1 hst hC a1 a2 a3 mC v (t5_setPuzzles q), r6_setPuzzles q, zsI_s _ _ _ _, fun z => absurd z (by decide), INV.c4 hP hM sC sM g1 g2 1⟩
theorem st_setQuotas {l : Launch} {g : zG} {kk : zKK} {cL : ClassId} {ao n : Nat} (hst : l.stackTraces = false) (hC : isC g) (a1 : Int32) (a2 : Int32) {mC mM : zMem} (v : Int64) (h : INV mC mM n) (hn : n + 10000 < 2 ^ 31) : ∃ (r : Int32) (mC' : zMem) (v' : Int64) (b : Int32) (mM' : zMem), wMet l g kk cL ao yL_setQuotas wsL_setQuotas { frames := 8, cells := 1, slots := 6, locals := 135 } [.ref (zad g 0), .int a1, .int a2, .ref ao] (mC, v) r (mC', v') ∧ fX6_setQuotas NN a1 a2 mM = some (b, mM') ∧ mM'.1 0 4 = r ∧ (r = 0 → v' = b.toInt64) ∧ INV mC' mM' (n + 10000) := by
  obtain ⟨A, L, k, f, hP, hM, sC, sM, g1, g2⟩ := h
  by_cases q : okQ a1 a2
  · obtain ⟨m1, e1, p1, f1⟩ := e5_setQuotas hP q
    obtain ⟨m2, e2, p2, f2, z2⟩ := e6_setQuotas (N := NN) (by decide) hM q
    exact ⟨0, m1, _, _, m2, wn_setQuotas hC a1 a2 mC v _ m1 e1, e2, z2, fun _ => rfl, INV.mk p1 p2 (f1.sc sC) (f2.sc sM) (GD_qu g1 a1 a2) (GL_push g2 g1) (by omega)⟩
  · exact ⟨1, mC, v, 0, zsI mM 0 4 1, wt_setQuotas_1 hst hC a1 a2 mC v (t5_setQuotas q), r6_setQuotas q, zsI_s _ _ _ _, fun z => absurd z (by decide), INV.c4 hP hM sC sM g1 g2 1⟩
theorem st_tick {l : Launch} {g : zG} {kk : zKK} {cL : ClassId} {ao n : Nat} (hst : l.stackTraces = false) (hC : isC g) (a1 : Int32) {mC mM : zMem} (v : Int64) (h : INV mC mM n) (hn : n + 10000 < 2 ^ 31) : ∃ (r : Int32) (mC' : zMem) (v' : Int64) (b : Int32) (mM' : zMem), wMet l g kk cL ao yL_tick wsL_tick { frames := 8, cells := 1, slots := 6, locals := 131 } [.ref (zad g 0), .int a1, .ref ao] (mC, v) r (mC', v') ∧ fX6_tick NN a1 mM = some (b, mM') ∧ mM'.1 0 4 = r ∧ (r = 0 → v' = b.toInt64) ∧ INV mC' mM' (n + 10000) := by
  obtain ⟨A, L, k, f, hP, hM, sC, sM, g1, g2⟩ := h
  by_cases q : okT a1
  · obtain ⟨m1, e1, p1, f1⟩ := e5_tick (N := NN) (by decide) hP g1 (by omega) q
    obtain ⟨m2, e2, p2, f2, z2⟩ := e6_tick (N := NN) (by decide) hM g1 (by omega) q
    exact ⟨0, m1, _, _, m2, wn_tick hC NN a1 mC v _ m1 e1, e2, z2, fun _ => rfl, INV.mk p1 p2 (f1.sc sC) (f2.sc sM) ((GD_tk g1 q).mono (Nat.le_refl _)) ((GL_push g2 g1).mono (Nat.le_add_right _ 500)) (by omega)⟩
  · exact ⟨1, mC, v, 0, zsI mM 0 4 1, wt_tick_1 hst hC a1 mC v (t5_tick q), r6_tick q, zsI_s _ _ _ _, fun z => absurd z (by decide), INV.c4 hP hM sC sM g1 g2 1⟩
theorem st_solve {l : Launch} {g : zG} {kk : zKK} {cL : ClassId} {ao n : Nat} (hst : l.stackTraces = false) (hC : isC g) (a1 : Int32) {mC mM : zMem} (v : Int64) (h : INV mC mM n) (hn : n + 10000 < 2 ^ 31) : ∃ (r : Int32) (mC' : zMem) (v' : Int64) (b : Int32) (mM' : zMem), wMet l g kk cL ao yL_solve wsL_solve { frames := 8, cells := 1, slots := 6, locals := 133 } [.ref (zad g 0), .int a1, .ref ao] (mC, v) r (mC', v') ∧ fX6_solve NN a1 mM = some (b, mM') ∧ mM'.1 0 4 = r ∧ (r = 0 → v' = b.toInt64) ∧ INV mC' mM' (n + 10000) := by
  obtain ⟨A, L, k, f, hP, hM, sC, sM, g1, g2⟩ := h
  by_cases q : okI a1
  · have e1 := e5_solve (N := NN) (by decide) hP g1 (by omega) q
    have e2 := e6_solve (N := NN) (by decide) hM g1 (by omega) q
    exact ⟨0, mC, _, _, _, wn_solve hC NN a1 mC v _ e1, e2, zsI_s _ _ _ _, fun _ => rfl, INV.c4 hP hM sC sM g1 g2 0⟩
  · exact ⟨1, mC, v, 0, zsI mM 0 4 1, wt_solve_1 hst hC a1 mC v (t5_solve q), r6_solve q, zsI_s _ _ _ _, fun z => absurd z (by decide), INV.c4 hP hM sC sM g1 g2 1⟩
theorem st_zeros {l : Launch} {g : zG} {kk : zKK} {cL : ClassId} {ao n : Nat} (hst : l.stackTraces = false) (hC : isC g) (a1 : Int32) (a2 : Int32) (a3 : Int32) {mC mM : zMem} (v : Int64) (h : INV mC mM n) (hn : n + 10000 < 2 ^ 31) : ∃ (r : Int32) (mC' : zMem) (v' : Int64) (b : Int32) (mM' : zMem), wMet l g kk cL ao yL_zeros wsL_zeros { frames := 8, cells := 1, slots := 6, locals := 135 } [.ref (zad g 0), .int a1, .int a2, .int a3, .ref ao] (mC, v) r (mC', v') ∧ fX6_zeros NN a1 a2 a3 mM = some (b, mM') ∧ mM'.1 0 4 = r ∧ (r = 0 → v' = b.toInt64) ∧ INV mC' mM' (n + 10000) := by
  obtain ⟨A, L, k, f, hP, hM, sC, sM, g1, g2⟩ := h
  by_cases q : okZ a1 a2 a3
  · have e1 := e5_zeros q
    have e2 := e6_zeros (N := NN) (m := mM) (by decide) q
    exact ⟨0, mC, _, _, _, wn_zeros hC a1 a2 a3 mC v _ e1, e2, zsI_s _ _ _ _, fun _ => rfl, INV.c4 hP hM sC sM g1 g2 0⟩
  · exact ⟨1, mC, v, 0, zsI mM 0 4 1, wt_zeros_1 hst hC a1 a2 a3 mC v (t5_zeros q), r6_zeros q, zsI_s _ _ _ _, fun z => absurd z (by decide), INV.c4 hP hM sC sM g1 g2 1⟩
theorem st_member {l : Launch} {g : zG} {kk : zKK} {cL : ClassId} {ao n : Nat} (hst : l.stackTraces = false) (hC : isC g) (a1 : Int32) (a2 : Int32) {mC mM : zMem} (v : Int64) (h : INV mC mM n) (hn : n + 10000 < 2 ^ 31) : ∃ (r : Int32) (mC' : zMem) (v' : Int64) (b : Int32) (mM' : zMem), wMet l g kk cL ao yL_member wsL_member { frames := 8, cells := 1, slots := 6, locals := 134 } [.ref (zad g 0), .int a1, .int a2, .ref ao] (mC, v) r (mC', v') ∧ fX6_member NN a1 a2 mM = some (b, mM') ∧ mM'.1 0 4 = r ∧ (r = 0 → v' = b.toInt64) ∧ INV mC' mM' (n + 10000) := by
  obtain ⟨A, L, k, f, hP, hM, sC, sM, g1, g2⟩ := h
  by_cases q : okM a1 a2
  · have e1 := e5_member (N := NN) (by decide) hP g1.1 q
    have e2 := e6_member (N := NN) (by decide) hM g1.1 q
    exact ⟨0, mC, _, _, _, wn_member hC NN a1 a2 mC v _ e1, e2, zsI_s _ _ _ _, fun _ => rfl, INV.c4 hP hM sC sM g1 g2 0⟩
  · exact ⟨1, mC, v, 0, zsI mM 0 4 1, wt_member_1 hst hC a1 a2 mC v (t5_member q), r6_member q, zsI_s _ _ _ _, fun z => absurd z (by decide), INV.c4 hP hM sC sM g1 g2 1⟩
theorem st_memberAt {l : Launch} {g : zG} {kk : zKK} {cL : ClassId} {ao n : Nat} (hst : l.stackTraces = false) (hC : isC g) (a1 : Int32) {mC mM : zMem} (v : Int64) (h : INV mC mM n) (hn : n + 10000 < 2 ^ 31) : ∃ (r : Int32) (mC' : zMem) (v' : Int64) (b : Int32) (mM' : zMem), wMet l g kk cL ao yL_memberAt wsL_memberAt { frames := 8, cells := 1, slots := 6, locals := 133 } [.ref (zad g 0), .int a1, .ref ao] (mC, v) r (mC', v') ∧ fX6_memberAt NN a1 mM = some (b, mM') ∧ mM'.1 0 4 = r ∧ (r = 0 → v' = b.toInt64) ∧ INV mC' mM' (n + 10000) := by
  obtain ⟨A, L, k, f, hP, hM, sC, sM, g1, g2⟩ := h
  by_cases q : (0 : Int32) ≤ a1
  · have e1 := e5_memberAt (N := NN) (by decide) hP q
    have e2 := e6_memberAt (N := NN) (by decide) hM g1.1 q
    exact ⟨0, mC, _, _, _, wn_memberAt hC NN a1 mC v _ e1, e2, zsI_s _ _ _ _, fun _ => rfl, INV.c4 hP hM sC sM g1 g2 0⟩
  · exact ⟨1, mC, v, 0, zsI mM 0 4 1, wt_memberAt_1 hst hC a1 mC v (t5_memberAt q), r6_memberAt q, zsI_s _ _ _ _, fun z => absurd z (by decide), INV.c4 hP hM sC sM g1 g2 1⟩
theorem st_overlay {l : Launch} {g : zG} {kk : zKK} {cL : ClassId} {ao n : Nat} (hst : l.stackTraces = false) (hC : isC g) (a1 : Int32) {mC mM : zMem} (v : Int64) (h : INV mC mM n) (hn : n + 10000 < 2 ^ 31) : ∃ (r : Int32) (mC' : zMem) (v' : Int64) (b : Int32) (mM' : zMem), wMet l g kk cL ao yL_overlay wsL_overlay { frames := 8, cells := 1, slots := 6, locals := 133 } [.ref (zad g 0), .int a1, .ref ao] (mC, v) r (mC', v') ∧ fX6_overlay NN a1 mM = some (b, mM') ∧ mM'.1 0 4 = r ∧ (r = 0 → v' = b.toInt64) ∧ INV mC' mM' (n + 10000) := by
  obtain ⟨A, L, k, f, hP, hM, sC, sM, g1, g2⟩ := h
  by_cases q : ok8 a1
  · have e1 := e5_overlay (N := NN) (by decide) hP g1 (by omega) q
    have e2 := e6_overlay (N := NN) (by decide) hM g1 (by omega) q
    exact ⟨0, mC, _, _, _, wn_overlay hC NN a1 mC v _ e1, e2, zsI_s _ _ _ _, fun _ => rfl, INV.c4 hP hM sC sM g1 g2 0⟩
  · exact ⟨1, mC, v, 0, zsI mM 0 4 1, wt_overlay_1 hst hC a1 mC v (t5_overlay q), r6_overlay q, zsI_s _ _ _ _, fun z => absurd z (by decide), INV.c4 hP hM sC sM g1 g2 1⟩
theorem st_count {l : Launch} {g : zG} {kk : zKK} {cL : ClassId} {ao n : Nat} (hst : l.stackTraces = false) (hC : isC g) (a1 : Int32) {mC mM : zMem} (v : Int64) (h : INV mC mM n) (hn : n + 10000 < 2 ^ 31) : ∃ (r : Int32) (mC' : zMem) (v' : Int64) (b : Int32) (mM' : zMem), wMet l g kk cL ao yL_count wsL_count { frames := 8, cells := 1, slots := 6, locals := 133 } [.ref (zad g 0), .int a1, .ref ao] (mC, v) r (mC', v') ∧ fX6_count a1 mM = some (b, mM') ∧ mM'.1 0 4 = r ∧ (r = 0 → v' = b.toInt64) ∧ INV mC' mM' (n + 10000) := by
  obtain ⟨A, L, k, f, hP, hM, sC, sM, g1, g2⟩ := h
  by_cases q : ok8 a1
  · have e1 := e5_count hP q
    have e2 := e6_count hM q
    exact ⟨0, mC, _, _, _, wn_count hC a1 mC v _ e1, e2, zsI_s _ _ _ _, fun _ => rfl, INV.c4 hP hM sC sM g1 g2 0⟩
  · exact ⟨1, mC, v, 0, zsI mM 0 4 1, wt_count_1 hst hC a1 mC v (t5_count q), r6_count q, zsI_s _ _ _ _, fun z => absurd z (by decide), INV.c4 hP hM sC sM g1 g2 1⟩
theorem st_join {l : Launch} {g : zG} {kk : zKK} {cL : ClassId} {ao n : Nat} (hst : l.stackTraces = false) (hC : isC g) (a1 : Int32) (a2 : Int32) (a3 : Int32) (a4 : Int32) {mC mM : zMem} (v : Int64) (h : INV mC mM n) (hn : n + 10000 < 2 ^ 31) : ∃ (r : Int32) (mC' : zMem) (v' : Int64) (b : Int32) (mM' : zMem), wMet l g kk cL ao yL_join wsL_join { frames := 8, cells := 1, slots := 6, locals := 155 } [.ref (zad g 0), .int a1, .int a2, .int a3, .int a4, .ref ao] (mC, v) r (mC', v') ∧ fX6_join NN a1 a2 a3 a4 mM = some (b, mM') ∧ mM'.1 0 4 = r ∧ (r = 0 → v' = b.toInt64) ∧ INV mC' mM' (n + 10000) := by
  obtain ⟨A, L, k, f, hP, hM, sC, sM, g1, g2⟩ := h
  by_cases q : jnF A a1 a2 a3 a4 = 0
  · obtain ⟨m1, e1, p1, f1⟩ := e5_join (N := NN) (by decide) hP g1 (by omega) q
    obtain ⟨m2, e2, p2, f2, z2⟩ := e6_join (N := NN) (by decide) hM g1 (by omega) q
    exact ⟨0, m1, _, _, m2, wn_join hC NN a1 a2 a3 a4 mC v _ m1 e1, e2, z2, fun _ => rfl, INV.mk p1 p2 (f1.sc sC) (f2.sc sM) (GD_en g1 (jnF_0 q).2.1) (GL_push g2 g1) (by omega)⟩
  · have t := t5_join hP g1 (by omega) q
    have r := r6_join (N := NN) (by decide) hM.1 g1 (by omega) q
    rcases cd_jn A a1 a2 a3 a4 with e | e | e | e
    · exact absurd e q
    · rw [e] at t r
      exact ⟨1, mC, v, 0, zsI mM 0 4 1, wt_join_1 hst hC a1 a2 a3 a4 mC v t, r, zsI_s _ _ _ _, fun z => absurd z (by decide), INV.c4 hP hM sC sM g1 g2 1⟩
    · rw [e] at t r
      exact ⟨2, mC, v, 0, zsI mM 0 4 2, wt_join_2 hst hC a1 a2 a3 a4 mC v t, r, zsI_s _ _ _ _, fun z => absurd z (by decide), INV.c4 hP hM sC sM g1 g2 2⟩
    · rw [e] at t r
      exact ⟨3, mC, v, 0, zsI mM 0 4 3, wt_join_3 hst hC a1 a2 a3 a4 mC v t, r, zsI_s _ _ _ _, fun z => absurd z (by decide), INV.c4 hP hM sC sM g1 g2 3⟩
theorem st_admit {l : Launch} {g : zG} {kk : zKK} {cL : ClassId} {ao n : Nat} (hst : l.stackTraces = false) (hC : isC g) (a1 : Int32) (a2 : Int32) (a3 : Int32) {mC mM : zMem} (v : Int64) (h : INV mC mM n) (hn : n + 10000 < 2 ^ 31) : ∃ (r : Int32) (mC' : zMem) (v' : Int64) (b : Int32) (mM' : zMem), wMet l g kk cL ao yL_admit wsL_admit { frames := 8, cells := 1, slots := 6, locals := 154 } [.ref (zad g 0), .int a1, .int a2, .int a3, .ref ao] (mC, v) r (mC', v') ∧ fX6_admit NN a1 a2 a3 mM = some (b, mM') ∧ mM'.1 0 4 = r ∧ (r = 0 → v' = b.toInt64) ∧ INV mC' mM' (n + 10000) := by
  obtain ⟨A, L, k, f, hP, hM, sC, sM, g1, g2⟩ := h
  by_cases q : adF A a1 a2 a3 = 0
  · obtain ⟨m1, e1, p1, f1⟩ := e5_admit (N := NN) (by decide) hP g1 (by omega) q
    obtain ⟨m2, e2, p2, f2, z2⟩ := e6_admit (N := NN) (by decide) hM g1 (by omega) q
    exact ⟨0, m1, _, _, m2, wn_admit hC NN a1 a2 a3 mC v _ m1 e1, e2, z2, fun _ => rfl, INV.mk p1 p2 (f1.sc sC) (f2.sc sM) (GD_en g1 (adF_0 q)) (GL_push g2 g1) (by omega)⟩
  · have t := t5_admit (N := NN) (by decide) hP g1 (by omega) q
    have r := r6_admit (N := NN) (by decide) hM.1 g1 (by omega) q
    rcases cd_ad A a1 a2 a3 with e | e | e | e
    · exact absurd e q
    · rw [e] at t r
      exact ⟨1, mC, v, 0, zsI mM 0 4 1, wt_admit_1 hst hC NN a1 a2 a3 mC v t, r, zsI_s _ _ _ _, fun z => absurd z (by decide), INV.c4 hP hM sC sM g1 g2 1⟩
    · rw [e] at t r
      exact ⟨2, mC, v, 0, zsI mM 0 4 2, wt_admit_2 hst hC NN a1 a2 a3 mC v t, r, zsI_s _ _ _ _, fun z => absurd z (by decide), INV.c4 hP hM sC sM g1 g2 2⟩
    · rw [e] at t r
      exact ⟨3, mC, v, 0, zsI mM 0 4 3, wt_admit_3 hst hC NN a1 a2 a3 mC v t, r, zsI_s _ _ _ _, fun z => absurd z (by decide), INV.c4 hP hM sC sM g1 g2 3⟩
theorem st_leave {l : Launch} {g : zG} {kk : zKK} {cL : ClassId} {ao n : Nat} (hst : l.stackTraces = false) (hC : isC g) (a1 : Int32) {mC mM : zMem} (v : Int64) (h : INV mC mM n) (hn : n + 10000 < 2 ^ 31) : ∃ (r : Int32) (mC' : zMem) (v' : Int64) (b : Int32) (mM' : zMem), wMet l g kk cL ao yL_leave wsL_leave { frames := 8, cells := 1, slots := 6, locals := 131 } [.ref (zad g 0), .int a1, .ref ao] (mC, v) r (mC', v') ∧ fX6_leave NN a1 mM = some (b, mM') ∧ mM'.1 0 4 = r ∧ (r = 0 → v' = b.toInt64) ∧ INV mC' mM' (n + 10000) := by
  obtain ⟨A, L, k, f, hP, hM, sC, sM, g1, g2⟩ := h
  by_cases q : mbF A a1 = 0
  · obtain ⟨m1, e1, p1, f1⟩ := e5_leave hP g1.1 q
    obtain ⟨m2, e2, p2, f2, z2⟩ := e6_leave (N := NN) (by decide) hM g1.1 q
    exact ⟨0, m1, _, _, m2, wn_leave hC a1 mC v _ m1 e1, e2, z2, fun _ => rfl, INV.mk p1 p2 (f1.sc sC) (f2.sc sM) (show GD (lvA A a1) n from GD_end g1) (GL_push g2 g1) (by omega)⟩
  · have t := t5_leave hP q
    have r := r6_leave (N := NN) (by decide) hM.1 g1.1 q
    rcases cd2_mb A a1 with e | e | e
    · exact absurd e q
    · rw [e] at t r
      exact ⟨1, mC, v, 0, zsI mM 0 4 1, wt_leave_1 hst hC a1 mC v t, r, zsI_s _ _ _ _, fun z => absurd z (by decide), INV.c4 hP hM sC sM g1 g2 1⟩
    · rw [e] at t r
      exact ⟨2, mC, v, 0, zsI mM 0 4 2, wt_leave_2 hst hC a1 mC v t, r, zsI_s _ _ _ _, fun z => absurd z (by decide), INV.c4 hP hM sC sM g1 g2 2⟩
theorem st_swarm {l : Launch} {g : zG} {kk : zKK} {cL : ClassId} {ao n : Nat} (hst : l.stackTraces = false) (hC : isC g) (a1 : Int32) (a2 : Int32) (a3 : Int32) (a4 : Int32) (a5 : Int32) {mC mM : zMem} (v : Int64) (h : INV mC mM n) (hn : n + 10000 < 2 ^ 31) : ∃ (r : Int32) (mC' : zMem) (v' : Int64) (b : Int32) (mM' : zMem), wMet l g kk cL ao yL_swarm wsL_swarm { frames := 8, cells := 1, slots := 6, locals := 159 } [.ref (zad g 0), .int a1, .int a2, .int a3, .int a4, .int a5, .ref ao] (mC, v) r (mC', v') ∧ fX6_swarm NN a1 a2 a3 a4 a5 mM = some (b, mM') ∧ mM'.1 0 4 = r ∧ (r = 0 → v' = b.toInt64) ∧ INV mC' mM' (n + 10000) := by
  obtain ⟨A, L, k, f, hP, hM, sC, sM, g1, g2⟩ := h
  by_cases q : swF A a1 a2 a3 a4 a5 = 0
  · obtain ⟨m1, e1, p1, f1⟩ := e5_swarm (N := NN) (by decide) hP g1 (by omega) q
    obtain ⟨m2, e2, p2, f2, z2⟩ := e6_swarm (N := NN) (by decide) hM g1 (by omega) q
    exact ⟨0, m1, _, _, m2, wn_swarm hC NN a1 a2 a3 a4 a5 mC v _ m1 e1, e2, z2, fun _ => rfl, INV.mk p1 p2 (f1.sc sC) (f2.sc sM) (GD_sw g1 a1 a2 a4 a5 _) (GL_push g2 g1) (by omega)⟩
  · have t := t5_swarm hP q
    have r := r6_swarm (N := NN) (by decide) hM.1 g1.1 q
    rcases cd2_sw A a1 a2 a3 a4 a5 with e | e | e
    · exact absurd e q
    · rw [e] at t r
      exact ⟨1, mC, v, 0, zsI mM 0 4 1, wt_swarm_1 hst hC a1 a2 a3 a4 a5 mC v t, r, zsI_s _ _ _ _, fun z => absurd z (by decide), INV.c4 hP hM sC sM g1 g2 1⟩
    · rw [e] at t r
      exact ⟨2, mC, v, 0, zsI mM 0 4 2, wt_swarm_2 hst hC a1 a2 a3 a4 a5 mC v t, r, zsI_s _ _ _ _, fun z => absurd z (by decide), INV.c4 hP hM sC sM g1 g2 2⟩
theorem st_lookup {l : Launch} {g : zG} {kk : zKK} {cL : ClassId} {ao n : Nat} (hst : l.stackTraces = false) (hC : isC g) (a1 : Int32) (a2 : Int32) {mC mM : zMem} (v : Int64) (h : INV mC mM n) (hn : n + 10000 < 2 ^ 31) : ∃ (r : Int32) (mC' : zMem) (v' : Int64) (b : Int32) (mM' : zMem), wMet l g kk cL ao yL_lookup wsL_lookup { frames := 8, cells := 1, slots := 6, locals := 132 } [.ref (zad g 0), .int a1, .int a2, .ref ao] (mC, v) r (mC', v') ∧ fX6_lookup NN a1 a2 mM = some (b, mM') ∧ mM'.1 0 4 = r ∧ (r = 0 → v' = b.toInt64) ∧ INV mC' mM' (n + 10000) := by
  obtain ⟨A, L, k, f, hP, hM, sC, sM, g1, g2⟩ := h
  by_cases q : lkF A a1 a2 = 0
  · obtain ⟨m1, e1, p1, f1⟩ := e5_lookup (N := NN) (by decide) hP g1.1 q
    obtain ⟨m2, e2, p2, f2, z2⟩ := e6_lookup (N := NN) (by decide) hM g1.1 q
    exact ⟨0, m1, _, _, m2, wn_lookup hC NN a1 a2 mC v _ m1 e1, e2, z2, fun _ => rfl, INV.mk p1 p2 (f1.sc sC) (f2.sc sM) (GD_lu g1 q) (GL_push g2 g1) (by omega)⟩
  · have t := t5_lookup hP q
    have r := r6_lookup (N := NN) (by decide) hM.1 g1.1 q
    rcases cd2_lk A a1 a2 with e | e | e
    · exact absurd e q
    · rw [e] at t r
      exact ⟨1, mC, v, 0, zsI mM 0 4 1, wt_lookup_1 hst hC a1 a2 mC v t, r, zsI_s _ _ _ _, fun z => absurd z (by decide), INV.c4 hP hM sC sM g1 g2 1⟩
    · rw [e] at t r
      exact ⟨2, mC, v, 0, zsI mM 0 4 2, wt_lookup_2 hst hC a1 a2 mC v t, r, zsI_s _ _ _ _, fun z => absurd z (by decide), INV.c4 hP hM sC sM g1 g2 2⟩
theorem st_probe {l : Launch} {g : zG} {kk : zKK} {cL : ClassId} {ao n : Nat} (hst : l.stackTraces = false) (hC : isC g) (a1 : Int32) (a2 : Int32) (a3 : Int32) {mC mM : zMem} (v : Int64) (h : INV mC mM n) (hn : n + 10000 < 2 ^ 31) : ∃ (r : Int32) (mC' : zMem) (v' : Int64) (b : Int32) (mM' : zMem), wMet l g kk cL ao yL_probe wsL_probe { frames := 8, cells := 1, slots := 6, locals := 135 } [.ref (zad g 0), .int a1, .int a2, .int a3, .ref ao] (mC, v) r (mC', v') ∧ fX6_probe NN a1 a2 a3 mM = some (b, mM') ∧ mM'.1 0 4 = r ∧ (r = 0 → v' = b.toInt64) ∧ INV mC' mM' (n + 10000) := by
  obtain ⟨A, L, k, f, hP, hM, sC, sM, g1, g2⟩ := h
  by_cases q : pbF A a1 a2 a3 = 0
  · obtain ⟨m1, e1, p1, f1⟩ := e5_probe (N := NN) (by decide) hP g1.1 q
    obtain ⟨m2, e2, p2, f2, z2⟩ := e6_probe (N := NN) (by decide) hM g1.1 q
    exact ⟨0, m1, _, _, m2, wn_probe hC NN a1 a2 a3 mC v _ m1 e1, e2, z2, fun _ => rfl, INV.mk p1 p2 (f1.sc sC) (f2.sc sM) g1 g2 (by omega)⟩
  · have t := t5_probe hP q
    have r := r6_probe (N := NN) (by decide) hM.1 g1.1 q
    rcases cd2_pb A a1 a2 a3 with e | e | e
    · exact absurd e q
    · rw [e] at t r
      exact ⟨1, mC, v, 0, zsI mM 0 4 1, wt_probe_1 hst hC a1 a2 a3 mC v t, r, zsI_s _ _ _ _, fun z => absurd z (by decide), INV.c4 hP hM sC sM g1 g2 1⟩
    · rw [e] at t r
      exact ⟨2, mC, v, 0, zsI mM 0 4 2, wt_probe_2 hst hC a1 a2 a3 mC v t, r, zsI_s _ _ _ _, fun z => absurd z (by decide), INV.c4 hP hM sC sM g1 g2 2⟩
theorem st_reach {l : Launch} {g : zG} {kk : zKK} {cL : ClassId} {ao n : Nat} (hst : l.stackTraces = false) (hC : isC g) (a1 : Int32) {mC mM : zMem} (v : Int64) (h : INV mC mM n) (hn : n + 10000 < 2 ^ 31) : ∃ (r : Int32) (mC' : zMem) (v' : Int64) (b : Int32) (mM' : zMem), wMet l g kk cL ao yL_reach wsL_reach { frames := 8, cells := 1, slots := 6, locals := 133 } [.ref (zad g 0), .int a1, .ref ao] (mC, v) r (mC', v') ∧ fX6_reach NN a1 mM = some (b, mM') ∧ mM'.1 0 4 = r ∧ (r = 0 → v' = b.toInt64) ∧ INV mC' mM' (n + 10000) := by
  obtain ⟨A, L, k, f, hP, hM, sC, sM, g1, g2⟩ := h
  by_cases q : mbF A a1 = 0
  · obtain ⟨m1, e1, p1, f1⟩ := e5_reach (N := NN) (n := 256) (by decide) (by decide) rfl hP g1.1 q
    obtain ⟨m2, e2, p2, f2, z2⟩ := e6_reach (N := NN) (n := 256) (by decide) (by decide) rfl hM g1.1 q
    exact ⟨0, m1, _, _, m2, wn_reach hC NN a1 mC v _ m1 e1, e2, z2, fun _ => rfl, INV.mk p1 p2 (f1.sc sC) (f2.sc sM) g1 g2 (by omega)⟩
  · have t := t5_reach hP q
    have r := r6_reach (N := NN) (by decide) hM.1 g1.1 q
    rcases cd2_mb A a1 with e | e | e
    · exact absurd e q
    · rw [e] at t r
      exact ⟨1, mC, v, 0, zsI mM 0 4 1, wt_reach_1 hst hC a1 mC v t, r, zsI_s _ _ _ _, fun z => absurd z (by decide), INV.c4 hP hM sC sM g1 g2 1⟩
    · rw [e] at t r
      exact ⟨2, mC, v, 0, zsI mM 0 4 2, wt_reach_2 hst hC a1 mC v t, r, zsI_s _ _ _ _, fun z => absurd z (by decide), INV.c4 hP hM sC sM g1 g2 2⟩
theorem st_entry {l : Launch} {g : zG} {kk : zKK} {cL : ClassId} {ao n : Nat} (hst : l.stackTraces = false) (hC : isC g) (a1 : Int32) (a2 : Int32) (a3 : Int32) (a4 : Int32) {mC mM : zMem} (v : Int64) (h : INV mC mM n) (hn : n + 10000 < 2 ^ 31) : ∃ (r : Int32) (mC' : zMem) (v' : Int64) (b : Int32) (mM' : zMem), wMet l g kk cL ao yL_entry wsL_entry { frames := 8, cells := 1, slots := 6, locals := 138 } [.ref (zad g 0), .int a1, .int a2, .int a3, .int a4, .ref ao] (mC, v) r (mC', v') ∧ fX6_entry NN a1 a2 a3 a4 mM = some (b, mM') ∧ mM'.1 0 4 = r ∧ (r = 0 → v' = b.toInt64) ∧ INV mC' mM' (n + 10000) := by
  obtain ⟨A, L, k, f, hP, hM, sC, sM, g1, g2⟩ := h
  by_cases q : etF A a1 a2 a3 a4 = 0
  · have e1 := e5_entry hP q
    have e2 := e6_entry (N := NN) (by decide) hM g1.1 q
    exact ⟨0, mC, _, _, _, wn_entry hC a1 a2 a3 a4 mC v _ e1, e2, zsI_s _ _ _ _, fun _ => rfl, INV.c4 hP hM sC sM g1 g2 0⟩
  · have t := t5_entry hP q
    have r := r6_entry (N := NN) (by decide) hM.1 g1.1 q
    rcases cd2_et A a1 a2 a3 a4 with e | e | e
    · exact absurd e q
    · rw [e] at t r
      exact ⟨1, mC, v, 0, zsI mM 0 4 1, wt_entry_1 hst hC a1 a2 a3 a4 mC v t, r, zsI_s _ _ _ _, fun z => absurd z (by decide), INV.c4 hP hM sC sM g1 g2 1⟩
    · rw [e] at t r
      exact ⟨2, mC, v, 0, zsI mM 0 4 2, wt_entry_2 hst hC a1 a2 a3 a4 mC v t, r, zsI_s _ _ _ _, fun z => absurd z (by decide), INV.c4 hP hM sC sM g1 g2 2⟩
theorem st_share {l : Launch} {g : zG} {kk : zKK} {cL : ClassId} {ao n : Nat} (hst : l.stackTraces = false) (hC : isC g) (a1 : Int32) (a2 : Int32) {mC mM : zMem} (v : Int64) (h : INV mC mM n) (hn : n + 10000 < 2 ^ 31) : ∃ (r : Int32) (mC' : zMem) (v' : Int64) (b : Int32) (mM' : zMem), wMet l g kk cL ao yL_share wsL_share { frames := 8, cells := 1, slots := 6, locals := 136 } [.ref (zad g 0), .int a1, .int a2, .ref ao] (mC, v) r (mC', v') ∧ fX6_share NN a1 a2 mM = some (b, mM') ∧ mM'.1 0 4 = r ∧ (r = 0 → v' = b.toInt64) ∧ INV mC' mM' (n + 10000) := by
  obtain ⟨A, L, k, f, hP, hM, sC, sM, g1, g2⟩ := h
  by_cases q : shF A a1 a2 = 0
  · have e1 := e5_share (N := NN) (by decide) hP g1.1 q
    have e2 := e6_share (N := NN) (by decide) hM g1.1 q
    exact ⟨0, mC, _, _, _, wn_share hC NN a1 a2 mC v _ e1, e2, zsI_s _ _ _ _, fun _ => rfl, INV.c4 hP hM sC sM g1 g2 0⟩
  · have t := t5_share hP q
    have r := r6_share (N := NN) (by decide) hM.1 g1.1 q
    rcases cd2_sh A a1 a2 with e | e | e
    · exact absurd e q
    · rw [e] at t r
      exact ⟨1, mC, v, 0, zsI mM 0 4 1, wt_share_1 hst hC a1 a2 mC v t, r, zsI_s _ _ _ _, fun z => absurd z (by decide), INV.c4 hP hM sC sM g1 g2 1⟩
    · rw [e] at t r
      exact ⟨2, mC, v, 0, zsI mM 0 4 2, wt_share_2 hst hC a1 a2 mC v t, r, zsI_s _ _ _ _, fun z => absurd z (by decide), INV.c4 hP hM sC sM g1 g2 2⟩
theorem st_type {l : Launch} {g : zG} {kk : zKK} {cL : ClassId} {ao n : Nat} (hst : l.stackTraces = false) (hC : isC g) (a1 : Int32) {mC mM : zMem} (v : Int64) (h : INV mC mM n) (hn : n + 10000 < 2 ^ 31) : ∃ (r : Int32) (mC' : zMem) (v' : Int64) (b : Int32) (mM' : zMem), wMet l g kk cL ao yL_type wsL_type { frames := 8, cells := 1, slots := 6, locals := 133 } [.ref (zad g 0), .int a1, .ref ao] (mC, v) r (mC', v') ∧ fX6_type a1 mM = some (b, mM') ∧ mM'.1 0 4 = r ∧ (r = 0 → v' = b.toInt64) ∧ INV mC' mM' (n + 10000) := by
  obtain ⟨A, L, k, f, hP, hM, sC, sM, g1, g2⟩ := h
  by_cases q : (0 : Int32) ≤ a1 ∧ a1 ≤ 127
  · by_cases q2 : k < 120
    · obtain ⟨m1, e1, p1, s1⟩ := e5_type hP sC q2 q
      obtain ⟨m2, e2, p2, s2, z2⟩ := e6_type hM sM q2 q
      exact ⟨0, m1, _, _, m2, wn_type hC a1 mC v _ m1 e1, e2, z2, fun _ => rfl, INV.mk p1 p2 s1 s2 g1 g2 (by omega)⟩
    · have hk : k = 120 := by have := sC.2.1; omega
      subst hk
      exact ⟨2, mC, v, 0, zsI mM 0 4 2, wt_type_2 hst hC a1 mC v (t5_type2 q sC), r6_type2 q sM, zsI_s _ _ _ _, fun z => absurd z (by decide), INV.c4 hP hM sC sM g1 g2 2⟩
  · exact ⟨1, mC, v, 0, zsI mM 0 4 1, wt_type_1 hst hC a1 mC v (t5_type1 q), r6_type1 q, zsI_s _ _ _ _, fun z => absurd z (by decide), INV.c4 hP hM sC sM g1 g2 1⟩
theorem st_undo {l : Launch} {g : zG} {kk : zKK} {cL : ClassId} {ao n : Nat} (hst : l.stackTraces = false) (hC : isC g) {mC mM : zMem} (v : Int64) (h : INV mC mM n) (hn : n + 10000 < 2 ^ 31) : ∃ (r : Int32) (mC' : zMem) (v' : Int64) (b : Int32) (mM' : zMem), wMet l g kk cL ao yL_undo wsL_undo { frames := 7, cells := 1, slots := 6, locals := 111 } [.ref (zad g 0), .ref ao] (mC, v) r (mC', v') ∧ fX6_undo NN mM = some (b, mM') ∧ mM'.1 0 4 = r ∧ (r = 0 → v' = b.toInt64) ∧ INV mC' mM' (n + 10000) := by
  obtain ⟨A, L, k, f, hP, hM, sC, sM, g1, g2⟩ := h
  cases L with
  | nil => exact ⟨1, mC, v, 0, zsI mM 0 4 1, wt_undo_2 hst hC mC v (t5_undo hP), r6_undo (N := NN) hM, zsI_s _ _ _ _, fun z => absurd z (by decide), INV.c4 hP hM sC sM g1 g2 1⟩
  | cons B L =>
    obtain ⟨m1, e1, p1, f1⟩ := pX5_undo hP
    obtain ⟨m2, e2, p2, f2, z2⟩ := pX6_undo (N := NN) (by decide) hM
    have sM2 : ScM m2 k f := ⟨by rw [f2.2.1 6 rfl]; exact sM.1, sM.2.1, fun j hj => by rw [f2.1 4 rfl]; exact sM.2.2 j hj⟩
    exact ⟨0, m1, _, _, m2, wn_undo hC mC v _ m1 e1, e2, z2, fun _ => rfl, INV.mk p1 p2 (f1.sc sC) sM2 (g2 B List.mem_cons_self) (fun C hC => g2 C (List.mem_cons_of_mem _ hC)) (by omega)⟩
theorem st_clear {mC mM : zMem} {n : Nat} (h : INV mC mM n) : ∃ (b : Int32) (mC' mM' : zMem), fX5_clearScript mC = some (b, mC') ∧ fX6_clearScript mM = some (b, mM') ∧ INV mC' mM' (n + 10000) := by
  obtain ⟨A, L, k, f, hP, hM, sC, sM, g1, g2⟩ := h
  obtain ⟨m1, e1, p1, s1⟩ := e5_clear hP sC
  obtain ⟨m2, e2, p2, s2, -⟩ := e6_clear hM sM
  exact ⟨_, m1, m2, e1, e2, INV.mk p1 p2 s1 s2 g1 g2 (by omega)⟩
theorem GL_rn {f : Nat → Int32} {k n : Nat} {A : AS} {L : List AS} (g1 : GD A n) (g2 : GL L n) : GL (rnL f k A L) n := by
  unfold rnL
  split
  · exact g2
  · exact GL_push g2 g1
theorem GD_rn {f : Nat → Int32} {k n : Nat} {A : AS} (hk : k ≤ 120) (g1 : GD A n) : GD (rnS f k A) (n + 10000) := by
  unfold rnS
  split
  · exact g1.mono (by omega)
  · have h1 := cmK_le f k A
    have h2 := cmN_le (f := f) hk
    exact (GD_cm g1 _).mono (by omega)
theorem st_run {mC mM : zMem} {n : Nat} (h : INV mC mM n) (hn : n + 10000 < 2 ^ 31) : ∃ (b : Int32) (mC' mM' : zMem), fX5_run NN mC = some (b, mC') ∧ fX6_run NN mM = some (b, mM') ∧ INV mC' mM' (n + 10000) := by
  obtain ⟨A, L, k, f, hP, hM, sC, sM, g1, g2⟩ := h
  obtain ⟨m1, e1, p1, s1⟩ := e5_run (N := NN) (by decide) hP sC g1 hn
  obtain ⟨m2, e2, p2, s2, -⟩ := e6_run (N := NN) (by decide) hM sM g1 hn
  exact ⟨_, m1, m2, e1, e2, INV.mk p1 p2 s1 s2 (GD_rn sC.2.1 g1) ((GL_rn g1 g2).mono (Nat.le_add_right _ 10000)) (Nat.le_refl _)⟩
theorem st_digest {mC mM : zMem} {n : Nat} (h : INV mC mM n) (hn : n + 10000 < 2 ^ 31) : ∃ (b : Int64) (mM' : zMem), fX5_digest NN mC = some b ∧ fX6_digest NN mM = some (b, mM') ∧ INV mC mM' (n + 10000) := by
  obtain ⟨A, L, k, f, hP, hM, sC, sM, g1, g2⟩ := h
  have e1 := pX5_digest (N := NN) (by decide) (hP.1.1 0 (by omega)) hP.2.1 g1.1 (g1.ok (by omega))
  have e2 := pX6_digest (N := NN) (by decide) hM.1 g1.1 (g1.ok (by omega))
  have a1 : mC.1 0 6 = nI L.length := hP.2.2.2.1
  have a2 : mM.1 0 3 = nI L.length := hM.2.2.1
  rw [a1, sC.1] at e1
  rw [a2, sM.1] at e2
  have hM2 := (PM_4 hM 0).1
  have sM2 : ScM (zsI mM 0 4 0) k f := ScM_I sM (by omega) (by omega)
  exact ⟨_, _, e1, e2, INV.mk hP ⟨hM2.1, hM2.2.1, hM2.2.2.1, hM2.2.2.2⟩ sC ⟨sM2.1, sM2.2.1, sM2.2.2⟩ g1 g2 (by omega)⟩
