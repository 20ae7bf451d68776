/-! a lookup of the class as a whole -/
/-- the walk's cells and one state alone have changed -/
def frV (m m' : zMem) (s : Nat) : Prop := m'.2 = m.2 ∧ ∀ c, c = 0 ∨ (6 ≤ c ∧ (c < s ∨ s + 10 ≤ c)) → m'.1 c = m.1 c
theorem frV.rf (m : zMem) (s : Nat) : frV m m s := ⟨rfl, fun _ _ => rfl⟩
theorem frV.tr {m m1 m2 : zMem} {s : Nat} (h : frV m m1 s) (h2 : frV m1 m2 s) : frV m m2 s := ⟨h2.1.trans h.1, fun c hc => (h2.2 c hc).trans (h.2 c hc)⟩
theorem frW.V {m m' : zMem} (h : frW m m') (s : Nat) : frV m m' s := ⟨h.1, fun c hc => h.2 c (by omega)⟩
theorem frS.V {m m' : zMem} {s : Nat} (h : frS m m' s) (hs : isS s) : frV m m' s := ⟨h.1, fun c hc => h.2 c (by have := isS_ge hs; omega)⟩
theorem cA_9 (A : AS) (n d : Nat) (h : Bool) : aW (cA A n d h) = aW A ∧ aB (cA A n d h) = aB A ∧ aO (cA A n d h) = aO A ∧ aC (cA A n d h) = aC A := ⟨rfl, rfl, rfl, rfl⟩
theorem WF_cA {A : AS} (h : WF A) (n d : Nat) (b : Bool) : WF (cA A n d b) := h
theorem pX2_makeLookup {N s a x : Nat} {m : zMem} {A : AS} (hN : 40 < N) (hs : isS s) (h : RepC m s A) (hw : WF A) (ha : a < 256) (hx : x < 256) (hma : mem A a = true) :
    ∃ m', fX2_makeLookup N s (nI a) (nI x) m = some (nI (lRes A a x), m') ∧ RepC m' s (lookA A a x) ∧ m'.1 1 1 = nI (nst A a x) ∧ m'.1 1 2 = nI (lDead A a x) ∧ m'.1 1 3 = nI (lRes A a x) ∧ m'.1 1 4 = (if lHit A a x = true then 1 else 0) ∧ frV m m' s := by
  have hs10 := isS_ge hs
  have hnle := nst_le A a x
  simp only [fX2_makeLookup, kgi, kjn]
  obtain ⟨m1, e1, t1, t2, t3, t4, t5, t6⟩ := pX4_trace hN hs h hw ha hx hma
  have R1 : RepC m1 s A := RepC_fr h (fun c h1 h2 => t6.2 c (by omega))
  rw [e1, kc1_s, nn2, kld_n (by omega) (by decide), kst_n (by omega) (by decide), nn3, kld_n (by omega) (by decide), kst_n (by omega) (by decide), nn4, kld_n (by omega) (by decide), kst_n (by omega) (by decide)]
  have R2 := RepC_inc (v := m1.1 (s + 1) 2 + 1) R1 (show 2 < 9 by omega)
  obtain ⟨m2, hm2⟩ : ∃ z, z = zsI m1 (s + 1) 2 (m1.1 (s + 1) 2 + 1) := ⟨_, rfl⟩
  rw [← hm2] at R2 ⊢
  have R3 := RepC_inc (v := m2.1 (s + 1) 3 + m2.1 1 1) R2 (show 3 < 9 by omega)
  obtain ⟨m3, hm3⟩ : ∃ z, z = zsI m2 (s + 1) 3 (m2.1 (s + 1) 3 + m2.1 1 1) := ⟨_, rfl⟩
  rw [← hm3] at R3 ⊢
  have R4 := RepC_inc (v := m3.1 (s + 1) 4 + m3.1 1 2) R3 (show 4 < 9 by omega)
  obtain ⟨m4, hm4⟩ : ∃ z, z = zsI m3 (s + 1) 4 (m3.1 (s + 1) 4 + m3.1 1 2) := ⟨_, rfl⟩
  rw [← hm4] at R4 ⊢
  have o4 : ∀ c j, c < s → m4.1 c j = m1.1 c j := fun c j hc => by
    rw [hm4, zsI_n _ _ (by omega), hm3, zsI_n _ _ (by omega), hm2, zsI_n _ _ (by omega)]
  have f4 : frV m m4 s := by
    have g : ∀ {m : zMem} {j : Nat} {v : Int32}, frV m (zsI m (s + 1) j v) s := (frS_I (by omega) (by omega)).V hs
    refine (t6.V s).tr ?_
    rw [hm4, hm3, hm2]
    exact (g.tr g).tr g
  have c2 : m1.1 (s + 1) 2 = aS A 9 := R1.2.2.1 2 (by omega)
  have c3 : m2.1 (s + 1) 3 = aS A 10 := by
    rw [hm2, zsI_n _ _ (by omega)]; exact R1.2.2.1 3 (by omega)
  have c3' : m2.1 1 1 = nI (nst A a x) := by
    rw [hm2, zsI_n _ _ (by omega)]; exact t1
  have c4 : m3.1 (s + 1) 4 = aS A 11 := by
    rw [hm3, zsI_n _ _ (by omega), hm2, zsI_n _ _ (by omega)]; exact R1.2.2.1 4 (by omega)
  have c4' : m3.1 1 2 = nI (lDead A a x) := by
    rw [hm3, zsI_n _ _ (by omega), hm2, zsI_n _ _ (by omega)]; exact t2
  rw [c2, c3, c3', c4, c4'] at R4
  have main : ∀ m5, RepC m5 s (cA A (nst A a x) (lDead A a x) (lHit A a x)) → (∀ c j, c < s → m5.1 c j = m4.1 c j) → frV m m5 s → ∃ m', klp (sX2_makeLookup_64 N s (nI a) fun m12 => some (m12.1 1 3, m12)) N (0, m5) = some (nI (lRes A a x), m') ∧ RepC m' s (lookA A a x) ∧ m'.1 1 1 = nI (nst A a x) ∧ m'.1 1 2 = nI (lDead A a x) ∧ m'.1 1 3 = nI (lRes A a x) ∧ m'.1 1 4 = (if lHit A a x = true then 1 else 0) ∧ frV m m' s := by
    intro m5 R5 o5 f5
    have hWc : aW (cA A (nst A a x) (lDead A a x) (lHit A a x)) = aW A := rfl
    refine klp_iR (n := N) (z := (0, m5)) (fun (i : Nat) (z : Int32 × zMem) => z.1 = nI i ∧ RepC z.2 s (pz A a x (cA A (nst A a x) (lDead A a x) (lHit A a x)) i) ∧ (∀ c j, c < s → z.2.1 c j = m1.1 c j) ∧ frV m z.2 s) (nst A a x) (fun r => ∃ m', r = some (nI (lRes A a x), m') ∧ RepC m' s (lookA A a x) ∧ m'.1 1 1 = nI (nst A a x) ∧ m'.1 1 2 = nI (lDead A a x) ∧ m'.1 1 3 = nI (lRes A a x) ∧ m'.1 1 4 = (if lHit A a x = true then 1 else 0) ∧ frV m m' s) (fun i hi z hz => ?_) (fun z hz rec => ?_) ⟨rfl, R5, fun c j hc => (o5 c j hc).trans (o4 c j hc), f5⟩ (by omega)
    · obtain ⟨z1, z2⟩ := z
      obtain ⟨g1, g2, g3, g4⟩ := hz
      dsimp only at g1 g2 g3 g4
      subst g1
      have hh : ∀ k, k ≤ i → has (tz A a x k).1 x = true := fun k hk => nst_has (by omega)
      have hc := cto_lt hx (hh i (Nat.le_refl _))
      have hne := cto_ne hx hma hh
      have hW := (pz_W A a x (cA A (nst A a x) (lDead A a x) (lHit A a x)) i).1.trans hWc
      have hM := pX2_isMember g2 hc.1
      have hmi := mem_W (id := cto A a x i) hW
      have hmai := (mem_W (id := a) hW).trans hma
      have pre : ∀ K rec, sX2_makeLookup_64 N s (nI a) K rec (nI i, z2) = (if (if mem A (cto A a x i) = true then (1 : Int32) else 0) = 0 then kc1 (fX2_forget N s (nI a) (nI (cto A a x i)) z2) fun m19 => rec (nI i + 1, m19) else kc1 (fX2_learn N s (nI (cto A a x i)) (nI a) z2) fun m20 => kc1 (fX2_learn N s (nI a) (nI (cto A a x i)) m20) fun m21 => rec (nI i + 1, m21)) := by
        intro K rec
        simp only [sX2_makeLookup_64, kgi]
        rw [g3 1 1 (by omega), t1, if_neg (nI_ge (by omega) (by omega)), kld_n (by omega) (by decide), g3 2 i (by omega), t5 i hi, hM, kc1_s, hmi]
      by_cases hm : mem A (cto A a x i) = true
      · obtain ⟨m6, e6, R6, f6⟩ := pX2_learn (N := N) (by omega) g2 hc.1 ha hne (hmi.trans hm) hmai
        obtain ⟨m7, e7, R7, f7⟩ := pX2_learn (N := N) (by omega) R6 ha hc.1 (Ne.symm hne) (by rw [mem_W (learn_W _ _ _).1]; exact hmai) (by rw [mem_W (learn_W _ _ _).1]; exact hmi.trans hm)
        refine ⟨(nI (i + 1), m7), ⟨rfl, ?_, fun c j hc => ?_, ?_⟩, fun rec => ?_⟩
        · show RepC m7 s (apS _ a (cto A a x i))
          unfold apS
          rw [if_pos (hmi.trans hm)]
          exact R7
        · show m7.1 c j = _
          rw [f7.2 c (by omega), f6.2 c (by omega)]; exact g3 c j hc
        · exact (g4.tr (f6.V hs)).tr (f7.V hs)
        · rw [pre, if_pos hm, if_neg (by decide), e6, kc1_s, e7, kc1_s, nI_1]
      · obtain ⟨m6, e6, R6, f6⟩ := pX2_forget (N := N) (by omega) g2 ha hc.1 (Ne.symm hne) hmai
        refine ⟨(nI (i + 1), m6), ⟨rfl, ?_, fun c j hc => ?_, ?_⟩, fun rec => ?_⟩
        · show RepC m6 s (apS _ a (cto A a x i))
          unfold apS
          rw [if_neg (fun z => hm (hmi.symm.trans z))]
          exact R6
        · show m6.1 c j = _
          rw [f6.2 c (by omega)]; exact g3 c j hc
        · exact g4.tr (f6.V hs)
        · rw [pre, if_neg hm, if_pos rfl, e6, kc1_s, nI_1]
    · obtain ⟨z1, z2⟩ := z
      obtain ⟨g1, g2, g3, g4⟩ := hz
      dsimp only at g1 g2 g3 g4
      subst g1
      refine ⟨z2, ?_, g2, (g3 _ _ (by omega)).trans t1, (g3 _ _ (by omega)).trans t2, (g3 _ _ (by omega)).trans t3, (g3 _ _ (by omega)).trans t4, g4⟩
      simp only [sX2_makeLookup_64, kgi]
      rw [g3 1 1 (by omega), t1, if_pos (nI_le (Nat.le_refl _) (by omega)), g3 1 3 (by omega), t3]
  have c10 : m4.1 1 4 = (if lHit A a x = true then 1 else 0) := by rw [o4 _ _ (by omega)]; exact t4
  rw [c10]
  by_cases hh : lHit A a x = true
  · rw [if_pos hh, if_neg (by decide), nn8, kld_n (by omega) (by decide), kst_n (by omega) (by decide)]
    have c8 : m4.1 (s + 1) 8 = aS A 15 := by
      rw [hm4, zsI_n _ _ (by omega), hm3, zsI_n _ _ (by omega), hm2, zsI_n _ _ (by omega)]; exact R1.2.2.1 8 (by omega)
    have R5 := RepC_inc (v := m4.1 (s + 1) 8 + 1) R4 (show 8 < 9 by omega)
    obtain ⟨m5, hm5⟩ : ∃ z, z = zsI m4 (s + 1) 8 (m4.1 (s + 1) 8 + 1) := ⟨_, rfl⟩
    rw [← hm5] at R5 ⊢
    rw [if_pos hh] at main
    refine main m5 ?_ (fun c j hc => by rw [hm5, zsI_n _ _ (by omega)]) ?_
    · rw [c8] at R5
      unfold cA
      rw [if_pos hh]
      exact R5
    · rw [hm5]
      exact f4.tr ((frS_I (by omega) (by omega)).V hs)
  · rw [if_neg hh, if_pos rfl]
    rw [if_neg hh] at main
    refine main m4 ?_ (fun c j hc => rfl) f4
    unfold cA
    rw [if_neg hh]
    have : ∀ B : AS, aS B 15 = aS A 15 → sS B 15 (aS A 15 + 0) = B := fun B e => by
      rw [Int32.add_zero, ← e, sS_id]
    rw [this]
    · exact R4
    · rfl
