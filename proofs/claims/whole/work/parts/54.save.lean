/-! saved states -/
theorem zsA_s (m : zMem) (a : Nat) (f : Nat → Int32) (k : Nat) : (zsA m a f).1 a k = f k := by simp [zsA]
theorem zsA_ne (m : zMem) {a b : Nat} (f : Nat → Int32) (h : b ≠ a) : (zsA m a f).1 b = m.1 b := by funext k; simp [zsA, h]
theorem kcp_z {α : Type} {n : Nat} (hn : n < 2 ^ 31) (m : zMem) (a b : Nat) (k : zMem → Option α) : kcp m a b n n 0 0 (nI n) k = k (zsA m b (va_cpy (m.1 a) (m.1 b) 0 0 n)) := by
  unfold kcp
  have e0 : (0 : Int32).toNatClampNeg = 0 := by decide
  have en : (nI n).toNatClampNeg = n := nI_clamp hn
  rw [e0, en, if_neg]
  intro z
  rcases z with z | z | z | z | z
  · exact absurd z (by decide)
  · exact absurd z (by decide)
  · exact nI_pos hn z
  · omega
  · omega
theorem cpS (m : zMem) {a b : Nat} (n : Nat) : ∃ m', zsA m b (va_cpy (m.1 a) (m.1 b) 0 0 n) = m' ∧ (∀ j, j < n → m'.1 b j = m.1 a j) ∧ (∀ c, c ≠ b → m'.1 c = m.1 c) ∧ m'.2 = m.2 := by
  refine ⟨_, rfl, fun j hj => ?_, fun c hc => zsA_ne _ _ hc, rfl⟩
  rw [zsA_s]
  unfold va_cpy
  rw [if_pos ⟨Nat.zero_le _, by omega⟩, Nat.zero_add, Nat.sub_zero]
/-- the cells of one state lie in another -/
def cpd (m m' : zMem) (s s2 : Nat) : Prop := (∀ j, j < 8 → m'.1 s j = m.1 s2 j) ∧ (∀ j, j < 9 → m'.1 (s + 1) j = m.1 (s2 + 1) j) ∧ (∀ j, j < 256 → m'.1 (s + 2) j = m.1 (s2 + 2) j) ∧ (∀ i j, 3 ≤ i → i ≤ 5 → j < 24 → m'.1 (s + i) j = m.1 (s2 + i) j) ∧ (∀ j, j < 192 → m'.1 (s + 7) j = m.1 (s2 + 7) j) ∧ (∀ i j, 8 ≤ i → i ≤ 9 → j < 768 → m'.1 (s + i) j = m.1 (s2 + i) j)
theorem RepC_cp {m m' : zMem} {s s2 : Nat} {A : AS} (h : RepC m s2 A) (c : cpd m m' s s2) : RepC m' s A := by
  obtain ⟨h1, h2, h3, h4, h5, h6⟩ := h
  obtain ⟨c0, c1, c2, c3, c7, c8⟩ := c
  refine ⟨fun i hi => by rw [c0 i (by omega)]; exact h1 i hi, by rw [c0 7 (by omega)]; exact h2, fun i hi => by rw [c1 i hi]; exact h3 i hi, fun i hi => by rw [c2 i hi]; exact h4 i hi, fun i hi => by rw [c3 3 i (by omega) (by omega) hi]; exact h5 i hi, fun k hk hw => ?_⟩
  obtain ⟨a1, a2, a3⟩ := h6 k hk hw
  refine ⟨by rw [c3 4 k (by omega) (by omega) hk]; exact a1, by rw [c3 5 k (by omega) (by omega) hk]; exact a2, fun b hb => ?_⟩
  exact BK_congr (a3 b hb) (c7 _ (by omega)) (fun j hj => c8 8 _ (by omega) (by omega) (by omega)) (fun j hj => c8 9 _ (by omega) (by omega) (by omega))
theorem isS_far {s s2 : Nat} (h : isS s) (h2 : isS s2) (hne : s ≠ s2) : s + 10 ≤ s2 ∨ s2 + 10 ≤ s := by
  unfold isS at h h2; omega
theorem pX2_copyFrom {m : zMem} {s s2 : Nat} (hs : isS s) (hs2 : isS s2) (hne : s ≠ s2) : ∃ m', fX2_copyFrom s s2 m = some m' ∧ cpd m m' s s2 ∧ frS m m' s := by
  have far := isS_far hs hs2 hne
  simp only [fX2_copyFrom, fX3_copyFrom, kgi, kpi]
  obtain ⟨m1, h1⟩ : ∃ z, z = zsI m s 0 (m.1 s2 0) := ⟨_, rfl⟩
  rw [← h1]
  obtain ⟨m2, h2⟩ : ∃ z, z = zsI m1 s 1 (m1.1 s2 1) := ⟨_, rfl⟩
  rw [← h2]
  obtain ⟨m3, h3⟩ : ∃ z, z = zsI m2 s 2 (m2.1 s2 2) := ⟨_, rfl⟩
  rw [← h3]
  obtain ⟨m4, h4⟩ : ∃ z, z = zsI m3 s 3 (m3.1 s2 3) := ⟨_, rfl⟩
  rw [← h4]
  obtain ⟨m5, h5⟩ : ∃ z, z = zsI m4 s 4 (m4.1 s2 4) := ⟨_, rfl⟩
  rw [← h5]
  obtain ⟨m6, h6⟩ : ∃ z, z = zsI m5 s 5 (m5.1 s2 5) := ⟨_, rfl⟩
  rw [← h6]
  obtain ⟨m7, h7⟩ : ∃ z, z = zsI m6 s 6 (m6.1 s2 6) := ⟨_, rfl⟩
  rw [← h7]
  obtain ⟨m8, h8⟩ : ∃ z, z = zsI m7 s 7 (m7.1 s2 7) := ⟨_, rfl⟩
  rw [← h8]
  have o1 : ∀ c, c ≠ s → m1.1 c = m.1 c := fun c hc => by rw [h1, zsI_ne _ _ _ hc]
  have o2 : ∀ c, c ≠ s → m2.1 c = m.1 c := fun c hc => by rw [h2, zsI_ne _ _ _ hc]; exact o1 c hc
  have o3 : ∀ c, c ≠ s → m3.1 c = m.1 c := fun c hc => by rw [h3, zsI_ne _ _ _ hc]; exact o2 c hc
  have o4 : ∀ c, c ≠ s → m4.1 c = m.1 c := fun c hc => by rw [h4, zsI_ne _ _ _ hc]; exact o3 c hc
  have o5 : ∀ c, c ≠ s → m5.1 c = m.1 c := fun c hc => by rw [h5, zsI_ne _ _ _ hc]; exact o4 c hc
  have o6 : ∀ c, c ≠ s → m6.1 c = m.1 c := fun c hc => by rw [h6, zsI_ne _ _ _ hc]; exact o5 c hc
  have o7 : ∀ c, c ≠ s → m7.1 c = m.1 c := fun c hc => by rw [h7, zsI_ne _ _ _ hc]; exact o6 c hc
  have o8 : ∀ c, c ≠ s → m8.1 c = m.1 c := fun c hc => by rw [h8, zsI_ne _ _ _ hc]; exact o7 c hc
  have z8 : m8.2 = m.2 := by rw [h8, h7, h6, h5, h4, h3, h2, h1]; rfl
  have f8 : ∀ j, j < 8 → m8.1 s j = m.1 s2 j := fun j hj => by
    have hn : s2 ≠ s := Ne.symm hne
    rcases (by omega : j = 0 ∨ j = 1 ∨ j = 2 ∨ j = 3 ∨ j = 4 ∨ j = 5 ∨ j = 6 ∨ j = 7) with e | e | e | e | e | e | e | e <;> subst e
    · rw [h8, zsI_n _ _ (by omega), h7, zsI_n _ _ (by omega), h6, zsI_n _ _ (by omega), h5, zsI_n _ _ (by omega), h4, zsI_n _ _ (by omega), h3, zsI_n _ _ (by omega), h2, zsI_n _ _ (by omega), h1, zsI_s]
    · rw [h8, zsI_n _ _ (by omega), h7, zsI_n _ _ (by omega), h6, zsI_n _ _ (by omega), h5, zsI_n _ _ (by omega), h4, zsI_n _ _ (by omega), h3, zsI_n _ _ (by omega), h2, zsI_s, o1 _ hn]
    · rw [h8, zsI_n _ _ (by omega), h7, zsI_n _ _ (by omega), h6, zsI_n _ _ (by omega), h5, zsI_n _ _ (by omega), h4, zsI_n _ _ (by omega), h3, zsI_s, o2 _ hn]
    · rw [h8, zsI_n _ _ (by omega), h7, zsI_n _ _ (by omega), h6, zsI_n _ _ (by omega), h5, zsI_n _ _ (by omega), h4, zsI_s, o3 _ hn]
    · rw [h8, zsI_n _ _ (by omega), h7, zsI_n _ _ (by omega), h6, zsI_n _ _ (by omega), h5, zsI_s, o4 _ hn]
    · rw [h8, zsI_n _ _ (by omega), h7, zsI_n _ _ (by omega), h6, zsI_s, o5 _ hn]
    · rw [h8, zsI_n _ _ (by omega), h7, zsI_s, o6 _ hn]
    · rw [h8, zsI_s, o7 _ hn]
  clear h1 h2 h3 h4 h5 h6 h7 h8 o1 o2 o3 o4 o5 o6 o7
  obtain ⟨p1, g1, q1, r1, y1⟩ := cpS m8 (a := s2 + 1) (b := s + 1) 9
  obtain ⟨p2, g2, q2, r2, y2⟩ := cpS p1 (a := s2 + 2) (b := s + 2) 256
  obtain ⟨p3, g3, q3, r3, y3⟩ := cpS p2 (a := s2 + 3) (b := s + 3) 24
  obtain ⟨p4, g4, q4, r4, y4⟩ := cpS p3 (a := s2 + 4) (b := s + 4) 24
  obtain ⟨p5, g5, q5, r5, y5⟩ := cpS p4 (a := s2 + 5) (b := s + 5) 24
  obtain ⟨p7, g7, q7, r7, y7⟩ := cpS p5 (a := s2 + 7) (b := s + 7) 192
  obtain ⟨pe, ge, qe, re, ye⟩ := cpS p7 (a := s2 + 8) (b := s + 8) 768
  obtain ⟨pn, gn, qn, rn, yn⟩ := cpS pe (a := s2 + 9) (b := s + 9) 768
  rw [show (9 : Int32) = nI 9 from rfl, kcp_z (by omega), g1, nn256, kcp_z (by omega), g2, nn24, kcp_z (by omega), g3, kcp_z (by omega), g4, kcp_z (by omega), g5, nn192, kcp_z (by omega), g7, nn768, kcp_z (by omega), ge, kcp_z (by omega), gn, kc1_s]
  refine ⟨pn, rfl, ⟨fun j hj => ?_, fun j hj => ?_, fun j hj => ?_, fun i j hi hi2 hj => ?_, fun j hj => ?_, fun i j hi hi2 hj => ?_⟩, ?_, fun c hc => ?_⟩
  · rw [rn _ (by omega), re _ (by omega), r7 _ (by omega), r5 _ (by omega), r4 _ (by omega), r3 _ (by omega), r2 _ (by omega), r1 _ (by omega)]; exact f8 j hj
  · rw [rn _ (by omega), re _ (by omega), r7 _ (by omega), r5 _ (by omega), r4 _ (by omega), r3 _ (by omega), r2 _ (by omega), q1 j hj, o8 _ (by omega)]
  · rw [rn _ (by omega), re _ (by omega), r7 _ (by omega), r5 _ (by omega), r4 _ (by omega), r3 _ (by omega), q2 j hj, r1 _ (by omega), o8 _ (by omega)]
  · rcases (by omega : i = 3 ∨ i = 4 ∨ i = 5) with e | e | e <;> subst e
    · rw [rn _ (by omega), re _ (by omega), r7 _ (by omega), r5 _ (by omega), r4 _ (by omega), q3 j hj, r2 _ (by omega), r1 _ (by omega), o8 _ (by omega)]
    · rw [rn _ (by omega), re _ (by omega), r7 _ (by omega), r5 _ (by omega), q4 j hj, r3 _ (by omega), r2 _ (by omega), r1 _ (by omega), o8 _ (by omega)]
    · rw [rn _ (by omega), re _ (by omega), r7 _ (by omega), q5 j hj, r4 _ (by omega), r3 _ (by omega), r2 _ (by omega), r1 _ (by omega), o8 _ (by omega)]
  · rw [rn _ (by omega), re _ (by omega), q7 j hj, r5 _ (by omega), r4 _ (by omega), r3 _ (by omega), r2 _ (by omega), r1 _ (by omega), o8 _ (by omega)]
  · rcases (by omega : i = 8 ∨ i = 9) with e | e <;> subst e
    · rw [rn _ (by omega), qe j hj, r7 _ (by omega), r5 _ (by omega), r4 _ (by omega), r3 _ (by omega), r2 _ (by omega), r1 _ (by omega), o8 _ (by omega)]
    · rw [qn j hj, re _ (by omega), r7 _ (by omega), r5 _ (by omega), r4 _ (by omega), r3 _ (by omega), r2 _ (by omega), r1 _ (by omega), o8 _ (by omega)]
  · rw [yn, ye, y7, y5, y4, y3, y2, y1, z8]
  · rw [rn _ (by omega), re _ (by omega), r7 _ (by omega), r5 _ (by omega), r4 _ (by omega), r3 _ (by omega), r2 _ (by omega), r1 _ (by omega), o8 _ (by omega)]
/-! the class's whole picture -/
def PCt (m : zMem) : Prop := (∀ i, i < 4 → isS (m.2.2 i)) ∧ ∀ i j, i < 4 → j < 4 → m.2.2 i = m.2.2 j → i = j
def PC (m : zMem) (A : AS) (L : List AS) : Prop := PCt m ∧ RepC m (m.2.2 0) A ∧ L.length ≤ 3 ∧ m.1 0 6 = nI L.length ∧ ∀ i B, L[i]? = some B → RepC m (m.2.2 (i + 1)) B
/-- the script's cells, and the long fields, are as they were -/
def frX (m m' : zMem) : Prop := (∀ c, 6 ≤ c → c < 10 → m'.1 c = m.1 c) ∧ (∀ j, j ≠ 6 → m'.1 0 j = m.1 0 j) ∧ m'.2.1 = m.2.1
theorem frX.rf (m : zMem) : frX m m := ⟨fun _ _ _ => rfl, fun _ _ => rfl, rfl⟩
theorem frX.tr {m m1 m2 : zMem} (h : frX m m1) (h2 : frX m1 m2) : frX m m2 := ⟨fun c a b => (h2.1 c a b).trans (h.1 c a b), fun j a => (h2.2.1 j a).trans (h.2.1 j a), h2.2.2.trans h.2.2⟩
theorem zsR_s (m : zMem) (j r : Nat) : (zsR m j r).2.2 j = r := by simp [zsR]
theorem zsR_n (m : zMem) {j i : Nat} (r : Nat) (h : i ≠ j) : (zsR m j r).2.2 i = m.2.2 i := by simp [zsR, h]
theorem zsR_1 (m : zMem) (j r : Nat) : (zsR m j r).1 = m.1 := rfl
/-- a change of the present state alone -/
theorem PC_now {m m' : zMem} {A B : AS} {L : List AS} (h : PC m A L) (f : frV m m' (m.2.2 0)) (hr : RepC m' (m.2.2 0) B) : PC m' B L ∧ frX m m' := by
  obtain ⟨⟨t1, t2⟩, h1, h2, h3, h4⟩ := h
  have f2 : m'.2 = m.2 := f.1
  have hs0 := t1 0 (by omega)
  have := isS_ge hs0
  refine ⟨⟨⟨fun i hi => by rw [f2]; exact t1 i hi, fun i j hi hj e => t2 i j hi hj (by rw [f2] at e; exact e)⟩, by rw [f2]; exact hr, h2, by rw [f.2 0 (by omega)]; exact h3, fun i B2 hB => ?_⟩, fun c a b => f.2 c (by omega), fun j hj => by rw [f.2 0 (by omega)], by rw [f2]⟩
  have hi : i < L.length := (List.getElem?_eq_some_iff.mp hB).1
  have far := isS_far (t1 (i + 1) (by omega)) hs0 (fun e => by have := t2 (i + 1) 0 (by omega) (by omega) e; omega)
  have ge := isS_ge (t1 (i + 1) (by omega))
  rw [f2]
  exact RepC_fr (h4 i B2 hB) (fun c a b => f.2 c (by omega))
def pushL (A : AS) (L : List AS) : List AS := (A :: L).take 3
theorem push_le (A : AS) (L : List AS) : (pushL A L).length ≤ 3 := by unfold pushL; rw [List.length_take]; omega
theorem pX5_save {m : zMem} {A : AS} {L : List AS} (h : PC m A L) : ∃ m', fX5_save m = some m' ∧ PC m' A (pushL A L) ∧ frX m m' ∧ m'.2.2 0 = m.2.2 0 := by
  obtain ⟨⟨t1, t2⟩, h1, h2, h3, h4⟩ := h
  have s0 := t1 0 (by omega)
  have s1 := t1 1 (by omega)
  have s2 := t1 2 (by omega)
  have s3 := t1 3 (by omega)
  have n30 : m.2.2 3 ≠ m.2.2 0 := fun e => by have := t2 3 0 (by omega) (by omega) e; omega
  obtain ⟨m1, hm1⟩ : ∃ z, z = zsR (zsR (zsR m 3 (m.2.2 2)) 2 (m.2.2 1)) 1 (m.2.2 3) := ⟨_, rfl⟩
  have v0 : m1.2.2 0 = m.2.2 0 := by rw [hm1, zsR_n _ _ (by omega), zsR_n _ _ (by omega), zsR_n _ _ (by omega)]
  have v1 : m1.2.2 1 = m.2.2 3 := by rw [hm1, zsR_s]
  have v2 : m1.2.2 2 = m.2.2 1 := by rw [hm1, zsR_n _ _ (by omega), zsR_s]
  have v3 : m1.2.2 3 = m.2.2 2 := by rw [hm1, zsR_n _ _ (by omega), zsR_n _ _ (by omega), zsR_s]
  have c1 : m1.1 = m.1 := by rw [hm1]; rfl
  have l1 : m1.2.1 = m.2.1 := by rw [hm1]; rfl
  obtain ⟨m2, e2, p2, f2⟩ := pX2_copyFrom (m := m1) s3 s0 n30
  have un : fX5_save m = some (zsI m2 0 6 (if 3 < m2.1 0 6 + 1 then 3 else m2.1 0 6 + 1)) := by
    simp only [fX5_save, kgr, kpr, kgi, kpi, kmin]
    rw [kis_s s3, kis_s s2]
    have a4 : (zsR m 3 (m.2.2 2)).2.2 1 = m.2.2 1 := zsR_n _ _ (by omega)
    rw [a4, kis_s s1, ← hm1, v1, kis_s s3, v0, kis_s s0, e2, kc1_s]
  have hge3 := isS_ge s3
  have w6 : m2.1 0 6 = nI L.length := by rw [f2.2 0 (by omega), c1]; exact h3
  have lp : (if (3 : Int32) < m2.1 0 6 + 1 then 3 else m2.1 0 6 + 1) = nI (pushL A L).length := by
    rw [w6, nI_1]
    unfold pushL
    rw [List.length_take, List.length_cons]
    by_cases q : L.length = 3
    · rw [q]; rfl
    · rw [nn3, if_neg (nI_nlt (by omega) (by omega)), Nat.min_eq_right (by omega)]
  have r2 : m2.2 = m1.2 := f2.1
  have fr : ∀ (i : Nat) (B : AS), i < 4 → i ≠ 3 → RepC m (m.2.2 i) B → RepC (zsI m2 0 6 (if 3 < m2.1 0 6 + 1 then 3 else m2.1 0 6 + 1)) (m.2.2 i) B := fun i B hi hi3 hB => by
    have far := isS_far (t1 i hi) s3 (fun e => hi3 (t2 i 3 hi (by omega) e))
    have ge := isS_ge (t1 i hi)
    refine RepC_fr hB (fun c a b => ?_)
    rw [zsI_ne _ _ _ (by omega), f2.2 c (by omega), c1]
  have r1 : RepC m1 (m.2.2 0) A := RepC_fr h1 (fun c a b => by rw [c1])
  have new : RepC (zsI m2 0 6 (if 3 < m2.1 0 6 + 1 then 3 else m2.1 0 6 + 1)) (m.2.2 3) A := RepC_fr (RepC_cp r1 p2) (fun c a b => by
    rw [zsI_ne _ _ _ (by omega)])
  refine ⟨_, un, ⟨⟨fun i hi => ?_, fun i j hi hj e => ?_⟩, ?_, push_le A L, ?_, fun i B hB => ?_⟩, ⟨fun c a b => ?_, fun j hj => ?_, ?_⟩, ?_⟩
  · rw [zsI_2, r2]
    rcases (by omega : i = 0 ∨ i = 1 ∨ i = 2 ∨ i = 3) with e | e | e | e <;> subst e
    · rw [v0]; exact s0
    · rw [v1]; exact s3
    · rw [v2]; exact s1
    · rw [v3]; exact s2
  · rw [zsI_2, r2] at e
    have pv : ∀ i, i < 4 → m1.2.2 i = m.2.2 (if i = 0 then 0 else if i = 1 then 3 else i - 1) := fun i hi => by
      rcases (by omega : i = 0 ∨ i = 1 ∨ i = 2 ∨ i = 3) with e | e | e | e <;> subst e
      · exact v0
      · exact v1
      · exact v2
      · exact v3
    rw [pv i hi, pv j hj] at e
    have := t2 _ _ (by split <;> (try split) <;> omega) (by split <;> (try split) <;> omega) e
    split at this <;> split at this <;> (try split at this) <;> (try split at this) <;> omega
  · rw [zsI_2, r2, v0]; exact fr 0 A (by omega) (by omega) h1
  · rw [zsI_s]; exact lp
  · rw [zsI_2, r2]
    unfold pushL at hB
    rw [List.getElem?_take] at hB
    by_cases q : i < 3
    · rw [if_pos q] at hB
      rcases (by omega : i = 0 ∨ i = 1 ∨ i = 2) with e | e | e <;> subst e
      · simp at hB
        subst hB
        rw [v1]; exact new
      · rw [v2]
        exact fr 1 B (by omega) (by omega) (h4 0 B (by simpa using hB))
      · rw [v3]
        exact fr 2 B (by omega) (by omega) (h4 1 B (by simpa using hB))
    · rw [if_neg q] at hB; cases hB
  · rw [zsI_ne _ _ _ (by omega), f2.2 c (by omega), c1]
  · rw [zsI_n _ _ (by omega), f2.2 0 (by omega), c1]
  · rw [zsI_2, r2, l1]
  · rw [zsI_2, r2, v0]
theorem pX5_undo {m : zMem} {A B : AS} {L : List AS} (h : PC m A (B :: L)) : ∃ m', fX5_undo m = some (nI L.length, m') ∧ PC m' B L ∧ frX m m' := by
  obtain ⟨⟨t1, t2⟩, h1, h2, h3, h4⟩ := h
  have s0 := t1 0 (by omega)
  have s1 := t1 1 (by omega)
  have s2 := t1 2 (by omega)
  have s3 := t1 3 (by omega)
  rw [List.length_cons] at h2 h3
  obtain ⟨m1, hm1⟩ : ∃ z, z = zsR (zsR (zsR (zsR m 0 (m.2.2 1)) 1 (m.2.2 2)) 2 (m.2.2 3)) 3 (m.2.2 0) := ⟨_, rfl⟩
  have v3 : m1.2.2 3 = m.2.2 0 := by rw [hm1, zsR_s]
  have v2 : m1.2.2 2 = m.2.2 3 := by rw [hm1, zsR_n _ _ (by omega), zsR_s]
  have v1 : m1.2.2 1 = m.2.2 2 := by rw [hm1, zsR_n _ _ (by omega), zsR_n _ _ (by omega), zsR_s]
  have v0 : m1.2.2 0 = m.2.2 1 := by rw [hm1, zsR_n _ _ (by omega), zsR_n _ _ (by omega), zsR_n _ _ (by omega), zsR_s]
  have c1 : m1.1 = m.1 := by rw [hm1]; rfl
  have l1 : m1.2.1 = m.2.1 := by rw [hm1]; rfl
  have un : fX5_undo m = some (nI L.length, zsI m1 0 6 (nI L.length)) := by
    simp only [fX5_undo, kgr, kpr, kgi, kpi]
    rw [h3, nn0, if_neg (fun z => by have := nI_inj (by omega) (by omega) z; omega), kis_s s0, kis_s s1]
    have a5 : (zsR m 0 (m.2.2 1)).2.2 2 = m.2.2 2 := zsR_n _ _ (by omega)
    have a7 : (zsR (zsR m 0 (m.2.2 1)) 1 (m.2.2 2)).2.2 3 = m.2.2 3 := by rw [zsR_n _ _ (by omega), zsR_n _ _ (by omega)]
    rw [a5, kis_s s2, a7, kis_s s3, ← hm1, c1, h3, nI_sub1 (by omega), Nat.add_sub_cancel, zsI_s]
  have fr : ∀ (i : Nat) (C : AS), i < 4 → RepC m (m.2.2 i) C → RepC (zsI m1 0 6 (nI L.length)) (m.2.2 i) C := fun i C hi hC => by
    have ge := isS_ge (t1 i hi)
    refine RepC_fr hC (fun c a b => ?_)
    rw [zsI_ne _ _ _ (by omega), c1]
  have pv : ∀ i, i < 4 → m1.2.2 i = m.2.2 (if i = 3 then 0 else i + 1) := fun i hi => by
    rcases (by omega : i = 0 ∨ i = 1 ∨ i = 2 ∨ i = 3) with e | e | e | e <;> subst e
    · exact v0
    · exact v1
    · exact v2
    · exact v3
  refine ⟨_, un, ⟨⟨fun i hi => ?_, fun i j hi hj e => ?_⟩, ?_, by omega, by rw [zsI_s], fun i C hC => ?_⟩, ⟨fun c a b => by rw [zsI_ne _ _ _ (by omega), c1], fun j hj => by rw [zsI_n _ _ (by omega), c1], by rw [zsI_2, l1]⟩⟩
  · rw [zsI_2, pv i hi]
    exact t1 _ (by split <;> omega)
  · rw [zsI_2, pv i hi, pv j hj] at e
    have := t2 _ _ (by split <;> omega) (by split <;> omega) e
    split at this <;> split at this <;> omega
  · rw [zsI_2, v0]; exact fr 1 B (by omega) (h4 0 B rfl)
  · have hi : i < L.length := (List.getElem?_eq_some_iff.mp hC).1
    rw [zsI_2, pv (i + 1) (by omega), if_neg (by omega)]
    exact fr (i + 2) C (by omega) (h4 (i + 1) C (by simpa using hC))
