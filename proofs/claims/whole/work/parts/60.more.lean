/-! entries, shares -/
theorem pos_n {a : Int32} (h : 0 ≤ a) : iN a < 2 ^ 31 ∧ a = nI (iN a) := by
  have hv := vI a
  have hlt : a.toUInt32.toNat < 2 ^ 32 := UInt32.toNat_lt _
  refine ⟨?_, hv⟩
  apply Nat.lt_of_not_le
  intro hh
  have e : iN a = a.toUInt32.toNat := rfl
  rw [e] at hh
  rw [hv] at h
  exact Int32.lt_irrefl (Int32.lt_of_lt_of_le (nI_big hh hlt) h)
abbrev okE (b c d : Int32) : Prop := (0 ≤ b ∧ b ≤ 7) ∧ 0 ≤ c ∧ (0 ≤ d ∧ d ≤ 1)
def etF (A : AS) (a b c d : Int32) : Int32 := if okE b c d then mbF A a else 1
theorem etF_0 {A : AS} {a b c d : Int32} (h : etF A a b c d = 0) : okE b c d ∧ mbF A a = 0 := by
  unfold etF at h
  by_cases q : okE b c d
  · rw [if_pos q] at h; exact ⟨q, h⟩
  · rw [if_neg q] at h; exact absurd h (by decide)
def etL (l : List (Nat × Int32)) (c d : Int32) : Int32 := if iN c < l.length then (if d = 0 then nI (l[iN c]?.getD (0, 0)).1 else (l[iN c]?.getD (0, 0)).2) else -1
def etA (A : AS) (a b c d : Int32) : Int32 := etL (aB A (slot A (iN a)) (iN b)) c d
theorem e5_entry {m : zMem} {A : AS} {L : List AS} {a b c d : Int32} (h : PC m A L) (hf : etF A a b c d = 0) : fX5_entry a b c d m = some (etA A a b c d) := by
  have hs := h.1.1 0 (by omega)
  obtain ⟨⟨q1, q2, q3⟩, q4⟩ := etF_0 hf
  obtain ⟨q5, q6⟩ := mbF_0 q4
  obtain ⟨k1, k2⟩ := okI_n q5
  obtain ⟨k3, k4⟩ := inN (n := 7) q1.1 q1.2 (by omega)
  obtain ⟨k5, k6⟩ := pos_n q2
  have hsl := (mem_iff _ _).mp q6
  have hwk := slot_at hsl
  simp only [fX5_entry, kgr, klt, fX5_refuseNegative]
  simp only [kis_s hs]
  rw [pX5_refuse q1, kc1_s, if_pos q2, kc1_s, pX5_refuse q3, kc1_s, pX5_memberFault a hs h.2.1, kc1_s, q4, raise0, kc1_s]
  unfold etA
  have hB := (h.2.1.2.2.2.2.2 _ hsl (by omega)).2.2 (iN b) (by omega)
  have hl := hB.2.1
  have ez : m.1 (m.2.2 0 + 7) (8 * slot A (iN a) + iN b) = nI (aB A (slot A (iN a)) (iN b)).length := hB.1
  rw [show kld m (m.2.2 0 + 2) 256 a = kld m (m.2.2 0 + 2) 256 (nI (iN a)) by rw [← k2], kld_n k1 (by decide), RepC_row h.2.1 k1 q6, show fX3_bucketPlace (nI (slot A (iN a))) b = fX3_bucketPlace (nI (slot A (iN a))) (nI (iN b)) by rw [← k4], pX3_bucketPlace, kc1_s, kld_n (by omega) (by decide), ez]
  generalize aB A (slot A (iN a)) (iN b) = l at *
  unfold etL
  by_cases q : iN c < l.length
  · have e1 : c < nI l.length := by rw [k6]; exact nI_lt q (by omega)
    obtain ⟨e, he, e1', e2', -⟩ := BK_get hB q
    have ix : nI (8 * slot A (iN a) + iN b) * 4 + c = nI (4 * (8 * slot A (iN a) + iN b) + iN c) := by
      rw [show nI (8 * slot A (iN a) + iN b) * 4 + c = nI (8 * slot A (iN a) + iN b) * 4 + nI (iN c) by rw [← k6], nn4, pk_mul, nI_add]
      exact congrArg nI (by omega)
    rw [if_pos e1, if_pos q, ix, kld_n (by omega) (by decide), kld_n (by omega) (by decide), he]
    by_cases qd : d = 0
    · rw [if_pos qd, if_pos qd]; exact congrArg some e1'
    · rw [if_neg qd, if_neg qd]; exact congrArg some e2'
  · have e1 : ¬ c < nI l.length := by rw [k6]; exact nI_nlt (by omega) (by omega)
    rw [if_neg e1, if_neg q]
theorem et6 {N : Nat} {m : zMem} {A : AS} {a b c d : Int32} (hN : 24 < N) (h : RowM (m.1 1) A) (hw : WF A) : fX6_entry N a b c d m = kc2 (fX6_refused (etF A a b c d) m) fun v3 m4 => if v3 = 0 then kc1 (fX6_placeOf N a m4) fun v5 => kld m4 1 1816 ((v5 + 3) + b) fun v6 => if c < v6 then (if d = 0 then kld m4 1 1816 (((v5 + 11) + (4 * b)) + c) fun v8 => some (v8, m4) else kld m4 1 1816 (((v5 + 43) + (4 * b)) + c) fun v8 => some (v8, m4)) else some ((-1), m4) else some (0, m4) := by
  simp only [fX6_entry, kjn]
  rw [pX6_in, kc1_s, pX6_in, kc1_s, pX6_badMember hN h hw, kc1_s]
  unfold etF
  by_cases q1 : (0 : Int32) ≤ b ∧ b ≤ 7
  · rw [if_pos q1, if_neg (show ¬ (1 : Int32) = 0 by decide)]
    by_cases q2 : (0 : Int32) ≤ c
    · rw [if_neg (Int32.not_lt.mpr q2)]
      by_cases q3 : (0 : Int32) ≤ d ∧ d ≤ 1
      · rw [if_pos q3, if_neg (show ¬ (1 : Int32) = 0 by decide), if_pos (show okE b c d from ⟨q1, q2, q3⟩)]
      · rw [if_neg q3, if_pos (show (0 : Int32) = 0 from rfl), if_neg (show ¬ okE b c d from fun z => q3 z.2.2)]
    · rw [if_pos (Int32.not_le.mp q2), if_neg (show ¬ okE b c d from fun z => q2 z.2.1)]
  · rw [if_neg q1, if_pos (show (0 : Int32) = 0 from rfl), if_neg (show ¬ okE b c d from fun z => q1 z.1)]
theorem e6_entry {N : Nat} {m : zMem} {A : AS} {L : List AS} {a b c d : Int32} (hN : 24 < N) (h : PM m A L) (hw : WF A) (hf : etF A a b c d = 0) : fX6_entry N a b c d m = some (etA A a b c d, zsI m 0 4 0) := by
  obtain ⟨⟨q1, q2, q3⟩, q4⟩ := etF_0 hf
  obtain ⟨q5, q6⟩ := mbF_0 q4
  obtain ⟨k1, k2⟩ := okI_n q5
  obtain ⟨k3, k4⟩ := inN (n := 7) q1.1 q1.2 (by omega)
  obtain ⟨k5, k6⟩ := pos_n q2
  have hsl := (mem_iff _ _).mp q6
  have h4 := (PM_4 h 0).1
  rw [et6 hN h.1 hw, hf, pX6_refused0, kc2_s, if_pos rfl]
  rw [show fX6_placeOf N a (zsI m 0 4 0) = fX6_placeOf N (nI (iN a)) (zsI m 0 4 0) by rw [← k2], pX6_placeOf hN h4.1 hw.1 k1, if_pos hsl, kc1_s]
  generalize zsI m 0 4 0 = m4 at *
  obtain ⟨a1, a2, a3, a4⟩ := h4.1.2 _ hsl
  have hB := a4 (iN b) (by omega)
  unfold etA
  have hl := hB.2.1
  have ez : m4.1 1 (19 + 75 * slot A (iN a) + iN b) = nI (aB A (slot A (iN a)) (iN b)).length := hB.1
  have i0 : nI (16 + 75 * slot A (iN a)) + 3 + b = nI (19 + 75 * slot A (iN a) + iN b) := by
    rw [show nI (16 + 75 * slot A (iN a)) + 3 + b = nI (16 + 75 * slot A (iN a)) + 3 + nI (iN b) by rw [← k4], nn3, nI_add, nI_add]
    exact congrArg nI (by omega)
  rw [i0, kld_n (by omega) (by decide), ez]
  generalize aB A (slot A (iN a)) (iN b) = l at *
  unfold etL
  by_cases q : iN c < l.length
  · have e1 : c < nI l.length := by rw [k6]; exact nI_lt q (by omega)
    obtain ⟨e, he, e1', e2', -⟩ := BK_get hB q
    have ix : nI (16 + 75 * slot A (iN a)) + 11 + 4 * b + c = nI (27 + 75 * slot A (iN a) + 4 * iN b + iN c) := by
      rw [show nI (16 + 75 * slot A (iN a)) + 11 + 4 * b + c = nI (16 + 75 * slot A (iN a)) + 11 + 4 * nI (iN b) + nI (iN c) by rw [← k4, ← k6], nn11, nn4, pk_mul, nI_add, nI_add, nI_add]
      exact congrArg nI (by omega)
    have iy : nI (16 + 75 * slot A (iN a)) + 43 + 4 * b + c = nI (59 + 75 * slot A (iN a) + 4 * iN b + iN c) := by
      rw [show nI (16 + 75 * slot A (iN a)) + 43 + 4 * b + c = nI (16 + 75 * slot A (iN a)) + 43 + 4 * nI (iN b) + nI (iN c) by rw [← k4, ← k6], nn43, nn4, pk_mul, nI_add, nI_add, nI_add]
      exact congrArg nI (by omega)
    rw [if_pos e1, if_pos q, ix, iy, kld_n (by omega) (by decide), kld_n (by omega) (by decide), he]
    by_cases qd : d = 0
    · rw [if_pos qd, if_pos qd]; exact congrArg (fun z => some (z, m4)) e1'
    · rw [if_neg qd, if_neg qd]; exact congrArg (fun z => some (z, m4)) e2'
  · have e1 : ¬ c < nI l.length := by rw [k6]; exact nI_nlt (by omega) (by omega)
    rw [if_neg e1, if_neg q]
abbrev ok7 (o : Int32) : Prop := 0 ≤ o ∧ o ≤ 7
def shF (A : AS) (a o : Int32) : Int32 := if ok7 o then mbF A a else 1
theorem shF_0 {A : AS} {a o : Int32} (h : shF A a o = 0) : ok7 o ∧ mbF A a = 0 := by
  unfold shF at h
  by_cases q : ok7 o
  · rw [if_pos q] at h; exact ⟨q, h⟩
  · rw [if_neg q] at h; exact absurd h (by decide)
def shA (A : AS) (a o : Int32) : Int32 := if ens A (slot A (iN a)) = 0 then 0 else (1000 * nI (tco A (slot A (iN a)) o)) / nI (ens A (slot A (iN a)))
theorem ens_le {A : AS} (hw : WF A) {k : Nat} (hk : k < 24) : ens A k ≤ 4 * 8 := sm_le (fun b hb => (hw.2.2 k b hk hb).1)
theorem e5_share {N : Nat} {m : zMem} {A : AS} {L : List AS} {a o : Int32} (hN : 9 < N) (h : PC m A L) (hw : WF A) (hf : shF A a o = 0) : fX5_share N a o m = some (shA A a o) := by
  have hs := h.1.1 0 (by omega)
  obtain ⟨q1, q4⟩ := shF_0 hf
  obtain ⟨q5, q6⟩ := mbF_0 q4
  obtain ⟨k1, k2⟩ := okI_n q5
  have hsl := (mem_iff _ _).mp q6
  have hwk := slot_at hsl
  have hle := ens_le hw hsl
  simp only [fX5_share, kgr]
  simp only [kis_s hs]
  rw [pX5_refuse q1, kc1_s, pX5_memberFault a hs h.2.1, kc1_s, q4, raise0, kc1_s, show kld m (m.2.2 0 + 2) 256 a = kld m (m.2.2 0 + 2) 256 (nI (iN a)) by rw [← k2], kld_n k1 (by decide), RepC_row h.2.1 k1 q6, RepC_ens hN h.2.1 hsl (by omega), kc1_s, nn0, pX3_bucketPlace, kc1_s, nn8, Nat.add_zero]
  rw [pX3_entriesOfOrigin (ls := aB A (slot A (iN a))) hN (by omega) (by omega) (fun i hi => (h.2.1.2.2.2.2.2 _ hsl (by omega)).2.2 i hi), kc1_s]
  unfold shA kdv
  by_cases q : ens A (slot A (iN a)) = 0
  · rw [q, if_pos rfl, if_pos rfl]; rfl
  · have hne : ¬ nI (ens A (slot A (iN a))) = nI 0 := fun z => q (nI_inj (by omega) (by omega) z)
    have hne2 : ¬ nI (ens A (slot A (iN a))) = 0 := hne
    rw [if_neg hne, if_neg hne2, if_neg q]; rfl
theorem sh6 {N : Nat} {m : zMem} {A : AS} {a o : Int32} (hN : 24 < N) (h : RowM (m.1 1) A) (hw : WF A) : fX6_share N a o m = kc2 (fX6_refused (shF A a o) m) fun v3 m4 => if v3 = 0 then kc1 (fX6_placeOf N a m4) fun v5 => kc1 (fX6_entries N v5 m4) fun v6 => if v6 = 0 then some (0, m4) else kc1 (fX6_inTable N v5 o m4) fun v7 => kc1 (fX6_entries N v5 m4) fun v8 => kdv (1000 * v7) v8 fun v9 => some (v9, m4) else some (0, m4) := by
  simp only [fX6_share, kjn]
  rw [pX6_in, kc1_s, pX6_badMember hN h hw, kc1_s]
  unfold shF
  by_cases q1 : ok7 o
  · have q1' : (0 : Int32) ≤ o ∧ o ≤ 7 := q1
    rw [if_pos q1', if_neg (show ¬ (1 : Int32) = 0 by decide), if_pos q1]
  · have q1' : ¬ ((0 : Int32) ≤ o ∧ o ≤ 7) := q1
    rw [if_neg q1', if_pos (show (0 : Int32) = 0 from rfl), if_neg q1]
theorem e6_share {N : Nat} {m : zMem} {A : AS} {L : List AS} {a o : Int32} (hN : 24 < N) (h : PM m A L) (hw : WF A) (hf : shF A a o = 0) : fX6_share N a o m = some (shA A a o, zsI m 0 4 0) := by
  obtain ⟨q1, q4⟩ := shF_0 hf
  obtain ⟨q5, q6⟩ := mbF_0 q4
  obtain ⟨k1, k2⟩ := okI_n q5
  have hsl := (mem_iff _ _).mp q6
  have hle := ens_le hw hsl
  have h4 := (PM_4 h 0).1
  rw [sh6 hN h.1 hw, hf, pX6_refused0, kc2_s, if_pos rfl]
  rw [show fX6_placeOf N a (zsI m 0 4 0) = fX6_placeOf N (nI (iN a)) (zsI m 0 4 0) by rw [← k2], pX6_placeOf hN h4.1 hw.1 k1, if_pos hsl, kc1_s, pX6_entries (by omega) hsl h4.1, kc1_s, pX6_inTable (by omega) hsl h4.1, kc1_s]
  unfold shA kdv
  by_cases q : ens A (slot A (iN a)) = 0
  · rw [q, if_pos (show nI 0 = 0 from rfl), if_pos rfl]
  · have hne2 : ¬ nI (ens A (slot A (iN a))) = 0 := fun z => q (nI_inj (by omega) (by omega) (z.trans nn0))
    rw [if_neg hne2, kc1_s, if_neg hne2, if_neg q]
