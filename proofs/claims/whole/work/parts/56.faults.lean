/-! arguments and refusals -/
def iN (a : Int32) : Nat := a.toUInt32.toNat
theorem iN_n {n : Nat} (h : n < 2 ^ 32) : iN (nI n) = n := nIu h
theorem inN {a : Int32} {n : Nat} (h0 : 0 ≤ a) (h1 : a ≤ nI n) (hn : n < 2 ^ 31) : iN a ≤ n ∧ a = nI (iN a) := by
  have hv := vI a
  have hlt : a.toUInt32.toNat < 2 ^ 32 := UInt32.toNat_lt _
  have e : iN a = a.toUInt32.toNat := rfl
  rw [e]
  refine ⟨?_, hv⟩
  apply Nat.le_of_not_lt
  intro hh
  rw [hv] at h0 h1
  by_cases q : a.toUInt32.toNat < 2 ^ 31
  · exact nI_ge hh q h1
  · exact Int32.lt_irrefl (Int32.lt_of_lt_of_le (nI_big (by omega) hlt) h0)
theorem pX5_isOutside (a lo hi : Int32) : fX5_isOutside a lo hi = some (if lo ≤ a ∧ a ≤ hi then 0 else 1) := by
  unfold fX5_isOutside
  by_cases h1 : a < lo
  · rw [if_pos h1, if_neg (fun z => Int32.not_lt.mpr z.1 h1)]
  · rw [if_neg h1]
    by_cases h2 : a ≤ hi
    · rw [if_pos h2, if_pos ⟨Int32.not_lt.mp h1, h2⟩]
    · rw [if_neg h2, if_neg (fun z => h2 z.2)]
theorem pX5_refuse {a lo hi : Int32} (h : lo ≤ a ∧ a ≤ hi) : fX5_refuseOutside a lo hi = some () := by
  unfold fX5_refuseOutside
  rw [pX5_isOutside, if_pos h, kc1_s, if_pos rfl]
theorem id_iff (a : Int32) : fX6_isId a = some (if 0 ≤ a ∧ a ≤ 255 then 1 else 0) := by
  unfold fX6_isId
  rw [pX6_in, kc1_s]
  unfold kbz
  split <;> rfl
theorem raise0 : fX5_raise 0 = some () := by decide
theorem raise_z {v : Int32} (h : v = 0) : fX5_raise v = some () := by rw [h]; exact raise0
abbrev okI (a : Int32) : Prop := 0 ≤ a ∧ a ≤ 255
theorem okI_n {a : Int32} (h : okI a) : iN a < 256 ∧ a = nI (iN a) := by
  have := inN (n := 255) h.1 h.2 (by omega)
  exact ⟨by omega, this.2⟩
def mbF (A : AS) (a : Int32) : Int32 := if okI a then (if mem A (iN a) = true then 0 else 2) else 1
theorem mbF_0 {A : AS} {a : Int32} (h : mbF A a = 0) : okI a ∧ mem A (iN a) = true := by
  unfold mbF at h
  by_cases h1 : okI a
  · rw [if_pos h1] at h
    by_cases h2 : mem A (iN a) = true
    · exact ⟨h1, h2⟩
    · rw [if_neg h2] at h; exact absurd h (by decide)
  · rw [if_neg h1] at h; exact absurd h (by decide)
theorem pX5_memberFault {m : zMem} {A : AS} (a : Int32) (hs : isS (m.2.2 0)) (h : RepC m (m.2.2 0) A) : fX5_memberFault a m = some (mbF A a) := by
  simp only [fX5_memberFault, kgr]
  rw [pX5_isOutside, kc1_s]
  unfold mbF
  by_cases h1 : okI a
  · obtain ⟨k1, k2⟩ := okI_n h1
    have h1' : (0 : Int32) ≤ a ∧ a ≤ 255 := h1
    rw [if_pos h1', if_pos h1, if_pos rfl, kis_s hs, show fX2_isMember (m.2.2 0) a m = fX2_isMember (m.2.2 0) (nI (iN a)) m by rw [← k2], pX2_isMember h k1, kc1_s]
    by_cases h2 : mem A (iN a) = true
    · rw [if_pos h2, if_neg (by decide), if_pos h2]
    · rw [if_neg h2, if_pos rfl, if_neg h2]
  · have h1' : ¬ ((0 : Int32) ≤ a ∧ a ≤ 255) := h1
    rw [if_neg h1', if_neg h1, if_neg (by decide)]
theorem isM_any {N : Nat} {m : zMem} {A : AS} (hN : 24 < N) (h : RowM (m.1 1) A) (hw : WF A) (a : Int32) : fX6_isMember N a m = some (if okI a ∧ mem A (iN a) = true then 1 else 0) := by
  by_cases h1 : okI a
  · obtain ⟨k1, k2⟩ := okI_n h1
    rw [show fX6_isMember N a m = fX6_isMember N (nI (iN a)) m by rw [← k2], pX6_isMember hN h hw.1 k1]
    by_cases h2 : mem A (iN a) = true
    · rw [if_pos h2, if_pos ⟨h1, h2⟩]
    · rw [if_neg h2, if_neg (fun z => h2 z.2)]
  · have h1' : ¬ ((0 : Int32) ≤ a ∧ a ≤ 255) := h1
    unfold fX6_isMember
    rw [id_iff, if_neg h1', kc1_s, if_pos rfl, if_neg (fun z => h1 z.1)]
theorem isMC_any {m : zMem} {s : Nat} {A : AS} (h : RepC m s A) (a : Int32) : fX2_isMember s a m = some (if okI a ∧ mem A (iN a) = true then 1 else 0) := by
  by_cases h1 : okI a
  · obtain ⟨k1, k2⟩ := okI_n h1
    rw [show fX2_isMember s a m = fX2_isMember s (nI (iN a)) m by rw [← k2], pX2_isMember h k1]
    by_cases h2 : mem A (iN a) = true
    · rw [if_pos h2, if_pos ⟨h1, h2⟩]
    · rw [if_neg h2, if_neg (fun z => h2 z.2)]
  · unfold fX2_isMember
    have hh : ¬ (okI a ∧ mem A (iN a) = true) := fun z => h1 z.1
    rw [if_neg hh]
    by_cases q : a < 0
    · rw [if_pos q]
    · rw [if_neg q]
      by_cases q2 : (255 : Int32) < a
      · rw [if_pos q2]
      · exact absurd ⟨Int32.not_lt.mp q, Int32.not_lt.mp q2⟩ h1
theorem pX6_badMember {N : Nat} {m : zMem} {A : AS} (hN : 24 < N) (h : RowM (m.1 1) A) (hw : WF A) (a : Int32) : fX6_badMember N a m = some (mbF A a) := by
  unfold fX6_badMember mbF
  rw [id_iff, kc1_s]
  by_cases h1 : okI a
  · have h1' : (0 : Int32) ≤ a ∧ a ≤ 255 := h1
    rw [if_pos h1', if_pos h1, if_neg (by decide), isM_any hN h hw, kc1_s]
    by_cases h2 : mem A (iN a) = true
    · have hh : okI a ∧ mem A (iN a) = true := ⟨h1, h2⟩
      rw [if_pos hh, if_neg (by decide), if_pos h2]
    · have hh : ¬ (okI a ∧ mem A (iN a) = true) := fun z => h2 z.2
      rw [if_neg hh, if_pos rfl, if_neg h2]
  · have h1' : ¬ ((0 : Int32) ≤ a ∧ a ≤ 255) := h1
    rw [if_neg h1', if_neg h1, if_pos rfl]
def lkF (A : AS) (a x : Int32) : Int32 := if okI x then mbF A a else 1
theorem pX5_lookupFault {m : zMem} {A : AS} (a x : Int32) (hs : isS (m.2.2 0)) (h : RepC m (m.2.2 0) A) : fX5_lookupFault a x m = some (lkF A a x) := by
  unfold fX5_lookupFault lkF
  rw [pX5_isOutside, kc1_s]
  by_cases h1 : okI x
  · have h1' : (0 : Int32) ≤ x ∧ x ≤ 255 := h1
    rw [if_pos h1', if_pos rfl, if_pos h1, pX5_memberFault a hs h, kc1_s]
  · have h1' : ¬ ((0 : Int32) ≤ x ∧ x ≤ 255) := h1
    rw [if_neg h1', if_neg (by decide), if_neg h1]
theorem pX6_badLook {N : Nat} {m : zMem} {A : AS} (hN : 24 < N) (h : RowM (m.1 1) A) (hw : WF A) (a x : Int32) : fX6_badLook N a x m = some (lkF A a x) := by
  unfold fX6_badLook lkF mbF
  rw [id_iff, kc1_s, id_iff, kc1_s, isM_any hN h hw, kc1_s]
  by_cases h1 : okI a
  · have h1' : (0 : Int32) ≤ a ∧ a ≤ 255 := h1
    rw [if_pos h1', if_neg (by decide), if_pos h1]
    by_cases h2 : okI x
    · have h2' : (0 : Int32) ≤ x ∧ x ≤ 255 := h2
      rw [if_pos h2', if_neg (by decide), if_pos h2]
      by_cases h3 : mem A (iN a) = true
      · have hh : okI a ∧ mem A (iN a) = true := ⟨h1, h3⟩
        rw [if_pos hh, if_neg (by decide), if_pos h3]
      · have hh : ¬ (okI a ∧ mem A (iN a) = true) := fun z => h3 z.2
        rw [if_neg hh, if_pos rfl, if_neg h3]
    · have h2' : ¬ ((0 : Int32) ≤ x ∧ x ≤ 255) := h2
      rw [if_neg h2', if_pos rfl, if_neg h2]
  · have h1' : ¬ ((0 : Int32) ≤ a ∧ a ≤ 255) := h1
    rw [if_neg h1', if_pos rfl, if_neg h1]
    split <;> rfl
/-- what is wrong with an entry, its puzzle aside; with its puzzle -/
abbrev spK (A : AS) (sp : Int32) : Prop := if cnt A = 0 then sp = -1 else okI sp ∧ mem A (iN sp) = true
abbrev arK (id o sp : Int32) : Prop := okI id ∧ (0 ≤ o ∧ o ≤ 7) ∧ (-1 ≤ sp ∧ sp ≤ 255)
def enF (A : AS) (id o sp : Int32) : Int32 := if arK id o sp then (if mem A (iN id) = true then 2 else if cnt A < 24 then (if spK A sp then 0 else 3) else 2) else 1
def adF (A : AS) (id o sp : Int32) : Int32 := if enF A id o sp = 0 then (if sol A id = -1 then 3 else 0) else enF A id o sp
theorem cnt_le (A : AS) : cnt A ≤ 24 := ct_le _ _
theorem pX5_entryFault {m : zMem} {A : AS} (id o sp : Int32) (hs : isS (m.2.2 0)) (h : RepC m (m.2.2 0) A) : fX5_entryFault id o sp m = some (enF A id o sp) := by
  have hc := cnt_le A
  simp only [fX5_entryFault, kgr, kgi, kjn]
  simp only [kis_s hs]
  rw [pX5_isOutside, kc1_s, pX5_isOutside, kc1_s, pX5_isOutside, kc1_s, isMC_any h, kc1_s, h.2.1, isMC_any h, kc1_s]
  unfold enF
  by_cases h1 : okI id
  · have h1' : (0 : Int32) ≤ id ∧ id ≤ 255 := h1
    rw [if_pos h1', if_pos (show (0 : Int32) = 0 from rfl)]
    by_cases h2 : (0 : Int32) ≤ o ∧ o ≤ 7
    · rw [if_pos h2, if_pos (show (0 : Int32) = 0 from rfl)]
      by_cases h3 : (-1 : Int32) ≤ sp ∧ sp ≤ 255
      · rw [if_pos h3, if_pos (show (0 : Int32) = 0 from rfl), if_pos (show arK id o sp from ⟨h1, h2, h3⟩)]
        by_cases h4 : mem A (iN id) = true
        · have hh : okI id ∧ mem A (iN id) = true := ⟨h1, h4⟩
          rw [if_pos hh, if_neg (show ¬ (1 : Int32) = 0 by decide), if_pos h4]
        · have hh : ¬ (okI id ∧ mem A (iN id) = true) := fun z => h4 z.2
          rw [if_neg hh, if_pos (show (0 : Int32) = 0 from rfl), if_neg h4]
          by_cases h5 : cnt A < 24
          · rw [nn24, if_pos (nI_lt h5 (by omega)), if_pos h5]
            unfold spK
            by_cases h6 : cnt A = 0
            · rw [h6, if_pos (show nI 0 = 0 from rfl)]
              simp only [if_true]
              by_cases h7 : sp = -1
              · rw [if_pos h7, if_pos h7, if_neg (show ¬ (1 : Int32) = 0 by decide)]
              · rw [if_neg h7, if_neg h7]
            · rw [if_neg (show ¬ nI (cnt A) = 0 from fun z => h6 (nI_inj (by omega) (by omega) (z.trans nn0)))]
              simp only [if_neg h6]
              by_cases h7 : okI sp ∧ mem A (iN sp) = true
              · rw [if_pos h7, if_neg (show ¬ (1 : Int32) = 0 by decide), if_pos h7]
              · rw [if_neg h7, if_pos (show (0 : Int32) = 0 from rfl), if_neg h7]
          · rw [nn24, if_neg (nI_nlt (by omega) (by omega)), if_neg h5]
      · rw [if_neg h3, if_neg (show ¬ (1 : Int32) = 0 by decide), if_neg (show ¬ arK id o sp from fun z => h3 z.2.2)]
    · rw [if_neg h2, if_neg (show ¬ (1 : Int32) = 0 by decide), if_neg (show ¬ arK id o sp from fun z => h2 z.2.1)]
  · have h1' : ¬ ((0 : Int32) ≤ id ∧ id ≤ 255) := h1
    rw [if_neg h1', if_neg (show ¬ (1 : Int32) = 0 by decide), if_neg (show ¬ arK id o sp from fun z => h1 z.1)]
theorem pX6_bad {N : Nat} {m : zMem} {A : AS} (hN : 24 < N) (h : RowM (m.1 1) A) (hw : WF A) (id o sp : Int32) : fX6_bad N id o sp m = some (enF A id o sp) := by
  have hc := cnt_le A
  simp only [fX6_bad, fX6_isSponsor, kjn]
  rw [id_iff, kc1_s, pX6_in, kc1_s, pX6_in, kc1_s, isM_any hN h hw, kc1_s, isM_any hN h hw, pX6_memberMany hN h hw.1, kc1_s]
  unfold enF
  by_cases h1 : okI id
  · have h1' : (0 : Int32) ≤ id ∧ id ≤ 255 := h1
    rw [if_pos h1', if_neg (show ¬ (1 : Int32) = 0 by decide)]
    by_cases h2 : (0 : Int32) ≤ o ∧ o ≤ 7
    · rw [if_pos h2, if_neg (show ¬ (1 : Int32) = 0 by decide)]
      by_cases h3 : (-1 : Int32) ≤ sp ∧ sp ≤ 255
      · rw [if_pos h3, if_neg (show ¬ (1 : Int32) = 0 by decide), if_neg (show ¬ (1 : Int32) = 0 by decide), if_pos (show arK id o sp from ⟨h1, h2, h3⟩)]
        by_cases h4 : mem A (iN id) = true
        · have hh : okI id ∧ mem A (iN id) = true := ⟨h1, h4⟩
          rw [if_pos hh, if_neg (show ¬ (1 : Int32) = 0 by decide), if_pos h4]
        · have hh : ¬ (okI id ∧ mem A (iN id) = true) := fun z => h4 z.2
          rw [if_neg hh, if_pos (show (0 : Int32) = 0 from rfl), if_neg h4]
          by_cases h5 : cnt A < 24
          · rw [nn24, if_neg (fun z => by have := nI_inj (by omega) (by omega) z; omega), if_pos h5, kc1_s]
            unfold spK
            by_cases h6 : cnt A = 0
            · rw [h6, if_pos (show nI 0 = 0 from rfl)]
              simp only [if_true]
              by_cases h7 : sp = -1
              · rw [if_pos h7, if_pos h7]; rfl
              · rw [if_neg h7, if_neg h7]; rfl
            · rw [if_neg (show ¬ nI (cnt A) = 0 from fun z => h6 (nI_inj (by omega) (by omega) (z.trans nn0)))]
              simp only [if_neg h6]
              by_cases h7 : okI sp ∧ mem A (iN sp) = true
              · rw [if_pos h7, if_pos h7]; rfl
              · rw [if_neg h7, if_neg h7]; rfl
          · have e24 : nI (cnt A) = 24 := by rw [show cnt A = 24 by omega]; rfl
            rw [if_pos e24, if_neg h5]
      · rw [if_neg h3, if_pos (show (0 : Int32) = 0 from rfl), if_pos trivial, if_neg (show ¬ arK id o sp from fun z => h3 z.2.2)]
    · rw [if_neg h2, if_pos (show (0 : Int32) = 0 from rfl), if_pos trivial, if_neg (show ¬ arK id o sp from fun z => h2 z.2.1)]
  · have h1' : ¬ ((0 : Int32) ≤ id ∧ id ≤ 255) := h1
    rw [if_neg h1', if_pos (show (0 : Int32) = 0 from rfl), if_pos trivial, if_neg (show ¬ arK id o sp from fun z => h1 z.1)]
theorem pX5_admissionFault {N : Nat} {m : zMem} {A : AS} (hN : 100000 < N) (id o sp : Int32) (hs : isS (m.2.2 0)) (h : RepC m (m.2.2 0) A) (ht : tOK A) : fX5_admissionFault N id o sp m = some (adF A id o sp) := by
  simp only [fX5_admissionFault, kgr]
  rw [pX5_entryFault id o sp hs h, kc1_s, kis_s hs, pX2_smallestNonce hN h ht, kc1_s]
  unfold adF
  by_cases q : enF A id o sp = 0
  · rw [if_pos q, if_pos q, q]
    by_cases q2 : sol A id = -1
    · rw [if_pos q2, if_pos q2]
    · rw [if_neg q2, if_neg q2]
  · rw [if_neg q, if_neg q]
theorem pX6_badAdmission {N : Nat} {m : zMem} {A : AS} (hN : 100000 < N) (h : RowM (m.1 1) A) (hw : WF A) (ht : tOK A) (id o sp : Int32) : fX6_badAdmission N id o sp m = some (adF A id o sp) := by
  simp only [fX6_badAdmission]
  rw [pX6_bad (by omega) h hw id o sp, kc1_s, pX6_solution hN h ht, kc1_s]
  unfold adF
  by_cases q : enF A id o sp = 0
  · rw [if_pos q, if_pos q, q]
    by_cases q2 : sol A id = -1
    · rw [if_pos q2, if_pos q2]
    · rw [if_neg q2, if_neg q2]
  · rw [if_neg q, if_neg q]
theorem adF_0 {A : AS} {id o sp : Int32} (h : adF A id o sp = 0) : enF A id o sp = 0 := by
  unfold adF at h
  by_cases q : enF A id o sp = 0
  · exact q
  · rw [if_neg q] at h; exact h
theorem enF_0 {A : AS} {id o sp : Int32} (h : enF A id o sp = 0) : okI id ∧ (0 ≤ o ∧ o ≤ 7) ∧ mem A (iN id) = false ∧ cnt A < 24 ∧ ∃ q : Option Nat, sp = (q.map nI).getD (-1) ∧ ∀ k, q = some k → k < 256 ∧ mem A k = true := by
  unfold enF at h
  by_cases h1 : arK id o sp
  · rw [if_pos h1] at h
    by_cases h2 : mem A (iN id) = true
    · rw [if_pos h2] at h; exact absurd h (by decide)
    · rw [if_neg h2] at h
      by_cases h3 : cnt A < 24
      · rw [if_pos h3] at h
        by_cases h4 : spK A sp
        · refine ⟨h1.1, h1.2.1, by simpa using h2, h3, ?_⟩
          unfold spK at h4
          by_cases h5 : cnt A = 0
          · rw [if_pos h5] at h4
            exact ⟨none, h4, fun k z => by cases z⟩
          · rw [if_neg h5] at h4
            obtain ⟨k1, k2⟩ := okI_n h4.1
            refine ⟨some (iN sp), k2, fun k z => ?_⟩
            cases z
            exact ⟨k1, h4.2⟩
        · rw [if_neg h4] at h; exact absurd h (by decide)
      · rw [if_neg h3] at h; exact absurd h (by decide)
  · rw [if_neg h1] at h; exact absurd h (by decide)
/-- the state after an admission, and what the call answers -/
def enA (A : AS) (id o sp : Int32) : AS := if sp = -1 then en0 A (iN id) o else en1 A (iN id) o (iN sp)
def enR (A : AS) (id o sp : Int32) : Int32 := nI (ens (enA A id o sp) (fr A))
theorem enA_q {A : AS} {id o sp : Int32} {q : Option Nat} (e : sp = (q.map nI).getD (-1)) (h : ∀ k, q = some k → k < 256 ∧ mem A k = true) : (q.map (en1 A (iN id) o)).getD (en0 A (iN id) o) = enA A id o sp := by
  unfold enA
  cases q with
  | none =>
    have e' : sp = -1 := e
    rw [if_pos e']; rfl
  | some k =>
    have e' : sp = nI k := e
    have hk := (h k rfl).1
    rw [e', if_neg (nI_ne_m1 (by omega)), iN_n (by omega)]; rfl
theorem eX2_enter {N : Nat} {m : zMem} {A : AS} {L : List AS} {id o sp : Int32} (hN : 40 < N) (h : PC m A L) (hw : WF A) (hf : enF A id o sp = 0) : ∃ m', fX2_enter N (m.2.2 0) id o sp m = some (enR A id o sp, m') ∧ PC m' (enA A id o sp) L ∧ frX m m' ∧ m'.2.2 = m.2.2 := by
  obtain ⟨h1, h2, h3, h4, q, hq, hq2⟩ := enF_0 hf
  obtain ⟨k1, k2⟩ := okI_n h1
  obtain ⟨m', e, R, f⟩ := pX2_enter (o := o) (q := q) hN (h.1.1 0 (by omega)) h.2.1 hw h4 k1 h3 hq2
  rw [enA_q hq hq2] at e R
  rw [← hq, ← k2] at e
  obtain ⟨p1, p2⟩ := PC_now h f R
  exact ⟨m', e, p1, p2, by rw [f.1]⟩
/-- the reference: the script's cells and the other fields are as they were -/
def frQ (m m' : zMem) : Prop := (∀ c, c = 4 ∨ c = 6 → m'.1 c = m.1 c) ∧ ∀ j, j ≠ 3 → j ≠ 8 → j ≠ 9 → j ≠ 10 → m'.1 0 j = m.1 0 j
theorem frQ.rf (m : zMem) : frQ m m := ⟨fun _ _ => rfl, fun _ _ _ _ _ => rfl⟩
theorem frQ.tr {m m1 m2 : zMem} (h : frQ m m1) (h2 : frQ m1 m2) : frQ m m2 := ⟨fun c a => (h2.1 c a).trans (h.1 c a), fun j a b c d => (h2.2 j a b c d).trans (h.2 j a b c d)⟩
theorem frL.Q {m m' : zMem} (h : frL m m') : frQ m m' := ⟨fun c a => h.2.1 c (by omega) (by omega) (by omega), fun j a b c d => h.2.2 j b c d⟩
theorem eX6_joins {N : Nat} {m : zMem} {A : AS} {L : List AS} {id o sp : Int32} (hN : 256 < N) (h : PM m A L) (hw : WF A) (hf : enF A id o sp = 0) : ∃ m', fX6_joins N id o sp m = some (enR A id o sp, m') ∧ PM m' (enA A id o sp) L ∧ frQ m m' := by
  obtain ⟨h1, h2, h3, h4, q, hq, hq2⟩ := enF_0 hf
  obtain ⟨k1, k2⟩ := okI_n h1
  obtain ⟨m', e, R, f⟩ := pX6_joins (o := o) (q := q) hN h.1 hw h4 k1 h3 hq2
  rw [enA_q hq hq2] at e R
  rw [← hq, ← k2] at e
  exact ⟨m', e, (PM_now h f R).1, f.Q⟩
theorem eX6_saves {N : Nat} {m : zMem} {A : AS} {L : List AS} (hN : 3632 < N) (h : PM m A L) : ∃ m', fX6_saves N m = some m' ∧ PM m' A (pushL A L) ∧ frQ m m' := by
  obtain ⟨m', e, p, -, -, f1, f2⟩ := pX6_saves hN h
  exact ⟨m', e, p, fun c a => f1 c (by omega) (by omega), fun j a _ _ _ => f2 j a⟩
