/-! the calls that only tell -/
theorem e5_solve {N n : Nat} {m : zMem} {A : AS} {L : List AS} {id : Int32} (hN : 100000 < N) (h : PC m A L) (g : GD A n) (hn : n < 2 ^ 31) (hf : okI id) : fX5_solve N id m = some (sol A id) := by
  have hs := h.1.1 0 (by omega)
  simp only [fX5_solve, kgr]
  rw [pX5_refuse hf, kc1_s, kis_s hs, pX2_smallestNonce hN h.2.1 (g.ok hn), kc1_s]
theorem e6_solve {N n : Nat} {m : zMem} {A : AS} {L : List AS} {id : Int32} (hN : 100000 < N) (h : PM m A L) (g : GD A n) (hn : n < 2 ^ 31) (hf : okI id) : fX6_solve N id m = some (sol A id, zsI m 0 4 0) := by
  have hf' : (0 : Int32) ≤ id ∧ id ≤ 255 := hf
  simp only [fX6_solve, kjn]
  rw [id_iff, if_pos hf', kc1_s, if_neg (by decide), pX6_refused0, kc2_s, if_pos rfl, pX6_solution hN (PM_4 h 0).1.1 (g.ok hn), kc1_s]
abbrev okZ (a b c : Int32) : Prop := okI a ∧ (0 ≤ b ∧ b ≤ 99999) ∧ 0 ≤ c
theorem e5_zeros {a b c : Int32} (hf : okZ a b c) : fX5_zeros a b c = some (nI (zr a b c)) := by
  simp only [fX5_zeros]
  rw [pX5_refuse hf.1, kc1_s, pX5_refuse hf.2.1, kc1_s]
  unfold fX5_refuseNegative
  rw [if_pos hf.2.2, kc1_s, pX0_leadingZeros, kc1_s]
theorem e6_zeros {N : Nat} {m : zMem} {a b c : Int32} (hN : 32 < N) (hf : okZ a b c) : fX6_zeros N a b c m = some (nI (zr a b c), zsI m 0 4 0) := by
  have hf' : (0 : Int32) ≤ a ∧ a ≤ 255 := hf.1
  simp only [fX6_zeros, kjn]
  rw [id_iff, if_pos hf', kc1_s, if_neg (by decide), nonce_iff, if_pos hf.2.1, kc1_s, if_neg (by decide), if_neg (Int32.not_lt.mpr hf.2.2), pX6_refused0, kc2_s, if_pos rfl, pX6_zerosOf hN, kc1_s]
abbrev ok8 (a : Int32) : Prop := 0 ≤ a ∧ a ≤ 8
theorem ok8_n {a : Int32} (h : ok8 a) : iN a ≤ 8 ∧ a = nI (iN a) := inN (n := 8) h.1 h.2 (by omega)
theorem e5_count {m : zMem} {A : AS} {L : List AS} {a : Int32} (h : PC m A L) (hf : ok8 a) : fX5_count a m = some (aS A (7 + iN a)) := by
  have hs := h.1.1 0 (by omega)
  obtain ⟨k1, k2⟩ := ok8_n hf
  simp only [fX5_count, kgr]
  rw [pX5_refuse hf, kc1_s, kis_s hs]
  have : ∀ (i : Nat), i ≤ 8 → kld m (m.2.2 0 + 1) 9 (nI i) (fun v3 => some v3) = some (aS A (7 + i)) := fun i hi => by
    rw [kld_n (by omega) (by decide), h.2.1.2.2.1 i (by omega)]
  rw [k2, iN_n (by omega)]
  exact this _ k1
theorem e6_count {m : zMem} {A : AS} {L : List AS} {a : Int32} (h : PM m A L) (hf : ok8 a) : fX6_count a m = some (aS A (7 + iN a), zsI m 0 4 0) := by
  obtain ⟨k1, k2⟩ := ok8_n hf
  simp only [fX6_count, kjn]
  rw [pX6_in, if_pos hf, kc1_s, if_neg (by decide), pX6_refused0, kc2_s, if_pos rfl]
  have : ∀ (i : Nat), i ≤ 8 → kld (zsI m 0 4 0) 1 1816 (7 + nI i) (fun v5 => some (v5, zsI m 0 4 0)) = some (aS A (7 + i), zsI m 0 4 0) := fun i hi => by
    rw [nn7, nI_add, kld_n (by omega) (by decide), (PM_4 h 0).1.1.1 _ (by omega)]
  rw [k2, iN_n (by omega)]
  exact this _ k1
theorem e5_overlay {N n : Nat} {m : zMem} {A : AS} {L : List AS} {a : Int32} (hN : 24 < N) (h : PC m A L) (g : GD A n) (hn : n < 2 ^ 31) (hf : ok8 a) : fX5_overlay N a m = some (ovA A (iN a)) := by
  have hs := h.1.1 0 (by omega)
  obtain ⟨k1, k2⟩ := ok8_n hf
  simp only [fX5_overlay]
  rw [pX5_refuse hf, kc1_s, show fX5_overlayValue N a m = fX5_overlayValue N (nI (iN a)) m by rw [← k2], pX5_overlayValue hN hs h.2.1 g.1 (g.ok hn) (by omega), kc1_s]
theorem e6_overlay {N n : Nat} {m : zMem} {A : AS} {L : List AS} {a : Int32} (hN : 24 < N) (h : PM m A L) (g : GD A n) (hn : n < 2 ^ 31) (hf : ok8 a) : fX6_overlay N a m = some (ovA A (iN a), zsI m 0 4 0) := by
  obtain ⟨k1, k2⟩ := ok8_n hf
  simp only [fX6_overlay, kjn]
  rw [pX6_in, if_pos hf, kc1_s, if_neg (by decide), pX6_refused0, kc2_s, if_pos rfl, show fX6_tellOverlay N a (zsI m 0 4 0) = fX6_tellOverlay N (nI (iN a)) (zsI m 0 4 0) by rw [← k2], pX6_tellOverlay hN (PM_4 h 0).1.1 g.1 (g.ok hn) (by omega), kc1_s]
abbrev okM (a q : Int32) : Prop := okI a ∧ (0 ≤ q ∧ q ≤ 4)
theorem e5_member {N : Nat} {m : zMem} {A : AS} {L : List AS} {a q : Int32} (hN : 24 < N) (h : PC m A L) (hw : WF A) (hf : okM a q) : fX5_member N a q m = some (mvA A (iN a) (iN q)) := by
  have hs := h.1.1 0 (by omega)
  obtain ⟨k1, k2⟩ := okI_n hf.1
  obtain ⟨k3, k4⟩ := inN (n := 4) hf.2.1 hf.2.2 (by omega)
  simp only [fX5_member]
  rw [pX5_refuse hf.1, kc1_s, pX5_refuse hf.2, kc1_s, show fX5_memberValue N a q m = fX5_memberValue N (nI (iN a)) (nI (iN q)) m by rw [← k2, ← k4], pX5_memberValue hN hs h.2.1 hw k1 (by omega), kc1_s]
theorem e6_member {N : Nat} {m : zMem} {A : AS} {L : List AS} {a q : Int32} (hN : 24 < N) (h : PM m A L) (hw : WF A) (hf : okM a q) : fX6_member N a q m = some (mvA A (iN a) (iN q), zsI m 0 4 0) := by
  obtain ⟨k1, k2⟩ := okI_n hf.1
  obtain ⟨k3, k4⟩ := inN (n := 4) hf.2.1 hf.2.2 (by omega)
  have hf' : (0 : Int32) ≤ a ∧ a ≤ 255 := hf.1
  simp only [fX6_member, kjn]
  rw [id_iff, if_pos hf', kc1_s, if_neg (by decide), pX6_in, if_pos hf.2, kc1_s, if_neg (by decide), pX6_refused0, kc2_s, if_pos rfl, show fX6_tellMember N a q (zsI m 0 4 0) = fX6_tellMember N (nI (iN a)) (nI (iN q)) (zsI m 0 4 0) by rw [← k2, ← k4], pX6_tellMember hN (PM_4 h 0).1.1 hw k1 (by omega), kc1_s]
/-- the member at a place in the order of identities -/
def atP (A : AS) (a : Int32) (id : Nat) : Bool := mem A id && decide (nI (ct (mem A) id) = a)
def atN (A : AS) (a : Int32) : Nat := fs (atP A a) 256
def atA (A : AS) (a : Int32) : Int32 := if atN A a < 256 then nI (atN A a) else -1
theorem at_le (A : AS) (a : Int32) : atN A a ≤ 256 := fs_le _ _
theorem e5_memberAt {N : Nat} {m : zMem} {A : AS} {L : List AS} {a : Int32} (hN : 256 < N) (h : PC m A L) (hf : 0 ≤ a) : fX5_memberAt N a m = some (atA A a) := by
  have hs := h.1.1 0 (by omega)
  have hle := at_le A a
  simp only [fX5_memberAt, fX5_refuseNegative, kjn]
  rw [if_pos hf, kc1_s]
  refine klp_at (fun id => (nI (ct (mem A) id), nI id)) (atN A a) rfl (fun id hid rec => ?_) (fun rec => ?_) (by omega)
  · have hno := fs_no (p := atP A a) (n := 256) hid
    simp only [sX5_memberAt_8, kgr]
    rw [nn255, if_neg (nI_nlt (by omega) (by omega)), kis_s hs, pX2_isMember h.2.1 (by omega), kc1_s, ct_s]
    by_cases hm : mem A id = true
    · have h2 : ¬ nI (ct (mem A) id) = a := fun z => by
        unfold atP at hno
        rw [hm, decide_eq_true z] at hno; cases hno
      rw [if_pos hm, if_neg (by decide), if_neg h2, if_pos hm, nI_1, nI_1]
    · rw [if_neg hm, if_pos rfl, if_neg hm, nI_1]; rfl
  · simp only [sX5_memberAt_8, kgr]
    unfold atA
    by_cases q : atN A a = 256
    · rw [q, nn255, if_pos (nI_lt (by omega) (by omega)), if_neg (by omega)]
    · have hat := fs_at (p := atP A a) (n := 256) (show atN A a < 256 by omega)
      have h1 : mem A (atN A a) = true ∧ nI (ct (mem A) (atN A a)) = a := by
        have h9 : (mem A (atN A a) && decide (nI (ct (mem A) (atN A a)) = a)) = true := hat
        simpa using h9
      rw [nn255, if_neg (nI_nlt (by omega) (by omega)), kis_s hs, pX2_isMember h.2.1 (by omega), kc1_s, if_pos h1.1, if_neg (by decide), if_pos h1.2, if_pos (by omega)]
theorem e6_memberAt {N : Nat} {m : zMem} {A : AS} {L : List AS} {a : Int32} (hN : 256 < N) (h : PM m A L) (hw : WF A) (hf : 0 ≤ a) : fX6_memberAt N a m = some (atA A a, zsI m 0 4 0) := by
  have hle := at_le A a
  have h4 := (PM_4 h 0).1
  simp only [fX6_memberAt, kjn]
  rw [if_pos hf, pX6_refused0, kc2_s, if_pos rfl]
  refine klp_at (fun id => (a - nI (ct (mem A) id), nI id)) (atN A a) ?_ (fun id hid rec => ?_) (fun rec => ?_) (by omega)
  · show _ = (a - nI 0, nI 0)
    rw [show nI 0 = 0 from rfl, Int32.sub_zero]
  · have hno := fs_no (p := atP A a) (n := 256) hid
    simp only [sX6_memberAt_22]
    rw [nn256, if_neg (nI_ge (by omega) (by omega)), pX6_isMember (by omega) h4.1 hw.1 (by omega), kc1_s, ct_s]
    by_cases hm : mem A id = true
    · have h2 : ¬ a - nI (ct (mem A) id) = 0 := fun z => by
        unfold atP at hno
        have : nI (ct (mem A) id) = a := (Int32.sub_eq_iff_eq_add.mp z |>.trans (Int32.zero_add _)).symm
        rw [hm, decide_eq_true this] at hno; cases hno
      rw [if_pos hm, if_neg (by decide), if_neg h2, if_pos hm, nI_1]
      have hy := (nI_1 (ct (mem A) id)).symm
      have : a - nI (ct (mem A) id) + (-1) = a - nI (ct (mem A) id + 1) := by
        generalize nI (ct (mem A) id) = y at *
        rw [show nI (ct (mem A) id + 1) = y + 1 from hy, Int32.sub_eq_add_neg a (y + 1), Int32.neg_add, Int32.sub_eq_add_neg a y, Int32.sub_eq_add_neg (-y) 1, Int32.add_assoc]
      rw [this]
    · rw [if_neg hm, if_pos rfl, if_neg hm, nI_1]; rfl
  · simp only [sX6_memberAt_22]
    unfold atA
    by_cases q : atN A a = 256
    · rw [q, nn256, if_pos (nI_le (by omega) (by omega)), if_neg (by omega)]
    · have hat := fs_at (p := atP A a) (n := 256) (show atN A a < 256 by omega)
      have h1 : mem A (atN A a) = true ∧ nI (ct (mem A) (atN A a)) = a := by
        have h9 : (mem A (atN A a) && decide (nI (ct (mem A) (atN A a)) = a)) = true := hat
        simpa using h9
      rw [nn256, if_neg (nI_ge (by omega) (by omega)), pX6_isMember (by omega) h4.1 hw.1 (by omega), kc1_s, if_pos h1.1, if_neg (by decide), h1.2, if_pos (Int32.sub_self _), if_pos (by omega)]
