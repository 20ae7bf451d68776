/-! tables that hold an identity, the largest origin -/
def twP (A : AS) (id k : Nat) : Bool := decide (aW A k ≠ 0) && inT A k id
def tw (A : AS) (id : Nat) : Nat := ct (twP A id) 24
theorem twP_0 {A : AS} {id k : Nat} (h : aW A k = 0) : twP A id k = false := by unfold twP; simp [h]
theorem pX2_tablesWith {N s id : Nat} {m : zMem} {A : AS} (hN : 24 < N) (h : RepC m s A) (hw : WF A) (hid : id < 256) : fX2_tablesWith N s (nI id) m = some (nI (tw A id)) := by
  simp only [fX2_tablesWith, kjn]
  refine klp_at (fun i => (nI (ct (twP A id) i), nI i)) 24 rfl (fun i hi rec => ?_) (fun rec => ?_) (by omega)
  · have o3 := h.2.2.2.2.1 i hi
    have hle := hw.1 i hi
    simp only [sX2_tablesWith_4]
    rw [nn24, if_neg (nI_ge (by omega) (by omega)), kld_n hi (by decide), o3]
    by_cases q : aW A i = 0
    · rw [q, if_pos (by decide), ct_s, twP_0 q, nI_1]; rfl
    · have e : aW A i = (aW A i - 1) + 1 := by omega
      rw [nI_sub1 (by omega), if_neg (nI_ne_m1 (by omega)), ct_s]
      by_cases q2 : aW A i - 1 = id
      · have : twP A id i = false := by unfold twP inT; simp [q2]
        rw [q2, if_pos rfl, this, nI_1]; rfl
      · have ht := bN_lt (a := aW A i - 1) (b := id) (by omega) hid q2
        rw [if_neg (fun z => q2 (nI_inj (by omega) (by omega) z)), pX3_bucketFor (by omega) hid q2, kc1_s, pX3_bucketPlace, kc1_s]
        rw [pX3_indexOf (N := N) (by omega) (by omega) hid ((h.2.2.2.2.2 i hi q).2.2 _ ht), kc1_s]
        by_cases q3 : fx (aB A i (bN (aW A i - 1) id)) id < (aB A i (bN (aW A i - 1) id)).length
        · have hl := (hw.2.2 i _ hi ht).1
          have : twP A id i = true := by unfold twP inT; simp [q, q3, Ne.symm q2]
          rw [if_pos q3, if_neg (nI_ne_m1 (by omega)), this, nI_1, nI_1]; rfl
        · have : twP A id i = false := by unfold twP inT; simp [q3]
          rw [if_neg q3, if_pos rfl, this, nI_1]; rfl
  · simp only [sX2_tablesWith_4]
    rw [nn24, if_pos (nI_le (Nat.le_refl _) (by omega))]; rfl
theorem pX6_tablesWith {N id : Nat} {m : zMem} {A : AS} (hN : 24 < N) (h : RowM (m.1 1) A) (hw : WF A) (hid : id < 256) : fX6_tablesWith N (nI id) m = some (nI (tw A id)) := by
  simp only [fX6_tablesWith, kjn]
  refine klp_at (fun i => (nI (ct (twP A id) i), nI i)) 24 rfl (fun i hi rec => ?_) (fun rec => ?_) (by omega)
  · obtain ⟨a1, a2, a3, a4⟩ := h.2 i hi
    have hle := hw.1 i hi
    simp only [sX6_tablesWith_4, klt, Int32.add_zero]
    rw [nn24, if_neg (nI_ge (by omega) (by omega)), pX6_of, kc1_s, kld_n (by omega) (by decide), a1]
    by_cases q : aW A i = 0
    · rw [q, if_pos (by decide), ct_s, twP_0 q, nI_1]; rfl
    · rw [nI_sub1 (by omega), if_neg (nI_pos (by omega)), ct_s]
      by_cases q2 : aW A i - 1 = id
      · have : twP A id i = false := by unfold twP inT; simp [q2]
        rw [q2, if_pos rfl, this, nI_1]; rfl
      · have ht := bN_lt (a := aW A i - 1) (b := id) (by omega) hid q2
        rw [if_neg (fun z => q2 (nI_inj (by omega) (by omega) z)), kc1_s, pX6_bucketOf (by omega) (by omega) hid q2, kc1_s]
        rw [pX6_placeIn (N := N) (by omega) hi ht hid (a4 _ ht), kc1_s]
        by_cases q3 : fx (aB A i (bN (aW A i - 1) id)) id < (aB A i (bN (aW A i - 1) id)).length
        · have hl := (hw.2.2 i _ hi ht).1
          have : twP A id i = true := by unfold twP inT; simp [q, q3, Ne.symm q2]
          rw [if_pos q3, if_neg (nI_ne_m1 (by omega)), this, nI_1, nI_1]; rfl
        · have : twP A id i = false := by unfold twP inT; simp [q3]
          rw [if_neg q3, if_pos rfl, this, nI_1]; rfl
  · simp only [sX6_tablesWith_4]
    rw [nn24, if_pos (nI_le (Nat.le_refl _) (by omega))]; rfl
def ofO (A : AS) (o k : Nat) : Bool := decide (aW A k ≠ 0) && decide (aO A k = nI o)
def lgF (A : AS) : Nat → Nat
  | 0 => 0
  | o + 1 => if lgF A o < ct (ofO A o) 24 then ct (ofO A o) 24 else lgF A o
def lg (A : AS) : Nat := lgF A 8
theorem lgF_le (A : AS) (o : Nat) : lgF A o ≤ 24 := by
  induction o with
  | zero => exact Nat.zero_le _
  | succ o ih =>
    unfold lgF
    have := ct_le (ofO A o) 24
    split <;> omega
theorem pX2_largestOrigin {N s : Nat} {m : zMem} {A : AS} (hN : 24 < N) (h : RepC m s A) (hw : WF A) : fX2_largestOrigin N s m = some (nI (lg A)) := by
  simp only [fX2_largestOrigin, kjn]
  refine klp_at (fun o => (nI (lgF A o), nI o)) 8 rfl (fun o ho rec => ?_) (fun rec => ?_) (by omega)
  · simp only [sX2_largestOrigin_4, kjn]
    rw [nn7, if_neg (nI_nlt (by omega) (by omega))]
    refine klp_at (fun i => (nI (ct (ofO A o) i), nI i)) 24 rfl (fun i hi rec2 => ?_) (fun rec2 => ?_) (by omega)
    · have o3 := h.2.2.2.2.1 i hi
      have hle := hw.1 i hi
      simp only [sX2_largestOrigin_15]
      rw [nn24, if_neg (nI_ge (by omega) (by omega)), kld_n hi (by decide), o3, ct_s]
      by_cases q : aW A i = 0
      · have : ofO A o i = false := by unfold ofO; simp [q]
        rw [q, if_pos (by decide), this, nI_1]; rfl
      · rw [nI_sub1 (by omega), if_neg (nI_ne_m1 (by omega)), kld_n hi (by decide), (h.2.2.2.2.2 i hi q).1]
        by_cases q2 : aO A i = nI o
        · have : ofO A o i = true := by unfold ofO; simp [q, q2]
          rw [if_pos q2, this, nI_1, nI_1]; rfl
        · have : ofO A o i = false := by unfold ofO; simp [q2]
          rw [if_neg q2, this, nI_1]; rfl
    · have h1 := ct_le (ofO A o) 24
      have h2 := lgF_le A o
      simp only [sX2_largestOrigin_15, kmax]
      rw [nn24, if_pos (nI_le (Nat.le_refl _) (by omega)), nI_1]
      show rec (if nI (lgF A o) < nI (ct (ofO A o) 24) then _ else _, _) = rec (nI (if lgF A o < ct (ofO A o) 24 then ct (ofO A o) 24 else lgF A o), _)
      by_cases q : lgF A o < ct (ofO A o) 24
      · rw [if_pos q, if_pos (nI_lt q (by omega))]
      · rw [if_neg q, if_neg (nI_nlt (by omega) (by omega))]
  · simp only [sX2_largestOrigin_4]
    rw [nn7, if_pos (nI_lt (by omega) (by omega))]; rfl
theorem pX6_largest {N : Nat} {m : zMem} {A : AS} (hN : 24 < N) (h : RowM (m.1 1) A) (hw : WF A) : fX6_largest N m = some (nI (lg A)) := by
  simp only [fX6_largest, kjn]
  refine klp_at (fun o => (nI (lgF A o), nI o)) 8 rfl (fun o ho rec => ?_) (fun rec => ?_) (by omega)
  · simp only [sX6_largest_4, kjn]
    rw [nn8, if_neg (nI_ge (by omega) (by omega))]
    refine klp_at (fun i => (nI (ct (ofO A o) i), nI i)) 24 rfl (fun i hi rec2 => ?_) (fun rec2 => ?_) (by omega)
    · obtain ⟨a1, a2, a3, a4⟩ := h.2 i hi
      have hle := hw.1 i hi
      simp only [sX6_largest_15, klt, Int32.add_zero]
      rw [nn24, if_neg (nI_ge (by omega) (by omega)), pX6_of, kc1_s, kld_n (by omega) (by decide), a1, ct_s]
      by_cases q : aW A i = 0
      · have : ofO A o i = false := by unfold ofO; simp [q]
        rw [q, if_pos (by decide), this, nI_1]; rfl
      · rw [nn0, if_neg (nI_ge (by omega) (by omega)), kc1_s, nn1, nI_add, kld_n (by omega) (by decide), show 16 + 75 * i + 1 = 17 + 75 * i by omega, a2]
        by_cases q2 : aO A i = nI o
        · have : ofO A o i = true := by unfold ofO; simp [q, q2]
          rw [if_pos q2, this, nI_add, nI_add]; rfl
        · have : ofO A o i = false := by unfold ofO; simp [q2]
          rw [if_neg q2, this, nI_add]; rfl
    · have h1 := ct_le (ofO A o) 24
      have h2 := lgF_le A o
      simp only [sX6_largest_15]
      rw [nn24, if_pos (nI_le (Nat.le_refl _) (by omega)), nI_1]
      show _ = rec (nI (if lgF A o < ct (ofO A o) 24 then ct (ofO A o) 24 else lgF A o), _)
      by_cases q : lgF A o < ct (ofO A o) 24
      · rw [if_pos q, if_neg (nI_ge q (by omega))]
      · rw [if_neg q, if_pos (nI_le (by omega) (by omega))]
  · simp only [sX6_largest_4]
    rw [nn8, if_pos (nI_le (Nat.le_refl _) (by omega))]; rfl
