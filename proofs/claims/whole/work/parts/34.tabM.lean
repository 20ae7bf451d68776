/-! the reference's tables and members, over one row of 1816 cells -/
def BkR (f : Nat → Int32) (k b : Nat) (l : List (Nat × Int32)) : Prop := BK (f (19 + 75 * k + b)) (fun j => f (27 + 75 * k + 4 * b + j)) (fun j => f (59 + 75 * k + 4 * b + j)) l
def RowM (f : Nat → Int32) (A : AS) : Prop := (∀ i, i < 16 → f i = aS A i) ∧ ∀ k, k < 24 → f (16 + 75 * k) = nI (aW A k) ∧ f (17 + 75 * k) = aO A k ∧ f (18 + 75 * k) = aC A k ∧ ∀ b, b < 8 → BkR f k b (aB A k b)
/-- nothing but the bucket b of the slot k has changed -/
def frR (m m' : zMem) (k b : Nat) : Prop := m'.2 = m.2 ∧ ∀ c j, ¬ (c = 1 ∧ j = 19 + 75 * k + b) → ¬ (c = 1 ∧ 27 + 75 * k + 4 * b ≤ j ∧ j < 31 + 75 * k + 4 * b) → ¬ (c = 1 ∧ 59 + 75 * k + 4 * b ≤ j ∧ j < 63 + 75 * k + 4 * b) → m'.1 c j = m.1 c j
theorem frR.rf (m : zMem) (k b : Nat) : frR m m k b := ⟨rfl, fun _ _ _ _ _ => rfl⟩
theorem frR.tr {m m1 m2 : zMem} {k b : Nat} (h : frR m m1 k b) (h2 : frR m1 m2 k b) : frR m m2 k b := ⟨h2.1.trans h.1, fun c j a b d => (h2.2 c j a b d).trans (h.2 c j a b d)⟩
theorem frR.bk {m m' : zMem} {k b k2 b2 : Nat} {l : List (Nat × Int32)} (h : frR m m' k b) (hb : b < 8) (hb2 : b2 < 8) (hq : k2 ≠ k ∨ b2 ≠ b) (hr : BkR (m.1 1) k2 b2 l) : BkR (m'.1 1) k2 b2 l := by
  rcases (by omega : (k2 = k ∧ b2 ≠ b) ∨ k2 + 1 ≤ k ∨ k + 1 ≤ k2) with ⟨rfl, hne⟩ | hlt | hgt
  · exact BK_congr hr (h.2 _ _ (by omega) (by omega) (by omega)) (fun j hj => h.2 _ _ (by omega) (by omega) (by omega)) (fun j hj => h.2 _ _ (by omega) (by omega) (by omega))
  · have := Nat.mul_le_mul_left 75 hlt
    exact BK_congr hr (h.2 _ _ (by omega) (by omega) (by omega)) (fun j hj => h.2 _ _ (by omega) (by omega) (by omega)) (fun j hj => h.2 _ _ (by omega) (by omega) (by omega))
  · have := Nat.mul_le_mul_left 75 hgt
    exact BK_congr hr (h.2 _ _ (by omega) (by omega) (by omega)) (fun j hj => h.2 _ _ (by omega) (by omega) (by omega)) (fun j hj => h.2 _ _ (by omega) (by omega) (by omega))
theorem pX6_in (a b c : Int32) : fX6_in a b c = some (if b ≤ a ∧ a ≤ c then 1 else 0) := by
  unfold fX6_in
  by_cases h1 : a < b
  · rw [if_pos h1, if_neg (fun z => Int32.not_le.mpr h1 z.1)]
  · rw [if_neg h1]
    by_cases h2 : c < a
    · rw [if_pos h2, if_neg (fun z => Int32.not_le.mpr h2 z.2)]
    · rw [if_neg h2, if_pos ⟨Int32.not_lt.mp h1, Int32.not_lt.mp h2⟩]
theorem kbz_i {α : Type} (c : Prop) [Decidable c] (k : Option α) : kbz (if c then 1 else 0) k = k := by
  unfold kbz
  by_cases h : c
  · rw [if_pos h, if_pos (Or.inr rfl)]
  · rw [if_neg h, if_pos (Or.inl rfl)]
theorem pX6_isId (a : Int32) : fX6_isId a = some (if 0 ≤ a ∧ a ≤ 255 then 1 else 0) := by
  unfold fX6_isId
  rw [pX6_in, kc1_s, kbz_i]
theorem isId_n {i : Nat} (h : i < 256) : (0 : Int32) ≤ nI i ∧ nI i ≤ 255 := ⟨nI_pos' (by omega), by rw [nn255]; exact nI_le (by omega) (by omega)⟩
theorem pX6_of (k : Nat) : fX6_of (nI k) = some (nI (16 + 75 * k)) := by
  unfold fX6_of
  rw [nn75, nn16, pk_mul, nI_add]
theorem ite10 {c : Prop} [Decidable c] : ((if c then (1 : Int32) else 0) = 0) = ¬ c := by
  by_cases h : c
  · simp [h]
  · simp [h]
theorem pX6_placeOf {N id : Nat} {m : zMem} {A : AS} (hN : 24 < N) (h : RowM (m.1 1) A) (hw : ∀ k, k < 24 → aW A k ≤ 256) (hid : id < 256) : fX6_placeOf N (nI id) m = some (if slot A id < 24 then nI (16 + 75 * slot A id) else -1) := by
  have hle := slot_le A id
  simp only [fX6_placeOf, kjn]
  refine klp_at (fun i => nI i) (slot A id) rfl (fun i hi rec => ?_) (fun rec => ?_) (by omega)
  · unfold sX6_placeOf_2
    have hne : ¬ aW A i = id + 1 := of_decide_eq_false (fs_no (p := fun k => decide (aW A k = id + 1)) hi)
    have := hw i (by omega)
    rw [nn24, if_neg (nI_ge (by omega) (by omega)), pX6_of, kc1_s, kld_n (by omega) (by decide), (h.2 i (by omega)).1, nI_1, nI_1, if_neg (fun z => hne (nI_inj (by omega) (by omega) z))]
  · unfold sX6_placeOf_2
    by_cases hs : slot A id < 24
    · have := slot_at hs
      rw [nn24, if_neg (nI_ge (by omega) (by omega)), pX6_of, kc1_s, kld_n (by omega) (by decide), (h.2 _ hs).1, nI_1, this, if_pos rfl, kc1_s, if_pos hs]
    · rw [nn24, if_pos (nI_le (by omega) (by omega)), if_neg hs]
theorem pX6_isMember {N id : Nat} {m : zMem} {A : AS} (hN : 24 < N) (h : RowM (m.1 1) A) (hw : ∀ k, k < 24 → aW A k ≤ 256) (hid : id < 256) : fX6_isMember N (nI id) m = some (if mem A id = true then 1 else 0) := by
  unfold fX6_isMember
  rw [pX6_isId, if_pos (isId_n hid), kc1_s, if_neg (by decide), pX6_placeOf hN h hw hid, kc1_s]
  have hle := slot_le A id
  by_cases hs : slot A id < 24
  · rw [if_pos hs, if_neg (nI_ne_m1 (by omega)), if_pos ((mem_iff A id).mpr hs)]
  · rw [if_neg hs, if_pos rfl, if_neg (fun z => hs ((mem_iff A id).mp z))]
theorem pX6_memberMany {N : Nat} {m : zMem} {A : AS} (hN : 24 < N) (h : RowM (m.1 1) A) (hw : ∀ k, k < 24 → aW A k ≤ 256) : fX6_memberMany N m = some (nI (cnt A)) := by
  simp only [fX6_memberMany, kjn]
  refine klp_at (fun i => (nI (ct (fun k => decide (aW A k ≠ 0)) i), nI i)) 24 rfl (fun i hi rec => ?_) (fun rec => ?_) (by omega)
  · simp only [sX6_memberMany_4, klt]
    have := hw i hi
    rw [nn24, if_neg (nI_ge (by omega) (by omega)), pX6_of, kc1_s, kld_n (by omega) (by decide), (h.2 i hi).1, ct_s]
    by_cases e : aW A i = 0
    · rw [e, if_pos (by decide), nI_1]
      simp
    · rw [if_neg (nI_nle (by omega) (by omega)), nI_1, nI_1]
      simp [e]
  · simp only [sX6_memberMany_4]
    rw [nn24, if_pos (nI_le (by omega) (by omega))]
    rfl
theorem bit_all : ∀ a : Fin 256, ∀ n : Fin 8, ((nI a.val >>> ((7 - nI n.val) &&& 31)) &&& 1) = if a.val.testBit (7 - n.val) then 1 else 0 := by decide +kernel
theorem pX6_bucketOf {N a b : Nat} (hN : 8 < N) (ha : a < 256) (hb : b < 256) (hab : a ≠ b) : fX6_bucketOf N (nI a) (nI b) = some (nI (bN a b)) := by
  have hlt := bN_lt ha hb hab
  have key : ∀ n, n < 8 → ((((nI a >>> ((7 - nI n) &&& 31)) &&& 1) = ((nI b >>> ((7 - nI n) &&& 31)) &&& 1)) ↔ (a ^^^ b).testBit (7 - n) = false) := by
    intro n hn
    rw [bit_all ⟨a, ha⟩ ⟨n, hn⟩, bit_all ⟨b, hb⟩ ⟨n, hn⟩, Nat.testBit_xor]
    cases a.testBit (7 - n) <;> cases b.testBit (7 - n) <;> decide
  simp only [fX6_bucketOf, kjn]
  refine klp_at (fun i => nI i) (bN a b) rfl (fun i hi rec => ?_) (fun rec => ?_) (by omega)
  · unfold sX6_bucketOf_2
    rw [if_pos ((key i (by omega)).mpr (fs_no (p := fun n => (a ^^^ b).testBit (7 - n)) (n := 8) hi)), nI_1]
  · unfold sX6_bucketOf_2
    rw [if_neg (fun z => by
      have h1 := (key _ hlt).mp z
      have h2 : (a ^^^ b).testBit (7 - bN a b) = true := fs_at (p := fun n => (a ^^^ b).testBit (7 - n)) hlt
      rw [h1] at h2; cases h2)]
theorem pX6_placeIn {N k b id : Nat} {m : zMem} {l : List (Nat × Int32)} (hN : 5 < N) (hk : k < 24) (hb8 : b < 8) (hid : id < 256) (hb : BkR (m.1 1) k b l) : fX6_placeIn N (nI (16 + 75 * k)) (nI b) (nI id) m = some (if fx l id < l.length then nI (fx l id) else -1) := by
  have hl := hb.2.1
  have hle := fx_le l id
  have ez : m.1 1 (19 + 75 * k + b) = nI l.length := hb.1
  have e3 : (nI (16 + 75 * k) + 3) + nI b = nI (19 + 75 * k + b) := by rw [nn3, nI_add, nI_add]; congr 1; omega
  have e11 : ∀ i, ((nI (16 + 75 * k) + 11) + (4 * nI b)) + nI i = nI (27 + 75 * k + 4 * b + i) := fun i => by rw [nn11, nn4, pk_mul, nI_add, nI_add, nI_add]; congr 1; omega
  simp only [fX6_placeIn, kjn]
  refine klp_at (fun i => nI i) (fx l id) rfl (fun i hi rec => ?_) (fun rec => ?_) (by omega)
  · unfold sX6_placeIn_3
    obtain ⟨e, he, h1, h2, h3⟩ := BK_get hb (j := i) (by omega)
    rw [e3, kld_n (by omega) (by decide), ez, if_neg (nI_ge (by omega) (by omega)), e11, kld_n (by omega) (by decide)]
    rw [h1, if_neg (fun z => fx_no hi he (nI_inj (by omega) (by omega) z)), nI_1]
  · unfold sX6_placeIn_3
    rw [e3, kld_n (by omega) (by decide), ez]
    by_cases hf : fx l id < l.length
    · obtain ⟨o, ho⟩ := fx_at hf
      have h1 : m.1 1 (27 + 75 * k + 4 * b + fx l id) = nI id := (hb.2.2 _ _ ho).1
      rw [if_neg (nI_ge (by omega) (by omega)), e11, kld_n (by omega) (by decide)]
      rw [h1, if_pos rfl, if_pos hf]
    · rw [if_pos (nI_le (by omega) (by omega)), if_neg hf]
theorem pX6_inBucket {N k b : Nat} {o : Int32} {m : zMem} {l : List (Nat × Int32)} (hN : 5 < N) (hk : k < 24) (hb8 : b < 8) (hb : BkR (m.1 1) k b l) : fX6_inBucket N (nI (16 + 75 * k)) (nI b) o m = some (nI (co l o)) := by
  have hl := hb.2.1
  have ez : m.1 1 (19 + 75 * k + b) = nI l.length := hb.1
  have e3 : (nI (16 + 75 * k) + 3) + nI b = nI (19 + 75 * k + b) := by rw [nn3, nI_add, nI_add]; congr 1; omega
  have e43 : ∀ i, ((nI (16 + 75 * k) + 43) + (4 * nI b)) + nI i = nI (59 + 75 * k + 4 * b + i) := fun i => by rw [nn43, nn4, pk_mul, nI_add, nI_add, nI_add]; congr 1; omega
  simp only [fX6_inBucket, kjn]
  refine klp_at (fun j => (nI (ct (fun j => decide (l[j]?.map (fun e => e.2) = some o)) j), nI j)) l.length rfl (fun j hj rec => ?_) (fun rec => ?_) (by omega)
  · simp only [sX6_inBucket_6, klt]
    obtain ⟨e, he, h1, h2, h3⟩ := BK_get hb hj
    rw [e3, kld_n (by omega) (by decide), ez, if_neg (nI_ge (by omega) (by omega)), e43, kld_n (by omega) (by decide), h2, ct_s, he]
    by_cases ho : e.2 = o
    · rw [if_pos ho, nI_1, nI_1]
      simp [ho]
    · rw [if_neg ho, nI_1]
      simp [ho]
  · simp only [sX6_inBucket_6]
    rw [e3, kld_n (by omega) (by decide), ez, if_pos (nI_le (by omega) (by omega))]
    rfl
theorem pX6_inTable {N k : Nat} {o : Int32} {m : zMem} {A : AS} (hN : 9 < N) (hk : k < 24) (h : RowM (m.1 1) A) : fX6_inTable N (nI (16 + 75 * k)) o m = some (nI (tco A k o)) := by
  simp only [fX6_inTable, kjn]
  refine klp_at (fun i => (nI (sm (fun b => co (aB A k b) o) i), nI i)) 8 rfl (fun i hi rec => ?_) (fun rec => ?_) (by omega)
  · simp only [sX6_inTable_5, klt]
    rw [nn8, if_neg (nI_ge (by omega) (by omega)), pX6_inBucket (by omega) hk hi ((h.2 k hk).2.2.2 i hi), kc1_s, nI_add, nI_1]
    rfl
  · simp only [sX6_inTable_5]
    rw [nn8, if_pos (nI_le (by omega) (by omega))]
    rfl
theorem pX6_entries {N k : Nat} {m : zMem} {A : AS} (hN : 9 < N) (hk : k < 24) (h : RowM (m.1 1) A) : fX6_entries N (nI (16 + 75 * k)) m = some (nI (ens A k)) := by
  simp only [fX6_entries, kjn]
  refine klp_at (fun i => (nI (sm (fun b => (aB A k b).length) i), nI i)) 8 rfl (fun i hi rec => ?_) (fun rec => ?_) (by omega)
  · simp only [sX6_entries_4, klt]
    have ez : m.1 1 (19 + 75 * k + i) = nI (aB A k i).length := ((h.2 k hk).2.2.2 i hi).1
    have e3 : (nI (16 + 75 * k) + 3) + nI i = nI (19 + 75 * k + i) := by rw [nn3, nI_add, nI_add]; congr 1; omega
    rw [nn8, if_neg (nI_ge (by omega) (by omega)), e3, kld_n (by omega) (by decide), ez, nI_add, nI_1]
    rfl
  · simp only [sX6_entries_4]
    rw [nn8, if_pos (nI_le (by omega) (by omega))]
    rfl
/-- the cells behind i steps of drops's shift, from place q of the slot on -/
def shm (at_ q : Nat) (m : zMem) : Nat → zMem
  | 0 => m
  | i + 1 => zsI (zsI (shm at_ q m i) 1 (at_ + 11 + q + i) ((shm at_ q m i).1 1 (at_ + 11 + q + i + 1))) 1 (at_ + 43 + q + i) ((shm at_ q m i).1 1 (at_ + 43 + q + i + 1))
theorem shm_g (at_ q : Nat) (m : zMem) (i : Nat) (hi : q + i < 32) : (shm at_ q m i).2 = m.2 ∧ ∀ c j, (shm at_ q m i).1 c j = if c = 1 ∧ ((at_ + 11 + q ≤ j ∧ j < at_ + 11 + q + i) ∨ (at_ + 43 + q ≤ j ∧ j < at_ + 43 + q + i)) then m.1 c (j + 1) else m.1 c j := by
  induction i with
  | zero => exact ⟨rfl, fun c j => by rw [if_neg (by omega)]; rfl⟩
  | succ i ih =>
    have ih := ih (by omega)
    refine ⟨ih.1, fun c j => ?_⟩
    unfold shm
    rw [zsI_g, zsI_g]
    have e8 : (shm at_ q m i).1 1 (at_ + 11 + q + i + 1) = m.1 1 (at_ + 11 + q + i + 1) := by rw [ih.2, if_neg (by omega)]
    have e9 : (shm at_ q m i).1 1 (at_ + 43 + q + i + 1) = m.1 1 (at_ + 43 + q + i + 1) := by rw [ih.2, if_neg (by omega)]
    rw [e8, e9, ih.2]
    by_cases h9 : c = 1 ∧ j = at_ + 43 + q + i
    · rw [if_pos h9, if_pos (by omega), h9.1, h9.2]
    · rw [if_neg h9]
      by_cases h8 : c = 1 ∧ j = at_ + 11 + q + i
      · rw [if_pos h8, if_pos (by omega), h8.1, h8.2]
      · rw [if_neg h8]
        by_cases h : c = 1 ∧ ((at_ + 11 + q ≤ j ∧ j < at_ + 11 + q + i) ∨ (at_ + 43 + q ≤ j ∧ j < at_ + 43 + q + i))
        · rw [if_pos h, if_pos (by omega)]
        · rw [if_neg h, if_neg (by omega)]
theorem pX6_drops {N k b i : Nat} {m : zMem} {l : List (Nat × Int32)} (hN : 5 < N) (hk : k < 24) (hb8 : b < 8) (hi : i < l.length) (hb : BkR (m.1 1) k b l) : ∃ m', fX6_drops N (nI (16 + 75 * k)) (nI b) (nI i) m = some m' ∧ BkR (m'.1 1) k b (l.eraseIdx i) ∧ frR m m' k b := by
  have hl := hb.2.1
  have ez : m.1 1 (19 + 75 * k + b) = nI l.length := hb.1
  have e3 : (nI (16 + 75 * k) + 3) + nI b = nI (19 + 75 * k + b) := by rw [nn3, nI_add, nI_add]; congr 1; omega
  obtain ⟨m0, hm0⟩ : ∃ z, z = zsI m 1 (19 + 75 * k + b) (nI (l.length - 1)) := ⟨_, rfl⟩
  have G := shm_g (16 + 75 * k) (4 * b + i) m0 (l.length - 1 - i) (by omega)
  have g0 : ∀ c j, ¬ (c = 1 ∧ j = 19 + 75 * k + b) → m0.1 c j = m.1 c j := fun c j h => by rw [hm0]; exact zsI_n _ _ h
  refine ⟨shm (16 + 75 * k) (4 * b + i) m0 (l.length - 1 - i), ?_, ?_, ?_⟩
  · simp only [fX6_drops, kjn, klt]
    rw [e3, kld_n (by omega) (by decide), ez, nI_sub1 (by omega), kst_n (by omega) (by decide), ← hm0, nn4, pk_mul, nI_add]
    refine klp_at (fun j => (nI (4 * b + i + j), shm (16 + 75 * k) (4 * b + i) m0 j)) (l.length - 1 - i) rfl (fun j hj rec => ?_) (fun rec => ?_) (by omega)
    · have Gj := shm_g (16 + 75 * k) (4 * b + i) m0 j (by omega)
      have zj : (shm (16 + 75 * k) (4 * b + i) m0 j).1 1 (19 + 75 * k + b) = nI (l.length - 1) := by rw [Gj.2, if_neg (by omega), hm0, zsI_s]
      have a1 : (nI (16 + 75 * k) + 11) + nI (4 * b + i + j) = nI (16 + 75 * k + 11 + (4 * b + i) + j) := by rw [nn11, nI_add, nI_add]; congr 1; omega
      have a2 : (nI (16 + 75 * k) + 43) + nI (4 * b + i + j) = nI (16 + 75 * k + 43 + (4 * b + i) + j) := by rw [nn43, nI_add, nI_add]; congr 1; omega
      simp only [sX6_drops_21]
      rw [e3, kld_n (by omega) (by decide), zj, nn4, pk_mul, nI_add, if_neg (nI_ge (by omega) (by omega)), a1, a2, nI_1, nI_1, kld_n (by omega) (by decide), kst_n (by omega) (by decide), kld_n (by omega) (by decide), kst_n (by omega) (by decide), nI_1]
      rw [zsI_n (k := 16 + 75 * k + 43 + (4 * b + i) + j + 1) _ _ (by omega)]
      rfl
    · have zj : (shm (16 + 75 * k) (4 * b + i) m0 (l.length - 1 - i)).1 1 (19 + 75 * k + b) = nI (l.length - 1) := by rw [G.2, if_neg (by omega), hm0, zsI_s]
      simp only [sX6_drops_21]
      rw [e3, kld_n (by omega) (by decide), zj, nn4, pk_mul, nI_add, if_pos (nI_le (by omega) (by omega))]
  · have B := BK_erase (f' := fun j => (shm (16 + 75 * k) (4 * b + i) m0 (l.length - 1 - i)).1 1 (27 + 75 * k + 4 * b + j)) (g' := fun j => (shm (16 + 75 * k) (4 * b + i) m0 (l.length - 1 - i)).1 1 (59 + 75 * k + 4 * b + j)) hb hi
      (fun j hj => by rw [G.2, if_neg (by omega), g0 _ _ (by omega)]) (fun j hj => by rw [G.2, if_neg (by omega), g0 _ _ (by omega)])
      (fun j h1 h2 => by rw [G.2, if_pos (by omega), g0 _ _ (by omega)]; rfl) (fun j h1 h2 => by rw [G.2, if_pos (by omega), g0 _ _ (by omega)]; rfl)
    exact BK_congr B (by rw [G.2, if_neg (by omega), hm0, zsI_s]) (fun j _ => rfl) (fun j _ => rfl)
  · refine ⟨by rw [G.1, hm0]; rfl, fun c j h7 h8 h9 => ?_⟩
    rw [G.2, if_neg (by omega), g0 _ _ h7]
theorem pX6_adds {k b id : Nat} {o : Int32} {m : zMem} {l : List (Nat × Int32)} (hk : k < 24) (hb8 : b < 8) (hid : id < 256) (hl : l.length < 4) (hb : BkR (m.1 1) k b l) : ∃ m', fX6_adds (nI (16 + 75 * k)) (nI b) (nI id) o m = some m' ∧ BkR (m'.1 1) k b (l ++ [(id, o)]) ∧ frR m m' k b := by
  have ez : m.1 1 (19 + 75 * k + b) = nI l.length := hb.1
  have e3 : (nI (16 + 75 * k) + 3) + nI b = nI (19 + 75 * k + b) := by rw [nn3, nI_add, nI_add]; congr 1; omega
  have e11 : (nI (16 + 75 * k) + 11) + (4 * nI b + nI l.length) = nI (27 + 75 * k + 4 * b + l.length) := by rw [nn11, nn4, pk_mul, nI_add, nI_add, nI_add]; congr 1; omega
  have e43 : (nI (16 + 75 * k) + 43) + (4 * nI b + nI l.length) = nI (59 + 75 * k + 4 * b + l.length) := by rw [nn43, nn4, pk_mul, nI_add, nI_add, nI_add]; congr 1; omega
  refine ⟨zsI (zsI (zsI m 1 (27 + 75 * k + 4 * b + l.length) (nI id)) 1 (59 + 75 * k + 4 * b + l.length) o) 1 (19 + 75 * k + b) (nI (l.length + 1)), ?_, ?_, ?_⟩
  · simp only [fX6_adds, klt]
    rw [e3, kld_n (by omega) (by decide), ez, e11, e43, kst_n (by omega) (by decide), kst_n (by omega) (by decide), kld_n (by omega) (by decide)]
    rw [zsI_n _ _ (by omega), zsI_n _ _ (by omega), ez, nI_1, kst_n (by omega) (by decide)]
  · unfold BkR
    rw [zsI_s]
    refine BK_push hb hl hid (fun j hj => ?_) (fun j hj => ?_) ?_ ?_
    · rw [zsI_n _ _ (by omega), zsI_n _ _ (by omega), zsI_n _ _ (by omega)]
    · rw [zsI_n _ _ (by omega), zsI_n _ _ (by omega), zsI_n _ _ (by omega)]
    · rw [zsI_n _ _ (by omega), zsI_n _ _ (by omega), zsI_s]
    · rw [zsI_n _ _ (by omega), zsI_s]
  · refine ⟨rfl, fun c j h7 h8 h9 => ?_⟩
    rw [zsI_n _ _ h7, zsI_n _ _ (by omega), zsI_n _ _ (by omega)]
theorem RowM_bk {m m' : zMem} {k t : Nat} {A : AS} {l : List (Nat × Int32)} (h : RowM (m.1 1) A) (hk : k < 24) (ht : t < 8) (hb : BkR (m'.1 1) k t l) (fr : frR m m' k t) : RowM (m'.1 1) (sB A k t l) := by
  obtain ⟨h1, h2⟩ := h
  refine ⟨fun i hi => by rw [fr.2 _ _ (by omega) (by omega) (by omega)]; exact h1 i hi, fun k2 hk2 => ?_⟩
  obtain ⟨a1, a2, a3, a4⟩ := h2 k2 hk2
  have e : ∀ i, i < 3 → m'.1 1 (16 + 75 * k2 + i) = m.1 1 (16 + 75 * k2 + i) := by
    intro i hi
    rcases (by omega : k2 = k ∨ k2 + 1 ≤ k ∨ k + 1 ≤ k2) with rfl | hlt | hgt
    · exact fr.2 _ _ (by omega) (by omega) (by omega)
    · have := Nat.mul_le_mul_left 75 hlt
      exact fr.2 _ _ (by omega) (by omega) (by omega)
    · have := Nat.mul_le_mul_left 75 hgt
      exact fr.2 _ _ (by omega) (by omega) (by omega)
  refine ⟨by rw [show 16 + 75 * k2 = 16 + 75 * k2 + 0 from rfl, e 0 (by omega)]; exact a1, by rw [show 17 + 75 * k2 = 16 + 75 * k2 + 1 by omega, e 1 (by omega), show 16 + 75 * k2 + 1 = 17 + 75 * k2 by omega]; exact a2, by rw [show 18 + 75 * k2 = 16 + 75 * k2 + 2 by omega, e 2 (by omega), show 16 + 75 * k2 + 2 = 18 + 75 * k2 by omega]; exact a3, fun b hb2 => ?_⟩
  show BkR (m'.1 1) k2 b (up (aB A) k (up (aB A k) t l) k2 b)
  by_cases e1 : k2 = k
  · subst e1
    rw [up_s]
    by_cases e2 : b = t
    · subst e2; rw [up_s]; exact hb
    · rw [up_n _ _ e2]; exact fr.bk ht hb2 (Or.inr e2) (a4 b hb2)
  · rw [up_n _ _ e1]; exact fr.bk ht hb2 (Or.inl e1) (a4 b hb2)
theorem RowM_S {m : zMem} {j : Nat} {A : AS} {v : Int32} (h : RowM (m.1 1) A) (hj : j < 16) : RowM ((zsI m 1 j v).1 1) (sS A j v) := by
  obtain ⟨h1, h2⟩ := h
  refine ⟨fun i hi => ?_, fun k hk => ?_⟩
  · show _ = up (aS A) j v i
    by_cases e : i = j
    · subst e; rw [zsI_s, up_s]
    · rw [zsI_n _ _ (by omega), up_n _ _ e]; exact h1 i hi
  · obtain ⟨a1, a2, a3, a4⟩ := h2 k hk
    refine ⟨by rw [zsI_n _ _ (by omega)]; exact a1, by rw [zsI_n _ _ (by omega)]; exact a2, by rw [zsI_n _ _ (by omega)]; exact a3, fun b hb => ?_⟩
    exact BK_congr (a4 b hb) (zsI_n _ _ (by omega)) (fun j _ => zsI_n _ _ (by omega)) (fun j _ => zsI_n _ _ (by omega))
/-- nothing but the row 'now' has changed -/
def frN (m m' : zMem) : Prop := m'.2 = m.2 ∧ ∀ c, c ≠ 1 → m'.1 c = m.1 c
theorem frN.rf (m : zMem) : frN m m := ⟨rfl, fun _ _ => rfl⟩
theorem frN.tr {m m1 m2 : zMem} (h : frN m m1) (h2 : frN m1 m2) : frN m m2 := ⟨h2.1.trans h.1, fun c hc => (h2.2 c hc).trans (h.2 c hc)⟩
theorem frR.N {m m' : zMem} {k b : Nat} (h : frR m m' k b) : frN m m' := ⟨h.1, fun c hc => by funext j; exact h.2 c j (by omega) (by omega) (by omega)⟩
theorem frN_I (m : zMem) (j : Nat) (x : Int32) : frN m (zsI m 1 j x) := ⟨rfl, fun c hc => zsI_ne m j x hc⟩
theorem pX6_learns {N a b : Nat} {m : zMem} {A : AS} (hN : 24 < N) (h : RowM (m.1 1) A) (hw : ∀ k, k < 24 → aW A k ≤ 256) (ha : a < 256) (hb : b < 256) (hab : a ≠ b) (hma : mem A a = true) (hmb : mem A b = true) : ∃ m', fX6_learns N (nI a) (nI b) m = some m' ∧ RowM (m'.1 1) (learnS A a b) ∧ frN m m' := by
  have ka := (mem_iff A a).mp hma
  have kb := (mem_iff A b).mp hmb
  have ht := bN_lt ha hb hab
  have hO : m.1 1 (16 + 75 * slot A b + 1) = aO A (slot A b) := by rw [show 16 + 75 * slot A b + 1 = 17 + 75 * slot A b by omega]; exact (h.2 _ kb).2.1
  have hB := (h.2 _ ka).2.2.2 _ ht
  have hl := hB.2.1
  unfold fX6_learns
  rw [pX6_placeOf hN h hw ha, if_pos ka, kc1_s, pX6_bucketOf (by omega) ha hb hab, kc1_s, pX6_placeOf hN h hw hb, if_pos kb, kc1_s, nI_1, kld_n (by omega) (by decide), hO]
  unfold learnS
  generalize hk : slot A a = k at *
  generalize htt : bN a b = t at *
  generalize ho : aO A (slot A b) = o at *
  have ez : m.1 1 (19 + 75 * k + t) = nI (aB A k t).length := hB.1
  have e3 : (nI (16 + 75 * k) + 3) + nI t = nI (19 + 75 * k + t) := by rw [nn3, nI_add, nI_add]; congr 1; omega
  have e11 : (nI (16 + 75 * k) + 11) + 4 * nI t = nI (27 + 75 * k + 4 * t) := by rw [nn11, nn4, pk_mul, nI_add, nI_add]; congr 1; omega
  have e43 : (nI (16 + 75 * k) + 43) + 4 * nI t = nI (59 + 75 * k + 4 * t) := by rw [nn43, nn4, pk_mul, nI_add, nI_add]; congr 1; omega
  have k3 : ∀ (α : Type) (f : Int32 → Option α), kld m 1 1816 3 f = f (aS A 3) := fun α f => by rw [nn3, kld_n (by omega) (by decide), h.1 3 (by omega)]
  have k4 : ∀ (α : Type) (f : Int32 → Option α), kld m 1 1816 4 f = f (aS A 4) := fun α f => by rw [nn4, kld_n (by omega) (by decide), h.1 4 (by omega)]
  have k11 : ∀ (α : Type) (f : Int32 → Option α), kld m 1 1816 (nI (27 + 75 * k + 4 * t)) f = f (m.1 1 (27 + 75 * k + 4 * t)) := fun α f => kld_n (by omega) (by decide) f
  have iB := pX6_inBucket (N := N) (o := o) (by omega) ka ht hB
  have iT := pX6_inTable (N := N) (o := o) (by omega) ka h
  rw [pX6_placeIn (by omega) ka ht hb hB, kc1_s]
  by_cases hf : fx (aB A k t) b < (aB A k t).length
  · rw [if_pos hf, if_pos hf, if_neg (nI_ne_m1 (by omega))]
    obtain ⟨m1, e1, b1, f1⟩ := pX6_drops (N := N) (by omega) ka ht hf hB
    obtain ⟨m2, e2, b2, f2⟩ := pX6_adds (id := b) (o := o) ka ht hb (by rw [List.length_eraseIdx_of_lt hf]; omega) b1
    rw [e1, kc1_s, e2, kc1_s]
    exact ⟨m2, rfl, RowM_bk h ka ht b2 (f1.tr f2), (f1.tr f2).N⟩
  rw [if_neg hf, if_neg hf, if_pos rfl, e3, kld_n (by omega) (by decide), ez]
  have hfull : ((nI (aB A k t).length = 4) ↔ (aB A k t).length = 4) := by rw [nn4]; exact nI_eq (by omega) (by omega)
  by_cases c1 : aS A 3 ≤ nI (co (aB A k t) o)
  · have n1 : (nI (co (aB A k t) o) < aS A 3) = False := eq_false fun z => Int32.not_le.mpr z c1
    rw [if_pos c1]
    simp only [e11, k11, iB, kc1_s, k3, n1, reduceIte]
    have kk : ∀ w : Int32, (kjn (fun (w11 : Int32) => kjn (fun (m12 : zMem) => kjn (fun (m13 : zMem) => if w11 = (-1) then kc1 (fX6_adds (nI (16 + 75 * k)) (nI t) (nI b) o m13) fun m14 => some m14 else some m13) fun K241 => if w = 0 then K241 m12 else if w11 = 0 then K241 m12 else if w11 = 1 then K241 m12 else kld m12 1 1816 ((nI (16 + 75 * k) + 43) + (4 * nI t)) fun v15 => kc1 (fX6_drops N (nI (16 + 75 * k)) (nI t) 0 m12) fun m16 => if w11 = 2 then kc1 (fX6_adds (nI (16 + 75 * k)) (nI t) (m.1 1 (27 + 75 * k + 4 * t)) v15 m16) fun m17 => K241 m17 else K241 m16) fun K184 => if w11 = (-1) then K184 m else kld m 1 1816 (12 + w11) fun v18 => kst m 1 1816 (12 + w11) (v18 + 1) fun m19 => K184 m19) fun K162 => K162 0) = some (zsI m 1 12 (aS A 12 + 1)) := fun w => by
      simp only [kjn, b0m, reduceIte, ite_self]
      rw [show (12 : Int32) + 0 = nI 12 from rfl, kld_n (by omega) (by decide), kst_n (by omega) (by decide), h.1 12 (by omega)]
    by_cases h4 : nI (aB A k t).length = 4
    · simp only [if_pos h4]
      exact ⟨_, kk 1, RowM_S h (by omega), frN_I _ _ _⟩
    · simp only [if_neg h4]
      exact ⟨_, kk 0, RowM_S h (by omega), frN_I _ _ _⟩
  have n1 : (nI (co (aB A k t) o) < aS A 3) = True := eq_true (Int32.not_le.mp c1)
  rw [if_neg c1]
  by_cases c2 : aS A 4 ≤ nI (tco A k o)
  · have n2 : (nI (tco A k o) < aS A 4) = False := eq_false fun z => Int32.not_le.mpr z c2
    rw [if_pos c2]
    simp only [e11, k11, iB, iT, kc1_s, k3, k4, n1, n2, reduceIte]
    have kk : ∀ w : Int32, (kjn (fun (w11 : Int32) => kjn (fun (m12 : zMem) => kjn (fun (m13 : zMem) => if w11 = (-1) then kc1 (fX6_adds (nI (16 + 75 * k)) (nI t) (nI b) o m13) fun m14 => some m14 else some m13) fun K241 => if w = 0 then K241 m12 else if w11 = 0 then K241 m12 else if w11 = 1 then K241 m12 else kld m12 1 1816 ((nI (16 + 75 * k) + 43) + (4 * nI t)) fun v15 => kc1 (fX6_drops N (nI (16 + 75 * k)) (nI t) 0 m12) fun m16 => if w11 = 2 then kc1 (fX6_adds (nI (16 + 75 * k)) (nI t) (m.1 1 (27 + 75 * k + 4 * t)) v15 m16) fun m17 => K241 m17 else K241 m16) fun K184 => if w11 = (-1) then K184 m else kld m 1 1816 (12 + w11) fun v18 => kst m 1 1816 (12 + w11) (v18 + 1) fun m19 => K184 m19) fun K162 => K162 1) = some (zsI m 1 13 (aS A 13 + 1)) := fun w => by
      simp only [kjn, b1m, b10, reduceIte, ite_self]
      rw [show (12 : Int32) + 1 = nI 13 from rfl, kld_n (by omega) (by decide), kst_n (by omega) (by decide), h.1 13 (by omega)]
    by_cases h4 : nI (aB A k t).length = 4
    · simp only [if_pos h4]
      exact ⟨_, kk 1, RowM_S h (by omega), frN_I _ _ _⟩
    · simp only [if_neg h4]
      exact ⟨_, kk 0, RowM_S h (by omega), frN_I _ _ _⟩
  have n2 : (nI (tco A k o) < aS A 4) = True := eq_true (Int32.not_le.mp c2)
  rw [if_neg c2]
  by_cases h4 : (aB A k t).length = 4
  · obtain ⟨e, he, b1, b2, b3⟩ := BK_get hB (j := 0) (by omega)
    have b1' : m.1 1 (27 + 75 * k + 4 * t) = nI e.1 := b1
    have b2' : m.1 1 (59 + 75 * k + 4 * t) = e.2 := b2
    have hhd : hd (aB A k t) = e := by
      unfold hd
      cases hq : aB A k t with
      | nil => rw [hq] at h4; simp at h4
      | cons x xs => rw [hq] at he; simp at he; simp [he]
    simp only [hhd, if_pos (hfull.mpr h4)]
    by_cases hm : mem A e.1 = true
    · have iM := pX6_isMember hN h hw b3
      rw [if_pos hm] at iM
      rw [if_pos (show (aB A k t).length = 4 ∧ mem A e.1 = true from ⟨h4, hm⟩)]
      simp only [e11, e43, k11, b1', iB, iT, iM, kc1_s, k3, k4, n1, n2, reduceIte, kjn, b10, b2m, b20, b21]
      rw [show (12 : Int32) + 2 = nI 14 from rfl, kld_n (by omega) (by decide), kst_n (by omega) (by decide), h.1 14 (by omega), kld_n (by omega) (by decide), zsI_n _ _ (by omega), b2']
      have h1 := RowM_S (v := aS A 14 + 1) h (show 14 < 16 by omega)
      have hB1 : BkR ((zsI m 1 14 (aS A 14 + 1)).1 1) k t (aB A k t) := (h1.2 _ ka).2.2.2 _ ht
      obtain ⟨m1, e1, bb1, f1⟩ := pX6_drops (N := N) (i := 0) (by omega) ka ht (by omega) hB1
      rw [List.eraseIdx_zero] at bb1
      obtain ⟨m2, e2, bb2, f2⟩ := pX6_adds (id := e.1) (o := e.2) ka ht b3 (by rw [List.length_tail]; omega) bb1
      rw [nI_0] at e1
      rw [e1, kc1_s, e2, kc1_s]
      exact ⟨m2, rfl, RowM_bk h1 ka ht bb2 (f1.tr f2), (frN_I _ _ _).tr (f1.tr f2).N⟩
    · have iM := pX6_isMember hN h hw b3
      rw [if_neg hm] at iM
      rw [if_neg (show ¬ ((aB A k t).length = 4 ∧ mem A e.1 = true) from fun z => hm z.2), if_pos h4]
      simp only [e11, e43, k11, b1', iB, iT, iM, kc1_s, k3, k4, n1, n2, reduceIte, kjn, b10, bm0, bm1, bm2]
      rw [kld_n (by omega) (by decide)]
      obtain ⟨m1, e1, bb1, f1⟩ := pX6_drops (N := N) (i := 0) (by omega) ka ht (by omega) hB
      rw [List.eraseIdx_zero] at bb1
      obtain ⟨m2, e2, bb2, f2⟩ := pX6_adds (id := b) (o := o) ka ht hb (by rw [List.length_tail]; omega) bb1
      rw [nI_0] at e1
      rw [e1, kc1_s, e2, kc1_s]
      exact ⟨m2, rfl, RowM_bk h ka ht bb2 (f1.tr f2), (f1.tr f2).N⟩
  · simp only [if_neg (fun z => h4 (hfull.mp z))]
    rw [if_neg (show ¬ ((aB A k t).length = 4 ∧ mem A (hd (aB A k t)).1 = true) from fun z => h4 z.1), if_neg h4]
    simp only [e11, k11, iB, iT, kc1_s, k3, k4, n1, n2, reduceIte, kjn]
    obtain ⟨m2, e2, bb2, f2⟩ := pX6_adds (id := b) (o := o) ka ht hb (by omega) hB
    rw [e2, kc1_s]
    exact ⟨m2, rfl, RowM_bk h ka ht bb2 f2, f2.N⟩
