/-! the class's tables: each method of Tables over a bucket's list -/
def BkC (m : zMem) (s p : Nat) (l : List (Nat × Int32)) : Prop := BK (m.1 (s + 7) p) (fun j => m.1 (s + 8) (4 * p + j)) (fun j => m.1 (s + 9) (4 * p + j)) l
/-- nothing but the bucket p of the tables of s has changed -/
def frB (m m' : zMem) (s p : Nat) : Prop := m'.2 = m.2 ∧ ∀ c j, ¬ (c = s + 7 ∧ j = p) → ¬ (c = s + 8 ∧ 4 * p ≤ j ∧ j < 4 * p + 4) → ¬ (c = s + 9 ∧ 4 * p ≤ j ∧ j < 4 * p + 4) → m'.1 c j = m.1 c j
theorem frB.rf (m : zMem) (s p : Nat) : frB m m s p := ⟨rfl, fun _ _ _ _ _ => rfl⟩
theorem frB.tr {m m1 m2 : zMem} {s p : Nat} (h : frB m m1 s p) (h2 : frB m1 m2 s p) : frB m m2 s p := ⟨h2.1.trans h.1, fun c j a b d => (h2.2 c j a b d).trans (h.2 c j a b d)⟩
theorem frB.bk {m m' : zMem} {s p q : Nat} {l : List (Nat × Int32)} (h : frB m m' s p) (hq : q ≠ p) (hb : BkC m s q l) : BkC m' s q l :=
  BK_congr hb (h.2 _ _ (by omega) (by omega) (by omega)) (fun j hj => h.2 _ _ (by omega) (by omega) (by omega)) (fun j hj => h.2 _ _ (by omega) (by omega) (by omega))
theorem pX3_bucketPlace (k b : Nat) : fX3_bucketPlace (nI k) (nI b) = some (nI (8 * k + b)) := by
  unfold fX3_bucketPlace
  rw [nn8, pk_mul, nI_add, Nat.mul_comm]
theorem pX3_indexOf {N s p id : Nat} {m : zMem} {l : List (Nat × Int32)} (hN : 5 < N) (hp : p < 192) (hid : id < 256) (hb : BkC m s p l) : fX3_indexOf N s (nI p) (nI id) m = some (if fx l id < l.length then nI (fx l id) else -1) := by
  have hl := hb.2.1
  have hle := fx_le l id
  unfold fX3_indexOf klt kjn
  refine klp_at (fun i => nI i) (fx l id) rfl (fun i hi rec => ?_) (fun rec => ?_) (by omega)
  · unfold sX3_indexOf_7
    obtain ⟨e, he, h1, h2, h3⟩ := BK_get hb (j := i) (by omega)
    rw [kld_n hp (by decide), hb.1, if_neg (nI_ge (by omega) (by omega)), nn4, pk_mul, nI_add, kld_n (by omega) (by decide)]
    rw [show p * 4 + i = 4 * p + i by omega, h1, if_neg (fun z => fx_no hi he (nI_inj (by omega) (by omega) z)), nI_1]
  · unfold sX3_indexOf_7
    rw [kld_n hp (by decide), hb.1]
    by_cases hf : fx l id < l.length
    · obtain ⟨o, ho⟩ := fx_at hf
      have h1 : m.1 (s + 8) (4 * p + fx l id) = nI id := (hb.2.2 _ _ ho).1
      rw [if_neg (nI_ge (by omega) (by omega)), nn4, pk_mul, nI_add, kld_n (by omega) (by decide)]
      rw [show p * 4 + fx l id = 4 * p + fx l id by omega, h1, if_pos rfl, if_pos hf]
    · rw [if_pos (nI_le (by omega) (by omega)), if_neg hf]
/-- the cells behind i steps of removeAt's shift, from q on -/
def shf (s q : Nat) (m : zMem) : Nat → zMem
  | 0 => m
  | i + 1 => zsI (zsI (shf s q m i) (s + 8) (q + i) ((shf s q m i).1 (s + 8) (q + i + 1))) (s + 9) (q + i) ((shf s q m i).1 (s + 9) (q + i + 1))
theorem shf_g (s q : Nat) (m : zMem) (i : Nat) : (shf s q m i).2 = m.2 ∧ ∀ c j, (shf s q m i).1 c j = if (c = s + 8 ∨ c = s + 9) ∧ q ≤ j ∧ j < q + i then m.1 c (j + 1) else m.1 c j := by
  induction i with
  | zero => exact ⟨rfl, fun c j => by rw [if_neg (by omega)]; rfl⟩
  | succ i ih =>
    refine ⟨ih.1, fun c j => ?_⟩
    unfold shf
    rw [zsI_g, zsI_g]
    have e8 : (shf s q m i).1 (s + 8) (q + i + 1) = m.1 (s + 8) (q + i + 1) := by rw [ih.2, if_neg (by omega)]
    have e9 : (shf s q m i).1 (s + 9) (q + i + 1) = m.1 (s + 9) (q + i + 1) := by rw [ih.2, if_neg (by omega)]
    rw [e8, e9, ih.2]
    by_cases h9 : c = s + 9 ∧ j = q + i
    · rw [if_pos h9, if_pos (by omega), h9.1, h9.2]
    · rw [if_neg h9]
      by_cases h8 : c = s + 8 ∧ j = q + i
      · rw [if_pos h8, if_pos (by omega), h8.1, h8.2]
      · rw [if_neg h8]
        by_cases h : (c = s + 8 ∨ c = s + 9) ∧ q ≤ j ∧ j < q + i
        · rw [if_pos h, if_pos (by omega)]
        · rw [if_neg h, if_neg (by omega)]
theorem pX3_removeAt {N s p i : Nat} {m : zMem} {l : List (Nat × Int32)} (hN : 5 < N) (hp : p < 192) (hi : i < l.length) (hb : BkC m s p l) : ∃ m', fX3_removeAt N s (nI p) (nI i) m = some m' ∧ BkC m' s p (l.eraseIdx i) ∧ frB m m' s p := by
  have hl := hb.2.1
  have G := shf_g s (4 * p + i) m (l.length - 1 - i)
  have hz : (shf s (4 * p + i) m (l.length - 1 - i)).1 (s + 7) p = nI l.length := by rw [G.2, if_neg (by omega)]; exact hb.1
  refine ⟨zsI (shf s (4 * p + i) m (l.length - 1 - i)) (s + 7) p (nI (l.length - 1)), ?_, ?_, ?_⟩
  · unfold fX3_removeAt
    rw [if_neg (nI_pos (by omega)), kld_n hp (by decide), hb.1, if_pos (nI_lt hi (by omega)), kld_n hp (by decide), hb.1]
    unfold klt kjn
    rw [nn4, pk_mul, nI_add, nI_add, nI_sub1 (by omega)]
    refine klp_at (fun j => (nI (4 * p + i + j), shf s (4 * p + i) m j)) (l.length - 1 - i) (by rw [show p * 4 + i = 4 * p + i + 0 by omega]; rfl) (fun j hj rec => ?_) (fun rec => ?_) (by omega)
    · unfold sX3_removeAt_35
      dsimp only
      rw [if_neg (nI_ge (by omega) (by omega)), nI_1, kld_n (by omega) (by decide), kst_n (by omega) (by decide), kld_n (by omega) (by decide), kst_n (by omega) (by decide)]
      rw [zsI_n (b := s + 9) _ _ (by omega)]
      rfl
    · unfold sX3_removeAt_35
      dsimp only
      rw [if_pos (nI_le (by omega) (by omega)), kld_n hp (by decide), hz, nI_sub1 (by omega), kst_n hp (by decide)]
  · have B := BK_erase (f' := fun j => (shf s (4 * p + i) m (l.length - 1 - i)).1 (s + 8) (4 * p + j)) (g' := fun j => (shf s (4 * p + i) m (l.length - 1 - i)).1 (s + 9) (4 * p + j)) hb hi
      (fun j hj => by rw [G.2, if_neg (by omega)]) (fun j hj => by rw [G.2, if_neg (by omega)])
      (fun j h1 h2 => by rw [G.2, if_pos (by omega)]; rfl) (fun j h1 h2 => by rw [G.2, if_pos (by omega)]; rfl)
    unfold BkC
    rw [zsI_s]
    refine BK_congr B rfl (fun j _ => zsI_n _ _ (by omega)) (fun j _ => zsI_n _ _ (by omega))
  · refine ⟨G.1, fun c j h7 h8 h9 => ?_⟩
    rw [zsI_n _ _ h7, G.2, if_neg (by omega)]
theorem pX3_push {N s p id : Nat} {o : Int32} {m : zMem} {l : List (Nat × Int32)} (hp : p < 192) (hid : id < 256) (hl : l.length < 4) (hb : BkC m s p l) : ∃ m', fX3_append N s (nI p) (nI id) o m = some m' ∧ BkC m' s p (l ++ [(id, o)]) ∧ frB m m' s p := by
  refine ⟨zsI (zsI (zsI m (s + 8) (4 * p + l.length) (nI id)) (s + 9) (4 * p + l.length) o) (s + 7) p (nI (l.length + 1)), ?_, ?_, ?_⟩
  · unfold fX3_append
    rw [kld_n hp (by decide), hb.1]
    simp only [kjn, klt]
    rw [nn4, if_pos (nI_lt hl (by omega)), kld_n hp (by decide), hb.1]
    rw [pk_mul, nI_add, show p * 4 + l.length = 4 * p + l.length by omega, kst_n (by omega) (by decide), kst_n (by omega) (by decide), kld_n hp (by decide)]
    rw [zsI_n _ _ (by omega), zsI_n _ _ (by omega), hb.1, nI_1, kst_n hp (by decide)]
  · unfold BkC
    rw [zsI_s]
    refine BK_push hb hl hid (fun j hj => ?_) (fun j hj => ?_) ?_ ?_
    · rw [zsI_n _ _ (by omega), zsI_n _ _ (by omega), zsI_n _ _ (by omega)]
    · rw [zsI_n _ _ (by omega), zsI_n _ _ (by omega), zsI_n _ _ (by omega)]
    · rw [zsI_n _ _ (by omega), zsI_n _ _ (by omega), zsI_s]
    · rw [zsI_n _ _ (by omega), zsI_s]
  · refine ⟨rfl, fun c j h7 h8 h9 => ?_⟩
    rw [zsI_n _ _ h7, zsI_n _ _ (by omega), zsI_n _ _ (by omega)]
theorem pX3_append {N s p id : Nat} {o : Int32} {m : zMem} {l : List (Nat × Int32)} (hN : 5 < N) (hp : p < 192) (hid : id < 256) (hb : BkC m s p l) : ∃ m', fX3_append N s (nI p) (nI id) o m = some m' ∧ BkC m' s p ((if l.length = 4 then l.tail else l) ++ [(id, o)]) ∧ frB m m' s p := by
  have hl := hb.2.1
  by_cases h4 : l.length = 4
  · obtain ⟨m1, e1, b1, f1⟩ := pX3_removeAt (i := 0) hN hp (by omega) hb
    have b1' : BkC m1 s p l.tail := by rw [List.eraseIdx_zero] at b1; exact b1
    have ht : l.tail.length < 4 := by rw [List.length_tail]; omega
    obtain ⟨m2, e2, b2, f2⟩ := pX3_push (N := N) (id := id) (o := o) hp hid ht b1'
    refine ⟨m2, ?_, by rw [if_pos h4]; exact b2, f1.tr f2⟩
    rw [← e2]
    unfold fX3_append
    rw [kld_n hp (by decide), hb.1, kld_n hp (by decide), b1'.1]
    simp only [kjn]
    rw [nn4, if_neg (nI_nlt (by omega) (by omega)), if_pos (nI_lt ht (by omega))]
    rw [nI_0] at e1
    rw [e1, kc1_s]
  · rw [if_neg h4]
    exact pX3_push hp hid (by omega) hb
theorem pX3_entriesOfOrigin {N s p n : Nat} {o : Int32} {m : zMem} {ls : Nat → List (Nat × Int32)} (hN : 9 < N) (hp : p + n ≤ 192) (hn : n ≤ 8) (hb : ∀ i, i < n → BkC m s (p + i) (ls i)) : fX3_entriesOfOrigin N s (nI p) (nI n) o m = some (nI (sm (fun i => co (ls i) o) n)) := by
  simp only [fX3_entriesOfOrigin, kjn]
  refine klp_at (fun i => (nI (sm (fun i => co (ls i) o) i), nI (p + i))) n rfl (fun i hi rec => ?_) (fun rec => ?_) (by omega)
  · simp only [sX3_entriesOfOrigin_6, kjn, klt]
    rw [nI_add, if_neg (nI_ge (by omega) (by omega))]
    have hbi := hb i hi
    have hl := hbi.2.1
    refine klp_at (fun j => (nI (sm (fun i => co (ls i) o) i + ct (fun j => decide ((ls i)[j]?.map (fun e => e.2) = some o)) j), nI j)) (ls i).length rfl (fun j hj rec2 => ?_) (fun rec2 => ?_) (by omega)
    · simp only [sX3_entriesOfOrigin_23]
      rw [kld_n (by omega) (by decide), hbi.1, if_neg (nI_ge (by omega) (by omega)), nn4, pk_mul, nI_add, kld_n (by omega) (by decide)]
      obtain ⟨e, he, h1, h2, h3⟩ := BK_get hbi hj
      rw [show (p + i) * 4 + j = 4 * (p + i) + j by omega, h2]
      rw [ct_s, he]
      by_cases ho : e.2 = o
      · rw [if_pos ho, nI_1, nI_1]
        simp [ho, Nat.add_assoc]
      · rw [if_neg ho, nI_1]
        simp [ho]
    · simp only [sX3_entriesOfOrigin_23]
      rw [kld_n (by omega) (by decide), hbi.1, if_pos (nI_le (by omega) (by omega)), nI_1]
      rfl
  · simp only [sX3_entriesOfOrigin_6]
    rw [nI_add, if_pos (nI_le (by omega) (by omega))]
theorem pX3_entriesOf {N s k : Nat} {m : zMem} {ls : Nat → List (Nat × Int32)} (hN : 9 < N) (hk : k < 24) (hb : ∀ b, b < 8 → BkC m s (8 * k + b) (ls b)) : fX3_entriesOf N s (nI k) m = some (nI (sm (fun b => (ls b).length) 8)) := by
  simp only [fX3_entriesOf, kjn]
  refine klp_at (fun i => (nI (sm (fun b => (ls b).length) i), nI i)) 8 rfl (fun i hi rec => ?_) (fun rec => ?_) (by omega)
  · simp only [sX3_entriesOf_4, klt]
    rw [nn8, if_neg (nI_ge (by omega) (by omega)), pX3_bucketPlace, kc1_s, kld_n (by omega) (by decide), (hb i hi).1, nI_1, nI_add]
    rfl
  · simp only [sX3_entriesOf_4]
    rw [nn8, if_pos (nI_le (by omega) (by omega))]
def clr (s k : Nat) (m : zMem) : Nat → zMem
  | 0 => m
  | i + 1 => zsI (clr s k m i) (s + 7) (8 * k + i) 0
theorem clr_g (s k : Nat) (m : zMem) (i : Nat) : (clr s k m i).2 = m.2 ∧ ∀ c j, (clr s k m i).1 c j = if c = s + 7 ∧ 8 * k ≤ j ∧ j < 8 * k + i then 0 else m.1 c j := by
  induction i with
  | zero => exact ⟨rfl, fun c j => by rw [if_neg (by omega)]; rfl⟩
  | succ i ih =>
    refine ⟨ih.1, fun c j => ?_⟩
    unfold clr
    rw [zsI_g, ih.2]
    by_cases h : c = s + 7 ∧ j = 8 * k + i
    · rw [if_pos h, if_pos (by omega)]
    · rw [if_neg h]
      by_cases h2 : c = s + 7 ∧ 8 * k ≤ j ∧ j < 8 * k + i
      · rw [if_pos h2, if_pos (by omega)]
      · rw [if_neg h2, if_neg (by omega)]
theorem pX3_clear {N s k : Nat} {m : zMem} (hN : 9 < N) (hk : k < 24) : fX3_clear N s (nI k) m = some (clr s k m 8) := by
  simp only [fX3_clear, kjn]
  refine klp_at (fun i => (nI i, clr s k m i)) 8 rfl (fun i hi rec => ?_) (fun rec => ?_) (by omega)
  · simp only [sX3_clear_2]
    rw [nn8, if_neg (nI_ge (by omega) (by omega)), pX3_bucketPlace, kc1_s, kst_n (by omega) (by decide), nI_1]
    rfl
  · simp only [sX3_clear_2]
    rw [nn8, if_pos (nI_le (by omega) (by omega))]
theorem bf_all : ∀ d : Fin 256, d.val ≠ 0 → (kc1 (fJ6_numberOfLeadingZeros_0f7a4 ((nI d.val &&& 255) ||| 1)) fun v => some (v - 24)) = some (nI (fs (fun n => d.val.testBit (7 - n)) 8)) := by decide +kernel
theorem xor_ne {a b : Nat} (h : a ≠ b) : a ^^^ b ≠ 0 := fun e => h (by
  have h2 := congrArg (fun z => z ^^^ b) e
  simpa [Nat.xor_assoc] using h2)
theorem pX3_bucketFor {a b : Nat} (ha : a < 256) (hb : b < 256) (h : a ≠ b) : fX3_bucketFor (nI a) (nI b) = some (nI (bN a b)) := by
  have hd : a ^^^ b < 256 := xor_lt (n := 8) ha hb
  simp only [fX3_bucketFor, klt]
  rw [nx_xor]
  exact bf_all ⟨a ^^^ b, hd⟩ (xor_ne h)
theorem bN_lt {a b : Nat} (ha : a < 256) (hb : b < 256) (h : a ≠ b) : bN a b < 8 := by
  have hd : a ^^^ b < 256 := xor_lt (n := 8) ha hb
  have hall : ∀ d : Fin 256, d.val ≠ 0 → fs (fun n => d.val.testBit (7 - n)) 8 < 8 := by decide +kernel
  exact hall ⟨a ^^^ b, hd⟩ (xor_ne h)
