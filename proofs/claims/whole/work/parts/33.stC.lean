/-! the class's State against the abstract state -/
def rowI (A : AS) (i : Nat) : Int32 := if slot A i < 24 then nI (slot A i) else -1
def RepC (m : zMem) (s : Nat) (A : AS) : Prop :=
  (∀ i, i < 7 → m.1 s i = aS A i) ∧ m.1 s 7 = nI (cnt A) ∧ (∀ i, i < 9 → m.1 (s + 1) i = aS A (7 + i)) ∧
  (∀ i, i < 256 → m.1 (s + 2) i = rowI A i) ∧ (∀ k, k < 24 → m.1 (s + 3) k = nI (aW A k) - 1) ∧
  ∀ k, k < 24 → aW A k ≠ 0 → m.1 (s + 4) k = aO A k ∧ m.1 (s + 5) k = aC A k ∧ ∀ b, b < 8 → BkC m s (8 * k + b) (aB A k b)
/-- what holds of every abstract state that comes up -/
def WF (A : AS) : Prop :=
  (∀ k, k < 24 → aW A k ≤ 256) ∧ (∀ k j, k < 24 → j < 24 → aW A k ≠ 0 → aW A k = aW A j → k = j) ∧
  (∀ k b, k < 24 → b < 8 → (aB A k b).length ≤ 4 ∧ (aW A k = 0 → aB A k b = []) ∧ ((aB A k b).map (fun e => e.1)).Nodup ∧ ∀ e, e ∈ aB A k b → e.1 < 256 ∧ e.1 ≠ aW A k - 1 ∧ bN (aW A k - 1) e.1 = b)
def frS (m m' : zMem) (s : Nat) : Prop := m'.2 = m.2 ∧ ∀ c, c < s ∨ s + 10 ≤ c → m'.1 c = m.1 c
theorem frS.rf (m : zMem) (s : Nat) : frS m m s := ⟨rfl, fun _ _ => rfl⟩
theorem frS.tr {m m1 m2 : zMem} {s : Nat} (h : frS m m1 s) (h2 : frS m1 m2 s) : frS m m2 s := ⟨h2.1.trans h.1, fun c hc => (h2.2 c hc).trans (h.2 c hc)⟩
theorem frB.S {m m' : zMem} {s p : Nat} (h : frB m m' s p) : frS m m' s := ⟨h.1, fun c hc => by funext j; exact h.2 c j (by omega) (by omega) (by omega)⟩
theorem frS_I {m : zMem} {s a j : Nat} {x : Int32} (h : s ≤ a) (h2 : a < s + 10) : frS m (zsI m a j x) s := ⟨rfl, fun c hc => zsI_ne m j x (by omega)⟩
theorem slot_le (A : AS) (id : Nat) : slot A id ≤ 24 := fs_le _ _
theorem slot_at {A : AS} {id : Nat} (h : slot A id < 24) : aW A (slot A id) = id + 1 := of_decide_eq_true (fs_at (p := fun k => decide (aW A k = id + 1)) h)
theorem slot_of {A : AS} (hw : WF A) {k id : Nat} (hk : k < 24) (h : aW A k = id + 1) : slot A id = k := by
  have h1 : slot A id ≤ k := fs_lt (p := fun k => decide (aW A k = id + 1)) hk (decide_eq_true h)
  have h2 := slot_at (A := A) (id := id) (by omega)
  exact hw.2.1 _ _ (by omega) hk (by omega) (by omega)
theorem mem_iff (A : AS) (id : Nat) : mem A id = true ↔ slot A id < 24 := by unfold mem; exact decide_eq_true_iff
theorem mem_of {A : AS} {k id : Nat} (hk : k < 24) (h : aW A k = id + 1) : mem A id = true := (mem_iff A id).mpr (by
  have h1 : slot A id ≤ k := fs_lt (p := fun k => decide (aW A k = id + 1)) hk (decide_eq_true h)
  omega)
theorem RepC_bk {m m' : zMem} {s k t : Nat} {A : AS} {l : List (Nat × Int32)} (h : RepC m s A) (hk : k < 24) (ht : t < 8) (hb : BkC m' s (8 * k + t) l) (fr : frB m m' s (8 * k + t)) : RepC m' s (sB A k t l) := by
  obtain ⟨h1, h2, h3, h4, h5, h6⟩ := h
  have e : ∀ c j, c < s + 7 → m'.1 c j = m.1 c j := fun c j hc => fr.2 c j (by omega) (by omega) (by omega)
  refine ⟨fun i hi => by rw [e _ _ (by omega)]; exact h1 i hi, by rw [e _ _ (by omega)]; exact h2, fun i hi => by rw [e _ _ (by omega)]; exact h3 i hi, fun i hi => by rw [e _ _ (by omega)]; exact h4 i hi, fun i hi => by rw [e _ _ (by omega)]; exact h5 i hi, fun k2 hk2 hw => ?_⟩
  obtain ⟨a1, a2, a3⟩ := h6 k2 hk2 hw
  refine ⟨by rw [e _ _ (by omega)]; exact a1, by rw [e _ _ (by omega)]; exact a2, fun b hb2 => ?_⟩
  show BkC m' s (8 * k2 + b) (up (aB A) k (up (aB A k) t l) k2 b)
  by_cases e1 : k2 = k
  · subst e1
    rw [up_s]
    by_cases e2 : b = t
    · subst e2; rw [up_s]; exact hb
    · rw [up_n _ _ e2]; exact fr.bk (by omega) (a3 b hb2)
  · rw [up_n _ _ e1]; exact fr.bk (by omega) (a3 b hb2)
theorem BkC_I {m : zMem} {s p a j : Nat} {x : Int32} {l : List (Nat × Int32)} (h : BkC m s p l) (ha : a < s + 7) : BkC (zsI m a j x) s p l := BK_congr h (zsI_n _ _ (by omega)) (fun j _ => zsI_n _ _ (by omega)) (fun j _ => zsI_n _ _ (by omega))
theorem RepC_inc {m : zMem} {s j : Nat} {A : AS} {v : Int32} (h : RepC m s A) (hj : j < 9) : RepC (zsI m (s + 1) j v) s (sS A (7 + j) v) := by
  obtain ⟨h1, h2, h3, h4, h5, h6⟩ := h
  refine ⟨fun i hi => ?_, by rw [zsI_n _ _ (by omega)]; exact h2, fun i hi => ?_, fun i hi => by rw [zsI_n _ _ (by omega)]; exact h4 i hi, fun i hi => by rw [zsI_n _ _ (by omega)]; exact h5 i hi, fun k hk hw => ?_⟩
  · rw [zsI_n _ _ (by omega)]
    show _ = up (aS A) (7 + j) v i
    rw [up_n _ _ (by omega)]; exact h1 i hi
  · show _ = up (aS A) (7 + j) v (7 + i)
    by_cases e : i = j
    · subst e; rw [zsI_s, up_s]
    · rw [zsI_n _ _ (by omega), up_n _ _ (by omega)]; exact h3 i hi
  · obtain ⟨a1, a2, a3⟩ := h6 k hk hw
    exact ⟨by rw [zsI_n _ _ (by omega)]; exact a1, by rw [zsI_n _ _ (by omega)]; exact a2, fun b hb => BkC_I (a3 b hb) (by omega)⟩
theorem pX2_isMember {m : zMem} {s id : Nat} {A : AS} (h : RepC m s A) (hid : id < 256) : fX2_isMember s (nI id) m = some (if mem A id = true then 1 else 0) := by
  unfold fX2_isMember
  rw [if_neg (nI_pos (by omega)), nn255, if_neg (nI_nlt (by omega) (by omega)), kld_n hid (by decide), h.2.2.2.1 id hid]
  unfold rowI
  by_cases e : slot A id < 24
  · rw [if_pos e, if_neg (nI_ne_m1 (by omega)), if_pos ((mem_iff A id).mpr e)]
  · rw [if_neg e, if_pos rfl, if_neg (fun z => e ((mem_iff A id).mp z))]
theorem pX2_isMember_m1 (m : zMem) (s : Nat) : fX2_isMember s (-1) m = some 0 := by
  unfold fX2_isMember
  rw [if_pos (by decide)]
theorem RepC_row {m : zMem} {s id : Nat} {A : AS} (h : RepC m s A) (hid : id < 256) (hm : mem A id = true) : m.1 (s + 2) id = nI (slot A id) := by
  rw [h.2.2.2.1 id hid]
  unfold rowI
  rw [if_pos ((mem_iff A id).mp hm)]
theorem pX2_refusalOf {N s k t : Nat} {o : Int32} {m : zMem} {A : AS} (hN : 9 < N) (h : RepC m s A) (hk : k < 24) (ht : t < 8) (hw : aW A k ≠ 0) : fX2_refusalOf N s (nI k) (nI (8 * k + t)) o m = some (if aS A 3 ≤ nI (co (aB A k t) o) then 5 else if aS A 4 ≤ nI (tco A k o) then 6 else if (aB A k t).length = 4 ∧ mem A (hd (aB A k t)).1 = true then 7 else -1) := by
  obtain ⟨a1, a2, a3⟩ := h.2.2.2.2.2 k hk hw
  have hb := a3 t ht
  have hl := hb.2.1
  have E1 : fX3_entriesOfOrigin N s (nI (8 * k + t)) 1 o m = some (nI (co (aB A k t) o)) := by
    have := pX3_entriesOfOrigin (N := N) (s := s) (p := 8 * k + t) (n := 1) (o := o) (m := m) (ls := fun _ => aB A k t) hN (by omega) (by omega) (fun i hi => by rw [show 8 * k + t + i = 8 * k + t by omega]; exact hb)
    rw [nn1, this]
    simp [sm]
  have E8 : fX3_entriesOfOrigin N s (nI (8 * k)) 8 o m = some (nI (tco A k o)) := pX3_entriesOfOrigin (N := N) (s := s) (p := 8 * k) (n := 8) (o := o) (m := m) (ls := fun b => aB A k b) hN (by omega) (by omega) (fun i hi => a3 i hi)
  have EP : fX3_bucketPlace (nI k) 0 = some (nI (8 * k)) := pX3_bucketPlace k 0
  simp only [fX2_refusalOf, kgi, kjn]
  rw [E1, kc1_s, h.1 3 (by omega), h.1 4 (by omega), EP, kc1_s, E8, kc1_s]
  by_cases c1 : aS A 3 ≤ nI (co (aB A k t) o)
  · rw [if_neg (fun z => Int32.not_le.mpr z c1), if_pos c1]
  rw [if_pos (Int32.not_le.mp c1), if_neg c1]
  by_cases c2 : aS A 4 ≤ nI (tco A k o)
  · rw [if_neg (fun z => Int32.not_le.mpr z c2), if_pos c2]
  rw [if_pos (Int32.not_le.mp c2), if_neg c2, kld_n (by omega) (by decide), hb.1, nn4]
  by_cases h4 : (aB A k t).length = 4
  · rw [if_neg (nI_nlt (by omega) (by omega)), if_neg (by decide)]
    obtain ⟨e, he, b1, b2, b3⟩ := BK_get hb (j := 0) (by omega)
    have hhd : hd (aB A k t) = e := by
      unfold hd
      cases hq : aB A k t with
      | nil => rw [hq] at h4; simp at h4
      | cons x xs => rw [hq] at he; simp at he; simp [he]
    rw [pk_mul, kld_n (by omega) (by decide), show (8 * k + t) * 4 = 4 * (8 * k + t) + 0 by omega, b1, pX2_isMember h b3, kc1_s, hhd]
    by_cases hm : mem A e.1 = true
    · rw [if_pos hm, if_neg (by decide), if_pos ⟨h4, hm⟩]
    · rw [if_neg hm, if_pos rfl, if_neg (fun z => hm z.2)]
  · rw [if_pos (nI_lt (by omega) (by omega)), if_pos trivial, if_neg (fun z => h4 z.1)]
theorem pX2_learn {N s a b : Nat} {m : zMem} {A : AS} (hN : 9 < N) (h : RepC m s A) (ha : a < 256) (hb : b < 256) (hab : a ≠ b) (hma : mem A a = true) (hmb : mem A b = true) : ∃ m', fX2_learn N s (nI a) (nI b) m = some m' ∧ RepC m' s (learnS A a b) ∧ frS m m' s := by
  have ka := (mem_iff A a).mp hma
  have kb := (mem_iff A b).mp hmb
  have wa := slot_at ka
  have wb := slot_at kb
  have ht := bN_lt ha hb hab
  obtain ⟨-, -, a3⟩ := h.2.2.2.2.2 _ ka (by omega)
  have hO := (h.2.2.2.2.2 _ kb (by omega)).1
  have hB := a3 _ ht
  have hl := hB.2.1
  generalize hk : slot A a = k at *
  generalize htt : bN a b = t at *
  generalize ho : aO A (slot A b) = o at *
  have E : fX2_learn N s (nI a) (nI b) m = (kc1 (fX3_indexOf N s (nI (8 * k + t)) (nI b) m) fun v8 =>
      if v8 = (-1) then
      kc1 (fX2_refusalOf N s (nI k) (nI (8 * k + t)) o m) fun v9 =>
      if v9 = (-1) then
      kc1 (fX3_append N s (nI (8 * k + t)) (nI b) o m) fun m16 =>
      some m16
      else
      kld m (s + 1) 9 v9 fun v10 =>
      kst m (s + 1) 9 v9 (v10 + 1) fun m11 =>
      if v9 = 7 then
      klt (nI (8 * k + t) * 4 : Int32) fun v12 =>
      kld m11 (s + 8) 768 v12 fun v13 =>
      kld m11 (s + 9) 768 v12 fun v14 =>
      kc1 (fX3_append N s (nI (8 * k + t)) v13 v14 m11) fun m15 =>
      some m15
      else
      some m11
      else
      kc1 (fX3_removeAt N s (nI (8 * k + t)) v8 m) fun m17 =>
      kc1 (fX3_append N s (nI (8 * k + t)) (nI b) o m17) fun m18 =>
      some m18) := by
    unfold fX2_learn
    rw [if_neg (fun z => hab (nI_inj (by omega) (by omega) z)), pX2_isMember h ha, if_pos hma, kc1_s, if_neg (by decide), pX2_isMember h hb, if_pos hmb, kc1_s, if_neg (by decide)]
    rw [kld_n ha (by decide), kld_n hb (by decide), RepC_row h ha hma, RepC_row h hb hmb, hk, kld_n kb (by decide), hO, pX3_bucketFor ha hb hab, kc1_s, htt, pX3_bucketPlace, kc1_s]
  rw [E, pX3_indexOf (by omega) (by omega) hb hB, kc1_s]
  unfold learnS
  rw [hk, htt, ho]
  by_cases hf : fx (aB A k t) b < (aB A k t).length
  · rw [if_pos hf, if_pos hf, if_neg (nI_ne_m1 (by omega))]
    obtain ⟨m1, e1, b1, f1⟩ := pX3_removeAt (N := N) (by omega) (by omega) hf hB
    obtain ⟨m2, e2, b2, f2⟩ := pX3_append (N := N) (id := b) (o := o) (by omega) (by omega) hb b1
    rw [if_neg (by rw [List.length_eraseIdx_of_lt hf]; omega)] at b2
    rw [e1, kc1_s, e2, kc1_s]
    exact ⟨m2, rfl, RepC_bk h (by omega) ht b2 (f1.tr f2), (f1.tr f2).S⟩
  · rw [if_neg hf, if_neg hf, if_pos rfl, pX2_refusalOf hN h (by omega) ht (by omega), kc1_s]
    by_cases c1 : aS A 3 ≤ nI (co (aB A k t) o)
    · rw [if_pos c1, if_pos c1, if_neg (by decide), nn5, kld_n (by omega) (by decide), kst_n (by omega) (by decide), if_neg (by decide), h.2.2.1 5 (by omega)]
      exact ⟨_, rfl, RepC_inc h (by omega), frS_I (by omega) (by omega)⟩
    rw [if_neg c1, if_neg c1]
    by_cases c2 : aS A 4 ≤ nI (tco A k o)
    · rw [if_pos c2, if_pos c2, if_neg (by decide), nn6, kld_n (by omega) (by decide), kst_n (by omega) (by decide), if_neg (by decide), h.2.2.1 6 (by omega)]
      exact ⟨_, rfl, RepC_inc h (by omega), frS_I (by omega) (by omega)⟩
    rw [if_neg c2, if_neg c2]
    by_cases c3 : (aB A k t).length = 4 ∧ mem A (hd (aB A k t)).1 = true
    · rw [if_pos c3, if_pos c3, if_neg (by decide), nn7, kld_n (by omega) (by decide), kst_n (by omega) (by decide), if_pos rfl, h.2.2.1 7 (by omega)]
      have h1 := RepC_inc (v := aS A (7 + 7) + 1) h (show 7 < 9 by omega)
      have hB1 : BkC (zsI m (s + 1) 7 (aS A (7 + 7) + 1)) s (8 * k + t) (aB A k t) := BkC_I hB (by omega)
      obtain ⟨e, he, b1, b2, b3⟩ := BK_get hB1 (j := 0) (by omega)
      have hhd : hd (aB A k t) = e := by
        unfold hd
        cases hq : aB A k t with
        | nil => rw [hq] at c3; simp at c3
        | cons x xs => rw [hq] at he; simp at he; simp [he]
      obtain ⟨m2, e2, b2', f2⟩ := pX3_append (N := N) (id := e.1) (o := e.2) (by omega) (by omega) b3 hB1
      rw [if_pos c3.1] at b2'
      simp only [klt]
      rw [nn4, pk_mul, kld_n (by omega) (by decide), kld_n (by omega) (by decide), show (8 * k + t) * 4 = 4 * (8 * k + t) + 0 by omega, b1, b2, e2, kc1_s, hhd]
      exact ⟨m2, rfl, RepC_bk h1 (by omega) ht b2' f2, frS.tr (frS_I (by omega) (by omega)) f2.S⟩
    · rw [if_neg c3, if_neg c3, if_pos rfl]
      obtain ⟨m2, e2, b2, f2⟩ := pX3_append (N := N) (id := b) (o := o) (by omega) (by omega) hb hB
      rw [e2, kc1_s]
      exact ⟨m2, rfl, RepC_bk h (by omega) ht b2 f2, f2.S⟩
theorem pX2_forget {N s a c : Nat} {m : zMem} {A : AS} (hN : 9 < N) (h : RepC m s A) (ha : a < 256) (hc : c < 256) (hac : a ≠ c) (hma : mem A a = true) : ∃ m', fX2_forget N s (nI a) (nI c) m = some m' ∧ RepC m' s (forgetS A a c) ∧ frS m m' s := by
  have ka := (mem_iff A a).mp hma
  have wa := slot_at ka
  have ht := bN_lt ha hc hac
  obtain ⟨-, -, a3⟩ := h.2.2.2.2.2 _ ka (by omega)
  have hB := a3 _ ht
  have hl := hB.2.1
  unfold fX2_forget
  rw [if_neg (fun z => hac (nI_inj (by omega) (by omega) z)), pX2_isMember h ha, if_pos hma, kc1_s, if_neg (by decide), kld_n ha (by decide), RepC_row h ha hma, pX3_bucketFor ha hc hac, kc1_s, pX3_bucketPlace, kc1_s, pX3_indexOf (by omega) (by omega) hc hB, kc1_s]
  unfold forgetS
  by_cases hf : fx (aB A (slot A a) (bN a c)) c < (aB A (slot A a) (bN a c)).length
  · rw [if_pos hf, if_pos hf, if_neg (nI_ne_m1 (by omega))]
    obtain ⟨m1, e1, b1, f1⟩ := pX3_removeAt (N := N) (by omega) (by omega) hf hB
    rw [e1, kc1_s]
    exact ⟨m1, rfl, RepC_bk h (by omega) ht b1 f1, f1.S⟩
  · rw [if_neg hf, if_neg hf, if_pos rfl]
    exact ⟨m, rfl, h, frS.rf m s⟩
