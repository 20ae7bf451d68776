/-! digests -/
def mixL (h : Int64) (x : Int32) : Int64 := (31 * h) + x.toInt64
def fdl (f : Nat → Int32) : Nat → Int64 → Int64
  | 0, h => h
  | n + 1, h => mixL (fdl f n h) (f n)
def hkB (l : List (Nat × Int32)) : Nat → Int64 → Int64
  | 0, h => h
  | n + 1, h => mixL (mixL (hkB l n h) (nI (l[n]?.getD (0, 0)).1)) (l[n]?.getD (0, 0)).2
def hkT (A : AS) (k : Nat) : Nat → Int64 → Int64
  | 0, h => h
  | b + 1, h => hkB (aB A k b) (aB A k b).length (mixL (hkT A k b h) (nI (aB A k b).length))
def dMem (A : AS) : Nat → Int64 → Int64
  | 0, h => h
  | id + 1, h => if mem A id = true then hkT A (slot A id) 8 (fdl (fun q => mvA A id (q + 1)) 4 (mixL (dMem A id h) (nI id))) else dMem A id h
def dgA (A : AS) (n len : Int32) : Int64 := dMem A 256 (fdl (fun i => aS A (7 + i)) 9 (fdl (ovA A) 9 (mixL (mixL 18554 n) len)))
theorem pX3_hashOf {N s k : Nat} {m : zMem} {A : AS} {h0 : Int64} (hN : 9 < N) (hk : k < 24) (hb : ∀ b, b < 8 → BkC m s (8 * k + b) (aB A k b)) : fX3_hashOf N s (nI k) h0 m = some (hkT A k 8 h0) := by
  simp only [fX3_hashOf, kjn]
  refine klp_at (fun b => (hkT A k b h0, nI b)) 8 rfl (fun b hb8 rec => ?_) (fun rec => ?_) (by omega)
  · have hB := hb b hb8
    have hl := hB.2.1
    have ez : m.1 (s + 7) (8 * k + b) = nI (aB A k b).length := hB.1
    simp only [sX3_hashOf_6, klt, kjn]
    rw [nn8, if_neg (nI_ge (by omega) (by omega)), pX3_bucketPlace, kc1_s, kld_n (by omega) (by decide), ez, nn4, pk_mul, nI_1]
    refine klp_at (fun j => (hkB (aB A k b) j (mixL (hkT A k b h0) (nI (aB A k b).length)), nI j)) (aB A k b).length rfl (fun j hj rec2 => ?_) (fun rec2 => ?_) (by omega)
    · obtain ⟨e, he, e1, e2, -⟩ := BK_get hB hj
      simp only [sX3_hashOf_47, klt]
      rw [kld_n (by omega) (by decide), ez, if_neg (nI_ge (by omega) (by omega)), nI_add, kld_n (by omega) (by decide), kld_n (by omega) (by decide)]
      have e1' : m.1 (s + 8) ((8 * k + b) * 4 + j) = nI e.1 := by rw [show (8 * k + b) * 4 + j = 4 * (8 * k + b) + j by omega]; exact e1
      have e2' : m.1 (s + 9) ((8 * k + b) * 4 + j) = e.2 := by rw [show (8 * k + b) * 4 + j = 4 * (8 * k + b) + j by omega]; exact e2
      rw [e1', e2', nI_1]
      show _ = rec2 (mixL (mixL (hkB (aB A k b) j _) (nI ((aB A k b)[j]?.getD (0, 0)).1)) ((aB A k b)[j]?.getD (0, 0)).2, _)
      rw [he]; rfl
    · simp only [sX3_hashOf_47]
      rw [kld_n (by omega) (by decide), ez, if_pos (nI_le (Nat.le_refl _) (by omega))]
      rfl
  · simp only [sX3_hashOf_6]
    rw [nn8, if_pos (nI_le (Nat.le_refl _) (by omega))]
theorem dMem_1 {A : AS} {id : Nat} {h : Int64} (hm : mem A id = true) : dMem A (id + 1) h = hkT A (slot A id) 8 (fdl (fun q => mvA A id (q + 1)) 4 (mixL (dMem A id h) (nI id))) := by
  show (if mem A id = true then _ else _) = _
  rw [if_pos hm]
theorem dMem_0 {A : AS} {id : Nat} {h : Int64} (hm : ¬ mem A id = true) : dMem A (id + 1) h = dMem A id h := by
  show (if mem A id = true then _ else _) = _
  rw [if_neg hm]
theorem dg91 {N n : Nat} {m : zMem} {A : AS} (hN : n < N) (h30 : 30 < N) (hn : n = 256) (hs : isS (m.2.2 0)) (h : RepC m (m.2.2 0) A) (hw : WF A) (h2 : Int64) : klp (sX5_digest_91 N m fun w7 => some w7) N (h2, 0) = some (dMem A n h2) := by
  refine klp_at (fun id => (dMem A id h2, nI id)) n rfl (fun id hid rec => ?_) (fun rec => ?_) (by omega)
  · simp only [sX5_digest_91, klt, kgr, kjn]
    rw [nn255, if_neg (nI_nlt (by omega) (by omega)), kis_s hs, pX2_isMember h (by omega), kc1_s]
    by_cases hm : mem A id = true
    · have hsl := (mem_iff A id).mp hm
      have hwk := slot_at hsl
      rw [if_pos hm, dMem_1 hm, if_neg (by decide)]
      refine klp_at (fun q => (fdl (fun q => mvA A id (q + 1)) q (mixL (dMem A id h2) (nI id)), nI (q + 1))) 4 rfl (fun q hq rec2 => ?_) (fun rec2 => ?_) (by omega)
      · simp only [sX5_digest_121, klt]
        rw [nn4, if_neg (nI_nlt (by omega) (by omega)), pX5_memberValue (by omega) hs h hw (by omega) (by omega), kc1_s, nI_1]; rfl
      · simp only [sX5_digest_121]
        rw [nn4, if_pos (nI_lt (by omega) (by omega)), kis_s hs, kis_s hs, kld_n (by omega) (by decide), RepC_row h (by omega) hm, pX3_hashOf (by omega) hsl (h.2.2.2.2.2 _ hsl (by omega)).2.2, kc1_s, nI_1]
    · rw [if_neg hm, dMem_0 hm, if_pos rfl, nI_1]
  · simp only [sX5_digest_91]
    rw [nn255, if_pos (nI_lt (by omega) (by omega))]
theorem dg60 {N n : Nat} {m : zMem} {A : AS} (hN : n < N) (hn : n = 9) (hs : isS (m.2.2 0)) (h : RepC m (m.2.2 0) A) (h1 : Int64) (K : Int64 → Option Int64) : klp (sX5_digest_60 m K) N (h1, 0) = K (fdl (fun i => aS A (7 + i)) n h1) := by
  refine klp_at (fun q => (fdl (fun i => aS A (7 + i)) q h1, nI q)) n rfl (fun q hq rec => ?_) (fun rec => ?_) (by omega)
  · simp only [sX5_digest_60, klt, kgr]
    rw [nn9, if_neg (nI_ge (by omega) (by omega)), kis_s hs, kld_n (by omega) (by decide), h.2.2.1 q (by omega), nI_1]; rfl
  · simp only [sX5_digest_60]
    rw [nn9, if_pos (nI_le (by omega) (by omega))]
theorem dg33 {N n : Nat} {m : zMem} {A : AS} (hN : n < N) (h30 : 30 < N) (hn : n = 9) (hs : isS (m.2.2 0)) (h : RepC m (m.2.2 0) A) (hw : WF A) (ht : tOK A) (h1 : Int64) (K : Int64 → Option Int64) : klp (sX5_digest_33 N m K) N (h1, 0) = K (fdl (ovA A) n h1) := by
  refine klp_at (fun q => (fdl (ovA A) q h1, nI q)) n rfl (fun q hq rec => ?_) (fun rec => ?_) (by omega)
  · simp only [sX5_digest_33, klt]
    rw [nn8, if_neg (nI_nlt (by omega) (by omega)), pX5_overlayValue (by omega) hs h hw ht (by omega), kc1_s, nI_1]; rfl
  · simp only [sX5_digest_33]
    rw [nn8, if_pos (nI_lt (by omega) (by omega))]
theorem pX5_digest {N : Nat} {m : zMem} {A : AS} (hN : 256 < N) (hs : isS (m.2.2 0)) (h : RepC m (m.2.2 0) A) (hw : WF A) (ht : tOK A) : fX5_digest N m = some (dgA A (m.1 0 6) (m.1 6 1)) := by
  simp only [fX5_digest, kjn, kgi, klt]
  rw [dg33 (n := 9) (A := A) (by omega) (by omega) rfl hs h hw ht, dg60 (n := 9) (A := A) (by omega) rfl hs h, dg91 (n := 256) (A := A) (by omega) (by omega) rfl hs h hw]
  unfold dgA mixL
  rfl
/-! the reference's, which keeps it in a field -/
def frD (m m' : zMem) : Prop := m'.1 = m.1 ∧ m'.2.2 = m.2.2
theorem pX6_mix (x : Int32) (m : zMem) : fX6_mix x m = some (zsL m 0 (mixL (m.2.1 0) x)) := rfl
theorem zsL_s (m : zMem) (x : Int64) : (zsL m 0 x).2.1 0 = x := by simp [zsL]
theorem zsL_zsL (m : zMem) (x y : Int64) : zsL (zsL m 0 x) 0 y = zsL m 0 y := by
  unfold zsL
  congr 2
  funext b
  by_cases e : b = 0 <;> simp [e]
theorem pX6_mixZ (x : Int32) (m : zMem) (h : Int64) : fX6_mix x (zsL m 0 h) = some (zsL m 0 (mixL h x)) := by
  rw [pX6_mix, zsL_s, zsL_zsL]
theorem pX6_mixMember {N id : Nat} {m : zMem} {A : AS} {h0 : Int64} (hN : 256 < N) (h : RowM (m.1 1) A) (hw : WF A) (hid : id < 256) (hm : mem A id = true) : fX6_mixMember N (nI id) (zsL m 0 h0) = some (zsL m 0 (hkT A (slot A id) 8 (fdl (fun q => mvA A id (q + 1)) 4 (mixL h0 (nI id))))) := by
  have hsl := (mem_iff A id).mp hm
  have hZ : ∀ x, RowM ((zsL m 0 x).1 1) A := fun x => h
  have cZ : ∀ x j, (zsL m 0 x).1 1 j = m.1 1 j := fun x j => rfl
  obtain ⟨a1, a2, a3, a4⟩ := h.2 _ hsl
  simp only [fX6_mixMember, kjn]
  rw [pX6_placeOf (by omega) (hZ _) hw.1 hid, kc1_s, if_pos hsl, pX6_mixZ, kc1_s]
  refine klp_at (fun q => (nI (q + 1), zsL m 0 (fdl (fun q => mvA A id (q + 1)) q (mixL h0 (nI id))))) 4 rfl (fun q hq rec => ?_) (fun rec => ?_) (by omega)
  · simp only [sX6_mixMember_13]
    rw [nn5, if_neg (nI_ge (by omega) (by omega)), pX6_tellMember (by omega) (hZ _) hw hid (by omega), kc1_s, pX6_mixZ, kc1_s, nI_1]; rfl
  · simp only [sX6_mixMember_13]
    rw [nn5, if_pos (nI_le (Nat.le_refl _) (by omega))]
    generalize fdl (fun q => mvA A id (q + 1)) 4 (mixL h0 (nI id)) = h1
    generalize slot A id = k at *
    refine klp_at (fun b => (nI b, zsL m 0 (hkT A k b h1))) 8 rfl (fun b hb8 rec => ?_) (fun rec => ?_) (by omega)
    · have hB := a4 b hb8
      have hl := hB.2.1
      have ez : m.1 1 (19 + 75 * k + b) = nI (aB A k b).length := hB.1
      have e3 : nI (16 + 75 * k) + 3 + nI b = nI (19 + 75 * k + b) := by rw [nn3, nI_add, nI_add]; congr 1; omega
      simp only [sX6_mixMember_36, klt, kjn]
      rw [nn8, if_neg (nI_ge (by omega) (by omega)), e3, kld_n (by omega) (by decide), cZ, ez, pX6_mixZ, kc1_s, nn4, pk_mul, nI_1]
      refine klp_at (fun j => (nI (4 * b + j), zsL m 0 (hkB (aB A k b) j (mixL (hkT A k b h1) (nI (aB A k b).length))))) (aB A k b).length rfl (fun j hj rec2 => ?_) (fun rec2 => ?_) (by omega)
      · obtain ⟨e, he, e1, e2, -⟩ := BK_get hB hj
        have i1 : nI (16 + 75 * k) + 11 + nI (4 * b + j) = nI (27 + 75 * k + 4 * b + j) := by rw [nn11, nI_add, nI_add]; congr 1; omega
        have i2 : nI (16 + 75 * k) + 43 + nI (4 * b + j) = nI (59 + 75 * k + 4 * b + j) := by rw [nn43, nI_add, nI_add]; congr 1; omega
        simp only [sX6_mixMember_61]
        rw [e3, kld_n (by omega) (by decide), cZ, ez, nn4, pk_mul, nI_add, if_neg (nI_ge (by omega) (by omega)), i1, kld_n (by omega) (by decide), cZ, e1, pX6_mixZ, kc1_s, i2, kld_n (by omega) (by decide), cZ, e2, pX6_mixZ, kc1_s, nI_1]
        show rec2 (_, zsL m 0 _) = rec2 (_, zsL m 0 (mixL (mixL (hkB (aB A k b) j _) (nI ((aB A k b)[j]?.getD (0, 0)).1)) ((aB A k b)[j]?.getD (0, 0)).2))
        rw [he]; rfl
      · simp only [sX6_mixMember_61]
        rw [e3, kld_n (by omega) (by decide), cZ, ez, nn4, pk_mul, nI_add, if_pos (nI_le (Nat.le_refl _) (by omega))]
        rfl
    · simp only [sX6_mixMember_36]
      rw [nn8, if_pos (nI_le (Nat.le_refl _) (by omega))]
theorem dh80 {N n : Nat} {m1 : zMem} {A : AS} (hN : n < N) (h30 : 256 < N) (hn : n = 256) (h1 : RowM (m1.1 1) A) (hw : WF A) (g2 : Int64) (K : zMem → Option (Int64 × zMem)) : klp (sX6_digest_80 N K) N (0, zsL m1 0 g2) = K (zsL m1 0 (dMem A n g2)) := by
  have hZ : ∀ x, RowM ((zsL m1 0 x).1 1) A := fun x => h1
  refine klp_at (fun id => (nI id, zsL m1 0 (dMem A id g2))) n rfl (fun id hid rec => ?_) (fun rec => ?_) (by omega)
  · simp only [sX6_digest_80]
    rw [nn256, if_neg (nI_ge (by omega) (by omega)), pX6_isMember (by omega) (hZ _) hw.1 (by omega), kc1_s]
    by_cases hm : mem A id = true
    · rw [if_pos hm, dMem_1 hm, if_neg (by decide), pX6_mixMember h30 h1 hw (by omega) hm, kc1_s, nI_1]
    · rw [if_neg hm, dMem_0 hm, if_pos rfl, nI_1]
  · simp only [sX6_digest_80]
    rw [nn256, if_pos (nI_le (by omega) (by omega))]
theorem dh53 {N n : Nat} {m1 : zMem} {A : AS} (hN : n < N) (hn : n = 9) (h1 : RowM (m1.1 1) A) (g1 : Int64) (K : zMem → Option (Int64 × zMem)) : klp (sX6_digest_53 K) N (0, zsL m1 0 g1) = K (zsL m1 0 (fdl (fun i => aS A (7 + i)) n g1)) := by
  have hZ : ∀ x, RowM ((zsL m1 0 x).1 1) A := fun x => h1
  refine klp_at (fun q => (nI q, zsL m1 0 (fdl (fun i => aS A (7 + i)) q g1))) n rfl (fun q hq rec => ?_) (fun rec => ?_) (by omega)
  · simp only [sX6_digest_53]
    rw [nn9, if_neg (nI_ge (by omega) (by omega)), nn7, nI_add, kld_n (by omega) (by decide), (hZ _).1 (7 + q) (by omega), pX6_mixZ, kc1_s, nI_1]; rfl
  · simp only [sX6_digest_53]
    rw [nn9, if_pos (nI_le (by omega) (by omega))]
theorem dh30 {N n : Nat} {m1 : zMem} {A : AS} (hN : n < N) (h30 : 30 < N) (hn : n = 9) (h1 : RowM (m1.1 1) A) (hw : WF A) (ht : tOK A) (g1 : Int64) (K : zMem → Option (Int64 × zMem)) : klp (sX6_digest_30 N K) N (0, zsL m1 0 g1) = K (zsL m1 0 (fdl (ovA A) n g1)) := by
  have hZ : ∀ x, RowM ((zsL m1 0 x).1 1) A := fun x => h1
  refine klp_at (fun q => (nI q, zsL m1 0 (fdl (ovA A) q g1))) n rfl (fun q hq rec => ?_) (fun rec => ?_) (by omega)
  · simp only [sX6_digest_30]
    rw [nn9, if_neg (nI_ge (by omega) (by omega)), pX6_tellOverlay (by omega) (hZ _) hw ht (by omega), kc1_s, pX6_mixZ, kc1_s, nI_1]; rfl
  · simp only [sX6_digest_30]
    rw [nn9, if_pos (nI_le (by omega) (by omega))]
theorem pX6_digest {N : Nat} {m : zMem} {A : AS} (hN : 256 < N) (h : RowM (m.1 1) A) (hw : WF A) (ht : tOK A) : fX6_digest N m = some (dgA A (m.1 0 3) (m.1 0 6), zsL (zsI m 0 4 0) 0 (dgA A (m.1 0 3) (m.1 0 6))) := by
  simp only [fX6_digest, kjn, kpi, kpl, kgi, kgl]
  obtain ⟨m1, hm1⟩ : ∃ z, z = zsI m 0 4 0 := ⟨_, rfl⟩
  have h1 : RowM (m1.1 1) A := by rw [hm1, zsI_ne _ _ _ (by omega)]; exact h
  have v3 : ∀ x, (zsL m1 0 x).1 0 3 = m.1 0 3 := fun x => by show m1.1 0 3 = _; rw [hm1, zsI_n _ _ (by omega)]
  have v6 : ∀ x, (zsL m1 0 x).1 0 6 = m.1 0 6 := fun x => by show m1.1 0 6 = _; rw [hm1, zsI_n _ _ (by omega)]
  rw [← hm1, v3, pX6_mixZ, kc1_s, v6, pX6_mixZ, kc1_s, dh30 (n := 9) (A := A) (by omega) (by omega) rfl h1 hw ht, dh53 (n := 9) (A := A) (by omega) rfl h1, dh80 (n := 256) (A := A) (by omega) hN rfl h1 hw, zsL_s]
  unfold dgA
  rfl
