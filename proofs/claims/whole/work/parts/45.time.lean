/-! time, epochs, ends of identities -/
theorem RepC_S {m : zMem} {s j : Nat} {A : AS} {v : Int32} (h : RepC m s A) (hj : j < 7) : RepC (zsI m s j v) s (sS A j v) := by
  obtain ⟨h1, h2, h3, h4, h5, h6⟩ := h
  refine ⟨fun i hi => ?_, by rw [zsI_n _ _ (by omega)]; exact h2, fun i hi => ?_, fun i hi => by rw [zsI_n _ _ (by omega)]; exact h4 i hi, fun i hi => by rw [zsI_n _ _ (by omega)]; exact h5 i hi, fun k hk hw => ?_⟩
  · show _ = up (aS A) j v i
    by_cases e : i = j
    · subst e; rw [zsI_s, up_s]
    · rw [zsI_n _ _ (by omega), up_n _ _ (by omega)]; exact h1 i hi
  · rw [zsI_n _ _ (by omega)]
    show _ = up (aS A) j v (7 + i)
    rw [up_n _ _ (by omega)]; exact h3 i hi
  · obtain ⟨a1, a2, a3⟩ := h6 k hk hw
    exact ⟨by rw [zsI_n _ _ (by omega)]; exact a1, by rw [zsI_n _ _ (by omega)]; exact a2, fun b hb => BkC_I (a3 b hb) (by omega)⟩
def tOK (A : AS) : Prop := ∃ t e, aS A 5 = nI t ∧ t < 2 ^ 31 ∧ aS A 2 = nI e ∧ 0 < e ∧ e < 2 ^ 31
def epA (A : AS) : Int32 := aS A 5 / aS A 2
theorem pX2_epoch {m : zMem} {s : Nat} {A : AS} (h : RepC m s A) (ht : tOK A) : fX2_epoch s m = some (epA A) := by
  obtain ⟨t, e, h1, h2, h3, h4, h5⟩ := ht
  have e0 : ¬ nI e = 0 := fun z => by
    have := nI_inj h5 (by omega) (z.trans nn0); omega
  simp only [fX2_epoch, kgi, fJ9_floorDiv_7cf53]
  unfold epA
  rw [h.1 2 (by omega), h.1 5 (by omega), h1, h3, nn0, if_neg (nI_ge h4 (by omega))]
  unfold kdv
  rw [if_neg e0, nx_xor]
  show kc1 (if nI 0 ≤ nI (t ^^^ e) then some (nI t / nI e) else _) _ = _
  rw [if_pos (nI_le (Nat.zero_le _) (xor_lt h2 h5)), kc1_s]
theorem pX6_epochNow {m : zMem} {A : AS} (h : RowM (m.1 1) A) (ht : tOK A) : fX6_epochNow m = some (epA A) := by
  obtain ⟨t, e, h1, h2, h3, h4, h5⟩ := ht
  have e0 : ¬ nI e = 0 := fun z => by
    have := nI_inj h5 (by omega) (z.trans nn0); omega
  simp only [fX6_epochNow]
  unfold epA
  rw [nn5, nn2, kld_n (by omega) (by decide), kld_n (by omega) (by decide), h.1 2 (by omega), h.1 5 (by omega), h1, h3]
  unfold kdv
  rw [if_neg e0]
def stS (A : AS) (e : Int32) : AS := if epA A = e then A else sS A 6 0
theorem pX2_startEpochIfOther {m : zMem} {s : Nat} {A : AS} {e : Int32} (h : RepC m s A) (ht : tOK A) : ∃ m', fX2_startEpochIfOther s e m = some m' ∧ RepC m' s (stS A e) ∧ frS m m' s := by
  simp only [fX2_startEpochIfOther, kpi]
  rw [pX2_epoch h ht, kc1_s]
  unfold stS
  by_cases q : epA A = e
  · rw [if_pos q, if_pos q]; exact ⟨m, rfl, h, frS.rf m s⟩
  · rw [if_neg q, if_neg q]; exact ⟨_, rfl, RepC_S h (by omega), frS_I (by omega) (by omega)⟩
/-- nothing but the reference's present row has changed -/
def frM (m m' : zMem) : Prop := m'.2 = m.2 ∧ ∀ c, c ≠ 1 → m'.1 c = m.1 c
theorem frM.rf (m : zMem) : frM m m := ⟨rfl, fun _ _ => rfl⟩
theorem frM.tr {m m1 m2 : zMem} (h : frM m m1) (h2 : frM m1 m2) : frM m m2 := ⟨h2.1.trans h.1, fun c hc => (h2.2 c hc).trans (h.2 c hc)⟩
theorem frM_I (m : zMem) (j : Nat) (x : Int32) : frM m (zsI m 1 j x) := ⟨rfl, fun c hc => zsI_ne m j x hc⟩
theorem pX6_turnsTo {m : zMem} {A : AS} {e : Int32} (h : RowM (m.1 1) A) (ht : tOK A) : ∃ m', fX6_turnsTo e m = some m' ∧ RowM (m'.1 1) (stS A e) ∧ frM m m' := by
  simp only [fX6_turnsTo, kjn]
  rw [pX6_epochNow h ht, kc1_s]
  unfold stS
  by_cases q : epA A = e
  · rw [if_pos q, if_pos q, nn6, kld_n (by omega) (by decide), kst_n (by omega) (by decide)]
    refine ⟨_, rfl, ?_, frM_I _ _ _⟩
    have := RowM_S (v := m.1 1 6) h (show 6 < 16 by omega)
    have e6 : m.1 1 6 = aS A 6 := h.1 6 (by omega)
    rw [e6, sS_id] at this
    rw [e6]; exact this
  · rw [if_neg q, if_neg q, nn6, kst_n (by omega) (by decide)]
    exact ⟨_, rfl, RowM_S h (by omega), frM_I _ _ _⟩
def dif (A : AS) : Int32 := if 12 < aS A 0 + aS A 6 / 4 then 12 else aS A 0 + aS A 6 / 4
theorem pX2_difficulty {m : zMem} {s : Nat} {A : AS} (h : RepC m s A) : fX2_difficulty s m = some (dif A) := by
  simp only [fX2_difficulty, kgi, kdv, kmin]
  rw [h.1 0 (by omega), h.1 6 (by omega), if_neg (by decide)]; rfl
theorem pX6_difficulty {m : zMem} {A : AS} (h : RowM (m.1 1) A) : fX6_difficulty m = some (dif A) := by
  simp only [fX6_difficulty, kdv, klt]
  rw [nn0, nn6, kld_n (by omega) (by decide), kld_n (by omega) (by decide), if_neg (by decide), h.1 0 (by omega), h.1 6 (by omega)]
  unfold dif
  by_cases q : (12 : Int32) < aS A 0 + aS A 6 / 4
  · rw [if_pos q, if_pos (Int32.le_of_lt q)]
  · rw [if_neg q]
    by_cases q2 : (12 : Int32) ≤ aS A 0 + aS A 6 / 4
    · rw [if_pos q2]
      have : (12 : Int32) = aS A 0 + aS A 6 / 4 := Int32.le_antisymm q2 (Int32.not_lt.mp q)
      rw [← this]
    · rw [if_neg q2]
/-! ends -/
def endS (A : AS) (k : Nat) : AS := (up (aS A) 8 (aS A 8 + 1), up (aW A) k 0, up (aO A) k 0, up (aC A) k 0, up (aB A) k (fun _ => []))
theorem end_slot_ne {A : AS} {k id i : Nat} (hw : aW A k = id + 1) (hi : i ≠ id) : slot (endS A k) i = slot A i := by
  refine fs_congr (fun j hj => ?_)
  show decide (up (aW A) k 0 j = i + 1) = decide (aW A j = i + 1)
  by_cases e : j = k
  · subst e; rw [up_s, hw, decide_eq_false (by omega), decide_eq_false (by omega)]
  · rw [up_n _ _ e]
theorem end_slot {A : AS} {k id : Nat} (h : WF A) (hk : k < 24) (hw : aW A k = id + 1) : slot (endS A k) id = 24 := by
  refine fs_eq (fun j hj => ?_) (fun z => absurd z (by omega)) (Nat.le_refl _)
  show decide (up (aW A) k 0 j = id + 1) = false
  by_cases e : j = k
  · subst e; rw [up_s, decide_eq_false (by omega)]
  · rw [up_n _ _ e]
    exact decide_eq_false (fun z => e (h.2.1 j k hj hk (by omega) (by omega)))
theorem end_cnt {A : AS} {k : Nat} (hk : k < 24) (hw : aW A k ≠ 0) : cnt A = cnt (endS A k) + 1 := by
  refine ct_up (p := fun j => decide (up (aW A) k 0 j ≠ 0)) hk ?_ ?_ (fun j hj e => ?_)
  · show decide (up (aW A) k 0 k ≠ 0) = false
    rw [up_s]; rfl
  · exact decide_eq_true hw
  · show decide (up (aW A) k 0 j ≠ 0) = _
    rw [up_n _ _ e]
theorem WF_end {A : AS} {k : Nat} (h : WF A) : WF (endS A k) := by
  refine ⟨fun j hj => ?_, fun i j hi hj h1 h2 => ?_, fun j b hj hb => ?_⟩
  · show up (aW A) k 0 j ≤ 256
    by_cases e : j = k
    · rw [e, up_s]; omega
    · rw [up_n _ _ e]; exact h.1 j hj
  · change up (aW A) k 0 i ≠ 0 at h1
    change up (aW A) k 0 i = up (aW A) k 0 j at h2
    by_cases ei : i = k
    · rw [ei, up_s] at h1; exact absurd rfl h1
    · rw [up_n _ _ ei] at h1 h2
      by_cases ej : j = k
      · rw [ej, up_s] at h2; exact absurd h2 h1
      · rw [up_n _ _ ej] at h2; exact h.2.1 i j hi hj h1 h2
  · show (up (aB A) k (fun _ => []) j b).length ≤ 4 ∧ (up (aW A) k 0 j = 0 → up (aB A) k (fun _ => []) j b = []) ∧ ((up (aB A) k (fun _ => []) j b).map (fun e => e.1)).Nodup ∧ ∀ e, e ∈ up (aB A) k (fun _ => []) j b → e.1 < 256 ∧ e.1 ≠ up (aW A) k 0 j - 1 ∧ bN (up (aW A) k 0 j - 1) e.1 = b
    by_cases e : j = k
    · rw [e, up_s, up_s]
      exact ⟨by simp, fun _ => rfl, by simp, fun e he => by cases he⟩
    · rw [up_n _ _ e, up_n _ _ e]; exact h.2.2 j b hj hb
theorem pX2_endIdentity {m : zMem} {s k id : Nat} {A : AS} (h : RepC m s A) (hw : WF A) (hk : k < 24) (hid : aW A k = id + 1) : ∃ m', fX2_endIdentity s (nI id) m = some m' ∧ RepC m' s (endS A k) ∧ frS m m' s := by
  have hi256 : id < 256 := by have := hw.1 k hk; omega
  have hsl := slot_of hw hk hid
  have hm : mem A id = true := mem_of hk hid
  have hcn := end_cnt (A := A) hk (by omega)
  simp only [fX2_endIdentity, kgi, kpi]
  rw [pX2_isMember h hi256, kc1_s, if_pos hm, if_neg (by decide), kld_n hi256 (by decide), RepC_row h hi256 hm, hsl, kst_n hk (by decide), kst_n hi256 (by decide), nn1, kld_n (by omega) (by decide), kst_n (by omega) (by decide)]
  refine ⟨_, rfl, ?_, ?_⟩
  · obtain ⟨h1, h2, h3, h4, h5, h6⟩ := h
    have c8 : ∀ v w u, (zsI (zsI (zsI m (s + 3) k v) (s + 2) id w) s 7 u).1 (s + 1) 1 = aS A 8 := fun v w u => by
      rw [zsI_n _ _ (by omega), zsI_n _ _ (by omega), zsI_n _ _ (by omega)]; exact h3 1 (by omega)
    have c7 : ∀ v w, (zsI (zsI m (s + 3) k v) (s + 2) id w).1 s 7 = nI (cnt A) := fun v w => by
      rw [zsI_n _ _ (by omega), zsI_n _ _ (by omega)]; exact h2
    rw [c8, c7, ← nn1]
    refine ⟨fun i hi => ?_, ?_, fun i hi => ?_, fun i hi => ?_, fun j hj => ?_, fun j hj hwj => ?_⟩
    · rw [zsI_n _ _ (by omega), zsI_n _ _ (by omega), zsI_n _ _ (by omega), zsI_n _ _ (by omega), h1 i hi]
      exact (up_n _ _ (by omega)).symm
    · rw [zsI_n _ _ (by omega), zsI_s, hcn, nI_sub1 (by omega), Nat.add_sub_cancel]
    · show _ = up (aS A) 8 (aS A 8 + 1) (7 + i)
      by_cases e : i = 1
      · subst e; rw [zsI_s, up_s]
      · rw [zsI_n _ _ (by omega), zsI_n _ _ (by omega), zsI_n _ _ (by omega), zsI_n _ _ (by omega), up_n _ _ (by omega)]; exact h3 i hi
    · rw [zsI_n _ _ (by omega), zsI_n _ _ (by omega)]
      unfold rowI
      by_cases e : i = id
      · subst e; rw [zsI_s, end_slot hw hk hid, if_neg (by omega)]
      · rw [zsI_n _ _ (by omega), zsI_n _ _ (by omega), end_slot_ne hid e]; exact h4 i hi
    · rw [zsI_n _ _ (by omega), zsI_n _ _ (by omega), zsI_n _ _ (by omega)]
      show _ = nI (up (aW A) k 0 j) - 1
      by_cases e : j = k
      · subst e; rw [zsI_s, up_s]; rfl
      · rw [zsI_n _ _ (by omega), up_n _ _ e]; exact h5 j hj
    · change up (aW A) k 0 j ≠ 0 at hwj
      have e : j ≠ k := fun e => by rw [e, up_s] at hwj; exact hwj rfl
      rw [up_n _ _ e] at hwj
      obtain ⟨a1, a2, a3⟩ := h6 j hj hwj
      refine ⟨?_, ?_, fun b hb => ?_⟩
      · rw [zsI_n _ _ (by omega), zsI_n _ _ (by omega), zsI_n _ _ (by omega), zsI_n _ _ (by omega)]
        exact a1.trans (up_n _ _ e).symm
      · rw [zsI_n _ _ (by omega), zsI_n _ _ (by omega), zsI_n _ _ (by omega), zsI_n _ _ (by omega)]
        exact a2.trans (up_n _ _ e).symm
      · show BkC _ s (8 * j + b) (up (aB A) k (fun _ => []) j b)
        rw [up_n _ _ e]
        exact BkC_I (BkC_I (BkC_I (BkC_I (a3 b hb) (by omega)) (by omega)) (by omega)) (by omega)
  · exact (((frS_I (by omega) (by omega)).tr (frS_I (by omega) (by omega))).tr (frS_I (by omega) (by omega))).tr (frS_I (by omega) (by omega))
/-- how many have ended below a slot, and what is left -/
def psS (A : AS) : Nat → Nat × AS
  | 0 => (0, A)
  | k + 1 => if aW (psS A k).2 k ≠ 0 ∧ ¬ aS (psS A k).2 5 < aC (psS A k).2 k + aS (psS A k).2 1 then ((psS A k).1 + 1, endS (psS A k).2 k) else psS A k
theorem WF_ps {A : AS} (h : WF A) (k : Nat) : WF (psS A k).2 := by
  induction k with
  | zero => exact h
  | succ k ih => unfold psS; split; exact WF_end ih; exact ih
theorem ps_le (A : AS) (k : Nat) : (psS A k).1 ≤ k := by
  induction k with
  | zero => exact Nat.le_refl _
  | succ k ih => unfold psS; split; show _ + 1 ≤ _; omega; omega
def tkS (A : AS) (d : Int32) : Nat × AS := psS (stS (sS A 5 (aS A 5 + d)) (epA A)) 24
theorem pX2_passTime {N s : Nat} {m : zMem} {A : AS} {d : Int32} (hN : 24 < N) (h : RepC m s A) (hw : WF A) (ht : tOK A) (ht2 : tOK (sS A 5 (aS A 5 + d))) : ∃ m', fX2_passTime N s d m = some (nI (tkS A d).1, m') ∧ RepC m' s (tkS A d).2 ∧ frS m m' s := by
  simp only [fX2_passTime, kgi, kpi, kjn]
  rw [pX2_epoch h ht, kc1_s, h.1 5 (by omega)]
  obtain ⟨m4, e4, R4, f4⟩ := pX2_startEpochIfOther (e := epA A) (RepC_S (v := aS A 5 + d) h (show 5 < 7 by omega)) ht2
  rw [e4, kc1_s]
  have hw4 : WF (stS (sS A 5 (aS A 5 + d)) (epA A)) := by unfold stS; split; exact hw; exact hw
  unfold tkS
  generalize stS (sS A 5 (aS A 5 + d)) (epA A) = B at *
  have f4' : frS m m4 s := (frS_I (by omega) (by omega)).tr f4
  refine klp_iR (n := N) (z := (0, 0, m4)) (fun (i : Nat) (z : Int32 × Int32 × zMem) => z.1 = nI (psS B i).1 ∧ z.2.1 = nI i ∧ RepC z.2.2 s (psS B i).2 ∧ frS m z.2.2 s) 24 (fun r => ∃ m', r = some (nI (psS B 24).1, m') ∧ RepC m' s (psS B 24).2 ∧ frS m m' s) (fun i hi z hz => ?_) (fun z hz rec => ?_) ⟨rfl, rfl, R4, f4'⟩ (by omega)
  · obtain ⟨z1, z2, z3⟩ := z
    obtain ⟨g1, g2, g3, g4⟩ := hz
    dsimp only at g1 g2 g3 g4
    subst g1; subst g2
    have hwi := WF_ps hw4 i
    have o3 := g3.2.2.2.2.1 i hi
    have hst : psS B (i + 1) = if aW (psS B i).2 i ≠ 0 ∧ ¬ aS (psS B i).2 5 < aC (psS B i).2 i + aS (psS B i).2 1 then ((psS B i).1 + 1, endS (psS B i).2 i) else psS B i := rfl
    by_cases q : aW (psS B i).2 i = 0
    · refine ⟨(nI (psS B i).1, nI (i + 1), z3), ⟨?_, rfl, ?_, g4⟩, fun rec => ?_⟩
      · rw [hst, if_neg (fun z => z.1 q)]
      · rw [hst, if_neg (fun z => z.1 q)]; exact g3
      · simp only [sX2_passTime_25, kgi]
        rw [nn24, if_neg (nI_ge (by omega) (by omega)), kld_n hi (by decide), o3, q, if_pos (by decide), nI_1]
    · have ha := hwi.1 i hi
      obtain ⟨id, hid⟩ : ∃ id, aW (psS B i).2 i = id + 1 := ⟨aW (psS B i).2 i - 1, by omega⟩
      obtain ⟨a1, a2, a3⟩ := g3.2.2.2.2.2 i hi q
      rw [hid, nI_sub1 (by omega), Nat.add_sub_cancel] at o3
      by_cases q2 : aS (psS B i).2 5 < aC (psS B i).2 i + aS (psS B i).2 1
      · refine ⟨(nI (psS B i).1, nI (i + 1), z3), ⟨?_, rfl, ?_, g4⟩, fun rec => ?_⟩
        · rw [hst, if_neg (fun z => z.2 q2)]
        · rw [hst, if_neg (fun z => z.2 q2)]; exact g3
        · simp only [sX2_passTime_25, kgi]
          rw [nn24, if_neg (nI_ge (by omega) (by omega)), kld_n hi (by decide), o3, if_neg (nI_ne_m1 (by omega)), kld_n hi (by decide), a2, g3.1 1 (by omega), g3.1 5 (by omega), if_pos q2, nI_1]
      · obtain ⟨m6, e6, R6, f6⟩ := pX2_endIdentity g3 hwi hi hid
        refine ⟨(nI ((psS B i).1 + 1), nI (i + 1), m6), ⟨?_, rfl, ?_, g4.tr f6⟩, fun rec => ?_⟩
        · rw [hst, if_pos ⟨q, q2⟩]
        · rw [hst, if_pos ⟨q, q2⟩]; exact R6
        · simp only [sX2_passTime_25, kgi]
          rw [nn24, if_neg (nI_ge (by omega) (by omega)), kld_n hi (by decide), o3, if_neg (nI_ne_m1 (by omega)), kld_n hi (by decide), a2, g3.1 1 (by omega), g3.1 5 (by omega), if_neg q2, kld_n hi (by decide), o3, e6, kc1_s, nI_1, nI_1]
  · obtain ⟨z1, z2, z3⟩ := z
    obtain ⟨g1, g2, g3, g4⟩ := hz
    dsimp only at g1 g2 g3 g4
    subst g1; subst g2
    refine ⟨z3, ?_, g3, g4⟩
    simp only [sX2_passTime_25]
    rw [nn24, if_pos (nI_le (Nat.le_refl _) (by omega))]
