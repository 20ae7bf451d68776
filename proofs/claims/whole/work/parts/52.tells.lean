/-! what an overlay and a member tell -/
def mvA (A : AS) (id q : Nat) : Int32 :=
  if q = 0 then (if mem A id = true then 1 else 0) else if mem A id = false then -1 else if q = 1 then aO A (slot A id) else if q = 2 then aC A (slot A id) else if q = 3 then nI (ens A (slot A id)) else nI (tw A id)
def ovA (A : AS) (q : Nat) : Int32 :=
  if q = 0 then nI (cnt A) else if q = 1 then aS A 5 else if q = 2 then epA A else if q = 3 then dif A else if q = 4 then aS A 6 else if q = 5 then aS A 3 else if q = 6 then aS A 4 else if q = 7 then aS A 1 else nI (lg A)
theorem q5 {q : Nat} (h : q < 5) : q = 0 ∨ q = 1 ∨ q = 2 ∨ q = 3 ∨ q = 4 := by omega
theorem q9 {q : Nat} (h : q < 9) : q = 0 ∨ q = 1 ∨ q = 2 ∨ q = 3 ∨ q = 4 ∨ q = 5 ∨ q = 6 ∨ q = 7 ∨ q = 8 := by omega
theorem pX5_memberValue {N id q : Nat} {m : zMem} {A : AS} (hN : 24 < N) (hs : isS (m.2.2 0)) (h : RepC m (m.2.2 0) A) (hw : WF A) (hid : id < 256) (hq : q < 5) : fX5_memberValue N (nI id) (nI q) m = some (mvA A id q) := by
  simp only [fX5_memberValue, kgr]
  simp only [kis_s hs]
  rw [pX2_isMember h hid, kc1_s]
  by_cases hm : mem A id = true
  · have hsl := (mem_iff A id).mp hm
    have hwk := slot_at hsl
    obtain ⟨a1, a2, a3⟩ := h.2.2.2.2.2 _ hsl (by omega)
    have hnm : ¬ mem A id = false := fun z => by rw [hm] at z; cases z
    rw [if_pos hm, if_neg (show ¬ (1 : Int32) = 0 by decide), if_neg (show ¬ (1 : Int32) = 0 by decide), kld_n hid (by decide), RepC_row h hid hm, kld_n hsl (by decide), kld_n hsl (by decide), RepC_ens (by omega) h hsl (by omega), kc1_s, pX2_tablesWith hN h hw hid, kc1_s, a1, a2]
    unfold mvA
    simp only [if_pos hm, if_neg hnm]
    rcases q5 hq with e | e | e | e | e <;> subst e <;> rfl
  · have hnm : mem A id = false := by simpa using hm
    unfold mvA
    simp only [if_neg hm, if_pos hnm]
    rcases q5 hq with e | e | e | e | e <;> subst e <;> rfl
theorem pX6_tellMember {N id q : Nat} {m : zMem} {A : AS} (hN : 24 < N) (h : RowM (m.1 1) A) (hw : WF A) (hid : id < 256) (hq : q < 5) : fX6_tellMember N (nI id) (nI q) m = some (mvA A id q) := by
  simp only [fX6_tellMember, kjn]
  rw [pX6_placeOf hN h hw.1 hid, kc1_s]
  by_cases hm : mem A id = true
  · have hsl := (mem_iff A id).mp hm
    obtain ⟨a1, a2, a3, a4⟩ := h.2 _ hsl
    have hnm : ¬ mem A id = false := fun z => by rw [hm] at z; cases z
    rw [if_pos hsl, if_neg (nI_ne_m1 (n := 16 + 75 * slot A id) (by omega)), if_neg (nI_ne_m1 (n := 16 + 75 * slot A id) (by omega)), pX6_entries (by omega) hsl h, kc1_s, pX6_tablesWith hN h hw hid, kc1_s]
    unfold mvA
    simp only [if_pos hm, if_neg hnm]
    rcases q5 hq with e | e | e | e | e
    · subst e; rfl
    · subst e
      rw [nI_add, kld_n (by omega) (by decide), show 16 + 75 * slot A id + 1 = 17 + 75 * slot A id by omega, a2]; rfl
    · subst e
      rw [nI_add, kld_n (by omega) (by decide), show 16 + 75 * slot A id + 2 = 18 + 75 * slot A id by omega, a3]; rfl
    · subst e; rfl
    · subst e; rfl
  · have hnm : mem A id = false := by simpa using hm
    have hsl : ¬ slot A id < 24 := fun z => hm ((mem_iff A id).mpr z)
    unfold mvA
    simp only [if_neg hm, if_pos hnm, if_neg hsl]
    rcases q5 hq with e | e | e | e | e <;> subst e <;> rfl
theorem pX5_overlayValue {N q : Nat} {m : zMem} {A : AS} (hN : 24 < N) (hs : isS (m.2.2 0)) (h : RepC m (m.2.2 0) A) (hw : WF A) (ht : tOK A) (hq : q < 9) : fX5_overlayValue N (nI q) m = some (ovA A q) := by
  simp only [fX5_overlayValue, kgr, kgi]
  simp only [kis_s hs]
  rw [pX2_epoch h ht, kc1_s, pX2_difficulty h, kc1_s, pX2_largestOrigin hN h hw, kc1_s, h.2.1, h.1 5 (by omega), h.1 6 (by omega), h.1 3 (by omega), h.1 4 (by omega), h.1 1 (by omega)]
  rcases q9 hq with e | e | e | e | e | e | e | e | e <;> subst e <;> rfl
theorem pX6_tellOverlay {N q : Nat} {m : zMem} {A : AS} (hN : 24 < N) (h : RowM (m.1 1) A) (hw : WF A) (ht : tOK A) (hq : q < 9) : fX6_tellOverlay N (nI q) m = some (ovA A q) := by
  have k : ∀ (i : Nat) (f : Int32 → Option Int32), i < 16 → kld m 1 1816 (nI i) f = f (aS A i) := fun i f hi => by
    rw [kld_n (by omega) (by decide), h.1 i hi]
  simp only [fX6_tellOverlay]
  rw [pX6_memberMany hN h hw.1, kc1_s, pX6_epochNow h ht, kc1_s, pX6_difficulty h, kc1_s, pX6_largest hN h hw, kc1_s]
  rcases q9 hq with e | e | e | e | e | e | e | e | e
  · subst e; rfl
  · subst e; exact k 5 _ (by omega)
  · subst e; rfl
  · subst e; rfl
  · subst e; exact k 6 _ (by omega)
  · subst e; exact k 3 _ (by omega)
  · subst e; exact k 4 _ (by omega)
  · subst e; exact k 1 _ (by omega)
  · subst e; rfl
