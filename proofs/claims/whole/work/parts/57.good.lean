/-! what holds of every state that comes up; n bounds the time -/
def GD (A : AS) (n : Nat) : Prop := WF A ∧ ∃ t e, aS A 5 = nI t ∧ t ≤ n ∧ aS A 2 = nI e ∧ 5 ≤ e ∧ e ≤ 100
theorem GD.ok {A : AS} {n : Nat} (h : GD A n) (hn : n < 2 ^ 31) : tOK A := by
  obtain ⟨-, t, e, h1, h2, h3, h4, h5⟩ := h
  exact ⟨t, e, h1, by omega, h3, by omega, by omega⟩
theorem GD.mono {A : AS} {n k : Nat} (h : GD A n) (hk : n ≤ k) : GD A k := by
  obtain ⟨w, t, e, h1, h2, h3, h4, h5⟩ := h
  exact ⟨w, t, e, h1, by omega, h3, h4, h5⟩
theorem GD.sc {A B : AS} {n : Nat} (h : GD A n) (hw : WF B) (h5 : aS B 5 = aS A 5) (h2 : aS B 2 = aS A 2) : GD B n := by
  obtain ⟨-, t, e, g1, g2, g3, g4, g5⟩ := h
  exact ⟨hw, t, e, by rw [h5]; exact g1, g2, by rw [h2]; exact g3, g4, g5⟩
theorem look_sc (A : AS) (a x : Nat) {i : Nat} (h9 : i < 9) : aS (lookA A a x) i = aS A i := by
  unfold lookA
  rw [pz_sc _ _ _ _ (by omega) (by omega) (by omega)]
  unfold cA
  rw [sS_n _ _ (by omega), sS_n _ _ (by omega), sS_n _ _ (by omega), sS_n _ _ (by omega)]
theorem GD_look {A : AS} {n a x : Nat} (h : GD A n) (ha : a < 256) (hx : x < 256) (hm : mem A a = true) : GD (lookA A a x) n := h.sc (WF_look h.1 ha hx hm) (look_sc _ _ _ (by omega)) (look_sc _ _ _ (by omega))
theorem end_sc (A : AS) (k : Nat) {i : Nat} (h : i ≠ 8) : aS (endS A k) i = aS A i := up_n (aS A) (aS A 8 + 1) h
theorem GD_end {A : AS} {n k : Nat} (h : GD A n) : GD (endS A k) n := h.sc (WF_end h.1) (end_sc _ _ (by omega)) (end_sc _ _ (by omega))
theorem ps_sc (A : AS) (k : Nat) {i : Nat} (h : i ≠ 8) : aS (psS A k).2 i = aS A i := by
  induction k with
  | zero => rfl
  | succ k ih =>
    unfold psS
    split
    · show up (aS (psS A k).2) 8 _ i = _
      rw [up_n _ _ h]; exact ih
    · exact ih
theorem st_sc (A : AS) (e : Int32) {i : Nat} (h : i ≠ 6) : aS (stS A e) i = aS A i := by
  unfold stS
  split
  · rfl
  · exact sS_n _ _ h
theorem WF_st {A : AS} (h : WF A) (e : Int32) : WF (stS A e) := by
  unfold stS
  split
  · exact h
  · exact h
theorem GD_tick {A : AS} {n d : Nat} (h : GD A n) : GD (sS A 5 (aS A 5 + nI d)) (n + d) ∧ GD (tkS A (nI d)).2 (n + d) := by
  obtain ⟨w, t, e, g1, g2, g3, g4, g5⟩ := h
  have h1 : GD (sS A 5 (aS A 5 + nI d)) (n + d) := ⟨w, t + d, e, by rw [sS_g, g1, nI_add], by omega, by rw [sS_n _ _ (by omega)]; exact g3, g4, g5⟩
  unfold tkS
  refine ⟨h1, h1.sc (WF_ps (WF_st h1.1 _) 24) ?_ ?_⟩
  · rw [ps_sc _ _ (by omega), st_sc _ _ (by omega)]
  · rw [ps_sc _ _ (by omega), st_sc _ _ (by omega)]
def pzA (A : AS) (a b c : Int32) : AS := stS (sS (sS (sS A 0 a) 1 b) 2 c) (epA A)
theorem GD_pz {A : AS} {n : Nat} {a b c : Int32} (h : GD A n) (hc : 5 ≤ c ∧ c ≤ 100) : GD (sS (sS (sS A 0 a) 1 b) 2 c) n ∧ GD (pzA A a b c) n := by
  obtain ⟨w, t, e, g1, g2, g3, g4, g5⟩ := h
  have c0 : (0 : Int32) ≤ c := Int32.le_trans (by decide) hc.1
  obtain ⟨k1, k2⟩ := inN (n := 100) c0 hc.2 (by omega)
  have k3 : 5 ≤ iN c := by
    apply Nat.le_of_not_lt
    intro z
    have := hc.1
    rw [k2, nn5] at this
    exact nI_ge z (by omega) this
  have h1 : GD (sS (sS (sS A 0 a) 1 b) 2 c) n := ⟨w, t, iN c, by rw [sS_n _ _ (by omega), sS_n _ _ (by omega), sS_n _ _ (by omega)]; exact g1, g2, by rw [sS_g]; exact k2, k3, k1⟩
  exact ⟨h1, h1.sc (WF_st h1.1 _) (st_sc _ _ (by omega)) (st_sc _ _ (by omega))⟩
theorem en0_sc (A : AS) (id : Nat) (o : Int32) {i : Nat} (h6 : i ≠ 6) (h7 : i ≠ 7) : aS (en0 A id o) i = aS A i := by
  show up (up (aS A) 6 _) 7 _ i = _
  rw [up_n _ _ h7, up_n _ _ h6]
theorem en1_sc (A : AS) (id : Nat) (o : Int32) (sp : Nat) {i : Nat} (h : i < 6) : aS (en1 A id o sp) i = aS A i := by
  unfold en1
  rw [look_sc _ _ _ (by omega), learn_sc _ _ _ (by omega) (by omega) (by omega), learn_sc _ _ _ (by omega) (by omega) (by omega), en0_sc _ _ _ (by omega) (by omega)]
theorem GD_en {A : AS} {n : Nat} {id o sp : Int32} (h : GD A n) (hf : enF A id o sp = 0) : GD (enA A id o sp) n := by
  obtain ⟨h1, h2, h3, h4, q, hq, hq2⟩ := enF_0 hf
  obtain ⟨k1, k2⟩ := okI_n h1
  obtain ⟨hk, hk0⟩ := fr_lt h4
  have W0 : WF (en0 A (iN id) o) := WF_ent h.1 hk hk0 k1 h3
  unfold enA
  by_cases e : sp = -1
  · rw [if_pos e]
    exact h.sc W0 (en0_sc _ _ _ (by omega) (by omega)) (en0_sc _ _ _ (by omega) (by omega))
  · rw [if_neg e]
    cases q with
    | none => exact absurd hq e
    | some k =>
      obtain ⟨hsp, hmsp⟩ := hq2 k rfl
      have e2 : iN sp = k := by
        have : sp = nI k := hq
        rw [this, iN_n (by omega)]
      rw [e2]
      have hne : k ≠ iN id := fun e => by rw [e, h3] at hmsp; cases hmsp
      have hsl : slot (en0 A (iN id) o) (iN id) = fr A := ent_slot hk h3
      have mid : mem (en0 A (iN id) o) (iN id) = true := (mem_iff _ _).mpr (by omega)
      have msp : mem (en0 A (iN id) o) k = true := by
        have := ent_slot_ne (o := o) hk0 hne
        exact (mem_iff _ _).mpr (by
          have h2 := (mem_iff _ _).mp hmsp
          show slot (entS A (fr A) (iN id) o) k < 24
          omega)
      have W1 := WF_learn W0 hsp k1 hne msp
      have W2 := WF_learn W1 k1 hsp (Ne.symm hne) (by rw [mem_W (learn_W _ _ _).1]; exact mid)
      have mid2 : mem (learnS (learnS (en0 A (iN id) o) k (iN id)) (iN id) k) (iN id) = true := by rw [mem_W (learn_W _ _ _).1, mem_W (learn_W _ _ _).1]; exact mid
      exact h.sc (WF_look W2 k1 k1 mid2) (en1_sc _ _ _ _ (by omega)) (en1_sc _ _ _ _ (by omega))
def GL (L : List AS) (n : Nat) : Prop := ∀ B, B ∈ L → GD B n
theorem GL.mono {L : List AS} {n k : Nat} (h : GL L n) (hk : n ≤ k) : GL L k := fun B hB => (h B hB).mono hk
theorem GL_push {A : AS} {L : List AS} {n : Nat} (h : GL L n) (hA : GD A n) : GL (pushL A L) n := fun B hB => by
  unfold pushL at hB
  have := List.mem_of_mem_take hB
  rcases List.mem_cons.mp this with e | e
  · rw [e]; exact hA
  · exact h B e
