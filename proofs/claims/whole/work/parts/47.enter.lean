/-! admissions -/
def fr (A : AS) : Nat := fs (fun k => decide (aW A k = 0)) 24
def entS (A : AS) (k id : Nat) (o : Int32) : AS := (up (up (aS A) 6 (aS A 6 + 1)) 7 (aS A 7 + 1), up (aW A) k (id + 1), up (aO A) k o, up (aC A) k (aS A 5), aB A)
theorem fr_lt {A : AS} (h : cnt A < 24) : fr A < 24 ∧ aW A (fr A) = 0 := by
  have h1 : fr A < 24 := by
    apply Nat.lt_of_not_le
    intro hh
    have hle : fr A ≤ 24 := fs_le _ _
    have e : fr A = 24 := by omega
    have : cnt A = 24 := ct_full (fun j hj => by
      have := fs_no (p := fun k => decide (aW A k = 0)) (n := 24) (j := j) (show j < fr A by omega)
      exact decide_eq_true (of_decide_eq_false this))
    omega
  exact ⟨h1, of_decide_eq_true (fs_at (p := fun k => decide (aW A k = 0)) h1)⟩
theorem ent_slot {A : AS} {k id : Nat} {o : Int32} (hk : k < 24) (hm : mem A id = false) : slot (entS A k id o) id = k := by
  have hn : ∀ j, j < 24 → aW A j ≠ id + 1 := fun j hj z => by rw [mem_of hj z] at hm; cases hm
  refine fs_eq (fun j hj => ?_) (fun _ => ?_) (by omega)
  · show decide (up (aW A) k (id + 1) j = id + 1) = false
    rw [up_n _ _ (by omega)]
    exact decide_eq_false (hn j (by omega))
  · show decide (up (aW A) k (id + 1) k = id + 1) = true
    rw [up_s]; exact decide_eq_true rfl
theorem ent_slot_ne {A : AS} {k id i : Nat} {o : Int32} (hw : aW A k = 0) (hi : i ≠ id) : slot (entS A k id o) i = slot A i := by
  refine fs_congr (fun j hj => ?_)
  show decide (up (aW A) k (id + 1) j = i + 1) = decide (aW A j = i + 1)
  by_cases e : j = k
  · subst e; rw [up_s, hw, decide_eq_false (by omega), decide_eq_false (by omega)]
  · rw [up_n _ _ e]
theorem ent_cnt {A : AS} {k id : Nat} {o : Int32} (hk : k < 24) (hw : aW A k = 0) : cnt (entS A k id o) = cnt A + 1 := by
  refine ct_up (q := fun j => decide (up (aW A) k (id + 1) j ≠ 0)) hk ?_ ?_ (fun j hj e => ?_)
  · show decide (aW A k ≠ 0) = false
    rw [hw]; rfl
  · show decide (up (aW A) k (id + 1) k ≠ 0) = true
    rw [up_s]; exact decide_eq_true (by omega)
  · show _ = decide (up (aW A) k (id + 1) j ≠ 0)
    rw [up_n _ _ e]
theorem WF_ent {A : AS} {k id : Nat} {o : Int32} (h : WF A) (hk : k < 24) (hw : aW A k = 0) (hid : id < 256) (hm : mem A id = false) : WF (entS A k id o) := by
  have hn : ∀ j, j < 24 → aW A j ≠ id + 1 := fun j hj z => by rw [mem_of hj z] at hm; cases hm
  refine ⟨fun j hj => ?_, fun i j hi hj h1 h2 => ?_, fun j b hj hb => ?_⟩
  · show up (aW A) k (id + 1) j ≤ 256
    by_cases e : j = k
    · rw [e, up_s]; omega
    · rw [up_n _ _ e]; exact h.1 j hj
  · change up (aW A) k (id + 1) i ≠ 0 at h1
    change up (aW A) k (id + 1) i = up (aW A) k (id + 1) j at h2
    by_cases ei : i = k
    · by_cases ej : j = k
      · omega
      · rw [ei, up_s, up_n _ _ ej] at h2; exact absurd h2.symm (hn j hj)
    · rw [up_n _ _ ei] at h1 h2
      by_cases ej : j = k
      · rw [ej, up_s] at h2; exact absurd h2 (hn i hi)
      · rw [up_n _ _ ej] at h2; exact h.2.1 i j hi hj h1 h2
  · show (aB A j b).length ≤ 4 ∧ (up (aW A) k (id + 1) j = 0 → aB A j b = []) ∧ ((aB A j b).map (fun e => e.1)).Nodup ∧ ∀ e, e ∈ aB A j b → e.1 < 256 ∧ e.1 ≠ up (aW A) k (id + 1) j - 1 ∧ bN (up (aW A) k (id + 1) j - 1) e.1 = b
    by_cases e : j = k
    · subst e
      have h0 := (h.2.2 j b hj hb).2.1 hw
      rw [h0]
      exact ⟨by simp, fun _ => rfl, by simp, fun e he => by cases he⟩
    · rw [up_n _ _ e]; exact h.2.2 j b hj hb
theorem pX2_freeRow {N s : Nat} {m : zMem} {A : AS} (hN : 24 < N) (h : RepC m s A) (hw : WF A) (hc : cnt A < 24) : fX2_freeRow N s m = some (nI (fr A)) := by
  obtain ⟨h1, h2⟩ := fr_lt hc
  simp only [fX2_freeRow, kjn]
  refine klp_at (fun i => nI i) (fr A) rfl (fun i hi rec => ?_) (fun rec => ?_) (by omega)
  · have hno := of_decide_eq_false (fs_no (p := fun k => decide (aW A k = 0)) (n := 24) hi)
    have := hw.1 i (by omega)
    simp only [sX2_freeRow_2]
    rw [nn24, if_neg (nI_ge (by omega) (by omega)), kld_n (by omega) (by decide), h.2.2.2.2.1 i (by omega), nI_sub1 (by omega), if_neg (nI_ne_m1 (by omega)), nI_1]
  · simp only [sX2_freeRow_2]
    rw [nn24, if_neg (nI_ge (by omega) (by omega)), kld_n (by omega) (by decide), h.2.2.2.2.1 _ (by omega), h2, if_pos (by decide)]
/-- one that enters without a sponsor; with one -/
def en0 (A : AS) (id : Nat) (o : Int32) : AS := entS A (fr A) id o
def en1 (A : AS) (id : Nat) (o : Int32) (sp : Nat) : AS := lookA (learnS (learnS (en0 A id o) sp id) id sp) id id
theorem RepC_ent {s k id : Nat} {m m' : zMem} {A : AS} {o : Int32} (h : RepC m s A) (hk : k < 24) (hw : aW A k = 0) (hid : id < 256) (hm : mem A id = false)
    (g : ∀ c j, m'.1 c j = if c = s + 2 ∧ j = id then nI k else if c = s + 3 ∧ j = k then nI id else if c = s + 4 ∧ j = k then o else if c = s + 5 ∧ j = k then aS A 5 else if c = s + 7 ∧ 8 * k ≤ j ∧ j < 8 * k + 8 then 0 else if c = s ∧ j = 7 then nI (cnt A) + 1 else if c = s ∧ j = 6 then aS A 6 + 1 else if c = s + 1 ∧ j = 0 then aS A 7 + 1 else m.1 c j) (hb0 : ∀ b, b < 8 → aB A k b = []) : RepC m' s (entS A k id o) := by
  obtain ⟨h1, h2, h3, h4, h5, h6⟩ := h
  have go : ∀ c j, ¬ (c = s + 2 ∧ j = id) → ¬ (c = s + 3 ∧ j = k) → ¬ (c = s + 4 ∧ j = k) → ¬ (c = s + 5 ∧ j = k) → ¬ (c = s + 7 ∧ 8 * k ≤ j ∧ j < 8 * k + 8) → ¬ (c = s ∧ j = 7) → ¬ (c = s ∧ j = 6) → ¬ (c = s + 1 ∧ j = 0) → m'.1 c j = m.1 c j := fun c j q1 q2 q3 q4 q5 q6 q7 q8 => by
    rw [g, if_neg q1, if_neg q2, if_neg q3, if_neg q4, if_neg q5, if_neg q6, if_neg q7, if_neg q8]
  refine ⟨fun i hi => ?_, ?_, fun i hi => ?_, fun i hi => ?_, fun j hj => ?_, fun j hj hwj => ?_⟩
  · show _ = up (up (aS A) 6 (aS A 6 + 1)) 7 (aS A 7 + 1) i
    rw [up_n _ _ (by omega)]
    by_cases e : i = 6
    · subst e
      rw [up_s, g, if_neg (by omega), if_neg (by omega), if_neg (by omega), if_neg (by omega), if_neg (by omega), if_neg (by omega), if_pos ⟨rfl, rfl⟩]
    · rw [up_n _ _ e, go _ _ (by omega) (by omega) (by omega) (by omega) (by omega) (by omega) (by omega) (by omega)]; exact h1 i hi
  · rw [ent_cnt hk hw, g, if_neg (by omega), if_neg (by omega), if_neg (by omega), if_neg (by omega), if_neg (by omega), if_pos ⟨rfl, rfl⟩, nI_1]
  · show _ = up (up (aS A) 6 (aS A 6 + 1)) 7 (aS A 7 + 1) (7 + i)
    by_cases e : i = 0
    · subst e
      rw [up_s, g, if_neg (by omega), if_neg (by omega), if_neg (by omega), if_neg (by omega), if_neg (by omega), if_neg (by omega), if_neg (by omega), if_pos ⟨rfl, rfl⟩]
    · rw [up_n _ _ (by omega), up_n _ _ (by omega), go _ _ (by omega) (by omega) (by omega) (by omega) (by omega) (by omega) (by omega) (by omega)]; exact h3 i hi
  · unfold rowI
    by_cases e : i = id
    · subst e
      rw [ent_slot hk hm, if_pos hk, g, if_pos ⟨rfl, rfl⟩]
    · rw [ent_slot_ne hw e, go _ _ (by omega) (by omega) (by omega) (by omega) (by omega) (by omega) (by omega) (by omega)]; exact h4 i hi
  · show _ = nI (up (aW A) k (id + 1) j) - 1
    by_cases e : j = k
    · subst e
      rw [up_s, nI_sub1 (by omega), Nat.add_sub_cancel, g, if_neg (by omega), if_pos ⟨rfl, rfl⟩]
    · rw [up_n _ _ e, go _ _ (by omega) (by omega) (by omega) (by omega) (by omega) (by omega) (by omega) (by omega)]; exact h5 j hj
  · change up (aW A) k (id + 1) j ≠ 0 at hwj
    show _ = up (aO A) k o j ∧ _ = up (aC A) k (aS A 5) j ∧ ∀ b, b < 8 → BkC m' s (8 * j + b) (aB A j b)
    by_cases e : j = k
    · subst e
      rw [up_s, up_s]
      refine ⟨by rw [g, if_neg (by omega), if_neg (by omega), if_pos ⟨rfl, rfl⟩], by rw [g, if_neg (by omega), if_neg (by omega), if_neg (by omega), if_pos ⟨rfl, rfl⟩], fun b hb => ?_⟩
      rw [hb0 b hb]
      refine ⟨?_, by simp, fun i e he => by simp at he⟩
      rw [g, if_neg (by omega), if_neg (by omega), if_neg (by omega), if_neg (by omega), if_pos (by omega)]; rfl
    · rw [up_n _ _ e] at hwj
      obtain ⟨a1, a2, a3⟩ := h6 j hj hwj
      rw [up_n _ _ e, up_n _ _ e]
      refine ⟨?_, ?_, fun b hb => ?_⟩
      · rw [go _ _ (by omega) (by omega) (by omega) (by omega) (by omega) (by omega) (by omega) (by omega)]; exact a1
      · rw [go _ _ (by omega) (by omega) (by omega) (by omega) (by omega) (by omega) (by omega) (by omega)]; exact a2
      · refine BK_congr (a3 b hb) ?_ (fun i hi => ?_) (fun i hi => ?_)
        · exact go _ _ (by omega) (by omega) (by omega) (by omega) (by omega) (by omega) (by omega) (by omega)
        · exact go _ _ (by omega) (by omega) (by omega) (by omega) (by omega) (by omega) (by omega) (by omega)
        · exact go _ _ (by omega) (by omega) (by omega) (by omega) (by omega) (by omega) (by omega) (by omega)
theorem RepC_ens {N s k : Nat} {m : zMem} {A : AS} (hN : 9 < N) (h : RepC m s A) (hk : k < 24) (hw : aW A k ≠ 0) : fX3_entriesOf N s (nI k) m = some (nI (ens A k)) := pX3_entriesOf hN hk (h.2.2.2.2.2 k hk hw).2.2
theorem look_W (A : AS) (a x : Nat) : aW (lookA A a x) = aW A ∧ aO (lookA A a x) = aO A ∧ aC (lookA A a x) = aC A := pz_W A a x _ _
theorem WF_look {A : AS} {a x : Nat} (h : WF A) (ha : a < 256) (hx : x < 256) (hm : mem A a = true) : WF (lookA A a x) := WF_pz (A := A) (B := cA A (nst A a x) (lDead A a x) (lHit A a x)) h hx ha rfl hm _ (fun i hi => nst_has hi)
theorem en1_W (A : AS) (id : Nat) (o : Int32) (sp : Nat) : aW (en1 A id o sp) = aW (en0 A id o) := (look_W _ _ _).1.trans ((learn_W _ _ _).1.trans (learn_W _ _ _).1)
theorem pX2_enter {N s id : Nat} {m : zMem} {A : AS} {o : Int32} {q : Option Nat} (hN : 40 < N) (hs : isS s) (h : RepC m s A) (hw : WF A) (hc : cnt A < 24) (hid : id < 256) (hm : mem A id = false) (hq : ∀ sp, q = some sp → sp < 256 ∧ mem A sp = true) :
    ∃ m', fX2_enter N s (nI id) o ((q.map nI).getD (-1)) m = some (nI (ens ((q.map (en1 A id o)).getD (en0 A id o)) (fr A)), m') ∧ RepC m' s ((q.map (en1 A id o)).getD (en0 A id o)) ∧ frV m m' s := by
  obtain ⟨hk, hk0⟩ := fr_lt hc
  have hs10 := isS_ge hs
  simp only [fX2_enter, kgi, kpi, kjn]
  rw [pX2_freeRow (by omega) h hw hc, kc1_s, if_neg (nI_ne_m1 (by omega)), kst_n (by omega) (by decide), kst_n (by omega) (by decide), kst_n (by omega) (by decide), kst_n (by omega) (by decide), pX3_clear (by omega) hk, kc1_s, nn0, kld_n (by omega) (by decide), kst_n (by omega) (by decide)]
  obtain ⟨m1, hm1⟩ : ∃ z, z = zsI (zsI (zsI (zsI m (s + 2) id (nI (fr A))) (s + 3) (fr A) (nI id)) (s + 4) (fr A) o) (s + 5) (fr A) ((zsI (zsI (zsI m (s + 2) id (nI (fr A))) (s + 3) (fr A) (nI id)) (s + 4) (fr A) o).1 s 5) := ⟨_, rfl⟩
  rw [← hm1]
  have t5 : (zsI (zsI (zsI m (s + 2) id (nI (fr A))) (s + 3) (fr A) (nI id)) (s + 4) (fr A) o).1 s 5 = aS A 5 := by
    rw [zsI_n _ _ (by omega), zsI_n _ _ (by omega), zsI_n _ _ (by omega)]; exact h.1 5 (by omega)
  rw [t5] at hm1
  have g1 : ∀ c j, m1.1 c j = if c = s + 5 ∧ j = fr A then aS A 5 else if c = s + 4 ∧ j = fr A then o else if c = s + 3 ∧ j = fr A then nI id else if c = s + 2 ∧ j = id then nI (fr A) else m.1 c j := fun c j => by
    rw [hm1, zsI_g, zsI_g, zsI_g, zsI_g]
  obtain ⟨c1, c2⟩ := clr_g s (fr A) m1 8
  obtain ⟨m2, hm2⟩ : ∃ z, z = clr s (fr A) m1 8 := ⟨_, rfl⟩
  rw [← hm2] at c1 c2 ⊢
  have v7 : m2.1 s 7 = nI (cnt A) := by
    rw [c2, if_neg (by omega), g1, if_neg (by omega), if_neg (by omega), if_neg (by omega), if_neg (by omega)]; exact h.2.1
  have v6 : (zsI m2 s 7 (m2.1 s 7 + 1)).1 s 6 = aS A 6 := by
    rw [zsI_n _ _ (by omega), c2, if_neg (by omega), g1, if_neg (by omega), if_neg (by omega), if_neg (by omega), if_neg (by omega)]; exact h.1 6 (by omega)
  rw [v6, v7]
  have v0 : (zsI (zsI m2 s 7 (nI (cnt A) + 1)) s 6 (aS A 6 + 1)).1 (s + 1) 0 = aS A 7 := by
    rw [zsI_n _ _ (by omega), zsI_n _ _ (by omega), c2, if_neg (by omega), g1, if_neg (by omega), if_neg (by omega), if_neg (by omega), if_neg (by omega)]; exact h.2.2.1 0 (by omega)
  rw [v0]
  obtain ⟨m3, hm3⟩ : ∃ z, z = zsI (zsI (zsI m2 s 7 (nI (cnt A) + 1)) s 6 (aS A 6 + 1)) (s + 1) 0 (aS A 7 + 1) := ⟨_, rfl⟩
  rw [← hm3]
  have g3 : ∀ c j, m3.1 c j = if c = s + 2 ∧ j = id then nI (fr A) else if c = s + 3 ∧ j = fr A then nI id else if c = s + 4 ∧ j = fr A then o else if c = s + 5 ∧ j = fr A then aS A 5 else if c = s + 7 ∧ 8 * fr A ≤ j ∧ j < 8 * fr A + 8 then 0 else if c = s ∧ j = 7 then nI (cnt A) + 1 else if c = s ∧ j = 6 then aS A 6 + 1 else if c = s + 1 ∧ j = 0 then aS A 7 + 1 else m.1 c j := fun c j => by
    rw [hm3, zsI_g, zsI_g, zsI_g, c2, g1]
    by_cases q1 : c = s + 1 ∧ j = 0
    · simp only [if_pos q1]
      rw [if_neg (by omega), if_neg (by omega), if_neg (by omega), if_neg (by omega), if_neg (by omega), if_neg (by omega), if_neg (by omega)]
    · simp only [if_neg q1]
      by_cases q2 : c = s ∧ j = 6
      · simp only [if_pos q2]
        rw [if_neg (by omega), if_neg (by omega), if_neg (by omega), if_neg (by omega), if_neg (by omega), if_neg (by omega)]
      · simp only [if_neg q2]
        by_cases q3 : c = s ∧ j = 7
        · simp only [if_pos q3]
          rw [if_neg (by omega), if_neg (by omega), if_neg (by omega), if_neg (by omega), if_neg (by omega)]
        · simp only [if_neg q3]
          by_cases q4 : c = s + 7 ∧ 8 * fr A ≤ j ∧ j < 8 * fr A + 8
          · simp only [if_pos q4]
            rw [if_neg (by omega), if_neg (by omega), if_neg (by omega), if_neg (by omega)]
          · simp only [if_neg q4]
            by_cases q5 : c = s + 5 ∧ j = fr A
            · simp only [if_pos q5]
              rw [if_neg (by omega), if_neg (by omega), if_neg (by omega)]
            · simp only [if_neg q5]
              by_cases q6 : c = s + 4 ∧ j = fr A
              · simp only [if_pos q6]
                rw [if_neg (by omega), if_neg (by omega)]
              · simp only [if_neg q6]
                by_cases q7 : c = s + 3 ∧ j = fr A
                · simp only [if_pos q7]
                  rw [if_neg (by omega)]
                · simp only [if_neg q7]
  have hb0 : ∀ b, b < 8 → aB A (fr A) b = [] := fun b hb => (hw.2.2 _ b hk hb).2.1 hk0
  have R3 : RepC m3 s (en0 A id o) := RepC_ent h hk hk0 hid hm g3 hb0
  have f3 : frV m m3 s := ⟨by rw [hm3]; show m2.2 = _; rw [c1, hm1]; rfl, fun c hc => by
    funext j
    rw [g3, if_neg (by omega), if_neg (by omega), if_neg (by omega), if_neg (by omega), if_neg (by omega), if_neg (by omega), if_neg (by omega), if_neg (by omega)]⟩
  have W0 : WF (en0 A id o) := WF_ent hw hk hk0 hid hm
  have hwk : aW (en0 A id o) (fr A) ≠ 0 := by
    show up (aW A) (fr A) (id + 1) (fr A) ≠ 0
    rw [up_s]; omega
  have hsl : slot (en0 A id o) id = fr A := ent_slot hk hm
  have mid : mem (en0 A id o) id = true := (mem_iff _ _).mpr (by omega)
  cases q with
  | none =>
    show ∃ m', (if (-1 : Int32) = -1 then _ else _) = _ ∧ _
    rw [if_pos rfl, RepC_ens (by omega) R3 hk hwk, kc1_s]
    exact ⟨m3, rfl, R3, f3⟩
  | some sp =>
    obtain ⟨hsp, hmsp⟩ := hq sp rfl
    have hne : sp ≠ id := fun e => by rw [e, hm] at hmsp; cases hmsp
    have msp : mem (en0 A id o) sp = true := by
      have := ent_slot_ne (o := o) hk0 hne
      exact (mem_iff _ _).mpr (by
        have h2 := (mem_iff _ _).mp hmsp
        show slot (entS A (fr A) id o) sp < 24
        omega)
    have eq1 : ((some sp : Option Nat).map nI).getD (-1) = nI sp := rfl
    rw [eq1, if_neg (nI_ne_m1 (by omega))]
    obtain ⟨m4, e4, R4, f4⟩ := pX2_learn (N := N) (by omega) R3 hsp hid hne msp mid
    obtain ⟨m5, e5, R5, f5⟩ := pX2_learn (N := N) (by omega) R4 hid hsp (Ne.symm hne) (by rw [mem_W (learn_W _ _ _).1]; exact mid) (by rw [mem_W (learn_W _ _ _).1]; exact msp)
    have W1 := WF_learn W0 hsp hid hne msp
    have W2 := WF_learn W1 hid hsp (Ne.symm hne) (by rw [mem_W (learn_W _ _ _).1]; exact mid)
    have mid2 : mem (learnS (learnS (en0 A id o) sp id) id sp) id = true := by rw [mem_W (learn_W _ _ _).1, mem_W (learn_W _ _ _).1]; exact mid
    obtain ⟨m6, e6, R6, -, -, -, -, f6⟩ := pX2_makeLookup hN hs R5 W2 hid hid mid2
    rw [e4, kc1_s, e5, kc1_s, e6, kc2_s]
    have hwk2 : aW (en1 A id o sp) (fr A) ≠ 0 := by rw [en1_W]; exact hwk
    rw [RepC_ens (A := en1 A id o sp) (by omega) R6 hk hwk2, kc1_s]
    exact ⟨m6, rfl, R6, ((f3.tr (f4.V hs)).tr (f5.V hs)).tr f6⟩
