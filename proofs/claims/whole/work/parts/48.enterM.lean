/-! the same of the reference -/
theorem RowM_ent {k id : Nat} {f f' : Nat → Int32} {A : AS} {o : Int32} (h : RowM f A) (hk : k < 24) (hw : aW A k = 0)
    (g : ∀ j, f' j = if j = 16 + 75 * k then nI (id + 1) else if j = 17 + 75 * k then o else if j = 18 + 75 * k then aS A 5 else if j = 6 then aS A 6 + 1 else if j = 7 then aS A 7 + 1 else f j) : RowM f' (entS A k id o) := by
  obtain ⟨h1, h2⟩ := h
  have go : ∀ j, j ≠ 16 + 75 * k → j ≠ 17 + 75 * k → j ≠ 18 + 75 * k → j ≠ 6 → j ≠ 7 → f' j = f j := fun j q1 q2 q3 q4 q5 => by
    rw [g, if_neg q1, if_neg q2, if_neg q3, if_neg q4, if_neg q5]
  refine ⟨fun i hi => ?_, fun j hj => ?_⟩
  · show _ = up (up (aS A) 6 (aS A 6 + 1)) 7 (aS A 7 + 1) i
    by_cases e : i = 7
    · subst e; rw [up_s, g, if_neg (by omega), if_neg (by omega), if_neg (by omega), if_neg (by omega), if_pos rfl]
    · rw [up_n _ _ e]
      by_cases e2 : i = 6
      · subst e2; rw [up_s, g, if_neg (by omega), if_neg (by omega), if_neg (by omega), if_pos rfl]
      · rw [up_n _ _ e2, go _ (by omega) (by omega) (by omega) (by omega) (by omega)]; exact h1 i hi
  · obtain ⟨a1, a2, a3, a4⟩ := h2 j hj
    show _ = nI (up (aW A) k (id + 1) j) ∧ _ = up (aO A) k o j ∧ _ = up (aC A) k (aS A 5) j ∧ ∀ b, b < 8 → BkR f' j b (aB A j b)
    have bk : ∀ b, b < 8 → BkR f' j b (aB A j b) := fun b hb => by
      rcases (by omega : j = k ∨ j + 1 ≤ k ∨ k + 1 ≤ j) with q | q | q
      · subst q
        exact BK_congr (a4 b hb) (go _ (by omega) (by omega) (by omega) (by omega) (by omega)) (fun t ht => go _ (by omega) (by omega) (by omega) (by omega) (by omega)) (fun t ht => go _ (by omega) (by omega) (by omega) (by omega) (by omega))
      · have := Nat.mul_le_mul_left 75 q
        exact BK_congr (a4 b hb) (go _ (by omega) (by omega) (by omega) (by omega) (by omega)) (fun t ht => go _ (by omega) (by omega) (by omega) (by omega) (by omega)) (fun t ht => go _ (by omega) (by omega) (by omega) (by omega) (by omega))
      · have := Nat.mul_le_mul_left 75 q
        exact BK_congr (a4 b hb) (go _ (by omega) (by omega) (by omega) (by omega) (by omega)) (fun t ht => go _ (by omega) (by omega) (by omega) (by omega) (by omega)) (fun t ht => go _ (by omega) (by omega) (by omega) (by omega) (by omega))
    by_cases e : j = k
    · subst e
      rw [up_s, up_s, up_s]
      refine ⟨by rw [g, if_pos rfl], by rw [g, if_neg (by omega), if_pos rfl], by rw [g, if_neg (by omega), if_neg (by omega), if_pos rfl], bk⟩
    · rw [up_n _ _ e, up_n _ _ e, up_n _ _ e]
      rcases (by omega : j + 1 ≤ k ∨ k + 1 ≤ j) with q | q
      · have := Nat.mul_le_mul_left 75 q
        refine ⟨?_, ?_, ?_, bk⟩
        · rw [go _ (by omega) (by omega) (by omega) (by omega) (by omega)]; exact a1
        · rw [go _ (by omega) (by omega) (by omega) (by omega) (by omega)]; exact a2
        · rw [go _ (by omega) (by omega) (by omega) (by omega) (by omega)]; exact a3
      · have := Nat.mul_le_mul_left 75 q
        refine ⟨?_, ?_, ?_, bk⟩
        · rw [go _ (by omega) (by omega) (by omega) (by omega) (by omega)]; exact a1
        · rw [go _ (by omega) (by omega) (by omega) (by omega) (by omega)]; exact a2
        · rw [go _ (by omega) (by omega) (by omega) (by omega) (by omega)]; exact a3
theorem frM.L {m m' : zMem} (h : frM m m') : frL m m' := ⟨h.1, fun c a b d => h.2 c b, fun j _ _ _ => by rw [h.2 0 (by omega)]⟩
theorem pX6_joins {N id : Nat} {m : zMem} {A : AS} {o : Int32} {q : Option Nat} (hN : 256 < N) (h : RowM (m.1 1) A) (hw : WF A) (hc : cnt A < 24) (hid : id < 256) (hm : mem A id = false) (hq : ∀ sp, q = some sp → sp < 256 ∧ mem A sp = true) :
    ∃ m', fX6_joins N (nI id) o ((q.map nI).getD (-1)) m = some (nI (ens ((q.map (en1 A id o)).getD (en0 A id o)) (fr A)), m') ∧ RowM (m'.1 1) ((q.map (en1 A id o)).getD (en0 A id o)) ∧ frL m m' := by
  obtain ⟨hk, hk0⟩ := fr_lt hc
  simp only [fX6_joins, kjn]
  refine klp_iR (n := N) (z := (0 : Int32)) (fun (i : Nat) (z : Int32) => z = nI i) (fr A) (fun r => ∃ m', r = some (nI (ens ((q.map (en1 A id o)).getD (en0 A id o)) (fr A)), m') ∧ RowM (m'.1 1) ((q.map (en1 A id o)).getD (en0 A id o)) ∧ frL m m') (fun i hi z hz => ?_) (fun z hz rec => ?_) rfl (by omega)
  · subst hz
    have hno := of_decide_eq_false (fs_no (p := fun k => decide (aW A k = 0)) (n := 24) hi)
    have := hw.1 i (by omega)
    refine ⟨nI (i + 1), rfl, fun rec => ?_⟩
    simp only [sX6_joins_3]
    rw [pX6_of, kc1_s, kld_n (by omega) (by decide), (h.2 i (by omega)).1, nn0, if_neg (nI_ge (by omega) (by omega)), nI_1]
  · subst hz
    simp only [sX6_joins_3]
    rw [pX6_of, kc1_s, kld_n (by omega) (by decide), (h.2 (fr A) (by omega)).1, hk0, if_pos (by decide), kc1_s, nI_1, kst_n (by omega) (by decide), nn1, nn2, nI_add, nI_add, nn5, nn6, nn7, kst_n (by omega) (by decide), kld_n (by omega) (by decide), kst_n (by omega) (by decide), kld_n (by omega) (by decide), kst_n (by omega) (by decide), kld_n (by omega) (by decide), kst_n (by omega) (by decide)]
    obtain ⟨m1, hm1⟩ : ∃ z, z = zsI (zsI m 1 (16 + 75 * fr A) (nI (id + 1))) 1 (16 + 75 * fr A + 1) o := ⟨_, rfl⟩
    rw [← hm1]
    have g1 : ∀ j, j ≠ 16 + 75 * fr A → j ≠ 17 + 75 * fr A → m1.1 1 j = m.1 1 j := fun j q1 q2 => by
      rw [hm1, zsI_n _ _ (by omega), zsI_n _ _ (by omega)]
    have v5 : m1.1 1 5 = aS A 5 := by rw [g1 _ (by omega) (by omega)]; exact h.1 5 (by omega)
    rw [v5]
    have v6 : (zsI m1 1 (16 + 75 * fr A + 2) (aS A 5)).1 1 6 = aS A 6 := by
      rw [zsI_n _ _ (by omega), g1 _ (by omega) (by omega)]; exact h.1 6 (by omega)
    rw [v6]
    have v7 : ∀ v, (zsI (zsI m1 1 (16 + 75 * fr A + 2) (aS A 5)) 1 6 v).1 1 7 = aS A 7 := fun v => by
      rw [zsI_n _ _ (by omega), zsI_n _ _ (by omega), g1 _ (by omega) (by omega)]; exact h.1 7 (by omega)
    rw [v7, ← nn1]
    obtain ⟨m3, hm3⟩ : ∃ z, z = zsI (zsI (zsI m1 1 (16 + 75 * fr A + 2) (aS A 5)) 1 6 (aS A 6 + 1)) 1 7 (aS A 7 + 1) := ⟨_, rfl⟩
    rw [← hm3]
    have R3 : RowM (m3.1 1) (en0 A id o) := by
      refine RowM_ent h hk hk0 (fun j => ?_)
      by_cases q1 : j = 16 + 75 * fr A
      · rw [if_pos q1, q1, hm3, zsI_n _ _ (by omega), zsI_n _ _ (by omega), zsI_n _ _ (by omega), hm1, zsI_n _ _ (by omega), zsI_s]
      · rw [if_neg q1]
        by_cases q2 : j = 17 + 75 * fr A
        · rw [if_pos q2, q2, hm3, zsI_n _ _ (by omega), zsI_n _ _ (by omega), zsI_n _ _ (by omega), hm1, show 16 + 75 * fr A + 1 = 17 + 75 * fr A by omega, zsI_s]
        · rw [if_neg q2]
          by_cases q3 : j = 18 + 75 * fr A
          · rw [if_pos q3, q3, hm3, zsI_n _ _ (by omega), zsI_n _ _ (by omega), show 16 + 75 * fr A + 2 = 18 + 75 * fr A by omega, zsI_s]
          · rw [if_neg q3]
            by_cases q4 : j = 6
            · rw [if_pos q4, q4, hm3, zsI_n _ _ (by omega), zsI_s]
            · rw [if_neg q4]
              by_cases q5 : j = 7
              · rw [if_pos q5, q5, hm3, zsI_s]
              · rw [if_neg q5, hm3, zsI_n _ _ (by omega), zsI_n _ _ (by omega), zsI_n _ _ (by omega)]; exact g1 _ q1 q2
    have f3 : frM m m3 := by
      rw [hm3, hm1]
      exact ((((frM_I _ _ _).tr (frM_I _ _ _)).tr (frM_I _ _ _)).tr (frM_I _ _ _)).tr (frM_I _ _ _)
    have W0 : WF (en0 A id o) := WF_ent hw hk hk0 hid hm
    have hsl : slot (en0 A id o) id = fr A := ent_slot hk hm
    have mid : mem (en0 A id o) id = true := (mem_iff _ _).mpr (by omega)
    cases q with
    | none =>
      show ∃ m', (if (-1 : Int32) = -1 then _ else _) = _ ∧ _
      rw [if_pos rfl, pX6_entries (by omega) hk R3, kc1_s]
      exact ⟨m3, rfl, R3, f3.L⟩
    | some sp =>
      obtain ⟨hsp, hmsp⟩ := hq sp rfl
      have hne : sp ≠ id := fun e => by rw [e, hm] at hmsp; cases hmsp
      have msp : mem (en0 A id o) sp = true := by
        have := ent_slot_ne (o := o) hk0 hne
        exact (mem_iff _ _).mpr (by
          have h2 := (mem_iff _ _).mp hmsp
          show slot (entS A (fr A) id o) sp < 24
          omega)
      have eq1 : ((some sp : Option Nat).map nI).getD (-1) = nI sp := rfl
      rw [eq1, if_neg (nI_ne_m1 (by omega))]
      obtain ⟨m4, e4, R4, f4⟩ := pX6_learns (N := N) (by omega) R3 W0.1 hsp hid hne msp mid
      have W1 := WF_learn W0 hsp hid hne msp
      obtain ⟨m5, e5, R5, f5⟩ := pX6_learns (N := N) (by omega) R4 W1.1 hid hsp (Ne.symm hne) (by rw [mem_W (learn_W _ _ _).1]; exact mid) (by rw [mem_W (learn_W _ _ _).1]; exact msp)
      have W2 := WF_learn W1 hid hsp (Ne.symm hne) (by rw [mem_W (learn_W _ _ _).1]; exact mid)
      have mid2 : mem (learnS (learnS (en0 A id o) sp id) id sp) id = true := by rw [mem_W (learn_W _ _ _).1, mem_W (learn_W _ _ _).1]; exact mid
      obtain ⟨m6, e6, R6, f6, -, -, -⟩ := pX6_looks hN R5 W2 hid hid mid2
      rw [e4, kc1_s, e5, kc1_s, e6, kc2_s]
      rw [pX6_entries (A := en1 A id o sp) (by omega) hk R6, kc1_s]
      have f4' : frM m3 m4 := f4
      have f5' : frM m4 m5 := f5
      exact ⟨m6, rfl, R6, ((f3.L.tr f4'.L).tr f5'.L).tr f6⟩
