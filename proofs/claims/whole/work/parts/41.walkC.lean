/-! the class's walk: who is next, what a member tells -/
theorem KN_congr {m : zMem} {mk mk' : Nat → Nat} {x : Nat} (hx : x < 256) (h : KN m mk x) (he : ∀ id, id < 256 → mk' id = mk id) : KN m mk' x ∧ ct (Qk mk' x) 256 = ct (Qk mk x) 256 := by
  have hq : ∀ d, d < 256 → Qk mk' x d = Qk mk x d := fun d hd => by unfold Qk; rw [he _ (xor_lt (n := 8) hx hd)]
  have hc : ∀ d, d ≤ 256 → ct (Qk mk' x) d = ct (Qk mk x) d := fun d hd => ct_congr (fun j hj => hq j (by omega))
  refine ⟨⟨by rw [hc 256 (Nat.le_refl _)]; exact h.1, by rw [hc 256 (Nat.le_refl _)]; exact h.2.1, fun d hd hd2 => ?_⟩, hc 256 (Nat.le_refl _)⟩
  rw [hq d hd] at hd2
  rw [hc d (by omega), he _ (xor_lt (n := 8) hx hd)]
  exact h.2.2 d hd hd2
/-- the distance of the known one at a spot -/
def sl (mk : Nat → Nat) (x s : Nat) : Nat := fs (fun d => Qk mk x d && decide (ct (Qk mk x) d = s)) 256
theorem sl_at {mk : Nat → Nat} {x s : Nat} (h : s < ct (Qk mk x) 256) : sl mk x s < 256 ∧ Qk mk x (sl mk x s) = true ∧ ct (Qk mk x) (sl mk x s) = s := by
  obtain ⟨d, h1, h2, h3⟩ := ct_sel h
  have h4 : sl mk x s ≤ d := fs_lt (p := fun d => Qk mk x d && decide (ct (Qk mk x) d = s)) h1 (by simp [h2, h3])
  have h5 : (Qk mk x (sl mk x s) && decide (ct (Qk mk x) (sl mk x s) = s)) = true := fs_at (p := fun d => Qk mk x d && decide (ct (Qk mk x) d = s)) (n := 256) (by show sl mk x s < 256; omega)
  simp only [Bool.and_eq_true, decide_eq_true_eq] at h5
  exact ⟨by omega, h5.1, h5.2⟩
theorem sl_of {mk : Nat → Nat} {x d : Nat} (hd : d < 256) (hq : Qk mk x d = true) : sl mk x (ct (Qk mk x) d) = d := by
  have h := sl_at (mk := mk) (x := x) (s := ct (Qk mk x) d) (ct_app hd hq)
  exact ct_inj h.2.1 hq h.2.2
theorem sl_end {mk : Nat → Nat} {x s : Nat} (h : ct (Qk mk x) 256 ≤ s) : sl mk x s = 256 := by
  refine fs_eq (fun j hj => ?_) (fun hk => absurd hk (by omega)) (Nat.le_refl _)
  by_cases hq : Qk mk x j = true
  · have := ct_app hj hq
    have hne : ¬ ct (Qk mk x) j = s := by omega
    simp [hne]
  · simp [hq]
def lv (mk : Nat → Nat) (x s : Nat) : Nat := ct (fun e => decide (mk (x ^^^ e) = 2)) (sl mk x s)
theorem lv_s {mk : Nat → Nat} {x s : Nat} (h : s < ct (Qk mk x) 256) : lv mk x (s + 1) = lv mk x s + (if mk (x ^^^ sl mk x s) = 2 then 1 else 0) := by
  obtain ⟨a1, a2, a3⟩ := sl_at h
  have hlt : sl mk x s < sl mk x (s + 1) := by
    by_cases h2 : s + 1 < ct (Qk mk x) 256
    · obtain ⟨b1, b2, b3⟩ := sl_at h2
      exact (ct_lt_iff a2).mp (by omega)
    · rw [sl_end (s := s + 1) (by omega)]; exact a1
  unfold lv
  rw [ct_gap (d := sl mk x s + 1) (e := sl mk x (s + 1)) (by omega), ct_s]
  · simp only [decide_eq_true_eq]
  · intro i h1 h2
    apply decide_eq_false
    intro h3
    have hq : Qk mk x i = true := by unfold Qk; rw [h3]; rfl
    have g1 := ct_app (p := Qk mk x) (d := sl mk x s) (e := i) (by omega) a2
    by_cases h4 : s + 1 < ct (Qk mk x) 256
    · obtain ⟨b1, b2, b3⟩ := sl_at h4
      have := ct_app (p := Qk mk x) (d := i) (e := sl mk x (s + 1)) h2 hq
      omega
    · rw [sl_end (by omega)] at h2
      have := ct_app (p := Qk mk x) (d := i) (e := 256) h2 hq
      omega
theorem lv_0 (mk : Nat → Nat) (x : Nat) : lv mk x 0 = 0 := by
  unfold lv
  refine ct_zero (fun j hj => decide_eq_false fun h3 => ?_)
  have hq : Qk mk x j = true := by unfold Qk; rw [h3]; rfl
  have hle : sl mk x 0 ≤ 256 := fs_le _ _
  by_cases h4 : 0 < ct (Qk mk x) 256
  · obtain ⟨b1, b2, b3⟩ := sl_at h4
    have := ct_app (p := Qk mk x) hj hq
    omega
  · have := ct_app (p := Qk mk x) (d := j) (e := 256) (by omega) hq
    omega
theorem pX4_nextSpot {N x : Nat} {m : zMem} {mk : Nat → Nat} (hN : 40 < N) (hm : KN m mk x) : fX4_nextSpot N m = some (if has mk x = true then nI (ct (Qk mk x) (nx mk x)) else -1) := by
  obtain ⟨h1, h2, h3⟩ := hm
  simp only [fX4_nextSpot, kjn]
  have hBle := fs_le (fun s => decide (3 ≤ lv mk x s) || decide (mk (x ^^^ sl mk x s) = 1)) (ct (Qk mk x) 256)
  generalize hB : fs (fun s => decide (3 ≤ lv mk x s) || decide (mk (x ^^^ sl mk x s) = 1)) (ct (Qk mk x) 256) = B at hBle
  have hno : ∀ s, s < B → lv mk x s < 3 ∧ ¬ mk (x ^^^ sl mk x s) = 1 := fun s hs => by
    have := fs_no (p := fun s => decide (3 ≤ lv mk x s) || decide (mk (x ^^^ sl mk x s) = 1)) (n := ct (Qk mk x) 256) (by rw [hB]; exact hs)
    simp only [Bool.or_eq_false_iff, decide_eq_false_iff_not] at this
    exact ⟨by omega, this.2⟩
  have mks : ∀ s, s < ct (Qk mk x) 256 → m.1 5 s = nI (mk (x ^^^ sl mk x s) - 1) ∧ mk (x ^^^ sl mk x s) ≤ 3 ∧ mk (x ^^^ sl mk x s) ≠ 0 := fun s hs => by
    obtain ⟨a1, a2, a3⟩ := sl_at hs
    have := h3 _ a1 a2
    rw [a3] at this
    exact ⟨this.2.1, this.2.2, of_decide_eq_true a2⟩
  -- nobody with mark 1 before the spot B
  have hnx : ∀ d, d < 256 → mk (x ^^^ d) = 1 → B ≤ ct (Qk mk x) d := fun d hd hm1 => by
    apply Nat.le_of_not_lt
    intro hlt
    have hq : Qk mk x d = true := by unfold Qk; rw [hm1]; rfl
    have := (hno _ hlt).2
    rw [sl_of hd hq] at this
    exact this hm1
  refine klp_at (fun s => (nI (lv mk x s), nI s)) B (by rw [lv_0]; rfl) (fun s hs rec => ?_) (fun rec => ?_) (by omega)
  · obtain ⟨g1, g2, g3⟩ := mks s (by omega)
    obtain ⟨q1, q2⟩ := hno s hs
    simp only [sX4_nextSpot_4, kgi]
    rw [h1, if_neg (nI_ge (by omega) (by omega)), nn3, if_neg (nI_ge (by omega) (by omega)), kld_n (by omega) (by decide), g1, if_neg (nI_ne0 (by omega) (by omega)), kld_n (by omega) (by decide), g1, lv_s (by omega), nI_1, nI_1, nn1]
    by_cases e : mk (x ^^^ sl mk x s) = 2
    · rw [e, if_pos rfl, if_pos rfl]
    · rw [if_neg (fun z => by have := nI_inj (by omega) (by omega) z; omega), if_neg e]
      rfl
  · simp only [sX4_nextSpot_4, kgi]
    rw [h1]
    by_cases hb : B = ct (Qk mk x) 256
    · rw [hb, if_pos (nI_le (Nat.le_refl _) (by omega)), if_neg]
      intro hh
      obtain ⟨n1, n2⟩ := has_nx hh
      have hq : Qk mk x (nx mk x) = true := by unfold Qk; rw [n2]; rfl
      have := hnx _ n1 n2
      have := ct_app (p := Qk mk x) n1 hq
      omega
    · obtain ⟨g1, g2, g3⟩ := mks B (by omega)
      obtain ⟨a1, a2, a3⟩ := sl_at (mk := mk) (x := x) (s := B) (by omega)
      have hat : (decide (3 ≤ lv mk x B) || decide (mk (x ^^^ sl mk x B) = 1)) = true := by
        have := fs_at (p := fun s => decide (3 ≤ lv mk x s) || decide (mk (x ^^^ sl mk x s) = 1)) (n := ct (Qk mk x) 256) (by rw [hB]; omega)
        rw [hB] at this
        exact this
      rw [if_neg (nI_ge (by omega) (by omega)), nn3]
      have hlvle : lv mk x B ≤ 256 := Nat.le_trans (ct_le _ _) (by omega)
      by_cases h3' : 3 ≤ lv mk x B
      · rw [if_pos (nI_le h3' (by omega)), if_neg]
        intro hh
        obtain ⟨n1, n2⟩ := has_nx hh
        have hq : Qk mk x (nx mk x) = true := by unfold Qk; rw [n2]; rfl
        have hge := hnx _ n1 n2
        have hsl : sl mk x B ≤ nx mk x := by
          apply Nat.le_of_not_lt
          intro z
          have := ct_app (p := Qk mk x) z hq
          omega
        have := ct_mono (fun e => decide (mk (x ^^^ e) = 2)) hsl
        unfold has at hh
        simp only [Bool.and_eq_true, decide_eq_true_eq] at hh
        unfold lv at h3'
        omega
      · have hm1 : mk (x ^^^ sl mk x B) = 1 := by
          simp only [Bool.or_eq_true, decide_eq_true_eq] at hat
          rcases hat with z | z
          · exact absurd z h3'
          · exact z
        have hnxe : nx mk x = sl mk x B := by
          refine fs_eq (fun j hj => decide_eq_false fun z => ?_) (fun _ => decide_eq_true hm1) (by omega)
          have h9 := hnx j (by omega) z
          have hqj : Qk mk x j = true := by unfold Qk; rw [z]; rfl
          have := ct_app (p := Qk mk x) hj hqj
          omega
        have hh : has mk x = true := by
          unfold has
          rw [hnxe]
          simp only [Bool.and_eq_true, decide_eq_true_eq]
          unfold lv at h3'
          omega
        rw [if_neg (nI_ge (by omega) (by omega)), kld_n (by omega) (by decide), g1, hm1, if_pos (by decide), if_pos hh, hnxe, a3]
