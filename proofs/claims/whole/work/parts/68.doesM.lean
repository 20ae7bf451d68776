/-! the same of the reference, whose words are 1 to 4 -/
theorem e6_does {N n w : Nat} {m : zMem} {A : AS} {L : List AS} {a b c : Int32} (hN : 100000 < N) (h : PM m A L) (g : GD A n) (hn : n + 500 < 2 ^ 31) (hw : w < 4) (w0 : m.1 0 12 = nI (w + 1)) (a0 : m.1 6 0 = a) (b0 : m.1 6 1 = b) (c0 : m.1 6 2 = c) : ∃ m', fX6_does N m = some (if (doS A w a b c).1 = true then 1 else 0, m') ∧ PM m' (doS A w a b c).2 L ∧ frQ m m' := by
  have hc := cnt_le A
  have n0 : ∀ k : Int32 → Option (Int32 × zMem), kld m 6 3 0 k = k a := fun k => by rw [nn0, kld_n (by omega) (by decide), a0]
  have n1 : ∀ k : Int32 → Option (Int32 × zMem), kld m 6 3 1 k = k b := fun k => by rw [nn1, kld_n (by omega) (by decide), b0]
  have n2 : ∀ k : Int32 → Option (Int32 × zMem), kld m 6 3 2 k = k c := fun k => by rw [nn2, kld_n (by omega) (by decide), c0]
  simp only [fX6_does, kgi, kjn]
  rw [n0, w0]
  simp only [n1]
  unfold doS
  rcases (by omega : w = 0 ∨ w = 1 ∨ w = 2 ∨ w = 3) with e | e | e | e <;> subst e
  · rw [if_pos (show nI (0 + 1) = 1 from rfl), if_pos (show (0 : Nat) = 0 from rfl), pX6_memberMany (by omega) h.1 g.1.1, kc1_s]
    have main : ∃ m', (kc1 (fX6_badAdmission N a b (dsp A c) m) fun v6 => if v6 ≤ 0 then kc2 (fX6_joins N a b (dsp A c) m) fun v8 m9 => some ((1 : Int32), m9) else some (0, m)) = some (if ((if adF A a b (dsp A c) = 0 then (true, enA A a b (dsp A c)) else (false, A)) : Bool × AS).1 = true then 1 else 0, m') ∧ PM m' ((if adF A a b (dsp A c) = 0 then (true, enA A a b (dsp A c)) else (false, A)) : Bool × AS).2 L ∧ frQ m m' := by
      rw [pX6_badAdmission hN h.1 g.1 (g.ok (by omega)), kc1_s]
      by_cases q : adF A a b (dsp A c) = 0
      · obtain ⟨m1, e1, p1, f1⟩ := eX6_joins (N := N) (by omega) h g.1 (adF_0 q)
        rw [if_pos ((le0 (cd_ad _ _ _ _)).mpr q), e1, kc2_s, if_pos q]
        exact ⟨m1, rfl, p1, f1⟩
      · rw [if_neg (fun z => q ((le0 (cd_ad _ _ _ _)).mp z)), if_neg q]
        exact ⟨m, rfl, h, frQ.rf m⟩
    by_cases q : cnt A = 0
    · have e1 : dsp A c = -1 := if_pos q
      rw [e1] at main ⊢
      rw [q, if_pos (show nI 0 = 0 from rfl)]
      exact main
    · have e1 : dsp A c = c := if_neg q
      rw [e1] at main ⊢
      rw [if_neg (show ¬ nI (cnt A) = 0 from fun z => q (nI_inj (by omega) (by omega) (z.trans nn0))), n2]
      exact main
  · rw [if_neg (show ¬ nI (1 + 1) = 1 by decide), if_pos (show nI (1 + 1) = 2 from rfl), if_neg (show ¬ (1 : Nat) = 0 by omega), if_pos (show (1 : Nat) = 1 from rfl), pX6_badMember (by omega) h.1 g.1, kc1_s]
    by_cases q : mbF A a = 0
    · obtain ⟨v, m1, e1, e2, p1, f1⟩ := eX6_end (N := N) (by omega) h g.1 q
      rw [if_pos ((le0 (cd_mb _ _)).mpr q), e1, kc1_s, e2, kc1_s, if_pos q]
      exact ⟨m1, rfl, p1, f1⟩
    · rw [if_neg (fun z => q ((le0 (cd_mb _ _)).mp z)), if_neg q]
      exact ⟨m, rfl, h, frQ.rf m⟩
  · rw [if_neg (show ¬ nI (2 + 1) = 1 by decide), if_neg (show ¬ nI (2 + 1) = 2 by decide), if_pos (show nI (2 + 1) = 3 from rfl), if_neg (show ¬ (2 : Nat) = 0 by omega), if_neg (show ¬ (2 : Nat) = 1 by omega), if_pos (show (2 : Nat) = 2 from rfl), pX6_badLook (by omega) h.1 g.1, kc1_s]
    by_cases q : lkF A a b = 0
    · obtain ⟨m1, e1, p1, f1⟩ := eX6_look (N := N) (by omega) h g.1 q
      rw [if_pos ((le0 (cd_lk _ _ _)).mpr q), e1, kc2_s, if_pos q]
      exact ⟨m1, rfl, p1, f1⟩
    · rw [if_neg (fun z => q ((le0 (cd_lk _ _ _)).mp z)), if_neg q]
      exact ⟨m, rfl, h, frQ.rf m⟩
  · rw [if_neg (show ¬ nI (3 + 1) = 1 by decide), if_neg (show ¬ nI (3 + 1) = 2 by decide), if_neg (show ¬ nI (3 + 1) = 3 by decide), if_neg (show ¬ (3 : Nat) = 0 by omega), if_neg (show ¬ (3 : Nat) = 1 by omega), if_neg (show ¬ (3 : Nat) = 2 by omega), ticks_iff, kc1_s]
    by_cases q : okT a
    · obtain ⟨m1, e1, p1, f1⟩ := eX6_tick (N := N) (by omega) h g hn q
      rw [if_pos q, if_neg (show ¬ (1 : Int32) = 0 by decide), e1, kc2_s, if_pos q]
      dsimp only
      rw [if_pos (show true = true from rfl)]
      exact ⟨m1, rfl, p1, f1⟩
    · rw [if_neg q, if_pos (show (0 : Int32) = 0 from rfl), if_neg q]
      exact ⟨m, rfl, h, frQ.rf m⟩
