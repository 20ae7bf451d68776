/-! one command of a script: its word (0 join, 1 leave, 2 look, else tick), its numbers; whether it is done, and what it leaves -/
def dsp (A : AS) (c : Int32) : Int32 := if cnt A = 0 then -1 else c
def doS (A : AS) (w : Nat) (a b c : Int32) : Bool × AS :=
  if w = 0 then (if adF A a b (dsp A c) = 0 then (true, enA A a b (dsp A c)) else (false, A))
  else if w = 1 then (if mbF A a = 0 then (true, lvA A a) else (false, A))
  else if w = 2 then (if lkF A a b = 0 then (true, luA A a b) else (false, A))
  else if okT a then (true, (tkS A a).2) else (false, A)
theorem GD_do {A : AS} {n w : Nat} {a b c : Int32} (g : GD A n) : GD (doS A w a b c).2 (n + 500) := by
  unfold doS
  split
  · split
    · rename_i h
      exact (GD_en g (adF_0 h)).mono (by omega)
    · exact g.mono (by omega)
  · split
    · split
      · exact (GD_end g).mono (by omega)
      · exact g.mono (by omega)
    · split
      · split
        · rename_i h
          obtain ⟨q1, q2⟩ := lkF_0 h
          obtain ⟨q3, q4⟩ := mbF_0 q2
          exact (GD_look g (okI_n q3).1 (okI_n q1).1 q4).mono (by omega)
        · exact g.mono (by omega)
      · split
        · rename_i h
          obtain ⟨k1, k2⟩ := okT_n h
          have g2 := (GD_tick (d := iN a) g).2
          rw [← k2] at g2
          dsimp only
          exact g2.mono (by omega)
        · exact g.mono (by omega)
theorem le0 {r : Int32} (h : cd r) : (r ≤ 0) ↔ r = 0 := by
  rcases h with e | e | e | e <;> subst e <;> decide
theorem e5_carry {N n i w : Nat} {m : zMem} {A : AS} {L : List AS} {a b c : Int32} (hN : 100000 < N) (h : PC m A L) (g : GD A n) (hn : n + 500 < 2 ^ 31) (hi : i < 20) (hw : w < 4) (w0 : m.1 8 i = nI w) (a0 : m.1 9 (3 * i) = a) (b0 : m.1 9 (3 * i + 1) = b) (c0 : m.1 9 (3 * i + 2) = c) : ∃ m', fX5_carryOut N (nI i) m = some (if (doS A w a b c).1 = true then 1 else 0, m') ∧ PC m' (doS A w a b c).2 L ∧ frX m m' := by
  have hs := h.1.1 0 (by omega)
  have hc := cnt_le A
  have nm : ∀ j, j < 3 → fX1_number (nI i) (nI j) m = some (m.1 9 (3 * i + j)) := fun j hj => by
    unfold fX1_number
    rw [nn3, pk_mul, nI_add, kld_n (by omega) (by decide), Nat.mul_comm]
  have n0 : fX1_number (nI i) 0 m = some a := by rw [nn0, nm 0 (by omega), ← a0]; rfl
  have n1 : fX1_number (nI i) 1 m = some b := by rw [nn1, nm 1 (by omega), ← b0]
  have n2 : fX1_number (nI i) 2 m = some c := by rw [nn2, nm 2 (by omega), ← c0]
  simp only [fX5_carryOut, kgr, kgi, kjn]
  rw [n0, kc1_s, n1, kc1_s, kld_n hi (by decide), w0]
  unfold doS
  rcases (by omega : w = 0 ∨ w = 1 ∨ w = 2 ∨ w = 3) with e | e | e | e <;> subst e
  · rw [if_pos (show nI 0 = 0 from rfl), if_pos (show (0 : Nat) = 0 from rfl), kis_s hs, h.2.1.2.1]
    have main : ∃ m', (kc1 (fX5_admissionFault N a b (dsp A c) m) fun v7 => if v7 = 0 then kis (m.2.2 0) (kc2 (fX2_enter N (m.2.2 0) a b (dsp A c) m) fun v9 m10 => some ((1 : Int32), m10)) else some (0, m)) = some (if ((if adF A a b (dsp A c) = 0 then (true, enA A a b (dsp A c)) else (false, A)) : Bool × AS).1 = true then 1 else 0, m') ∧ PC m' ((if adF A a b (dsp A c) = 0 then (true, enA A a b (dsp A c)) else (false, A)) : Bool × AS).2 L ∧ frX m m' := by
      rw [pX5_admissionFault hN a b (dsp A c) hs h.2.1 (g.ok (by omega)), kc1_s]
      by_cases q : adF A a b (dsp A c) = 0
      · obtain ⟨m1, e1, p1, f1, -⟩ := eX2_enter (N := N) (by omega) h g.1 (adF_0 q)
        rw [if_pos q, kis_s hs, e1, kc2_s, if_pos q]
        exact ⟨m1, rfl, p1, f1⟩
      · rw [if_neg q, if_neg q]
        exact ⟨m, rfl, h, frX.rf m⟩
    by_cases q : cnt A = 0
    · have e1 : dsp A c = -1 := if_pos q
      rw [e1] at main ⊢
      rw [q, if_pos (show nI 0 = 0 from rfl)]
      exact main
    · have e1 : dsp A c = c := if_neg q
      rw [e1] at main ⊢
      rw [if_neg (show ¬ nI (cnt A) = 0 from fun z => q (nI_inj (by omega) (by omega) (z.trans nn0))), n2, kc1_s]
      exact main
  · rw [if_neg (show ¬ nI 1 = 0 by decide), if_pos (show nI 1 = 1 from rfl), if_neg (show ¬ (1 : Nat) = 0 by omega), if_pos (show (1 : Nat) = 1 from rfl), pX5_memberFault a hs h.2.1, kc1_s]
    by_cases q : mbF A a = 0
    · obtain ⟨m1, e1, p1, f1, -⟩ := eX2_end h g.1 q
      rw [if_pos q, kis_s hs, e1, kc1_s, if_pos q]
      exact ⟨m1, rfl, p1, f1⟩
    · rw [if_neg q, if_neg q]
      exact ⟨m, rfl, h, frX.rf m⟩
  · rw [if_neg (show ¬ nI 2 = 0 by decide), if_neg (show ¬ nI 2 = 1 by decide), if_pos (show nI 2 = 2 from rfl), if_neg (show ¬ (2 : Nat) = 0 by omega), if_neg (show ¬ (2 : Nat) = 1 by omega), if_pos (show (2 : Nat) = 2 from rfl), pX5_lookupFault a b hs h.2.1, kc1_s]
    by_cases q : lkF A a b = 0
    · obtain ⟨m1, e1, p1, f1, -⟩ := eX2_look (N := N) (by omega) h g.1 q
      rw [if_pos q, kis_s hs, e1, kc2_s, if_pos q]
      exact ⟨m1, rfl, p1, f1⟩
    · rw [if_neg q, if_neg q]
      exact ⟨m, rfl, h, frX.rf m⟩
  · rw [if_neg (show ¬ nI 3 = 0 by decide), if_neg (show ¬ nI 3 = 1 by decide), if_neg (show ¬ nI 3 = 2 by decide), if_neg (show ¬ (3 : Nat) = 0 by omega), if_neg (show ¬ (3 : Nat) = 1 by omega), if_neg (show ¬ (3 : Nat) = 2 by omega)]
    unfold fX5_tickFault
    rw [pX5_isOutside, kc1_s]
    by_cases q : okT a
    · have q' : (1 : Int32) ≤ a ∧ a ≤ 500 := q
      obtain ⟨m1, e1, p1, f1, -, -⟩ := eX2_tick (N := N) (by omega) h g hn q
      rw [if_pos q', if_pos (show (0 : Int32) = 0 from rfl), kc1_s, if_pos (show (0 : Int32) = 0 from rfl), kis_s hs, e1, kc2_s, if_pos q]
      dsimp only
      rw [if_pos (show true = true from rfl)]
      exact ⟨m1, rfl, p1, f1⟩
    · have q' : ¬ ((1 : Int32) ≤ a ∧ a ≤ 500) := q
      rw [if_neg q', if_neg (show ¬ (1 : Int32) = 0 by decide), kc1_s, if_neg (show ¬ (1 : Int32) = 0 by decide), if_neg q]
      exact ⟨m, rfl, h, frX.rf m⟩
