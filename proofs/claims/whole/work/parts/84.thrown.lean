/-! the class's calls that throw: which exception, by the same numbers as the reference's -/
theorem tro1 {a lo hi : Int32} (h : ¬ (lo ≤ a ∧ a ≤ hi)) (m : zMem) : tX5_refuseOutside a lo hi m = some 1 := by
  unfold tX5_refuseOutside
  rw [pX5_isOutside, kc1_s, if_neg h, if_neg (show ¬ (1 : Int32) = 0 by decide)]
theorem tro0 {a lo hi : Int32} (h : lo ≤ a ∧ a ≤ hi) (m : zMem) : tX5_refuseOutside a lo hi m = none := by
  unfold tX5_refuseOutside
  rw [pX5_isOutside, kc1_s, if_pos h, if_pos (show (0 : Int32) = 0 from rfl)]
theorem trn1 {a : Int32} (h : ¬ 0 ≤ a) (m : zMem) : tX5_refuseNegative a m = some 1 := by
  unfold tX5_refuseNegative
  rw [if_neg h]
theorem trn0 {a : Int32} (h : 0 ≤ a) (m : zMem) : tX5_refuseNegative a m = none := by
  unfold tX5_refuseNegative
  rw [if_pos h]
theorem frn0 {a : Int32} (h : 0 ≤ a) : fX5_refuseNegative a = some () := by
  unfold fX5_refuseNegative
  rw [if_pos h]
theorem trs {r : Int32} (h : cd r) (h0 : ¬ r = 0) (m : zMem) : tX5_raise r m = some (iN r) := by
  unfold tX5_raise
  rcases h with e | e | e | e
  · exact absurd e h0
  · subst e; rfl
  · subst e; rfl
  · subst e; rfl
theorem trs0 (m : zMem) : tX5_raise 0 m = none := rfl
theorem kct_s (E : Nat) (r : Option Nat) : kct (some E) r = some E := rfl
theorem kct_n (r : Option Nat) : kct none r = r := rfl
theorem t5_setPuzzles {m : zMem} {a b c : Int32} (hf : ¬ okP a b c) : tX5_setPuzzles a b c m = some 1 := by
  unfold tX5_setPuzzles
  by_cases q1 : (0 : Int32) ≤ a ∧ a ≤ 6
  · rw [tro0 q1, kct_n, pX5_refuse q1, kc1_s]
    by_cases q2 : (10 : Int32) ≤ b ∧ b ≤ 1000
    · rw [tro0 q2, kct_n, pX5_refuse q2, kc1_s, tro1 (fun z => hf ⟨q1, q2, z⟩), kct_s]
    · rw [tro1 q2, kct_s]
  · rw [tro1 q1, kct_s]
theorem t5_setQuotas {m : zMem} {a b : Int32} (hf : ¬ okQ a b) : tX5_setQuotas a b m = some 1 := by
  unfold tX5_setQuotas
  by_cases q1 : (1 : Int32) ≤ a ∧ a ≤ 4
  · rw [tro0 q1, kct_n, pX5_refuse q1, kc1_s, tro1 (fun z => hf ⟨q1, z⟩), kct_s]
  · rw [tro1 q1, kct_s]
theorem t5_tick {m : zMem} {d : Int32} (hf : ¬ okT d) : tX5_tick d m = some 1 := by
  have hf' : ¬ ((1 : Int32) ≤ d ∧ d ≤ 500) := hf
  unfold tX5_tick fX5_tickFault
  rw [pX5_isOutside, kc1_s, if_neg hf', if_neg (show ¬ (1 : Int32) = 0 by decide), kc1_s]
  rfl
theorem t5_solve {m : zMem} {a : Int32} (hf : ¬ okI a) : tX5_solve a m = some 1 := by
  unfold tX5_solve
  rw [tro1 hf, kct_s]
theorem t5_zeros {m : zMem} {a b c : Int32} (hf : ¬ okZ a b c) : tX5_zeros a b c m = some 1 := by
  unfold tX5_zeros
  by_cases q1 : okI a
  · rw [tro0 q1, kct_n, pX5_refuse q1, kc1_s]
    by_cases q2 : (0 : Int32) ≤ b ∧ b ≤ 99999
    · rw [tro0 q2, kct_n, pX5_refuse q2, kc1_s, trn1 (fun z => hf ⟨q1, q2, z⟩), kct_s]
    · rw [tro1 q2, kct_s]
  · rw [tro1 q1, kct_s]
theorem t5_join {n : Nat} {m : zMem} {A : AS} {L : List AS} {id o nc sp : Int32} (h : PC m A L) (g : GD A n) (hn : n < 2 ^ 31) (hf : ¬ jnF A id o nc sp = 0) : tX5_join id o nc sp m = some (iN (jnF A id o nc sp)) := by
  have hs := h.1.1 0 (by omega)
  simp only [tX5_join, kgr]
  unfold jnF at hf ⊢
  by_cases q1 : (0 : Int32) ≤ nc ∧ nc ≤ 99999
  · rw [if_pos q1] at hf ⊢
    rw [tro0 q1, kct_n, pX5_refuse q1, kc1_s, pX5_entryFault id o sp hs h.2.1, kc1_s]
    by_cases q2 : enF A id o sp = 0
    · rw [if_pos q2] at hf ⊢
      rw [q2, trs0, kct_n, raise0, kc1_s, kis_s hs, pX2_isSolvedBy h.2.1 (g.ok hn), kc1_s]
      by_cases q3 : nI (zr id nc (epA A)) < dif A
      · rw [if_pos q3, if_pos (show (0 : Int32) = 0 from rfl), if_pos q3]; rfl
      · rw [if_neg q3] at hf
        exact absurd rfl hf
    · rw [if_neg q2] at hf ⊢
      rw [trs (cd_en _ _ _ _) q2, kct_s]
  · rw [if_neg q1] at hf ⊢
    rw [tro1 q1, kct_s]; rfl
theorem t5_admit {N n : Nat} {m : zMem} {A : AS} {L : List AS} {id o sp : Int32} (hN : 100000 < N) (h : PC m A L) (g : GD A n) (hn : n < 2 ^ 31) (hf : ¬ adF A id o sp = 0) : tX5_admit N id o sp m = some (iN (adF A id o sp)) := by
  have hs := h.1.1 0 (by omega)
  unfold tX5_admit
  rw [pX5_admissionFault hN id o sp hs h.2.1 (g.ok hn), kc1_s, trs (cd_ad _ _ _ _) hf, kct_s]
theorem t5_leave {m : zMem} {A : AS} {L : List AS} {a : Int32} (h : PC m A L) (hf : ¬ mbF A a = 0) : tX5_leave a m = some (iN (mbF A a)) := by
  have hs := h.1.1 0 (by omega)
  unfold tX5_leave
  rw [pX5_memberFault a hs h.2.1, kc1_s, trs (cd_mb _ _) hf, kct_s]
theorem t5_reach {m : zMem} {A : AS} {L : List AS} {a : Int32} (h : PC m A L) (hf : ¬ mbF A a = 0) : tX5_reach a m = some (iN (mbF A a)) := by
  have hs := h.1.1 0 (by omega)
  unfold tX5_reach
  rw [pX5_memberFault a hs h.2.1, kc1_s, trs (cd_mb _ _) hf, kct_s]
theorem t5_lookup {m : zMem} {A : AS} {L : List AS} {a x : Int32} (h : PC m A L) (hf : ¬ lkF A a x = 0) : tX5_lookup a x m = some (iN (lkF A a x)) := by
  have hs := h.1.1 0 (by omega)
  unfold tX5_lookup
  rw [pX5_lookupFault a x hs h.2.1, kc1_s, trs (cd_lk _ _ _) hf, kct_s]
theorem t5_probe {m : zMem} {A : AS} {L : List AS} {a x q : Int32} (h : PC m A L) (hf : ¬ pbF A a x q = 0) : tX5_probe a x q m = some (iN (pbF A a x q)) := by
  have hs := h.1.1 0 (by omega)
  unfold tX5_probe
  unfold pbF at hf ⊢
  by_cases q1 : ok3 q
  · rw [if_pos q1] at hf ⊢
    rw [tro0 q1, kct_n, pX5_refuse q1, kc1_s, pX5_lookupFault a x hs h.2.1, kc1_s, trs (cd_lk _ _ _) hf, kct_s]
  · rw [if_neg q1, tro1 q1, kct_s]; rfl
theorem t5_member {m : zMem} {a q : Int32} (hf : ¬ okM a q) : tX5_member a q m = some 1 := by
  unfold tX5_member
  by_cases q1 : okI a
  · rw [tro0 q1, kct_n, pX5_refuse q1, kc1_s, tro1 (fun z => hf ⟨q1, z⟩), kct_s]
  · rw [tro1 q1, kct_s]
theorem t5_memberAt {m : zMem} {a : Int32} (hf : ¬ 0 ≤ a) : tX5_memberAt a m = some 1 := by
  unfold tX5_memberAt
  rw [trn1 hf, kct_s]
theorem t5_entry {m : zMem} {A : AS} {L : List AS} {a b c d : Int32} (h : PC m A L) (hf : ¬ etF A a b c d = 0) : tX5_entry a b c d m = some (iN (etF A a b c d)) := by
  have hs := h.1.1 0 (by omega)
  unfold tX5_entry
  unfold etF at hf ⊢
  by_cases q1 : (0 : Int32) ≤ b ∧ b ≤ 7
  · rw [tro0 q1, kct_n, pX5_refuse q1, kc1_s]
    by_cases q2 : (0 : Int32) ≤ c
    · rw [trn0 q2, kct_n, frn0 q2, kc1_s]
      by_cases q3 : (0 : Int32) ≤ d ∧ d ≤ 1
      · have q : okE b c d := ⟨q1, q2, q3⟩
        rw [if_pos q] at hf ⊢
        rw [tro0 q3, kct_n, pX5_refuse q3, kc1_s, pX5_memberFault a hs h.2.1, kc1_s, trs (cd_mb _ _) hf, kct_s]
      · rw [if_neg (show ¬ okE b c d from fun z => q3 z.2.2), tro1 q3, kct_s]; rfl
    · rw [if_neg (show ¬ okE b c d from fun z => q2 z.2.1), trn1 q2, kct_s]; rfl
  · rw [if_neg (show ¬ okE b c d from fun z => q1 z.1), tro1 q1, kct_s]; rfl
theorem t5_share {m : zMem} {A : AS} {L : List AS} {a o : Int32} (h : PC m A L) (hf : ¬ shF A a o = 0) : tX5_share a o m = some (iN (shF A a o)) := by
  have hs := h.1.1 0 (by omega)
  unfold tX5_share
  unfold shF at hf ⊢
  by_cases q1 : ok7 o
  · rw [if_pos q1] at hf ⊢
    rw [tro0 q1, kct_n, pX5_refuse q1, kc1_s, pX5_memberFault a hs h.2.1, kc1_s, trs (cd_mb _ _) hf, kct_s]
  · rw [if_neg q1, tro1 q1, kct_s]; rfl
theorem t5_overlay {m : zMem} {a : Int32} (hf : ¬ ok8 a) : tX5_overlay a m = some 1 := by
  unfold tX5_overlay
  rw [tro1 hf, kct_s]
theorem t5_count {m : zMem} {a : Int32} (hf : ¬ ok8 a) : tX5_count a m = some 1 := by
  unfold tX5_count
  rw [tro1 hf, kct_s]
theorem t5_swarm {m : zMem} {A : AS} {L : List AS} {a b c o p : Int32} (h : PC m A L) (hf : ¬ swF A a b c o p = 0) : tX5_swarm a b c o p m = some (iN (swF A a b c o p)) := by
  have hs := h.1.1 0 (by omega)
  unfold tX5_swarm
  unfold swF at hf ⊢
  by_cases q1 : okI a
  · rw [tro0 q1, kct_n, pX5_refuse q1, kc1_s]
    by_cases q2 : (1 : Int32) ≤ b ∧ b ≤ 255
    · rw [tro0 q2, kct_n, pX5_refuse q2, kc1_s]
      by_cases q3 : (1 : Int32) ≤ c ∧ c ≤ 16
      · rw [tro0 q3, kct_n, pX5_refuse q3, kc1_s]
        by_cases q4 : ok7 o
        · rw [tro0 q4, kct_n, pX5_refuse q4, kc1_s, pX5_memberFault p hs h.2.1, kc1_s]
          by_cases q5 : okI p
          · rw [if_pos (show okW a b c o p from ⟨q1, q2, q3, q4, q5⟩)] at hf ⊢
            rw [trs (cd_mb _ _) hf, kct_s]
          · rw [if_neg (show ¬ okW a b c o p from fun z => q5 z.2.2.2.2)]
            unfold mbF
            rw [if_neg q5]; rfl
        · rw [if_neg (show ¬ okW a b c o p from fun z => q4 z.2.2.2.1), tro1 q4, kct_s]; rfl
      · rw [if_neg (show ¬ okW a b c o p from fun z => q3 z.2.2.1), tro1 q3, kct_s]; rfl
    · rw [if_neg (show ¬ okW a b c o p from fun z => q2 z.2.1), tro1 q2, kct_s]; rfl
  · rw [if_neg (show ¬ okW a b c o p from fun z => q1 z.1), tro1 q1, kct_s]; rfl
theorem t5_type1 {m : zMem} {a : Int32} (hf : ¬ (0 ≤ a ∧ a ≤ 127)) : tX5_type a m = some 1 := by
  unfold tX5_type
  rw [tro1 hf, kct_s]
theorem t5_type2 {m : zMem} {a : Int32} {f : Nat → Int32} (hf : 0 ≤ a ∧ a ≤ 127) (s : ScC m 120 f) : tX5_type a m = some 2 := by
  unfold tX5_type kgi
  rw [tro0 hf, kct_n, pX5_refuse hf, kc1_s, s.1]
  rfl
theorem t5_undo {m : zMem} {A : AS} (h : PC m A []) : tX5_undo m = some 2 := by
  unfold tX5_undo kgi
  rw [h.2.2.2.1]
  rfl
