/-! the reference's calls that are refused: the code lies in its field, the rest is as it was -/
abbrev cd (r : Int32) : Prop := r = 0 ∨ r = 1 ∨ r = 2 ∨ r = 3
theorem rfz {r : Int32} (h : cd r) (h0 : ¬ r = 0) (m : zMem) : fX6_refused r m = some (1, zsI m 0 4 r) := pX6_refusedp (by rcases h with e | e | e | e; exact absurd e h0; exact Or.inl e; exact Or.inr (Or.inl e); exact Or.inr (Or.inr e)) m
theorem cd_mb (A : AS) (a : Int32) : cd (mbF A a) := by
  unfold mbF
  split
  · split
    · exact Or.inl rfl
    · exact Or.inr (Or.inr (Or.inl rfl))
  · exact Or.inr (Or.inl rfl)
theorem cd_lk (A : AS) (a x : Int32) : cd (lkF A a x) := by
  unfold lkF
  split
  · exact cd_mb A a
  · exact Or.inr (Or.inl rfl)
theorem cd_en (A : AS) (a o p : Int32) : cd (enF A a o p) := by
  unfold enF
  split
  · split
    · exact Or.inr (Or.inr (Or.inl rfl))
    · split
      · split
        · exact Or.inl rfl
        · exact Or.inr (Or.inr (Or.inr rfl))
      · exact Or.inr (Or.inr (Or.inl rfl))
  · exact Or.inr (Or.inl rfl)
theorem cd_ad (A : AS) (a o p : Int32) : cd (adF A a o p) := by
  unfold adF
  split
  · split
    · exact Or.inr (Or.inr (Or.inr rfl))
    · exact Or.inl rfl
  · exact cd_en A a o p
theorem cd_jn (A : AS) (a o c p : Int32) : cd (jnF A a o c p) := by
  unfold jnF
  split
  · split
    · split
      · exact Or.inr (Or.inr (Or.inr rfl))
      · exact Or.inl rfl
    · exact cd_en A a o p
  · exact Or.inr (Or.inl rfl)
theorem cd_et (A : AS) (a b c d : Int32) : cd (etF A a b c d) := by
  unfold etF
  split
  · exact cd_mb A a
  · exact Or.inr (Or.inl rfl)
theorem cd_sh (A : AS) (a o : Int32) : cd (shF A a o) := by
  unfold shF
  split
  · exact cd_mb A a
  · exact Or.inr (Or.inl rfl)
theorem cd_pb (A : AS) (a x q : Int32) : cd (pbF A a x q) := by
  unfold pbF
  split
  · exact cd_lk A a x
  · exact Or.inr (Or.inl rfl)
theorem cd_sw (A : AS) (a b c o p : Int32) : cd (swF A a b c o p) := by
  unfold swF
  split
  · exact cd_mb A p
  · exact Or.inr (Or.inl rfl)
theorem r6_admit {N n : Nat} {m : zMem} {A : AS} {id o sp : Int32} (hN : 100000 < N) (h : RowM (m.1 1) A) (g : GD A n) (hn : n < 2 ^ 31) (hf : ¬ adF A id o sp = 0) : fX6_admit N id o sp m = some (0, zsI m 0 4 (adF A id o sp)) := by
  simp only [fX6_admit]
  rw [pX6_badAdmission hN h g.1 (g.ok hn), kc1_s, rfz (cd_ad _ _ _ _) hf, kc2_s, if_neg (show ¬ (1 : Int32) = 0 by decide)]
theorem r6_join {N n : Nat} {m : zMem} {A : AS} {id o nc sp : Int32} (hN : 100000 < N) (h : RowM (m.1 1) A) (g : GD A n) (hn : n < 2 ^ 31) (hf : ¬ jnF A id o nc sp = 0) : fX6_join N id o nc sp m = some (0, zsI m 0 4 (jnF A id o nc sp)) := by
  rw [jn6 hN h g hn, rfz (cd_jn _ _ _ _ _) hf, kc2_s, if_neg (show ¬ (1 : Int32) = 0 by decide)]
theorem r6_leave {N : Nat} {m : zMem} {A : AS} {a : Int32} (hN : 24 < N) (h : RowM (m.1 1) A) (hw : WF A) (hf : ¬ mbF A a = 0) : fX6_leave N a m = some (0, zsI m 0 4 (mbF A a)) := by
  simp only [fX6_leave]
  rw [pX6_badMember hN h hw, kc1_s, rfz (cd_mb _ _) hf, kc2_s, if_neg (show ¬ (1 : Int32) = 0 by decide)]
theorem r6_reach {N : Nat} {m : zMem} {A : AS} {a : Int32} (hN : 24 < N) (h : RowM (m.1 1) A) (hw : WF A) (hf : ¬ mbF A a = 0) : fX6_reach N a m = some (0, zsI m 0 4 (mbF A a)) := by
  simp only [fX6_reach, kjn]
  rw [pX6_badMember hN h hw, kc1_s, rfz (cd_mb _ _) hf, kc2_s, if_neg (show ¬ (1 : Int32) = 0 by decide)]
theorem r6_lookup {N : Nat} {m : zMem} {A : AS} {a x : Int32} (hN : 24 < N) (h : RowM (m.1 1) A) (hw : WF A) (hf : ¬ lkF A a x = 0) : fX6_lookup N a x m = some (0, zsI m 0 4 (lkF A a x)) := by
  simp only [fX6_lookup]
  rw [pX6_badLook hN h hw, kc1_s, rfz (cd_lk _ _ _) hf, kc2_s, if_neg (show ¬ (1 : Int32) = 0 by decide)]
theorem r6_entry {N : Nat} {m : zMem} {A : AS} {a b c d : Int32} (hN : 24 < N) (h : RowM (m.1 1) A) (hw : WF A) (hf : ¬ etF A a b c d = 0) : fX6_entry N a b c d m = some (0, zsI m 0 4 (etF A a b c d)) := by
  rw [et6 hN h hw, rfz (cd_et _ _ _ _ _) hf, kc2_s, if_neg (show ¬ (1 : Int32) = 0 by decide)]
theorem r6_share {N : Nat} {m : zMem} {A : AS} {a o : Int32} (hN : 24 < N) (h : RowM (m.1 1) A) (hw : WF A) (hf : ¬ shF A a o = 0) : fX6_share N a o m = some (0, zsI m 0 4 (shF A a o)) := by
  rw [sh6 hN h hw, rfz (cd_sh _ _ _) hf, kc2_s, if_neg (show ¬ (1 : Int32) = 0 by decide)]
theorem r6_probe {N : Nat} {m : zMem} {A : AS} {a x q : Int32} (hN : 24 < N) (h : RowM (m.1 1) A) (hw : WF A) (hf : ¬ pbF A a x q = 0) : fX6_probe N a x q m = some (0, zsI m 0 4 (pbF A a x q)) := by
  rw [pb6 hN h hw, rfz (cd_pb _ _ _ _) hf, kc2_s, if_neg (show ¬ (1 : Int32) = 0 by decide)]
theorem r6_swarm {N : Nat} {m : zMem} {A : AS} {a b c o p : Int32} (hN : 24 < N) (h : RowM (m.1 1) A) (hw : WF A) (hf : ¬ swF A a b c o p = 0) : fX6_swarm N a b c o p m = some (0, zsI m 0 4 (swF A a b c o p)) := by
  rw [sw6 hN h hw, rfz (cd_sw _ _ _ _ _ _) hf, kc2_s, if_neg (show ¬ (1 : Int32) = 0 by decide)]
theorem rf1 (m : zMem) : fX6_refused 1 m = some (1, zsI m 0 4 1) := pX6_refusedp (Or.inl rfl) m
theorem rf2 (m : zMem) : fX6_refused 2 m = some (1, zsI m 0 4 2) := pX6_refusedp (Or.inr (Or.inl rfl)) m
theorem r6_tick {N : Nat} {m : zMem} {d : Int32} (hf : ¬ okT d) : fX6_tick N d m = some (0, zsI m 0 4 1) := by
  simp only [fX6_tick, kjn]
  rw [ticks_iff, if_neg hf, kc1_s, if_pos (show (0 : Int32) = 0 from rfl), rf1, kc2_s, if_neg (show ¬ (1 : Int32) = 0 by decide)]
theorem r6_solve {N : Nat} {m : zMem} {a : Int32} (hf : ¬ okI a) : fX6_solve N a m = some (0, zsI m 0 4 1) := by
  have hf' : ¬ ((0 : Int32) ≤ a ∧ a ≤ 255) := hf
  simp only [fX6_solve, kjn]
  rw [id_iff, if_neg hf', kc1_s, if_pos (show (0 : Int32) = 0 from rfl), rf1, kc2_s, if_neg (show ¬ (1 : Int32) = 0 by decide)]
theorem r6_count {m : zMem} {a : Int32} (hf : ¬ ok8 a) : fX6_count a m = some (0, zsI m 0 4 1) := by
  have hf' : ¬ ((0 : Int32) ≤ a ∧ a ≤ 8) := hf
  simp only [fX6_count, kjn]
  rw [pX6_in, if_neg hf', kc1_s, if_pos (show (0 : Int32) = 0 from rfl), rf1, kc2_s, if_neg (show ¬ (1 : Int32) = 0 by decide)]
theorem r6_overlay {N : Nat} {m : zMem} {a : Int32} (hf : ¬ ok8 a) : fX6_overlay N a m = some (0, zsI m 0 4 1) := by
  have hf' : ¬ ((0 : Int32) ≤ a ∧ a ≤ 8) := hf
  simp only [fX6_overlay, kjn]
  rw [pX6_in, if_neg hf', kc1_s, if_pos (show (0 : Int32) = 0 from rfl), rf1, kc2_s, if_neg (show ¬ (1 : Int32) = 0 by decide)]
theorem r6_memberAt {N : Nat} {m : zMem} {a : Int32} (hf : ¬ 0 ≤ a) : fX6_memberAt N a m = some (0, zsI m 0 4 1) := by
  simp only [fX6_memberAt, kjn]
  rw [if_neg hf, rf1, kc2_s, if_neg (show ¬ (1 : Int32) = 0 by decide)]
theorem r6_undo {N : Nat} {m : zMem} {A : AS} (h : PM m A []) : fX6_undo N m = some (0, zsI m 0 4 1) := by
  have e : m.1 0 3 = 0 := h.2.2.1
  simp only [fX6_undo, kjn, kgi]
  rw [e, if_pos (show (0 : Int32) = 0 from rfl), rf1, kc2_s, if_neg (show ¬ (1 : Int32) = 0 by decide)]
