/-! the calls that change, where nothing is wrong -/
theorem e5_admit {N n : Nat} {m : zMem} {A : AS} {L : List AS} {id o sp : Int32} (hN : 100000 < N) (h : PC m A L) (g : GD A n) (hn : n < 2 ^ 31) (hf : adF A id o sp = 0) : ∃ m', fX5_admit N id o sp m = some (enR A id o sp, m') ∧ PC m' (enA A id o sp) (pushL A L) ∧ frX m m' := by
  have hs := h.1.1 0 (by omega)
  simp only [fX5_admit, kgr]
  rw [pX5_admissionFault hN id o sp hs h.2.1 (g.ok hn), kc1_s, hf, raise0, kc1_s]
  obtain ⟨m1, e1, p1, f1, r1⟩ := pX5_save h
  obtain ⟨m2, e2, p2, f2, r2⟩ := eX2_enter (N := N) (by omega) p1 g.1 (adF_0 hf)
  rw [e1, kc1_s, kis_s (p1.1.1 0 (by omega)), e2, kc2_s]
  exact ⟨m2, rfl, p2, f1.tr f2⟩
theorem PM_4 {m : zMem} {A : AS} {L : List AS} (h : PM m A L) (v : Int32) : PM (zsI m 0 4 v) A L ∧ (zsI m 0 4 v).1 0 4 = v := ⟨PM_0 h v (by omega), zsI_s _ _ _ _⟩
/-- the reference's script is as it was; its thrown field is free -/
def frP (m m' : zMem) : Prop := (∀ c, c = 4 ∨ c = 6 → m'.1 c = m.1 c) ∧ ∀ j, j ≠ 3 → j ≠ 4 → j ≠ 8 → j ≠ 9 → j ≠ 10 → m'.1 0 j = m.1 0 j
theorem frP.rf (m : zMem) : frP m m := ⟨fun _ _ => rfl, fun _ _ _ _ _ _ => rfl⟩
theorem frP.tr {m m1 m2 : zMem} (h : frP m m1) (h2 : frP m1 m2) : frP m m2 := ⟨fun c a => (h2.1 c a).trans (h.1 c a), fun j a b c d e => (h2.2 j a b c d e).trans (h.2 j a b c d e)⟩
theorem frQ.P {m m' : zMem} (h : frQ m m') : frP m m' := ⟨h.1, fun j a _ b c d => h.2 j a b c d⟩
theorem frP_4 (m : zMem) (v : Int32) : frP m (zsI m 0 4 v) := ⟨fun c a => zsI_ne _ _ _ (by omega), fun j _ a _ _ _ => zsI_n _ _ (by omega)⟩
theorem frQ.q4 {m m' : zMem} (h : frQ m m') : m'.1 0 4 = m.1 0 4 := h.2 4 (by omega) (by omega) (by omega) (by omega)
theorem e6_admit {N n : Nat} {m : zMem} {A : AS} {L : List AS} {id o sp : Int32} (hN : 100000 < N) (h : PM m A L) (g : GD A n) (hn : n < 2 ^ 31) (hf : adF A id o sp = 0) : ∃ m', fX6_admit N id o sp m = some (enR A id o sp, m') ∧ PM m' (enA A id o sp) (pushL A L) ∧ frP m m' ∧ m'.1 0 4 = 0 := by
  simp only [fX6_admit]
  rw [pX6_badAdmission hN h.1 g.1 (g.ok hn), kc1_s, hf, pX6_refused0, kc2_s, if_pos rfl]
  obtain ⟨m1, e1, p1, f1⟩ := eX6_saves (N := N) (by omega) (PM_4 h 0).1
  obtain ⟨m2, e2, p2, f2⟩ := eX6_joins (N := N) (by omega) p1 g.1 (adF_0 hf)
  rw [e1, kc1_s, e2, kc2_s]
  exact ⟨m2, rfl, p2, ((frP_4 m 0).tr f1.P).tr f2.P, by rw [f2.q4, f1.q4, zsI_s]⟩
def jnF (A : AS) (id o nc sp : Int32) : Int32 := if 0 ≤ nc ∧ nc ≤ 99999 then (if enF A id o sp = 0 then (if nI (zr id nc (epA A)) < dif A then 3 else 0) else enF A id o sp) else 1
theorem jnF_0 {A : AS} {id o nc sp : Int32} (h : jnF A id o nc sp = 0) : (0 ≤ nc ∧ nc ≤ 99999) ∧ enF A id o sp = 0 ∧ ¬ nI (zr id nc (epA A)) < dif A := by
  unfold jnF at h
  by_cases q : (0 : Int32) ≤ nc ∧ nc ≤ 99999
  · rw [if_pos q] at h
    by_cases q2 : enF A id o sp = 0
    · rw [if_pos q2] at h
      by_cases q3 : nI (zr id nc (epA A)) < dif A
      · rw [if_pos q3] at h; exact absurd h (by decide)
      · exact ⟨q, q2, q3⟩
    · rw [if_neg q2] at h; exact absurd h q2
  · rw [if_neg q] at h; exact absurd h (by decide)
theorem e5_join {N n : Nat} {m : zMem} {A : AS} {L : List AS} {id o nc sp : Int32} (hN : 100000 < N) (h : PC m A L) (g : GD A n) (hn : n < 2 ^ 31) (hf : jnF A id o nc sp = 0) : ∃ m', fX5_join N id o nc sp m = some (enR A id o sp, m') ∧ PC m' (enA A id o sp) (pushL A L) ∧ frX m m' := by
  have hs := h.1.1 0 (by omega)
  obtain ⟨q1, q2, q3⟩ := jnF_0 hf
  simp only [fX5_join, kgr]
  rw [pX5_refuse q1, kc1_s, pX5_entryFault id o sp hs h.2.1, kc1_s, q2, raise0, kc1_s, kis_s hs, pX2_isSolvedBy h.2.1 (g.ok hn), kc1_s, if_neg q3, if_neg (by decide)]
  obtain ⟨m1, e1, p1, f1, r1⟩ := pX5_save h
  obtain ⟨m2, e2, p2, f2, r2⟩ := eX2_enter (N := N) (by omega) p1 g.1 q2
  rw [e1, kc1_s, kis_s (p1.1.1 0 (by omega)), e2, kc2_s]
  exact ⟨m2, rfl, p2, f1.tr f2⟩
theorem nonce_iff (a : Int32) : fX6_isNonce a = some (if 0 ≤ a ∧ a ≤ 99999 then 1 else 0) := by
  unfold fX6_isNonce
  rw [pX6_in, kc1_s, kbz_i]
theorem jn6 {N n : Nat} {m : zMem} {A : AS} {id o nc sp : Int32} (hN : 100000 < N) (h : RowM (m.1 1) A) (g : GD A n) (hn : n < 2 ^ 31) : fX6_join N id o nc sp m = kc2 (fX6_refused (jnF A id o nc sp) m) fun v4 m5 => if v4 = 0 then kc1 (fX6_saves N m5) fun m6 => kc2 (fX6_joins N id o sp m6) fun v7 m8 => some (v7, m8) else some (0, m5) := by
  simp only [fX6_join, kjn]
  rw [nonce_iff, kc1_s, pX6_bad (by omega) h g.1, kc1_s, pX6_epochNow h (g.ok hn), kc1_s, pX6_zerosOf (by omega), kc1_s, pX6_difficulty h, kc1_s]
  unfold jnF
  by_cases q : (0 : Int32) ≤ nc ∧ nc ≤ 99999
  · rw [if_pos q, if_pos q, if_neg (show ¬ (1 : Int32) = 0 by decide)]
    by_cases q2 : enF A id o sp = 0
    · rw [if_pos q2, if_pos q2]
      by_cases q3 : nI (zr id nc (epA A)) < dif A
      · rw [if_pos q3, kc1_s, pX6_zerosOf (by omega), kc1_s, kc1_s, if_neg (Int32.not_le.mpr q3)]
      · rw [if_neg q3, kc1_s, pX6_zerosOf (by omega), kc1_s, kc1_s, if_pos (Int32.not_lt.mp q3), q2]
    · rw [if_neg q2, if_neg q2]
  · rw [if_neg q, if_neg q, if_pos (show (0 : Int32) = 0 from rfl)]
    rfl
theorem e6_join {N n : Nat} {m : zMem} {A : AS} {L : List AS} {id o nc sp : Int32} (hN : 100000 < N) (h : PM m A L) (g : GD A n) (hn : n < 2 ^ 31) (hf : jnF A id o nc sp = 0) : ∃ m', fX6_join N id o nc sp m = some (enR A id o sp, m') ∧ PM m' (enA A id o sp) (pushL A L) ∧ frP m m' ∧ m'.1 0 4 = 0 := by
  obtain ⟨q1, q2, q3⟩ := jnF_0 hf
  rw [jn6 hN h.1 g hn, hf, pX6_refused0, kc2_s, if_pos rfl]
  obtain ⟨m1, e1, p1, f1⟩ := eX6_saves (N := N) (by omega) (PM_4 h 0).1
  obtain ⟨m2, e2, p2, f2⟩ := eX6_joins (N := N) (by omega) p1 g.1 q2
  rw [e1, kc1_s, e2, kc2_s]
  exact ⟨m2, rfl, p2, ((frP_4 m 0).tr f1.P).tr f2.P, by rw [f2.q4, f1.q4, zsI_s]⟩
/-! leaving -/
def lvA (A : AS) (a : Int32) : AS := endS A (slot A (iN a))
theorem eX2_end {m : zMem} {A : AS} {L : List AS} {a : Int32} (h : PC m A L) (hw : WF A) (hf : mbF A a = 0) : ∃ m', fX2_endIdentity (m.2.2 0) a m = some m' ∧ PC m' (lvA A a) L ∧ frX m m' ∧ m'.2.2 = m.2.2 := by
  have hs := h.1.1 0 (by omega)
  obtain ⟨q1, q2⟩ := mbF_0 hf
  obtain ⟨k1, k2⟩ := okI_n q1
  have hsl := (mem_iff _ _).mp q2
  obtain ⟨m1, e1, R1, f1⟩ := pX2_endIdentity h.2.1 hw hsl (slot_at hsl)
  rw [← k2] at e1
  obtain ⟨p1, p2⟩ := PC_now h (f1.V hs) R1
  exact ⟨m1, e1, p1, p2, by rw [f1.1]⟩
theorem e5_leave {m : zMem} {A : AS} {L : List AS} {a : Int32} (h : PC m A L) (hw : WF A) (hf : mbF A a = 0) : ∃ m', fX5_leave a m = some (nI (cnt (lvA A a)), m') ∧ PC m' (lvA A a) (pushL A L) ∧ frX m m' := by
  have hs := h.1.1 0 (by omega)
  simp only [fX5_leave, kgr, kgi]
  rw [pX5_memberFault a hs h.2.1, kc1_s, hf, raise0, kc1_s]
  obtain ⟨m1, e1, p1, f1, r1⟩ := pX5_save h
  obtain ⟨m2, e2, p2, f2, r2⟩ := eX2_end p1 hw hf
  rw [e1, kc1_s, kis_s (p1.1.1 0 (by omega)), e2, kc1_s, kis_s (p2.1.1 0 (by omega)), p2.2.1.2.1]
  exact ⟨m2, rfl, p2, f1.tr f2⟩
theorem eX6_end {N : Nat} {m : zMem} {A : AS} {L : List AS} {a : Int32} (hN : 75 < N) (h : PM m A L) (hw : WF A) (hf : mbF A a = 0) : ∃ v m', fX6_placeOf N a m = some v ∧ fX6_ends N v m = some m' ∧ PM m' (lvA A a) L ∧ frQ m m' := by
  obtain ⟨q1, q2⟩ := mbF_0 hf
  obtain ⟨k1, k2⟩ := okI_n q1
  have hsl := (mem_iff _ _).mp q2
  obtain ⟨m1, e1, R1, f1⟩ := pX6_ends (N := N) hN h.1 hsl
  refine ⟨_, m1, ?_, e1, (PM_now h f1.L R1).1, f1.L.Q⟩
  rw [show fX6_placeOf N a m = fX6_placeOf N (nI (iN a)) m by rw [← k2], pX6_placeOf (by omega) h.1 hw.1 k1, if_pos hsl]
theorem e6_leave {N : Nat} {m : zMem} {A : AS} {L : List AS} {a : Int32} (hN : 3632 < N) (h : PM m A L) (hw : WF A) (hf : mbF A a = 0) : ∃ m', fX6_leave N a m = some (nI (cnt (lvA A a)), m') ∧ PM m' (lvA A a) (pushL A L) ∧ frP m m' ∧ m'.1 0 4 = 0 := by
  simp only [fX6_leave]
  rw [pX6_badMember (by omega) h.1 hw, kc1_s, hf, pX6_refused0, kc2_s, if_pos rfl]
  obtain ⟨m1, e1, p1, f1⟩ := eX6_saves (N := N) (by omega) (PM_4 h 0).1
  obtain ⟨v, m2, e2, e3, p2, f2⟩ := eX6_end (N := N) (by omega) p1 hw hf
  have hw2 : WF (lvA A a) := WF_end hw
  rw [e1, kc1_s, e2, kc1_s, e3, kc1_s, pX6_memberMany (by omega) p2.1 hw2.1, kc1_s]
  exact ⟨m2, rfl, p2, ((frP_4 m 0).tr f1.P).tr f2.P, by rw [f2.q4, f1.q4, zsI_s]⟩
/-! looking up -/
theorem lkF_0 {A : AS} {a x : Int32} (h : lkF A a x = 0) : okI x ∧ mbF A a = 0 := by
  unfold lkF at h
  by_cases q : okI x
  · rw [if_pos q] at h; exact ⟨q, h⟩
  · rw [if_neg q] at h; exact absurd h (by decide)
def luA (A : AS) (a x : Int32) : AS := lookA A (iN a) (iN x)
theorem eX2_look {N : Nat} {m : zMem} {A : AS} {L : List AS} {a x : Int32} (hN : 40 < N) (h : PC m A L) (hw : WF A) (hf : lkF A a x = 0) : ∃ m', fX2_makeLookup N (m.2.2 0) a x m = some (nI (lRes A (iN a) (iN x)), m') ∧ PC m' (luA A a x) L ∧ frX m m' ∧ m'.2.2 = m.2.2 := by
  have hs := h.1.1 0 (by omega)
  obtain ⟨q1, q2⟩ := lkF_0 hf
  obtain ⟨q3, q4⟩ := mbF_0 q2
  obtain ⟨k1, k2⟩ := okI_n q1
  obtain ⟨k3, k4⟩ := okI_n q3
  obtain ⟨m1, e1, R1, -, -, -, -, f1⟩ := pX2_makeLookup hN hs h.2.1 hw k3 k1 q4
  rw [← k2, ← k4] at e1
  obtain ⟨p1, p2⟩ := PC_now h f1 R1
  exact ⟨m1, e1, p1, p2, by rw [f1.1]⟩
theorem e5_lookup {N : Nat} {m : zMem} {A : AS} {L : List AS} {a x : Int32} (hN : 40 < N) (h : PC m A L) (hw : WF A) (hf : lkF A a x = 0) : ∃ m', fX5_lookup N a x m = some (nI (lRes A (iN a) (iN x)), m') ∧ PC m' (luA A a x) (pushL A L) ∧ frX m m' := by
  have hs := h.1.1 0 (by omega)
  simp only [fX5_lookup, kgr]
  rw [pX5_lookupFault a x hs h.2.1, kc1_s, hf, raise0, kc1_s]
  obtain ⟨m1, e1, p1, f1, r1⟩ := pX5_save h
  obtain ⟨m2, e2, p2, f2, r2⟩ := eX2_look hN p1 hw hf
  rw [e1, kc1_s, kis_s (p1.1.1 0 (by omega)), e2, kc2_s]
  exact ⟨m2, rfl, p2, f1.tr f2⟩
theorem eX6_look {N : Nat} {m : zMem} {A : AS} {L : List AS} {a x : Int32} (hN : 256 < N) (h : PM m A L) (hw : WF A) (hf : lkF A a x = 0) : ∃ m', fX6_looks N a x m = some (nI (lRes A (iN a) (iN x)), m') ∧ PM m' (luA A a x) L ∧ frQ m m' := by
  obtain ⟨q1, q2⟩ := lkF_0 hf
  obtain ⟨q3, q4⟩ := mbF_0 q2
  obtain ⟨k1, k2⟩ := okI_n q1
  obtain ⟨k3, k4⟩ := okI_n q3
  obtain ⟨m1, e1, R1, f1, -, -, -⟩ := pX6_looks hN h.1 hw k3 k1 q4
  rw [← k2, ← k4] at e1
  exact ⟨m1, e1, (PM_now h f1 R1).1, f1.Q⟩
theorem e6_lookup {N : Nat} {m : zMem} {A : AS} {L : List AS} {a x : Int32} (hN : 3632 < N) (h : PM m A L) (hw : WF A) (hf : lkF A a x = 0) : ∃ m', fX6_lookup N a x m = some (nI (lRes A (iN a) (iN x)), m') ∧ PM m' (luA A a x) (pushL A L) ∧ frP m m' ∧ m'.1 0 4 = 0 := by
  simp only [fX6_lookup]
  rw [pX6_badLook (by omega) h.1 hw, kc1_s, hf, pX6_refused0, kc2_s, if_pos rfl]
  obtain ⟨m1, e1, p1, f1⟩ := eX6_saves (N := N) (by omega) (PM_4 h 0).1
  obtain ⟨m2, e2, p2, f2⟩ := eX6_look (N := N) (by omega) p1 hw hf
  rw [e1, kc1_s, e2, kc2_s]
  exact ⟨m2, rfl, p2, ((frP_4 m 0).tr f1.P).tr f2.P, by rw [f2.q4, f1.q4, zsI_s]⟩
/-! ticking -/
abbrev okT (d : Int32) : Prop := 1 ≤ d ∧ d ≤ 500
theorem okT_n {d : Int32} (h : okT d) : iN d ≤ 500 ∧ d = nI (iN d) := inN (n := 500) (Int32.le_trans (by decide) h.1) h.2 (by omega)
theorem eX2_tick {N n : Nat} {m : zMem} {A : AS} {L : List AS} {d : Int32} (hN : 24 < N) (h : PC m A L) (g : GD A n) (hn : n + 500 < 2 ^ 31) (hf : okT d) : ∃ m', fX2_passTime N (m.2.2 0) d m = some (nI (tkS A d).1, m') ∧ PC m' (tkS A d).2 L ∧ frX m m' ∧ m'.2.2 = m.2.2 ∧ GD (tkS A d).2 (n + 500) := by
  have hs := h.1.1 0 (by omega)
  obtain ⟨k1, k2⟩ := okT_n hf
  have g2 := GD_tick (d := iN d) g
  rw [← k2] at g2
  obtain ⟨m1, e1, R1, f1⟩ := pX2_passTime (d := d) hN h.2.1 g.1 (g.ok (by omega)) (g2.1.ok (by omega))
  obtain ⟨p1, p2⟩ := PC_now h (f1.V hs) R1
  exact ⟨m1, e1, p1, p2, by rw [f1.1], g2.2.mono (by omega)⟩
theorem e5_tick {N n : Nat} {m : zMem} {A : AS} {L : List AS} {d : Int32} (hN : 24 < N) (h : PC m A L) (g : GD A n) (hn : n + 500 < 2 ^ 31) (hf : okT d) : ∃ m', fX5_tick N d m = some (nI (tkS A d).1, m') ∧ PC m' (tkS A d).2 (pushL A L) ∧ frX m m' := by
  simp only [fX5_tick, fX5_tickFault, kgr]
  rw [pX5_isOutside, if_pos hf, kc1_s, if_pos rfl, kc1_s, raise0, kc1_s]
  obtain ⟨m1, e1, p1, f1, r1⟩ := pX5_save h
  obtain ⟨m2, e2, p2, f2, r2, -⟩ := eX2_tick (N := N) hN p1 g hn hf
  rw [e1, kc1_s, kis_s (p1.1.1 0 (by omega)), e2, kc2_s]
  exact ⟨m2, rfl, p2, f1.tr f2⟩
theorem eX6_tick {N n : Nat} {m : zMem} {A : AS} {L : List AS} {d : Int32} (hN : 75 < N) (h : PM m A L) (g : GD A n) (hn : n + 500 < 2 ^ 31) (hf : okT d) : ∃ m', fX6_passes N d m = some (nI (tkS A d).1, m') ∧ PM m' (tkS A d).2 L ∧ frQ m m' := by
  obtain ⟨k1, k2⟩ := okT_n hf
  have g2 := GD_tick (d := iN d) g
  rw [← k2] at g2
  obtain ⟨m1, e1, R1, f1⟩ := pX6_passes (d := d) hN h.1 g.1 (g.ok (by omega)) (g2.1.ok (by omega))
  exact ⟨m1, e1, (PM_now h f1.L R1).1, f1.L.Q⟩
theorem ticks_iff (a : Int32) : fX6_areTicks a = some (if okT a then 1 else 0) := by
  unfold fX6_areTicks
  rw [pX6_in, kc1_s, kbz_i]
theorem e6_tick {N n : Nat} {m : zMem} {A : AS} {L : List AS} {d : Int32} (hN : 3632 < N) (h : PM m A L) (g : GD A n) (hn : n + 500 < 2 ^ 31) (hf : okT d) : ∃ m', fX6_tick N d m = some (nI (tkS A d).1, m') ∧ PM m' (tkS A d).2 (pushL A L) ∧ frP m m' ∧ m'.1 0 4 = 0 := by
  simp only [fX6_tick, kjn]
  rw [ticks_iff, if_pos hf, kc1_s, if_neg (by decide), pX6_refused0, kc2_s, if_pos rfl]
  obtain ⟨m1, e1, p1, f1⟩ := eX6_saves (N := N) (by omega) (PM_4 h 0).1
  obtain ⟨m2, e2, p2, f2⟩ := eX6_tick (N := N) (by omega) p1 g hn hf
  rw [e1, kc1_s, e2, kc2_s]
  exact ⟨m2, rfl, p2, ((frP_4 m 0).tr f1.P).tr f2.P, by rw [f2.q4, f1.q4, zsI_s]⟩
/-! settings -/
abbrev okP (a b c : Int32) : Prop := (0 ≤ a ∧ a ≤ 6) ∧ (10 ≤ b ∧ b ≤ 1000) ∧ (5 ≤ c ∧ c ≤ 100)
theorem e5_setPuzzles {n : Nat} {m : zMem} {A : AS} {L : List AS} {a b c : Int32} (h : PC m A L) (g : GD A n) (hn : n < 2 ^ 31) (hf : okP a b c) : ∃ m', fX5_setPuzzles a b c m = some (aS A 0, m') ∧ PC m' (pzA A a b c) (pushL A L) ∧ frX m m' := by
  simp only [fX5_setPuzzles, kgr, kgi]
  rw [pX5_refuse hf.1, kc1_s, pX5_refuse hf.2.1, kc1_s, pX5_refuse hf.2.2, kc1_s]
  obtain ⟨m1, e1, p1, f1, r1⟩ := pX5_save h
  have hs1 := p1.1.1 0 (by omega)
  have ge := isS_ge hs1
  rw [e1, kc1_s, kis_s hs1, p1.2.1.1 0 (by omega), kis_s hs1]
  simp only [fX2_adoptPuzzles, kpi]
  rw [pX2_epoch p1.2.1 (g.ok hn), kc1_s]
  have R1 := RepC_S (v := c) (RepC_S (v := b) (RepC_S (v := a) p1.2.1 (show 0 < 7 by omega)) (show 1 < 7 by omega)) (show 2 < 7 by omega)
  obtain ⟨m2, e2, R2, f2⟩ := pX2_startEpochIfOther (e := epA A) R1 ((GD_pz (a := a) (b := b) g hf.2.2).1.ok hn)
  rw [e2, kc1_s, kc1_s]
  have f3 : frS m1 m2 (m1.2.2 0) := ((((frS_I (by omega) (by omega)).tr (frS_I (by omega) (by omega))).tr (frS_I (by omega) (by omega)))).tr f2
  obtain ⟨p2, p3⟩ := PC_now p1 (f3.V hs1) R2
  exact ⟨m2, rfl, p2, f1.tr p3⟩
theorem e6_setPuzzles {N n : Nat} {m : zMem} {A : AS} {L : List AS} {a b c : Int32} (hN : 3632 < N) (h : PM m A L) (g : GD A n) (hn : n < 2 ^ 31) (hf : okP a b c) : ∃ m', fX6_setPuzzles N a b c m = some (aS A 0, m') ∧ PM m' (pzA A a b c) (pushL A L) ∧ frP m m' ∧ m'.1 0 4 = 0 := by
  simp only [fX6_setPuzzles, kjn]
  rw [pX6_in, if_pos hf.1, kc1_s, if_neg (by decide), pX6_in, if_pos hf.2.1, kc1_s, if_neg (by decide), pX6_in, if_pos hf.2.2, kc1_s, if_neg (by decide), pX6_refused0, kc2_s, if_pos rfl]
  obtain ⟨m1, e1, p1, f1⟩ := eX6_saves (N := N) (by omega) (PM_4 h 0).1
  rw [e1, kc1_s, nn0, kld_n (by omega) (by decide), p1.1.1 0 (by omega), pX6_epochNow p1.1 (g.ok hn), kc1_s, kst_n (by omega) (by decide), nn1, kst_n (by omega) (by decide), nn2, kst_n (by omega) (by decide)]
  have R1 := RowM_S (v := c) (RowM_S (v := b) (RowM_S (v := a) p1.1 (show 0 < 16 by omega)) (show 1 < 16 by omega)) (show 2 < 16 by omega)
  obtain ⟨m2, e2, R2, f2⟩ := pX6_turnsTo (e := epA A) R1 ((GD_pz (a := a) (b := b) g hf.2.2).1.ok hn)
  rw [e2, kc1_s]
  have f3 : frM m1 m2 := (((frM_I _ _ _).tr (frM_I _ _ _)).tr (frM_I _ _ _)).tr f2
  exact ⟨m2, rfl, (PM_now p1 f3.L R2).1, ((frP_4 m 0).tr f1.P).tr f3.L.Q.P, by rw [f3.L.Q.q4, f1.q4, zsI_s]; rfl⟩
abbrev okQ (a b : Int32) : Prop := (1 ≤ a ∧ a ≤ 4) ∧ (1 ≤ b ∧ b ≤ 32)
def quA (A : AS) (a b : Int32) : AS := sS (sS A 3 a) 4 b
theorem e5_setQuotas {m : zMem} {A : AS} {L : List AS} {a b : Int32} (h : PC m A L) (hf : okQ a b) : ∃ m', fX5_setQuotas a b m = some (10 * aS A 4 + aS A 3, m') ∧ PC m' (quA A a b) (pushL A L) ∧ frX m m' := by
  simp only [fX5_setQuotas, kgr, kgi, kpi, klt]
  rw [pX5_refuse hf.1, kc1_s, pX5_refuse hf.2, kc1_s]
  obtain ⟨m1, e1, p1, f1, r1⟩ := pX5_save h
  have hs1 := p1.1.1 0 (by omega)
  rw [e1, kc1_s, kis_s hs1, kis_s hs1, kis_s hs1, p1.2.1.1 4 (by omega), p1.2.1.1 3 (by omega)]
  have R1 := RepC_S (v := b) (RepC_S (v := a) p1.2.1 (show 3 < 7 by omega)) (show 4 < 7 by omega)
  have r0 : (zsI m1 (m1.2.2 0) 3 a).2.2 0 = m1.2.2 0 := rfl
  rw [r0, kis_s hs1]
  obtain ⟨p2, p3⟩ := PC_now p1 (((frS_I (by omega) (by omega)).tr (frS_I (by omega) (by omega))).V hs1) R1
  exact ⟨_, rfl, p2, f1.tr p3⟩
theorem e6_setQuotas {N : Nat} {m : zMem} {A : AS} {L : List AS} {a b : Int32} (hN : 3632 < N) (h : PM m A L) (hf : okQ a b) : ∃ m', fX6_setQuotas N a b m = some (10 * aS A 4 + aS A 3, m') ∧ PM m' (quA A a b) (pushL A L) ∧ frP m m' ∧ m'.1 0 4 = 0 := by
  simp only [fX6_setQuotas, kjn, klt]
  rw [pX6_in, if_pos hf.1, kc1_s, if_neg (by decide), pX6_in, if_pos hf.2, kc1_s, if_neg (by decide), pX6_refused0, kc2_s, if_pos rfl]
  obtain ⟨m1, e1, p1, f1⟩ := eX6_saves (N := N) (by omega) (PM_4 h 0).1
  rw [e1, kc1_s, nn4, nn3, kld_n (by omega) (by decide), p1.1.1 4 (by omega), kld_n (by omega) (by decide), p1.1.1 3 (by omega), kst_n (by omega) (by decide), kst_n (by omega) (by decide)]
  have R1 := RowM_S (v := b) (RowM_S (v := a) p1.1 (show 3 < 16 by omega)) (show 4 < 16 by omega)
  have f3 : frM m1 (zsI (zsI m1 1 3 a) 1 4 b) := (frM_I _ _ _).tr (frM_I _ _ _)
  exact ⟨_, rfl, (PM_now p1 f3.L R1).1, ((frP_4 m 0).tr f1.P).tr f3.L.Q.P, by rw [f3.L.Q.q4, f1.q4, zsI_s]⟩
