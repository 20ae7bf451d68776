/-! probes -/
theorem PC_walk {m m' : zMem} {A : AS} {L : List AS} (h : PC m A L) (f : frW m m') : PC m' A L ∧ frX m m' := by
  have ge := isS_ge (h.1.1 0 (by omega))
  exact PC_now h (f.V _) (RepC_fr h.2.1 (fun c a b => f.2 c (by omega)))
abbrev ok3 (q : Int32) : Prop := 0 ≤ q ∧ q ≤ 3
def pbF (A : AS) (a x q : Int32) : Int32 := if ok3 q then lkF A a x else 1
theorem pbF_0 {A : AS} {a x q : Int32} (h : pbF A a x q = 0) : ok3 q ∧ lkF A a x = 0 := by
  unfold pbF at h
  by_cases z : ok3 q
  · rw [if_pos z] at h; exact ⟨z, h⟩
  · rw [if_neg z] at h; exact absurd h (by decide)
def pbA (A : AS) (a x q : Int32) : Int32 := if q = 0 then nI (lRes A (iN a) (iN x)) else if q = 1 then nI (nst A (iN a) (iN x)) else if q = 2 then nI (lDead A (iN a) (iN x)) else if lHit A (iN a) (iN x) = true then 1 else 0
theorem e5_probe {N : Nat} {m : zMem} {A : AS} {L : List AS} {a x q : Int32} (hN : 40 < N) (h : PC m A L) (hw : WF A) (hf : pbF A a x q = 0) : ∃ m', fX5_probe N a x q m = some (pbA A a x q, m') ∧ PC m' A L ∧ frX m m' := by
  have hs := h.1.1 0 (by omega)
  obtain ⟨q1, q2⟩ := pbF_0 hf
  obtain ⟨q3, q4⟩ := lkF_0 q2
  obtain ⟨q5, q6⟩ := mbF_0 q4
  obtain ⟨k1, k2⟩ := okI_n q3
  obtain ⟨k3, k4⟩ := okI_n q5
  obtain ⟨m1, e1, t1, t2, t3, t4, t5, f1⟩ := pX4_trace hN hs h.2.1 hw k3 k1 q6
  rw [← k2, ← k4] at e1
  simp only [fX5_probe, kgr, kgi]
  rw [pX5_refuse q1, kc1_s, pX5_lookupFault a x hs h.2.1, kc1_s, q2, raise0, kc1_s, kis_s hs, e1, kc1_s, t1, t2, t3, t4]
  refine ⟨m1, ?_, PC_walk h f1⟩
  unfold pbA
  by_cases z0 : q = 0
  · rw [if_pos z0, if_pos z0]
  · rw [if_neg z0, if_neg z0]
    by_cases z1 : q = 1
    · rw [if_pos z1, if_pos z1]
    · rw [if_neg z1, if_neg z1]
      by_cases z2 : q = 2
      · rw [if_pos z2, if_pos z2]
      · rw [if_neg z2, if_neg z2]
        by_cases z3 : lHit A (iN a) (iN x) = true
        · rw [if_pos z3, if_neg (by decide)]
        · rw [if_neg z3, if_pos rfl]
theorem cpRow {N u v : Nat} {m : zMem} (huv : u ≠ v) (hN : 1816 < N) {step : (zMem → Option zMem) → (Int32 × zMem → Option zMem) → Int32 × zMem → Option zMem} (hs : ∀ K rec x z, step K rec (x, z) = if 1816 ≤ x then K z else kld z u 1816 x fun v4 => kst z v 1816 x v4 fun m5 => rec (x + 1, m5)) : ∃ m', klp (step fun m1 => some m1) N (0, m) = some m' ∧ m'.2 = m.2 ∧ (∀ c, c ≠ v → m'.1 c = m.1 c) ∧ ∀ j, j < 1816 → m'.1 v j = m.1 u j := by
  refine klp_iR (n := N) (z := (0, m)) (fun (i : Nat) (z : Int32 × zMem) => z.1 = nI i ∧ z.2.2 = m.2 ∧ (∀ c, c ≠ v → z.2.1 c = m.1 c) ∧ ∀ j, j < i → z.2.1 v j = m.1 u j) 1816 (fun (r : Option zMem) => ∃ m' : zMem, r = some m' ∧ m'.2 = m.2 ∧ (∀ c, c ≠ v → m'.1 c = m.1 c) ∧ ∀ j, j < 1816 → m'.1 v j = m.1 u j) (fun i hi z hz => ?_) (fun z hz rec => ?_) ⟨rfl, rfl, fun _ _ => rfl, fun j hj => absurd hj (by omega)⟩ hN
  · obtain ⟨z1, z2⟩ := z
    obtain ⟨g1, g2, g3, g4⟩ := hz
    dsimp only at g1 g2 g3 g4
    subst g1
    refine ⟨(nI (i + 1), zsI z2 v i (m.1 u i)), ⟨rfl, g2, fun c hc => by rw [zsI_ne _ _ _ hc]; exact g3 c hc, fun j hj => ?_⟩, fun rec => ?_⟩
    · show (zsI z2 v i (m.1 u i)).1 v j = _
      by_cases q : j = i
      · rw [q, zsI_s]
      · rw [zsI_n _ _ (by omega)]; exact g4 j (by omega)
    · rw [hs, nn1816, if_neg (nI_ge (by omega) (by omega)), kld_n hi (by decide), g3 u huv, kst_n hi (by decide), nI_1]
  · obtain ⟨z1, z2⟩ := z
    obtain ⟨g1, g2, g3, g4⟩ := hz
    dsimp only at g1 g2 g3 g4
    subst g1
    refine ⟨z2, ?_, g2, g3, g4⟩
    rw [hs, nn1816, if_pos (nI_le (Nat.le_refl _) (by omega))]
theorem pX6_keeps {N : Nat} {m : zMem} (hN : 1816 < N) : ∃ m', fX6_keeps N m = some m' ∧ m'.2 = m.2 ∧ (∀ c, c ≠ 3 → m'.1 c = m.1 c) ∧ ∀ j, j < 1816 → m'.1 3 j = m.1 1 j := by
  simp only [fX6_keeps, kjn]
  exact cpRow (u := 1) (v := 3) (step := sX6_keeps_2) (by omega) hN (fun K rec x z => rfl)
theorem pX6_takesBack {N : Nat} {m : zMem} (hN : 1816 < N) : ∃ m', fX6_takesBack N m = some m' ∧ m'.2 = m.2 ∧ (∀ c, c ≠ 1 → m'.1 c = m.1 c) ∧ ∀ j, j < 1816 → m'.1 1 j = m.1 3 j := by
  simp only [fX6_takesBack, kjn]
  exact cpRow (u := 3) (v := 1) (step := sX6_takesBack_2) (by omega) hN (fun K rec x z => rfl)
/-- one lookup that is taken back -/
theorem eX6_tried {N a x : Nat} {m : zMem} {A : AS} {L : List AS} (hN : 1816 < N) (h : PM m A L) (hw : WF A) (ha : a < 256) (hx : x < 256) (hm : mem A a = true) (hk : RowM (m.1 3) A) : ∃ m1 m2, fX6_looks N (nI a) (nI x) m = some (nI (lRes A a x), m1) ∧ fX6_takesBack N m1 = some m2 ∧ PM m2 A L ∧ RowM (m2.1 3) A ∧ frQ m m2 ∧ m1.1 0 10 = (if lHit A a x = true then 1 else 0) ∧ m2.1 0 8 = nI (nst A a x) ∧ m2.1 0 9 = nI (lDead A a x) ∧ m2.1 0 10 = (if lHit A a x = true then 1 else 0) := by
  obtain ⟨m1, e1, R1, f1, t1, t2, t3⟩ := pX6_looks (N := N) (by omega) h.1 hw ha hx hm
  obtain ⟨m2, e2, g1, g2, g3⟩ := pX6_takesBack (N := N) (m := m1) hN
  have k1 : RowM (m1.1 3) A := by rw [f1.2.1 3 (by omega) (by omega) (by omega)]; exact hk
  have k2 : RowM (m2.1 1) A := RowM_cg k1 g3
  have f2 : frM m1 m2 := ⟨g1, fun c hc => g2 c hc⟩
  have p1 := (PM_now h f1 R1).1
  refine ⟨m1, m2, e1, e2, (PM_now p1 f2.L k2).1, ?_, f1.Q.tr f2.L.Q, t3, ?_, ?_, ?_⟩
  · rw [g2 3 (by omega)]; exact k1
  · rw [g2 0 (by omega)]; exact t1
  · rw [g2 0 (by omega)]; exact t2
  · rw [g2 0 (by omega)]; exact t3
theorem eX6_keeps {N : Nat} {m : zMem} {A : AS} {L : List AS} (hN : 1816 < N) (h : PM m A L) : ∃ m', fX6_keeps N m = some m' ∧ PM m' A L ∧ RowM (m'.1 3) A ∧ frQ m m' := by
  obtain ⟨m1, e1, g1, g2, g3⟩ := pX6_keeps (N := N) (m := m) hN
  obtain ⟨h1, h2, h3, h4⟩ := h
  refine ⟨m1, e1, ⟨by rw [g2 1 (by omega)]; exact h1, h2, by rw [g2 0 (by omega)]; exact h3, fun i B hB => by rw [g2 2 (by omega)]; exact h4 i B hB⟩, RowM_cg h1 g3, fun c hc => g2 c (by omega), fun j _ _ _ _ => by rw [g2 0 (by omega)]⟩
theorem pb6 {N : Nat} {m : zMem} {A : AS} {a x q : Int32} (hN : 24 < N) (h : RowM (m.1 1) A) (hw : WF A) : fX6_probe N a x q m = kc2 (fX6_refused (pbF A a x q) m) fun v3 m4 => if v3 = 0 then kc1 (fX6_keeps N m4) fun m5 => kc2 (fX6_looks N a x m5) fun v6 m7 => kc1 (fX6_takesBack N m7) fun m8 => if q = 0 then some (v6, m8) else if q = 1 then some (m8.1 0 8, m8) else if q = 2 then some (m8.1 0 9, m8) else if m8.1 0 10 = 0 then some (0, m8) else some (1, m8) else some (0, m4) := by
  simp only [fX6_probe, kjn, kgi]
  rw [pX6_in, kc1_s, pX6_badLook hN h hw, kc1_s]
  unfold pbF
  by_cases q1 : ok3 q
  · have q1' : (0 : Int32) ≤ q ∧ q ≤ 3 := q1
    rw [if_pos q1', if_neg (show ¬ (1 : Int32) = 0 by decide), if_pos q1]
  · have q1' : ¬ ((0 : Int32) ≤ q ∧ q ≤ 3) := q1
    rw [if_neg q1', if_pos (show (0 : Int32) = 0 from rfl), if_neg q1]
theorem e6_probe {N : Nat} {m : zMem} {A : AS} {L : List AS} {a x q : Int32} (hN : 1816 < N) (h : PM m A L) (hw : WF A) (hf : pbF A a x q = 0) : ∃ m', fX6_probe N a x q m = some (pbA A a x q, m') ∧ PM m' A L ∧ frP m m' ∧ m'.1 0 4 = 0 := by
  obtain ⟨q1, q2⟩ := pbF_0 hf
  obtain ⟨q3, q4⟩ := lkF_0 q2
  obtain ⟨q5, q6⟩ := mbF_0 q4
  obtain ⟨k1, k2⟩ := okI_n q3
  obtain ⟨k3, k4⟩ := okI_n q5
  obtain ⟨m1, e1, p1, r1, f1⟩ := eX6_keeps (N := N) hN (PM_4 h 0).1
  obtain ⟨m2, m3, e2, e3, p3, -, f3, -, t1, t2, t3⟩ := eX6_tried (N := N) hN p1 hw k3 k1 q6 r1
  rw [← k2, ← k4] at e2
  rw [pb6 (by omega) h.1 hw, hf, pX6_refused0, kc2_s, if_pos rfl, e1, kc1_s, e2, kc2_s, e3, kc1_s, t1, t2, t3]
  refine ⟨m3, ?_, p3, ((frP_4 m 0).tr f1.P).tr f3.P, by rw [f3.q4, f1.q4, zsI_s]⟩
  unfold pbA
  by_cases z0 : q = 0
  · rw [if_pos z0, if_pos z0]
  · rw [if_neg z0, if_neg z0]
    by_cases z1 : q = 1
    · rw [if_pos z1, if_pos z1]
    · rw [if_neg z1, if_neg z1]
      by_cases z2 : q = 2
      · rw [if_pos z2, if_pos z2]
      · rw [if_neg z2, if_neg z2]
        by_cases z3 : lHit A (iN a) (iN x) = true
        · rw [if_pos z3, if_neg (by decide)]
        · rw [if_neg z3, if_pos rfl]
/-! reach -/
def rcA (A : AS) (a : Int32) : Int32 := nI (ct (fun x => lHit A (iN a) x) 256)
theorem e5_reach {N n : Nat} {m : zMem} {A : AS} {L : List AS} {a : Int32} (hN : n < N) (h40 : 40 < N) (hn : n = 256) (h : PC m A L) (hw : WF A) (hf : mbF A a = 0) : ∃ m', fX5_reach N a m = some (nI (ct (fun x => lHit A (iN a) x) n), m') ∧ PC m' A L ∧ frX m m' := by
  have hs := h.1.1 0 (by omega)
  obtain ⟨q5, q6⟩ := mbF_0 hf
  obtain ⟨k3, k4⟩ := okI_n q5
  simp only [fX5_reach, kjn]
  rw [pX5_memberFault a hs h.2.1, kc1_s, hf, raise0, kc1_s]
  refine klp_iR (n := N) (z := (0, 0, m)) (fun (i : Nat) (z : Int32 × Int32 × zMem) => z.1 = nI (ct (fun x => lHit A (iN a) x) i) ∧ z.2.1 = nI i ∧ PC z.2.2 A L ∧ frX m z.2.2) n (fun r => ∃ m', r = some (nI (ct (fun x => lHit A (iN a) x) n), m') ∧ PC m' A L ∧ frX m m') (fun i hi z hz => ?_) (fun z hz rec => ?_) ⟨rfl, rfl, h, frX.rf m⟩ hN
  · obtain ⟨z1, z2, z3⟩ := z
    obtain ⟨g1, g2, g3, g4⟩ := hz
    dsimp only at g1 g2 g3 g4
    subst g1; subst g2
    have hs3 := g3.1.1 0 (by omega)
    obtain ⟨m1, e1, -, -, -, t4, -, f1⟩ := pX4_trace h40 hs3 g3.2.1 hw k3 (show i < 256 by omega) q6
    rw [← k4] at e1
    have p1 := PC_walk g3 f1
    refine ⟨(nI (ct (fun x => lHit A (iN a) x) (i + 1)), nI (i + 1), m1), ⟨rfl, rfl, p1.1, g4.tr p1.2⟩, fun rec => ?_⟩
    simp only [sX5_reach_12, kgr, kgi]
    rw [nn255, if_neg (nI_nlt (by omega) (by omega)), kis_s hs3, e1, kc1_s, t4, ct_s]
    by_cases z3 : lHit A (iN a) i = true
    · rw [if_pos z3, if_neg (by decide), if_pos z3, nI_1, nI_1]
    · rw [if_neg z3, if_pos rfl, if_neg z3, nI_1]; rfl
  · obtain ⟨z1, z2, z3⟩ := z
    obtain ⟨g1, g2, g3, g4⟩ := hz
    dsimp only at g1 g2 g3 g4
    subst g1; subst g2
    refine ⟨z3, ?_, g3, g4⟩
    simp only [sX5_reach_12]
    rw [nn255, if_pos (nI_lt (by omega) (by omega))]
theorem e6_reach {N n : Nat} {m : zMem} {A : AS} {L : List AS} {a : Int32} (hN : n < N) (h40 : 1816 < N) (hn : n = 256) (h : PM m A L) (hw : WF A) (hf : mbF A a = 0) : ∃ m', fX6_reach N a m = some (nI (ct (fun x => lHit A (iN a) x) n), m') ∧ PM m' A L ∧ frP m m' ∧ m'.1 0 4 = 0 := by
  obtain ⟨q5, q6⟩ := mbF_0 hf
  obtain ⟨k3, k4⟩ := okI_n q5
  simp only [fX6_reach, kjn]
  rw [pX6_badMember (by omega) h.1 hw, kc1_s, hf, pX6_refused0, kc2_s, if_pos rfl]
  obtain ⟨m1, e1, p1, r1, f1⟩ := eX6_keeps (N := N) h40 (PM_4 h 0).1
  rw [e1, kc1_s]
  refine klp_iR (n := N) (z := (0, 0, m1)) (fun (i : Nat) (z : Int32 × Int32 × zMem) => z.1 = nI (ct (fun x => lHit A (iN a) x) i) ∧ z.2.1 = nI i ∧ PM z.2.2 A L ∧ RowM (z.2.2.1 3) A ∧ frQ m1 z.2.2) n (fun r => ∃ m', r = some (nI (ct (fun x => lHit A (iN a) x) n), m') ∧ PM m' A L ∧ frP m m' ∧ m'.1 0 4 = 0) (fun i hi z hz => ?_) (fun z hz rec => ?_) ⟨rfl, rfl, p1, r1, frQ.rf m1⟩ hN
  · obtain ⟨z1, z2, z3⟩ := z
    obtain ⟨g1, g2, g3, g4, g5⟩ := hz
    dsimp only at g1 g2 g3 g4 g5
    subst g1; subst g2
    obtain ⟨m2, m3, e2, e3, p3, r3, f3, t0, -, -, -⟩ := eX6_tried (N := N) h40 g3 hw k3 (show i < 256 by omega) q6 g4
    rw [← k4] at e2
    refine ⟨(nI (ct (fun x => lHit A (iN a) x) (i + 1)), nI (i + 1), m3), ⟨rfl, rfl, p3, r3, g5.tr f3⟩, fun rec => ?_⟩
    simp only [sX6_reach_22, kgi, kjn, klt]
    rw [nn256, if_neg (nI_ge (by omega) (by omega)), e2, kc2_s, t0, e3, kc1_s, kc1_s, ct_s]
    by_cases z3 : lHit A (iN a) i = true
    · rw [if_pos z3, if_neg (by decide), if_pos z3, nI_1, nI_1]
    · rw [if_neg z3, if_pos rfl, if_neg z3, nI_1, Int32.add_zero]; rfl
  · obtain ⟨z1, z2, z3⟩ := z
    obtain ⟨g1, g2, g3, g4, g5⟩ := hz
    dsimp only at g1 g2 g3 g4 g5
    subst g1; subst g2
    refine ⟨z3, ?_, g3, ((frP_4 m 0).tr f1.P).tr g5.P, by rw [g5.q4, f1.q4, zsI_s]⟩
    simp only [sX6_reach_22]
    rw [nn256, if_pos (nI_le (by omega) (by omega))]
