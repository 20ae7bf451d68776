/-! swarms -/
theorem dv_n {a b : Nat} (ha : a < 2 ^ 31) (hb : b < 2 ^ 31) : nI a / nI b = nI (a / b) := by
  apply Int32.toInt_inj.mp
  have h1 : (nI a).toInt = a := by
    show (BitVec.ofNat 32 a).toInt = a
    rw [BitVec.toInt_eq_toNat_cond, BitVec.toNat_ofNat, Nat.mod_eq_of_lt (by omega), if_pos (by omega)]
  have h2 : (nI b).toInt = b := by
    show (BitVec.ofNat 32 b).toInt = b
    rw [BitVec.toInt_eq_toNat_cond, BitVec.toNat_ofNat, Nat.mod_eq_of_lt (by omega), if_pos (by omega)]
  have hle := Nat.div_le_self a b
  have h3 : (nI (a / b)).toInt = ((a / b : Nat) : Int) := by
    show (BitVec.ofNat 32 (a / b)).toInt = _
    rw [BitVec.toInt_eq_toNat_cond, BitVec.toNat_ofNat, Nat.mod_eq_of_lt (by omega), if_pos (by omega)]
  rw [Int32.toInt_div_of_ne_left, h1, h2, h3]
  · rfl
  · intro z
    have := congrArg Int32.toInt z
    rw [h1] at this
    have h9 : (Int32.minValue).toInt = -2147483648 := by decide
    omega
theorem md_n {k : Nat} (hk : k < 2 ^ 31) : nI k - nI k / nI 256 * nI 256 = nI (k % 256) := by
  rw [dv_n hk (by omega), pk_mul, nI_sb (by omega)]
  exact congrArg nI (by omega)
def swI (a b : Int32) (i : Nat) : Int32 := nI ((iN a + i * iN b) % 256)
def swS (A : AS) (a b o sp : Int32) : Nat → Nat × AS
  | 0 => (0, A)
  | i + 1 => if adF (swS A a b o sp i).2 (swI a b i) o sp = 0 then ((swS A a b o sp i).1 + 1, enA (swS A a b o sp i).2 (swI a b i) o sp) else swS A a b o sp i
abbrev okW (a b c o p : Int32) : Prop := okI a ∧ (1 ≤ b ∧ b ≤ 255) ∧ (1 ≤ c ∧ c ≤ 16) ∧ ok7 o ∧ okI p
def swF (A : AS) (a b c o p : Int32) : Int32 := if okW a b c o p then mbF A p else 1
theorem swF_0 {A : AS} {a b c o p : Int32} (h : swF A a b c o p = 0) : okW a b c o p ∧ mbF A p = 0 := by
  unfold swF at h
  by_cases z : okW a b c o p
  · rw [if_pos z] at h; exact ⟨z, h⟩
  · rw [if_neg z] at h; exact absurd h (by decide)
theorem GD_sw {A : AS} {n : Nat} (g : GD A n) (a b o sp : Int32) (i : Nat) : GD (swS A a b o sp i).2 n := by
  induction i with
  | zero => exact g
  | succ i ih =>
    unfold swS
    split
    · rename_i h
      exact GD_en ih (adF_0 h)
    · exact ih
theorem sw_le (A : AS) (a b o sp : Int32) (i : Nat) : (swS A a b o sp i).1 ≤ i := by
  induction i with
  | zero => exact Nat.le_refl _
  | succ i ih => unfold swS; split; show _ + 1 ≤ _; omega; omega
theorem e5_swarm {N n : Nat} {m : zMem} {A : AS} {L : List AS} {a b c o p : Int32} (hN : 100000 < N) (h : PC m A L) (g : GD A n) (hn : n < 2 ^ 31) (hf : swF A a b c o p = 0) : ∃ m', fX5_swarm N a b c o p m = some (nI (swS A a b o p (iN c)).1, m') ∧ PC m' (swS A a b o p (iN c)).2 (pushL A L) ∧ frX m m' := by
  have hs := h.1.1 0 (by omega)
  obtain ⟨⟨q1, q2, q3, q4, q5⟩, q6⟩ := swF_0 hf
  obtain ⟨k1, k2⟩ := okI_n q1
  obtain ⟨k3, k4⟩ := inN (n := 255) (Int32.le_trans (by decide) q2.1) q2.2 (by omega)
  obtain ⟨k5, k6⟩ := inN (n := 16) (Int32.le_trans (by decide) q3.1) q3.2 (by omega)
  simp only [fX5_swarm, kjn]
  rw [pX5_refuse q1, kc1_s, pX5_refuse q2, kc1_s, pX5_refuse q3, kc1_s, pX5_refuse q4, kc1_s, pX5_memberFault p hs h.2.1, kc1_s, q6, raise0, kc1_s]
  obtain ⟨m1, e1, p1, f1, r1⟩ := pX5_save h
  rw [e1, kc1_s]
  refine klp_iR (n := N) (z := (0, 0, m1)) (fun (i : Nat) (z : Int32 × Int32 × zMem) => z.1 = nI (swS A a b o p i).1 ∧ z.2.1 = nI i ∧ PC z.2.2 (swS A a b o p i).2 (pushL A L) ∧ frX m z.2.2) (iN c) (fun r => ∃ m', r = some (nI (swS A a b o p (iN c)).1, m') ∧ PC m' (swS A a b o p (iN c)).2 (pushL A L) ∧ frX m m') (fun i hi z hz => ?_) (fun z hz rec => ?_) ⟨rfl, rfl, p1, f1⟩ (by omega)
  · obtain ⟨z1, z2, z3⟩ := z
    obtain ⟨g1, g2, g3, g4⟩ := hz
    dsimp only at g1 g2 g3 g4
    subst g1; subst g2
    have hs3 := g3.1.1 0 (by omega)
    have gi := GD_sw g a b o p i
    have hst : swS A a b o p (i + 1) = if adF (swS A a b o p i).2 (swI a b i) o p = 0 then ((swS A a b o p i).1 + 1, enA (swS A a b o p i).2 (swI a b i) o p) else swS A a b o p i := rfl
    have ei : (a + nI i * b) &&& 255 = swI a b i := by
      rw [show a + nI i * b = nI (iN a) + nI i * nI (iN b) by rw [← k2, ← k4], pk_mul, nI_add, nn255, nx_and]
      exact congrArg nI (Nat.and_two_pow_sub_one_eq_mod _ 8)
    have ec : ¬ c ≤ nI i := by rw [k6]; exact nI_ge hi (by omega)
    by_cases q : adF (swS A a b o p i).2 (swI a b i) o p = 0
    · obtain ⟨m2, e2, p2, f2, -⟩ := eX2_enter (N := N) (by omega) g3 gi.1 (adF_0 q)
      refine ⟨(nI ((swS A a b o p i).1 + 1), nI (i + 1), m2), ⟨by rw [hst, if_pos q], rfl, by rw [hst, if_pos q]; exact p2, g4.tr f2⟩, fun rec => ?_⟩
      simp only [sX5_swarm_50, klt, kgr]
      rw [if_neg ec, ei, pX5_admissionFault hN _ _ _ hs3 g3.2.1 (gi.ok hn), kc1_s, if_pos q, kis_s hs3, e2, kc2_s, nI_1, nI_1]
    · refine ⟨(nI (swS A a b o p i).1, nI (i + 1), z3), ⟨by rw [hst, if_neg q], rfl, by rw [hst, if_neg q]; exact g3, g4⟩, fun rec => ?_⟩
      simp only [sX5_swarm_50, klt, kgr]
      rw [if_neg ec, ei, pX5_admissionFault hN _ _ _ hs3 g3.2.1 (gi.ok hn), kc1_s, if_neg q, nI_1]
  · obtain ⟨z1, z2, z3⟩ := z
    obtain ⟨g1, g2, g3, g4⟩ := hz
    dsimp only at g1 g2 g3 g4
    subst g1; subst g2
    have ec : c ≤ nI (iN c) := by rw [← k6]; exact Int32.le_refl c
    refine ⟨z3, ?_, g3, g4⟩
    simp only [sX5_swarm_50]
    rw [if_pos ec]
theorem sw6 {N : Nat} {m : zMem} {A : AS} {a b c o p : Int32} (hN : 24 < N) (h : RowM (m.1 1) A) (hw : WF A) : fX6_swarm N a b c o p m = kc2 (fX6_refused (swF A a b c o p) m) fun v4 m5 => if v4 = 0 then kc1 (fX6_saves N m5) fun m6 => klp (sX6_swarm_96 N a b c o p fun w7 m8 => some (w7, m8)) N (0, 0, m6) else some (0, m5) := by
  simp only [fX6_swarm, kjn]
  rw [id_iff, kc1_s, pX6_in, kc1_s, pX6_in, kc1_s, pX6_in, kc1_s, id_iff, kc1_s, isM_any hN h hw, kc1_s]
  unfold swF
  by_cases q1 : okI a
  · have q1' : (0 : Int32) ≤ a ∧ a ≤ 255 := q1
    rw [if_pos q1', if_neg (show ¬ (1 : Int32) = 0 by decide)]
    by_cases q2 : (1 : Int32) ≤ b ∧ b ≤ 255
    · rw [if_pos q2, if_neg (show ¬ (1 : Int32) = 0 by decide)]
      by_cases q3 : (1 : Int32) ≤ c ∧ c ≤ 16
      · rw [if_pos q3, if_neg (show ¬ (1 : Int32) = 0 by decide)]
        by_cases q4 : (0 : Int32) ≤ o ∧ o ≤ 7
        · rw [if_pos q4, if_neg (show ¬ (1 : Int32) = 0 by decide)]
          by_cases q5 : okI p
          · have q5' : (0 : Int32) ≤ p ∧ p ≤ 255 := q5
            rw [if_pos q5', if_neg (show ¬ (1 : Int32) = 0 by decide), if_pos (show okW a b c o p from ⟨q1, q2, q3, q4, q5⟩)]
            unfold mbF
            rw [if_pos q5]
            by_cases q6 : mem A (iN p) = true
            · rw [if_pos (show okI p ∧ mem A (iN p) = true from ⟨q5, q6⟩), if_pos q6]; rfl
            · rw [if_neg (show ¬ (okI p ∧ mem A (iN p) = true) from fun z => q6 z.2), if_neg q6]; rfl
          · have q5' : ¬ ((0 : Int32) ≤ p ∧ p ≤ 255) := q5
            rw [if_neg q5', if_pos (show (0 : Int32) = 0 from rfl), if_neg (show ¬ okW a b c o p from fun z => q5 z.2.2.2.2)]; rfl
        · rw [if_neg q4, if_pos (show (0 : Int32) = 0 from rfl), if_neg (show ¬ okW a b c o p from fun z => q4 z.2.2.2.1)]; rfl
      · rw [if_neg q3, if_pos (show (0 : Int32) = 0 from rfl), if_neg (show ¬ okW a b c o p from fun z => q3 z.2.2.1)]; rfl
    · rw [if_neg q2, if_pos (show (0 : Int32) = 0 from rfl), if_neg (show ¬ okW a b c o p from fun z => q2 z.2.1)]; rfl
  · have q1' : ¬ ((0 : Int32) ≤ a ∧ a ≤ 255) := q1
    rw [if_neg q1', if_pos (show (0 : Int32) = 0 from rfl), if_neg (show ¬ okW a b c o p from fun z => q1 z.1)]; rfl
theorem e6_swarm {N n : Nat} {m : zMem} {A : AS} {L : List AS} {a b c o p : Int32} (hN : 100000 < N) (h : PM m A L) (g : GD A n) (hn : n < 2 ^ 31) (hf : swF A a b c o p = 0) : ∃ m', fX6_swarm N a b c o p m = some (nI (swS A a b o p (iN c)).1, m') ∧ PM m' (swS A a b o p (iN c)).2 (pushL A L) ∧ frP m m' ∧ m'.1 0 4 = 0 := by
  obtain ⟨⟨q1, q2, q3, q4, q5⟩, q6⟩ := swF_0 hf
  obtain ⟨k1, k2⟩ := okI_n q1
  obtain ⟨k3, k4⟩ := inN (n := 255) (Int32.le_trans (by decide) q2.1) q2.2 (by omega)
  obtain ⟨k5, k6⟩ := inN (n := 16) (Int32.le_trans (by decide) q3.1) q3.2 (by omega)
  rw [sw6 (by omega) h.1 g.1, hf, pX6_refused0, kc2_s, if_pos rfl]
  obtain ⟨m1, e1, p1, f1⟩ := eX6_saves (N := N) (by omega) (PM_4 h 0).1
  rw [e1, kc1_s]
  refine klp_iR (n := N) (z := (0, 0, m1)) (fun (i : Nat) (z : Int32 × Int32 × zMem) => z.1 = nI (swS A a b o p i).1 ∧ z.2.1 = nI i ∧ PM z.2.2 (swS A a b o p i).2 (pushL A L) ∧ frQ m1 z.2.2) (iN c) (fun r => ∃ m', r = some (nI (swS A a b o p (iN c)).1, m') ∧ PM m' (swS A a b o p (iN c)).2 (pushL A L) ∧ frP m m' ∧ m'.1 0 4 = 0) (fun i hi z hz => ?_) (fun z hz rec => ?_) ⟨rfl, rfl, p1, frQ.rf m1⟩ (by omega)
  · obtain ⟨z1, z2, z3⟩ := z
    obtain ⟨g1, g2, g3, g4⟩ := hz
    dsimp only at g1 g2 g3 g4
    subst g1; subst g2
    have gi := GD_sw g a b o p i
    have hst : swS A a b o p (i + 1) = if adF (swS A a b o p i).2 (swI a b i) o p = 0 then ((swS A a b o p i).1 + 1, enA (swS A a b o p i).2 (swI a b i) o p) else swS A a b o p i := rfl
    have hmul : i * iN b ≤ 16 * 255 := Nat.mul_le_mul (by omega) k3
    have ei : ∀ f : Int32 → Option (Int32 × zMem), krm (a + nI i * b) 256 f = f (swI a b i) := fun f => by
      unfold krm
      rw [if_neg (by decide), show a + nI i * b = nI (iN a) + nI i * nI (iN b) by rw [← k2, ← k4], pk_mul, nI_add, nn256, md_n (by omega)]
      rfl
    have ec : ¬ c ≤ nI i := by rw [k6]; exact nI_ge hi (by omega)
    by_cases q : adF (swS A a b o p i).2 (swI a b i) o p = 0
    · obtain ⟨m2, e2, p2, f2⟩ := eX6_joins (N := N) (by omega) g3 gi.1 (adF_0 q)
      refine ⟨(nI ((swS A a b o p i).1 + 1), nI (i + 1), m2), ⟨by rw [hst, if_pos q], rfl, by rw [hst, if_pos q]; exact p2, g4.tr f2⟩, fun rec => ?_⟩
      simp only [sX6_swarm_96]
      rw [if_neg ec, ei, pX6_badAdmission hN g3.1 gi.1 (gi.ok hn), kc1_s, if_pos q, e2, kc2_s, nI_1, nI_1]
    · refine ⟨(nI (swS A a b o p i).1, nI (i + 1), z3), ⟨by rw [hst, if_neg q], rfl, by rw [hst, if_neg q]; exact g3, g4⟩, fun rec => ?_⟩
      simp only [sX6_swarm_96]
      rw [if_neg ec, ei, pX6_badAdmission hN g3.1 gi.1 (gi.ok hn), kc1_s, if_neg q, nI_1]
  · obtain ⟨z1, z2, z3⟩ := z
    obtain ⟨g1, g2, g3, g4⟩ := hz
    dsimp only at g1 g2 g3 g4
    subst g1; subst g2
    have ec : c ≤ nI (iN c) := by rw [← k6]; exact Int32.le_refl c
    refine ⟨z3, ?_, g3, ((frP_4 m 0).tr f1.P).tr g4.P, by rw [g4.q4, f1.q4, zsI_s]⟩
    simp only [sX6_swarm_96]
    rw [if_pos ec]
/-! the script's bytes -/
def ScC (m : zMem) (k : Nat) (f : Nat → Int32) : Prop := m.1 6 1 = nI k ∧ k ≤ 120 ∧ ∀ j, j < k → m.1 7 j = f j
def ScM (m : zMem) (k : Nat) (f : Nat → Int32) : Prop := m.1 0 6 = nI k ∧ k ≤ 120 ∧ ∀ j, j < k → m.1 4 j = f j
theorem frX.sc {m m' : zMem} {k : Nat} {f : Nat → Int32} (h : frX m m') (s : ScC m k f) : ScC m' k f := ⟨by rw [h.1 6 (by omega) (by omega)]; exact s.1, s.2.1, fun j hj => by rw [h.1 7 (by omega) (by omega)]; exact s.2.2 j hj⟩
theorem frP.sc {m m' : zMem} {k : Nat} {f : Nat → Int32} (h : frP m m') (s : ScM m k f) : ScM m' k f := ⟨by rw [h.2 6 (by omega) (by omega) (by omega) (by omega) (by omega)]; exact s.1, s.2.1, fun j hj => by rw [h.1 4 (by omega)]; exact s.2.2 j hj⟩
theorem PC_scr {m m' : zMem} {A : AS} {L : List AS} (h : PC m A L) (h2 : m'.2 = m.2) (h1 : ∀ c, c = 0 ∨ 10 ≤ c → m'.1 c = m.1 c) : PC m' A L := by
  obtain ⟨⟨t1, t2⟩, r1, r2, r3, r4⟩ := h
  refine ⟨⟨fun i hi => by rw [h2]; exact t1 i hi, fun i j hi hj e => t2 i j hi hj (by rw [h2] at e; exact e)⟩, ?_, r2, by rw [h1 0 (by omega)]; exact r3, fun i B hB => ?_⟩
  · have ge := isS_ge (t1 0 (by omega))
    rw [h2]; exact RepC_fr r1 (fun c a b => h1 c (by omega))
  · have hi : i < L.length := (List.getElem?_eq_some_iff.mp hB).1
    have ge := isS_ge (t1 (i + 1) (by omega))
    rw [h2]; exact RepC_fr (r4 i B hB) (fun c a b => h1 c (by omega))
theorem e5_type {m : zMem} {A : AS} {L : List AS} {k : Nat} {f : Nat → Int32} {a : Int32} (h : PC m A L) (s : ScC m k f) (hk : k < 120) (ha : 0 ≤ a ∧ a ≤ 127) : ∃ m', fX5_type a m = some (nI (k + 1), m') ∧ PC m' A L ∧ ScC m' (k + 1) (up f k a) := by
  simp only [fX5_type, kgi, kpi]
  rw [pX5_refuse ha, kc1_s, s.1, nn120, if_pos (nI_lt hk (by omega)), kst_n hk (by decide)]
  have e : (zsI m 7 k a).1 6 1 = nI k := by rw [zsI_n _ _ (by omega)]; exact s.1
  rw [e, nI_1, zsI_s]
  refine ⟨_, rfl, PC_scr h rfl (fun c hc => by rw [zsI_ne _ _ _ (by omega), zsI_ne _ _ _ (by omega)]), zsI_s _ _ _ _, by omega, fun j hj => ?_⟩
  rw [zsI_n _ _ (by omega)]
  by_cases q : j = k
  · rw [q, zsI_s, up_s]
  · rw [zsI_n _ _ (by omega), up_n _ _ q]; exact s.2.2 j (by omega)
theorem e6_type {m : zMem} {A : AS} {L : List AS} {k : Nat} {f : Nat → Int32} {a : Int32} (h : PM m A L) (s : ScM m k f) (hk : k < 120) (ha : 0 ≤ a ∧ a ≤ 127) : ∃ m', fX6_type a m = some (nI (k + 1), m') ∧ PM m' A L ∧ ScM m' (k + 1) (up f k a) ∧ m'.1 0 4 = 0 := by
  simp only [fX6_type, kgi, kpi, kjn]
  have e0 : ¬ nI k = 120 := fun z => by have := nI_inj (by omega) (by omega) (z.trans nn120); omega
  rw [pX6_in, if_pos ha, kc1_s, if_neg (by decide), s.1, if_neg e0, pX6_refused0, kc2_s, if_pos rfl]
  have e : (zsI m 0 4 0).1 0 6 = nI k := by rw [zsI_n _ _ (by omega)]; exact s.1
  rw [e, kst_n hk (by decide)]
  have e2 : (zsI (zsI m 0 4 0) 4 k a).1 0 6 = nI k := by rw [zsI_n _ _ (by omega)]; exact e
  rw [e2, nI_1, zsI_s]
  obtain ⟨h1, h2, h3, h4⟩ := h
  refine ⟨_, rfl, ⟨by rw [zsI_ne _ _ _ (by omega), zsI_ne _ _ _ (by omega), zsI_ne _ _ _ (by omega)]; exact h1, h2, by rw [zsI_n _ _ (by omega), zsI_n _ _ (by omega), zsI_n _ _ (by omega)]; exact h3, fun i B hB => by rw [zsI_ne _ _ _ (by omega), zsI_ne _ _ _ (by omega), zsI_ne _ _ _ (by omega)]; exact h4 i B hB⟩, ⟨zsI_s _ _ _ _, by omega, fun j hj => ?_⟩, by rw [zsI_n _ _ (by omega), zsI_n _ _ (by omega), zsI_s]⟩
  rw [zsI_n _ _ (by omega)]
  by_cases q : j = k
  · rw [q, zsI_s, up_s]
  · rw [zsI_n _ _ (by omega), up_n _ _ q, zsI_n _ _ (by omega)]; exact s.2.2 j (by omega)
theorem e5_clear {m : zMem} {A : AS} {L : List AS} {k : Nat} {f : Nat → Int32} (h : PC m A L) (s : ScC m k f) : ∃ m', fX5_clearScript m = some (nI k, m') ∧ PC m' A L ∧ ScC m' 0 f := by
  simp only [fX5_clearScript, kgi, kpi]
  rw [s.1]
  exact ⟨_, rfl, PC_scr h rfl (fun c hc => zsI_ne _ _ _ (by omega)), zsI_s _ _ _ _, by omega, fun j hj => absurd hj (by omega)⟩
theorem e6_clear {m : zMem} {A : AS} {L : List AS} {k : Nat} {f : Nat → Int32} (h : PM m A L) (s : ScM m k f) : ∃ m', fX6_clearScript m = some (nI k, m') ∧ PM m' A L ∧ ScM m' 0 f ∧ m'.1 0 4 = 0 := by
  simp only [fX6_clearScript, kgi, kpi]
  have e : (zsI m 0 4 0).1 0 6 = nI k := by rw [zsI_n _ _ (by omega)]; exact s.1
  rw [e]
  exact ⟨_, rfl, PM_0 (PM_4 h 0).1 _ (by omega), ⟨zsI_s _ _ _ _, by omega, fun j hj => absurd hj (by omega)⟩, by rw [zsI_n _ _ (by omega), zsI_s]⟩
