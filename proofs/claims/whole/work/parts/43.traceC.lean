/-! the class's walk as a whole -/
theorem hit_iff {A : AS} {x bd : Nat} (hw : WF A) (hx : x < 256) (hbd : bd ≤ 256) : ct (fun d => mem A (x ^^^ d)) bd = 0 ↔ ∀ k, k < 24 → aW A k ≠ 0 → bd ≤ (aW A k - 1) ^^^ x := by
  constructor
  · intro h k hk hw0
    apply Nat.le_of_not_lt
    intro hlt
    have hm : mem A (x ^^^ ((aW A k - 1) ^^^ x)) = true := by
      rw [Nat.xor_comm (aW A k - 1) x, xx]
      exact mem_of hk (by omega)
    have := ct_pos (p := fun d => mem A (x ^^^ d)) hlt hm
    omega
  · intro h
    refine ct_zero (fun d hd => ?_)
    apply Bool.eq_false_iff.mpr
    intro hm
    have hs := (mem_iff A (x ^^^ d)).mp hm
    have h1 := slot_at hs
    have h2 := h _ hs (by omega)
    rw [h1, Nat.add_sub_cancel, x2] at h2
    omega
theorem pX2_hasMemberNearer {N s x b : Nat} {m : zMem} {A : AS} (hN : 24 < N) (h : RepC m s A) (hw : WF A) (hx : x < 256) (hb : b < 256) : fX2_hasMemberNearer N s (nI x) (nI (b ^^^ x)) m = some (if hitB A x b = true then 0 else 1) := by
  have hbx : b ^^^ x < 256 := xor_lt (n := 8) hb hx
  simp only [fX2_hasMemberNearer, kjn]
  have hBle := fs_le (fun k => decide (aW A k ≠ 0) && decide ((aW A k - 1) ^^^ x < b ^^^ x)) 24
  have own : ∀ k, k < 24 → m.1 (s + 3) k = nI (aW A k) - 1 := h.2.2.2.2.1
  have own1 : ∀ k, k < 24 → aW A k ≠ 0 → m.1 (s + 3) k = nI (aW A k - 1) ∧ (aW A k - 1) ^^^ x < 256 ∧ aW A k - 1 < 256 := fun k hk h0 => by
    have := hw.1 k hk
    exact ⟨by rw [own k hk, nI_sub1 (by omega)], xor_lt (n := 8) (show aW A k - 1 < 256 by omega) hx, by omega⟩
  refine klp_at (fun k => nI k) (fs (fun k => decide (aW A k ≠ 0) && decide ((aW A k - 1) ^^^ x < b ^^^ x)) 24) rfl (fun k hk rec => ?_) (fun rec => ?_) (by omega)
  · have hno := fs_no hk
    simp only [Bool.and_eq_false_iff, decide_eq_false_iff_not] at hno
    unfold sX2_hasMemberNearer_2
    rw [nn24, if_neg (nI_ge (by omega) (by omega)), kld_n (by omega) (by decide)]
    by_cases e : aW A k = 0
    · rw [own k (by omega), e, if_pos (by decide), nI_1]
    · obtain ⟨o1, o2, o3⟩ := own1 k (by omega) e
      have hle : b ^^^ x ≤ (aW A k - 1) ^^^ x := by
        rcases hno with z | z
        · exact absurd e z
        · omega
      rw [o1, if_neg (nI_ne_m1 (by omega)), kld_n (by omega) (by decide), o1, nx_xor, if_pos (nI_le hle (by omega)), nI_1]
  · unfold sX2_hasMemberNearer_2
    by_cases hB : fs (fun k => decide (aW A k ≠ 0) && decide ((aW A k - 1) ^^^ x < b ^^^ x)) 24 = 24
    · have hh : hitB A x b = true := by
        unfold hitB
        refine decide_eq_true ((hit_iff hw hx (by omega)).mpr (fun k hk h0 => ?_))
        have hno := fs_no (p := fun k => decide (aW A k ≠ 0) && decide ((aW A k - 1) ^^^ x < b ^^^ x)) (n := 24) (j := k) (by rw [hB]; exact hk)
        simp only [Bool.and_eq_false_iff, decide_eq_false_iff_not] at hno
        rcases hno with z | z
        · exact absurd h0 z
        · omega
      rw [hB, nn24, if_pos (nI_le (Nat.le_refl _) (by omega)), if_pos hh]
    · have hat := fs_at (p := fun k => decide (aW A k ≠ 0) && decide ((aW A k - 1) ^^^ x < b ^^^ x)) (n := 24) (by omega)
      generalize fs (fun k => decide (aW A k ≠ 0) && decide ((aW A k - 1) ^^^ x < b ^^^ x)) 24 = B at *
      simp only [Bool.and_eq_true, decide_eq_true_eq] at hat
      obtain ⟨o1, o2, o3⟩ := own1 B (by omega) hat.1
      have hh : ¬ hitB A x b = true := fun z => by
        have := (hit_iff hw hx (by omega)).mp (of_decide_eq_true z) B (by omega) hat.1
        omega
      rw [nn24, if_neg (nI_ge (by omega) (by omega)), kld_n (by omega) (by decide), o1, if_neg (nI_ne_m1 (by omega)), kld_n (by omega) (by decide), o1, nx_xor, if_neg (nI_ge hat.2 (by omega)), if_neg hh]
theorem KN_mark {m : zMem} {mk : Nat → Nat} {x d v : Nat} (h : KN m mk x) (hd : d < 256) (hq : Qk mk x d = true) (hv : v ≤ 3) (h0 : v ≠ 0) : KN (zsI m 5 (ct (Qk mk x) d) (nI (v - 1))) (up mk (x ^^^ d) v) x ∧ ct (Qk (up mk (x ^^^ d) v) x) 256 = ct (Qk mk x) 256 := by
  have hQ : Qk (up mk (x ^^^ d) v) x = Qk mk x := by
    funext e
    by_cases he : e = d
    · subst he
      rw [hq]
      unfold Qk
      rw [up_s]
      simp [h0]
    · unfold Qk
      rw [up_n _ _ (fun z => he (xor_inj z))]
  refine ⟨⟨?_, by rw [hQ]; exact h.2.1, fun e he he2 => ?_⟩, by rw [hQ]⟩
  · rw [hQ, zsI_n _ _ (by omega)]; exact h.1
  · rw [hQ] at he2 ⊢
    obtain ⟨a1, a2, a3⟩ := h.2.2 e he he2
    by_cases h9 : e = d
    · subst h9
      rw [zsI_n _ _ (by omega), zsI_s, up_s]
      exact ⟨a1, rfl, hv⟩
    · have hne : ct (Qk mk x) e ≠ ct (Qk mk x) d := fun z => h9 (ct_inj he2 hq z)
      rw [zsI_n _ _ (by omega), zsI_n _ _ (by omega), up_n _ _ (fun z => h9 (xor_inj z))]
      exact ⟨a1, a2, a3⟩
/-- the walk's cells alone have changed -/
def frW (m m' : zMem) : Prop := m'.2 = m.2 ∧ ∀ c, c = 0 ∨ 6 ≤ c → m'.1 c = m.1 c
theorem frW.rf (m : zMem) : frW m m := ⟨rfl, fun _ _ => rfl⟩
theorem frW.tr {m m1 m2 : zMem} (h : frW m m1) (h2 : frW m1 m2) : frW m m2 := ⟨h2.1.trans h.1, fun c hc => (h2.2 c hc).trans (h.2 c hc)⟩
theorem frW_I (m : zMem) {a : Nat} (j : Nat) (x : Int32) (h : 1 ≤ a) (h2 : a ≤ 5) : frW m (zsI m a j x) := ⟨rfl, fun c hc => zsI_ne m j x (by omega)⟩
theorem frH.W {m m' : zMem} (h : frH m m') : frW m m' := ⟨h.1, fun c hc => by funext j; exact h.2 c j (by omega) (by omega) (by omega) (by omega)⟩
theorem KN_I {m : zMem} {mk : Nat → Nat} {x a j : Nat} {v : Int32} (h : KN m mk x) (ha : a ≠ 4 ∧ a ≠ 5 ∧ ¬ (a = 1 ∧ j = 9)) : KN (zsI m a j v) mk x := ⟨by rw [zsI_n _ _ (by omega)]; exact h.1, h.2.1, fun d hd hq => by rw [zsI_n _ _ (by omega), zsI_n _ _ (by omega)]; exact h.2.2 d hd hq⟩
theorem pX4_trace {N s a x : Nat} {m : zMem} {A : AS} (hN : 40 < N) (hs : isS s) (h : RepC m s A) (hw : WF A) (ha : a < 256) (hx : x < 256) (hma : mem A a = true) :
    ∃ m', fX4_trace N s (nI a) (nI x) m = some m' ∧ m'.1 1 1 = nI (nst A a x) ∧ m'.1 1 2 = nI (lDead A a x) ∧ m'.1 1 3 = nI (lRes A a x) ∧ m'.1 1 4 = (if lHit A a x = true then 1 else 0) ∧ (∀ i, i < nst A a x → m'.1 2 i = nI (cto A a x i)) ∧ frW m m' := by
  have hs10 := isS_ge hs
  have hnle := nst_le A a x
  have ka := (mem_iff A a).mp hma
  have wa := slot_at ka
  simp only [fX4_trace, kpi, kjn, klt]
  obtain ⟨m0, hm0⟩ : ∃ z, z = zsI (zsI (zsI m 1 1 0) 1 2 0) 1 9 0 := ⟨_, rfl⟩
  rw [← hm0]
  have f0 : frW m m0 := by
    rw [hm0]
    exact ((frW_I m 1 0 (by omega) (by omega)).tr (frW_I _ 2 0 (by omega) (by omega))).tr (frW_I _ 9 0 (by omega) (by omega))
  have q0 : ∀ d, Qk (fun _ => 0) x d = false := fun d => rfl
  have c0 : ∀ n, ct (Qk (fun _ => 0) x) n = 0 := fun n => ct_zero (fun j _ => q0 j)
  have K0 : KN m0 (fun _ => 0) x := ⟨by rw [hm0, zsI_s, c0]; rfl, by rw [c0]; omega, fun d hd hq => by rw [q0] at hq; cases hq⟩
  have R0 : RepC m0 s A := RepC_fr h (fun c h1 h2 => f0.2 c (by omega))
  obtain ⟨m1, e1, K1, C1, f1⟩ := pX4_hear (N := N) hN hs R0 hw ha ha hx hma K0 (by rw [c0]; omega)
  rw [e1, kc1_s, c0] at *
  have heq : ∀ id, id < 256 → (tz A a x 0).1 id = showS A (slot A a) x a (fun _ => 0) id := fun id hid => by
    show showS A (slot A a) x 256 (fun _ => 0) id = _
    unfold showS
    by_cases e : id = a
    · subst e
      have hn : ¬ nr A (slot A id) x (x ^^^ id) = true := fun z => by
        have h2 := (nr_inT z).1
        rw [xx] at h2
        have h3 := inT_own A (slot A id)
        rw [wa, Nat.add_sub_cancel] at h3
        rw [h3] at h2; cases h2
      rw [if_neg (fun z => hn z.1), if_neg (fun z => hn z.1)]
    · have h1 : (nr A (slot A a) x (x ^^^ id) = true ∧ id ≠ 256 ∧ True) ↔ (nr A (slot A a) x (x ^^^ id) = true ∧ id ≠ a ∧ True) := ⟨fun z => ⟨z.1, e, trivial⟩, fun z => ⟨z.1, by omega, trivial⟩⟩
      simp only [h1]
  obtain ⟨K1', C1'⟩ := KN_congr hx K1 heq
  have fm1 : frW m m1 := f0.tr f1.W
  have s1 : m1.1 1 1 = nI 0 := by rw [f1.2 _ _ (by omega) (by omega) (by omega) (by omega), hm0, zsI_n _ _ (by omega), zsI_n _ _ (by omega), zsI_s]; rfl
  have s2 : m1.1 1 2 = nI 0 := by rw [f1.2 _ _ (by omega) (by omega) (by omega) (by omega), hm0, zsI_n _ _ (by omega), zsI_s]; rfl
  rw [nx_xor]
  refine klp_iR (n := N) (z := (nI (a ^^^ x), 0, m1)) (fun (i : Nat) (z : Int32 × Int32 × zMem) => z.1 = nI ((tz A a x i).2.2 ^^^ x) ∧ z.2.1 = nI i ∧ KN z.2.2 (tz A a x i).1 x ∧ ct (Qk (tz A a x i).1 x) 256 ≤ 3 * (i + 1) ∧ z.2.2.1 1 1 = nI i ∧ z.2.2.1 1 2 = nI (tz A a x i).2.1 ∧ (∀ j, j < i → z.2.2.1 2 j = nI (cto A a x j)) ∧ frW m z.2.2) (nst A a x) (fun r => ∃ m', r = some m' ∧ m'.1 1 1 = nI (nst A a x) ∧ m'.1 1 2 = nI (lDead A a x) ∧ m'.1 1 3 = nI (lRes A a x) ∧ m'.1 1 4 = (if lHit A a x = true then 1 else 0) ∧ (∀ i, i < nst A a x → m'.1 2 i = nI (cto A a x i)) ∧ frW m m') (fun i hi z hz => ?_) (fun z hz rec => ?_) ⟨rfl, rfl, K1', by rw [C1']; omega, s1, s2, fun j hj => absurd hj (by omega), fm1⟩ (by omega)
  · obtain ⟨z1, z2, z3⟩ := z
    obtain ⟨g1, g2, g3, g4, g5, g6, g7, g8⟩ := hz
    dsimp only at g1 g2 g3 g4 g5 g6 g7 g8
    subst g1; subst g2
    have hh : ∀ k, k ≤ i → has (tz A a x k).1 x = true := fun k hk => nst_has (by omega)
    have hhi := hh i (Nat.le_refl _)
    obtain ⟨n1, n2⟩ := has_nx hhi
    have hq : Qk (tz A a x i).1 x (nx (tz A a x i).1 x) = true := by unfold Qk; rw [n2]; rfl
    have hb := tz_best (A := A) ha hx i (fun k hk => hh k (by omega))
    have hc := cto_lt hx hhi
    have hne := cto_ne hx hma hh
    have hcn : cto A a x i = nx (tz A a x i).1 x ^^^ x := Nat.xor_comm _ _
    have hrank := ct_app (p := Qk (tz A a x i).1 x) n1 hq
    have hKd := g3.2.2 _ n1 hq
    obtain ⟨m5, hm5⟩ : ∃ z, z = zsI (zsI z3 2 i (nI (cto A a x i))) 1 1 (nI (i + 1)) := ⟨_, rfl⟩
    have K5 : KN m5 (tz A a x i).1 x := by rw [hm5]; exact KN_I (KN_I g3 (by omega)) (by omega)
    have f5 : frW m m5 := by rw [hm5]; exact (g8.tr (frW_I _ _ _ (by omega) (by omega))).tr (frW_I _ _ _ (by omega) (by omega))
    have R5 : RepC m5 s A := RepC_fr h (fun c h1 h2 => f5.2 c (by omega))
    have hM := pX2_isMember R5 hc.1
    have r5 : ∀ j, j < i + 1 → m5.1 2 j = nI (cto A a x j) := fun j hj => by
      rw [hm5, zsI_n _ _ (by omega)]
      by_cases e : j = i
      · subst e; rw [zsI_s]
      · rw [zsI_n _ _ (by omega)]; exact g7 j (by omega)
    have p1 : m5.1 1 1 = nI (i + 1) := by rw [hm5, zsI_s]
    have p2 : m5.1 1 2 = nI (tz A a x i).2.1 := by rw [hm5, zsI_n _ _ (by omega), zsI_n _ _ (by omega)]; exact g6
    have pre : ∀ rec, sX4_trace_31 N s (nI a) (nI x) (fun w6 m7 => kc1 (fX2_hasMemberNearer N s (nI x) w6 (zsI m7 1 3 (w6 ^^^ nI x))) fun v9 => if v9 = 0 then kpz (zsI m7 1 3 (w6 ^^^ nI x)) 1 4 1 fun m11 => some m11 else kpz (zsI m7 1 3 (w6 ^^^ nI x)) 1 4 0 fun m11 => some m11) rec (nI ((tz A a x i).2.2 ^^^ x), nI i, z3) =
        (if (if mem A (cto A a x i) = true then (1 : Int32) else 0) = 0 then kst m5 5 39 (nI (ct (Qk (tz A a x i).1 x) (nx (tz A a x i).1 x))) 2 fun m22 => rec (nI ((tz A a x i).2.2 ^^^ x), nI i + 1, zsI m22 1 2 (m22.1 1 2 + 1))
        else kst m5 5 39 (nI (ct (Qk (tz A a x i).1 x) (nx (tz A a x i).1 x))) 1 fun m25 => kmin (nI ((tz A a x i).2.2 ^^^ x)) (nI (nx (tz A a x i).1 x)) fun v26 => kc1 (fX4_hear N s (nI (cto A a x i)) (nI a) (nI x) m25) fun m27 => rec (v26, nI i + 1, m27)) := by
      intro rec
      simp only [sX4_trace_31, kgi, kpi, klt]
      rw [nn12, if_neg (nI_ge (by omega) (by omega)), pX4_nextSpot hN g3, if_pos hhi, kc1_s, if_neg (nI_ne_m1 (by omega)), kld_n (by omega) (by decide), hKd.1, nx_xor, ← hcn, kst_n (by omega) (by decide), zsI_n (b := 1) _ _ (by omega), g5, nI_1, ← hm5, hM, kc1_s]
    have hK5 : ct (Qk (tz A a x i).1 x) 256 ≤ 39 := g3.2.1
    by_cases hm : mem A (cto A a x i) = true
    · have ht : tz A a x (i + 1) = (showS A (slot A (cto A a x i)) x a (up (tz A a x i).1 (cto A a x i) 2), (tz A a x i).2.1, if cto A a x i ^^^ x < (tz A a x i).2.2 ^^^ x then cto A a x i else (tz A a x i).2.2) := by
        show tzs A a x (tz A a x i) (cto A a x i) = _
        unfold tzs
        rw [if_pos hm]
      obtain ⟨K6, C6⟩ := KN_mark K5 n1 hq (v := 2) (by omega) (by omega)
      obtain ⟨m6, hm6⟩ : ∃ z, z = zsI m5 5 (ct (Qk (tz A a x i).1 x) (nx (tz A a x i).1 x)) (nI (2 - 1)) := ⟨_, rfl⟩
      rw [← hm6] at K6
      have f6 : frW m m6 := by rw [hm6]; exact f5.tr (frW_I _ _ _ (by omega) (by omega))
      have R6 : RepC m6 s A := RepC_fr h (fun c h1 h2 => f6.2 c (by omega))
      obtain ⟨m7, e7, K7, C7, f7⟩ := pX4_hear (N := N) hN hs R6 hw hc.1 ha hx hm K6 (by rw [C6]; omega)
      have o : ∀ c j, c = 2 ∨ c = 1 ∧ (j = 1 ∨ j = 2) → m7.1 c j = m5.1 c j := fun c j hcj => by
        rw [f7.2 _ _ (by omega) (by omega) (by omega) (by omega), hm6, zsI_n _ _ (by omega)]
      refine ⟨(nI ((tz A a x (i + 1)).2.2 ^^^ x), nI (i + 1), m7), ⟨rfl, rfl, ?_, ?_, ?_, ?_, ?_, ?_⟩, fun rec => ?_⟩
      · rw [ht]; exact K7
      · rw [ht]
        have : ct (Qk (showS A (slot A (cto A a x i)) x a (up (tz A a x i).1 (cto A a x i) 2)) x) 256 ≤ ct (Qk (up (tz A a x i).1 (cto A a x i) 2) x) 256 + 3 := C7
        have h2 : ct (Qk (up (tz A a x i).1 (cto A a x i) 2) x) 256 = ct (Qk (tz A a x i).1 x) 256 := C6
        show ct (Qk (showS A (slot A (cto A a x i)) x a (up (tz A a x i).1 (cto A a x i) 2)) x) 256 ≤ _
        omega
      · show m7.1 1 1 = _
        rw [o _ _ (by omega)]; exact p1
      · show m7.1 1 2 = _
        rw [o _ _ (by omega), ht]; exact p2
      · intro j hj
        show m7.1 2 j = _
        rw [o _ _ (by omega)]; exact r5 j hj
      · exact f6.tr f7.W
      · rw [pre, if_pos hm, if_neg (by decide), kst_n (by omega) (by decide), show (1 : Int32) = nI (2 - 1) from rfl, ← hm6]
        show kc1 (fX4_hear N s (nI (cto A a x i)) (nI a) (nI x) m6) _ = _
        rw [e7, kc1_s, ht]
        have hcx : cto A a x i ^^^ x = nx (tz A a x i).1 x := x2 _ _
        have hbx : (tz A a x i).2.2 ^^^ x < 256 := xor_lt (n := 8) hb hx
        have e8 : (if nI (nx (tz A a x i).1 x) < nI ((tz A a x i).2.2 ^^^ x) then nI (nx (tz A a x i).1 x) else nI ((tz A a x i).2.2 ^^^ x)) = nI ((if cto A a x i ^^^ x < (tz A a x i).2.2 ^^^ x then cto A a x i else (tz A a x i).2.2) ^^^ x) := by
          rw [hcx]
          by_cases e : nx (tz A a x i).1 x < (tz A a x i).2.2 ^^^ x
          · rw [if_pos e, if_pos (nI_lt e (by omega)), hcx]
          · rw [if_neg e, if_neg (nI_nlt (by omega) (by omega))]
        rw [e8, show nI i + nI (2 - 1) = nI (i + 1) from nI_1 i]
    · have ht : tz A a x (i + 1) = (up (tz A a x i).1 (cto A a x i) 3, (tz A a x i).2.1 + 1, (tz A a x i).2.2) := by
        show tzs A a x (tz A a x i) (cto A a x i) = _
        unfold tzs
        rw [if_neg hm]
      obtain ⟨K6, C6⟩ := KN_mark K5 n1 hq (v := 3) (by omega) (by omega)
      obtain ⟨m6, hm6⟩ : ∃ z, z = zsI m5 5 (ct (Qk (tz A a x i).1 x) (nx (tz A a x i).1 x)) (nI (3 - 1)) := ⟨_, rfl⟩
      rw [← hm6] at K6
      have f6 : frW m m6 := by rw [hm6]; exact f5.tr (frW_I _ _ _ (by omega) (by omega))
      have o : ∀ c j, c ≠ 5 → m6.1 c j = m5.1 c j := fun c j hcj => by
        rw [hm6, zsI_n _ _ (by omega)]
      refine ⟨(nI ((tz A a x (i + 1)).2.2 ^^^ x), nI (i + 1), zsI m6 1 2 (m6.1 1 2 + 1)), ⟨rfl, rfl, ?_, ?_, ?_, ?_, ?_, ?_⟩, fun rec => ?_⟩
      · rw [ht]; exact KN_I K6 (by omega)
      · rw [ht]
        have h2 : ct (Qk (up (tz A a x i).1 (cto A a x i) 3) x) 256 = ct (Qk (tz A a x i).1 x) 256 := C6
        show ct (Qk (up (tz A a x i).1 (cto A a x i) 3) x) 256 ≤ _
        omega
      · show (zsI m6 1 2 _).1 1 1 = _
        rw [zsI_n _ _ (by omega), o _ _ (by omega)]; exact p1
      · show (zsI m6 1 2 _).1 1 2 = _
        rw [zsI_s, o _ _ (by omega), ht, p2, nI_1]
      · intro j hj
        show (zsI m6 1 2 _).1 2 j = _
        rw [zsI_n _ _ (by omega), o _ _ (by omega)]; exact r5 j hj
      · exact f6.tr (frW_I _ _ _ (by omega) (by omega))
      · rw [pre, if_neg hm, if_pos rfl, kst_n (by omega) (by decide), show (2 : Int32) = nI (3 - 1) from rfl, ← hm6, ht, nI_1]
  · obtain ⟨z1, z2, z3⟩ := z
    obtain ⟨g1, g2, g3, g4, g5, g6, g7, g8⟩ := hz
    dsimp only at g1 g2 g3 g4 g5 g6 g7 g8
    subst g1; subst g2
    have hb := tz_best (A := A) ha hx (nst A a x) (fun k hk => nst_has hk)
    have R3 : RepC (zsI z3 1 3 (nI (lRes A a x))) s A := RepC_fr h (fun c h1 h2 => by
      rw [zsI_ne _ _ _ (by omega)]; exact g8.2 c (by omega))
    have fin : sX4_trace_31 N s (nI a) (nI x) (fun w6 m7 => kc1 (fX2_hasMemberNearer N s (nI x) w6 (zsI m7 1 3 (w6 ^^^ nI x))) fun v9 => if v9 = 0 then kpz (zsI m7 1 3 (w6 ^^^ nI x)) 1 4 1 fun m11 => some m11 else kpz (zsI m7 1 3 (w6 ^^^ nI x)) 1 4 0 fun m11 => some m11) rec (nI ((tz A a x (nst A a x)).2.2 ^^^ x), nI (nst A a x), z3) = some (zsI (zsI z3 1 3 (nI (lRes A a x))) 1 4 (if lHit A a x = true then 1 else 0)) := by
      have tail : (kc1 (fX2_hasMemberNearer N s (nI x) (nI ((tz A a x (nst A a x)).2.2 ^^^ x)) (zsI z3 1 3 (nI ((tz A a x (nst A a x)).2.2 ^^^ x) ^^^ nI x))) fun v9 => if v9 = 0 then kpz (zsI z3 1 3 (nI ((tz A a x (nst A a x)).2.2 ^^^ x) ^^^ nI x)) 1 4 1 fun m11 => some m11 else kpz (zsI z3 1 3 (nI ((tz A a x (nst A a x)).2.2 ^^^ x) ^^^ nI x)) 1 4 0 fun m11 => some m11) = some (zsI (zsI z3 1 3 (nI (lRes A a x))) 1 4 (if lHit A a x = true then 1 else 0)) := by
        have e : nI ((tz A a x (nst A a x)).2.2 ^^^ x) ^^^ nI x = nI (lRes A a x) := by
          rw [nx_xor, Nat.xor_assoc, Nat.xor_self, Nat.xor_zero]; rfl
        rw [e]
        have e2 : (tz A a x (nst A a x)).2.2 = lRes A a x := rfl
        rw [e2, pX2_hasMemberNearer (N := N) (b := lRes A a x) (by omega) R3 hw hx hb, kc1_s]
        by_cases e3 : hitB A x (lRes A a x) = true
        · have e4 : lHit A a x = true := e3
          rw [if_pos e3, if_pos rfl, if_pos e4]; rfl
        · have e4 : ¬ lHit A a x = true := e3
          rw [if_neg e3, if_neg (by decide), if_neg e4]; rfl
      simp only [sX4_trace_31, kgi, kpi, klt]
      by_cases e : nst A a x = 12
      · rw [e] at tail ⊢
        rw [nn12, if_pos (nI_le (Nat.le_refl _) (by omega))]
        exact tail
      · have hno : ¬ has (tz A a x (nst A a x)).1 x = true := by
          have := fs_at (p := fun i => !has (tz A a x i).1 x) (n := 12) (show fs _ 12 < 12 by have : nst A a x = fs (fun i => !has (tz A a x i).1 x) 12 := rfl; omega)
          have h2 : (!has (tz A a x (nst A a x)).1 x) = true := this
          intro z; rw [z] at h2; cases h2
        rw [nn12, if_neg (nI_ge (by omega) (by omega)), pX4_nextSpot hN g3, if_neg hno, kc1_s, if_pos rfl]
        exact tail
    refine ⟨_, fin, ?_, ?_, ?_, ?_, ?_, ?_⟩
    · rw [zsI_n _ _ (by omega), zsI_n _ _ (by omega)]; exact g5
    · rw [zsI_n _ _ (by omega), zsI_n _ _ (by omega)]; exact g6
    · rw [zsI_n _ _ (by omega), zsI_s]
    · rw [zsI_s]
    · intro j hj
      rw [zsI_n _ _ (by omega), zsI_n _ _ (by omega)]; exact g7 j hj
    · exact (g8.tr (frW_I _ _ _ (by omega) (by omega))).tr (frW_I _ _ _ (by omega) (by omega))
