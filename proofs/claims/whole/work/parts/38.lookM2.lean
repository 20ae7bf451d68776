/-! a whole lookup of the reference -/
theorem ap_S (A : AS) (a c : Nat) {i : Nat} (v : Int32) (h3 : i ≠ 3) (h4 : i ≠ 4) (h12 : i ≠ 12) (h13 : i ≠ 13) (h14 : i ≠ 14) : apS (sS A i v) a c = sS (apS A a c) i v := by
  unfold apS
  have em : mem (sS A i v) c = mem A c := rfl
  rw [em]
  split
  · rw [learn_S _ _ _ _ h3 h4 h12 h13 h14, learn_S _ _ _ _ h3 h4 h12 h13 h14]
  · exact forget_S _ _ _ _ _
theorem tz_best {A : AS} {a x : Nat} (ha : a < 256) (hx : x < 256) (n : Nat) (hn : ∀ i, i < n → has (tz A a x i).1 x = true) : (tz A a x n).2.2 < 256 := by
  induction n with
  | zero => exact ha
  | succ n ih =>
    have ih := ih (fun i hi => hn i (by omega))
    have hc := (cto_lt hx (hn n (by omega))).1
    show (tzs A a x (tz A a x n) (cto A a x n)).2.2 < 256
    unfold tzs
    split
    · show (if _ then _ else _) < 256
      split
      · exact hc
      · exact ih
    · exact ih
/-- the reference's state behind i contacts -/
def Ai (A : AS) (a x i : Nat) : AS := sS (sS (pz A a x (sS A 9 (aS A 9 + 1)) i) 10 (aS A 10 + nI i)) 11 (aS A 11 + nI (tz A a x i).2.1)
theorem Ai_W (A : AS) (a x i : Nat) : aW (Ai A a x i) = aW A := (pz_W A a x (sS A 9 (aS A 9 + 1)) i).1
theorem slt_ne {A : AS} {a c : Nat} (hma : mem A a = true) (h : a ≠ c) : slot A a ≠ slot A c := fun e => by
  have h1 := slot_at ((mem_iff A a).mp hma)
  have h2 : slot A c < 24 := by rw [← e]; exact (mem_iff A a).mp hma
  have h3 := slot_at h2
  rw [e] at h1
  omega
theorem Ai_B {A : AS} {a x i : Nat} (hx : x < 256) (hma : mem A a = true) (hn : ∀ k, k ≤ i → has (tz A a x k).1 x = true) (hmc : mem A (cto A a x i) = true) : aB (Ai A a x i) (slot A (cto A a x i)) = aB A (slot A (cto A a x i)) := by
  exact pz_B A a x (sS A 9 (aS A 9 + 1)) i (k := slot A (cto A a x i)) (slt_ne hmc (cto_ne hx hma hn)) (fun j hj => slt_ne hmc (Ne.symm (cto_inj hx hj hn)))
theorem i32_assoc (a b c : Int32) : a + b + c = a + (b + c) := Int32.add_assoc a b c
theorem Ai_s1 (A : AS) (a x i : Nat) (hd : (tz A a x (i + 1)).2.1 = (tz A a x i).2.1) : apS (sS (Ai A a x i) 10 (aS (Ai A a x i) 10 + 1)) a (cto A a x i) = Ai A a x (i + 1) := by
  have e10 : aS (Ai A a x i) 10 = aS A 10 + nI i := by unfold Ai; rw [sS_n _ _ (by decide), sS_g]
  rw [e10]
  unfold Ai
  rw [sS_cm _ _ _ (by decide), sS_sS, i32_assoc, nI_1, ap_S _ _ _ _ (by decide) (by decide) (by decide) (by decide) (by decide), ap_S _ _ _ _ (by decide) (by decide) (by decide) (by decide) (by decide), hd]
  rfl
theorem Ai_s2 (A : AS) (a x i : Nat) (hd : (tz A a x (i + 1)).2.1 = (tz A a x i).2.1 + 1) : apS (sS (sS (Ai A a x i) 10 (aS (Ai A a x i) 10 + 1)) 11 (aS (Ai A a x i) 11 + 1)) a (cto A a x i) = Ai A a x (i + 1) := by
  have e10 : aS (Ai A a x i) 10 = aS A 10 + nI i := by unfold Ai; rw [sS_n _ _ (by decide), sS_g]
  have e11 : aS (Ai A a x i) 11 = aS A 11 + nI (tz A a x i).2.1 := by unfold Ai; rw [sS_g]
  rw [e10, e11]
  unfold Ai
  rw [sS_cm _ _ _ (show 11 ≠ 10 by decide), sS_sS, i32_assoc, nI_1, sS_sS, i32_assoc, nI_1, ap_S _ _ _ _ (by decide) (by decide) (by decide) (by decide) (by decide), ap_S _ _ _ _ (by decide) (by decide) (by decide) (by decide) (by decide), hd]
  rfl
theorem lookA_eq (A : AS) (a x : Nat) : lookA A a x = sS (Ai A a x (nst A a x)) 15 (aS A 15 + (if lHit A a x = true then 1 else 0)) := by
  unfold lookA cA Ai
  rw [pz_S _ _ _ _ _ (by decide) (by decide) (by decide) (by decide) (by decide), pz_S _ _ _ _ _ (by decide) (by decide) (by decide) (by decide) (by decide), pz_S _ _ _ _ _ (by decide) (by decide) (by decide) (by decide) (by decide)]
  rfl
theorem pX6_looks {N a x : Nat} {m : zMem} {A : AS} (hN : 256 < N) (h : RowM (m.1 1) A) (hw : WF A) (ha : a < 256) (hx : x < 256) (hma : mem A a = true) :
    ∃ m', fX6_looks N (nI a) (nI x) m = some (nI (lRes A a x), m') ∧ RowM (m'.1 1) (lookA A a x) ∧ frL m m' ∧ m'.1 0 8 = nI (nst A a x) ∧ m'.1 0 9 = nI (lDead A a x) ∧ m'.1 0 10 = (if lHit A a x = true then 1 else 0) := by
  have ka := (mem_iff A a).mp hma
  have wa := slot_at ka
  have hnle := nst_le A a x
  simp only [fX6_looks, kjn, kpi, kgi]
  refine klp_iR (z := (0, m)) (fun (i : Nat) (z : Int32 × zMem) => z.1 = nI i ∧ fr5 m z.2 ∧ ∀ id, id < i → z.2.1 5 id = 0) 256 (fun r => ∃ m', r = some (nI (lRes A a x), m') ∧ RowM (m'.1 1) (lookA A a x) ∧ frL m m' ∧ m'.1 0 8 = nI (nst A a x) ∧ m'.1 0 9 = nI (lDead A a x) ∧ m'.1 0 10 = (if lHit A a x = true then 1 else 0)) (fun i hi z hz => ?_) (fun z hz rec => ?_) ⟨rfl, ⟨rfl, fun _ _ => rfl⟩, fun id hid => absurd hid (by omega)⟩ (by omega)
  · obtain ⟨z1, z2⟩ := z
    obtain ⟨e1, e2, e3⟩ := hz
    dsimp only at e1 e2 e3
    subst e1
    refine ⟨(nI (i + 1), zsI z2 5 i 0), ⟨rfl, e2.tr (fr5_I _ _ _), fun id hid => ?_⟩, fun rec => ?_⟩
    · dsimp only
      by_cases e : id = i
      · subst e; rw [zsI_s]
      · rw [zsI_n _ _ (by omega)]; exact e3 id (by omega)
    · simp only [sX6_looks_2]
      rw [nn256, if_neg (nI_ge (by omega) (by omega)), kst_n (by omega) (by decide), nI_1]
  obtain ⟨z1, m1⟩ := z
  obtain ⟨e1, f1, e3⟩ := hz
  dsimp only at e1 f1 e3
  subst e1
  simp only [sX6_looks_2]
  rw [nn256, if_pos (nI_le (by omega) (by omega))]
  -- the numbers, the counter
  rw [show (9 : Int32) = nI 9 from rfl, kld_n (by omega) (by decide), kst_n (by omega) (by decide)]
  have r1 : (zsI (zsI m1 0 8 0) 0 9 0).1 1 = m.1 1 := by rw [zsI_ne _ _ _ (by decide), zsI_ne _ _ _ (by decide), f1.2 1 (by decide)]
  rw [r1, h.1 9 (by omega)]
  obtain ⟨m2, hm2⟩ : ∃ z, z = zsI (zsI (zsI m1 0 8 0) 0 9 0) 1 9 (aS A 9 + 1) := ⟨_, rfl⟩
  rw [← hm2]
  have R2 : RowM (m2.1 1) (sS A 9 (aS A 9 + 1)) := by
    rw [hm2]
    exact RowM_S (m := zsI (zsI m1 0 8 0) 0 9 0) (by rw [r1]; exact h) (by decide)
  have M2 : MkM m2 (fun _ => 0) := fun id hid => ⟨by rw [hm2, zsI_n _ _ (by omega), zsI_n _ _ (by omega), zsI_n _ _ (by omega)]; exact e3 id hid, Nat.zero_le _⟩
  have f2 : frL m m2 := by
    rw [hm2]
    exact f1.L.tr (frL.tr (frL.tr (frL_0 _ _ (Or.inl rfl)) (frL_0 _ _ (Or.inr (Or.inl rfl)))) (frN_I _ _ _).L)
  have g8 : m2.1 0 8 = nI 0 := by rw [hm2, zsI_n _ _ (by omega), zsI_n _ _ (by omega), zsI_s]; rfl
  have g9 : m2.1 0 9 = nI 0 := by rw [hm2, zsI_n _ _ (by omega), zsI_s]; rfl
  have hle2 : ∀ k, k < 24 → aW (sS A 9 (aS A 9 + 1)) k ≤ 256 := hw.1
  rw [pX6_placeOf (by omega) R2 hle2 ha, show slot (sS A 9 (aS A 9 + 1)) a = slot A a from rfl, if_pos ka, kc1_s]
  obtain ⟨m3, e3', M3, f3⟩ := pX6_shows (N := N) (k := slot A a) (x := x) (but := 256) (bI := -1) hN R2 ka (by show aW A _ ≠ 0; omega) (hle2 _ ka) hx (fun id hid => ⟨fun z => absurd z (nI_ne_m1 (by omega)), fun z => absurd z (by omega)⟩) M2
  rw [e3', kc1_s]
  have M3' : MkM m3 (tz A a x 0).1 := M3
  rw [pX6_nextFor hN hx M3', kc1_s]
  -- the contacts
  have hP0 : sS A 9 (aS A 9 + 1) = Ai A a x 0 := by
    unfold Ai
    show _ = sS (sS (sS A 9 (aS A 9 + 1)) 10 (aS A 10 + nI 0)) 11 (aS A 11 + nI 0)
    have z1 : aS A 10 + nI 0 = aS (sS A 9 (aS A 9 + 1)) 10 := by rw [sS_n _ _ (by decide)]; exact Int32.add_zero _
    have z2 : aS A 11 + nI 0 = aS (sS A 9 (aS A 9 + 1)) 11 := by rw [sS_n _ _ (by decide)]; exact Int32.add_zero _
    rw [z1, z2, sS_id, sS_id]
  refine klp_iR (z := (nI a, (if has (tz A a x 0).1 x = true then nI (x ^^^ nx (tz A a x 0).1 x) else -1), m3)) (fun (i : Nat) (z : Int32 × Int32 × zMem) => z.1 = nI (tz A a x i).2.2 ∧ z.2.1 = (if has (tz A a x i).1 x = true then nI (cto A a x i) else -1) ∧ RowM (z.2.2.1 1) (Ai A a x i) ∧ MkM z.2.2 (tz A a x i).1 ∧ z.2.2.1 0 8 = nI i ∧ z.2.2.1 0 9 = nI (tz A a x i).2.1 ∧ frL m z.2.2) (nst A a x) (fun r => ∃ m', r = some (nI (lRes A a x), m') ∧ RowM (m'.1 1) (lookA A a x) ∧ frL m m' ∧ m'.1 0 8 = nI (nst A a x) ∧ m'.1 0 9 = nI (lDead A a x) ∧ m'.1 0 10 = (if lHit A a x = true then 1 else 0)) (fun i hi z hz => ?_) (fun z hz rec => ?_) ⟨rfl, rfl, by dsimp only; rw [f3.2 1 (by decide), ← hP0]; exact R2, M3', by dsimp only; rw [f3.2 0 (by decide)]; exact g8, by dsimp only; rw [f3.2 0 (by decide)]; exact g9, f2.tr f3.L⟩ (by omega)
  · obtain ⟨z1, z2, z3⟩ := z
    obtain ⟨q1, q2, q3, q4, q5, q6, q7⟩ := hz
    dsimp only at q1 q2 q3 q4 q5 q6 q7
    have hh : ∀ k, k ≤ i → has (tz A a x k).1 x = true := fun k hk => nst_has (by omega)
    have hb := tz_best (A := A) ha hx i (fun k hk => hh k (by omega))
    rw [if_pos (hh i (Nat.le_refl _))] at q2
    have hc := cto_lt hx (hh i (Nat.le_refl _))
    have hne := cto_ne hx hma hh
    have hWi := Ai_W A a x i
    have hwi : WF (Ai A a x i) := WF_pz (A := A) (B := sS A 9 (aS A 9 + 1)) hw hx ha rfl hma i (fun k hk => hh k (by omega))
    obtain ⟨m4, e4, f4, t8, t10, t⟩ := pX6_contacts (N := N) (c := cto A a x i) hN q3 hwi hx ha hc.1 (Ne.symm hne) (by rw [mem_W hWi]; exact hma) q4 q5 q6
    rw [mem_W hWi] at t
    subst q1; subst q2
    by_cases hmc : mem A (cto A a x i) = true
    · rw [if_pos hmc] at t
      obtain ⟨t1, t2, t3⟩ := t
      have hd : (tz A a x (i + 1)).2.1 = (tz A a x i).2.1 := by
        show (tzs A a x (tz A a x i) (cto A a x i)).2.1 = _
        unfold tzs
        rw [if_pos hmc]
      have hmk : (tz A a x (i + 1)).1 = showS A (slot A (cto A a x i)) x a (up (tz A a x i).1 (cto A a x i) 2) := by
        show (tzs A a x (tz A a x i) (cto A a x i)).1 = _
        unfold tzs
        rw [if_pos hmc]
      have hbs : (tz A a x (i + 1)).2.2 = if cto A a x i ^^^ x < (tz A a x i).2.2 ^^^ x then cto A a x i else (tz A a x i).2.2 := by
        show (tzs A a x (tz A a x i) (cto A a x i)).2.2 = _
        unfold tzs
        rw [if_pos hmc]
      have M4 : MkM m4 (tz A a x (i + 1)).1 := by
        rw [hmk, ← showS_c (A := Ai A a x i) (by rw [hWi]) (Ai_B hx hma hh hmc), ← slot_W hWi]; exact t2
      have R4 : RowM (m4.1 1) (Ai A a x (i + 1)) := by rw [← Ai_s1 A a x i hd]; exact t1
      have hm2' : m4.1 5 (cto A a x i) = 2 := by
        rw [(M4 _ hc.1).1, hmk, showS_ge (by rw [up_s]; decide), up_s]; rfl
      refine ⟨(nI (tz A a x (i + 1)).2.2, (if has (tz A a x (i + 1)).1 x = true then nI (cto A a x (i + 1)) else -1), m4), ⟨rfl, rfl, R4, M4, t8, by rw [hd]; exact t3, q7.tr f4⟩, fun rec => ?_⟩
      simp only [sX6_looks_63, kgi, kjn]
      rw [if_neg (nI_ne_m1 (by omega)), q5, nn12, if_neg (nI_ge (by omega) (by omega)), e4, kc1_s, kld_n hc.1 (by decide), hm2', if_pos rfl, pX6_nextFor hN hx M4, kc1_s, nx_xor, nx_xor, hbs]
      have x1 : (tz A a x i).2.2 ^^^ x < 256 := xor_lt (n := 8) hb hx
      have x3 : cto A a x i ^^^ x < 256 := xor_lt (n := 8) hc.1 hx
      by_cases hlt : cto A a x i ^^^ x < (tz A a x i).2.2 ^^^ x
      · rw [if_neg (nI_ge hlt (by omega)), if_pos hlt]
        rfl
      · rw [if_pos (nI_le (by omega) (by omega)), if_neg hlt]
        rfl
    · rw [if_neg hmc] at t
      obtain ⟨t1, t2, t3⟩ := t
      have hd : (tz A a x (i + 1)).2.1 = (tz A a x i).2.1 + 1 := by
        show (tzs A a x (tz A a x i) (cto A a x i)).2.1 = _
        unfold tzs
        rw [if_neg hmc]
      have hmk : (tz A a x (i + 1)).1 = up (tz A a x i).1 (cto A a x i) 3 := by
        show (tzs A a x (tz A a x i) (cto A a x i)).1 = _
        unfold tzs
        rw [if_neg hmc]
      have hbs : (tz A a x (i + 1)).2.2 = (tz A a x i).2.2 := by
        show (tzs A a x (tz A a x i) (cto A a x i)).2.2 = _
        unfold tzs
        rw [if_neg hmc]
      have M4 : MkM m4 (tz A a x (i + 1)).1 := by rw [hmk]; exact t2
      have R4 : RowM (m4.1 1) (Ai A a x (i + 1)) := by rw [← Ai_s2 A a x i hd]; exact t1
      have hm2' : m4.1 5 (cto A a x i) = 3 := by
        rw [(M4 _ hc.1).1, hmk, up_s]; rfl
      refine ⟨(nI (tz A a x (i + 1)).2.2, (if has (tz A a x (i + 1)).1 x = true then nI (cto A a x (i + 1)) else -1), m4), ⟨rfl, rfl, R4, M4, t8, by rw [hd]; exact t3, q7.tr f4⟩, fun rec => ?_⟩
      simp only [sX6_looks_63, kgi, kjn]
      rw [if_neg (nI_ne_m1 (by omega)), q5, nn12, if_neg (nI_ge (by omega) (by omega)), e4, kc1_s, kld_n hc.1 (by decide), hm2', if_neg (by decide), pX6_nextFor hN hx M4, kc1_s, hbs]
      rfl
  obtain ⟨z1, z2, m4⟩ := z
  obtain ⟨q1, q2, q3, q4, q5, q6, q7⟩ := hz
  dsimp only at q1 q2 q3 q4 q5 q6 q7
  have hh : ∀ k, k < nst A a x → has (tz A a x k).1 x = true := fun k hk => nst_has hk
  have hb := tz_best (A := A) ha hx (nst A a x) hh
  have hWn := Ai_W A a x (nst A a x)
  have x1 : (tz A a x (nst A a x)).2.2 ^^^ x < 256 := xor_lt (n := 8) hb hx
  have hout : sX6_looks_63 N (nI a) (nI x) = sX6_looks_63 N (nI a) (nI x) := rfl
  simp only [sX6_looks_63, kgi]
  subst q1; subst q2
  have hx12 : ∀ (α : Type) (u v : Option α), (if (if has (tz A a x (nst A a x)).1 x = true then nI (cto A a x (nst A a x)) else -1) = (-1) then u else if 12 ≤ m4.1 0 8 then u else v) = u := by
    intro α u v
    by_cases he : nst A a x < 12
    · have hnh : has (tz A a x (nst A a x)).1 x = false := by
        have h9 : (!has (tz A a x (nst A a x)).1 x) = true := fs_at (p := fun i => !has (tz A a x i).1 x) he
        simpa using h9
      rw [if_neg (show ¬ has (tz A a x (nst A a x)).1 x = true by rw [hnh]; decide), if_pos rfl]
    · by_cases e0 : has (tz A a x (nst A a x)).1 x = true
      · have hc := cto_lt hx e0
        rw [if_pos e0, if_neg (nI_ne_m1 (by omega)), q5, nn12, if_pos (nI_le (by omega) (by omega))]
      · rw [if_neg e0, if_pos rfl]
  rw [hx12]
  -- is it a hit
  simp only [kpz]
  rw [if_pos (Or.inr trivial)]
  have mm : ∀ d, mem (Ai A a x (nst A a x)) (x ^^^ d) = mem A (x ^^^ d) := fun d => mem_W hWn _
  refine klp_iR (n := N) (z := (0, zsI m4 0 10 1)) (fun (d : Nat) (z : Int32 × zMem) => z.1 = nI d ∧ z.2.1 0 10 = (if ct (fun d => mem A (x ^^^ d)) d = 0 then 1 else 0) ∧ z.2.2 = m4.2 ∧ ∀ c j, ¬ (c = 0 ∧ j = 10) → z.2.1 c j = m4.1 c j) ((tz A a x (nst A a x)).2.2 ^^^ x) (fun r => ∃ m', r = some (nI (lRes A a x), m') ∧ RowM (m'.1 1) (lookA A a x) ∧ frL m m' ∧ m'.1 0 8 = nI (nst A a x) ∧ m'.1 0 9 = nI (lDead A a x) ∧ m'.1 0 10 = (if lHit A a x = true then 1 else 0)) (fun d hd z hz => ?_) (fun z hz rec => ?_) ⟨rfl, by dsimp only; rw [zsI_s]; rfl, rfl, fun c j hcj => zsI_n _ _ hcj⟩ (by omega)
  · obtain ⟨w1, w2⟩ := z
    obtain ⟨p1, p2, p3, p4⟩ := hz
    dsimp only at p1 p2 p3 p4
    subst p1
    have hid : x ^^^ d < 256 := xor_lt (n := 8) hx (by omega)
    have row : w2.1 1 = m4.1 1 := by funext j; exact p4 1 j (by omega)
    have hM := pX6_isMember (N := N) (by omega) (show RowM (w2.1 1) (Ai A a x (nst A a x)) by rw [row]; exact q3) (by rw [hWn]; exact hw.1) hid
    rw [mm] at hM
    refine ⟨(nI (d + 1), zsI w2 0 10 (if ct (fun d => mem A (x ^^^ d)) (d + 1) = 0 then 1 else 0)), ⟨rfl, by dsimp only; rw [zsI_s], p3, fun c j hcj => by dsimp only; rw [zsI_n _ _ hcj]; exact p4 c j hcj⟩, fun rec => ?_⟩
    simp only [sX6_looks_132, kgi, kjn, kpz]
    rw [nx_xor, if_neg (nI_ge (by omega) (by omega)), p2, nx_xor, hM, kc1_s, ct_s, nI_1]
    by_cases c0 : ct (fun d => mem A (x ^^^ d)) d = 0
    · rw [if_pos c0, c0, if_neg (by decide)]
      by_cases hm9 : mem A (x ^^^ d) = true
      · rw [if_pos hm9, if_neg (by decide), if_pos (Or.inl trivial), if_pos hm9, if_neg (by decide)]
      · rw [if_neg hm9, if_pos rfl, if_pos (Or.inr trivial), if_neg hm9, if_pos rfl]
    · rw [if_neg c0, if_pos rfl, if_pos (Or.inl trivial), if_neg (by omega)]
  obtain ⟨w1, w2⟩ := z
  obtain ⟨p1, p2, p3, p4⟩ := hz
  dsimp only at p1 p2 p3 p4
  subst p1
  have row : w2.1 1 = m4.1 1 := by funext j; exact p4 1 j (by omega)
  have hR : RowM (w2.1 1) (Ai A a x (nst A a x)) := by rw [row]; exact q3
  have e15 : aS (Ai A a x (nst A a x)) 15 = aS A 15 := by
    unfold Ai
    rw [sS_n _ _ (by decide), sS_n _ _ (by decide), pz_sc _ _ _ _ (by decide) (by decide) (by decide), sS_n _ _ (by decide)]
  have hhit : (if ct (fun d => mem A (x ^^^ d)) ((tz A a x (nst A a x)).2.2 ^^^ x) = 0 then (1 : Int32) else 0) = (if lHit A a x = true then 1 else 0) := by
    unfold lHit hitB lRes
    simp only [decide_eq_true_eq]
  rw [hhit] at p2
  have flw : frL m4 w2 := ⟨p3, fun c c0 _ _ => by funext j; exact p4 c j (by omega), fun j _ _ h10 => p4 0 j (by omega)⟩
  simp only [sX6_looks_132]
  rw [nx_xor, if_pos (nI_le (by omega) (by omega)), show (15 : Int32) = nI 15 from rfl, kld_n (by omega) (by decide), hR.1 15 (by omega), e15, p2, kst_n (by omega) (by decide), kst_n (by omega) (by decide)]
  have hfin : (if (if lHit A a x = true then (1 : Int32) else 0) = 0 then some (nI (tz A a x (nst A a x)).2.2, zsI w2 1 15 (aS A 15 + 0)) else some (nI (tz A a x (nst A a x)).2.2, zsI w2 1 15 (aS A 15 + 1))) = some (nI (lRes A a x), zsI w2 1 15 (aS A 15 + (if lHit A a x = true then 1 else 0))) := by
    by_cases hl : lHit A a x = true
    · rw [if_pos hl, if_neg (by decide)]
      rfl
    · rw [if_neg hl, if_pos rfl]
      rfl
  rw [hfin]
  refine ⟨_, rfl, ?_, (q7.tr flw).tr (frN_I _ _ _).L, ?_, ?_, ?_⟩
  · rw [lookA_eq]
    exact RowM_S hR (by decide)
  · rw [zsI_n _ _ (by omega), p4 0 8 (by omega)]; exact q5
  · rw [zsI_n _ _ (by omega), p4 0 9 (by omega)]; exact q6
  · rw [zsI_n _ _ (by omega)]; exact p2
