/-! what a member tells: the nearest three of its table, into the known ones -/
theorem fx_nodup {l : List (Nat × Int32)} (h : (l.map (fun e => e.1)).Nodup) {j : Nat} {e : Nat × Int32} (he : l[j]? = some e) : fx l e.1 = j := by
  have hj := (List.getElem?_eq_some_iff.mp he).1
  have h1 : fx l e.1 ≤ j := fs_lt (p := fun j => decide (l[j]?.map (fun z => z.1) = some e.1)) hj (decide_eq_true (by rw [he]; rfl))
  obtain ⟨o, ho⟩ := fx_at (l := l) (id := e.1) (by omega)
  exact nodup_at h ho he rfl
/-- the distances of the entries that have been gone through: the buckets below b, and j entries of bucket b -/
def pr (A : AS) (k x b j : Nat) : Nat → Bool := fun d => inT A k (x ^^^ d) && (decide (bN (aW A k - 1) (x ^^^ d) < b) || (decide (bN (aW A k - 1) (x ^^^ d) = b) && decide (fx (aB A k b) (x ^^^ d) < j)))
theorem inT_iff {A : AS} {k id : Nat} : inT A k id = true ↔ id ≠ aW A k - 1 ∧ fx (aB A k (bN (aW A k - 1) id)) id < (aB A k (bN (aW A k - 1) id)).length := by
  unfold inT
  simp only [Bool.and_eq_true, decide_eq_true_eq]
theorem pr_0 (A : AS) (k x : Nat) : ∀ d, pr A k x 0 0 d = false := fun d => by
  unfold pr
  simp
theorem pr_b (A : AS) (k x b : Nat) : ∀ d, pr A k x b (aB A k b).length d = pr A k x (b + 1) 0 d := fun d => by
  unfold pr
  by_cases h : inT A k (x ^^^ d) = true
  · have h2 := (inT_iff.mp h).2
    rw [h]
    simp only [Bool.true_and]
    rcases Nat.lt_trichotomy (bN (aW A k - 1) (x ^^^ d)) b with h1 | h1 | h1
    · have : bN (aW A k - 1) (x ^^^ d) < b + 1 := by omega
      simp [h1, this]
    · rw [h1] at h2
      simp [h1, h2]
    · have a1 : ¬ bN (aW A k - 1) (x ^^^ d) < b := by omega
      have a2 : ¬ bN (aW A k - 1) (x ^^^ d) = b := by omega
      have a3 : ¬ bN (aW A k - 1) (x ^^^ d) < b + 1 := by omega
      simp [a1, a2, a3]
  · simp [h]
theorem pr_8 {A : AS} {k x : Nat} (hw1 : aW A k ≠ 0) (hw2 : aW A k ≤ 256) (hx : x < 256) : ∀ d, d < 256 → pr A k x 8 0 d = inT A k (x ^^^ d) := fun d hd => by
  unfold pr
  by_cases h : inT A k (x ^^^ d) = true
  · have h2 := (inT_iff.mp h).1
    have := bN_lt (a := aW A k - 1) (b := x ^^^ d) (by omega) (xor_lt (n := 8) hx hd) (Ne.symm h2)
    simp [this]
  · simp [h]
theorem NRr_congr {m : zMem} {P Q : Nat → Bool} (h : NRr m P) (he : ∀ d, d < 256 → Q d = P d) : NRr m Q := by
  have hc : ∀ d, d ≤ 256 → ct Q d = ct P d := fun d hd => ct_congr (fun j hj => he j (by omega))
  refine ⟨by rw [hc 256 (Nat.le_refl _)]; exact h.1, fun d hd h1 h2 => ?_⟩
  rw [hc d (by omega)] at h2 ⊢
  exact h.2 d hd (by rw [← he d hd]; exact h1) h2
/-- marks behind the nearest of rank below i -/
def shr (A : AS) (k x but : Nat) (mk : Nat → Nat) (i : Nat) : Nat → Nat := fun id => if (nr A k x (x ^^^ id) = true ∧ ct (fun e => inT A k (x ^^^ e)) (x ^^^ id) < i) ∧ id ≠ but ∧ mk id = 0 then 1 else mk id
theorem shr_0 (A : AS) (k x but : Nat) (mk : Nat → Nat) : shr A k x but mk 0 = mk := by
  funext id
  unfold shr
  rw [if_neg (by omega)]
theorem shr_3 {A : AS} {k x but : Nat} {mk : Nat → Nat} {i id : Nat} (h : nr A k x (x ^^^ id) = true → ct (fun e => inT A k (x ^^^ e)) (x ^^^ id) < i) : shr A k x but mk i id = showS A k x but mk id := by
  unfold shr showS
  have h2 : (nr A k x (x ^^^ id) = true ∧ ct (fun e => inT A k (x ^^^ e)) (x ^^^ id) < i) ↔ nr A k x (x ^^^ id) = true := ⟨fun z => z.1, fun z => ⟨z, h z⟩⟩
  simp only [h2]
theorem nr_inT {A : AS} {k x d : Nat} (h : nr A k x d = true) : inT A k (x ^^^ d) = true ∧ ct (fun e => inT A k (x ^^^ e)) d < 3 := by
  unfold nr at h
  simp only [Bool.and_eq_true, decide_eq_true_eq] at h
  exact h
theorem shr_s {A : AS} {k x but : Nat} {mk : Nat → Nat} {i d : Nat} (hd : inT A k (x ^^^ d) = true) (hi : ct (fun e => inT A k (x ^^^ e)) d = i) (h3 : i < 3) : shr A k x but mk (i + 1) = if x ^^^ d = but then shr A k x but mk i else addS (shr A k x but mk i) x d := by
  have hnr : nr A k x d = true := by unfold nr; simp [hd, hi, h3]
  have hself : shr A k x but mk i (x ^^^ d) = mk (x ^^^ d) := by unfold shr; rw [xx, if_neg (by omega)]
  have hne : ∀ id, id ≠ x ^^^ d → shr A k x but mk (i + 1) id = shr A k x but mk i id := fun id hid => by
    unfold shr
    have h2 : (nr A k x (x ^^^ id) = true ∧ ct (fun e => inT A k (x ^^^ e)) (x ^^^ id) < i + 1) ↔ (nr A k x (x ^^^ id) = true ∧ ct (fun e => inT A k (x ^^^ e)) (x ^^^ id) < i) := by
      refine ⟨fun z => ⟨z.1, ?_⟩, fun z => ⟨z.1, by omega⟩⟩
      apply Nat.lt_of_not_le
      intro hge
      have h4 : ct (fun e => inT A k (x ^^^ e)) (x ^^^ id) = ct (fun e => inT A k (x ^^^ e)) d := by omega
      have := ct_inj (p := fun e => inT A k (x ^^^ e)) (nr_inT z.1).1 hd h4
      exact hid (by rw [← this, xx])
    simp only [h2]
  funext id
  by_cases e : id = x ^^^ d
  · subst e
    have ht : shr A k x but mk (i + 1) (x ^^^ d) = if x ^^^ d ≠ but ∧ mk (x ^^^ d) = 0 then 1 else mk (x ^^^ d) := by
      unfold shr
      rw [xx]
      have h2 : (nr A k x d = true ∧ ct (fun e => inT A k (x ^^^ e)) d < i + 1) ↔ True := ⟨fun _ => trivial, fun _ => ⟨hnr, by omega⟩⟩
      simp only [h2, true_and]
    rw [ht]
    by_cases hb : x ^^^ d = but
    · rw [if_neg (fun z => z.1 hb), if_pos hb]; exact hself.symm
    · rw [if_neg hb]
      unfold addS
      rw [hself]
      by_cases e0 : mk (x ^^^ d) = 0
      · rw [if_pos ⟨hb, e0⟩, if_pos e0, up_s]
      · rw [if_neg (fun z => e0 z.2), if_neg e0, hself]
  · rw [hne id e]
    by_cases hb : x ^^^ d = but
    · rw [if_pos hb]
    · rw [if_neg hb]
      unfold addS
      split
      · rw [up_n _ _ e]
      · rfl
/-- the walk's scratch alone has changed -/
def frH (m m' : zMem) : Prop := m'.2 = m.2 ∧ ∀ c j, ¬ (c = 1 ∧ (j = 6 ∨ j = 9)) → c ≠ 3 → c ≠ 4 → c ≠ 5 → m'.1 c j = m.1 c j
theorem frH.tr {m m1 m2 : zMem} (h : frH m m1) (h2 : frH m1 m2) : frH m m2 := ⟨h2.1.trans h.1, fun c j a b d e => (h2.2 c j a b d e).trans (h.2 c j a b d e)⟩
theorem BkC_fr {m m' : zMem} {s p : Nat} {l : List (Nat × Int32)} (h : BkC m s p l) (hc : ∀ c, s ≤ c → c < s + 10 → m'.1 c = m.1 c) : BkC m' s p l := by
  unfold BkC
  rw [hc (s + 7) (by omega) (by omega), hc (s + 8) (by omega) (by omega), hc (s + 9) (by omega) (by omega)]
  exact h
theorem RepC_fr {m m' : zMem} {s : Nat} {A : AS} (h : RepC m s A) (hc : ∀ c, s ≤ c → c < s + 10 → m'.1 c = m.1 c) : RepC m' s A := by
  obtain ⟨h1, h2, h3, h4, h5, h6⟩ := h
  refine ⟨?_, ?_, ?_, ?_, ?_, fun k hk hw => ?_⟩
  · rw [hc s (by omega) (by omega)]; exact h1
  · rw [hc s (by omega) (by omega)]; exact h2
  · rw [hc (s + 1) (by omega) (by omega)]; exact h3
  · rw [hc (s + 2) (by omega) (by omega)]; exact h4
  · rw [hc (s + 3) (by omega) (by omega)]; exact h5
  · rw [hc (s + 4) (by omega) (by omega), hc (s + 5) (by omega) (by omega)]
    exact ⟨(h6 k hk hw).1, (h6 k hk hw).2.1, fun b hb => BkC_fr ((h6 k hk hw).2.2 b hb) hc⟩
theorem isS_ge {s : Nat} (h : isS s) : 10 ≤ s ∧ s ≤ 40 := by rcases h with h | h | h | h <;> omega
theorem pX4_hear {N s t a x : Nat} {m : zMem} {A : AS} {mk : Nat → Nat} (hN : 40 < N) (hs : isS s) (h : RepC m s A) (hw : WF A) (ht : t < 256) (ha : a < 256) (hx : x < 256) (hmt : mem A t = true) (hm : KN m mk x) (hcap : ct (Qk mk x) 256 ≤ 36) :
    ∃ m', fX4_hear N s (nI t) (nI a) (nI x) m = some m' ∧ KN m' (showS A (slot A t) x a mk) x ∧ ct (Qk (showS A (slot A t) x a mk) x) 256 ≤ ct (Qk mk x) 256 + 3 ∧ frH m m' := by
  have hs10 := isS_ge hs
  have kt := (mem_iff A t).mp hmt
  have wt := slot_at kt
  obtain ⟨-, -, a3⟩ := h.2.2.2.2.2 _ kt (by omega)
  have hw2 := hw.1 _ kt
  have hOK := fun b hb => WF_OK hw kt (b := b) hb
  generalize hk : slot A t = k at *
  have EP : fX3_bucketPlace (nI k) 0 = some (nI (8 * k)) := pX3_bucketPlace k 0
  simp only [fX4_hear, kpi, kjn]
  rw [pX2_isMember h ht, if_pos hmt, kc1_s, if_neg (by decide), kld_n ht (by decide), RepC_row h ht hmt, hk, EP, kc1_s]
  refine klp_iR (n := N) (z := (nI (8 * k), zsI m 1 6 0)) (fun (b : Nat) (z : Int32 × zMem) => z.1 = nI (8 * k + b) ∧ NRr z.2 (pr A k x b 0) ∧ frF m z.2 3 6) 8 (fun r => ∃ m', r = some m' ∧ KN m' (showS A k x a mk) x ∧ ct (Qk (showS A k x a mk) x) 256 ≤ ct (Qk mk x) 256 + 3 ∧ frH m m') (fun b hb z hz => ?_) (fun z hz rec => ?_) ⟨rfl, ⟨by rw [zsI_s, ct_zero (fun j _ => pr_0 A k x j)]; rfl, fun d _ h1 _ => by rw [pr_0] at h1; cases h1⟩, rfl, fun c j a1 a2 => zsI_n _ _ (by omega)⟩ (by omega)
  · obtain ⟨z1, z2⟩ := z
    obtain ⟨e1, e2, e3⟩ := hz
    dsimp only at e1 e2 e3
    subst e1
    have hB := a3 b hb
    have hl := hB.2.1
    have hO := hOK b hb
    -- the entries of bucket b
    have inner : ∃ m', NRr m' (pr A k x (b + 1) 0) ∧ frF m m' 3 6 ∧ ∀ (K : zMem → Option zMem), klp (sX4_hear_55 N s (nI x) (nI (8 * k + b)) (nI (8 * k + b) * 4) K) N (0, z2) = K m' := by
      have hstep : ∀ j, j < (aB A k b).length → ∀ z : Int32 × zMem, (z.1 = nI j ∧ NRr z.2 (pr A k x b j) ∧ frF m z.2 3 6) → ∃ z' : Int32 × zMem, (z'.1 = nI (j + 1) ∧ NRr z'.2 (pr A k x b (j + 1)) ∧ frF m z'.2 3 6) ∧ ∀ (K : zMem → Option zMem) rec, sX4_hear_55 N s (nI x) (nI (8 * k + b)) (nI (8 * k + b) * 4) K rec z = rec z' := by
        intro j hj z hz
        obtain ⟨y1, y2⟩ := z
        obtain ⟨g1, g2, g3⟩ := hz
        dsimp only at g1 g2 g3
        subst g1
        obtain ⟨e, he, b1, b2, b3⟩ := BK_get hB hj
        have hmem : e ∈ aB A k b := List.mem_of_getElem? he
        obtain ⟨o1, o2, o3⟩ := hO.2.2 e hmem
        have hfx := fx_nodup hO.2.1 he
        have v7 : y2.1 (s + 7) (8 * k + b) = nI (aB A k b).length := by rw [g3.2 _ _ (by omega) (by omega)]; exact hB.1
        have v8 : y2.1 (s + 8) (4 * (8 * k + b) + j) = nI e.1 := by rw [g3.2 _ _ (by omega) (by omega)]; exact b1
        have hid : x ^^^ (e.1 ^^^ x) = e.1 := by rw [Nat.xor_comm e.1 x, xx]
        have hinT : inT A k e.1 = true := inT_iff.mpr ⟨o2, by rw [o3, hfx]; exact hj⟩
        have p0 : pr A k x b j (e.1 ^^^ x) = false := by
          unfold pr
          rw [hid, o3, hfx]
          simp
        have p1 : pr A k x b (j + 1) (e.1 ^^^ x) = true := by
          unfold pr
          rw [hid, o3, hfx, hinT]
          simp
        have pn : ∀ d, d ≠ e.1 ^^^ x → pr A k x b (j + 1) d = pr A k x b j d := fun d hd => by
          unfold pr
          by_cases hi : inT A k (x ^^^ d) = true
          · by_cases hbn : bN (aW A k - 1) (x ^^^ d) = b
            · have hi2 := (inT_iff.mp hi).2
              rw [hbn] at hi2
              have hne : fx (aB A k b) (x ^^^ d) ≠ j := fun z => by
                obtain ⟨o9, ho9⟩ := fx_at hi2
                rw [z, he] at ho9
                have e9 : e.1 = x ^^^ d := by rw [Option.some.inj ho9]
                exact hd (by rw [e9, x2])
              have h9 : (fx (aB A k b) (x ^^^ d) < j + 1) ↔ (fx (aB A k b) (x ^^^ d) < j) := by omega
              simp only [h9]
            · simp [hbn]
          · simp [hi]
        have hd256 : e.1 ^^^ x < 256 := xor_lt (n := 8) o1 hx
        obtain ⟨m5, e5, n5, f5⟩ := pX4_offer (N := N) (by omega) hd256 g2 p0 p1 pn
        refine ⟨(nI (j + 1), m5), ⟨rfl, n5, ⟨f5.1.trans g3.1, fun c i a1 a2 => (f5.2 c i a1 a2).trans (g3.2 c i a1 a2)⟩⟩, fun K rec => ?_⟩
        simp only [sX4_hear_55]
        rw [kld_n (by omega) (by decide), v7, if_neg (nI_ge (by omega) (by omega)), nn4, pk_mul, nI_add, kld_n (by omega) (by decide), show (8 * k + b) * 4 + j = 4 * (8 * k + b) + j by omega, v8, nx_xor, e5, kc1_s, nI_1]
      obtain ⟨zf, hzf, hK⟩ := klp_fin (step := fun K => sX4_hear_55 N s (nI x) (nI (8 * k + b)) (nI (8 * k + b) * 4) K) (n := N) (z := (0, z2)) (fun (j : Nat) (z : Int32 × zMem) => z.1 = nI j ∧ NRr z.2 (pr A k x b j) ∧ frF m z.2 3 6) (aB A k b).length hstep ⟨rfl, e2, e3⟩ (by omega)
      · obtain ⟨y1, y2⟩ := zf
        obtain ⟨g1, g2, g3⟩ := hzf
        dsimp only at g1 g2 g3
        subst g1
        have v7 : y2.1 (s + 7) (8 * k + b) = nI (aB A k b).length := by rw [g3.2 _ _ (by omega) (by omega)]; exact hB.1
        refine ⟨y2, NRr_congr g2 (fun d _ => (pr_b A k x b d).symm), g3, fun K => ?_⟩
        obtain ⟨rec, hr⟩ := hK K
        rw [hr]
        simp only [sX4_hear_55]
        rw [kld_n (by omega) (by decide), v7, if_pos (nI_le (Nat.le_refl _) (by omega))]
    obtain ⟨m5, n5, f5, hsame⟩ := inner
    refine ⟨(nI (8 * k + (b + 1)), m5), ⟨rfl, n5, f5⟩, fun rec => ?_⟩
    simp only [sX4_hear_36, klt, kjn]
    rw [nn8, nI_add, if_neg (nI_ge (by omega) (by omega)), hsame, nI_1]
    rfl
  · obtain ⟨z1, m5⟩ := z
    obtain ⟨e1, e2, e3⟩ := hz
    dsimp only at e1 e2 e3
    subst e1
    have n5 : NRr m5 (fun d => inT A k (x ^^^ d)) := NRr_congr e2 (fun d hd => (pr_8 (by omega) hw2 hx d hd).symm)
    have K5 : KN m5 mk x := by
      refine ⟨by rw [e3.2 _ _ (by omega) (by omega)]; exact hm.1, hm.2.1, fun d hd hq => ?_⟩
      rw [e3.2 4 _ (by omega) (by omega), e3.2 5 _ (by omega) (by omega)]
      exact hm.2.2 d hd hq
    simp only [sX4_hear_36]
    rw [nn8, nI_add, if_pos (nI_le (Nat.le_refl _) (by omega))]
    have hmn : mn3 (ct (fun d => inT A k (x ^^^ d)) 256) ≤ 3 := by unfold mn3; split <;> omega
    have hmn2 : mn3 (ct (fun d => inT A k (x ^^^ d)) 256) ≤ ct (fun d => inT A k (x ^^^ d)) 256 := by unfold mn3; split <;> omega
    refine klp_iR (n := N) (z := (0, m5)) (fun (i : Nat) (z : Int32 × zMem) => z.1 = nI i ∧ KN z.2 (shr A k x a mk i) x ∧ ct (Qk (shr A k x a mk i) x) 256 ≤ ct (Qk mk x) 256 + i ∧ frK m5 z.2) (mn3 (ct (fun d => inT A k (x ^^^ d)) 256)) (fun r => ∃ m', r = some m' ∧ KN m' (showS A k x a mk) x ∧ ct (Qk (showS A k x a mk) x) 256 ≤ ct (Qk mk x) 256 + 3 ∧ frH m m') (fun i hi z hz => ?_) (fun z hz rec => ?_) ⟨rfl, by rw [shr_0]; exact K5, by rw [shr_0]; omega, frK.rf m5⟩ (by omega)
    · obtain ⟨y1, y2⟩ := z
      obtain ⟨g1, g2, g3, g4⟩ := hz
      dsimp only at g1 g2 g3 g4
      subst g1
      obtain ⟨d, d1, d2, d3⟩ := ct_sel (p := fun d => inT A k (x ^^^ d)) (n := 256) (j := i) (by omega)
      have v3 : y2.1 3 i = nI d := by
        rw [g4.2 _ _ (by omega) (by omega) (by omega), ← d3]
        exact n5.2 d d1 d2 (by omega)
      have v6 : y2.1 1 6 = nI (mn3 (ct (fun d => inT A k (x ^^^ d)) 256)) := by
        rw [g4.2 _ _ (by omega) (by omega) (by omega)]; exact n5.1
      have hss := shr_s (A := A) (k := k) (x := x) (but := a) (mk := mk) d2 d3 (by omega)
      have hax : (nI d = nI a ^^^ nI x) ↔ x ^^^ d = a := by
        rw [nx_xor, nI_eq (by omega) (by have := xor_lt (n := 8) ha hx; omega)]
        constructor
        · intro z; rw [z, Nat.xor_comm a x, xx]
        · intro z; rw [← z, x2]
      by_cases hb : x ^^^ d = a
      · refine ⟨(nI (i + 1), y2), ⟨rfl, ?_, ?_, g4⟩, fun rec => ?_⟩
        · dsimp only; rw [hss, if_pos hb]; exact g2
        · rw [hss, if_pos hb]; omega
        · simp only [sX4_hear_101, kgi]
          rw [v6, if_neg (nI_ge (by omega) (by omega)), kld_n (by omega) (by decide), v3, if_pos (hax.mpr hb), nI_1]
      · obtain ⟨m6, e6, k6, f6⟩ := pX4_addKnown (N := N) hN d1 g2 (by omega)
        refine ⟨(nI (i + 1), m6), ⟨rfl, ?_, ?_, g4.tr f6⟩, fun rec => ?_⟩
        · dsimp only; rw [hss, if_neg hb]; exact k6
        · rw [hss, if_neg hb]
          unfold addS
          split
          · rename_i e0
            have hone := ct_one (p := Qk (shr A k x a mk i) x) (q := Qk (up (shr A k x a mk i) (x ^^^ d) 1) x) (d0 := d) (by unfold Qk; rw [e0]; rfl) (by unfold Qk; rw [up_s]; rfl) (fun d9 hd9 => by unfold Qk; rw [up_n _ _ (fun z => hd9 (xor_inj z))]) 256
            rw [hone, if_pos d1]
            omega
          · omega
        · simp only [sX4_hear_101, kgi]
          rw [v6, if_neg (nI_ge (by omega) (by omega)), kld_n (by omega) (by decide), v3, if_neg (fun z => hb (hax.mp z)), kld_n (by omega) (by decide), v3, e6, kc1_s, nI_1]
    · obtain ⟨y1, y2⟩ := z
      obtain ⟨g1, g2, g3, g4⟩ := hz
      dsimp only at g1 g2 g3 g4
      subst g1
      have v6 : y2.1 1 6 = nI (mn3 (ct (fun d => inT A k (x ^^^ d)) 256)) := by
        rw [g4.2 _ _ (by omega) (by omega) (by omega)]; exact n5.1
      have heq : ∀ id, id < 256 → showS A k x a mk id = shr A k x a mk (mn3 (ct (fun d => inT A k (x ^^^ d)) 256)) id := fun id hid => by
        refine (shr_3 (fun z => ?_)).symm
        have h9 := nr_inT z
        have hxid : x ^^^ id < 256 := xor_lt (n := 8) hx hid
        have := ct_app (p := fun e => inT A k (x ^^^ e)) (d := x ^^^ id) (e := 256) hxid h9.1
        unfold mn3
        split
        · exact this
        · exact h9.2
      obtain ⟨c1, c2⟩ := KN_congr hx g2 heq
      refine ⟨y2, ?_, c1, by rw [c2]; omega, ?_⟩
      · simp only [sX4_hear_101, kgi]
        rw [v6, if_pos (nI_le (Nat.le_refl _) (by omega))]
      · exact ⟨g4.1.trans e3.1, fun c j p1 p2 p3 p4 => (g4.2 c j (by omega) p3 p4).trans (e3.2 c j (by omega) p2)⟩
