/-! the reference's lookups -/
def MkM (m : zMem) (mk : Nat → Nat) : Prop := ∀ id, id < 256 → m.1 5 id = nI (mk id) ∧ mk id ≤ 3
/-- nothing but the cell 5 has changed -/
def fr5 (m m' : zMem) : Prop := m'.2 = m.2 ∧ ∀ c, c ≠ 5 → m'.1 c = m.1 c
theorem fr5_I (m : zMem) (j : Nat) (x : Int32) : fr5 m (zsI m 5 j x) := ⟨rfl, fun c hc => zsI_ne m j x hc⟩
theorem fr5.tr {m m1 m2 : zMem} (h : fr5 m m1) (h2 : fr5 m1 m2) : fr5 m m2 := ⟨h2.1.trans h.1, fun c hc => (h2.2 c hc).trans (h.2 c hc)⟩
theorem ct_mono (p : Nat → Bool) {i j : Nat} (h : i ≤ j) : ct p i ≤ ct p j := by
  induction j with
  | zero => rw [show i = 0 by omega]; exact Nat.le_refl _
  | succ j ih =>
    by_cases e : i = j + 1
    · subst e; exact Nat.le_refl _
    · have := ih (by omega)
      rw [ct_s]; omega
theorem pX6_knows {m : zMem} {mk : Nat → Nat} {id : Nat} (hid : id < 256) (h : MkM m mk) : fX6_knows (nI id) m = some (zsI m 5 id (nI (if mk id = 0 then 1 else mk id))) := by
  obtain ⟨h1, h2⟩ := h id hid
  unfold fX6_knows
  simp only [kjn]
  rw [kld_n hid (by decide), h1]
  by_cases e : mk id = 0
  · rw [e, if_pos (by decide), kst_n hid (by decide), if_pos rfl]
    rfl
  · rw [if_neg (nI_ne0 (by omega) (by omega)), kld_n hid (by decide), h1, kst_n hid (by decide), if_neg e]
theorem pX6_is {N k id : Nat} {m : zMem} {A : AS} {β : Type} (REST : Int32 → Option β) (hN : 24 < N) (h : RowM (m.1 1) A) (hk : k < 24) (hw1 : aW A k ≠ 0) (hw2 : aW A k ≤ 256) (hid : id < 256) :
    (kjn REST fun K67 => if nI id = (m.1 1 (16 + 75 * k) - 1) then K67 0 else kld m 1 1816 (nI (16 + 75 * k)) fun v11 => kc1 (fX6_bucketOf N (v11 - 1) (nI id)) fun v12 => kc1 (fX6_placeIn N (nI (16 + 75 * k)) v12 (nI id) m) fun v13 => if v13 = (-1) then K67 0 else K67 1) = REST (if inT A k id = true then 1 else 0) := by
  have e1 := (h.2 k hk).1
  simp only [kjn]
  rw [kld_n (by omega) (by decide), e1, nI_sub1 (by omega)]
  by_cases e : id = aW A k - 1
  · rw [if_pos (by rw [e]), e, inT_own]
    simp
  · rw [if_neg (fun z => e (nI_inj (by omega) (by omega) z)), pX6_bucketOf (by omega) (by omega) hid (Ne.symm e), kc1_s]
    have ht := bN_lt (a := aW A k - 1) (b := id) (by omega) hid (Ne.symm e)
    have hB := (h.2 k hk).2.2.2 _ ht
    have hl := hB.2.1
    rw [pX6_placeIn (by omega) hk ht hid hB, kc1_s]
    have he : inT A k id = decide (fx (aB A k (bN (aW A k - 1) id)) id < (aB A k (bN (aW A k - 1) id)).length) := by unfold inT; simp [e]
    rw [he]
    by_cases hf : fx (aB A k (bN (aW A k - 1) id)) id < (aB A k (bN (aW A k - 1) id)).length
    · rw [if_pos hf, if_neg (nI_ne_m1 (by omega)), if_pos (decide_eq_true hf)]
    · rw [if_neg hf, if_pos rfl, if_neg (by simp [hf])]
/-- the marks behind the first d distances -/
def shw (A : AS) (k x but : Nat) (mk : Nat → Nat) (d : Nat) : Nat → Nat := fun id => if (x ^^^ id < d ∧ nr A k x (x ^^^ id) = true) ∧ id ≠ but ∧ mk id = 0 then 1 else mk id
theorem shw_0 (A : AS) (k x but : Nat) (mk : Nat → Nat) : shw A k x but mk 0 = mk := by
  funext id
  unfold shw
  rw [if_neg (by omega)]
theorem shw_n {A : AS} {k x but : Nat} {mk : Nat → Nat} {d id : Nat} (h : id ≠ x ^^^ d) : shw A k x but mk (d + 1) id = shw A k x but mk d id := by
  unfold shw
  have h1 : x ^^^ id ≠ d := fun z => h (by rw [← z, xx])
  have h2 : (x ^^^ id < d + 1) ↔ (x ^^^ id < d) := by omega
  simp only [h2]
theorem shw_t {A : AS} {k x but : Nat} {mk : Nat → Nat} {d : Nat} : shw A k x but mk (d + 1) (x ^^^ d) = if nr A k x d = true ∧ x ^^^ d ≠ but ∧ mk (x ^^^ d) = 0 then 1 else mk (x ^^^ d) := by
  unfold shw
  rw [xx]
  have h2 : (d < d + 1 ∧ nr A k x d = true) ↔ nr A k x d = true := ⟨fun z => z.2, fun z => ⟨by omega, z⟩⟩
  simp only [h2]
theorem shw_at {A : AS} {k x but : Nat} {mk : Nat → Nat} {d : Nat} : shw A k x but mk d (x ^^^ d) = mk (x ^^^ d) := by
  unfold shw
  rw [xx, if_neg (by omega)]
theorem shw_le {A : AS} {k x but : Nat} {mk : Nat → Nat} {d id : Nat} (h : mk id ≤ 3) : shw A k x but mk d id ≤ 3 := by
  unfold shw
  split
  · decide
  · exact h
theorem shw_e {A : AS} {k x but : Nat} {mk : Nat → Nat} {B id : Nat} (h : nr A k x (x ^^^ id) = true → x ^^^ id < B) : shw A k x but mk B id = showS A k x but mk id := by
  unfold shw showS
  have h2 : (x ^^^ id < B ∧ nr A k x (x ^^^ id) = true) ↔ nr A k x (x ^^^ id) = true := ⟨fun z => z.2, fun z => ⟨h z, z⟩⟩
  simp only [h2]
theorem pX6_shows {N k x but : Nat} {bI : Int32} {m : zMem} {A : AS} {mk : Nat → Nat} (hN : 256 < N) (h : RowM (m.1 1) A) (hk : k < 24) (hw1 : aW A k ≠ 0) (hw2 : aW A k ≤ 256) (hx : x < 256) (hbut : ∀ id, id < 256 → (nI id = bI ↔ id = but)) (hm : MkM m mk) : ∃ m', fX6_shows N (nI (16 + 75 * k)) (nI x) bI m = some m' ∧ MkM m' (showS A k x but mk) ∧ fr5 m m' := by
  simp only [fX6_shows, kjn]
  have hBle := fs_le (fun d => decide (3 ≤ ct (fun e => inT A k (x ^^^ e)) d)) 256
  generalize hB : fs (fun d => decide (3 ≤ ct (fun e => inT A k (x ^^^ e)) d)) 256 = B at hBle
  have hBn : ∀ d, d < B → ct (fun e => inT A k (x ^^^ e)) d < 3 := fun d hd => by
    have := of_decide_eq_false (fs_no (p := fun d => decide (3 ≤ ct (fun e => inT A k (x ^^^ e)) d)) (n := 256) (by rw [hB]; exact hd))
    omega
  have hBa : B < 256 → 3 ≤ ct (fun e => inT A k (x ^^^ e)) B := fun hd => by
    have := of_decide_eq_true (fs_at (p := fun d => decide (3 ≤ ct (fun e => inT A k (x ^^^ e)) d)) (n := 256) (by rw [hB]; exact hd))
    rw [hB] at this
    exact this
  refine klp_inv (fun d z => z.1 = nI (3 - ct (fun e => inT A k (x ^^^ e)) d) ∧ z.2.1 = nI d ∧ MkM z.2.2 (shw A k x but mk d) ∧ fr5 m z.2.2) B (fun r => ∃ m', r = some m' ∧ MkM m' (showS A k x but mk) ∧ fr5 m m') (fun d hd z hz => ?_) (fun z hz => ?_) ⟨rfl, rfl, by rw [shw_0]; exact hm, rfl, fun _ _ => rfl⟩ (by omega)
  · obtain ⟨z1, z2, z3⟩ := z
    obtain ⟨e1, e2, e3, e4⟩ := hz
    dsimp only at e1 e2 e3 e4
    have hlt := hBn d hd
    have hid : x ^^^ d < 256 := xor_lt (n := 8) hx (by omega)
    have hrow : RowM (z3.1 1) A := by rw [e4.2 1 (by decide)]; exact h
    have hnr : nr A k x d = inT A k (x ^^^ d) := by unfold nr; simp [hlt]
    subst e1; subst e2
    simp only [sX6_shows_6, klt]
    have eleft : ¬ nI (3 - ct (fun e => inT A k (x ^^^ e)) d) ≤ 0 := nI_nle (by omega) (by omega)
    have e256 : ¬ (256 : Int32) ≤ nI d := by rw [nn256]; exact nI_ge (by omega) (by omega)
    have hM : ∀ z4 : zMem, (∀ id, id < 256 → id ≠ x ^^^ d → z4.1 5 id = z3.1 5 id) → z4.1 5 (x ^^^ d) = nI (shw A k x but mk (d + 1) (x ^^^ d)) → MkM z4 (shw A k x but mk (d + 1)) := by
      intro z4 g1 g2 id hid2
      refine ⟨?_, shw_le (hm id hid2).2⟩
      by_cases e : id = x ^^^ d
      · subst e; exact g2
      · rw [g1 id hid2 e, shw_n e]; exact (e3 id hid2).1
    have hself : z3.1 5 (x ^^^ d) = nI (mk (x ^^^ d)) := by rw [(e3 _ hid).1, shw_at]
    by_cases hi : inT A k (x ^^^ d) = true
    · have c1 : ct (fun e => inT A k (x ^^^ e)) (d + 1) = ct (fun e => inT A k (x ^^^ e)) d + 1 := by rw [ct_s, if_pos hi]
      by_cases hb : x ^^^ d = but
      · refine ⟨(nI (3 - ct (fun e => inT A k (x ^^^ e)) (d + 1)), nI (d + 1), z3), ⟨rfl, rfl, hM _ (fun _ _ _ => rfl) ?_, e4⟩, fun rec => ?_⟩
        · rw [shw_t, if_neg (fun z => z.2.1 hb)]; exact hself
        · rw [if_neg e256, if_neg eleft, nx_xor, kld_n (by omega) (by decide), pX6_is _ (by omega) hrow hk hw1 hw2 hid, if_pos hi]
          simp only [kjn, b10, reduceIte]
          rw [if_pos ((hbut _ hid).mpr hb), nI_1, nI_sub1 (by omega), c1]
          rfl
      · refine ⟨(nI (3 - ct (fun e => inT A k (x ^^^ e)) (d + 1)), nI (d + 1), zsI z3 5 (x ^^^ d) (nI (if mk (x ^^^ d) = 0 then 1 else mk (x ^^^ d)))), ⟨rfl, rfl, hM _ (fun id _ hne => zsI_n _ _ (by omega)) ?_, e4.tr (fr5_I _ _ _)⟩, fun rec => ?_⟩
        · rw [zsI_s, shw_t, hnr]
          by_cases e0 : mk (x ^^^ d) = 0
          · rw [if_pos e0, if_pos ⟨hi, hb, e0⟩]
          · rw [if_neg e0, if_neg (fun z => e0 z.2.2)]
        · rw [if_neg e256, if_neg eleft, nx_xor, kld_n (by omega) (by decide), pX6_is _ (by omega) hrow hk hw1 hw2 hid, if_pos hi]
          simp only [kjn, b10, reduceIte]
          rw [if_neg (fun z => hb ((hbut _ hid).mp z)), pX6_knows hid e3, shw_at, kc1_s, nI_1, nI_sub1 (by omega), c1]
          rfl
    · have c1 : ct (fun e => inT A k (x ^^^ e)) (d + 1) = ct (fun e => inT A k (x ^^^ e)) d := by rw [ct_s, if_neg hi]; rfl
      refine ⟨(nI (3 - ct (fun e => inT A k (x ^^^ e)) (d + 1)), nI (d + 1), z3), ⟨rfl, rfl, hM _ (fun _ _ _ => rfl) ?_, e4⟩, fun rec => ?_⟩
      · rw [shw_t, hnr, if_neg (fun z => hi z.1)]; exact hself
      · rw [if_neg e256, if_neg eleft, nx_xor, kld_n (by omega) (by decide), pX6_is _ (by omega) hrow hk hw1 hw2 hid, if_neg hi]
        simp only [kjn, reduceIte]
        rw [nI_1, c1, show nI (3 - ct (fun e => inT A k (x ^^^ e)) d) - 0 = nI (3 - ct (fun e => inT A k (x ^^^ e)) d) from Int32.sub_zero _]
  · obtain ⟨z1, z2, z3⟩ := z
    obtain ⟨e1, e2, e3, e4⟩ := hz
    dsimp only at e1 e2 e3 e4
    refine ⟨some z3, ⟨z3, rfl, fun id hid => ?_, e4⟩, fun rec => ?_⟩
    · rw [← shw_e (B := B)]
      · exact e3 id hid
      · intro z
        apply Nat.lt_of_not_le
        intro hge
        have hlt2 : ct (fun e => inT A k (x ^^^ e)) (x ^^^ id) < 3 := by
          unfold nr at z
          simp only [Bool.and_eq_true, decide_eq_true_eq] at z
          exact z.2
        have hd256 : x ^^^ id < 256 := xor_lt (n := 8) hx hid
        have h3 := hBa (by omega)
        have := ct_mono (fun e => inT A k (x ^^^ e)) hge
        omega
    · subst e1; subst e2
      simp only [sX6_shows_6]
      by_cases hb : B = 256
      · rw [hb, nn256, if_pos (nI_le (by omega) (by omega))]
      · have h3 := hBa (by omega)
        rw [nn256, if_neg (nI_ge (by omega) (by omega)), show 3 - ct (fun e => inT A k (x ^^^ e)) B = 0 by omega, if_pos (by decide)]
theorem pX6_nextFor {N x : Nat} {m : zMem} {mk : Nat → Nat} (hN : 256 < N) (hx : x < 256) (hm : MkM m mk) : fX6_nextFor N (nI x) m = some (if has mk x = true then nI (x ^^^ nx mk x) else -1) := by
  simp only [fX6_nextFor, kjn]
  obtain ⟨q, hq⟩ : ∃ q : Nat → Bool, q = fun d => decide (mk (x ^^^ d) = 1) || decide (3 ≤ ct (fun e => decide (mk (x ^^^ e) = 2)) d) := ⟨_, rfl⟩
  have hBle := fs_le q 256
  refine klp_at (fun d => (nI (3 - ct (fun e => decide (mk (x ^^^ e) = 2)) d), nI d)) (fs q 256) rfl (fun d hd rec => ?_) (fun rec => ?_) (by omega)
  · have hno := fs_no hd
    rw [hq] at hno
    simp only [Bool.or_eq_false_iff, decide_eq_false_iff_not] at hno
    have hid : x ^^^ d < 256 := xor_lt (n := 8) hx (by omega)
    obtain ⟨h1, h2⟩ := hm _ hid
    simp only [sX6_nextFor_4, klt]
    rw [nn256, if_neg (nI_ge (by omega) (by omega)), if_neg (nI_nle (by omega) (by omega)), nx_xor, kld_n hid (by decide), h1, nn1, if_neg (fun z => hno.1 (nI_inj (by omega) (by omega) z)), nn2, ct_s, nI_add]
    by_cases e : mk (x ^^^ d) = 2
    · rw [e, if_pos rfl, ← nn1, nI_sub1 (by omega)]
      simp [Nat.sub_sub]
    · rw [if_neg (fun z => e (nI_inj (by omega) (by omega) z)), show nI (3 - ct (fun e => decide (mk (x ^^^ e) = 2)) d) - 0 = nI (3 - ct (fun e => decide (mk (x ^^^ e) = 2)) d) from Int32.sub_zero _]
      simp [e]
  · simp only [sX6_nextFor_4]
    have hnone : ∀ d, d < fs q 256 → ¬ mk (x ^^^ d) = 1 := fun d hd => by
      have hno := fs_no hd
      rw [hq] at hno
      simp only [Bool.or_eq_false_iff, decide_eq_false_iff_not] at hno
      exact hno.1
    by_cases hb : fs q 256 = 256
    · rw [hb, nn256, if_pos (nI_le (by omega) (by omega))]
      have : nx mk x = 256 := fs_eq (fun j hj => decide_eq_false (hnone j (by omega))) (fun z => absurd z (by omega)) (Nat.le_refl _)
      rw [if_neg (by unfold has; simp [this])]
    · have hat := fs_at (p := q) (n := 256) (by omega)
      have hat2 : (mk (x ^^^ fs q 256) = 1) ∨ 3 ≤ ct (fun e => decide (mk (x ^^^ e) = 2)) (fs q 256) := by
        have h9 : (fun d => decide (mk (x ^^^ d) = 1) || decide (3 ≤ ct (fun e => decide (mk (x ^^^ e) = 2)) d)) (fs q 256) = true := by rw [← hq]; exact hat
        simpa using h9
      have hnx : fs q 256 ≤ nx mk x := by
        apply Nat.le_of_not_lt
        intro z
        exact hnone _ z (of_decide_eq_true (fs_at (p := fun d => decide (mk (x ^^^ d) = 1)) (n := 256) (by show nx mk x < 256; omega)))
      have hid : x ^^^ fs q 256 < 256 := xor_lt (n := 8) hx (by omega)
      obtain ⟨h1, h2⟩ := hm _ hid
      rw [nn256, if_neg (nI_ge (by omega) (by omega))]
      by_cases h3 : 3 ≤ ct (fun e => decide (mk (x ^^^ e) = 2)) (fs q 256)
      · rw [show 3 - ct (fun e => decide (mk (x ^^^ e) = 2)) (fs q 256) = 0 by omega, if_pos (by decide)]
        rw [if_neg]
        intro z
        unfold has at z
        simp only [Bool.and_eq_true, decide_eq_true_eq] at z
        have := ct_mono (fun e => decide (mk (x ^^^ e) = 2)) hnx
        omega
      · have h4 : mk (x ^^^ fs q 256) = 1 := by
          rcases hat2 with z | z
          · exact z
          · exact absurd z h3
        have h5 : nx mk x = fs q 256 := fs_eq (fun j hj => decide_eq_false (hnone j hj)) (fun _ => decide_eq_true h4) hBle
        rw [if_neg (nI_nle (by omega) (by omega)), nx_xor, kld_n hid (by decide), h1, h4, nn1, if_pos rfl]
        have h6 : has mk x = true := by
          unfold has
          rw [h5]
          simp only [Bool.and_eq_true, decide_eq_true_eq]
          omega
        rw [if_pos h6, h5]
/-! one contact, and a whole lookup -/
theorem sS_sS (A : AS) (i : Nat) (u v : Int32) : sS (sS A i u) i v = sS A i v := by
  unfold sS
  have : up (up (aS A) i u) i v = up (aS A) i v := by funext j; unfold up; split <;> rfl
  show (up (up (aS A) i u) i v, A.2) = (up (aS A) i v, A.2)
  rw [this]
theorem sS_cm (A : AS) {i j : Nat} (u v : Int32) (h : i ≠ j) : sS (sS A i u) j v = sS (sS A j v) i u := by
  unfold sS
  show (up (up (aS A) i u) j v, A.2) = (up (up (aS A) j v) i u, A.2)
  rw [up_up _ _ _ h]
theorem sS_g (A : AS) (i : Nat) (v : Int32) : aS (sS A i v) i = v := up_s _ _ _
theorem sS_n (A : AS) {i j : Nat} (v : Int32) (h : j ≠ i) : aS (sS A i v) j = aS A j := up_n _ _ h
theorem sS_id (A : AS) (i : Nat) : sS A i (aS A i) = A := by
  unfold sS
  have : up (aS A) i (aS A i) = aS A := by funext j; unfold up; split <;> simp_all
  rw [this]
theorem showS_c {A B : AS} {k : Nat} (hW : aW A k = aW B k) (hB : aB A k = aB B k) (x but : Nat) (mk : Nat → Nat) : showS A k x but mk = showS B k x but mk := by
  have h1 : ∀ id, inT A k id = inT B k id := fun id => by unfold inT; rw [hW, hB]
  have h2 : ∀ d, nr A k x d = nr B k x d := fun d => by unfold nr; rw [h1, ct_congr (fun j _ => h1 (x ^^^ j))]
  funext id
  unfold showS
  rw [h2]
theorem MkM_set {m : zMem} {mk : Nat → Nat} {c v : Nat} (h : MkM m mk) (hv : v ≤ 3) : MkM (zsI m 5 c (nI v)) (up mk c v) := by
  intro id hid
  by_cases e : id = c
  · subst e; rw [zsI_s, up_s]; exact ⟨rfl, hv⟩
  · rw [zsI_n _ _ (by omega), up_n _ _ e]; exact h id hid
/-- what a lookup may change: the row, the marks, and its three numbers -/
def frL (m m' : zMem) : Prop := m'.2 = m.2 ∧ (∀ c, c ≠ 0 → c ≠ 1 → c ≠ 5 → m'.1 c = m.1 c) ∧ ∀ j, j ≠ 8 → j ≠ 9 → j ≠ 10 → m'.1 0 j = m.1 0 j
theorem frL.rf (m : zMem) : frL m m := ⟨rfl, fun _ _ _ _ => rfl, fun _ _ _ _ => rfl⟩
theorem frL.tr {m m1 m2 : zMem} (h : frL m m1) (h2 : frL m1 m2) : frL m m2 := ⟨h2.1.trans h.1, fun c a b d => (h2.2.1 c a b d).trans (h.2.1 c a b d), fun j a b d => (h2.2.2 j a b d).trans (h.2.2 j a b d)⟩
theorem fr5.L {m m' : zMem} (h : fr5 m m') : frL m m' := ⟨h.1, fun c _ _ d => h.2 c d, fun j _ _ _ => by rw [h.2 0 (by decide)]⟩
theorem frN.L {m m' : zMem} (h : frN m m') : frL m m' := ⟨h.1, fun c _ b _ => h.2 c b, fun j _ _ _ => by rw [h.2 0 (by decide)]⟩
theorem frL_0 (m : zMem) {j : Nat} (x : Int32) (h : j = 8 ∨ j = 9 ∨ j = 10) : frL m (zsI m 0 j x) := ⟨rfl, fun c a _ _ => zsI_ne m j x a, fun i a b d => zsI_n _ _ (by omega)⟩
theorem pX6_contacts {N a x c i d : Nat} {m : zMem} {A : AS} {mk : Nat → Nat} (hN : 256 < N) (h : RowM (m.1 1) A) (hw : WF A) (hx : x < 256) (ha : a < 256) (hc : c < 256) (hac : a ≠ c) (hma : mem A a = true) (hm : MkM m mk) (h8 : m.1 0 8 = nI i) (h9 : m.1 0 9 = nI d) :
    ∃ m', fX6_contacts N (nI a) (nI x) (nI c) m = some m' ∧ frL m m' ∧ m'.1 0 8 = nI (i + 1) ∧ m'.1 0 10 = m.1 0 10 ∧
      (if mem A c = true then RowM (m'.1 1) (apS (sS A 10 (aS A 10 + 1)) a c) ∧ MkM m' (showS A (slot A c) x a (up mk c 2)) ∧ m'.1 0 9 = nI d
      else RowM (m'.1 1) (apS (sS (sS A 10 (aS A 10 + 1)) 11 (aS A 11 + 1)) a c) ∧ MkM m' (up mk c 3) ∧ m'.1 0 9 = nI (d + 1)) := by
  have hle : ∀ k, k < 24 → aW A k ≤ 256 := hw.1
  simp only [fX6_contacts, kgi, kpi]
  rw [h8, nI_1, show (10 : Int32) = nI 10 from rfl, kld_n (by omega) (by decide), kst_n (by omega) (by decide), zsI_n _ _ (by omega), h.1 10 (by omega)]
  obtain ⟨m1, hm1⟩ : ∃ z, z = zsI (zsI m 0 8 (nI (i + 1))) 1 10 (aS A 10 + 1) := ⟨_, rfl⟩
  rw [← hm1]
  have r0 : (zsI m 0 8 (nI (i + 1))).1 1 = m.1 1 := zsI_ne m 8 _ (by decide)
  have R1 : RowM (m1.1 1) (sS A 10 (aS A 10 + 1)) := by
    rw [hm1]
    exact RowM_S (m := zsI m 0 8 (nI (i + 1))) (by rw [r0]; exact h) (by decide)
  have M1 : MkM m1 mk := fun id hid => by
    rw [hm1, zsI_n _ _ (by omega), zsI_n _ _ (by omega)]; exact hm id hid
  have f1 : frL m m1 := by rw [hm1]; exact frL.tr (frL_0 m _ (Or.inl rfl)) (frN_I _ _ _).L
  have g8 : m1.1 0 8 = nI (i + 1) := by rw [hm1, zsI_n _ _ (by omega), zsI_s]
  have g9 : m1.1 0 9 = nI d := by rw [hm1, zsI_n _ _ (by omega), zsI_n _ _ (by omega)]; exact h9
  have g10 : m1.1 0 10 = m.1 0 10 := by rw [hm1, zsI_n _ _ (by omega), zsI_n _ _ (by omega)]
  have hle1 : ∀ k, k < 24 → aW (sS A 10 (aS A 10 + 1)) k ≤ 256 := hle
  have es : ∀ id, slot (sS A 10 (aS A 10 + 1)) id = slot A id := fun id => rfl
  rw [pX6_placeOf (by omega) R1 hle1 hc, kc1_s, es]
  by_cases hmc : mem A c = true
  · have kc := (mem_iff A c).mp hmc
    have wc := slot_at kc
    rw [if_pos kc, if_neg (nI_ne_m1 (by omega))]
    simp only [if_pos hmc]
    rw [kst_n hc (by decide)]
    have M2 : MkM (zsI m1 5 c 2) (up mk c 2) := MkM_set M1 (by decide)
    have R2 : RowM ((zsI m1 5 c 2).1 1) (sS A 10 (aS A 10 + 1)) := by rw [zsI_ne _ _ _ (by decide)]; exact R1
    obtain ⟨m3, e3, M3, f3⟩ := pX6_shows (N := N) (k := slot A c) (x := x) (but := a) (bI := nI a) hN R2 kc (by show aW A _ ≠ 0; omega) (hle1 _ kc) hx (fun id hid => nI_eq (by omega) (by omega)) M2
    have R3 : RowM (m3.1 1) (sS A 10 (aS A 10 + 1)) := by rw [f3.2 1 (by decide)]; exact R2
    rw [e3, kc1_s]
    obtain ⟨m4, e4, R4, f4⟩ := pX6_learns (N := N) (by omega) R3 hle1 hc ha (Ne.symm hac) hmc hma
    have hW4 := (learn_W (sS A 10 (aS A 10 + 1)) c a).1
    have hle4 : ∀ k, k < 24 → aW (learnS (sS A 10 (aS A 10 + 1)) c a) k ≤ 256 := by rw [hW4]; exact hle1
    obtain ⟨m5, e5, R5, f5⟩ := pX6_learns (N := N) (by omega) R4 hle4 ha hc hac (by rw [mem_W hW4]; exact hma) (by rw [mem_W hW4]; exact hmc)
    rw [e4, kc1_s, e5, kc1_s]
    have f35 : fr5 m1 m3 := (fr5_I _ _ _).tr f3
    have fl : frL m1 m5 := f35.L.tr (f4.tr f5).L
    have z0 : ∀ j, m5.1 0 j = m1.1 0 j := fun j => by rw [(f4.tr f5).2 0 (by decide), f35.2 0 (by decide)]
    refine ⟨m5, rfl, f1.tr fl, by rw [z0]; exact g8, by rw [z0]; exact g10, ?_, ?_, by rw [z0]; exact g9⟩
    · unfold apS
      rw [if_pos (show mem (sS A 10 (aS A 10 + 1)) c = true from hmc)]
      exact R5
    · intro id hid
      rw [(f4.tr f5).2 5 (by decide)]
      exact M3 id hid
  · have kc : ¬ slot A c < 24 := fun z => hmc ((mem_iff A c).mpr z)
    have ka := (mem_iff A a).mp hma
    have ht := bN_lt ha hc hac
    rw [if_neg kc, if_pos rfl]
    simp only [if_neg hmc]
    rw [kst_n hc (by decide)]
    obtain ⟨m2, hm2⟩ : ∃ z, z = zsI (zsI (zsI m1 5 c 3) 0 9 (nI (d + 1))) 1 11 (aS A 11 + 1) := ⟨_, rfl⟩
    have q0 : (zsI (zsI m1 5 c 3) 0 9 (nI (d + 1))).1 1 = m1.1 1 := by rw [zsI_ne _ _ _ (by decide), zsI_ne _ _ _ (by decide)]
    have R2 : RowM (m2.1 1) (sS (sS A 10 (aS A 10 + 1)) 11 (aS A 11 + 1)) := by
      rw [hm2]
      exact RowM_S (m := zsI (zsI m1 5 c 3) 0 9 (nI (d + 1))) (by rw [q0]; exact R1) (by decide)
    rw [zsI_n (b := 0) _ _ (by omega), g9, nI_1, show (11 : Int32) = nI 11 from rfl, kld_n (by omega) (by decide), kst_n (by omega) (by decide), zsI_n _ _ (by omega), zsI_n _ _ (by omega), R1.1 11 (by omega), show aS (sS A 10 (aS A 10 + 1)) 11 = aS A 11 from rfl, ← hm2]
    have f2 : frL m1 m2 := by rw [hm2]; exact frL.tr (frL.tr (fr5_I _ _ _).L (frL_0 _ _ (Or.inr (Or.inl rfl)))) (frN_I _ _ _).L
    have M2 : MkM m2 (up mk c 3) := fun id hid => by
      rw [hm2, zsI_n _ _ (by omega), zsI_n _ _ (by omega)]; exact MkM_set (v := 3) M1 (by decide) id hid
    have hle2 : ∀ k, k < 24 → aW (sS (sS A 10 (aS A 10 + 1)) 11 (aS A 11 + 1)) k ≤ 256 := hle
    have hB := (R2.2 _ ka).2.2.2 _ ht
    have hl := hB.2.1
    have t8 : m2.1 0 8 = nI (i + 1) := by rw [hm2, zsI_n _ _ (by omega), zsI_n _ _ (by omega), zsI_n _ _ (by omega)]; exact g8
    have t9 : m2.1 0 9 = nI (d + 1) := by rw [hm2, zsI_n _ _ (by omega), zsI_s]
    have t10 : m2.1 0 10 = m.1 0 10 := by rw [hm2, zsI_n _ _ (by omega), zsI_n _ _ (by omega), zsI_n _ _ (by omega)]; exact g10
    rw [pX6_bucketOf (by omega) ha hc hac, kc1_s, pX6_placeOf (by omega) R2 hle2 ha, show slot (sS (sS A 10 (aS A 10 + 1)) 11 (aS A 11 + 1)) a = slot A a from rfl, if_pos ka, kc1_s, pX6_placeIn (by omega) ka ht hc hB, kc1_s]
    have hap : apS (sS (sS A 10 (aS A 10 + 1)) 11 (aS A 11 + 1)) a c = forgetS (sS (sS A 10 (aS A 10 + 1)) 11 (aS A 11 + 1)) a c := by
      unfold apS
      rw [if_neg (show ¬ mem (sS (sS A 10 (aS A 10 + 1)) 11 (aS A 11 + 1)) c = true from hmc)]
    rw [hap]
    unfold forgetS
    by_cases hf : fx (aB (sS (sS A 10 (aS A 10 + 1)) 11 (aS A 11 + 1)) (slot A a) (bN a c)) c < (aB (sS (sS A 10 (aS A 10 + 1)) 11 (aS A 11 + 1)) (slot A a) (bN a c)).length
    · obtain ⟨m3, e3, b3, f3⟩ := pX6_drops (N := N) (by omega) ka ht hf hB
      rw [if_pos hf, if_neg (nI_ne_m1 (by omega)), kc1_s, e3, kc1_s]
      refine ⟨m3, rfl, (f1.tr f2).tr f3.N.L, by rw [f3.N.2 0 (by decide)]; exact t8, by rw [f3.N.2 0 (by decide)]; exact t10, ?_, ?_, by rw [f3.N.2 0 (by decide)]; exact t9⟩
      · rw [if_pos (show fx (aB (sS (sS A 10 (aS A 10 + 1)) 11 (aS A 11 + 1)) (slot (sS (sS A 10 (aS A 10 + 1)) 11 (aS A 11 + 1)) a) (bN a c)) c < (aB (sS (sS A 10 (aS A 10 + 1)) 11 (aS A 11 + 1)) (slot (sS (sS A 10 (aS A 10 + 1)) 11 (aS A 11 + 1)) a) (bN a c)).length from hf)]
        exact RowM_bk R2 ka ht b3 f3
      · intro id hid
        rw [f3.N.2 5 (by decide)]
        exact M2 id hid
    · rw [if_neg hf, if_pos rfl]
      refine ⟨m2, rfl, f1.tr f2, t8, t10, ?_, M2, t9⟩
      rw [if_neg (show ¬ fx (aB (sS (sS A 10 (aS A 10 + 1)) 11 (aS A 11 + 1)) (slot (sS (sS A 10 (aS A 10 + 1)) 11 (aS A 11 + 1)) a) (bN a c)) c < (aB (sS (sS A 10 (aS A 10 + 1)) 11 (aS A 11 + 1)) (slot (sS (sS A 10 (aS A 10 + 1)) 11 (aS A 11 + 1)) a) (bN a c)).length from hf)]
      exact R2
