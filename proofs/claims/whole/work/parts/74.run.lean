/-! scripts: where the commands begin, how many of them stand, what they do -/
def cmP (f : Nat → Int32) (k : Nat) : Nat → Nat
  | 0 => skP (isSp f) k 0
  | i + 1 => skP (isSp f) k (rcE f k (cmP f k i))
def cmN (f : Nat → Int32) (k : Nat) : Nat := fs (fun i => !(decide (cmP f k i < k) && rcB f k (cmP f k i))) 20
def cmV (f : Nat → Int32) (k i j : Nat) : Int32 := rdV f k (npE f k (rcT f k (cmP f k i)) j)
def cmD (f : Nat → Int32) (k : Nat) (A : AS) (i : Nat) : Bool × AS := doS A (rcW f k (cmP f k i) - 1) (cmV f k i 0) (cmV f k i 1) (cmV f k i 2)
def cmS (f : Nat → Int32) (k : Nat) (A : AS) : Nat → AS
  | 0 => A
  | i + 1 => (cmD f k (cmS f k A i) i).2
def cmK (f : Nat → Int32) (k : Nat) (A : AS) : Nat := fs (fun i => !(cmD f k (cmS f k A i) i).1) (cmN f k)
theorem skP_s {q : Nat → Bool} {k p : Nat} (h : p < k) (hq : q p = true) : p + 1 ≤ skP q k p := by
  unfold skP
  have : fs (fun i => !q (p + i)) (k - p) ≠ 0 := fun z => by
    have h2 := fs_at (p := fun i => !q (p + i)) (n := k - p) (by omega)
    rw [z] at h2
    simp [hq] at h2
  omega
theorem npE_mono {f : Nat → Int32} {k p : Nat} (hp : p ≤ k) {i j : Nat} (h : i ≤ j) : npE f k p i ≤ npE f k p j := by
  induction j with
  | zero => have e : i = 0 := by omega
            rw [e]; exact Nat.le_refl _
  | succ j ih =>
    by_cases q : i = j + 1
    · rw [q]; exact Nat.le_refl _
    · exact Nat.le_trans (ih (by omega)) (rdE_le (npE_le hp j)).2
theorem rcT_le {f : Nat → Int32} {k p : Nat} (hp : p ≤ k) : rcT f k p ≤ k ∧ p ≤ rcT f k p := skP_le hp
theorem rcS_le {f : Nat → Int32} {k p : Nat} (hp : p ≤ k) : rcS f k p ≤ k ∧ npE f k (rcT f k p) (rcN (rcW f k p)) ≤ rcS f k p := skP_le (npE_le (rcT_le hp).1 _)
theorem rcE_le {f : Nat → Int32} {k p : Nat} (hp : p ≤ k) : rcE f k p ≤ k := by
  have hS := (rcS_le (f := f) hp).1
  unfold rcE
  split
  · exact hp
  · split
    · split
      · rename_i h
        exact h.1
      · exact hS
    · exact npE_le (rcT_le hp).1 _
theorem rcW_le (f : Nat → Int32) (k p : Nat) : rcW f k p ≤ 4 := wdA_le f p _
theorem rcB_3 {f : Nat → Int32} {k p : Nat} (h : rcB f k p = true) : rcW f k p ≠ 0 ∧ nfB f k (rcT f k p) (rcN (rcW f k p)) = rcN (rcW f k p) ∧ (rcS f k p < k ∧ f (rcS f k p) = 59) := by
  unfold rcB at h
  simp only [Bool.and_eq_true, decide_eq_true_eq] at h
  exact ⟨h.1.1, h.1.2, h.2⟩
theorem rcN_pos (w : Nat) : 1 ≤ rcN w := by
  unfold rcN
  split
  · omega
  · split <;> omega
theorem wdA_4 {f : Nat → Int32} {t p : Nat} (h : wdA f t p ≠ 0) : t + 4 ≤ p := by
  unfold wdA at h
  by_cases h1 : sp4 f t p 106 111 105 110
  · have := h1.1; omega
  · rw [if_neg h1] at h
    by_cases h2 : sp5 f t p 108 101 97 118 101
    · have := h2.1; omega
    · rw [if_neg h2] at h
      by_cases h3 : sp4 f t p 108 111 111 107
      · have := h3.1; omega
      · rw [if_neg h3] at h
        by_cases h4 : sp4 f t p 116 105 99 107
        · have := h4.1; omega
        · rw [if_neg h4] at h
          exact absurd rfl h
theorem rcE_7 {f : Nat → Int32} {k p : Nat} (hp : p ≤ k) (h : rcB f k p = true) : p + 7 ≤ rcE f k p := by
  obtain ⟨h1, h2, h3⟩ := rcB_3 h
  have hT := rcT_le (f := f) hp
  have hS := rcS_le (f := f) hp
  have h4 : p + 4 ≤ rcT f k p := wdA_4 h1
  have h5 := rcN_pos (rcW f k p)
  have hB : rdB f k (rcT f k p) = true := by
    have := fs_no (p := fun i => !rdB f k (npE f k (rcT f k p) i)) (n := rcN (rcW f k p)) (j := 0) (by unfold nfB at h2; omega)
    simpa [npE] using this
  have hm := npE_mono (f := f) hT.1 h5
  have h6 : rcT f k p + 2 ≤ npE f k (rcT f k p) 1 := by
    show rcT f k p + 2 ≤ rdE f k (rcT f k p)
    unfold rdB at hB
    simp only [Bool.and_eq_true, decide_eq_true_eq] at hB
    obtain ⟨⟨b1, b2⟩, b3⟩ := hB
    have := skP_s (q := isSp f) b1 b2
    unfold rdE
    rw [if_pos ⟨b1, b2⟩]
    unfold rdP at *
    omega
  unfold rcE
  rw [if_neg h1, if_pos h2, if_pos h3]
  omega
theorem cmP_le (f : Nat → Int32) (k i : Nat) : cmP f k i ≤ k := by
  induction i with
  | zero => exact (skP_le (Nat.zero_le _)).1
  | succ i ih => exact (skP_le (rcE_le ih)).1
theorem cmN_in {f : Nat → Int32} {k i : Nat} (h : i < cmN f k) : cmP f k i < k ∧ rcB f k (cmP f k i) = true := by
  have := fs_no (p := fun i => !(decide (cmP f k i < k) && rcB f k (cmP f k i))) (n := 20) h
  simpa using this
theorem cmP_7 {f : Nat → Int32} {k i : Nat} (h : i ≤ cmN f k) : 7 * i ≤ cmP f k i := by
  induction i with
  | zero => exact Nat.zero_le _
  | succ i ih =>
    have h1 := ih (by omega)
    obtain ⟨h2, h3⟩ := cmN_in (show i < cmN f k by omega)
    have h4 := rcE_7 (cmP_le f k i) h3
    have h5 := (skP_le (q := isSp f) (rcE_le (f := f) (cmP_le f k i))).2
    show 7 * (i + 1) ≤ skP (isSp f) k (rcE f k (cmP f k i))
    omega
theorem cmN_le {f : Nat → Int32} {k : Nat} (hk : k ≤ 120) : cmN f k ≤ 17 := by
  have := cmP_7 (Nat.le_refl (cmN f k))
  have := cmP_le f k (cmN f k)
  omega
theorem cmN_end {f : Nat → Int32} {k : Nat} (hk : k ≤ 120) (h : cmP f k (cmN f k) < k) : ¬ rcB f k (cmP f k (cmN f k)) = true := by
  have h1 := cmN_le (f := f) hk
  have h2 : (!(decide (cmP f k (cmN f k) < k) && rcB f k (cmP f k (cmN f k)))) = true := fs_at (p := fun i => !(decide (cmP f k i < k) && rcB f k (cmP f k i))) (n := 20) (show cmN f k < 20 by omega)
  intro z
  rw [decide_eq_true h, z] at h2
  cases h2
theorem cmK_le (f : Nat → Int32) (k : Nat) (A : AS) : cmK f k A ≤ cmN f k := fs_le _ _
theorem cmK_in {f : Nat → Int32} {k i : Nat} {A : AS} (h : i < cmK f k A) : (cmD f k (cmS f k A i) i).1 = true := by
  have := fs_no (p := fun i => !(cmD f k (cmS f k A i) i).1) (n := cmN f k) h
  simpa using this
theorem cmK_at {f : Nat → Int32} {k : Nat} {A : AS} (h : cmK f k A < cmN f k) : (cmD f k (cmS f k A (cmK f k A)) (cmK f k A)).1 = false := by
  have h2 : (!(cmD f k (cmS f k A (cmK f k A)) (cmK f k A)).1) = true := fs_at (p := fun i => !(cmD f k (cmS f k A i) i).1) (n := cmN f k) h
  simpa using h2
theorem GD_cm {f : Nat → Int32} {k n : Nat} {A : AS} (g : GD A n) (i : Nat) : GD (cmS f k A i) (n + 500 * i) := by
  induction i with
  | zero => exact g
  | succ i ih =>
    have := GD_do (w := rcW f k (cmP f k i) - 1) (a := cmV f k i 0) (b := cmV f k i 1) (c := cmV f k i 2) ih
    exact this.mono (by omega)
theorem doS_irr (A : AS) (w : Nat) (a : Int32) {b c b' c' : Int32} (h0 : w = 0 → b = b' ∧ c = c') (h2 : w = 2 → b = b') : doS A w a b c = doS A w a b' c' := by
  unfold doS
  by_cases q : w = 0
  · obtain ⟨e1, e2⟩ := h0 q
    rw [e1, e2]
  · rw [if_neg q, if_neg q]
    by_cases q1 : w = 1
    · rw [if_pos q1, if_pos q1]
    · rw [if_neg q1, if_neg q1]
      by_cases q2 : w = 2
      · rw [h2 q2]
      · rw [if_neg q2, if_neg q2]
theorem doS_f {A : AS} {w : Nat} {a b c : Int32} (h : (doS A w a b c).1 = false) : (doS A w a b c).2 = A := by
  unfold doS at h ⊢
  by_cases q : w = 0
  · rw [if_pos q] at h ⊢
    by_cases q1 : adF A a b (dsp A c) = 0
    · rw [if_pos q1] at h; cases h
    · rw [if_neg q1]
  · rw [if_neg q] at h ⊢
    by_cases q1 : w = 1
    · rw [if_pos q1] at h ⊢
      by_cases q2 : mbF A a = 0
      · rw [if_pos q2] at h; cases h
      · rw [if_neg q2]
    · rw [if_neg q1] at h ⊢
      by_cases q2 : w = 2
      · rw [if_pos q2] at h ⊢
        by_cases q3 : lkF A a b = 0
        · rw [if_pos q3] at h; cases h
        · rw [if_neg q3]
      · rw [if_neg q2] at h ⊢
        by_cases q3 : okT a
        · rw [if_pos q3] at h; cases h
        · rw [if_neg q3]
/-! what a run answers, and what it leaves -/
abbrev rnB (f : Nat → Int32) (k : Nat) : Prop := cmP f k (cmN f k) < k
def rnR (f : Nat → Int32) (k : Nat) (A : AS) : Int32 := if rnB f k then -10 - nI (rcE f k (cmP f k (cmN f k))) else nI (cmK f k A)
def rnS (f : Nat → Int32) (k : Nat) (A : AS) : AS := if rnB f k then A else cmS f k A (cmK f k A)
def rnL (f : Nat → Int32) (k : Nat) (A : AS) (L : List AS) : List AS := if rnB f k then L else pushL A L
