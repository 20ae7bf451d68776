/-! numbers: nI of sums, products, literals; the pieces kld, kst at nI; loops that count up -/
theorem nn2 : (2 : Int32) = nI 2 := rfl
theorem nn3 : (3 : Int32) = nI 3 := rfl
theorem nn4 : (4 : Int32) = nI 4 := rfl
theorem nn5 : (5 : Int32) = nI 5 := rfl
theorem nn6 : (6 : Int32) = nI 6 := rfl
theorem nn7 : (7 : Int32) = nI 7 := rfl
theorem nn8 : (8 : Int32) = nI 8 := rfl
theorem nn9 : (9 : Int32) = nI 9 := rfl
theorem nn11 : (11 : Int32) = nI 11 := rfl
theorem nn12 : (12 : Int32) = nI 12 := rfl
theorem nn16 : (16 : Int32) = nI 16 := rfl
theorem nn20 : (20 : Int32) = nI 20 := rfl
theorem nn24 : (24 : Int32) = nI 24 := rfl
theorem nn39 : (39 : Int32) = nI 39 := rfl
theorem nn43 : (43 : Int32) = nI 43 := rfl
theorem nn75 : (75 : Int32) = nI 75 := rfl
theorem nn120 : (120 : Int32) = nI 120 := rfl
theorem nn192 : (192 : Int32) = nI 192 := rfl
theorem nn255 : (255 : Int32) = nI 255 := rfl
theorem nn256 : (256 : Int32) = nI 256 := rfl
theorem nn768 : (768 : Int32) = nI 768 := rfl
theorem nn1816 : (1816 : Int32) = nI 1816 := rfl
theorem nn3632 : (3632 : Int32) = nI 3632 := rfl
theorem nn0 : (0 : Int32) = nI 0 := rfl
theorem nn1 : (1 : Int32) = nI 1 := rfl
theorem nI_ne_m1 {n : Nat} (h : n < 2 ^ 31) : ¬ nI n = -1 := fun e => by
  have h1 := congrArg Int32.toInt e
  rw [nI_toInt h] at h1
  have h2 : (-1 : Int32).toInt = -1 := by decide
  omega
theorem nI_m1_ne {n : Nat} (h : n < 2 ^ 31) : ¬ (-1 : Int32) = nI n := fun e => nI_ne_m1 h e.symm
theorem nI_sub1 {n : Nat} (h : 0 < n) : nI n - 1 = nI (n - 1) := by
  obtain ⟨k, rfl⟩ : ∃ k, n = k + 1 := ⟨n - 1, by omega⟩
  exact nI_pred k
theorem nI_lt0 {n : Nat} (h : n < 2 ^ 31) : (nI n < 0) = False := eq_false (nI_pos h)
theorem nI_0le {n : Nat} (h : n < 2 ^ 31) : ((0 : Int32) ≤ nI n) = True := eq_true (nI_pos' h)
theorem nI_inj {a b : Nat} (ha : a < 2 ^ 31) (hb : b < 2 ^ 31) (h : nI a = nI b) : a = b := (nI_eq ha hb).mp h
section KP
variable {α : Type} {m : zMem} {a n i : Nat}
theorem kld_n (h : i < n) (hn : n < 2 ^ 31) (k : Int32 → Option α) : kld m a n (nI i) k = k (m.1 a i) := by
  unfold kld
  rw [if_neg (nI_in h hn), nI_clamp (by omega)]
theorem kst_n (h : i < n) (hn : n < 2 ^ 31) (x : Int32) (k : zMem → Option α) : kst m a n (nI i) x k = k (zsI m a i x) := by
  unfold kst
  rw [if_neg (nI_in h hn), nI_clamp (by omega)]
theorem kc1_s {γ : Type} {r : γ} (k : γ → Option α) : kc1 (some r) k = k r := rfl
theorem kc2_s {γ : Type} {r : γ} {m : zMem} (k : γ → zMem → Option α) : kc2 (some (r, m)) k = k r m := rfl
theorem kis_s {s : Nat} (h : isS s) (k : Option α) : kis s k = k := if_pos h
theorem zsI_g (m : zMem) (a j : Nat) (x : Int32) (b k : Nat) : (zsI m a j x).1 b k = if b = a ∧ k = j then x else m.1 b k := rfl
theorem zsI_s (m : zMem) (a j : Nat) (x : Int32) : (zsI m a j x).1 a j = x := by simp [zsI]
theorem zsI_n (m : zMem) {a j b k : Nat} (x : Int32) (h : ¬ (b = a ∧ k = j)) : (zsI m a j x).1 b k = m.1 b k := by simp [zsI, h]
theorem zsI_2 (m : zMem) (a j : Nat) (x : Int32) : (zsI m a j x).2 = m.2 := rfl
end KP
/-- a loop that goes through the states I 0, I 1 .. and leaves at I B -/
theorem klp_to {S β : Type} {step : (S → Option β) → S → Option β} (I : Nat → S) (B : Nat) {res : Option β} (h : ∀ i, i < B → ∀ rec, step rec (I i) = rec (I (i + 1))) (he : ∀ rec, step rec (I B) = res) {n : Nat} (hn : B < n) : klp step n (I 0) = res := by
  have key : ∀ d i n, i + d = B → d < n → klp step n (I i) = res := by
    intro d
    induction d with
    | zero =>
      intro i n e hn
      obtain ⟨n, rfl⟩ : ∃ k, n = k + 1 := ⟨n - 1, by omega⟩
      have : i = B := by omega
      subst this
      exact he _
    | succ d ih =>
      intro i n e hn
      obtain ⟨n, rfl⟩ : ∃ k, n = k + 1 := ⟨n - 1, by omega⟩
      show step (klp step n) (I i) = res
      rw [h i (by omega)]
      exact ih (i + 1) n (by omega) (by omega)
  exact key B 0 n (by omega) hn
/-- the same, from a state that is I 0 -/
theorem klp_at {S β : Type} {step : (S → Option β) → S → Option β} {z : S} (I : Nat → S) (B : Nat) {res : Option β} (h0 : z = I 0) (h : ∀ i, i < B → ∀ rec, step rec (I i) = rec (I (i + 1))) (he : ∀ rec, step rec (I B) = res) {n : Nat} (hn : B < n) : klp step n z = res := by
  rw [h0]
  exact klp_to I B h he hn
/-- the first place from i on, of n places, where p holds; i + n if there is none -/
def fsF (p : Nat → Bool) : Nat → Nat → Nat
  | 0, i => i
  | n + 1, i => if p i then i else fsF p n (i + 1)
theorem fsF_le (p : Nat → Bool) : ∀ n i, i ≤ fsF p n i ∧ fsF p n i ≤ i + n := by
  intro n
  induction n with
  | zero => intro i; exact ⟨Nat.le_refl _, Nat.le_refl _⟩
  | succ n ih =>
    intro i
    unfold fsF
    split
    · exact ⟨Nat.le_refl _, by omega⟩
    · have := ih (i + 1); omega
theorem fsF_no (p : Nat → Bool) : ∀ n i j, i ≤ j → j < fsF p n i → p j = false := by
  intro n
  induction n with
  | zero => intro i j h1 h2; unfold fsF at h2; omega
  | succ n ih =>
    intro i j h1 h2
    unfold fsF at h2
    split at h2
    · omega
    · rename_i hp
      by_cases e : i = j
      · subst e; simpa using hp
      · exact ih (i + 1) j (by omega) h2
theorem fsF_at (p : Nat → Bool) : ∀ n i, fsF p n i < i + n → p (fsF p n i) = true := by
  intro n
  induction n with
  | zero => intro i h; unfold fsF at h; omega
  | succ n ih =>
    intro i h
    unfold fsF at h ⊢
    split
    · assumption
    · rename_i hp
      rw [if_neg hp] at h
      exact ih (i + 1) (by omega)
def fs (p : Nat → Bool) (n : Nat) : Nat := fsF p n 0
theorem fs_le (p : Nat → Bool) (n : Nat) : fs p n ≤ n := by have := fsF_le p n 0; unfold fs; omega
theorem fs_no {p : Nat → Bool} {n j : Nat} (h : j < fs p n) : p j = false := fsF_no p n 0 j (Nat.zero_le _) h
theorem fs_at {p : Nat → Bool} {n : Nat} (h : fs p n < n) : p (fs p n) = true := fsF_at p n 0 (by unfold fs at h; omega)
theorem fs_eq {p : Nat → Bool} {n k : Nat} (h1 : ∀ j, j < k → p j = false) (h2 : k < n → p k = true) (hk : k ≤ n) : fs p n = k := by
  have h3 := fs_le p n
  by_cases a : fs p n < k
  · have b := fs_at (p := p) (n := n) (by omega)
    rw [h1 _ a] at b; cases b
  · by_cases b : k < fs p n
    · have c := fs_no b
      rw [h2 (by omega)] at c; cases c
    · omega
theorem fs_lt {p : Nat → Bool} {n k : Nat} (hk : k < n) (h : p k = true) : fs p n ≤ k := by
  by_cases a : fs p n ≤ k
  · exact a
  · have := fs_no (p := p) (n := n) (j := k) (by omega)
    rw [h] at this; cases this
theorem fs_congr {p q : Nat → Bool} {n : Nat} (h : ∀ j, j < n → p j = q j) : fs p n = fs q n := by
  refine fs_eq (fun j hj => ?_) (fun hk => ?_) (fs_le q n)
  · rw [h j (by have := fs_le q n; omega)]; exact fs_no hj
  · rw [h _ hk]; exact fs_at hk
/-- how many of the first n places have p -/
def ct (p : Nat → Bool) : Nat → Nat
  | 0 => 0
  | n + 1 => ct p n + (if p n then 1 else 0)
theorem ct_le (p : Nat → Bool) (n : Nat) : ct p n ≤ n := by
  induction n with
  | zero => exact Nat.le_refl _
  | succ n ih => unfold ct; split <;> omega
theorem ct_congr {p q : Nat → Bool} {n : Nat} (h : ∀ j, j < n → p j = q j) : ct p n = ct q n := by
  induction n with
  | zero => rfl
  | succ n ih =>
    unfold ct
    rw [ih (fun j hj => h j (by omega)), h n (by omega)]
theorem ct_pos {p : Nat → Bool} {n k : Nat} (hk : k < n) (h : p k = true) : 0 < ct p n := by
  induction n with
  | zero => omega
  | succ n ih =>
    unfold ct
    by_cases e : k = n
    · subst e; rw [h]; simp
    · have := ih (by omega); omega
theorem ct_zero {p : Nat → Bool} {n : Nat} (h : ∀ j, j < n → p j = false) : ct p n = 0 := by
  induction n with
  | zero => rfl
  | succ n ih => unfold ct; rw [ih (fun j hj => h j (by omega)), h n (by omega)]; rfl
theorem ct_full {p : Nat → Bool} {n : Nat} (h : ∀ j, j < n → p j = true) : ct p n = n := by
  induction n with
  | zero => rfl
  | succ n ih => unfold ct; rw [ih (fun j hj => h j (by omega)), h n (by omega)]; rfl
theorem ct_lt {p : Nat → Bool} {n k : Nat} (hk : k < n) (h : p k = false) : ct p n < n := by
  induction n with
  | zero => omega
  | succ n ih =>
    unfold ct
    by_cases e : k = n
    · subst e; rw [h]; have := ct_le p k; simp; omega
    · have := ih (by omega); split <;> omega
/-- one place changed from p to q: the count goes by one -/
theorem ct_up {p q : Nat → Bool} {n k : Nat} (hk : k < n) (hp : p k = false) (hq : q k = true) (h : ∀ j, j < n → j ≠ k → p j = q j) : ct q n = ct p n + 1 := by
  induction n with
  | zero => omega
  | succ n ih =>
    unfold ct
    by_cases e : k = n
    · subst e
      rw [hp, hq, ct_congr (p := p) (q := q) (fun j hj => h j (by omega) (by omega))]
      rfl
    · rw [ih (by omega) (fun j hj => h j (by omega)), h n (by omega) (Ne.symm e)]
      omega
theorem ct_s (p : Nat → Bool) (n : Nat) : ct p (n + 1) = ct p n + (if p n then 1 else 0) := rfl
theorem nx_and (a b : Nat) : nI a &&& nI b = nI (a &&& b) := by
  apply Int32.toBitVec_inj.1
  show BitVec.ofNat 32 a &&& BitVec.ofNat 32 b = BitVec.ofNat 32 (a &&& b)
  apply BitVec.eq_of_getLsbD_eq
  intro i hi
  simp [hi]
theorem nx_xor (a b : Nat) : nI a ^^^ nI b = nI (a ^^^ b) := by
  apply Int32.toBitVec_inj.1
  show BitVec.ofNat 32 a ^^^ BitVec.ofNat 32 b = BitVec.ofNat 32 (a ^^^ b)
  apply BitVec.eq_of_getLsbD_eq
  intro i hi
  simp [hi]
theorem xor_lt {a b n : Nat} (ha : a < 2 ^ n) (hb : b < 2 ^ n) : a ^^^ b < 2 ^ n := Nat.xor_lt_two_pow ha hb
theorem b10 : (((1 : Int32) = 0)) = False := eq_false (by decide)
theorem b20 : (((2 : Int32) = 0)) = False := eq_false (by decide)
theorem b21 : (((2 : Int32) = 1)) = False := eq_false (by decide)
theorem b01 : (((0 : Int32) = 1)) = False := eq_false (by decide)
theorem b02 : (((0 : Int32) = 2)) = False := eq_false (by decide)
theorem b12 : (((1 : Int32) = 2)) = False := eq_false (by decide)
theorem b30 : (((3 : Int32) = 0)) = False := eq_false (by decide)
theorem b31 : (((3 : Int32) = 1)) = False := eq_false (by decide)
theorem b32 : (((3 : Int32) = 2)) = False := eq_false (by decide)
theorem b03 : (((0 : Int32) = 3)) = False := eq_false (by decide)
theorem b13 : (((1 : Int32) = 3)) = False := eq_false (by decide)
theorem b23 : (((2 : Int32) = 3)) = False := eq_false (by decide)
theorem b0m : (((0 : Int32) = -1)) = False := eq_false (by decide)
theorem b1m : (((1 : Int32) = -1)) = False := eq_false (by decide)
theorem b2m : (((2 : Int32) = -1)) = False := eq_false (by decide)
theorem b3m : (((3 : Int32) = -1)) = False := eq_false (by decide)
theorem b4m : (((4 : Int32) = -1)) = False := eq_false (by decide)
theorem b5m : (((5 : Int32) = -1)) = False := eq_false (by decide)
theorem b6m : (((6 : Int32) = -1)) = False := eq_false (by decide)
theorem b7m : (((7 : Int32) = -1)) = False := eq_false (by decide)
theorem bm0 : (((-1 : Int32) = 0)) = False := eq_false (by decide)
theorem bm1 : (((-1 : Int32) = 1)) = False := eq_false (by decide)
theorem bm2 : (((-1 : Int32) = 2)) = False := eq_false (by decide)
theorem bm3 : (((-1 : Int32) = 3)) = False := eq_false (by decide)
