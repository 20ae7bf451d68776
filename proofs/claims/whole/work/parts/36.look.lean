/-! lookups: marks of identities (0 unknown, 1 known, 2 contacted, 3 dead), the course by marks alone, the changes along it -/
theorem klp_inv {S β : Type} {step : (S → Option β) → S → Option β} (I : Nat → S → Prop) (B : Nat) (R : Option β → Prop) (h : ∀ i, i < B → ∀ z, I i z → ∃ z', I (i + 1) z' ∧ ∀ rec, step rec z = rec z') (he : ∀ z, I B z → ∃ r, R r ∧ ∀ rec, step rec z = r) {z : S} {n : Nat} (h0 : I 0 z) (hn : B < n) : R (klp step n z) := by
  have key : ∀ d i n z, i + d = B → d < n → I i z → R (klp step n z) := by
    intro d
    induction d with
    | zero =>
      intro i n z e hn hI
      obtain ⟨n, rfl⟩ : ∃ k, n = k + 1 := ⟨n - 1, by omega⟩
      have : i = B := by omega
      subst this
      obtain ⟨r, hr, hs⟩ := he z hI
      show R (step (klp step n) z)
      rw [hs]; exact hr
    | succ d ih =>
      intro i n z e hn hI
      obtain ⟨n, rfl⟩ : ∃ k, n = k + 1 := ⟨n - 1, by omega⟩
      obtain ⟨z', hI', hs⟩ := h i (by omega) z hI
      show R (step (klp step n) z)
      rw [hs]
      exact ih (i + 1) n z' (by omega) (by omega) hI'
  exact key B 0 n z (by omega) hn h0
theorem klp_iR {S β : Type} {step : (S → Option β) → S → Option β} (I : Nat → S → Prop) (B : Nat) (R : Option β → Prop) (h : ∀ i, i < B → ∀ z, I i z → ∃ z', I (i + 1) z' ∧ ∀ rec, step rec z = rec z') (he : ∀ z, I B z → ∀ rec, R (step rec z)) {z : S} {n : Nat} (h0 : I 0 z) (hn : B < n) : R (klp step n z) := by
  have key : ∀ d i n z, i + d = B → d < n → I i z → R (klp step n z) := by
    intro d
    induction d with
    | zero =>
      intro i n z e hn hI
      obtain ⟨n, rfl⟩ : ∃ k, n = k + 1 := ⟨n - 1, by omega⟩
      have : i = B := by omega
      subst this
      exact he z hI (klp step n)
    | succ d ih =>
      intro i n z e hn hI
      obtain ⟨n, rfl⟩ : ∃ k, n = k + 1 := ⟨n - 1, by omega⟩
      obtain ⟨z', hI', hs⟩ := h i (by omega) z hI
      show R (step (klp step n) z)
      rw [hs]
      exact ih (i + 1) n z' (by omega) (by omega) hI'
  exact key B 0 n z (by omega) hn h0
/-- the state in which a loop ends, whatever stands behind it -/
theorem klp_fin {κ S β : Type} {step : κ → (S → Option β) → S → Option β} (I : Nat → S → Prop) (B : Nat) (h : ∀ i, i < B → ∀ z, I i z → ∃ z', I (i + 1) z' ∧ ∀ K rec, step K rec z = rec z') {z : S} {n : Nat} (h0 : I 0 z) (hn : B < n) : ∃ zf, I B zf ∧ ∀ K, ∃ rec, klp (step K) n z = step K rec zf := by
  have key : ∀ d i n z, i + d = B → d < n → I i z → ∃ zf, I B zf ∧ ∀ K, ∃ rec, klp (step K) n z = step K rec zf := by
    intro d
    induction d with
    | zero =>
      intro i n z e hn hI
      obtain ⟨n, rfl⟩ : ∃ k, n = k + 1 := ⟨n - 1, by omega⟩
      have : i = B := by omega
      subst this
      exact ⟨z, hI, fun K => ⟨klp (step K) n, rfl⟩⟩
    | succ d ih =>
      intro i n z e hn hI
      obtain ⟨n, rfl⟩ : ∃ k, n = k + 1 := ⟨n - 1, by omega⟩
      obtain ⟨z', hI', hs⟩ := h i (by omega) z hI
      obtain ⟨zf, h1, h2⟩ := ih (i + 1) n z' (by omega) (by omega) hI'
      refine ⟨zf, h1, fun K => ?_⟩
      obtain ⟨rec, hr⟩ := h2 K
      refine ⟨rec, ?_⟩
      show step K (klp (step K) n) z = _
      rw [hs]
      exact hr
  exact key B 0 n z (by omega) hn h0
def inT (A : AS) (k id : Nat) : Bool := decide (id ≠ aW A k - 1) && decide (fx (aB A k (bN (aW A k - 1) id)) id < (aB A k (bN (aW A k - 1) id)).length)
def nr (A : AS) (k x d : Nat) : Bool := inT A k (x ^^^ d) && decide (ct (fun e => inT A k (x ^^^ e)) d < 3)
def showS (A : AS) (k x but : Nat) (mk : Nat → Nat) : Nat → Nat := fun id => if nr A k x (x ^^^ id) = true ∧ id ≠ but ∧ mk id = 0 then 1 else mk id
def nx (mk : Nat → Nat) (x : Nat) : Nat := fs (fun d => decide (mk (x ^^^ d) = 1)) 256
def has (mk : Nat → Nat) (x : Nat) : Bool := decide (nx mk x < 256) && decide (ct (fun e => decide (mk (x ^^^ e) = 2)) (nx mk x) < 3)
/-- marks, dead contacts, the best so far -/
abbrev LZ : Type := (Nat → Nat) × Nat × Nat
def tzs (A : AS) (a x : Nat) (z : LZ) (c : Nat) : LZ :=
  if mem A c = true then (showS A (slot A c) x a (up z.1 c 2), z.2.1, if c ^^^ x < z.2.2 ^^^ x then c else z.2.2) else (up z.1 c 3, z.2.1 + 1, z.2.2)
def tz (A : AS) (a x : Nat) : Nat → LZ
  | 0 => (showS A (slot A a) x 256 (fun _ => 0), 0, a)
  | i + 1 => tzs A a x (tz A a x i) (x ^^^ nx (tz A a x i).1 x)
def nst (A : AS) (a x : Nat) : Nat := fs (fun i => !has (tz A a x i).1 x) 12
def cto (A : AS) (a x i : Nat) : Nat := x ^^^ nx (tz A a x i).1 x
def apS (A : AS) (a c : Nat) : AS := if mem A c = true then learnS (learnS A c a) a c else forgetS A a c
def pz (A : AS) (a x : Nat) (B : AS) : Nat → AS
  | 0 => B
  | i + 1 => apS (pz A a x B i) a (cto A a x i)
def hitB (A : AS) (x b : Nat) : Bool := decide (ct (fun d => mem A (x ^^^ d)) (b ^^^ x) = 0)
def lRes (A : AS) (a x : Nat) : Nat := (tz A a x (nst A a x)).2.2
def lDead (A : AS) (a x : Nat) : Nat := (tz A a x (nst A a x)).2.1
def lHit (A : AS) (a x : Nat) : Bool := hitB A x (lRes A a x)
/-- the counters of a lookup -/
def cA (A : AS) (n d : Nat) (h : Bool) : AS := sS (sS (sS (sS A 9 (aS A 9 + 1)) 10 (aS A 10 + nI n)) 11 (aS A 11 + nI d)) 15 (aS A 15 + (if h = true then 1 else 0))
def lookA (A : AS) (a x : Nat) : AS := pz A a x (cA A (nst A a x) (lDead A a x) (lHit A a x)) (nst A a x)
theorem nst_le (A : AS) (a x : Nat) : nst A a x ≤ 12 := fs_le _ _
theorem nst_has {A : AS} {a x i : Nat} (h : i < nst A a x) : has (tz A a x i).1 x = true := by
  have := fs_no (p := fun i => !has (tz A a x i).1 x) h
  simpa using this
theorem has_nx {mk : Nat → Nat} {x : Nat} (h : has mk x = true) : nx mk x < 256 ∧ mk (x ^^^ nx mk x) = 1 := by
  unfold has at h
  simp only [Bool.and_eq_true, decide_eq_true_eq] at h
  exact ⟨h.1, of_decide_eq_true (fs_at (p := fun d => decide (mk (x ^^^ d) = 1)) h.1)⟩
theorem xx (x d : Nat) : x ^^^ (x ^^^ d) = d := by rw [← Nat.xor_assoc, Nat.xor_self, Nat.zero_xor]
theorem x2 (x d : Nat) : (x ^^^ d) ^^^ x = d := by rw [Nat.xor_comm, xx]
theorem cto_lt {A : AS} {a x i : Nat} (hx : x < 256) (h : has (tz A a x i).1 x = true) : cto A a x i < 256 ∧ (tz A a x i).1 (cto A a x i) = 1 := ⟨xor_lt (n := 8) hx (has_nx h).1, (has_nx h).2⟩
/-- a mark that isn't 0 stays so; one above 1 stays as it is while others are contacted -/
theorem showS_a {A : AS} {k x but : Nat} {mk : Nat → Nat} (h : mk but = 0) : showS A k x but mk but = 0 := by
  unfold showS
  rw [if_neg (fun z => z.2.1 rfl)]; exact h
theorem showS_ge {A : AS} {k x but id : Nat} {mk : Nat → Nat} (h : mk id ≠ 0) : showS A k x but mk id = mk id := by
  unfold showS
  rw [if_neg (fun z => h z.2.2)]
theorem inT_own (A : AS) (k : Nat) : inT A k (aW A k - 1) = false := by unfold inT; simp
theorem tz_a {A : AS} {a x : Nat} (hx : x < 256) (hma : mem A a = true) (n : Nat) (hn : ∀ i, i < n → has (tz A a x i).1 x = true) : (tz A a x n).1 a = 0 := by
  induction n with
  | zero =>
    have ka := (mem_iff A a).mp hma
    have wa := slot_at ka
    show showS A (slot A a) x 256 (fun _ => 0) a = 0
    unfold showS
    rw [if_neg]
    intro z
    have h1 : inT A (slot A a) (x ^^^ (x ^^^ a)) = true := by
      have := z.1
      unfold nr at this
      simp only [Bool.and_eq_true] at this
      exact this.1
    rw [xx] at h1
    have h2 := inT_own A (slot A a)
    rw [wa] at h2
    simp at h2
    rw [h2] at h1; cases h1
  | succ n ih =>
    have ih := ih (fun i hi => hn i (by omega))
    have hc := cto_lt hx (hn n (by omega))
    have hne : a ≠ cto A a x n := fun e => by rw [← e, ih] at hc; cases hc.2
    show (tzs A a x (tz A a x n) (cto A a x n)).1 a = 0
    unfold tzs
    split
    · refine showS_a ?_
      rw [up_n _ _ hne]; exact ih
    · show up _ _ _ a = 0
      rw [up_n _ _ hne]; exact ih
theorem tz_ge {A : AS} {a x id i : Nat} (hx : x < 256) (h : 2 ≤ (tz A a x i).1 id) : ∀ n, i ≤ n → (∀ j, j < n → has (tz A a x j).1 x = true) → 2 ≤ (tz A a x n).1 id := by
  intro n hin hn
  induction n with
  | zero => rw [show i = 0 by omega] at h; exact h
  | succ n ih =>
    by_cases e : i = n + 1
    · subst e; exact h
    · have ih := ih (by omega) (fun j hj => hn j (by omega))
      have hc := cto_lt hx (hn n (by omega))
      have hne : id ≠ cto A a x n := fun e => by rw [e] at ih; omega
      show 2 ≤ (tzs A a x (tz A a x n) (cto A a x n)).1 id
      unfold tzs
      split
      · have h0 : up (tz A a x n).1 (cto A a x n) 2 id = (tz A a x n).1 id := up_n _ _ hne
        show 2 ≤ showS A (slot A (cto A a x n)) x a (up (tz A a x n).1 (cto A a x n) 2) id
        rw [showS_ge (by rw [h0]; omega), h0]; exact ih
      · show 2 ≤ up _ _ _ id
        rw [up_n _ _ hne]; exact ih
theorem tz_c {A : AS} {a x i : Nat} : 2 ≤ (tz A a x (i + 1)).1 (cto A a x i) := by
  show 2 ≤ (tzs A a x (tz A a x i) (cto A a x i)).1 (cto A a x i)
  unfold tzs
  split
  · have h0 : up (tz A a x i).1 (cto A a x i) 2 (cto A a x i) = 2 := up_s _ _ _
    show 2 ≤ showS A (slot A (cto A a x i)) x a (up (tz A a x i).1 (cto A a x i) 2) (cto A a x i)
    rw [showS_ge (by rw [h0]; decide), h0]; exact Nat.le_refl _
  · show 2 ≤ up _ _ _ (cto A a x i)
    rw [up_s]; decide
/-- nobody is contacted twice, and nobody contacts itself -/
theorem cto_inj {A : AS} {a x i j : Nat} (hx : x < 256) (hij : i < j) (hn : ∀ k, k ≤ j → has (tz A a x k).1 x = true) : cto A a x i ≠ cto A a x j := fun e => by
  have h1 := tz_ge (id := cto A a x i) hx tz_c j (by omega) (fun k hk => hn k (by omega))
  have h2 := (cto_lt hx (hn j (Nat.le_refl _))).2
  rw [e] at h1
  omega
theorem cto_ne {A : AS} {a x i : Nat} (hx : x < 256) (hma : mem A a = true) (hn : ∀ k, k ≤ i → has (tz A a x k).1 x = true) : cto A a x i ≠ a := fun e => by
  have h1 := tz_a hx hma i (fun k hk => hn k (by omega))
  have h2 := (cto_lt hx (hn i (Nat.le_refl _))).2
  rw [e, h1] at h2
  cases h2
/-! the changes along the course -/
theorem ap_W (A : AS) (a c : Nat) : aW (apS A a c) = aW A ∧ aO (apS A a c) = aO A ∧ aC (apS A a c) = aC A := by
  unfold apS
  split
  · have h1 := learn_W (learnS A c a) a c
    have h2 := learn_W A c a
    exact ⟨h1.1.trans h2.1, h1.2.1.trans h2.2.1, h1.2.2.trans h2.2.2⟩
  · exact forget_W A a c
theorem pz_W (A : AS) (a x : Nat) (B : AS) (n : Nat) : aW (pz A a x B n) = aW B ∧ aO (pz A a x B n) = aO B ∧ aC (pz A a x B n) = aC B := by
  induction n with
  | zero => exact ⟨rfl, rfl, rfl⟩
  | succ n ih =>
    have h := ap_W (pz A a x B n) a (cto A a x n)
    exact ⟨h.1.trans ih.1, h.2.1.trans ih.2.1, h.2.2.trans ih.2.2⟩
theorem ap_B (A : AS) (a c : Nat) {k : Nat} (h1 : k ≠ slot A a) (h2 : k ≠ slot A c) : aB (apS A a c) k = aB A k := by
  unfold apS
  split
  · rw [learn_B _ _ _ (by rw [slot_W (learn_W A c a).1]; exact h1), learn_B _ _ _ h2]
  · exact forget_B _ _ _ h1
theorem pz_B (A : AS) (a x : Nat) (B : AS) (n : Nat) {k : Nat} (h1 : k ≠ slot B a) (h2 : ∀ i, i < n → k ≠ slot B (cto A a x i)) : aB (pz A a x B n) k = aB B k := by
  induction n with
  | zero => rfl
  | succ n ih =>
    have hW := (pz_W A a x B n).1
    show aB (apS (pz A a x B n) a (cto A a x n)) k = aB B k
    rw [ap_B _ _ _ (by rw [slot_W hW]; exact h1) (by rw [slot_W hW]; exact h2 n (by omega))]
    exact ih (fun i hi => h2 i (by omega))
theorem WF_ap {A : AS} {a c : Nat} (h : WF A) (ha : a < 256) (hc : c < 256) (hac : a ≠ c) (hma : mem A a = true) : WF (apS A a c) := by
  unfold apS
  split
  · rename_i hm
    exact WF_learn (WF_learn h hc ha (Ne.symm hac) hm) ha hc hac (by rw [mem_W (learn_W A c a).1]; exact hma)
  · exact WF_forget h ha hc hac hma
theorem WF_pz {A B : AS} {a x : Nat} (h : WF B) (hx : x < 256) (ha : a < 256) (hW : aW B = aW A) (hma : mem A a = true) (n : Nat) (hn : ∀ i, i < n → has (tz A a x i).1 x = true) : WF (pz A a x B n) := by
  induction n with
  | zero => exact h
  | succ n ih =>
    have hc := (cto_lt hx (hn n (by omega))).1
    have hne := cto_ne hx hma (i := n) (fun k hk => hn k (by omega))
    refine WF_ap (ih (fun i hi => hn i (by omega))) ha hc (Ne.symm hne) ?_
    rw [mem_W (pz_W A a x B n).1, mem_W hW]; exact hma
theorem pz_S (A : AS) (a x : Nat) (B : AS) {i : Nat} (v : Int32) (h3 : i ≠ 3) (h4 : i ≠ 4) (h12 : i ≠ 12) (h13 : i ≠ 13) (h14 : i ≠ 14) (n : Nat) : pz A a x (sS B i v) n = sS (pz A a x B n) i v := by
  induction n with
  | zero => rfl
  | succ n ih =>
    show apS (pz A a x (sS B i v) n) a (cto A a x n) = sS (apS (pz A a x B n) a (cto A a x n)) i v
    rw [ih]
    unfold apS
    have em : mem (sS (pz A a x B n) i v) (cto A a x n) = mem (pz A a x B n) (cto A a x n) := rfl
    rw [em]
    split
    · rw [learn_S _ _ _ _ h3 h4 h12 h13 h14, learn_S _ _ _ _ h3 h4 h12 h13 h14]
    · exact forget_S _ _ _ _ _
theorem ap_sc (A : AS) (a c : Nat) {i : Nat} (h12 : i ≠ 12) (h13 : i ≠ 13) (h14 : i ≠ 14) : aS (apS A a c) i = aS A i := by
  unfold apS
  split
  · rw [learn_sc _ _ _ h12 h13 h14, learn_sc _ _ _ h12 h13 h14]
  · exact forget_sc _ _ _ _
theorem pz_sc (A : AS) (a x : Nat) (B : AS) {i : Nat} (h12 : i ≠ 12) (h13 : i ≠ 13) (h14 : i ≠ 14) (n : Nat) : aS (pz A a x B n) i = aS B i := by
  induction n with
  | zero => rfl
  | succ n ih =>
    show aS (apS (pz A a x B n) a (cto A a x n)) i = aS B i
    rw [ap_sc _ _ _ h12 h13 h14]; exact ih
