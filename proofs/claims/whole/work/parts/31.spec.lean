/-! the abstract state: scalars (0 base, 1 life, 2 epoch length, 3 bucket quota, 4 table quota, 5 time, 6 fresh, 7.. counts), who lies in a slot (0, or identity + 1), its origin, its time, its buckets -/
abbrev AS : Type := (Nat → Int32) × (Nat → Nat) × (Nat → Int32) × (Nat → Int32) × (Nat → Nat → List (Nat × Int32))
abbrev aS (A : AS) : Nat → Int32 := A.1
abbrev aW (A : AS) : Nat → Nat := A.2.1
abbrev aO (A : AS) : Nat → Int32 := A.2.2.1
abbrev aC (A : AS) : Nat → Int32 := A.2.2.2.1
abbrev aB (A : AS) : Nat → Nat → List (Nat × Int32) := A.2.2.2.2
def up {α : Type} (f : Nat → α) (k : Nat) (v : α) : Nat → α := fun j => if j = k then v else f j
theorem up_s {α : Type} (f : Nat → α) (k : Nat) (v : α) : up f k v k = v := by simp [up]
theorem up_n {α : Type} (f : Nat → α) {k j : Nat} (v : α) (h : j ≠ k) : up f k v j = f j := by simp [up, h]
def sS (A : AS) (i : Nat) (v : Int32) : AS := (up (aS A) i v, A.2)
def sB (A : AS) (k t : Nat) (l : List (Nat × Int32)) : AS := (aS A, aW A, aO A, aC A, up (aB A) k (up (aB A k) t l))
def inc (A : AS) (i : Nat) : AS := sS A i (aS A i + 1)
/-- a bucket's cells: its size, its identities, its origins -/
def BK (z : Int32) (f g : Nat → Int32) (l : List (Nat × Int32)) : Prop := z = nI l.length ∧ l.length ≤ 4 ∧ ∀ (j : Nat) (e : Nat × Int32), l[j]? = some e → f j = nI e.1 ∧ g j = e.2 ∧ e.1 < 256
/-- the place of an identity in a bucket; its length if it isn't there -/
def fx (l : List (Nat × Int32)) (id : Nat) : Nat := fs (fun j => decide (l[j]?.map (fun e => e.1) = some id)) l.length
/-- entries of an origin in a bucket -/
def co (l : List (Nat × Int32)) (o : Int32) : Nat := ct (fun j => decide (l[j]?.map (fun e => e.2) = some o)) l.length
def sm (f : Nat → Nat) : Nat → Nat
  | 0 => 0
  | n + 1 => sm f n + f n
theorem sm_s (f : Nat → Nat) (n : Nat) : sm f (n + 1) = sm f n + f n := rfl
theorem sm_congr {f g : Nat → Nat} {n : Nat} (h : ∀ j, j < n → f j = g j) : sm f n = sm g n := by
  induction n with
  | zero => rfl
  | succ n ih => unfold sm; rw [ih (fun j hj => h j (by omega)), h n (by omega)]
theorem sm_le {f : Nat → Nat} {n c : Nat} (h : ∀ j, j < n → f j ≤ c) : sm f n ≤ c * n := by
  induction n with
  | zero => exact Nat.zero_le _
  | succ n ih =>
    unfold sm
    have h1 := ih (fun j hj => h j (by omega))
    have h2 := h n (by omega)
    rw [Nat.mul_succ]; omega
theorem co_le (l : List (Nat × Int32)) (o : Int32) : co l o ≤ l.length := ct_le _ _
theorem fx_le (l : List (Nat × Int32)) (id : Nat) : fx l id ≤ l.length := fs_le _ _
theorem fx_at {l : List (Nat × Int32)} {id : Nat} (h : fx l id < l.length) : ∃ o, l[fx l id]? = some (id, o) := by
  have h1 := fs_at (p := fun j => decide (l[j]?.map (fun e => e.1) = some id)) (n := l.length) h
  have h2 := of_decide_eq_true h1
  change (l[fx l id]?).map (fun e => e.1) = some id at h2
  cases e : l[fx l id]? with
  | none => rw [e] at h2; cases h2
  | some q =>
    rw [e] at h2
    simp at h2
    exact ⟨q.2, by rw [← h2]⟩
theorem fx_no {l : List (Nat × Int32)} {id j : Nat} {e : Nat × Int32} (h : j < fx l id) (he : l[j]? = some e) : e.1 ≠ id := fun z => by
  have h1 := fs_no (p := fun j => decide (l[j]?.map (fun e => e.1) = some id)) h
  have h2 := of_decide_eq_false h1
  apply h2
  rw [he]
  simp [z]
/-- the tables' arithmetic: how many leading bits of eight two numbers have in common -/
def bN (a b : Nat) : Nat := fs (fun n => (a ^^^ b).testBit (7 - n)) 8
def slot (A : AS) (id : Nat) : Nat := fs (fun k => decide (aW A k = id + 1)) 24
def mem (A : AS) (id : Nat) : Bool := decide (slot A id < 24)
def cnt (A : AS) : Nat := ct (fun k => decide (aW A k ≠ 0)) 24
def tco (A : AS) (k : Nat) (o : Int32) : Nat := sm (fun b => co (aB A k b) o) 8
def ens (A : AS) (k : Nat) : Nat := sm (fun b => (aB A k b).length) 8
def hd (l : List (Nat × Int32)) : Nat × Int32 := l.headD (0, 0)
def learnS (A : AS) (a b : Nat) : AS :=
  if fx (aB A (slot A a) (bN a b)) b < (aB A (slot A a) (bN a b)).length then sB A (slot A a) (bN a b) ((aB A (slot A a) (bN a b)).eraseIdx (fx (aB A (slot A a) (bN a b)) b) ++ [(b, aO A (slot A b))])
  else if aS A 3 ≤ nI (co (aB A (slot A a) (bN a b)) (aO A (slot A b))) then inc A 12
  else if aS A 4 ≤ nI (tco A (slot A a) (aO A (slot A b))) then inc A 13
  else if (aB A (slot A a) (bN a b)).length = 4 ∧ mem A (hd (aB A (slot A a) (bN a b))).1 = true then sB (inc A 14) (slot A a) (bN a b) ((aB A (slot A a) (bN a b)).tail ++ [hd (aB A (slot A a) (bN a b))])
  else sB A (slot A a) (bN a b) ((if (aB A (slot A a) (bN a b)).length = 4 then (aB A (slot A a) (bN a b)).tail else aB A (slot A a) (bN a b)) ++ [(b, aO A (slot A b))])
def forgetS (A : AS) (a c : Nat) : AS :=
  if fx (aB A (slot A a) (bN a c)) c < (aB A (slot A a) (bN a c)).length then sB A (slot A a) (bN a c) ((aB A (slot A a) (bN a c)).eraseIdx (fx (aB A (slot A a) (bN a c)) c)) else A
theorem BK_get {z : Int32} {f g : Nat → Int32} {l : List (Nat × Int32)} (h : BK z f g l) {j : Nat} (hj : j < l.length) : ∃ e, l[j]? = some e ∧ f j = nI e.1 ∧ g j = e.2 ∧ e.1 < 256 := by
  have h1 : l[j]? = some l[j] := List.getElem?_eq_getElem hj
  exact ⟨l[j], h1, h.2.2 j _ h1⟩
theorem BK_congr {z z' : Int32} {f g f' g' : Nat → Int32} {l : List (Nat × Int32)} (h : BK z f g l) (hz : z' = z) (hf : ∀ j, j < 4 → f' j = f j) (hg : ∀ j, j < 4 → g' j = g j) : BK z' f' g' l := by
  refine ⟨by rw [hz]; exact h.1, h.2.1, fun j e he => ?_⟩
  have hj : j < l.length := (List.getElem?_eq_some_iff.mp he).1
  have hl := h.2.1
  rw [hf j (by omega), hg j (by omega)]
  exact h.2.2 j e he
theorem BK_erase {z : Int32} {f g f' g' : Nat → Int32} {l : List (Nat × Int32)} {i : Nat} (h : BK z f g l) (hi : i < l.length) (hf : ∀ j, j < i → f' j = f j) (hg : ∀ j, j < i → g' j = g j) (hf2 : ∀ j, i ≤ j → j + 1 < l.length → f' j = f (j + 1)) (hg2 : ∀ j, i ≤ j → j + 1 < l.length → g' j = g (j + 1)) : BK (nI (l.length - 1)) f' g' (l.eraseIdx i) := by
  have hl : (l.eraseIdx i).length = l.length - 1 := List.length_eraseIdx_of_lt hi
  refine ⟨by rw [hl], by have := h.2.1; omega, fun j e he => ?_⟩
  have hj : j < l.length - 1 := by rw [← hl]; exact (List.getElem?_eq_some_iff.mp he).1
  rw [List.getElem?_eraseIdx] at he
  split at he
  · rename_i h1
    rw [hf j h1, hg j h1]
    exact h.2.2 j e he
  · rename_i h1
    rw [hf2 j (by omega) (by omega), hg2 j (by omega) (by omega)]
    exact h.2.2 (j + 1) e he
theorem BK_push {z : Int32} {f g f' g' : Nat → Int32} {l : List (Nat × Int32)} {id : Nat} {o : Int32} (h : BK z f g l) (hl : l.length < 4) (hid : id < 256) (hf : ∀ j, j < l.length → f' j = f j) (hg : ∀ j, j < l.length → g' j = g j) (hf2 : f' l.length = nI id) (hg2 : g' l.length = o) : BK (nI (l.length + 1)) f' g' (l ++ [(id, o)]) := by
  refine ⟨by simp, by simp; omega, fun j e he => ?_⟩
  by_cases hj : j < l.length
  · rw [List.getElem?_append_left hj] at he
    rw [hf j hj, hg j hj]
    exact h.2.2 j e he
  · have hj2 : j < l.length + 1 := by have := (List.getElem?_eq_some_iff.mp he).1; simpa using this
    have e1 : j = l.length := by omega
    subst e1
    simp at he
    subst he
    exact ⟨hf2, hg2, hid⟩
