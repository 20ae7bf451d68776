/-! learning and forgetting keep what holds of every state; scalars apart from quotas and refusals don't matter -/
theorem WF_S {A : AS} (i : Nat) (v : Int32) (h : WF A) : WF (sS A i v) := h
def OKb (w t : Nat) (l : List (Nat × Int32)) : Prop := l.length ≤ 4 ∧ (l.map (fun e => e.1)).Nodup ∧ ∀ e, e ∈ l → e.1 < 256 ∧ e.1 ≠ w - 1 ∧ bN (w - 1) e.1 = t
theorem WF_sB {A : AS} {k t : Nat} {l : List (Nat × Int32)} (h : WF A) (hw : aW A k ≠ 0) (hl : OKb (aW A k) t l) : WF (sB A k t l) := by
  obtain ⟨h1, h2, h3⟩ := h
  refine ⟨h1, h2, fun k2 b hk2 hb => ?_⟩
  show (up (aB A) k (up (aB A k) t l) k2 b).length ≤ 4 ∧ (aW A k2 = 0 → up (aB A) k (up (aB A k) t l) k2 b = []) ∧ ((up (aB A) k (up (aB A k) t l) k2 b).map (fun e => e.1)).Nodup ∧ ∀ e, e ∈ up (aB A) k (up (aB A k) t l) k2 b → e.1 < 256 ∧ e.1 ≠ aW A k2 - 1 ∧ bN (aW A k2 - 1) e.1 = b
  by_cases e1 : k2 = k
  · subst e1
    rw [up_s]
    by_cases e2 : b = t
    · subst e2; rw [up_s]; exact ⟨hl.1, fun z => absurd z hw, hl.2.1, hl.2.2⟩
    · rw [up_n _ _ e2]; exact h3 k2 b hk2 hb
  · rw [up_n _ _ e1]; exact h3 k2 b hk2 hb
theorem WF_OK {A : AS} (h : WF A) {k b : Nat} (hk : k < 24) (hb : b < 8) : OKb (aW A k) b (aB A k b) := ⟨(h.2.2 k b hk hb).1, (h.2.2 k b hk hb).2.2.1, (h.2.2 k b hk hb).2.2.2⟩
theorem fx_none {l : List (Nat × Int32)} {id : Nat} (h : ¬ fx l id < l.length) {e : Nat × Int32} (he : e ∈ l) : e.1 ≠ id := by
  obtain ⟨j, hj⟩ := List.getElem?_of_mem he
  have hl := (List.getElem?_eq_some_iff.mp hj).1
  exact fx_no (by have := fx_le l id; omega) hj
theorem nodup_erase {l : List (Nat × Int32)} (i : Nat) (h : (l.map (fun e => e.1)).Nodup) : ((l.eraseIdx i).map (fun e => e.1)).Nodup :=
  h.sublist ((List.eraseIdx_sublist l i).map _)
theorem nodup_push {l : List (Nat × Int32)} {b : Nat} {o : Int32} (h : (l.map (fun e => e.1)).Nodup) (hb : ∀ e, e ∈ l → e.1 ≠ b) : ((l ++ [(b, o)]).map (fun e => e.1)).Nodup := by
  rw [List.map_append, List.nodup_append]
  refine ⟨h, by simp, fun x hx y hy => ?_⟩
  obtain ⟨e, he, rfl⟩ := List.mem_map.mp hx
  simp at hy
  rw [hy]
  exact hb e he
theorem nodup_at {l : List (Nat × Int32)} (h : (l.map (fun e => e.1)).Nodup) {i j : Nat} {e f : Nat × Int32} (he : l[i]? = some e) (hf : l[j]? = some f) (hef : e.1 = f.1) : i = j := by
  have hi := (List.getElem?_eq_some_iff.mp he).1
  refine (List.getElem?_inj (l := l.map (fun e => e.1)) (by simpa using hi) h).mp ?_
  rw [List.getElem?_map, List.getElem?_map, he, hf]
  simp [hef]
theorem erase_ne {l : List (Nat × Int32)} {b : Nat} (h : (l.map (fun e => e.1)).Nodup) (hf : fx l b < l.length) {e : Nat × Int32} (he : e ∈ l.eraseIdx (fx l b)) : e.1 ≠ b := by
  obtain ⟨j, hj⟩ := List.getElem?_of_mem he
  obtain ⟨o, ho⟩ := fx_at hf
  intro z
  rw [List.getElem?_eraseIdx] at hj
  split at hj
  · rename_i h1
    have := nodup_at h hj ho z
    omega
  · rename_i h1
    have := nodup_at h hj ho z
    omega
theorem OKb_sub {w t : Nat} {l l' : List (Nat × Int32)} (h : OKb w t l) (hs : l'.Sublist l) : OKb w t l' := ⟨Nat.le_trans hs.length_le h.1, h.2.1.sublist (hs.map _), fun e he => h.2.2 e (hs.mem he)⟩
theorem OKb_push {w t b : Nat} {o : Int32} {l : List (Nat × Int32)} (h : OKb w t l) (hl : l.length < 4) (hb : ∀ e, e ∈ l → e.1 ≠ b) (hb2 : b < 256 ∧ b ≠ w - 1 ∧ bN (w - 1) b = t) : OKb w t (l ++ [(b, o)]) := by
  refine ⟨by simp; omega, nodup_push h.2.1 hb, fun e he => ?_⟩
  rcases List.mem_append.mp he with h1 | h1
  · exact h.2.2 e h1
  · simp at h1; subst h1; exact hb2
theorem hd_tail {l : List (Nat × Int32)} (h : 0 < l.length) : l = hd l :: l.tail := by
  cases l with
  | nil => simp at h
  | cons x xs => rfl
theorem WF_learn {A : AS} {a b : Nat} (h : WF A) (ha : a < 256) (hb : b < 256) (hab : a ≠ b) (hma : mem A a = true) : WF (learnS A a b) := by
  have ka := (mem_iff A a).mp hma
  have wa := slot_at ka
  have ht := bN_lt ha hb hab
  have hO := WF_OK h ka ht
  have hb2 : b < 256 ∧ b ≠ aW A (slot A a) - 1 ∧ bN (aW A (slot A a) - 1) b = bN a b := ⟨hb, by omega, by rw [wa]; rfl⟩
  have hl := hO.1
  unfold learnS
  split
  · rename_i hf
    refine WF_sB h (by omega) (OKb_push (OKb_sub hO (List.eraseIdx_sublist _ _)) (by rw [List.length_eraseIdx_of_lt hf]; omega) (fun e he => erase_ne hO.2.1 hf he) hb2)
  · rename_i hf
    split
    · exact h
    · split
      · exact h
      · split
        · rename_i h4
          have ht4 := hd_tail (l := aB A (slot A a) (bN a b)) (by omega)
          have hnd := hO.2.1
          rw [ht4] at hnd
          simp only [List.map_cons, List.nodup_cons] at hnd
          refine WF_sB (A := inc A 14) h (by show aW A _ ≠ 0; omega) ?_
          have hh : hd (aB A (slot A a) (bN a b)) ∈ aB A (slot A a) (bN a b) := by rw [ht4]; simp [hd]
          exact OKb_push (b := (hd (aB A (slot A a) (bN a b))).1) (o := (hd (aB A (slot A a) (bN a b))).2) (OKb_sub hO (List.tail_sublist _)) (by rw [List.length_tail]; omega) (fun e he z => hnd.1 (by rw [← z]; exact List.mem_map.mpr ⟨e, he, rfl⟩)) (hO.2.2 _ hh)
        · refine WF_sB h (by omega) ?_
          split
          · rename_i h4
            exact OKb_push (OKb_sub hO (List.tail_sublist _)) (by rw [List.length_tail]; omega) (fun e he => fx_none hf (List.mem_of_mem_tail he)) hb2
          · rename_i h4
            exact OKb_push hO (by omega) (fun e he => fx_none hf he) hb2
theorem WF_forget {A : AS} {a c : Nat} (h : WF A) (ha : a < 256) (hc : c < 256) (hac : a ≠ c) (hma : mem A a = true) : WF (forgetS A a c) := by
  have ka := (mem_iff A a).mp hma
  have wa := slot_at ka
  have ht := bN_lt ha hc hac
  unfold forgetS
  split
  · exact WF_sB h (by omega) (OKb_sub (WF_OK h ka ht) (List.eraseIdx_sublist _ _))
  · exact h
/-! what learning leaves alone -/
theorem learn_W (A : AS) (a b : Nat) : aW (learnS A a b) = aW A ∧ aO (learnS A a b) = aO A ∧ aC (learnS A a b) = aC A := by
  unfold learnS
  split
  · exact ⟨rfl, rfl, rfl⟩
  · split
    · exact ⟨rfl, rfl, rfl⟩
    · split
      · exact ⟨rfl, rfl, rfl⟩
      · split <;> exact ⟨rfl, rfl, rfl⟩
theorem forget_W (A : AS) (a b : Nat) : aW (forgetS A a b) = aW A ∧ aO (forgetS A a b) = aO A ∧ aC (forgetS A a b) = aC A := by
  unfold forgetS
  split <;> exact ⟨rfl, rfl, rfl⟩
theorem slot_W {A B : AS} (h : aW A = aW B) (id : Nat) : slot A id = slot B id := by unfold slot; rw [h]
theorem mem_W {A B : AS} (h : aW A = aW B) (id : Nat) : mem A id = mem B id := by unfold mem; rw [slot_W h]
theorem cnt_W {A B : AS} (h : aW A = aW B) : cnt A = cnt B := by unfold cnt; rw [h]
theorem learn_B (A : AS) (a b : Nat) {k : Nat} (hk : k ≠ slot A a) : aB (learnS A a b) k = aB A k := by
  unfold learnS
  split
  · exact up_n _ _ hk
  · split
    · rfl
    · split
      · rfl
      · split <;> exact up_n _ _ hk
theorem forget_B (A : AS) (a b : Nat) {k : Nat} (hk : k ≠ slot A a) : aB (forgetS A a b) k = aB A k := by
  unfold forgetS
  split
  · exact up_n _ _ hk
  · rfl
theorem up_up {α : Type} (f : Nat → α) {i j : Nat} (u v : α) (h : i ≠ j) : up (up f i u) j v = up (up f j v) i u := by
  funext x
  unfold up
  by_cases e1 : x = j
  · subst e1; simp [Ne.symm h]
  · by_cases e2 : x = i
    · subst e2; simp [e1]
    · simp [e1, e2]
theorem learn_S (A : AS) (a b : Nat) {i : Nat} (v : Int32) (h3 : i ≠ 3) (h4 : i ≠ 4) (h12 : i ≠ 12) (h13 : i ≠ 13) (h14 : i ≠ 14) : learnS (sS A i v) a b = sS (learnS A a b) i v := by
  have e3 : aS (sS A i v) 3 = aS A 3 := up_n _ _ (Ne.symm h3)
  have e4 : aS (sS A i v) 4 = aS A 4 := up_n _ _ (Ne.symm h4)
  have ei : ∀ j, j ≠ i → inc (sS A i v) j = sS (inc A j) i v := fun j hj => by
    unfold inc sS
    show (up (up (aS A) i v) j (up (aS A) i v j + 1), A.2) = (up (up (aS A) j (aS A j + 1)) i v, A.2)
    rw [up_n _ _ hj, up_up _ _ _ (Ne.symm hj)]
  have es : ∀ id, slot (sS A i v) id = slot A id := fun id => rfl
  have em : ∀ id, mem (sS A i v) id = mem A id := fun id => rfl
  have et : ∀ k o, tco (sS A i v) k o = tco A k o := fun k o => rfl
  have eB : aB (sS A i v) = aB A := rfl
  have eO : aO (sS A i v) = aO A := rfl
  unfold learnS
  rw [e3, e4, ei 12 (Ne.symm h12), ei 13 (Ne.symm h13), ei 14 (Ne.symm h14)]
  simp only [es, em, et, eB, eO]
  split
  · rfl
  · split
    · rfl
    · split
      · rfl
      · split <;> rfl
theorem forget_S (A : AS) (a b i : Nat) (v : Int32) : forgetS (sS A i v) a b = sS (forgetS A a b) i v := by
  have es : ∀ id, slot (sS A i v) id = slot A id := fun id => rfl
  have eB : aB (sS A i v) = aB A := rfl
  unfold forgetS
  simp only [es, eB]
  split <;> rfl
theorem learn_sc (A : AS) (a b : Nat) {i : Nat} (h12 : i ≠ 12) (h13 : i ≠ 13) (h14 : i ≠ 14) : aS (learnS A a b) i = aS A i := by
  unfold learnS
  split
  · rfl
  · split
    · exact up_n _ _ h12
    · split
      · exact up_n _ _ h13
      · split
        · exact up_n _ _ h14
        · rfl
theorem forget_sc (A : AS) (a b i : Nat) : aS (forgetS A a b) i = aS A i := by
  unfold forgetS
  split <;> rfl
