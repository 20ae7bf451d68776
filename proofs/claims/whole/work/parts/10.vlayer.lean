/-! The V layer: a method's machine state as (pc, locals by place, stack, memory); the memory is a function of cell numbers; one row an instruction, each eating one step of the decompiled function. -/
abbrev zMem : Type := (Nat → Nat → Int32) × (Nat → Int64) × (Nat → Nat)
abbrev zSh : Type := Nat ⊕ (Nat × List (Nat × Nat))
def zsI (m : zMem) (a j : Nat) (x : Int32) : zMem := (fun b k => if b = a ∧ k = j then x else m.1 b k, m.2)
def zsA (m : zMem) (a : Nat) (f : Nat → Int32) : zMem := (fun b k => if b = a then f k else m.1 b k, m.2)
def zsL (m : zMem) (a : Nat) (x : Int64) : zMem := (m.1, fun b => if b = a then x else m.2.1 b, m.2.2)
def zsR (m : zMem) (j : Nat) (r : Nat) : zMem := (m.1, m.2.1, fun b => if b = j then r else m.2.2 b)
def zfv (ad : Nat → Nat) (m : zMem) (a k : Nat) (d : Nat × Nat) : Value := match d.1 with
  | 0 => .int (m.1 a k)
  | 1 => .ref (ad d.2)
  | 2 => .ref (ad (m.2.2 d.2))
  | _ => .long (m.2.1 a)
def zcell (cI : ClassId) (ad : Nat → Nat) (m : zMem) (a : Nat) (sh : zSh) : va_E := match sh with
  | .inl n => .inl (cI, n, .inl (m.1 a))
  | .inr d => .inr (d.1, d.2.mapIdx (fun k e => zfv ad m a k e))
/-- the picture's data: class numbers, the int array's class, addresses of the cells, their shapes, how many, the classes -/
abbrev zG : Type := va_G × ClassId × (Nat → Nat) × (Nat → zSh) × Nat × List vw_C
def zD (g : zG) : va_G := g.1
def zcI (g : zG) : ClassId := g.2.1
def zad (g : zG) : Nat → Nat := g.2.2.1
def zsh (g : zG) : Nat → zSh := g.2.2.2.1
def zn (g : zG) : Nat := g.2.2.2.2.1
def zcl (g : zG) : List vw_C := g.2.2.2.2.2
def zwd (g : zG) (m : zMem) : va_W := (List.range (zn g)).map (fun a => (zad g a, zcell (zcI g) (zad g) m a (zsh g a)))
def zty (g : zG) : List (ClassId × FieldType) := [(zcI g, .int)]
def zAD (g : zG) : Nat → Prop := fun q => ∃ i, i < zn g ∧ q = zad g i
def zPP (g : zG) (m : zMem) (U : State) : Prop := va_P (zD g) (zcl g) (zwd g m) U.heap ∧ va_K (zD g) (zcl g) (zty g) U ∧ va_D (zAD g) (zwd g m)
theorem zwd_get (g : zG) (m : zMem) {a : Nat} (h : a < zn g) : (zwd g m)[a]? = some (zad g a, zcell (zcI g) (zad g) m a (zsh g a)) := by
  simp [zwd, h]
theorem zwd_ad (g : zG) (m : zMem) {k : Nat} {q : Nat × va_E} (h : (zwd g m)[k]? = some q) : k < zn g ∧ q.1 = zad g k := by
  have hk : k < zn g := by
    have := (List.getElem?_eq_some_iff.mp h).1
    simpa [zwd] using this
  rw [zwd_get g m hk] at h
  exact ⟨hk, by cases h; rfl⟩
theorem zwd_set (g : zG) {m m' : zMem} {a : Nat} {E : va_E} (h : a < zn g) (h1 : zcell (zcI g) (zad g) m' a (zsh g a) = E) (h2 : ∀ b, b ≠ a → zcell (zcI g) (zad g) m' b (zsh g b) = zcell (zcI g) (zad g) m b (zsh g b)) : (zwd g m).set a (zad g a, E) = zwd g m' := by
  apply List.ext_getElem?
  intro i
  by_cases hi : i < zn g
  · rw [zwd_get g m' hi]
    by_cases e : i = a
    · subst e
      rw [h1, List.getElem?_set_self (by simpa [zwd] using hi)]
    · rw [List.getElem?_set_ne (Ne.symm e), zwd_get g m hi, h2 i e]
  · rw [List.getElem?_eq_none (by simpa [zwd] using Nat.not_lt.mp hi), List.getElem?_eq_none (by simpa [zwd] using Nat.not_lt.mp hi)]
theorem zsI_row (m : zMem) (a j : Nat) (x : Int32) : (zsI m a j x).1 a = upd (m.1 a) j x := by
  funext k
  simp [zsI, upd]
theorem zsI_ne (m : zMem) {a b : Nat} (j : Nat) (x : Int32) (h : b ≠ a) : (zsI m a j x).1 b = m.1 b := by
  funext k
  simp [zsI, h]
theorem zcell_I (cI : ClassId) (ad : Nat → Nat) (m : zMem) {a b : Nat} (j : Nat) (x : Int32) (h : b ≠ a) (sh : zSh) : zcell cI ad (zsI m a j x) b sh = zcell cI ad m b sh := by
  have e := zsI_ne m j x h
  cases sh with
  | inl n => simp only [zcell, e]
  | inr d =>
    have e2 : (fun k e => zfv ad (zsI m a j x) b k e) = (fun k e => zfv ad m b k e) := by
      funext k d
      simp only [zfv, e]
      rfl
    simp only [zcell, e2]
theorem zwd_sA (g : zG) (m : zMem) {a n : Nat} (f : Nat → Int32) (h : a < zn g) (hs : zsh g a = .inl n) : (zwd g m).set a (zad g a, .inl (zcI g, n, .inl f)) = zwd g (zsA m a f) := by
  refine zwd_set g h ?_ ?_
  · rw [hs]
    have : (zsA m a f).1 a = f := by funext k; simp [zsA]
    simp only [zcell, this]
  · intro b hb
    have e : (zsA m a f).1 b = m.1 b := by funext k; simp [zsA, hb]
    cases zsh g b with
    | inl n => simp only [zcell, e]
    | inr d =>
      have e2 : (fun k e => zfv (zad g) (zsA m a f) b k e) = (fun k e => zfv (zad g) m b k e) := by
        funext k d
        simp only [zfv, e]
        rfl
      simp only [zcell, e2]
theorem zwd_sI (g : zG) (m : zMem) {a n : Nat} (j : Nat) (x : Int32) (h : a < zn g) (hs : zsh g a = .inl n) : (zwd g m).set a (zad g a, .inl (zcI g, n, .inl (upd (m.1 a) j x))) = zwd g (zsI m a j x) := by
  refine zwd_set g h ?_ (fun b hb => zcell_I _ _ m j x hb _)
  rw [hs]
  simp only [zcell, zsI_row]
theorem zwd_pI (g : zG) (m : zMem) {a ci j d2 : Nat} {ds : List (Nat × Nat)} (x : Int32) (h : a < zn g) (hs : zsh g a = .inr (ci, ds)) (hd : ds[j]? = some (0, d2)) : (zwd g m).set a (zad g a, .inr (ci, (ds.mapIdx (fun k e => zfv (zad g) m a k e)).set j (.int x))) = zwd g (zsI m a j x) := by
  refine zwd_set g h ?_ (fun b hb => zcell_I _ _ m j x hb _)
  rw [hs]
  simp only [zcell]
  congr 2
  apply List.ext_getElem?
  intro i
  by_cases e : i = j
  · subst e
    have hl := (List.getElem?_eq_some_iff.mp hd).1
    rw [List.getElem?_set_self (by simpa using hl), List.getElem?_mapIdx, hd]
    simp [zfv, zsI]
  · rw [List.getElem?_set_ne (Ne.symm e), List.getElem?_mapIdx, List.getElem?_mapIdx]
    cases ds[i]? with
    | none => rfl
    | some q =>
      simp only [Option.map_some]
      have : (zsI m a j x).1 a i = m.1 a i := by simp [zsI, e]
      simp only [zfv, this]
      rfl
theorem zwd_pL (g : zG) (m : zMem) {a ci j t d2 : Nat} {ds : List (Nat × Nat)} (x : Int64) (h : a < zn g) (hs : zsh g a = .inr (ci, ds)) (hd : ds[j]? = some (t + 3, d2)) (hu : ∀ i e, ds[i]? = some e → e.1 ≠ 0 → e.1 ≠ 1 → e.1 ≠ 2 → i = j) : (zwd g m).set a (zad g a, .inr (ci, (ds.mapIdx (fun k e => zfv (zad g) m a k e)).set j (.long x))) = zwd g (zsL m a x) := by
  refine zwd_set g h ?_ ?_
  · rw [hs]
    simp only [zcell]
    congr 2
    apply List.ext_getElem?
    intro i
    by_cases e : i = j
    · subst e
      have hl := (List.getElem?_eq_some_iff.mp hd).1
      rw [List.getElem?_set_self (by simpa using hl), List.getElem?_mapIdx, hd]
      simp [zfv, zsL]
    · rw [List.getElem?_set_ne (Ne.symm e), List.getElem?_mapIdx, List.getElem?_mapIdx]
      cases hq : ds[i]? with
      | none => rfl
      | some q =>
        simp only [Option.map_some]
        have h3 := hu i q hq
        obtain ⟨q1, q2⟩ := q
        match q1, h3 with
        | 0, _ => rfl
        | 1, _ => rfl
        | 2, _ => rfl
        | q + 3, h3 => exact absurd (h3 (by simp) (by simp) (by simp)) e
  · intro b hb
    cases zsh g b with
    | inl n => rfl
    | inr d =>
      have e2 : (fun k e => zfv (zad g) (zsL m a x) b k e) = (fun k e => zfv (zad g) m b k e) := by
        funext k d
        simp [zfv, zsL, hb]
      simp only [zcell, e2]
theorem zwd_pR (g : zG) (m : zMem) {a ci j v : Nat} {ds : List (Nat × Nat)} (r : Nat) (h : a < zn g) (hs : zsh g a = .inr (ci, ds)) (hd : ds[j]? = some (2, v)) (hu : ∀ b cb db i, zsh g b = .inr (cb, db) → db[i]? = some (2, v) → b = a ∧ i = j) : (zwd g m).set a (zad g a, .inr (ci, (ds.mapIdx (fun k e => zfv (zad g) m a k e)).set j (.ref (zad g r)))) = zwd g (zsR m v r) := by
  refine zwd_set g h ?_ ?_
  · rw [hs]
    simp only [zcell]
    congr 2
    apply List.ext_getElem?
    intro i
    by_cases e : i = j
    · subst e
      have hl := (List.getElem?_eq_some_iff.mp hd).1
      rw [List.getElem?_set_self (by simpa using hl), List.getElem?_mapIdx, hd]
      simp [zfv, zsR]
    · rw [List.getElem?_set_ne (Ne.symm e), List.getElem?_mapIdx, List.getElem?_mapIdx]
      cases hq : ds[i]? with
      | none => rfl
      | some q =>
        simp only [Option.map_some]
        obtain ⟨q1, q2⟩ := q
        match q1 with
        | 0 => rfl
        | 1 => rfl
        | 2 =>
          have hne : q2 ≠ v := fun z => e (hu a ci ds i hs (by rw [hq, z])).2
          simp [zfv, zsR, hne]
        | q + 3 => rfl
  · intro b hb
    cases hsb : zsh g b with
    | inl n => rfl
    | inr d =>
      simp only [zcell]
      congr 2
      apply List.ext_getElem?
      intro i
      rw [List.getElem?_mapIdx, List.getElem?_mapIdx]
      cases hq : d.2[i]? with
      | none => rfl
      | some q =>
        simp only [Option.map_some]
        obtain ⟨q1, q2⟩ := q
        match q1 with
        | 0 => rfl
        | 1 => rfl
        | 2 =>
          have hne : q2 ≠ v := fun z => hb (hu b d.1 d.2 i (by rw [hsb]) (by rw [hq, z])).1
          simp [zfv, zsR, hne]
        | q + 3 => rfl
/-! locals by place -/
def zlo (ls : Array Slot) (nL : Nat) (lo : List (Option Value)) : Prop := ls.size = nL ∧ lv_wf ls ∧ ∀ (i : Nat) (v : Value), lo[i]? = some (some v) → ls[i]? = some (Slot.val v)
def zla (lo : List (Option Value)) : List (Nat × Value) := lo.zipIdx.filterMap (fun q => q.1.map (fun v => (q.2, v)))
theorem zla_mem {lo : List (Option Value)} {i : Nat} {v : Value} : (i, v) ∈ zla lo ↔ lo[i]? = some (some v) := by
  simp only [zla, List.mem_filterMap, List.mem_zipIdx_iff_getElem?]
  constructor
  · rintro ⟨⟨o, k⟩, h1, h2⟩
    cases o with
    | none => cases h2
    | some w =>
      simp at h2
      obtain ⟨rfl, rfl⟩ := h2
      exact h1
  · intro h
    exact ⟨(some v, i), h, rfl⟩
theorem zlo_has {ls : Array Slot} {nL : Nat} {lo : List (Option Value)} (h : zlo ls nL lo) : lv_has ls nL (zla lo) := ⟨h.1, h.2.1, fun q hq => h.2.2 q.1 q.2 (zla_mem.mp hq)⟩
def zc1 (lo : List (Option Value)) (i : Nat) : Nat := match lo[i]? with
  | some (some v) => v.category
  | _ => 1
theorem zlo_set {ls : Array Slot} {nL i : Nat} {lo : List (Option Value)} {v : Value} (h : lv_has ls nL ((i, v) :: (zla lo).filter (fun q => !(q.1 == i) && !(q.1 + 1 == i && q.2.category == 2)))) (hc : zc1 lo (i - 1) = 1) : zlo ls nL (lo.set i (some v)) := by
  refine ⟨h.1, h.2.1, fun j w hj => ?_⟩
  by_cases e : j = i
  · subst e
    have hl := (List.getElem?_eq_some_iff.mp hj).1
    rw [List.getElem?_set_self (by simpa using hl)] at hj
    cases hj
    exact h.2.2 (j, v) List.mem_cons_self
  · rw [List.getElem?_set_ne (Ne.symm e)] at hj
    refine h.2.2 (j, w) (List.mem_cons_of_mem _ (List.mem_filter.mpr ⟨zla_mem.mpr hj, ?_⟩))
    by_cases e2 : j + 1 = i
    · have e3 : i - 1 = j := by omega
      rw [zc1, e3, hj] at hc
      simp [e, hc]
    · simp [e, e2]
theorem zlo_set2 {ls : Array Slot} {nL i : Nat} {lo : List (Option Value)} {v : Value} (h : lv_has ls nL ((i, v) :: (zla lo).filter (fun q => !(q.1 == i) && (!(q.1 == i + 1) && !(q.1 + 1 == i && q.2.category == 2))))) (hc : zc1 lo (i - 1) = 1) : zlo ls nL ((lo.set i (some v)).set (i + 1) none) := by
  refine ⟨h.1, h.2.1, fun j w hj => ?_⟩
  by_cases e1 : j = i + 1
  · subst e1
    have hl := (List.getElem?_eq_some_iff.mp hj).1
    rw [List.getElem?_set_self (by simpa using hl)] at hj
    cases hj
  rw [List.getElem?_set_ne (Ne.symm e1)] at hj
  by_cases e : j = i
  · subst e
    have hl := (List.getElem?_eq_some_iff.mp hj).1
    rw [List.getElem?_set_self (by simpa using hl)] at hj
    cases hj
    exact h.2.2 (j, v) List.mem_cons_self
  · rw [List.getElem?_set_ne (Ne.symm e)] at hj
    refine h.2.2 (j, w) (List.mem_cons_of_mem _ (List.mem_filter.mpr ⟨zla_mem.mpr hj, ?_⟩))
    by_cases e2 : j + 1 = i
    · have e3 : i - 1 = j := by omega
      rw [zc1, e3, hj] at hc
      simp [e, e1, hc]
    · simp [e, e1, e2]
