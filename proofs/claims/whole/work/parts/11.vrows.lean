/-! the judgement V, and a row an instruction -/
/-- what is fixed in a method's body: machine, launch, room, start, method, end, what may change -/
abbrev zF : Type := Program × Launch × Env × Room × State × MethodId × Array Value × List Frame × Method × Code × (State → Prop) × (Nat → Prop)
def zfR (x : zF) : Room := x.2.2.2.1
def zfs (x : zF) : State := x.2.2.2.2.1
def zfA (x : zF) : Nat → Prop := x.2.2.2.2.2.2.2.2.2.2.2
def zW (x : zF) (H : Heap) (locs : List Loc) (cs sl : Nat) (pc : Nat) (ls : Array Slot) (st : List Value) : Prop :=
  W x.1 x.2.1 x.2.2.1 (zfR x) (zfs x) x.2.2.2.2.2.1 x.2.2.2.2.2.2.1 x.2.2.2.2.2.2.2.1 x.2.2.2.2.2.2.2.2.1 x.2.2.2.2.2.2.2.2.2.1 H locs cs sl x.2.2.2.2.2.2.2.2.2.2.1 (F0 x.2.2.2.2.2.1 pc ls st)
def zV (x : zF) (g : zG) (nL : Nat) (cs sl : Nat) (pc : Nat) (lo : List (Option Value)) (st : List Value) (m : zMem) : Prop :=
  ∀ (H : Heap) (locs : List Loc) (ls : Array Slot), va_P (zD g) (zcl g) (zwd g m) H → va_D (zfA x) (zwd g m) → va_S (zfA x) (zfs x).heap H locs → zlo ls nL lo → zW x H locs cs sl pc ls st
/-- what a body knows: the code, its words, the picture's classes, its room -/
def zC (x : zF) (g : zG) (cc : ByteArray) (Ts : List Cond) (own : String) (nL : Nat) (rm : Room) : Prop :=
  CallFix x.1 x.2.2.2.2.2.1 x.2.2.2.2.2.2.2.2.2.1 cc nL (zfs x) x.2.2.2.2.2.2.1 Ts own ∧ va_K (zD g) (zcl g) (zty g) (zfs x) ∧ (∀ i, i < zn g → zfA x (zad g i)) ∧ zfR x = rm
/-! the decompiled function's pieces -/
def kld {α : Type} (m : zMem) (a n : Nat) (i : Int32) (k : Int32 → Option α) : Option α := if i < 0 ∨ n ≤ i.toNatClampNeg then none else k (m.1 a i.toNatClampNeg)
def kst {α : Type} (m : zMem) (a n : Nat) (i x : Int32) (k : zMem → Option α) : Option α := if i < 0 ∨ n ≤ i.toNatClampNeg then none else k (zsI m a i.toNatClampNeg x)
def kgi {α : Type} (m : zMem) (a j : Nat) (k : Int32 → Option α) : Option α := k (m.1 a j)
def kpi {α : Type} (m : zMem) (a j : Nat) (x : Int32) (k : zMem → Option α) : Option α := k (zsI m a j x)
def kpz {α : Type} (m : zMem) (a j : Nat) (x : Int32) (k : zMem → Option α) : Option α := if x = 0 ∨ x = 1 then k (zsI m a j x) else none
def kgl {α : Type} (m : zMem) (a : Nat) (k : Int64 → Option α) : Option α := k (m.2.1 a)
def kpl {α : Type} (m : zMem) (a : Nat) (x : Int64) (k : zMem → Option α) : Option α := k (zsL m a x)
def kgr {α : Type} (m : zMem) (v : Nat) (k : Nat → Option α) : Option α := k (m.2.2 v)
def kpr {α : Type} (m : zMem) (v r : Nat) (k : zMem → Option α) : Option α := k (zsR m v r)
def kdv {α : Type} (x y : Int32) (k : Int32 → Option α) : Option α := if y = 0 then none else k (x / y)
def krm {α : Type} (x y : Int32) (k : Int32 → Option α) : Option α := if y = 0 then none else k (x - x / y * y)
def kmin {α : Type} (x y : Int32) (k : Int32 → Option α) : Option α := k (if y < x then y else x)
def kmax {α : Type} (x y : Int32) (k : Int32 → Option α) : Option α := k (if x < y then y else x)
def kbz {α : Type} (x : Int32) (k : Option α) : Option α := if x = 0 ∨ x = 1 then k else none
def klt {α β : Type} (v : β) (k : β → Option α) : Option α := k v
def kcp {α : Type} (m : zMem) (a b na nb : Nat) (sp dp n : Int32) (k : zMem → Option α) : Option α :=
  if sp < 0 ∨ dp < 0 ∨ n < 0 ∨ na < sp.toNatClampNeg + n.toNatClampNeg ∨ nb < dp.toNatClampNeg + n.toNatClampNeg then none else k (zsA m b (va_cpy (m.1 a) (m.1 b) sp.toNatClampNeg dp.toNatClampNeg n.toNatClampNeg))
def kc1 {α γ : Type} (fo : Option γ) (k : γ → Option α) : Option α := fo.bind k
def kc2 {α γ : Type} (fo : Option (γ × zMem)) (k : γ → zMem → Option α) : Option α := fo.bind (fun z => k z.1 z.2)
def kjn {ρ α : Type} (r : ρ) (b : ρ → Option α) : Option α := b r
def klp {S β : Type} (step : (S → Option β) → S → Option β) : Nat → S → Option β
  | 0, _ => none
  | n + 1, z => step (klp step n) z
theorem klp_V {S β : Type} {step : (S → Option β) → S → Option β} {o : β} {n : Nat} {z : S} (P : S → Prop) (hf : klp step n z = some o) (h : ∀ (rec : S → Option β) (z : S), (∀ z', rec z' = some o → P z') → step rec z = some o → P z) : P z := by
  induction n generalizing z with
  | zero => cases hf
  | succ n ih => exact h (klp step n) z (fun z' h' => ih h') hf
theorem kjn_V {ρ α : Type} {r : ρ} {b : ρ → Option α} {o : α} {G : Prop} (P : ρ → Prop) (hf : kjn r b = some o) (h1 : P r) (h2 : ∀ K, P K → b K = some o → G) : G := h2 r h1 hf
theorem ite_V {c : Prop} [Decidable c] {α : Type} {a b : Option α} {o : α} {G : Prop} (hf : (if c then a else b) = some o) (h1 : c → a = some o → G) (h2 : ¬ c → b = some o → G) : G := by
  by_cases h : c
  · rw [if_pos h] at hf; exact h1 h hf
  · rw [if_neg h] at hf; exact h2 h hf
theorem kbz_V {α : Type} {y : Int32} {a : Option α} {o : α} {G : Prop} (hf : kbz y a = some o) (h1 : y = 0 ∨ y = 1 → a = some o → G) : G := ite_V hf h1 (fun _ h => by cases h)
theorem kc1_V {α γ : Type} {fo : Option γ} {k : γ → Option α} {o : α} {G : Prop} (hf : kc1 fo k = some o) (h : ∀ r, fo = some r → k r = some o → G) : G := by
  cases e : fo with
  | none => rw [e] at hf; cases hf
  | some r => rw [e] at hf; exact h r e hf
theorem kc2_V {α γ : Type} {fo : Option (γ × zMem)} {k : γ → zMem → Option α} {o : α} {G : Prop} (hf : kc2 fo k = some o) (h : ∀ z, fo = some z → k z.1 z.2 = some o → G) : G := by
  cases e : fo with
  | none => rw [e] at hf; cases hf
  | some r => rw [e] at hf; exact h r e hf
theorem z_tswd {x : Int32} {a b : Int} (h : ∀ c : Int, a ≤ c → c ≤ b → ¬ x = Int32.ofInt c) : x.toInt < a ∨ b < x.toInt := by
  by_cases h1 : x.toInt < a
  · exact Or.inl h1
  · by_cases h2 : b < x.toInt
    · exact Or.inr h2
    · exact absurd (Int32.ofInt_toInt x).symm (h x.toInt (by omega) (by omega))
section ZR
variable {x : zF} {g : zG} {cc : ByteArray} {Ts : List Cond} {own : String} {nL : Nat} {rm : Room} {cs sl : Nat} {pc pc' : Nat} {lo lo' : List (Option Value)} {st : List Value} {m : zMem} {β : Type} {o : β}
theorem z_drop (i : Nat) (hs : lo.set i none = lo') (k : zV x g nL cs sl pc lo' st m) : zV x g nL cs sl pc lo st m := fun H locs ls hP hD hS hl => k H locs ls hP hD hS ⟨hl.1, hl.2.1, fun j v h => hl.2.2 j v (by
  subst hs
  by_cases e : i = j
  · subst e
    have h2 := (List.getElem?_eq_some_iff.mp h).1
    rw [List.getElem?_set_self (by simpa using h2)] at h
    cases h
  · rwa [List.getElem?_set_ne e] at h)⟩
theorem z_tsi (C : zC x g cc Ts own nL rm) {dflt a b : Int} {offs : Array Int} {len tgt : Nat} {off : Int} {y v : Int32} (e : y = v) (hd : decode cc pc = .ok (.tableswitch dflt a b offs, len)) (h1 : ¬ v.toInt < a) (h2 : ¬ b < v.toInt) (ho : offs[(v.toInt - a).toNat]? = some off) (ht : (pc : Int) + off = (tgt : Int)) (k : zV x g nL cs sl tgt lo st m) : zV x g nL cs sl pc lo (.int y :: st) m := fun H locs ls hP hD hS hl => by
  subst e
  exact lv_tableIn C.1.1 C.1.2.1 hd h1 h2 ho ht (k H locs ls hP hD hS hl)
theorem z_tso (C : zC x g cc Ts own nL rm) {dflt a b : Int} {offs : Array Int} {len tgt : Nat} {y : Int32} (hd : decode cc pc = .ok (.tableswitch dflt a b offs, len)) (h : y.toInt < a ∨ b < y.toInt) (ht : (pc : Int) + dflt = (tgt : Int)) (k : zV x g nL cs sl tgt lo st m) : zV x g nL cs sl pc lo (.int y :: st) m := fun H locs ls hP hD hS hl => lv_tableOut C.1.1 C.1.2.1 hd h ht (k H locs ls hP hD hS hl)
theorem z_lks (C : zC x g cc Ts own nL rm) {dflt : Int} {ps : Array (Int × Int)} {len tgt : Nat} {off : Int} {y : Int32} (hd : decode cc pc = .ok (.lookupswitch dflt ps, len)) (hq : (ps.toList.zip (ps.toList.drop 1)).all (fun (a, next) => a.1 < next.1) = true) (ho : Op.lookupswitch.offset ps.toList dflt y.toInt = off) (ht : (pc : Int) + off = (tgt : Int)) (k : zV x g nL cs sl tgt lo st m) : zV x g nL cs sl pc lo (.int y :: st) m := fun H locs ls hP hD hS hl => lv_lookup C.1.1 C.1.2.1 hd hq ho ht (k H locs ls hP hD hS hl)
theorem z_sub (hp : ∀ (i : Nat) (v : Value), lo'[i]? = some (some v) → lo[i]? = some (some v)) (k : zV x g nL cs sl pc lo' st m) : zV x g nL cs sl pc lo st m := fun H locs ls hP hD hS hl => k H locs ls hP hD hS ⟨hl.1, hl.2.1, fun i v h => hl.2.2 i v (hp i v h)⟩
theorem z_iconst (C : zC x g cc Ts own nL rm) {n : Int} {v : Int32} (hd : decode cc pc = .ok (.iconst n, 1)) (hv : Int32.ofInt n = v) (hp : pc + 1 = pc') (k : zV x g nL cs sl pc' lo (.int v :: st) m) : zV x g nL cs sl pc lo st m := fun H locs ls hP hD hS hl => by subst hp; exact lv_iconst C.1.1 C.1.2.1 hd hv (k H locs ls hP hD hS hl)
theorem z_bipush (C : zC x g cc Ts own nL rm) {n : Int} {v : Int32} (hd : decode cc pc = .ok (.bipush n, 2)) (hv : (Int8.ofInt n).toInt32 = v) (hp : pc + 2 = pc') (k : zV x g nL cs sl pc' lo (.int v :: st) m) : zV x g nL cs sl pc lo st m := fun H locs ls hP hD hS hl => by subst hp; exact lv_bipush C.1.1 C.1.2.1 hd hv (k H locs ls hP hD hS hl)
theorem z_sipush (C : zC x g cc Ts own nL rm) {n : Int} {v : Int32} (hd : decode cc pc = .ok (.sipush n, 3)) (hv : (Int16.ofInt n).toInt32 = v) (hp : pc + 3 = pc') (k : zV x g nL cs sl pc' lo (.int v :: st) m) : zV x g nL cs sl pc lo st m := fun H locs ls hP hD hS hl => by subst hp; exact lv_sipush C.1.1 C.1.2.1 hd hv (k H locs ls hP hD hS hl)
theorem z_ldc (C : zC x g cc Ts own nL rm) {idx : Nat} {v : Int32} (hw : Cond.constant own idx v ∈ Ts) (hd : decode cc pc = .ok (.ldc idx, 2)) (hp : pc + 2 = pc') (k : zV x g nL cs sl pc' lo (.int v :: st) m) : zV x g nL cs sl pc lo st m := fun H locs ls hP hD hS hl => by subst hp; exact lv_ldc C.1.1 C.1.2.1 C.1.2.2.2.1 (C.1.2.2.2.2 _ hw) hd (k H locs ls hP hD hS hl)
theorem z_ldcw (C : zC x g cc Ts own nL rm) {idx : Nat} {v : Int32} (hw : Cond.constant own idx v ∈ Ts) (hd : decode cc pc = .ok (.ldc_w idx, 3)) (hp : pc + 3 = pc') (k : zV x g nL cs sl pc' lo (.int v :: st) m) : zV x g nL cs sl pc lo st m := fun H locs ls hP hD hS hl => by subst hp; exact lv_ldcw C.1.1 C.1.2.1 C.1.2.2.2.1 (C.1.2.2.2.2 _ hw) hd (k H locs ls hP hD hS hl)
theorem z_ldc2 (C : zC x g cc Ts own nL rm) {idx : Nat} {v : Int64} (hw : Cond.constantLong own idx v ∈ Ts) (hd : decode cc pc = .ok (.ldc2_w idx, 3)) (hp : pc + 3 = pc') (k : zV x g nL cs sl pc' lo (.long v :: st) m) : zV x g nL cs sl pc lo st m := fun H locs ls hP hD hS hl => by subst hp; exact lv_ldc2 C.1.1 C.1.2.1 C.1.2.2.2.1 (C.1.2.2.2.2 _ hw) hd (k H locs ls hP hD hS hl)
theorem z_iload_n (C : zC x g cc Ts own nL rm) {j : Fin 4} {i : Nat} {y : Int32} (hd : decode cc pc = .ok (.iload_n j, 1)) (hi : (j : Nat) = i) (hv : lo[i]? = some (some (.int y))) (hp : pc + 1 = pc') (k : zV x g nL cs sl pc' lo (.int y :: st) m) : zV x g nL cs sl pc lo st m := fun H locs ls hP hD hS hl => by subst hp; exact lv_iload_n C.1.1 C.1.2.1 hd hi (hl.2.2 _ _ hv) (k H locs ls hP hD hS hl)
theorem z_iload (C : zC x g cc Ts own nL rm) {i : Nat} {y : Int32} (hd : decode cc pc = .ok (.iload i, 2)) (hv : lo[i]? = some (some (.int y))) (hp : pc + 2 = pc') (k : zV x g nL cs sl pc' lo (.int y :: st) m) : zV x g nL cs sl pc lo st m := fun H locs ls hP hD hS hl => by subst hp; exact lv_iload C.1.1 C.1.2.1 hd (hl.2.2 _ _ hv) (k H locs ls hP hD hS hl)
theorem z_lload_n (C : zC x g cc Ts own nL rm) {j : Fin 4} {i : Nat} {y : Int64} (hd : decode cc pc = .ok (.lload_n j, 1)) (hi : (j : Nat) = i) (hv : lo[i]? = some (some (.long y))) (hp : pc + 1 = pc') (k : zV x g nL cs sl pc' lo (.long y :: st) m) : zV x g nL cs sl pc lo st m := fun H locs ls hP hD hS hl => by subst hp; exact lv_lload_n C.1.1 C.1.2.1 hd hi (hl.2.2 _ _ hv) (k H locs ls hP hD hS hl)
theorem z_lload (C : zC x g cc Ts own nL rm) {i : Nat} {y : Int64} (hd : decode cc pc = .ok (.lload i, 2)) (hv : lo[i]? = some (some (.long y))) (hp : pc + 2 = pc') (k : zV x g nL cs sl pc' lo (.long y :: st) m) : zV x g nL cs sl pc lo st m := fun H locs ls hP hD hS hl => by subst hp; exact lv_lload C.1.1 C.1.2.1 hd (hl.2.2 _ _ hv) (k H locs ls hP hD hS hl)
theorem z_aload_n (C : zC x g cc Ts own nL rm) {j : Fin 4} {i : Nat} {y : Nat} (hd : decode cc pc = .ok (.aload_n j, 1)) (hi : (j : Nat) = i) (hv : lo[i]? = some (some (.ref y))) (hp : pc + 1 = pc') (k : zV x g nL cs sl pc' lo (.ref y :: st) m) : zV x g nL cs sl pc lo st m := fun H locs ls hP hD hS hl => by subst hp; exact lv_aload_n C.1.1 C.1.2.1 hd hi (hl.2.2 _ _ hv) (k H locs ls hP hD hS hl)
theorem z_aload (C : zC x g cc Ts own nL rm) {i : Nat} {y : Nat} (hd : decode cc pc = .ok (.aload i, 2)) (hv : lo[i]? = some (some (.ref y))) (hp : pc + 2 = pc') (k : zV x g nL cs sl pc' lo (.ref y :: st) m) : zV x g nL cs sl pc lo st m := fun H locs ls hP hD hS hl => by subst hp; exact lv_aload C.1.1 C.1.2.1 hd (hl.2.2 _ _ hv) (k H locs ls hP hD hS hl)
theorem z_istore_n (C : zC x g cc Ts own nL rm) {j : Fin 4} {i : Nat} {y : Int32} (hd : decode cc pc = .ok (.istore_n j, 1)) (hi : (j : Nat) = i) (hn : i < nL) (hc : zc1 lo (i - 1) = 1) (hs : lo.set i (some (.int y)) = lo') (hp : pc + 1 = pc') (k : zV x g nL cs sl pc' lo' st m) : zV x g nL cs sl pc lo (.int y :: st) m := fun H locs ls hP hD hS hl => by subst hp; subst hs; exact lv_istore_n C.1.1 C.1.2.1 hd hi (zlo_has hl) hn rfl (fun ls1 h1 => k H locs ls1 hP hD hS (zlo_set h1 hc))
theorem z_istore (C : zC x g cc Ts own nL rm) {i : Nat} {y : Int32} (hd : decode cc pc = .ok (.istore i, 2)) (hn : i < nL) (hc : zc1 lo (i - 1) = 1) (hs : lo.set i (some (.int y)) = lo') (hp : pc + 2 = pc') (k : zV x g nL cs sl pc' lo' st m) : zV x g nL cs sl pc lo (.int y :: st) m := fun H locs ls hP hD hS hl => by subst hp; subst hs; exact lv_istore C.1.1 C.1.2.1 hd (zlo_has hl) hn rfl (fun ls1 h1 => k H locs ls1 hP hD hS (zlo_set h1 hc))
theorem z_astore_n (C : zC x g cc Ts own nL rm) {j : Fin 4} {i : Nat} {y : Nat} (hd : decode cc pc = .ok (.astore_n j, 1)) (hi : (j : Nat) = i) (hn : i < nL) (hc : zc1 lo (i - 1) = 1) (hs : lo.set i (some (.ref y)) = lo') (hp : pc + 1 = pc') (k : zV x g nL cs sl pc' lo' st m) : zV x g nL cs sl pc lo (.ref y :: st) m := fun H locs ls hP hD hS hl => by subst hp; subst hs; exact lv_astore_n C.1.1 C.1.2.1 hd hi (zlo_has hl) hn rfl (fun ls1 h1 => k H locs ls1 hP hD hS (zlo_set h1 hc))
theorem z_astore (C : zC x g cc Ts own nL rm) {i : Nat} {y : Nat} (hd : decode cc pc = .ok (.astore i, 2)) (hn : i < nL) (hc : zc1 lo (i - 1) = 1) (hs : lo.set i (some (.ref y)) = lo') (hp : pc + 2 = pc') (k : zV x g nL cs sl pc' lo' st m) : zV x g nL cs sl pc lo (.ref y :: st) m := fun H locs ls hP hD hS hl => by subst hp; subst hs; exact lv_astore C.1.1 C.1.2.1 hd (zlo_has hl) hn rfl (fun ls1 h1 => k H locs ls1 hP hD hS (zlo_set h1 hc))
theorem z_lstore_n (C : zC x g cc Ts own nL rm) {j : Fin 4} {i : Nat} {y : Int64} (hd : decode cc pc = .ok (.lstore_n j, 1)) (hi : (j : Nat) = i) (hn : i + 1 < nL) (hc : zc1 lo (i - 1) = 1) (hs : (lo.set i (some (.long y))).set (i + 1) none = lo') (hp : pc + 1 = pc') (k : zV x g nL cs sl pc' lo' st m) : zV x g nL cs sl pc lo (.long y :: st) m := fun H locs ls hP hD hS hl => by subst hp; subst hs; exact lv_lstore_n C.1.1 C.1.2.1 hd hi (zlo_has hl) hn rfl (fun ls1 h1 => k H locs ls1 hP hD hS (zlo_set2 h1 hc))
theorem z_lstore (C : zC x g cc Ts own nL rm) {i : Nat} {y : Int64} (hd : decode cc pc = .ok (.lstore i, 2)) (hn : i + 1 < nL) (hc : zc1 lo (i - 1) = 1) (hs : (lo.set i (some (.long y))).set (i + 1) none = lo') (hp : pc + 2 = pc') (k : zV x g nL cs sl pc' lo' st m) : zV x g nL cs sl pc lo (.long y :: st) m := fun H locs ls hP hD hS hl => by subst hp; subst hs; exact lv_lstore C.1.1 C.1.2.1 hd (zlo_has hl) hn rfl (fun ls1 h1 => k H locs ls1 hP hD hS (zlo_set2 h1 hc))
theorem z_iinc (C : zC x g cc Ts own nL rm) {i : Nat} {n : Int} {y v : Int32} (hd : decode cc pc = .ok (.iinc i n, 3)) (hi : lo[i]? = some (some (.int y))) (hv : y + Int32.ofInt n = v) (hn : i < nL) (hc : zc1 lo (i - 1) = 1) (hs : lo.set i (some (.int v)) = lo') (hp : pc + 3 = pc') (k : zV x g nL cs sl pc' lo' st m) : zV x g nL cs sl pc lo st m := fun H locs ls hP hD hS hl => by
  subst hp; subst hs
  obtain ⟨j, hj⟩ := List.getElem?_of_mem (zla_mem.mpr hi)
  exact lv_iinc C.1.1 C.1.2.1 hd (zlo_has hl) hj hv hn rfl (fun ls1 h1 => k H locs ls1 hP hD hS (zlo_set h1 hc))
theorem z_iadd (C : zC x g cc Ts own nL rm) {y z : Int32} (hd : decode cc pc = .ok (.iadd, 1)) (hp : pc + 1 = pc') (k : zV x g nL cs sl pc' lo (.int (y + z) :: st) m) : zV x g nL cs sl pc lo (.int z :: .int y :: st) m := fun H locs ls hP hD hS hl => by subst hp; exact lv_iadd C.1.1 C.1.2.1 hd (k H locs ls hP hD hS hl)
theorem z_isub (C : zC x g cc Ts own nL rm) {y z : Int32} (hd : decode cc pc = .ok (.isub, 1)) (hp : pc + 1 = pc') (k : zV x g nL cs sl pc' lo (.int (y - z) :: st) m) : zV x g nL cs sl pc lo (.int z :: .int y :: st) m := fun H locs ls hP hD hS hl => by subst hp; exact lv_isub C.1.1 C.1.2.1 hd (k H locs ls hP hD hS hl)
theorem z_imul (C : zC x g cc Ts own nL rm) {y z : Int32} (hd : decode cc pc = .ok (.imul, 1)) (hp : pc + 1 = pc') (k : zV x g nL cs sl pc' lo (.int (y * z) :: st) m) : zV x g nL cs sl pc lo (.int z :: .int y :: st) m := fun H locs ls hP hD hS hl => by subst hp; exact lv_imul C.1.1 C.1.2.1 hd (k H locs ls hP hD hS hl)
theorem z_iand (C : zC x g cc Ts own nL rm) {y z : Int32} (hd : decode cc pc = .ok (.iand, 1)) (hp : pc + 1 = pc') (k : zV x g nL cs sl pc' lo (.int (y &&& z) :: st) m) : zV x g nL cs sl pc lo (.int z :: .int y :: st) m := fun H locs ls hP hD hS hl => by subst hp; exact lv_iand C.1.1 C.1.2.1 hd (k H locs ls hP hD hS hl)
theorem z_ior (C : zC x g cc Ts own nL rm) {y z : Int32} (hd : decode cc pc = .ok (.ior, 1)) (hp : pc + 1 = pc') (k : zV x g nL cs sl pc' lo (.int (y ||| z) :: st) m) : zV x g nL cs sl pc lo (.int z :: .int y :: st) m := fun H locs ls hP hD hS hl => by subst hp; exact lv_ior C.1.1 C.1.2.1 hd (k H locs ls hP hD hS hl)
theorem z_ixor (C : zC x g cc Ts own nL rm) {y z : Int32} (hd : decode cc pc = .ok (.ixor, 1)) (hp : pc + 1 = pc') (k : zV x g nL cs sl pc' lo (.int (y ^^^ z) :: st) m) : zV x g nL cs sl pc lo (.int z :: .int y :: st) m := fun H locs ls hP hD hS hl => by subst hp; exact lv_ixor C.1.1 C.1.2.1 hd (k H locs ls hP hD hS hl)
theorem z_ishl (C : zC x g cc Ts own nL rm) {y z : Int32} (hd : decode cc pc = .ok (.ishl, 1)) (hp : pc + 1 = pc') (k : zV x g nL cs sl pc' lo (.int (y <<< (z &&& 31)) :: st) m) : zV x g nL cs sl pc lo (.int z :: .int y :: st) m := fun H locs ls hP hD hS hl => by subst hp; exact lv_ishl C.1.1 C.1.2.1 hd (k H locs ls hP hD hS hl)
theorem z_ishr (C : zC x g cc Ts own nL rm) {y z : Int32} (hd : decode cc pc = .ok (.ishr, 1)) (hp : pc + 1 = pc') (k : zV x g nL cs sl pc' lo (.int (y >>> (z &&& 31)) :: st) m) : zV x g nL cs sl pc lo (.int z :: .int y :: st) m := fun H locs ls hP hD hS hl => by subst hp; exact lv_ishr C.1.1 C.1.2.1 hd (k H locs ls hP hD hS hl)
theorem z_iushr (C : zC x g cc Ts own nL rm) {y z : Int32} (hd : decode cc pc = .ok (.iushr, 1)) (hp : pc + 1 = pc') (k : zV x g nL cs sl pc' lo (.int ((y.toUInt32 >>> (z.toUInt32 &&& Int32.toUInt32 31)).toInt32) :: st) m) : zV x g nL cs sl pc lo (.int z :: .int y :: st) m := fun H locs ls hP hD hS hl => by subst hp; exact lv_iushr C.1.1 C.1.2.1 hd rfl (k H locs ls hP hD hS hl)
theorem z_ladd (C : zC x g cc Ts own nL rm) {y z : Int64} (hd : decode cc pc = .ok (.ladd, 1)) (hp : pc + 1 = pc') (k : zV x g nL cs sl pc' lo (.long (y + z) :: st) m) : zV x g nL cs sl pc lo (.long z :: .long y :: st) m := fun H locs ls hP hD hS hl => by subst hp; exact lv_ladd C.1.1 C.1.2.1 hd (k H locs ls hP hD hS hl)
theorem z_lmul (C : zC x g cc Ts own nL rm) {y z : Int64} (hd : decode cc pc = .ok (.lmul, 1)) (hp : pc + 1 = pc') (k : zV x g nL cs sl pc' lo (.long (y * z) :: st) m) : zV x g nL cs sl pc lo (.long z :: .long y :: st) m := fun H locs ls hP hD hS hl => by subst hp; exact lv_lmul C.1.1 C.1.2.1 hd (k H locs ls hP hD hS hl)
theorem z_i2l (C : zC x g cc Ts own nL rm) {y : Int32} (hd : decode cc pc = .ok (.i2l, 1)) (hp : pc + 1 = pc') (k : zV x g nL cs sl pc' lo (.long y.toInt64 :: st) m) : zV x g nL cs sl pc lo (.int y :: st) m := fun H locs ls hP hD hS hl => by subst hp; exact lv_i2l C.1.1 C.1.2.1 hd rfl (k H locs ls hP hD hS hl)
theorem z_dup (C : zC x g cc Ts own nL rm) {v : Value} (hd : decode cc pc = .ok (.dup, 1)) (hv : v.category = 1) (hp : pc + 1 = pc') (k : zV x g nL cs sl pc' lo (v :: v :: st) m) : zV x g nL cs sl pc lo (v :: st) m := fun H locs ls hP hD hS hl => by subst hp; exact lv_dup C.1.1 C.1.2.1 hd hv (k H locs ls hP hD hS hl)
theorem z_dup2 (C : zC x g cc Ts own nL rm) {v u : Value} (hd : decode cc pc = .ok (.dup2, 1)) (hv : v.category = 1) (hu : u.category = 1) (hp : pc + 1 = pc') (k : zV x g nL cs sl pc' lo (v :: u :: v :: u :: st) m) : zV x g nL cs sl pc lo (v :: u :: st) m := fun H locs ls hP hD hS hl => by subst hp; exact lv_dup2_11 C.1.1 C.1.2.1 hd hv hu (k H locs ls hP hD hS hl)
theorem z_pop (C : zC x g cc Ts own nL rm) {v : Value} (hd : decode cc pc = .ok (.pop, 1)) (hv : v.category = 1) (hp : pc + 1 = pc') (k : zV x g nL cs sl pc' lo st m) : zV x g nL cs sl pc lo (v :: st) m := fun H locs ls hP hD hS hl => by subst hp; exact lv_pop C.1.1 C.1.2.1 hd hv (k H locs ls hP hD hS hl)
theorem z_goto (C : zC x g cc Ts own nL rm) {off : Int} (hd : decode cc pc = .ok (.goto off, 3)) (ht : (pc : Int) + off = (pc' : Int)) (k : zV x g nL cs sl pc' lo st m) : zV x g nL cs sl pc lo st m := fun H locs ls hP hD hS hl => lv_goto C.1.1 C.1.2.1 hd ht (k H locs ls hP hD hS hl)
theorem z_if_eq (C : zC x g cc Ts own nL rm) {y : Int32} {off : Int} {tgt : Nat} (hd : decode cc pc = .ok (.ifCond .eq off, 3)) (ht : (pc : Int) + off = (tgt : Int)) (hp : pc + 3 = pc') {a b : Option β} (hf : (if y = 0 then a else b) = some o) (kt : a = some o → zV x g nL cs sl tgt lo st m) (kf : b = some o → zV x g nL cs sl pc' lo st m) : zV x g nL cs sl pc lo (.int y :: st) m := fun H locs ls hP hD hS hl => by
  subst hp
  exact lv_if_eq C.1.1 C.1.2.1 hd ht (fun h => kt (by rw [if_pos h] at hf; exact hf) H locs ls hP hD hS hl) (fun h => kf (by rw [if_neg h] at hf; exact hf) H locs ls hP hD hS hl)
theorem z_ic_eq (C : zC x g cc Ts own nL rm) {y z : Int32} {off : Int} {tgt : Nat} (hd : decode cc pc = .ok (.if_icmp .eq off, 3)) (ht : (pc : Int) + off = (tgt : Int)) (hp : pc + 3 = pc') {a b : Option β} (hf : (if y = z then a else b) = some o) (kt : a = some o → zV x g nL cs sl tgt lo st m) (kf : b = some o → zV x g nL cs sl pc' lo st m) : zV x g nL cs sl pc lo (.int z :: .int y :: st) m := fun H locs ls hP hD hS hl => by
  subst hp
  exact lv_icmp_eq C.1.1 C.1.2.1 hd ht (fun h => kt (by rw [if_pos h] at hf; exact hf) H locs ls hP hD hS hl) (fun h => kf (by rw [if_neg h] at hf; exact hf) H locs ls hP hD hS hl)
theorem z_if_ne (C : zC x g cc Ts own nL rm) {y : Int32} {off : Int} {tgt : Nat} (hd : decode cc pc = .ok (.ifCond .ne off, 3)) (ht : (pc : Int) + off = (tgt : Int)) (hp : pc + 3 = pc') {a b : Option β} (hf : (if y = 0 then b else a) = some o) (kt : a = some o → zV x g nL cs sl tgt lo st m) (kf : b = some o → zV x g nL cs sl pc' lo st m) : zV x g nL cs sl pc lo (.int y :: st) m := fun H locs ls hP hD hS hl => by
  subst hp
  exact lv_if_ne C.1.1 C.1.2.1 hd ht (fun h => kt (by rw [if_neg h] at hf; exact hf) H locs ls hP hD hS hl) (fun h => kf (by rw [if_pos h] at hf; exact hf) H locs ls hP hD hS hl)
theorem z_ic_ne (C : zC x g cc Ts own nL rm) {y z : Int32} {off : Int} {tgt : Nat} (hd : decode cc pc = .ok (.if_icmp .ne off, 3)) (ht : (pc : Int) + off = (tgt : Int)) (hp : pc + 3 = pc') {a b : Option β} (hf : (if y = z then b else a) = some o) (kt : a = some o → zV x g nL cs sl tgt lo st m) (kf : b = some o → zV x g nL cs sl pc' lo st m) : zV x g nL cs sl pc lo (.int z :: .int y :: st) m := fun H locs ls hP hD hS hl => by
  subst hp
  exact lv_icmp_ne C.1.1 C.1.2.1 hd ht (fun h => kt (by rw [if_neg h] at hf; exact hf) H locs ls hP hD hS hl) (fun h => kf (by rw [if_pos h] at hf; exact hf) H locs ls hP hD hS hl)
theorem z_if_lt (C : zC x g cc Ts own nL rm) {y : Int32} {off : Int} {tgt : Nat} (hd : decode cc pc = .ok (.ifCond .lt off, 3)) (ht : (pc : Int) + off = (tgt : Int)) (hp : pc + 3 = pc') {a b : Option β} (hf : (if y < 0 then a else b) = some o) (kt : a = some o → zV x g nL cs sl tgt lo st m) (kf : b = some o → zV x g nL cs sl pc' lo st m) : zV x g nL cs sl pc lo (.int y :: st) m := fun H locs ls hP hD hS hl => by
  subst hp
  exact lv_if_lt C.1.1 C.1.2.1 hd ht (fun h => kt (by rw [if_pos h] at hf; exact hf) H locs ls hP hD hS hl) (fun h => kf (by rw [if_neg h] at hf; exact hf) H locs ls hP hD hS hl)
theorem z_ic_lt (C : zC x g cc Ts own nL rm) {y z : Int32} {off : Int} {tgt : Nat} (hd : decode cc pc = .ok (.if_icmp .lt off, 3)) (ht : (pc : Int) + off = (tgt : Int)) (hp : pc + 3 = pc') {a b : Option β} (hf : (if y < z then a else b) = some o) (kt : a = some o → zV x g nL cs sl tgt lo st m) (kf : b = some o → zV x g nL cs sl pc' lo st m) : zV x g nL cs sl pc lo (.int z :: .int y :: st) m := fun H locs ls hP hD hS hl => by
  subst hp
  exact lv_icmp_lt C.1.1 C.1.2.1 hd ht (fun h => kt (by rw [if_pos h] at hf; exact hf) H locs ls hP hD hS hl) (fun h => kf (by rw [if_neg h] at hf; exact hf) H locs ls hP hD hS hl)
theorem z_if_ge (C : zC x g cc Ts own nL rm) {y : Int32} {off : Int} {tgt : Nat} (hd : decode cc pc = .ok (.ifCond .ge off, 3)) (ht : (pc : Int) + off = (tgt : Int)) (hp : pc + 3 = pc') {a b : Option β} (hf : (if 0 ≤ y then a else b) = some o) (kt : a = some o → zV x g nL cs sl tgt lo st m) (kf : b = some o → zV x g nL cs sl pc' lo st m) : zV x g nL cs sl pc lo (.int y :: st) m := fun H locs ls hP hD hS hl => by
  subst hp
  exact lv_if_ge C.1.1 C.1.2.1 hd ht (fun h => kt (by rw [if_pos h] at hf; exact hf) H locs ls hP hD hS hl) (fun h => kf (by rw [if_neg h] at hf; exact hf) H locs ls hP hD hS hl)
theorem z_ic_ge (C : zC x g cc Ts own nL rm) {y z : Int32} {off : Int} {tgt : Nat} (hd : decode cc pc = .ok (.if_icmp .ge off, 3)) (ht : (pc : Int) + off = (tgt : Int)) (hp : pc + 3 = pc') {a b : Option β} (hf : (if z ≤ y then a else b) = some o) (kt : a = some o → zV x g nL cs sl tgt lo st m) (kf : b = some o → zV x g nL cs sl pc' lo st m) : zV x g nL cs sl pc lo (.int z :: .int y :: st) m := fun H locs ls hP hD hS hl => by
  subst hp
  exact lv_icmp_ge C.1.1 C.1.2.1 hd ht (fun h => kt (by rw [if_pos h] at hf; exact hf) H locs ls hP hD hS hl) (fun h => kf (by rw [if_neg h] at hf; exact hf) H locs ls hP hD hS hl)
theorem z_if_gt (C : zC x g cc Ts own nL rm) {y : Int32} {off : Int} {tgt : Nat} (hd : decode cc pc = .ok (.ifCond .gt off, 3)) (ht : (pc : Int) + off = (tgt : Int)) (hp : pc + 3 = pc') {a b : Option β} (hf : (if 0 < y then a else b) = some o) (kt : a = some o → zV x g nL cs sl tgt lo st m) (kf : b = some o → zV x g nL cs sl pc' lo st m) : zV x g nL cs sl pc lo (.int y :: st) m := fun H locs ls hP hD hS hl => by
  subst hp
  exact lv_if_gt C.1.1 C.1.2.1 hd ht (fun h => kt (by rw [if_pos h] at hf; exact hf) H locs ls hP hD hS hl) (fun h => kf (by rw [if_neg h] at hf; exact hf) H locs ls hP hD hS hl)
theorem z_ic_gt (C : zC x g cc Ts own nL rm) {y z : Int32} {off : Int} {tgt : Nat} (hd : decode cc pc = .ok (.if_icmp .gt off, 3)) (ht : (pc : Int) + off = (tgt : Int)) (hp : pc + 3 = pc') {a b : Option β} (hf : (if z < y then a else b) = some o) (kt : a = some o → zV x g nL cs sl tgt lo st m) (kf : b = some o → zV x g nL cs sl pc' lo st m) : zV x g nL cs sl pc lo (.int z :: .int y :: st) m := fun H locs ls hP hD hS hl => by
  subst hp
  exact lv_icmp_gt C.1.1 C.1.2.1 hd ht (fun h => kt (by rw [if_pos h] at hf; exact hf) H locs ls hP hD hS hl) (fun h => kf (by rw [if_neg h] at hf; exact hf) H locs ls hP hD hS hl)
theorem z_if_le (C : zC x g cc Ts own nL rm) {y : Int32} {off : Int} {tgt : Nat} (hd : decode cc pc = .ok (.ifCond .le off, 3)) (ht : (pc : Int) + off = (tgt : Int)) (hp : pc + 3 = pc') {a b : Option β} (hf : (if y ≤ 0 then a else b) = some o) (kt : a = some o → zV x g nL cs sl tgt lo st m) (kf : b = some o → zV x g nL cs sl pc' lo st m) : zV x g nL cs sl pc lo (.int y :: st) m := fun H locs ls hP hD hS hl => by
  subst hp
  exact lv_if_le C.1.1 C.1.2.1 hd ht (fun h => kt (by rw [if_pos h] at hf; exact hf) H locs ls hP hD hS hl) (fun h => kf (by rw [if_neg h] at hf; exact hf) H locs ls hP hD hS hl)
theorem z_ic_le (C : zC x g cc Ts own nL rm) {y z : Int32} {off : Int} {tgt : Nat} (hd : decode cc pc = .ok (.if_icmp .le off, 3)) (ht : (pc : Int) + off = (tgt : Int)) (hp : pc + 3 = pc') {a b : Option β} (hf : (if y ≤ z then a else b) = some o) (kt : a = some o → zV x g nL cs sl tgt lo st m) (kf : b = some o → zV x g nL cs sl pc' lo st m) : zV x g nL cs sl pc lo (.int z :: .int y :: st) m := fun H locs ls hP hD hS hl => by
  subst hp
  exact lv_icmp_le C.1.1 C.1.2.1 hd ht (fun h => kt (by rw [if_pos h] at hf; exact hf) H locs ls hP hD hS hl) (fun h => kf (by rw [if_neg h] at hf; exact hf) H locs ls hP hD hS hl)
theorem z_idiv (C : zC x g cc Ts own nL rm) {y z : Int32} (hd : decode cc pc = .ok (.idiv, 1)) (hp : pc + 1 = pc') {kk : Int32 → Option β} (hf : kdv y z kk = some o) (k : ∀ v, kk v = some o → zV x g nL cs sl pc' lo (.int v :: st) m) : zV x g nL cs sl pc lo (.int z :: .int y :: st) m := fun H locs ls hP hD hS hl => by
  subst hp
  unfold kdv at hf
  by_cases hz : z = 0
  · rw [if_pos hz] at hf; cases hf
  · rw [if_neg hz] at hf
    exact lv_idiv C.1.1 C.1.2.1 hd hz (k _ hf H locs ls hP hD hS hl)
theorem z_irem (C : zC x g cc Ts own nL rm) {y z : Int32} (hd : decode cc pc = .ok (.irem, 1)) (hp : pc + 1 = pc') {kk : Int32 → Option β} (hf : krm y z kk = some o) (k : ∀ v, kk v = some o → zV x g nL cs sl pc' lo (.int v :: st) m) : zV x g nL cs sl pc lo (.int z :: .int y :: st) m := fun H locs ls hP hD hS hl => by
  subst hp
  unfold krm at hf
  by_cases hz : z = 0
  · rw [if_pos hz] at hf; cases hf
  · rw [if_neg hz] at hf
    exact lv_irem C.1.1 C.1.2.1 hd hz (k _ hf H locs ls hP hD hS hl)
/-- a computed number on the stack's top gets a name -/
theorem z_top (y : Int32) {kk : Int32 → Option β} (hf : klt y kk = some o) (k : ∀ v, kk v = some o → zV x g nL cs sl pc lo (.int v :: st) m) : zV x g nL cs sl pc lo (.int y :: st) m := k y hf
theorem z_topl (y : Int64) {kk : Int64 → Option β} (hf : klt y kk = some o) (k : ∀ v, kk v = some o → zV x g nL cs sl pc lo (.long v :: st) m) : zV x g nL cs sl pc lo (.long y :: st) m := k y hf
theorem z_iaload (C : zC x g cc Ts own nL rm) {a n : Nat} {i : Int32} (ha : a < zn g) (hs : zsh g a = .inl n) (hd : decode cc pc = .ok (.iaload, 1)) (hp : pc + 1 = pc') {kk : Int32 → Option β} (hf : kld m a n i kk = some o) (k : ∀ v, kk v = some o → zV x g nL cs sl pc' lo (.int v :: st) m) : zV x g nL cs sl pc lo (.int i :: .ref (zad g a) :: st) m := fun H locs ls hP hD hS hl => by
  subst hp
  unfold kld at hf
  by_cases hz : i < 0 ∨ n ≤ i.toNatClampNeg
  · rw [if_pos hz] at hf; cases hf
  · rw [if_neg hz] at hf
    have hg := zwd_get g m ha
    rw [hs] at hg
    exact va_iald C.1.1 C.1.2.1 C.2.1 hP a 0 hg rfl hz hd (k _ hf H locs ls hP hD hS hl)
theorem z_iastore (C : zC x g cc Ts own nL rm) {a n : Nat} {i y : Int32} (ha : a < zn g) (hs : zsh g a = .inl n) (hd : decode cc pc = .ok (.iastore, 1)) (hp : pc + 1 = pc') {kk : zMem → Option β} (hf : kst m a n i y kk = some o) (k : ∀ m1, kk m1 = some o → zV x g nL cs sl pc' lo st m1) : zV x g nL cs sl pc lo (.int y :: .int i :: .ref (zad g a) :: st) m := fun H locs ls hP hD hS hl => by
  subst hp
  unfold kst at hf
  by_cases hz : i < 0 ∨ n ≤ i.toNatClampNeg
  · rw [if_pos hz] at hf; cases hf
  · rw [if_neg hz] at hf
    have hg := zwd_get g m ha
    rw [hs] at hg
    refine va_iast C.1.1 C.1.2.1 C.2.1 hP hD hS a 0 hg rfl hz hd (fun H1 locs1 hP1 hD1 hS1 => ?_)
    rw [zwd_sI g m _ _ ha hs] at hP1 hD1
    exact k _ hf H1 locs1 ls hP1 hD1 hS1 hl
/-- a field's words: its class is in the picture's list at ci, its place there is k -/
def zFl (Ts : List Cond) (own : String) (cl : List vw_C) (idx ci k : Nat) : Prop := ∃ (Cn : String) (T : u_T) (N : Nat), cl[ci]? = some (Cn, T, N) ∧ (∀ w ∈ u_ws Cn T N, w ∈ Ts) ∧ k < N ∧ Cond.fieldLink own idx (T k).1 (T k).2.1 (T k).2.2.1 ∈ Ts
def zFp (Ts : List Cond) (own : String) (cl : List vw_C) (idx ci k : Nat) (ty : FieldType) : Prop := ∃ (Cn : String) (T : u_T) (N : Nat) (t0 : Nat → FieldType), cl[ci]? = some (Cn, T, N) ∧ (∀ w ∈ u_ws Cn T N, w ∈ Ts) ∧ k < N ∧ Cond.fieldLink own idx (T k).1 (T k).2.1 (T k).2.2.1 ∈ Ts ∧ (∀ k, k < N → parseFieldDescriptor (T k).2.2.1 = some (t0 k)) ∧ (∀ a, a < N → ∀ b, b < N → a ≠ b → (T a).2.1 ≠ (T b).2.1) ∧ (T k).2.2.2 = false ∧ parseFieldDescriptor (T k).2.2.1 = some ty
theorem z_fget (C : zC x g cc Ts own nL rm) {a idx ci j : Nat} {ds : List (Nat × Nat)} {e : Nat × Nat} (hF : zFl Ts own (zcl g) idx ci j) (ha : a < zn g) (hs : zsh g a = .inr (ci, ds)) (he : ds[j]? = some e) (hd : decode cc pc = .ok (.getfield idx, 3)) (k : zV x g nL cs sl (pc + 3) lo (zfv (zad g) m a j e :: st) m) : zV x g nL cs sl pc lo (.ref (zad g a) :: st) m := fun H locs ls hP hD hS hl => by
  obtain ⟨Cn, T, N, h1, h2, h3, h4⟩ := hF
  have hg := zwd_get g m ha
  rw [hs] at hg
  exact va_get C.1.1 C.1.2.1 C.1.2.2.2.2 h2 C.1.2.2.2.1 C.2.1 hP a hg h1 j h3 (C.1.2.2.2.2 _ h4) (fun _ h => h) (by rw [List.getElem?_mapIdx, he]; rfl) hd (k H locs ls hP hD hS hl)
theorem z_gi (C : zC x g cc Ts own nL rm) {a idx ci j d2 : Nat} {ds : List (Nat × Nat)} (hF : zFl Ts own (zcl g) idx ci j) (ha : a < zn g) (hs : zsh g a = .inr (ci, ds)) (he : ds[j]? = some (0, d2)) (hd : decode cc pc = .ok (.getfield idx, 3)) (hp : pc + 3 = pc') {kk : Int32 → Option β} (hf : kgi m a j kk = some o) (k : ∀ v, kk v = some o → zV x g nL cs sl pc' lo (.int v :: st) m) : zV x g nL cs sl pc lo (.ref (zad g a) :: st) m := by
  subst hp
  exact z_fget C hF ha hs he hd (k _ hf)
theorem z_gl (C : zC x g cc Ts own nL rm) {a idx ci j d2 : Nat} {ds : List (Nat × Nat)} (hF : zFl Ts own (zcl g) idx ci j) (ha : a < zn g) (hs : zsh g a = .inr (ci, ds)) (he : ds[j]? = some (3, d2)) (hd : decode cc pc = .ok (.getfield idx, 3)) (hp : pc + 3 = pc') {kk : Int64 → Option β} (hf : kgl m a kk = some o) (k : ∀ v, kk v = some o → zV x g nL cs sl pc' lo (.long v :: st) m) : zV x g nL cs sl pc lo (.ref (zad g a) :: st) m := by
  subst hp
  exact z_fget C hF ha hs he hd (k _ hf)
theorem z_gr (C : zC x g cc Ts own nL rm) {a idx ci j d2 : Nat} {ds : List (Nat × Nat)} (hF : zFl Ts own (zcl g) idx ci j) (ha : a < zn g) (hs : zsh g a = .inr (ci, ds)) (he : ds[j]? = some (1, d2)) (hd : decode cc pc = .ok (.getfield idx, 3)) (hp : pc + 3 = pc') (k : zV x g nL cs sl pc' lo (.ref (zad g d2) :: st) m) : zV x g nL cs sl pc lo (.ref (zad g a) :: st) m := by
  subst hp
  exact z_fget C hF ha hs he hd k
theorem z_gv (C : zC x g cc Ts own nL rm) {a idx ci j v : Nat} {ds : List (Nat × Nat)} (hF : zFl Ts own (zcl g) idx ci j) (ha : a < zn g) (hs : zsh g a = .inr (ci, ds)) (he : ds[j]? = some (2, v)) (hd : decode cc pc = .ok (.getfield idx, 3)) (hp : pc + 3 = pc') {kk : Nat → Option β} (hf : kgr m v kk = some o) (k : ∀ r, kk r = some o → zV x g nL cs sl pc' lo (.ref (zad g r) :: st) m) : zV x g nL cs sl pc lo (.ref (zad g a) :: st) m := by
  subst hp
  exact z_fget C hF ha hs he hd (k _ hf)
theorem z_fput (C : zC x g cc Ts own nL rm) {a idx ci j : Nat} {ds : List (Nat × Nat)} {ty : FieldType} {v : Value} {m1 : zMem} (hF : zFp Ts own (zcl g) idx ci j ty) (ha : a < zn g) (hs : zsh g a = .inr (ci, ds)) (hj : j < ds.length) (hn : narrow ty v = v) (hfit : fits ty v = true) (hw : (zwd g m).set a (zad g a, .inr (ci, (ds.mapIdx (fun k e => zfv (zad g) m a k e)).set j v)) = zwd g m1) (hd : decode cc pc = .ok (.putfield idx, 3)) (k : zV x g nL cs sl (pc + 3) lo st m1) : zV x g nL cs sl pc lo (v :: .ref (zad g a) :: st) m := fun H locs ls hP hD hS hl => by
  obtain ⟨Cn, T, N, t0, h1, h2, h3, h4, h5, h6, h7, h8⟩ := hF
  have hg := zwd_get g m ha
  rw [hs] at hg
  refine va_put C.1.1 C.1.2.1 C.1.2.2.2.2 h2 t0 h5 h6 C.1.2.2.2.1 C.2.1 hP hD hS a hg h1 j h3 (C.1.2.2.2.2 _ h4) (fun _ h => h) h7 h8 hn hfit (by simpa using hj) hd (fun H1 locs1 hP1 hD1 hS1 => ?_)
  rw [hw] at hP1 hD1
  exact k H1 locs1 ls hP1 hD1 hS1 hl
theorem z_pi (C : zC x g cc Ts own nL rm) {a idx ci j d2 : Nat} {ds : List (Nat × Nat)} {y : Int32} (hF : zFp Ts own (zcl g) idx ci j .int) (ha : a < zn g) (hs : zsh g a = .inr (ci, ds)) (he : ds[j]? = some (0, d2)) (hd : decode cc pc = .ok (.putfield idx, 3)) (hp : pc + 3 = pc') {kk : zMem → Option β} (hf : kpi m a j y kk = some o) (k : ∀ m1, kk m1 = some o → zV x g nL cs sl pc' lo st m1) : zV x g nL cs sl pc lo (.int y :: .ref (zad g a) :: st) m := by
  subst hp
  exact z_fput C hF ha hs (List.getElem?_eq_some_iff.mp he).1 rfl rfl (zwd_pI g m y ha hs he) hd (k _ hf)
theorem z_bit {y : Int32} (h : y = 0 ∨ y = 1) : narrow .boolean (.int y) = .int y ∧ fits .boolean (.int y) = true := by
  rcases h with rfl | rfl
  · exact ⟨rfl, rfl⟩
  · exact ⟨rfl, rfl⟩
theorem z_pz (C : zC x g cc Ts own nL rm) {a idx ci j d2 : Nat} {ds : List (Nat × Nat)} {y : Int32} (hF : zFp Ts own (zcl g) idx ci j .boolean) (ha : a < zn g) (hs : zsh g a = .inr (ci, ds)) (he : ds[j]? = some (0, d2)) (hd : decode cc pc = .ok (.putfield idx, 3)) (hp : pc + 3 = pc') {kk : zMem → Option β} (hf : kpz m a j y kk = some o) (k : ∀ m1, kk m1 = some o → zV x g nL cs sl pc' lo st m1) : zV x g nL cs sl pc lo (.int y :: .ref (zad g a) :: st) m := by
  subst hp
  unfold kpz at hf
  by_cases hz : y = 0 ∨ y = 1
  · rw [if_pos hz] at hf
    exact z_fput C hF ha hs (List.getElem?_eq_some_iff.mp he).1 (z_bit hz).1 (z_bit hz).2 (zwd_pI g m y ha hs he) hd (k _ hf)
  · rw [if_neg hz] at hf; cases hf
theorem z_pl (C : zC x g cc Ts own nL rm) {a idx ci j d2 : Nat} {ds : List (Nat × Nat)} {y : Int64} (hF : zFp Ts own (zcl g) idx ci j .long) (ha : a < zn g) (hs : zsh g a = .inr (ci, ds)) (he : ds[j]? = some (3, d2)) (hu : ∀ i e, ds[i]? = some e → e.1 ≠ 0 → e.1 ≠ 1 → e.1 ≠ 2 → i = j) (hd : decode cc pc = .ok (.putfield idx, 3)) (hp : pc + 3 = pc') {kk : zMem → Option β} (hf : kpl m a y kk = some o) (k : ∀ m1, kk m1 = some o → zV x g nL cs sl pc' lo st m1) : zV x g nL cs sl pc lo (.long y :: .ref (zad g a) :: st) m := by
  subst hp
  exact z_fput C hF ha hs (List.getElem?_eq_some_iff.mp he).1 rfl rfl (zwd_pL g m (t := 0) y ha hs he hu) hd (k _ hf)
theorem z_pv (C : zC x g cc Ts own nL rm) {a idx ci j v r : Nat} {ds : List (Nat × Nat)} {cn : String} (hF : zFp Ts own (zcl g) idx ci j (.object cn)) (ha : a < zn g) (hs : zsh g a = .inr (ci, ds)) (he : ds[j]? = some (2, v)) (hu : ∀ b cb db i, zsh g b = .inr (cb, db) → db[i]? = some (2, v) → b = a ∧ i = j) (hd : decode cc pc = .ok (.putfield idx, 3)) (hp : pc + 3 = pc') {kk : zMem → Option β} (hf : kpr m v r kk = some o) (k : ∀ m1, kk m1 = some o → zV x g nL cs sl pc' lo st m1) : zV x g nL cs sl pc lo (.ref (zad g r) :: .ref (zad g a) :: st) m := by
  subst hp
  exact z_fput C hF ha hs (List.getElem?_eq_some_iff.mp he).1 rfl rfl (zwd_pR g m r ha hs he hu) hd (k _ hf)
theorem zD_ad {A : Nat → Prop} (h : va_D A (zwd g m)) : va_D (zAD g) (zwd g m) := ⟨h.1, fun k q hk => by
  obtain ⟨h1, h2⟩ := zwd_ad g m hk
  exact ⟨k, h1, h2⟩⟩
theorem zD_up {A : Nat → Prop} (hA : ∀ i, i < zn g → A (zad g i)) (h : va_D (zAD g) (zwd g m)) : va_D A (zwd g m) := ⟨h.1, fun k q hk => by
  obtain ⟨h1, h2⟩ := zwd_ad g m hk
  rw [h2]
  exact hA k h1⟩
theorem zPP_blind (av : List Value) (m : zMem) : FrameBlind (va_Pc av (zPP g m)) := fun a U g2 mk q => by
  obtain ⟨q0, qP, qK, qD⟩ := q
  exact ⟨q0, qP, va_K.moved (u := U) (U := U.calling g2 mk a) (Vm.Alike.refl U.vm) qK, qD⟩
end ZR
/-! contracts: an int, nothing, a long -/
def zMI (l : Launch) (g : zG) (y : MethodName) (ws : List Cond) (rm : Room) (av : List Value) (m : zMem) (o : Int32 × zMem) : Prop := Met l y ws rm (va_Pc av (zPP g m)) (va_Qi (fun r u => (r, u) = o) (zPP g) (zAD g)) 0 0 (zAD g)
def zMV (l : Launch) (g : zG) (y : MethodName) (ws : List Cond) (rm : Room) (av : List Value) (m : zMem) (o : zMem) : Prop := Met l y ws rm (va_Pc av (zPP g m)) (va_Qv (fun u => u = o) (zPP g) (zAD g)) 0 0 (zAD g)
def zML (l : Launch) (g : zG) (y : MethodName) (ws : List Cond) (rm : Room) (av : List Value) (m : zMem) (o : Int64 × zMem) : Prop := Met l y ws rm (va_Pc av (zPP g m)) (va_Ql (fun r u => (r, u) = o) (zPP g) (zAD g)) 0 0 (zAD g)
section ZK
variable {x : zF} {g : zG} {cc : ByteArray} {Ts : List Cond} {own : String} {nL : Nat} {rm : Room} {cs sl : Nat} {pc pc' : Nat} {lo lo' : List (Option Value)} {st : List Value} {m : zMem} {β γ : Type} {o : β}
variable {y : MethodName} {ws ws' : List Cond} {rmc : Room} {bytes : ByteArray} {maxL n idx : Nat} {ret : Option FieldType} {As : List Value}
theorem z_cvi (C : zC x g cc Ts own nL rm) {fr lc : Nat} {o1 : Int32 × zMem} {Cn : String} {T : u_T} {N ci b : Nat} {ds : List (Nat × Nat)} (hcl : (zcl g)[ci]? = some (Cn, T, N)) (hb : b < zn g) (hsb : zsh g b = .inr (ci, ds)) (hG : GoodIn Ts (wsV own idx Cn y ws)) (hd : y.cls = Cn ∧ y.cls ≠ "java/lang/invoke/MethodHandle" ∧ y.cls ≠ "java/lang/invoke/VarHandle" ∧ (parseMethodDescriptor y.desc).map (fun d => d.parameters.length) = some n) (hw : ws = Cond.code y bytes maxL ret :: ws') (hM : zMI x.2.1 g y ws { frames := fr, cells := 0, slots := 0, locals := lc } (.ref (zad g b) :: As) m o1) (hn : As.length = n) (h8 : (st.map fun v => v.category).sum ≤ 8) (hR : fr + 1 ≤ rm.frames ∧ 8 + (maxL + 11) + lc ≤ rm.locals) (hcs : cs + 0 ≤ rm.cells ∧ sl + 0 ≤ rm.slots) (hdg : decode cc pc = .ok (.invokevirtual idx, 3)) (hp : pc + 3 = pc') {stk : List Value} (hst : stk = As.reverse ++ .ref (zad g b) :: st) (k : zV x g nL cs sl pc' lo (.int o1.1 :: st) o1.2) : zV x g nL cs sl pc lo stk m := fun H locs ls hP hD hS hl => by
  subst hp
  have hg := zwd_get g m hb
  rw [hsb] at hg
  refine va_calli (va_runV (As := As) (rest := st) C.1 hM (cwV n C.1.2.2.2.2 hG hw rfl rfl hd ⟨by rw [C.2.2.2]; exact hR.1, by rw [C.2.2.2]; exact hR.2⟩) ⟨zPP_blind _ _, va_recv C.2.1 hP hcl hg, fun U hU hW => ⟨rfl, by rw [hU]; exact hP, va_K.moved hW.alike C.2.1, zD_ad hD⟩⟩ rfl hn hl.1 hst (lv_room h8) hdg ⟨by rw [C.2.2.2]; exact hcs.1, by rw [C.2.2.2]; exact hcs.2⟩) hS (fun q _ h => by obtain ⟨i, h1, h2⟩ := h; rw [h2]; exact C.2.2.1 i h1) (fun q h => by obtain ⟨i, h1, h2⟩ := h; rw [h2]; exact C.2.2.1 i h1) (fun r u t H1 locs1 ht hvm hq hB hz1 hk1 hS1 => ?_)
  cases hq
  obtain ⟨hP1, hK1, hD1⟩ := hB
  rw [ht] at hP1
  exact k H1 locs1 ls hP1 (zD_up C.2.2.1 hD1) hS1 hl
theorem z_cvv (C : zC x g cc Ts own nL rm) {fr lc : Nat} {o1 : zMem} {Cn : String} {T : u_T} {N ci b : Nat} {ds : List (Nat × Nat)} (hcl : (zcl g)[ci]? = some (Cn, T, N)) (hb : b < zn g) (hsb : zsh g b = .inr (ci, ds)) (hG : GoodIn Ts (wsV own idx Cn y ws)) (hd : y.cls = Cn ∧ y.cls ≠ "java/lang/invoke/MethodHandle" ∧ y.cls ≠ "java/lang/invoke/VarHandle" ∧ (parseMethodDescriptor y.desc).map (fun d => d.parameters.length) = some n) (hw : ws = Cond.code y bytes maxL ret :: ws') (hM : zMV x.2.1 g y ws { frames := fr, cells := 0, slots := 0, locals := lc } (.ref (zad g b) :: As) m o1) (hn : As.length = n) (h8 : (st.map fun v => v.category).sum ≤ 8) (hR : fr + 1 ≤ rm.frames ∧ 8 + (maxL + 11) + lc ≤ rm.locals) (hcs : cs + 0 ≤ rm.cells ∧ sl + 0 ≤ rm.slots) (hdg : decode cc pc = .ok (.invokevirtual idx, 3)) (hp : pc + 3 = pc') {stk : List Value} (hst : stk = As.reverse ++ .ref (zad g b) :: st) (k : zV x g nL cs sl pc' lo (st) o1) : zV x g nL cs sl pc lo stk m := fun H locs ls hP hD hS hl => by
  subst hp
  have hg := zwd_get g m hb
  rw [hsb] at hg
  refine va_callv (va_runV (As := As) (rest := st) C.1 hM (cwV n C.1.2.2.2.2 hG hw rfl rfl hd ⟨by rw [C.2.2.2]; exact hR.1, by rw [C.2.2.2]; exact hR.2⟩) ⟨zPP_blind _ _, va_recv C.2.1 hP hcl hg, fun U hU hW => ⟨rfl, by rw [hU]; exact hP, va_K.moved hW.alike C.2.1, zD_ad hD⟩⟩ rfl hn hl.1 hst (lv_room h8) hdg ⟨by rw [C.2.2.2]; exact hcs.1, by rw [C.2.2.2]; exact hcs.2⟩) hS (fun q _ h => by obtain ⟨i, h1, h2⟩ := h; rw [h2]; exact C.2.2.1 i h1) (fun q h => by obtain ⟨i, h1, h2⟩ := h; rw [h2]; exact C.2.2.1 i h1) (fun u t H1 locs1 ht hvm hq hB hz1 hk1 hS1 => ?_)
  cases hq
  obtain ⟨hP1, hK1, hD1⟩ := hB
  rw [ht] at hP1
  exact k H1 locs1 ls hP1 (zD_up C.2.2.1 hD1) hS1 hl
theorem z_cvl (C : zC x g cc Ts own nL rm) {fr lc : Nat} {o1 : Int64 × zMem} {Cn : String} {T : u_T} {N ci b : Nat} {ds : List (Nat × Nat)} (hcl : (zcl g)[ci]? = some (Cn, T, N)) (hb : b < zn g) (hsb : zsh g b = .inr (ci, ds)) (hG : GoodIn Ts (wsV own idx Cn y ws)) (hd : y.cls = Cn ∧ y.cls ≠ "java/lang/invoke/MethodHandle" ∧ y.cls ≠ "java/lang/invoke/VarHandle" ∧ (parseMethodDescriptor y.desc).map (fun d => d.parameters.length) = some n) (hw : ws = Cond.code y bytes maxL ret :: ws') (hM : zML x.2.1 g y ws { frames := fr, cells := 0, slots := 0, locals := lc } (.ref (zad g b) :: As) m o1) (hn : As.length = n) (h8 : (st.map fun v => v.category).sum ≤ 8) (hR : fr + 1 ≤ rm.frames ∧ 8 + (maxL + 11) + lc ≤ rm.locals) (hcs : cs + 0 ≤ rm.cells ∧ sl + 0 ≤ rm.slots) (hdg : decode cc pc = .ok (.invokevirtual idx, 3)) (hp : pc + 3 = pc') {stk : List Value} (hst : stk = As.reverse ++ .ref (zad g b) :: st) (k : zV x g nL cs sl pc' lo (.long o1.1 :: st) o1.2) : zV x g nL cs sl pc lo stk m := fun H locs ls hP hD hS hl => by
  subst hp
  have hg := zwd_get g m hb
  rw [hsb] at hg
  refine va_calll (va_runV (As := As) (rest := st) C.1 hM (cwV n C.1.2.2.2.2 hG hw rfl rfl hd ⟨by rw [C.2.2.2]; exact hR.1, by rw [C.2.2.2]; exact hR.2⟩) ⟨zPP_blind _ _, va_recv C.2.1 hP hcl hg, fun U hU hW => ⟨rfl, by rw [hU]; exact hP, va_K.moved hW.alike C.2.1, zD_ad hD⟩⟩ rfl hn hl.1 hst (lv_room h8) hdg ⟨by rw [C.2.2.2]; exact hcs.1, by rw [C.2.2.2]; exact hcs.2⟩) hS (fun q _ h => by obtain ⟨i, h1, h2⟩ := h; rw [h2]; exact C.2.2.1 i h1) (fun q h => by obtain ⟨i, h1, h2⟩ := h; rw [h2]; exact C.2.2.1 i h1) (fun r u t H1 locs1 ht hvm hq hB hz1 hk1 hS1 => ?_)
  cases hq
  obtain ⟨hP1, hK1, hD1⟩ := hB
  rw [ht] at hP1
  exact k H1 locs1 ls hP1 (zD_up C.2.2.1 hD1) hS1 hl
theorem z_csi (C : zC x g cc Ts own nL rm) {fr lc : Nat} {o1 : Int32 × zMem} (hG : GoodIn Ts (va_wsS own idx y ws)) (hd : y.cls ≠ "java/lang/invoke/MethodHandle" ∧ y.cls ≠ "java/lang/invoke/VarHandle" ∧ (parseMethodDescriptor y.desc).map (fun d => d.parameters.length) = some n) (hw : ws = Cond.code y bytes maxL ret :: ws') (hM : zMI x.2.1 g y ws { frames := fr, cells := 0, slots := 0, locals := lc } As m o1) (hn : As.length = n) (h8 : (st.map fun v => v.category).sum ≤ 8) (hR : fr + 1 ≤ rm.frames ∧ 8 + (maxL + 11) + lc ≤ rm.locals) (hcs : cs + 0 ≤ rm.cells ∧ sl + 0 ≤ rm.slots) (hdg : decode cc pc = .ok (.invokestatic idx, 3)) (hp : pc + 3 = pc') {stk : List Value} (hst : stk = As.reverse ++ st) (k : zV x g nL cs sl pc' lo (.int o1.1 :: st) o1.2) : zV x g nL cs sl pc lo stk m := fun H locs ls hP hD hS hl => by
  subst hp
  refine va_calli (va_runS (As := As) (rest := st) C.1 hM (va_cwS n C.1.2.2.2.2 hG hw rfl rfl hd ⟨by rw [C.2.2.2]; exact hR.1, by rw [C.2.2.2]; exact hR.2⟩) ⟨zPP_blind _ _, fun U hU hW => ⟨rfl, by rw [hU]; exact hP, va_K.moved hW.alike C.2.1, zD_ad hD⟩⟩ rfl hn hl.1 hst (lv_room h8) hdg ⟨by rw [C.2.2.2]; exact hcs.1, by rw [C.2.2.2]; exact hcs.2⟩) hS (fun q _ h => by obtain ⟨i, h1, h2⟩ := h; rw [h2]; exact C.2.2.1 i h1) (fun q h => by obtain ⟨i, h1, h2⟩ := h; rw [h2]; exact C.2.2.1 i h1) (fun r u t H1 locs1 ht hvm hq hB hz1 hk1 hS1 => ?_)
  cases hq
  obtain ⟨hP1, hK1, hD1⟩ := hB
  rw [ht] at hP1
  exact k H1 locs1 ls hP1 (zD_up C.2.2.1 hD1) hS1 hl
theorem z_csv (C : zC x g cc Ts own nL rm) {fr lc : Nat} {o1 : zMem} (hG : GoodIn Ts (va_wsS own idx y ws)) (hd : y.cls ≠ "java/lang/invoke/MethodHandle" ∧ y.cls ≠ "java/lang/invoke/VarHandle" ∧ (parseMethodDescriptor y.desc).map (fun d => d.parameters.length) = some n) (hw : ws = Cond.code y bytes maxL ret :: ws') (hM : zMV x.2.1 g y ws { frames := fr, cells := 0, slots := 0, locals := lc } As m o1) (hn : As.length = n) (h8 : (st.map fun v => v.category).sum ≤ 8) (hR : fr + 1 ≤ rm.frames ∧ 8 + (maxL + 11) + lc ≤ rm.locals) (hcs : cs + 0 ≤ rm.cells ∧ sl + 0 ≤ rm.slots) (hdg : decode cc pc = .ok (.invokestatic idx, 3)) (hp : pc + 3 = pc') {stk : List Value} (hst : stk = As.reverse ++ st) (k : zV x g nL cs sl pc' lo (st) o1) : zV x g nL cs sl pc lo stk m := fun H locs ls hP hD hS hl => by
  subst hp
  refine va_callv (va_runS (As := As) (rest := st) C.1 hM (va_cwS n C.1.2.2.2.2 hG hw rfl rfl hd ⟨by rw [C.2.2.2]; exact hR.1, by rw [C.2.2.2]; exact hR.2⟩) ⟨zPP_blind _ _, fun U hU hW => ⟨rfl, by rw [hU]; exact hP, va_K.moved hW.alike C.2.1, zD_ad hD⟩⟩ rfl hn hl.1 hst (lv_room h8) hdg ⟨by rw [C.2.2.2]; exact hcs.1, by rw [C.2.2.2]; exact hcs.2⟩) hS (fun q _ h => by obtain ⟨i, h1, h2⟩ := h; rw [h2]; exact C.2.2.1 i h1) (fun q h => by obtain ⟨i, h1, h2⟩ := h; rw [h2]; exact C.2.2.1 i h1) (fun u t H1 locs1 ht hvm hq hB hz1 hk1 hS1 => ?_)
  cases hq
  obtain ⟨hP1, hK1, hD1⟩ := hB
  rw [ht] at hP1
  exact k H1 locs1 ls hP1 (zD_up C.2.2.1 hD1) hS1 hl
theorem z_csl (C : zC x g cc Ts own nL rm) {fr lc : Nat} {o1 : Int64 × zMem} (hG : GoodIn Ts (va_wsS own idx y ws)) (hd : y.cls ≠ "java/lang/invoke/MethodHandle" ∧ y.cls ≠ "java/lang/invoke/VarHandle" ∧ (parseMethodDescriptor y.desc).map (fun d => d.parameters.length) = some n) (hw : ws = Cond.code y bytes maxL ret :: ws') (hM : zML x.2.1 g y ws { frames := fr, cells := 0, slots := 0, locals := lc } As m o1) (hn : As.length = n) (h8 : (st.map fun v => v.category).sum ≤ 8) (hR : fr + 1 ≤ rm.frames ∧ 8 + (maxL + 11) + lc ≤ rm.locals) (hcs : cs + 0 ≤ rm.cells ∧ sl + 0 ≤ rm.slots) (hdg : decode cc pc = .ok (.invokestatic idx, 3)) (hp : pc + 3 = pc') {stk : List Value} (hst : stk = As.reverse ++ st) (k : zV x g nL cs sl pc' lo (.long o1.1 :: st) o1.2) : zV x g nL cs sl pc lo stk m := fun H locs ls hP hD hS hl => by
  subst hp
  refine va_calll (va_runS (As := As) (rest := st) C.1 hM (va_cwS n C.1.2.2.2.2 hG hw rfl rfl hd ⟨by rw [C.2.2.2]; exact hR.1, by rw [C.2.2.2]; exact hR.2⟩) ⟨zPP_blind _ _, fun U hU hW => ⟨rfl, by rw [hU]; exact hP, va_K.moved hW.alike C.2.1, zD_ad hD⟩⟩ rfl hn hl.1 hst (lv_room h8) hdg ⟨by rw [C.2.2.2]; exact hcs.1, by rw [C.2.2.2]; exact hcs.2⟩) hS (fun q _ h => by obtain ⟨i, h1, h2⟩ := h; rw [h2]; exact C.2.2.1 i h1) (fun q h => by obtain ⟨i, h1, h2⟩ := h; rw [h2]; exact C.2.2.1 i h1) (fun r u t H1 locs1 ht hvm hq hB hz1 hk1 hS1 => ?_)
  cases hq
  obtain ⟨hP1, hK1, hD1⟩ := hB
  rw [ht] at hP1
  exact k H1 locs1 ls hP1 (zD_up C.2.2.1 hD1) hS1 hl
theorem z_cviW (C : zC x g cc Ts own nL rm) {fr lc : Nat} {Cn : String} {T : u_T} {N ci b : Nat} {ds : List (Nat × Nat)} (hcl : (zcl g)[ci]? = some (Cn, T, N)) (hb : b < zn g) (hsb : zsh g b = .inr (ci, ds)) (hG : GoodIn Ts (wsV own idx Cn y ws)) (hd : y.cls = Cn ∧ y.cls ≠ "java/lang/invoke/MethodHandle" ∧ y.cls ≠ "java/lang/invoke/VarHandle" ∧ (parseMethodDescriptor y.desc).map (fun d => d.parameters.length) = some n) (hw : ws = Cond.code y bytes maxL ret :: ws') {fo : Option (Int32 × zMem)} {kk : Int32 → zMem → Option β} (hM : ∀ z, fo = some z → zMI x.2.1 g y ws { frames := fr, cells := 0, slots := 0, locals := lc } (.ref (zad g b) :: As) m z) (hn : As.length = n) (h8 : (st.map fun v => v.category).sum ≤ 8) (hR : fr + 1 ≤ rm.frames ∧ 8 + (maxL + 11) + lc ≤ rm.locals) (hcs : cs + 0 ≤ rm.cells ∧ sl + 0 ≤ rm.slots) (hdg : decode cc pc = .ok (.invokevirtual idx, 3)) (hp : pc + 3 = pc') {stk : List Value} (hst : stk = As.reverse ++ .ref (zad g b) :: st) (hf : kc2 fo kk = some o) (k : ∀ v m1, kk v m1 = some o → zV x g nL cs sl pc' lo (.int v :: st) m1) : zV x g nL cs sl pc lo stk m := kc2_V hf (fun z e hf => z_cvi C hcl hb hsb hG hd hw (hM z e) hn h8 hR hcs hdg hp hst (k z.1 z.2 hf))
theorem z_cviR (C : zC x g cc Ts own nL rm) {fr lc : Nat} {Cn : String} {T : u_T} {N ci b : Nat} {ds : List (Nat × Nat)} (hcl : (zcl g)[ci]? = some (Cn, T, N)) (hb : b < zn g) (hsb : zsh g b = .inr (ci, ds)) (hG : GoodIn Ts (wsV own idx Cn y ws)) (hd : y.cls = Cn ∧ y.cls ≠ "java/lang/invoke/MethodHandle" ∧ y.cls ≠ "java/lang/invoke/VarHandle" ∧ (parseMethodDescriptor y.desc).map (fun d => d.parameters.length) = some n) (hw : ws = Cond.code y bytes maxL ret :: ws') {fo : Option Int32} {kk : Int32 → Option β} (hM : ∀ z, fo = some z → zMI x.2.1 g y ws { frames := fr, cells := 0, slots := 0, locals := lc } (.ref (zad g b) :: As) m (z, m)) (hn : As.length = n) (h8 : (st.map fun v => v.category).sum ≤ 8) (hR : fr + 1 ≤ rm.frames ∧ 8 + (maxL + 11) + lc ≤ rm.locals) (hcs : cs + 0 ≤ rm.cells ∧ sl + 0 ≤ rm.slots) (hdg : decode cc pc = .ok (.invokevirtual idx, 3)) (hp : pc + 3 = pc') {stk : List Value} (hst : stk = As.reverse ++ .ref (zad g b) :: st) (hf : kc1 fo kk = some o) (k : ∀ v, kk v = some o → zV x g nL cs sl pc' lo (.int v :: st) m) : zV x g nL cs sl pc lo stk m := kc1_V hf (fun z e hf => z_cvi C hcl hb hsb hG hd hw (hM z e) hn h8 hR hcs hdg hp hst (k z hf))
theorem z_cvvR (C : zC x g cc Ts own nL rm) {fr lc : Nat} {Cn : String} {T : u_T} {N ci b : Nat} {ds : List (Nat × Nat)} (hcl : (zcl g)[ci]? = some (Cn, T, N)) (hb : b < zn g) (hsb : zsh g b = .inr (ci, ds)) (hG : GoodIn Ts (wsV own idx Cn y ws)) (hd : y.cls = Cn ∧ y.cls ≠ "java/lang/invoke/MethodHandle" ∧ y.cls ≠ "java/lang/invoke/VarHandle" ∧ (parseMethodDescriptor y.desc).map (fun d => d.parameters.length) = some n) (hw : ws = Cond.code y bytes maxL ret :: ws') {fo : Option Unit} {kk : Unit → Option β} (hM : ∀ z, fo = some z → zMV x.2.1 g y ws { frames := fr, cells := 0, slots := 0, locals := lc } (.ref (zad g b) :: As) m m) (hn : As.length = n) (h8 : (st.map fun v => v.category).sum ≤ 8) (hR : fr + 1 ≤ rm.frames ∧ 8 + (maxL + 11) + lc ≤ rm.locals) (hcs : cs + 0 ≤ rm.cells ∧ sl + 0 ≤ rm.slots) (hdg : decode cc pc = .ok (.invokevirtual idx, 3)) (hp : pc + 3 = pc') {stk : List Value} (hst : stk = As.reverse ++ .ref (zad g b) :: st) (hf : kc1 fo kk = some o) (k : ∀ u, kk u = some o → zV x g nL cs sl pc' lo st m) : zV x g nL cs sl pc lo stk m := kc1_V hf (fun z e hf => z_cvv C hcl hb hsb hG hd hw (hM z e) hn h8 hR hcs hdg hp hst (k z hf))
theorem z_cvvW (C : zC x g cc Ts own nL rm) {fr lc : Nat} {Cn : String} {T : u_T} {N ci b : Nat} {ds : List (Nat × Nat)} (hcl : (zcl g)[ci]? = some (Cn, T, N)) (hb : b < zn g) (hsb : zsh g b = .inr (ci, ds)) (hG : GoodIn Ts (wsV own idx Cn y ws)) (hd : y.cls = Cn ∧ y.cls ≠ "java/lang/invoke/MethodHandle" ∧ y.cls ≠ "java/lang/invoke/VarHandle" ∧ (parseMethodDescriptor y.desc).map (fun d => d.parameters.length) = some n) (hw : ws = Cond.code y bytes maxL ret :: ws') {fo : Option zMem} {kk : zMem → Option β} (hM : ∀ z, fo = some z → zMV x.2.1 g y ws { frames := fr, cells := 0, slots := 0, locals := lc } (.ref (zad g b) :: As) m z) (hn : As.length = n) (h8 : (st.map fun v => v.category).sum ≤ 8) (hR : fr + 1 ≤ rm.frames ∧ 8 + (maxL + 11) + lc ≤ rm.locals) (hcs : cs + 0 ≤ rm.cells ∧ sl + 0 ≤ rm.slots) (hdg : decode cc pc = .ok (.invokevirtual idx, 3)) (hp : pc + 3 = pc') {stk : List Value} (hst : stk = As.reverse ++ .ref (zad g b) :: st) (hf : kc1 fo kk = some o) (k : ∀ m1, kk m1 = some o → zV x g nL cs sl pc' lo st m1) : zV x g nL cs sl pc lo stk m := kc1_V hf (fun z e hf => z_cvv C hcl hb hsb hG hd hw (hM z e) hn h8 hR hcs hdg hp hst (k z hf))
theorem z_cvlW (C : zC x g cc Ts own nL rm) {fr lc : Nat} {Cn : String} {T : u_T} {N ci b : Nat} {ds : List (Nat × Nat)} (hcl : (zcl g)[ci]? = some (Cn, T, N)) (hb : b < zn g) (hsb : zsh g b = .inr (ci, ds)) (hG : GoodIn Ts (wsV own idx Cn y ws)) (hd : y.cls = Cn ∧ y.cls ≠ "java/lang/invoke/MethodHandle" ∧ y.cls ≠ "java/lang/invoke/VarHandle" ∧ (parseMethodDescriptor y.desc).map (fun d => d.parameters.length) = some n) (hw : ws = Cond.code y bytes maxL ret :: ws') {fo : Option (Int64 × zMem)} {kk : Int64 → zMem → Option β} (hM : ∀ z, fo = some z → zML x.2.1 g y ws { frames := fr, cells := 0, slots := 0, locals := lc } (.ref (zad g b) :: As) m z) (hn : As.length = n) (h8 : (st.map fun v => v.category).sum ≤ 8) (hR : fr + 1 ≤ rm.frames ∧ 8 + (maxL + 11) + lc ≤ rm.locals) (hcs : cs + 0 ≤ rm.cells ∧ sl + 0 ≤ rm.slots) (hdg : decode cc pc = .ok (.invokevirtual idx, 3)) (hp : pc + 3 = pc') {stk : List Value} (hst : stk = As.reverse ++ .ref (zad g b) :: st) (hf : kc2 fo kk = some o) (k : ∀ v m1, kk v m1 = some o → zV x g nL cs sl pc' lo (.long v :: st) m1) : zV x g nL cs sl pc lo stk m := kc2_V hf (fun z e hf => z_cvl C hcl hb hsb hG hd hw (hM z e) hn h8 hR hcs hdg hp hst (k z.1 z.2 hf))
theorem z_cvlR (C : zC x g cc Ts own nL rm) {fr lc : Nat} {Cn : String} {T : u_T} {N ci b : Nat} {ds : List (Nat × Nat)} (hcl : (zcl g)[ci]? = some (Cn, T, N)) (hb : b < zn g) (hsb : zsh g b = .inr (ci, ds)) (hG : GoodIn Ts (wsV own idx Cn y ws)) (hd : y.cls = Cn ∧ y.cls ≠ "java/lang/invoke/MethodHandle" ∧ y.cls ≠ "java/lang/invoke/VarHandle" ∧ (parseMethodDescriptor y.desc).map (fun d => d.parameters.length) = some n) (hw : ws = Cond.code y bytes maxL ret :: ws') {fo : Option Int64} {kk : Int64 → Option β} (hM : ∀ z, fo = some z → zML x.2.1 g y ws { frames := fr, cells := 0, slots := 0, locals := lc } (.ref (zad g b) :: As) m (z, m)) (hn : As.length = n) (h8 : (st.map fun v => v.category).sum ≤ 8) (hR : fr + 1 ≤ rm.frames ∧ 8 + (maxL + 11) + lc ≤ rm.locals) (hcs : cs + 0 ≤ rm.cells ∧ sl + 0 ≤ rm.slots) (hdg : decode cc pc = .ok (.invokevirtual idx, 3)) (hp : pc + 3 = pc') {stk : List Value} (hst : stk = As.reverse ++ .ref (zad g b) :: st) (hf : kc1 fo kk = some o) (k : ∀ v, kk v = some o → zV x g nL cs sl pc' lo (.long v :: st) m) : zV x g nL cs sl pc lo stk m := kc1_V hf (fun z e hf => z_cvl C hcl hb hsb hG hd hw (hM z e) hn h8 hR hcs hdg hp hst (k z hf))
theorem z_csiW (C : zC x g cc Ts own nL rm) {fr lc : Nat} (hG : GoodIn Ts (va_wsS own idx y ws)) (hd : y.cls ≠ "java/lang/invoke/MethodHandle" ∧ y.cls ≠ "java/lang/invoke/VarHandle" ∧ (parseMethodDescriptor y.desc).map (fun d => d.parameters.length) = some n) (hw : ws = Cond.code y bytes maxL ret :: ws') {fo : Option (Int32 × zMem)} {kk : Int32 → zMem → Option β} (hM : ∀ z, fo = some z → zMI x.2.1 g y ws { frames := fr, cells := 0, slots := 0, locals := lc } As m z) (hn : As.length = n) (h8 : (st.map fun v => v.category).sum ≤ 8) (hR : fr + 1 ≤ rm.frames ∧ 8 + (maxL + 11) + lc ≤ rm.locals) (hcs : cs + 0 ≤ rm.cells ∧ sl + 0 ≤ rm.slots) (hdg : decode cc pc = .ok (.invokestatic idx, 3)) (hp : pc + 3 = pc') {stk : List Value} (hst : stk = As.reverse ++ st) (hf : kc2 fo kk = some o) (k : ∀ v m1, kk v m1 = some o → zV x g nL cs sl pc' lo (.int v :: st) m1) : zV x g nL cs sl pc lo stk m := kc2_V hf (fun z e hf => z_csi C hG hd hw (hM z e) hn h8 hR hcs hdg hp hst (k z.1 z.2 hf))
theorem z_csiR (C : zC x g cc Ts own nL rm) {fr lc : Nat} (hG : GoodIn Ts (va_wsS own idx y ws)) (hd : y.cls ≠ "java/lang/invoke/MethodHandle" ∧ y.cls ≠ "java/lang/invoke/VarHandle" ∧ (parseMethodDescriptor y.desc).map (fun d => d.parameters.length) = some n) (hw : ws = Cond.code y bytes maxL ret :: ws') {fo : Option Int32} {kk : Int32 → Option β} (hM : ∀ z, fo = some z → zMI x.2.1 g y ws { frames := fr, cells := 0, slots := 0, locals := lc } As m (z, m)) (hn : As.length = n) (h8 : (st.map fun v => v.category).sum ≤ 8) (hR : fr + 1 ≤ rm.frames ∧ 8 + (maxL + 11) + lc ≤ rm.locals) (hcs : cs + 0 ≤ rm.cells ∧ sl + 0 ≤ rm.slots) (hdg : decode cc pc = .ok (.invokestatic idx, 3)) (hp : pc + 3 = pc') {stk : List Value} (hst : stk = As.reverse ++ st) (hf : kc1 fo kk = some o) (k : ∀ v, kk v = some o → zV x g nL cs sl pc' lo (.int v :: st) m) : zV x g nL cs sl pc lo stk m := kc1_V hf (fun z e hf => z_csi C hG hd hw (hM z e) hn h8 hR hcs hdg hp hst (k z hf))
theorem z_csvR (C : zC x g cc Ts own nL rm) {fr lc : Nat} (hG : GoodIn Ts (va_wsS own idx y ws)) (hd : y.cls ≠ "java/lang/invoke/MethodHandle" ∧ y.cls ≠ "java/lang/invoke/VarHandle" ∧ (parseMethodDescriptor y.desc).map (fun d => d.parameters.length) = some n) (hw : ws = Cond.code y bytes maxL ret :: ws') {fo : Option Unit} {kk : Unit → Option β} (hM : ∀ z, fo = some z → zMV x.2.1 g y ws { frames := fr, cells := 0, slots := 0, locals := lc } As m m) (hn : As.length = n) (h8 : (st.map fun v => v.category).sum ≤ 8) (hR : fr + 1 ≤ rm.frames ∧ 8 + (maxL + 11) + lc ≤ rm.locals) (hcs : cs + 0 ≤ rm.cells ∧ sl + 0 ≤ rm.slots) (hdg : decode cc pc = .ok (.invokestatic idx, 3)) (hp : pc + 3 = pc') {stk : List Value} (hst : stk = As.reverse ++ st) (hf : kc1 fo kk = some o) (k : ∀ u, kk u = some o → zV x g nL cs sl pc' lo st m) : zV x g nL cs sl pc lo stk m := kc1_V hf (fun z e hf => z_csv C hG hd hw (hM z e) hn h8 hR hcs hdg hp hst (k z hf))
theorem z_csvW (C : zC x g cc Ts own nL rm) {fr lc : Nat} (hG : GoodIn Ts (va_wsS own idx y ws)) (hd : y.cls ≠ "java/lang/invoke/MethodHandle" ∧ y.cls ≠ "java/lang/invoke/VarHandle" ∧ (parseMethodDescriptor y.desc).map (fun d => d.parameters.length) = some n) (hw : ws = Cond.code y bytes maxL ret :: ws') {fo : Option zMem} {kk : zMem → Option β} (hM : ∀ z, fo = some z → zMV x.2.1 g y ws { frames := fr, cells := 0, slots := 0, locals := lc } As m z) (hn : As.length = n) (h8 : (st.map fun v => v.category).sum ≤ 8) (hR : fr + 1 ≤ rm.frames ∧ 8 + (maxL + 11) + lc ≤ rm.locals) (hcs : cs + 0 ≤ rm.cells ∧ sl + 0 ≤ rm.slots) (hdg : decode cc pc = .ok (.invokestatic idx, 3)) (hp : pc + 3 = pc') {stk : List Value} (hst : stk = As.reverse ++ st) (hf : kc1 fo kk = some o) (k : ∀ m1, kk m1 = some o → zV x g nL cs sl pc' lo st m1) : zV x g nL cs sl pc lo stk m := kc1_V hf (fun z e hf => z_csv C hG hd hw (hM z e) hn h8 hR hcs hdg hp hst (k z hf))
theorem z_cslW (C : zC x g cc Ts own nL rm) {fr lc : Nat} (hG : GoodIn Ts (va_wsS own idx y ws)) (hd : y.cls ≠ "java/lang/invoke/MethodHandle" ∧ y.cls ≠ "java/lang/invoke/VarHandle" ∧ (parseMethodDescriptor y.desc).map (fun d => d.parameters.length) = some n) (hw : ws = Cond.code y bytes maxL ret :: ws') {fo : Option (Int64 × zMem)} {kk : Int64 → zMem → Option β} (hM : ∀ z, fo = some z → zML x.2.1 g y ws { frames := fr, cells := 0, slots := 0, locals := lc } As m z) (hn : As.length = n) (h8 : (st.map fun v => v.category).sum ≤ 8) (hR : fr + 1 ≤ rm.frames ∧ 8 + (maxL + 11) + lc ≤ rm.locals) (hcs : cs + 0 ≤ rm.cells ∧ sl + 0 ≤ rm.slots) (hdg : decode cc pc = .ok (.invokestatic idx, 3)) (hp : pc + 3 = pc') {stk : List Value} (hst : stk = As.reverse ++ st) (hf : kc2 fo kk = some o) (k : ∀ v m1, kk v m1 = some o → zV x g nL cs sl pc' lo (.long v :: st) m1) : zV x g nL cs sl pc lo stk m := kc2_V hf (fun z e hf => z_csl C hG hd hw (hM z e) hn h8 hR hcs hdg hp hst (k z.1 z.2 hf))
theorem z_cslR (C : zC x g cc Ts own nL rm) {fr lc : Nat} (hG : GoodIn Ts (va_wsS own idx y ws)) (hd : y.cls ≠ "java/lang/invoke/MethodHandle" ∧ y.cls ≠ "java/lang/invoke/VarHandle" ∧ (parseMethodDescriptor y.desc).map (fun d => d.parameters.length) = some n) (hw : ws = Cond.code y bytes maxL ret :: ws') {fo : Option Int64} {kk : Int64 → Option β} (hM : ∀ z, fo = some z → zML x.2.1 g y ws { frames := fr, cells := 0, slots := 0, locals := lc } As m (z, m)) (hn : As.length = n) (h8 : (st.map fun v => v.category).sum ≤ 8) (hR : fr + 1 ≤ rm.frames ∧ 8 + (maxL + 11) + lc ≤ rm.locals) (hcs : cs + 0 ≤ rm.cells ∧ sl + 0 ≤ rm.slots) (hdg : decode cc pc = .ok (.invokestatic idx, 3)) (hp : pc + 3 = pc') {stk : List Value} (hst : stk = As.reverse ++ st) (hf : kc1 fo kk = some o) (k : ∀ v, kk v = some o → zV x g nL cs sl pc' lo (.long v :: st) m) : zV x g nL cs sl pc lo stk m := kc1_V hf (fun z e hf => z_csl C hG hd hw (hM z e) hn h8 hR hcs hdg hp hst (k z hf))
theorem z_mmin (C : zC x g cc Ts own nL rm) {u v : Int32} (hw1 : Cond.methodLink own idx Lib.Math.min.name ∈ Ts) (hw2 : Cond.static Lib.Math.min.name ∈ Ts) (hw3 : Cond.initialized "java/lang/Math" ∈ Ts) (hw4 : Cond.code Lib.Math.min.name Lib.Math.min.code 2 (some .int) ∈ Ts) (hR : 1 ≤ rm.frames ∧ (st.map fun v => v.category).sum + 13 ≤ rm.locals) (hcs : cs ≤ rm.cells ∧ sl ≤ rm.slots) (hd : decode cc pc = .ok (.invokestatic idx, 3)) (hp : pc + 3 = pc') {kk : Int32 → Option β} (hf : kmin u v kk = some o) (k : ∀ r, kk r = some o → zV x g nL cs sl pc' lo (.int r :: st) m) : zV x g nL cs sl pc lo (.int v :: .int u :: st) m := fun H locs ls hP hD hS hl => by
  subst hp
  exact va_mmin C.1.1 C.1.2.1 (C.1.2.2.1.trans hl.1.symm) C.1.2.2.2.1 (C.1.2.2.2.2 _ hw1) (C.1.2.2.2.2 _ hw2) (C.1.2.2.2.2 _ hw3) (C.1.2.2.2.2 _ hw4) (by rw [C.2.2.2]; exact hR.1) (by rw [C.2.2.2]; exact hR.2) (by rw [C.2.2.2]; exact hcs.1) (by rw [C.2.2.2]; exact hcs.2) hd (k _ hf H locs ls hP hD hS hl)
theorem z_mmax (C : zC x g cc Ts own nL rm) {u v : Int32} (hw1 : Cond.methodLink own idx Lib.Math.max.name ∈ Ts) (hw2 : Cond.static Lib.Math.max.name ∈ Ts) (hw3 : Cond.initialized "java/lang/Math" ∈ Ts) (hw4 : Cond.code Lib.Math.max.name Lib.Math.max.code 2 (some .int) ∈ Ts) (hR : 1 ≤ rm.frames ∧ (st.map fun v => v.category).sum + 13 ≤ rm.locals) (hcs : cs ≤ rm.cells ∧ sl ≤ rm.slots) (hd : decode cc pc = .ok (.invokestatic idx, 3)) (hp : pc + 3 = pc') {kk : Int32 → Option β} (hf : kmax u v kk = some o) (k : ∀ r, kk r = some o → zV x g nL cs sl pc' lo (.int r :: st) m) : zV x g nL cs sl pc lo (.int v :: .int u :: st) m := fun H locs ls hP hD hS hl => by
  subst hp
  exact va_mmax C.1.1 C.1.2.1 (C.1.2.2.1.trans hl.1.symm) C.1.2.2.2.1 (C.1.2.2.2.2 _ hw1) (C.1.2.2.2.2 _ hw2) (C.1.2.2.2.2 _ hw3) (C.1.2.2.2.2 _ hw4) (by rw [C.2.2.2]; exact hR.1) (by rw [C.2.2.2]; exact hR.2) (by rw [C.2.2.2]; exact hcs.1) (by rw [C.2.2.2]; exact hcs.2) hd (k _ hf H locs ls hP hD hS hl)
theorem z_copy (C : zC x g cc Ts own nL rm) {a b na nb : Nat} {sp dp n : Int32} (ha : a < zn g) (hb : b < zn g) (hsa : zsh g a = .inl na) (hsb : zsh g b = .inl nb) (hw1 : Cond.methodLink own idx arraycopyName ∈ Ts) (hw2 : Cond.native arraycopyName ∈ Ts) (hw3 : Cond.static arraycopyName ∈ Ts) (hw4 : Cond.initialized "java/lang/System" ∈ Ts) (hR : 1 ≤ rm.frames ∧ (st.map fun v => v.category).sum + (nativeFrameWords "java/lang/System" "arraycopy" 5 + 11) ≤ rm.locals) (hd : decode cc pc = .ok (.invokestatic idx, 3)) (hp : pc + 3 = pc') {kk : zMem → Option β} (hf : kcp m a b na nb sp dp n kk = some o) (k : ∀ m1, kk m1 = some o → zV x g nL cs sl pc' lo st m1) : zV x g nL cs sl pc lo (.int n :: .int dp :: .ref (zad g b) :: .int sp :: .ref (zad g a) :: st) m := fun H locs ls hP hD hS hl => by
  subst hp
  unfold kcp at hf
  by_cases hz : sp < 0 ∨ dp < 0 ∨ n < 0 ∨ na < sp.toNatClampNeg + n.toNatClampNeg ∨ nb < dp.toNatClampNeg + n.toNatClampNeg
  · rw [if_pos hz] at hf; cases hf
  · rw [if_neg hz] at hf
    have hga := zwd_get g m ha
    have hgb := zwd_get g m hb
    rw [hsa] at hga
    rw [hsb] at hgb
    have z1 : ¬ sp < 0 := fun h => hz (Or.inl h)
    have z2 : ¬ dp < 0 := fun h => hz (Or.inr (Or.inl h))
    have z3 : ¬ n < 0 := fun h => hz (Or.inr (Or.inr (Or.inl h)))
    have z4 : sp.toNatClampNeg + n.toNatClampNeg ≤ na := Nat.not_lt.mp fun h => hz (Or.inr (Or.inr (Or.inr (Or.inl h))))
    have z5 : dp.toNatClampNeg + n.toNatClampNeg ≤ nb := Nat.not_lt.mp fun h => hz (Or.inr (Or.inr (Or.inr (Or.inr h))))
    refine va_copyi (ty := .int) C.1.1 C.1.2.1 (C.1.2.2.1.trans hl.1.symm) C.1.2.2.2.1 (C.1.2.2.2.2 _ hw1) (C.1.2.2.2.2 _ hw2) (C.1.2.2.2.2 _ hw3) (C.1.2.2.2.2 _ hw4) C.2.1 hP hD hS a b 0 0 hga hgb rfl rfl rfl z1 z2 z3 z4 z5 (fun _ _ => rfl) (by rw [C.2.2.2]; exact hR.1) (by rw [C.2.2.2]; exact hR.2) hd (fun H1 locs1 hP1 hD1 hS1 => ?_)
    rw [zwd_sA g m _ hb hsb] at hP1 hD1
    exact k _ hf H1 locs1 ls hP1 hD1 hS1 hl
end ZK
/-! entry: a contract out of V of the body -/
theorem zlo_of {ls : Array Slot} {nL : Nat} {lv : List (Nat × Value)} {lo : List (Option Value)} (h : lv_has ls nL lv) (hm : ∀ i v, lo[i]? = some (some v) → (i, v) ∈ lv) : zlo ls nL lo := ⟨h.1, h.2.1, fun i v hi => h.2.2 (i, v) (hm i v hi)⟩
def zargs : List Value → List (Option Value)
  | [] => []
  | v :: vs => if v.category = 2 then some v :: none :: zargs vs else some v :: zargs vs
theorem zargs_in (vs : List Value) : ∀ (k i : Nat) (v : Value), (zargs vs)[i]? = some (some v) → (k + i, v) ∈ lv_args k vs := by
  induction vs with
  | nil => intro k i v h; simp [zargs] at h
  | cons u us ih =>
    intro k i v h
    unfold zargs at h
    unfold lv_args
    by_cases hc : u.category = 2
    · rw [if_pos hc] at h
      rw [if_pos hc]
      match i, h with
      | 0, h => simp at h; subst h; simp
      | 1, h => simp at h
      | i + 2, h =>
        have h2 : (zargs us)[i]? = some (some v) := by simpa using h
        have h3 := ih (k + 2) i v h2
        rw [show k + 2 + i = k + (i + 2) by omega] at h3
        exact List.mem_cons_of_mem _ h3
    · rw [if_neg hc] at h
      rw [if_neg hc]
      match i, h with
      | 0, h => simp at h; subst h; simp
      | i + 1, h =>
        have h2 : (zargs us)[i]? = some (some v) := by simpa using h
        have h3 := ih (k + 1) i v h2
        rw [show k + 1 + i = k + (i + 1) by omega] at h3
        exact List.mem_cons_of_mem _ h3
theorem zlo_pad {ls : Array Slot} {nL : Nat} {lo : List (Option Value)} (h : zlo ls nL lo) (k : Nat) : zlo ls nL (lo ++ List.replicate k none) := by
  refine ⟨h.1, h.2.1, fun i v hi => h.2.2 i v ?_⟩
  by_cases hl : i < lo.length
  · rwa [List.getElem?_append_left hl] at hi
  · rw [List.getElem?_append_right (Nat.not_lt.mp hl)] at hi
    have := List.eq_of_mem_replicate (List.mem_of_getElem? hi)
    cases this
theorem z_ofW {l : Launch} {y : MethodName} {ws ws' : List Cond} {rm : Room} {Pc : Array Value → State → Prop} {Qc : Array Value → State → Outcome → State → Prop} {mc ms : Nat} {free : Addr → Prop} {cc : ByteArray} {maxL : Nat} {ret : Option FieldType}
    (hy : plainFor y = true) (hw : ws = Cond.code y cc maxL ret :: ws')
    (body : ∀ p e s m args below meth c s₁, BodyLoose p l y (headSpec ws rm) cc maxL ret e s m args below meth c s₁ → c.maxLocals = maxL → Pc args s →
      W p l e (headSpec ws rm).room s m args below meth c s.heap [] 0 0 (MQ below Qc args s mc ms free) (entryFrame m args maxL)) : Met l y ws rm Pc Qc mc ms free := by
  refine MetFree.of_bodySF (code := cc) (maxLocals := maxL) (ret := ret) hy ?_ ?_
  · intro args s m h hn
    obtain ⟨meth, c, h1, h2, h3, h4, h5, h6, -, -⟩ := Cond.code_spec hn (atoms_spec (ws := ws) h _ (by rw [hw]; exact List.mem_cons_self))
    exact ⟨meth, c, h1, h2, h3, h4, h5, h6⟩
  · intro p e s m args below meth c s₁ B hml hP _
    have hh0 : s₁.heap = s.heap := by rw [B.state]; rfl
    obtain ⟨t, a1, o, b1, b2, b3⟩ := body p e s m args below meth c s₁ B hml hP s₁ hh0 (Stand.of_body B)
    exact ⟨t, o, a1, b1, b2, ⟨b3.1, b3.2⟩⟩
section ZE
variable {l : Launch} {g : zG} {y : MethodName} {ws ws' : List Cond} {fr lc : Nat} {cc : ByteArray} {maxL : Nat} {av : List Value} {m : zMem} {lo0 : List (Option Value)}
/-- what a body may use at its returns -/
def zRi (x : zF) (g : zG) (cc : ByteArray) (nL : Nat) (o : Int32 × zMem) : Prop := ∀ (pc : Nat) (lo : List (Option Value)) (v : Int32) (m : zMem), (v, m) = o → decode cc pc = .ok (.ireturn, 1) → zV x g nL 0 0 pc lo [.int v] m
def zRv (x : zF) (g : zG) (cc : ByteArray) (nL : Nat) (o : zMem) : Prop := ∀ (pc : Nat) (lo : List (Option Value)) (m : zMem), m = o → decode cc pc = .ok (.return_, 1) → zV x g nL 0 0 pc lo [] m
def zRl (x : zF) (g : zG) (cc : ByteArray) (nL : Nat) (o : Int64 × zMem) : Prop := ∀ (pc : Nat) (lo : List (Option Value)) (v : Int64) (m : zMem), (v, m) = o → decode cc pc = .ok (.lreturn, 1) → zV x g nL 0 0 pc lo [.long v] m
theorem z_met_i (hy : plainFor y = true) (hw : ws = Cond.code y cc maxL (some .int) :: ws') {o : Int32 × zMem} (hlo : zargs av ++ List.replicate (maxL - (lg_sl av).length) none = lo0) (hsz : (lg_sl av).length ≤ maxL)
    (body : ∀ x : zF, x.2.1 = l → zC x g cc ws y.cls maxL { frames := fr, cells := 0, slots := 0, locals := lc } → zRi x g cc maxL o → zV x g maxL 0 0 0 lo0 [] m) : zMI l g y ws { frames := fr, cells := 0, slots := 0, locals := lc } av m o := by
  refine z_ofW (cc := cc) (maxL := maxL) (ret := (some .int)) hy hw ?_
  intro p e s mid args below meth c s₁ B hml hv
  obtain ⟨rfl, hP, hK, hD⟩ := hv
  have hx := B.exec
  have hb := B.bytes
  have hr := B.returns
  have hts := atoms_spec (ws := ws) B.pre
  have hown : s.vm.findClass y.cls = some mid.cls := findClass_of_methodNamed B.named
  have hlocks := B.notSynchronized
  have hl0 := lv_entry av (n := maxL) hsz
  rw [lg_entry_eq]
  generalize (lg_sl av ++ List.replicate (maxL - (lg_sl av).length) Slot.unset).toArray = ls at hl0 ⊢
  have hl : zlo ls maxL lo0 := by
    rw [← hlo]
    exact zlo_pad (zlo_of hl0 (fun i v h => by have := zargs_in av 0 i v h; rwa [Nat.zero_add] at this)) _
  have hA : ∀ i, i < zn g → zAD g (zad g i) := fun i h => ⟨i, h, rfl⟩
  have K := body (p, l, e, (headSpec ws { frames := fr, cells := 0, slots := 0, locals := lc }).room, s, mid, av.toArray, below, meth, c, MQ below (va_Qi (fun r u => (r, u) = o) (zPP g) (zAD g)) av.toArray s 0 0 (zAD g), zAD g) rfl ⟨⟨hx, hb, hml, hown, hts⟩, hK, hA, rfl⟩ ?_
  · exact K s.heap [] ls hP hD va_S.rf hl
  · intro pc lo v m1 e1 hd H locs ls hP1 hD1 hS1 hl1
    exact W.iret hx hb hr (fun t ht hW => ⟨⟨v, m1, rfl, e1, by rw [ht]; exact hP1, va_K.moved hW.alike hK, zD_ad hD1⟩, hS1.F ht⟩) hS1.2.2 hd hlocks
theorem z_met_v (hy : plainFor y = true) (hw : ws = Cond.code y cc maxL none :: ws') {o : zMem} (hlo : zargs av ++ List.replicate (maxL - (lg_sl av).length) none = lo0) (hsz : (lg_sl av).length ≤ maxL)
    (body : ∀ x : zF, x.2.1 = l → zC x g cc ws y.cls maxL { frames := fr, cells := 0, slots := 0, locals := lc } → zRv x g cc maxL o → zV x g maxL 0 0 0 lo0 [] m) : zMV l g y ws { frames := fr, cells := 0, slots := 0, locals := lc } av m o := by
  refine z_ofW (cc := cc) (maxL := maxL) (ret := none) hy hw ?_
  intro p e s mid args below meth c s₁ B hml hv
  obtain ⟨rfl, hP, hK, hD⟩ := hv
  have hx := B.exec
  have hb := B.bytes
  have hr := B.returns
  have hts := atoms_spec (ws := ws) B.pre
  have hown : s.vm.findClass y.cls = some mid.cls := findClass_of_methodNamed B.named
  have hlocks := B.notSynchronized
  have hl0 := lv_entry av (n := maxL) hsz
  rw [lg_entry_eq]
  generalize (lg_sl av ++ List.replicate (maxL - (lg_sl av).length) Slot.unset).toArray = ls at hl0 ⊢
  have hl : zlo ls maxL lo0 := by
    rw [← hlo]
    exact zlo_pad (zlo_of hl0 (fun i v h => by have := zargs_in av 0 i v h; rwa [Nat.zero_add] at this)) _
  have hA : ∀ i, i < zn g → zAD g (zad g i) := fun i h => ⟨i, h, rfl⟩
  have K := body (p, l, e, (headSpec ws { frames := fr, cells := 0, slots := 0, locals := lc }).room, s, mid, av.toArray, below, meth, c, MQ below (va_Qv (fun u => u = o) (zPP g) (zAD g)) av.toArray s 0 0 (zAD g), zAD g) rfl ⟨⟨hx, hb, hml, hown, hts⟩, hK, hA, rfl⟩ ?_
  · exact K s.heap [] ls hP hD va_S.rf hl
  · intro pc lo m1 e1 hd H locs ls hP1 hD1 hS1 hl1
    exact W.vret hx hb hr (fun t ht hW => ⟨⟨m1, rfl, e1, by rw [ht]; exact hP1, va_K.moved hW.alike hK, zD_ad hD1⟩, hS1.F ht⟩) hS1.2.2 hd hlocks
theorem z_met_l (hy : plainFor y = true) (hw : ws = Cond.code y cc maxL (some .long) :: ws') {o : Int64 × zMem} (hlo : zargs av ++ List.replicate (maxL - (lg_sl av).length) none = lo0) (hsz : (lg_sl av).length ≤ maxL)
    (body : ∀ x : zF, x.2.1 = l → zC x g cc ws y.cls maxL { frames := fr, cells := 0, slots := 0, locals := lc } → zRl x g cc maxL o → zV x g maxL 0 0 0 lo0 [] m) : zML l g y ws { frames := fr, cells := 0, slots := 0, locals := lc } av m o := by
  refine z_ofW (cc := cc) (maxL := maxL) (ret := (some .long)) hy hw ?_
  intro p e s mid args below meth c s₁ B hml hv
  obtain ⟨rfl, hP, hK, hD⟩ := hv
  have hx := B.exec
  have hb := B.bytes
  have hr := B.returns
  have hts := atoms_spec (ws := ws) B.pre
  have hown : s.vm.findClass y.cls = some mid.cls := findClass_of_methodNamed B.named
  have hlocks := B.notSynchronized
  have hl0 := lv_entry av (n := maxL) hsz
  rw [lg_entry_eq]
  generalize (lg_sl av ++ List.replicate (maxL - (lg_sl av).length) Slot.unset).toArray = ls at hl0 ⊢
  have hl : zlo ls maxL lo0 := by
    rw [← hlo]
    exact zlo_pad (zlo_of hl0 (fun i v h => by have := zargs_in av 0 i v h; rwa [Nat.zero_add] at this)) _
  have hA : ∀ i, i < zn g → zAD g (zad g i) := fun i h => ⟨i, h, rfl⟩
  have K := body (p, l, e, (headSpec ws { frames := fr, cells := 0, slots := 0, locals := lc }).room, s, mid, av.toArray, below, meth, c, MQ below (va_Ql (fun r u => (r, u) = o) (zPP g) (zAD g)) av.toArray s 0 0 (zAD g), zAD g) rfl ⟨⟨hx, hb, hml, hown, hts⟩, hK, hA, rfl⟩ ?_
  · exact K s.heap [] ls hP hD va_S.rf hl
  · intro pc lo v m1 e1 hd H locs ls hP1 hD1 hS1 hl1
    exact W.lret hx hb hr (fun t ht hW => ⟨⟨v, m1, rfl, e1, by rw [ht]; exact hP1, va_K.moved hW.alike hK, zD_ad hD1⟩, hS1.F ht⟩) hS1.2.2 hd hlocks
def zRz (x : zF) (g : zG) (cc : ByteArray) (nL : Nat) (o : Int32 × zMem) : Prop := ∀ (pc : Nat) (lo : List (Option Value)) (v : Int32) (m : zMem), v = 0 ∨ v = 1 → (v, m) = o → decode cc pc = .ok (.ireturn, 1) → zV x g nL 0 0 pc lo [.int v] m
theorem z_met_z (hy : plainFor y = true) (hw : ws = Cond.code y cc maxL (some .boolean) :: ws') {o : Int32 × zMem} (hlo : zargs av ++ List.replicate (maxL - (lg_sl av).length) none = lo0) (hsz : (lg_sl av).length ≤ maxL)
    (body : ∀ x : zF, x.2.1 = l → zC x g cc ws y.cls maxL { frames := fr, cells := 0, slots := 0, locals := lc } → zRz x g cc maxL o → zV x g maxL 0 0 0 lo0 [] m) : zMI l g y ws { frames := fr, cells := 0, slots := 0, locals := lc } av m o := by
  refine z_ofW (cc := cc) (maxL := maxL) (ret := (some .boolean)) hy hw ?_
  intro p e s mid args below meth c s₁ B hml hv
  obtain ⟨rfl, hP, hK, hD⟩ := hv
  have hx := B.exec
  have hb := B.bytes
  have hr := B.returns
  have hts := atoms_spec (ws := ws) B.pre
  have hown : s.vm.findClass y.cls = some mid.cls := findClass_of_methodNamed B.named
  have hlocks := B.notSynchronized
  have hl0 := lv_entry av (n := maxL) hsz
  rw [lg_entry_eq]
  generalize (lg_sl av ++ List.replicate (maxL - (lg_sl av).length) Slot.unset).toArray = ls at hl0 ⊢
  have hl : zlo ls maxL lo0 := by
    rw [← hlo]
    exact zlo_pad (zlo_of hl0 (fun i v h => by have := zargs_in av 0 i v h; rwa [Nat.zero_add] at this)) _
  have hA : ∀ i, i < zn g → zAD g (zad g i) := fun i h => ⟨i, h, rfl⟩
  have K := body (p, l, e, (headSpec ws { frames := fr, cells := 0, slots := 0, locals := lc }).room, s, mid, av.toArray, below, meth, c, MQ below (va_Qi (fun r u => (r, u) = o) (zPP g) (zAD g)) av.toArray s 0 0 (zAD g), zAD g) rfl ⟨⟨hx, hb, hml, hown, hts⟩, hK, hA, rfl⟩ ?_
  · exact K s.heap [] ls hP hD va_S.rf hl
  · intro pc lo v m1 hv e1 hd H locs ls hP1 hD1 hS1 hl1
    exact W.zret hx hb hr (z_bit hv).1 (fun t ht hW => ⟨⟨v, m1, rfl, e1, by rw [ht]; exact hP1, va_K.moved hW.alike hK, zD_ad hD1⟩, hS1.F ht⟩) hS1.2.2 hd hlocks
end ZE
