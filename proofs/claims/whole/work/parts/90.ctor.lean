/-! constructors: the judgement over a list of cells that grows -/
def cV (x : zF) (D : va_G) (nL : Nat) (cs sl : Nat) (pc : Nat) (lo : List (Option Value)) (st : List Value) (ws : va_W) : Prop :=
  ∀ (H : Heap) (locs : List Loc) (ls : Array Slot), va_P D vwCl ws H → va_D (zfA x) ws → va_S (zfA x) (zfs x).heap H locs → zlo ls nL lo → zW x H locs cs sl pc ls st
/-- the private constructors' links -/
def nLk (U : State) : Prop := va_Nw (.methodLinkNest RX5 9 yX4_init "QuotaOverlay") U ∧ va_Nw (.methodLinkNest RX5 18 yX1_init "QuotaOverlay") U ∧ va_Nw (.methodLinkNest RX2 54 yX3_init "QuotaOverlay") U
theorem nLk.warm {s U : State} (hW : s.WarmedH U.vm) (h : nLk s) : nLk U := ⟨va_Nw.warmM hW h.1, va_Nw.warmM hW h.2.1, va_Nw.warmM hW h.2.2⟩
def cC (x : zF) (D : va_G) (cI : ClassId) (cc : ByteArray) (Ts : List Cond) (own : String) (nL : Nat) (rm : Room) : Prop :=
  CallFix x.1 x.2.2.2.2.2.1 x.2.2.2.2.2.2.2.2.2.1 cc nL (zfs x) x.2.2.2.2.2.2.1 Ts own ∧ va_K D vwCl [(cI, .int)] (zfs x) ∧ (∀ q : Nat, (zfs x).heap.size ≤ q → zfA x q) ∧ zfR x = rm ∧ x.2.2.2.2.2.2.2.2.1.name = "<init>" ∧ nLk (zfs x)
section ZC
variable {x : zF} {D : va_G} {cI : ClassId} {cc : ByteArray} {Ts : List Cond} {own : String} {nL : Nat} {rm : Room} {cs sl : Nat} {pc pc' : Nat} {lo lo' : List (Option Value)} {st : List Value} {ws : va_W}
theorem c_iconst (C : cC x D cI cc Ts own nL rm) {n : Int} {v : Int32} (hd : decode cc pc = .ok (.iconst n, 1)) (hv : Int32.ofInt n = v) (hp : pc + 1 = pc') (k : cV x D nL cs sl pc' lo (.int v :: st) ws) : cV x D nL cs sl pc lo st ws := fun H locs ls hP hD hS hl => by subst hp; exact lv_iconst C.1.1 C.1.2.1 hd hv (k H locs ls hP hD hS hl)
theorem c_bipush (C : cC x D cI cc Ts own nL rm) {n : Int} {v : Int32} (hd : decode cc pc = .ok (.bipush n, 2)) (hv : (Int8.ofInt n).toInt32 = v) (hp : pc + 2 = pc') (k : cV x D nL cs sl pc' lo (.int v :: st) ws) : cV x D nL cs sl pc lo st ws := fun H locs ls hP hD hS hl => by subst hp; exact lv_bipush C.1.1 C.1.2.1 hd hv (k H locs ls hP hD hS hl)
theorem c_sipush (C : cC x D cI cc Ts own nL rm) {n : Int} {v : Int32} (hd : decode cc pc = .ok (.sipush n, 3)) (hv : (Int16.ofInt n).toInt32 = v) (hp : pc + 3 = pc') (k : cV x D nL cs sl pc' lo (.int v :: st) ws) : cV x D nL cs sl pc lo st ws := fun H locs ls hP hD hS hl => by subst hp; exact lv_sipush C.1.1 C.1.2.1 hd hv (k H locs ls hP hD hS hl)
theorem c_aload (C : cC x D cI cc Ts own nL rm) {j : Fin 4} {i : Nat} {y : Nat} (hd : decode cc pc = .ok (.aload_n j, 1)) (hi : (j : Nat) = i) (hv : lo[i]? = some (some (.ref y))) (hp : pc + 1 = pc') (k : cV x D nL cs sl pc' lo (.ref y :: st) ws) : cV x D nL cs sl pc lo st ws := fun H locs ls hP hD hS hl => by subst hp; exact lv_aload_n C.1.1 C.1.2.1 hd hi (hl.2.2 _ _ hv) (k H locs ls hP hD hS hl)
theorem c_dup (C : cC x D cI cc Ts own nL rm) {a : Nat} (hd : decode cc pc = .ok (.dup, 1)) (hp : pc + 1 = pc') (k : cV x D nL cs sl pc' lo (.ref a :: .ref a :: st) ws) : cV x D nL cs sl pc lo (.ref a :: st) ws := fun H locs ls hP hD hS hl => by subst hp; exact lv_dup C.1.1 C.1.2.1 hd rfl (k H locs ls hP hD hS hl)
theorem c_obj (C : cC x D cI cc Ts own nL rm) {idx a : Nat} (h1 : Cond.methodLink own idx objectInit ∈ Ts) (h2 : Cond.instanceMethod objectInit ∈ Ts) (h3 : Cond.code objectInit ⟨#[0xb1]⟩ 1 none ∈ Ts) (hR : 1 ≤ rm.frames ∧ (st.map fun v => v.category).sum + 12 ≤ rm.locals) (hd : decode cc pc = .ok (.invokespecial idx, 3)) (hp : pc + 3 = pc') (k : cV x D nL cs sl pc' lo st ws) : cV x D nL cs sl pc lo (.ref a :: st) ws := fun H locs ls hP hD hS hl => by
  subst hp
  exact W.objInit C.1.1 C.1.2.1 C.1.2.2.2.1 (C.1.2.2.2.2 _ h1) (C.1.2.2.2.2 _ h2) (C.1.2.2.2.2 _ h3) rfl (hl.1.trans C.1.2.2.1.symm) rfl hd (by rw [C.2.2.2.1]; exact hR.1) (by rw [C.2.2.2.1]; show 2 * 0 + _ + 12 ≤ _; rw [Nat.mul_zero, Nat.zero_add]; exact hR.2) (k H locs ls hP hD hS hl)
theorem c_newa (C : cC x D cI cc Ts own nL rm) {n : Int32} {N : Nat} (hw : Cond.arrayClass .int ∈ Ts) (hn : ¬ n < 0) (hN : n.toNatClampNeg = N) (hb : N * componentBytes .int ≤ 536870912) (hc : cs + 1 ≤ rm.cells) (hs : sl + N ≤ rm.slots) (hd : decode cc pc = .ok (.newarray .int, 2)) (hp : pc + 2 = pc') (k : ∀ q : Nat, cV x D nL (cs + 1) (sl + N) pc' lo (.ref q :: st) (ws ++ [(q, .inl (cI, N, .inl (fun _ => 0)))])) : cV x D nL cs sl pc lo (.int n :: st) ws := fun H locs ls hP hD hS hl => by
  subst hp
  refine va_newa (atype := .int) (ty := .int) C.1.1 C.1.2.1 (C.1.2.2.2.2 _ hw) rfl C.2.1 hP hD hS C.2.2.1 (a0 := (N, .inl (fun _ => 0))) (fun _ => rfl) hn hN hb (by rw [C.2.2.2.1]; exact hc) (by rw [C.2.2.2.1]; exact hs) hd (fun q cA H1 hK1 hP1 hD1 hS1 => ?_)
  have e1 : va_RA (zfs x) cA .int := (hK1.2 1 _ rfl).2
  have e2 : va_RA (zfs x) cI .int := (C.2.1.2 0 _ rfl).2
  have e : cA = cI := Option.some.inj (Eq.trans (Eq.symm e1) e2)
  subst e
  exact k q H1 locs ls hP1 hD1 hS1 hl
theorem c_put (C : cC x D cI cc Ts own nL rm) {ref Cn : String} {T : u_T} {N ci idx a q0 j : Nat} {fs : List Value} {ty : FieldType} {v : Value} (hin : ∀ w ∈ u_ws Cn T N, w ∈ Ts) (t0 : Nat → FieldType) (hty : ∀ k, k < N → parseFieldDescriptor (T k).2.2.1 = some (t0 k)) (hnm : ∀ a, a < N → ∀ b, b < N → a ≠ b → (T a).2.1 ≠ (T b).2.1) (he : ws[q0]? = some (a, .inr (ci, fs))) (hc : vwCl[ci]? = some (Cn, T, N)) (hj : j < N) (hlink : Cond.fieldLink own idx ref (T j).2.1 (T j).2.2.1 ∈ Ts) (href : (T j).1 = ref) (hown : (T j).1 = own) (hdty : parseFieldDescriptor (T j).2.2.1 = some ty) (hn : narrow ty v = v) (hfit : fits ty v = true) (hl0 : j < fs.length) (hd : decode cc pc = .ok (.putfield idx, 3)) (hp : pc + 3 = pc') {ws1 : va_W} (hws : ws.set q0 (a, .inr (ci, fs.set j v)) = ws1) (k : cV x D nL cs sl pc' lo st ws1) : cV x D nL cs sl pc lo (v :: .ref a :: st) ws := fun H locs ls hP hD hS hl => by
  subst hp; subst hws; subst href
  cases hf : (T j).2.2.2 with
  | false => exact va_put C.1.1 C.1.2.1 C.1.2.2.2.2 hin t0 hty hnm C.1.2.2.2.1 C.2.1 hP hD hS q0 he hc j hj (C.1.2.2.2.2 _ hlink) (fun _ h => h) hf hdty hn hfit hl0 hd (fun H1 locs1 hP1 hD1 hS1 => k H1 locs1 ls hP1 hD1 hS1 hl)
  | true => exact va_putF C.1.1 C.1.2.1 C.1.2.2.2.2 hin t0 hty hnm C.1.2.2.2.1 C.2.1 hP hD hS q0 he hc j hj (C.1.2.2.2.2 _ hlink) (fun _ h => h) hf C.2.2.2.2.1 hown hdty hn hfit hl0 hd (fun H1 locs1 hP1 hD1 hS1 => k H1 locs1 ls hP1 hD1 hS1 hl)
theorem c_get (C : cC x D cI cc Ts own nL rm) {ref Cn : String} {T : u_T} {N ci idx a q0 j : Nat} {fs : List Value} {v : Value} (hin : ∀ w ∈ u_ws Cn T N, w ∈ Ts) (he : ws[q0]? = some (a, .inr (ci, fs))) (hc : vwCl[ci]? = some (Cn, T, N)) (hj : j < N) (hlink : Cond.fieldLink own idx ref (T j).2.1 (T j).2.2.1 ∈ Ts) (href : (T j).1 = ref) (hv : fs[j]? = some v) (hd : decode cc pc = .ok (.getfield idx, 3)) (hp : pc + 3 = pc') (k : cV x D nL cs sl pc' lo (v :: st) ws) : cV x D nL cs sl pc lo (.ref a :: st) ws := fun H locs ls hP hD hS hl => by
  subst hp; subst href
  exact va_get C.1.1 C.1.2.1 C.1.2.2.2.2 hin C.1.2.2.2.1 C.2.1 hP q0 he hc j hj (C.1.2.2.2.2 _ hlink) (fun _ h => h) hv hd (k H locs ls hP hD hS hl)
theorem c_iast (C : cC x D cI cc Ts own nL rm) {a q0 n j : Nat} {f : Nat → Int32} {i y : Int32} (he : ws[q0]? = some (a, .inl (cI, n, .inl f))) (hi : vp_in i n) (hj : i.toNatClampNeg = j) (hd : decode cc pc = .ok (.iastore, 1)) (hp : pc + 1 = pc') {ws1 : va_W} (hws : ws.set q0 (a, .inl (cI, n, .inl (upd f j y))) = ws1) (k : cV x D nL cs sl pc' lo st ws1) : cV x D nL cs sl pc lo (.int y :: .int i :: .ref a :: st) ws := fun H locs ls hP hD hS hl => by
  subst hp; subst hws; subst hj
  exact va_iast C.1.1 C.1.2.1 C.2.1 hP hD hS q0 0 he rfl hi hd (fun H1 locs1 hP1 hD1 hS1 => k H1 locs1 ls hP1 hD1 hS1 hl)
theorem c_new (C : cC x D cI cc Ts own nL rm) {Cn : String} {T : u_T} {N ci idx : Nat} {fs : List Value} (hin : ∀ w ∈ u_ws Cn T N, w ∈ Ts) (t0 : Nat → FieldType) (hty : ∀ k, k < N → parseFieldDescriptor (T k).2.2.1 = some (t0 k)) (h1 : Cond.classLink own idx Cn ∈ Ts) (h2 : Cond.instantiable Cn N ∈ Ts) (h3 : Cond.initialized Cn ∈ Ts) (hc : vwCl[ci]? = some (Cn, T, N)) (hfs : ∀ j, j < N → defaultValue (t0 j) = vp_V fs j) (hcs : cs + 1 ≤ rm.cells) (hsl : sl + N ≤ rm.slots) (hd : decode cc pc = .ok (.new idx, 3)) (hp : pc + 3 = pc') (k : ∀ q : Nat, cV x D nL (cs + 1) (sl + N) pc' lo (.ref q :: st) (ws ++ [(q, .inr (ci, fs))])) : cV x D nL cs sl pc lo st ws := fun H locs ls hP hD hS hl => by
  subst hp
  exact va_new C.1.1 C.1.2.1 C.1.2.2.2.2 hin t0 hty C.1.2.2.2.1 (C.1.2.2.2.2 _ h1) (C.1.2.2.2.2 _ h2) (C.1.2.2.2.2 _ h3) C.2.1 hP hD hS C.2.2.1 hc hfs (by rw [C.2.2.2.1]; exact hcs) (by rw [C.2.2.2.1]; exact hsl) hd (fun q H1 hP1 hD1 hS1 => k q H1 locs ls hP1 hD1 hS1 hl)
end ZC
/-! a constructor's contract: the object e0 at h; behind it the cells w u -/
def cPre (D : va_G) (cI : ClassId) (h : Nat) (e0 : va_E) (sz : Nat) (U : State) : Prop := U.heap.size = sz ∧ va_P D vwCl [(h, e0)] U.heap ∧ va_K D vwCl [(cI, .int)] U ∧ nLk U
def cPost {S : Type} (D : va_G) (cI : ClassId) (h : Nat) (e0 : va_E) (sz : Nat) (w : S → va_W) (u : S) (t : State) : Prop := va_P D vwCl (w u) t.heap ∧ va_K D vwCl [(cI, .int)] t ∧ va_D (va_A [(h, e0)] sz) (w u)
def cMet {S : Type} (l : Launch) (D : va_G) (cI : ClassId) (y : MethodName) (tws : List Cond) (rm : Room) (h : Nat) (e0 : va_E) (mc ms : Nat) (w : S → va_W) : Prop := ∀ sz : Nat, Met l y tws rm (va_Pc [.ref h] (cPre D cI h e0 sz)) (va_Qv (fun (_ : S) => True) (cPost D cI h e0 sz w) (va_A [(h, e0)] sz)) mc ms (va_A [(h, e0)] sz)
theorem cPre_blind (D : va_G) (cI : ClassId) (h : Nat) (e0 : va_E) (sz : Nat) (av : List Value) : FrameBlind (va_Pc av (cPre D cI h e0 sz)) := fun a U g2 mk q => by
  obtain ⟨q0, q1, qP, qK, qN⟩ := q
  exact ⟨q0, q1, qP, va_K.moved (u := U) (U := U.calling g2 mk a) (Vm.Alike.refl U.vm) qK, nLk.warm (U := U.calling g2 mk a) (State.WarmedH.refl U) qN⟩
theorem c_joined {A : Nat → Prop} {D : va_G} {wr w1 : va_W} {q : Nat} {e : va_E} {H H1 : Heap} (hP : va_P D vwCl (wr ++ [(q, e)]) H) (hD : va_D A (wr ++ [(q, e)])) (hA : ∀ q' : Nat, H.size ≤ q' → A q') (hk : ∀ q' : Nat, q' < H.size → ¬ va_A [(q, e)] H.size q' → H1[q']? = H[q']?) (hP1 : va_P D vwCl w1 H1) (hD1 : va_D (va_A [(q, e)] H.size) w1) : va_P D vwCl (wr ++ w1) H1 ∧ va_D A (wr ++ w1) := by
  have hin : ∀ (i : Nat) (z : Nat × va_E), wr[i]? = some z → (wr ++ [(q, e)])[i]? = some z := fun i z h => by
    rw [List.getElem?_append_left (List.getElem?_eq_some_iff.mp h).1]; exact h
  have hl : (wr ++ [(q, e)])[wr.length]? = some (q, e) := by simp
  have hne : ∀ (i : Nat) (z : Nat × va_E), wr[i]? = some z → z.1 ≠ q := fun i z h e1 => by
    have := hD.1 i wr.length z (q, e) (hin i z h) hl e1
    have := (List.getElem?_eq_some_iff.mp h).1
    omega
  have hout : ∀ (i : Nat) (z : Nat × va_E), wr[i]? = some z → ¬ va_A [(q, e)] H.size z.1 := fun i z h hz => by
    have hlt : z.1 < H.size := (hP i z (hin i z h)).lt
    rcases hz with ⟨k, e9, hk9⟩ | hz
    · match k, hk9 with
      | 0, hk9 =>
        cases hk9
        exact hne i z h rfl
      | k + 1, hk9 => cases hk9
    · exact absurd hz (Nat.not_le.mpr hlt)
  have hAq : A q := hD.2 wr.length _ hl
  have up : ∀ z : Nat, va_A [(q, e)] H.size z → A z := fun z hz => by
    rcases hz with ⟨k, e9, hk9⟩ | hz
    · match k, hk9 with
      | 0, hk9 => cases hk9; exact hAq
      | k + 1, hk9 => cases hk9
    · exact hA z hz
  refine ⟨va_P.app (fun i z h => (hP i z (hin i z h)).kept (hk _ ((hP i z (hin i z h)).lt) (hout i z h))) hP1, va_D.app ⟨fun i j p q9 h1 h2 h3 => hD.1 i j p q9 (hin i p h1) (hin j q9 h2) h3, fun i z h => hD.2 i z (hin i z h)⟩ ⟨hD1.1, fun i z h => up _ (hD1.2 i z h)⟩ (fun i j p q9 h1 h2 h3 => hout i p h1 (by rw [h3]; exact hD1.2 j q9 h2))⟩
section ZC2
variable {x : zF} {D : va_G} {cI : ClassId} {cc : ByteArray} {Ts : List Cond} {own : String} {nL : Nat} {rm : Room} {cs sl : Nat} {pc pc' : Nat} {lo lo' : List (Option Value)} {st : List Value} {wr : va_W}
variable {y : MethodName} {bytes : ByteArray} {maxL idx : Nat} {tws ws' : List Cond}
theorem c_call {S : Type} (C : cC x D cI cc Ts own nL rm) {fr lc mc ms q : Nat} {e0 : va_E} {w : S → va_W} (hM : cMet x.2.1 D cI y tws { frames := fr, cells := mc, slots := ms, locals := lc } q e0 mc ms w) (hG : GoodIn Ts tws) (hw : tws = Cond.code y bytes maxL none :: ws') (h1 : Cond.initialized y.cls ∈ Ts) (h2 : Cond.methodLink own idx y ∈ Ts) (h3 : Cond.instanceMethod y ∈ Ts) (hy : y.name = "<init>") (hd : y.cls ≠ "java/lang/invoke/MethodHandle" ∧ y.cls ≠ "java/lang/invoke/VarHandle" ∧ (parseMethodDescriptor y.desc).map (fun d => d.parameters.length) = some 0) (hR : fr + 1 ≤ rm.frames ∧ 8 + (maxL + 11) + lc ≤ rm.locals) (hcs : cs + mc ≤ rm.cells ∧ sl + ms ≤ rm.slots) (h8 : (st.map fun v => v.category).sum ≤ 8) (hdg : decode cc pc = .ok (.invokespecial idx, 3)) (hp : pc + 3 = pc') (k : ∀ u : S, cV x D nL (cs + mc) (sl + ms) pc' lo st (wr ++ w u)) : cV x D nL cs sl pc lo (.ref q :: st) (wr ++ [(q, e0)]) := fun H locs ls hP hD hS hl => by
  subst hp
  have hl9 : (wr ++ [(q, e0)])[wr.length]? = some (q, e0) := by simp
  have hPc : va_P D vwCl [(q, e0)] H := fun i z h => by
    match i, h with
    | 0, h => cases h; exact hP wr.length _ hl9
    | i + 1, h => cases h
  have hF : ∀ z : Nat, va_A [(q, e0)] H.size z → zfA x z := fun z hz => by
    rcases hz with ⟨j, e9, hk9⟩ | hz
    · match j, hk9 with
      | 0, hk9 => cases hk9; exact hD.2 wr.length _ hl9
      | j + 1, hk9 => cases hk9
    · exact C.2.2.1 z (Nat.le_trans hS.1 hz)
  refine va_callv (va_runI (As := []) (rest := st) C.1 (hM H.size) (cwI 0 C.1.2.2.2.2 hG hw rfl rfl (C.1.2.2.2.2 _ h1) (C.1.2.2.2.2 _ h2) (C.1.2.2.2.2 _ h3) hy hd ⟨by rw [C.2.2.2.1]; exact hR.1, by rw [C.2.2.2.1]; exact hR.2⟩) ⟨cPre_blind _ _ _ _ _ _, fun U hU hW => ⟨rfl, by rw [hU], by rw [hU]; exact hPc, va_K.moved hW.alike C.2.1, nLk.warm hW C.2.2.2.2.2⟩⟩ rfl rfl hl.1 rfl (lv_room h8) hdg ⟨by rw [C.2.2.2.1]; exact hcs.1, by rw [C.2.2.2.1]; exact hcs.2⟩) hS (fun q9 _ h => hF q9 h) hF (fun u t H1 locs1 ht hvm hq hB hz1 hk1 hS1 => ?_)
  obtain ⟨hP1, hK1, hD1⟩ := hB
  rw [ht] at hP1
  obtain ⟨j1, j2⟩ := c_joined hP hD (fun z hz => C.2.2.1 z (Nat.le_trans hS.1 hz)) hk1 hP1 hD1
  exact k u H1 locs1 ls j1 j2 hS1 hl
theorem c_callN {S : Type} (C : cC x D cI cc Ts own nL rm) {fr lc mc ms q : Nat} {e0 : va_E} {w : S → va_W} {host : String} (hM : cMet x.2.1 D cI y tws { frames := fr, cells := mc, slots := ms, locals := lc } q e0 mc ms w) (hG : GoodIn Ts tws) (hw : tws = Cond.code y bytes maxL none :: ws') (h1 : Cond.initialized y.cls ∈ Ts) (h2 : va_Nw (.methodLinkNest own idx y host) (zfs x)) (h3 : Cond.instanceMethod y ∈ Ts) (hy : y.name = "<init>") (hd : y.cls ≠ "java/lang/invoke/MethodHandle" ∧ y.cls ≠ "java/lang/invoke/VarHandle" ∧ (parseMethodDescriptor y.desc).map (fun d => d.parameters.length) = some 0) (hR : fr + 1 ≤ rm.frames ∧ 8 + (maxL + 11) + lc ≤ rm.locals) (hcs : cs + mc ≤ rm.cells ∧ sl + ms ≤ rm.slots) (h8 : (st.map fun v => v.category).sum ≤ 8) (hdg : decode cc pc = .ok (.invokespecial idx, 3)) (hp : pc + 3 = pc') (k : ∀ u : S, cV x D nL (cs + mc) (sl + ms) pc' lo st (wr ++ w u)) : cV x D nL cs sl pc lo (.ref q :: st) (wr ++ [(q, e0)]) := fun H locs ls hP hD hS hl => by
  subst hp
  have hl9 : (wr ++ [(q, e0)])[wr.length]? = some (q, e0) := by simp
  have hPc : va_P D vwCl [(q, e0)] H := fun i z h => by
    match i, h with
    | 0, h => cases h; exact hP wr.length _ hl9
    | i + 1, h => cases h
  have hF : ∀ z : Nat, va_A [(q, e0)] H.size z → zfA x z := fun z hz => by
    rcases hz with ⟨j, e9, hk9⟩ | hz
    · match j, hk9 with
      | 0, hk9 => cases hk9; exact hD.2 wr.length _ hl9
      | j + 1, hk9 => cases hk9
    · exact C.2.2.1 z (Nat.le_trans hS.1 hz)
  refine va_callv (va_runIN (As := []) (rest := st) C.1 (hM H.size) ⟨va_cnB 0 C.1.2.2.2.2 hG hw rfl rfl h2 (C.1.2.2.2.2 _ h1) hd ⟨by rw [C.2.2.2.1]; exact hR.1, by rw [C.2.2.2.1]; exact hR.2⟩, hy, C.1.2.2.2.2 _ h3⟩ ⟨cPre_blind _ _ _ _ _ _, fun U hU hW => ⟨rfl, by rw [hU], by rw [hU]; exact hPc, va_K.moved hW.alike C.2.1, nLk.warm hW C.2.2.2.2.2⟩⟩ rfl rfl hl.1 rfl (lv_room h8) hdg ⟨by rw [C.2.2.2.1]; exact hcs.1, by rw [C.2.2.2.1]; exact hcs.2⟩) hS (fun q9 _ h => hF q9 h) hF (fun u t H1 locs1 ht hvm hq hB hz1 hk1 hS1 => ?_)
  obtain ⟨hP1, hK1, hD1⟩ := hB
  rw [ht] at hP1
  obtain ⟨j1, j2⟩ := c_joined hP hD (fun z hz => C.2.2.1 z (Nat.le_trans hS.1 hz)) hk1 hP1 hD1
  exact k u H1 locs1 ls j1 j2 hS1 hl
end ZC2
/-- a constructor's body -/
theorem c_met {S : Type} {l : Launch} {D : va_G} {cI : ClassId} {y : MethodName} {tws ws' : List Cond} {fr lc mc ms h : Nat} {e0 : va_E} {w : S → va_W} {cc : ByteArray} (hy : plainName y.cls = true) (hy2 : y.name = "<init>") (hw : tws = Cond.code y cc 1 none :: ws')
    (body : ∀ x : zF, x.2.1 = l → cC x D cI cc tws y.cls 1 { frames := fr, cells := mc, slots := ms, locals := lc } → (∀ (pc : Nat) (lo : List (Option Value)) (cs sl : Nat) (u : S), cs ≤ mc → sl ≤ ms → decode cc pc = .ok (.return_, 1) → cV x D 1 cs sl pc lo [] (w u)) → cV x D 1 0 0 0 [some (.ref h)] [] [(h, e0)]) : cMet l D cI y tws { frames := fr, cells := mc, slots := ms, locals := lc } h e0 mc ms w := fun sz => by
  refine Met.ofW (cc := cc) (maxL := 1) (ret := none) hy hw ?_
  intro p e s mid args below meth c s₁ B hml hv
  obtain ⟨rfl, hsz, hP, hK, hN⟩ := hv
  have hx := B.exec
  have hb := B.bytes
  have hr := B.returns
  have hts := atoms_spec (ws := tws) B.pre
  have hown : s.vm.findClass y.cls = some mid.cls := findClass_of_methodNamed B.named
  have hlocks := B.notSynchronized
  have hin : meth.name = "<init>" := (name_of_methodNamed B.named B.method).1.trans hy2
  have hl0 := lv_entry ([.ref h] : List Value) (n := 1) (Nat.le_of_ble_eq_true rfl)
  rw [lg_entry_eq]
  generalize (lg_sl ([.ref h] : List Value) ++ List.replicate (1 - (lg_sl ([.ref h] : List Value)).length) Slot.unset).toArray = ls at hl0 ⊢
  have hl : zlo ls 1 [some (.ref h)] := zlo_of (lo := [some (.ref h)]) hl0 (fun i v hv => by have := zargs_in [.ref h] 0 i v hv; rwa [Nat.zero_add] at this)
  subst hsz
  have hD : va_D (va_A [(h, e0)] s.heap.size) [(h, e0)] := by
    refine ⟨fun i j p9 q9 h1 h2 _ => ?_, fun i z hz => Or.inl ⟨i, z.2, hz⟩⟩
    have a1 := (List.getElem?_eq_some_iff.mp h1).1
    have a2 := (List.getElem?_eq_some_iff.mp h2).1
    simp at a1 a2
    omega
  have K := body (p, l, e, (headSpec tws { frames := fr, cells := mc, slots := ms, locals := lc }).room, s, mid, ([.ref h] : List Value).toArray, below, meth, c, MQ below (va_Qv (fun (_ : S) => True) (cPost D cI h e0 s.heap.size w) (va_A [(h, e0)] s.heap.size)) ([.ref h] : List Value).toArray s mc ms (va_A [(h, e0)] s.heap.size), va_A [(h, e0)] s.heap.size) rfl ⟨⟨hx, hb, hml, hown, hts⟩, hK, fun q hq => Or.inr hq, rfl, hin, hN⟩ ?_
  · exact K s.heap [] ls hP hD va_S.rf hl
  · intro pc lo cs sl u hcs hsl hd H locs ls hP1 hD1 hS1 hl1
    refine W.widen hcs hsl ?_
    exact W.vret hx hb hr (fun t ht hW => ⟨⟨u, rfl, trivial, by rw [ht]; exact hP1, va_K.moved hW.alike hK, hD1⟩, hS1.F ht⟩) hS1.2.2 hd hlocks
