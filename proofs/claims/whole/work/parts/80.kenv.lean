/-! constants that the code reads: its texts, statics of the JDK, the exceptions it throws -/
abbrev zKK : Type := (Nat → Nat) × (Nat → Nat)
def kkX (i : Nat) : Nat := match i with
  | 0 => 58
  | 1 => 64
  | 2 => 66
  | _ => 68
def kkT (i : Nat) : String := match i with
  | 0 => "join"
  | 1 => "leave"
  | 2 => "look"
  | _ => "tick"
def kkL : List Nat := [4, 5, 4, 4]
def kkB : List (List Int32) := [[106, 111, 105, 110], [108, 101, 97, 118, 101], [108, 111, 111, 107], [116, 105, 99, 107]]
def exN (E : Nat) : String := match E with
  | 1 => "java/lang/IllegalArgumentException"
  | 2 => "java/lang/IllegalStateException"
  | _ => "java/lang/UnsupportedOperationException"
abbrev exC : List String := ["java/lang/RuntimeException", "java/lang/Exception"]
abbrev exD : List String := ["java/lang/RuntimeException", "java/lang/Exception", Bundle.tN]
abbrev exB (E : Nat) : List Cond := [Cond.castable (exN E) (exN E), Cond.declares (Bundle.initS "java/lang/RuntimeException"), Cond.declares (Bundle.initS "java/lang/Exception"), Cond.declares (Bundle.initS Bundle.tN)]
def txX : List (Nat × String) := [(187, "the script is full"), (203, "no state is saved"), (259, "an argument is out of range"), (262, "an argument is negative"), (264, "the members do not allow this"), (266, "the puzzle or the sponsor does not allow this"), (95, "the nonce does not solve the puzzle")]
def KE (kk : zKK) (A : Nat → Prop) (U : State) (H : Heap) : Prop :=
  vk_S 4 kkL kkB kk.1 kk.2 A U H ∧ (∀ i, i < 4 → vk_R RX1 (kkX i) (kkT i) (kk.1 i) U) ∧ va_Z "java/lang/String" "COMPACT_STRINGS" "Z" (.int 1) A U H ∧ va_Zq "jdk/internal/util/Preconditions" "SIOOBE_FORMATTER" "Ljava/util/function/BiFunction;" A U H ∧ vx_Zq Bundle.tN "UNASSIGNED_STACK" Bundle.steD A U H ∧ vx_Zq Bundle.tN "SUPPRESSED_SENTINEL" Bundle.listD A U H ∧ (∀ q ∈ txX, ∃ sa, vk_R RX5 q.1 q.2 sa U) ∧ (∀ E, va_Nw (.castable (exN E) (exN E)) U) ∧ (∀ E F, exN E ≠ exN F → va_Nc (exN E) (exN F) U) ∧ ∀ n ∈ exD, va_Nw (.declares (Bundle.initS n)) U
theorem KE.go {kk : zKK} {A B : Nat → Prop} {s U : State} {H H1 : Heap} (h : KE kk A s H) (hW : s.WarmedH U.vm) (hq : ∀ a : Nat, a < H.size → ¬ A a → H1[a]? = H[a]?) (hAB : ∀ q, B q → A q) : KE kk B U H1 := by
  obtain ⟨h1, h2, h3, h4, h5, h6, h7, h8, h9, h10⟩ := h
  refine ⟨vk_S.moved hW.alike ((h1.kept hq).narrow hAB), fun i hi => (h2 i hi).warm hW, va_Z.moved hW.alike ((h3.kept hq).narrow hAB), va_Zq.moved hW.alike ((h4.kept hq).narrow hAB), vx_Zq.moved hW.alike ((h5.kept hq).narrow hAB), vx_Zq.moved hW.alike ((h6.kept hq).narrow hAB), fun q hm => ?_, fun E => va_Nw.warmC hW (h8 E), fun E F hne => va_Nc.moved hW.alike (h9 E F hne), fun n hn => va_Nw.warmD hW (h10 n hn)⟩
  obtain ⟨sa, h⟩ := h7 q hm
  exact ⟨sa, h.warm hW⟩
def zPK (g : zG) (kk : zKK) (m : zMem) (U : State) : Prop := zPP g m U ∧ KE kk (zAD g) U U.heap
theorem zPK_blind (g : zG) (kk : zKK) (av : List Value) (m : zMem) : FrameBlind (va_Pc av (zPK g kk m)) := fun a U g2 mk q => by
  obtain ⟨q0, ⟨qP, qK, qD⟩, qE⟩ := q
  exact ⟨q0, ⟨qP, va_K.moved (u := U) (U := U.calling g2 mk a) (Vm.Alike.refl U.vm) qK, qD⟩, KE.go (U := U.calling g2 mk a) qE (State.WarmedH.refl U) (fun _ _ _ => rfl) (fun _ h => h)⟩
def zKI (l : Launch) (g : zG) (kk : zKK) (y : MethodName) (ws : List Cond) (rm : Room) (av : List Value) (m : zMem) (o : Int32 × zMem) : Prop := Met l y ws rm (va_Pc av (zPK g kk m)) (va_Qi (fun r u => (r, u) = o) (zPP g) (zAD g)) 0 0 (zAD g)
def zKV (l : Launch) (g : zG) (kk : zKK) (y : MethodName) (ws : List Cond) (rm : Room) (av : List Value) (m : zMem) (o : zMem) : Prop := Met l y ws rm (va_Pc av (zPK g kk m)) (va_Qv (fun u => u = o) (zPP g) (zAD g)) 0 0 (zAD g)
/-- it throws the exception number E, and leaves the picture as it was -/
def zXC (g : zG) (m : zMem) (E : Nat) : String → State → State → Prop := vx_X (fun u => u = m) (fun E' u t => E' = exN E ∧ zPP g u t) (zAD g)
def zTV (l : Launch) (g : zG) (kk : zKK) (y : MethodName) (ws : List Cond) (rm : Room) (av : List Value) (m : zMem) (E : Nat) : Prop := vx_Met l y ws rm (va_Pc av (zPK g kk m)) (va_Qv (fun (_ : zMem) => False) (zPP g) (zAD g)) (zXC g m E) 1 6 (zAD g)
def zTI (l : Launch) (g : zG) (kk : zKK) (y : MethodName) (ws : List Cond) (rm : Room) (av : List Value) (m : zMem) (E : Nat) : Prop := vx_Met l y ws rm (va_Pc av (zPK g kk m)) (va_Qi (fun _ (_ : zMem) => False) (zPP g) (zAD g)) (zXC g m E) 1 6 (zAD g)
def zfE (kk : zKK) (x : zF) : Prop := KE kk (zfA x) (zfs x) (zfs x).heap
/-- what a body that throws owes at its end -/
def zXe (x : zF) (g : zG) (kk : zKK) (m : zMem) (E : Nat) : Prop :=
  (∃ Qc, x.2.2.2.2.2.2.2.2.2.2.1 = vx_MQ x.2.2.2.2.2.2.2.1 Qc (zXC g m E) x.2.2.2.2.2.2.1 (zfs x) 1 6 (zAD g)) ∧ x.2.2.2.2.2.2.2.2.1.locks = false ∧ (∀ z ∈ x.2.2.2.2.2.2.2.2.2.1.exceptionTable.toList, False) ∧ x.2.1.stackTraces = false ∧ zfE kk x ∧ zfA x = zAD g
/-! pieces -/
def sLn (i : Nat) : Int32 := Int32.ofNat (kkL.getD i 0)
def ksb {α : Type} (i : Nat) (j : Int32) (k : Int32 → Option α) : Option α := if j < 0 ∨ kkL.getD i 0 ≤ j.toNatClampNeg then none else k ((kkB.getD i []).getD j.toNatClampNeg 0)
def kic (x : Int32) : Int32 := (x.toUInt32 % 65536).toInt32
def kbc {α : Type} (v : Int32) (k : Option α) : Option α := if 0 ≤ v ∧ v ≤ 127 then k else none
theorem kbc_V {α : Type} {y : Int32} {a : Option α} {o : α} {G : Prop} (hf : kbc y a = some o) (h1 : 0 ≤ y ∧ y ≤ 127 → a = some o → G) : G := ite_V hf h1 (fun _ h => by cases h)
def kct (t r : Option Nat) : Option Nat := match t with
  | some E => some E
  | none => r
theorem kct_V {t r : Option Nat} {o : Nat} {G : Prop} (hf : kct t r = some o) (h1 : t = some o → G) (h2 : r = some o → G) : G := by
  cases t with
  | some E => exact h1 hf
  | none => exact h2 hf
theorem nar_c : ∀ n : Fin 128, narrow .char (.int (nI n.val)) = .int (nI n.val) := by decide +kernel
theorem nar_b : ∀ n : Fin 128, narrow .byte (.int (nI n.val)) = .int (nI n.val) := by decide +kernel
theorem nar_cb {v : Int32} (h : 0 ≤ v ∧ v ≤ 127) : narrow .char (.int v) = .int v ∧ narrow .byte (.int v) = .int v := by
  obtain ⟨k1, k2⟩ := inN (n := 127) h.1 h.2 (by omega)
  rw [k2]
  exact ⟨nar_c ⟨iN v, by omega⟩, nar_b ⟨iN v, by omega⟩⟩
section ZS
variable {x : zF} {g : zG} {kk : zKK} {cc : ByteArray} {Ts : List Cond} {own : String} {nL : Nat} {rm : Room} {cs sl : Nat} {pc pc' : Nat} {lo lo' : List (Option Value)} {st : List Value} {m : zMem} {β : Type} {o : β}
theorem zE_in (C : zC x g cc Ts own nL rm) (q : Nat) (h : zAD g q) : zfA x q := by
  obtain ⟨i, h1, h2⟩ := h
  rw [h2]
  exact C.2.2.1 i h1
theorem z_sco (C : zC x g cc Ts own nL rm) (hE : zfE kk x) {i idx : Nat} (hi : i < 4) (hw : Cond.fieldLink own idx "java/lang/String" "coder" "B" ∈ Ts) (hd : decode cc pc = .ok (.getfield idx, 3)) (hp : pc + 3 = pc') (k : zV x g nL cs sl pc' lo (.int 0 :: st) m) : zV x g nL cs sl pc lo (.ref (kk.1 i) :: st) m := fun H locs ls hP hD hS hl => by
  subst hp
  exact vk_getf C.1.1 C.1.2.1 (hE.1.1 i hi).2.1 hS C.1.2.2.2.1 (C.1.2.2.2.2 _ hw) (fun _ h => h) hd (k H locs ls hP hD hS hl)
theorem z_sva (C : zC x g cc Ts own nL rm) (hE : zfE kk x) {i idx : Nat} (hi : i < 4) (hw : Cond.fieldLink own idx "java/lang/String" "value" "[B" ∈ Ts) (hd : decode cc pc = .ok (.getfield idx, 3)) (hp : pc + 3 = pc') (k : zV x g nL cs sl pc' lo (.ref (kk.2 i) :: st) m) : zV x g nL cs sl pc lo (.ref (kk.1 i) :: st) m := fun H locs ls hP hD hS hl => by
  subst hp
  exact vk_getf C.1.1 C.1.2.1 (hE.1.1 i hi).2.2.1 hS C.1.2.2.2.1 (C.1.2.2.2.2 _ hw) (fun _ h => h) hd (k H locs ls hP hD hS hl)
theorem z_sln (C : zC x g cc Ts own nL rm) (hE : zfE kk x) {i : Nat} (hi : i < 4) (hd : decode cc pc = .ok (.arraylength, 1)) (hp : pc + 1 = pc') (k : zV x g nL cs sl pc' lo (.int (sLn i) :: st) m) : zV x g nL cs sl pc lo (.ref (kk.2 i) :: st) m := fun H locs ls hP hD hS hl => by
  subst hp
  exact va_tlen C.1.1 C.1.2.1 (hE.1.1 i hi).2.2.2 hS rfl hd (k H locs ls hP hD hS hl)
theorem z_sba (C : zC x g cc Ts own nL rm) (hE : zfE kk x) {i : Nat} (hi : i < 4) {j : Int32} (hd : decode cc pc = .ok (.baload, 1)) (hp : pc + 1 = pc') {k2 : Int32 → Option β} (hf : ksb i j k2 = some o) (k : ∀ v, k2 v = some o → zV x g nL cs sl pc' lo (.int v :: st) m) : zV x g nL cs sl pc lo (.int j :: .ref (kk.2 i) :: st) m := fun H locs ls hP hD hS hl => by
  subst hp
  unfold ksb at hf
  by_cases hz : j < 0 ∨ kkL.getD i 0 ≤ j.toNatClampNeg
  · rw [if_pos hz] at hf; cases hf
  · rw [if_neg hz] at hf
    exact va_tb C.1.1 C.1.2.1 (hE.1.1 i hi).2.2.2 hS hz rfl hd (k _ hf H locs ls hP hD hS hl)
theorem z_gsc (C : zC x g cc Ts own nL rm) (hE : zfE kk x) {idx : Nat} (hw : Cond.fieldLink own idx "java/lang/String" "COMPACT_STRINGS" "Z" ∈ Ts) (hd : decode cc pc = .ok (.getstatic idx, 3)) (hp : pc + 3 = pc') (k : zV x g nL cs sl pc' lo (.int 1 :: st) m) : zV x g nL cs sl pc lo st m := fun H locs ls hP hD hS hl => by
  subst hp
  exact va_gets C.1.1 C.1.2.1 hE.2.2.1 hS C.1.2.2.2.1 (C.1.2.2.2.2 _ hw) (fun _ h => h) hd (k H locs ls hP hD hS hl)
theorem z_gsf (C : zC x g cc Ts own nL rm) (hE : zfE kk x) {idx : Nat} (hw : Cond.fieldLink own idx "jdk/internal/util/Preconditions" "SIOOBE_FORMATTER" "Ljava/util/function/BiFunction;" ∈ Ts) (hd : decode cc pc = .ok (.getstatic idx, 3)) (hp : pc + 3 = pc') (k : ∀ v : Value, (v = .null ∨ ∃ t, v = .ref t) → zV x g nL cs sl pc' lo (v :: st) m) : zV x g nL cs sl pc lo st m := fun H locs ls hP hD hS hl => by
  subst hp
  rcases hE.2.2.2.1 with h | ⟨t, h⟩
  · exact va_gets C.1.1 C.1.2.1 h hS C.1.2.2.2.1 (C.1.2.2.2.2 _ hw) (fun _ h => h) hd (k _ (Or.inl rfl) H locs ls hP hD hS hl)
  · exact va_gets C.1.1 C.1.2.1 h hS C.1.2.2.2.1 (C.1.2.2.2.2 _ hw) (fun _ h => h) hd (k _ (Or.inr ⟨t, rfl⟩) H locs ls hP hD hS hl)
theorem z_i2c (C : zC x g cc Ts own nL rm) {y : Int32} (hd : decode cc pc = .ok (.i2c, 1)) (hp : pc + 1 = pc') (k : zV x g nL cs sl pc' lo (.int (kic y) :: st) m) : zV x g nL cs sl pc lo (.int y :: st) m := fun H locs ls hP hD hS hl => by
  subst hp
  exact lv_i2c C.1.1 C.1.2.1 hd rfl (k H locs ls hP hD hS hl)
theorem z_lds (C : zC x g cc Ts RX1 nL rm) (hE : zfE kk x) {i idx : Nat} (hi : i < 4) (hx : kkX i = idx) (hd : decode cc pc = .ok (.ldc idx, 2)) (hp : pc + 2 = pc') (k : zV x g nL cs sl pc' lo (.ref (kk.1 i) :: st) m) : zV x g nL cs sl pc lo st m := fun H locs ls hP hD hS hl => by
  subst hp; subst hx
  exact va_ldcS C.1.1 C.1.2.1 C.1.2.2.2.1 (hE.2.1 i hi) hd (k H locs ls hP hD hS hl)
end ZS
section ZK2
variable {x : zF} {g : zG} {kk : zKK} {cc : ByteArray} {Ts : List Cond} {own : String} {nL : Nat} {rm : Room} {cs sl : Nat} {pc pc' : Nat} {lo lo' : List (Option Value)} {st : List Value} {m : zMem} {β γ : Type} {o : β}
variable {y : MethodName} {bytes : ByteArray} {maxL n idx : Nat} {ret : Option FieldType} {ws ws' : List Cond} {As : List Value}
theorem z_kvi (C : zC x g cc Ts own nL rm) (hE : zfE kk x) {fr lc : Nat} {o1 : Int32 × zMem} {Cn : String} {T : u_T} {N ci b : Nat} {ds : List (Nat × Nat)} (hcl : (zcl g)[ci]? = some (Cn, T, N)) (hb : b < zn g) (hsb : zsh g b = .inr (ci, ds)) (hG : GoodIn Ts (wsV own idx Cn y ws)) (hd : y.cls = Cn ∧ y.cls ≠ "java/lang/invoke/MethodHandle" ∧ y.cls ≠ "java/lang/invoke/VarHandle" ∧ (parseMethodDescriptor y.desc).map (fun d => d.parameters.length) = some n) (hw : ws = Cond.code y bytes maxL ret :: ws') (hM : zKI x.2.1 g kk y ws { frames := fr, cells := 0, slots := 0, locals := lc } (.ref (zad g b) :: As) m o1) (hn : As.length = n) (h8 : (st.map fun v => v.category).sum ≤ 8) (hR : fr + 1 ≤ rm.frames ∧ 8 + (maxL + 11) + lc ≤ rm.locals) (hcs : cs + 0 ≤ rm.cells ∧ sl + 0 ≤ rm.slots) (hdg : decode cc pc = .ok (.invokevirtual idx, 3)) (hp : pc + 3 = pc') {stk : List Value} (hst : stk = As.reverse ++ .ref (zad g b) :: st) (k : zV x g nL cs sl pc' lo (.int o1.1 :: st) o1.2) : zV x g nL cs sl pc lo stk m := fun H locs ls hP hD hS hl => by
  subst hp
  have hg := zwd_get g m hb
  rw [hsb] at hg
  refine va_calli (va_runV (As := As) (rest := st) C.1 hM (cwV n C.1.2.2.2.2 hG hw rfl rfl hd ⟨by rw [C.2.2.2]; exact hR.1, by rw [C.2.2.2]; exact hR.2⟩) ⟨zPK_blind _ _ _ _, va_recv C.2.1 hP hcl hg, fun U hU hW => ⟨rfl, ⟨by rw [hU]; exact hP, va_K.moved hW.alike C.2.1, zD_ad hD⟩, KE.go hE hW (fun a h1 h2 => by rw [hU]; exact hS.2.1 a h1 h2) (zE_in C)⟩⟩ rfl hn hl.1 hst (lv_room h8) hdg ⟨by rw [C.2.2.2]; exact hcs.1, by rw [C.2.2.2]; exact hcs.2⟩) hS (fun q _ h => zE_in C q h) (fun q h => zE_in C q h) (fun r u t H1 locs1 ht hvm hq hB hz1 hk1 hS1 => ?_)
  cases hq
  obtain ⟨hP1, hK1, hD1⟩ := hB
  rw [ht] at hP1
  exact k H1 locs1 ls hP1 (zD_up C.2.2.1 hD1) hS1 hl
theorem z_kti (C : zC x g cc Ts own nL rm) (hE : zfE kk x) {fr lc : Nat} {o1 : Int32 × zMem} {i : Nat} (hi : i < 4) (hG : GoodIn Ts (wsV own idx RJ0 y ws)) (hd : y.cls = RJ0 ∧ y.cls ≠ "java/lang/invoke/MethodHandle" ∧ y.cls ≠ "java/lang/invoke/VarHandle" ∧ (parseMethodDescriptor y.desc).map (fun d => d.parameters.length) = some n) (hw : ws = Cond.code y bytes maxL ret :: ws') (hM : zKI x.2.1 g kk y ws { frames := fr, cells := 0, slots := 0, locals := lc } (.ref (kk.1 i) :: As) m o1) (hn : As.length = n) (h8 : (st.map fun v => v.category).sum ≤ 8) (hR : fr + 1 ≤ rm.frames ∧ 8 + (maxL + 11) + lc ≤ rm.locals) (hcs : cs + 0 ≤ rm.cells ∧ sl + 0 ≤ rm.slots) (hdg : decode cc pc = .ok (.invokevirtual idx, 3)) (hp : pc + 3 = pc') {stk : List Value} (hst : stk = As.reverse ++ .ref (kk.1 i) :: st) (k : zV x g nL cs sl pc' lo (.int o1.1 :: st) o1.2) : zV x g nL cs sl pc lo stk m := fun H locs ls hP hD hS hl => by
  subst hp
  refine va_calli (va_runV (As := As) (rest := st) C.1 hM (cwV n C.1.2.2.2.2 hG hw rfl rfl hd ⟨by rw [C.2.2.2]; exact hR.1, by rw [C.2.2.2]; exact hR.2⟩) ⟨zPK_blind _ _ _ _, vk_recv hE.1 hi hS, fun U hU hW => ⟨rfl, ⟨by rw [hU]; exact hP, va_K.moved hW.alike C.2.1, zD_ad hD⟩, KE.go hE hW (fun a h1 h2 => by rw [hU]; exact hS.2.1 a h1 h2) (zE_in C)⟩⟩ rfl hn hl.1 hst (lv_room h8) hdg ⟨by rw [C.2.2.2]; exact hcs.1, by rw [C.2.2.2]; exact hcs.2⟩) hS (fun q _ h => zE_in C q h) (fun q h => zE_in C q h) (fun r u t H1 locs1 ht hvm hq hB hz1 hk1 hS1 => ?_)
  cases hq
  obtain ⟨hP1, hK1, hD1⟩ := hB
  rw [ht] at hP1
  exact k H1 locs1 ls hP1 (zD_up C.2.2.1 hD1) hS1 hl
theorem z_ksi (C : zC x g cc Ts own nL rm) (hE : zfE kk x) {fr lc : Nat} {o1 : Int32 × zMem} (hG : GoodIn Ts (va_wsS own idx y ws)) (hd : y.cls ≠ "java/lang/invoke/MethodHandle" ∧ y.cls ≠ "java/lang/invoke/VarHandle" ∧ (parseMethodDescriptor y.desc).map (fun d => d.parameters.length) = some n) (hw : ws = Cond.code y bytes maxL ret :: ws') (hM : zKI x.2.1 g kk y ws { frames := fr, cells := 0, slots := 0, locals := lc } As m o1) (hn : As.length = n) (h8 : (st.map fun v => v.category).sum ≤ 8) (hR : fr + 1 ≤ rm.frames ∧ 8 + (maxL + 11) + lc ≤ rm.locals) (hcs : cs + 0 ≤ rm.cells ∧ sl + 0 ≤ rm.slots) (hdg : decode cc pc = .ok (.invokestatic idx, 3)) (hp : pc + 3 = pc') {stk : List Value} (hst : stk = As.reverse ++ st) (k : zV x g nL cs sl pc' lo (.int o1.1 :: st) o1.2) : zV x g nL cs sl pc lo stk m := fun H locs ls hP hD hS hl => by
  subst hp
  refine va_calli (va_runS (As := As) (rest := st) C.1 hM (va_cwS n C.1.2.2.2.2 hG hw rfl rfl hd ⟨by rw [C.2.2.2]; exact hR.1, by rw [C.2.2.2]; exact hR.2⟩) ⟨zPK_blind _ _ _ _, fun U hU hW => ⟨rfl, ⟨by rw [hU]; exact hP, va_K.moved hW.alike C.2.1, zD_ad hD⟩, KE.go hE hW (fun a h1 h2 => by rw [hU]; exact hS.2.1 a h1 h2) (zE_in C)⟩⟩ rfl hn hl.1 hst (lv_room h8) hdg ⟨by rw [C.2.2.2]; exact hcs.1, by rw [C.2.2.2]; exact hcs.2⟩) hS (fun q _ h => zE_in C q h) (fun q h => zE_in C q h) (fun r u t H1 locs1 ht hvm hq hB hz1 hk1 hS1 => ?_)
  cases hq
  obtain ⟨hP1, hK1, hD1⟩ := hB
  rw [ht] at hP1
  exact k H1 locs1 ls hP1 (zD_up C.2.2.1 hD1) hS1 hl
theorem z_ksv (C : zC x g cc Ts own nL rm) (hE : zfE kk x) {fr lc : Nat} {o1 : zMem} (hG : GoodIn Ts (va_wsS own idx y ws)) (hd : y.cls ≠ "java/lang/invoke/MethodHandle" ∧ y.cls ≠ "java/lang/invoke/VarHandle" ∧ (parseMethodDescriptor y.desc).map (fun d => d.parameters.length) = some n) (hw : ws = Cond.code y bytes maxL ret :: ws') (hM : zKV x.2.1 g kk y ws { frames := fr, cells := 0, slots := 0, locals := lc } As m o1) (hn : As.length = n) (h8 : (st.map fun v => v.category).sum ≤ 8) (hR : fr + 1 ≤ rm.frames ∧ 8 + (maxL + 11) + lc ≤ rm.locals) (hcs : cs + 0 ≤ rm.cells ∧ sl + 0 ≤ rm.slots) (hdg : decode cc pc = .ok (.invokestatic idx, 3)) (hp : pc + 3 = pc') {stk : List Value} (hst : stk = As.reverse ++ st) (k : zV x g nL cs sl pc' lo st o1) : zV x g nL cs sl pc lo stk m := fun H locs ls hP hD hS hl => by
  subst hp
  refine va_callv (va_runS (As := As) (rest := st) C.1 hM (va_cwS n C.1.2.2.2.2 hG hw rfl rfl hd ⟨by rw [C.2.2.2]; exact hR.1, by rw [C.2.2.2]; exact hR.2⟩) ⟨zPK_blind _ _ _ _, fun U hU hW => ⟨rfl, ⟨by rw [hU]; exact hP, va_K.moved hW.alike C.2.1, zD_ad hD⟩, KE.go hE hW (fun a h1 h2 => by rw [hU]; exact hS.2.1 a h1 h2) (zE_in C)⟩⟩ rfl hn hl.1 hst (lv_room h8) hdg ⟨by rw [C.2.2.2]; exact hcs.1, by rw [C.2.2.2]; exact hcs.2⟩) hS (fun q _ h => zE_in C q h) (fun q h => zE_in C q h) (fun  u t H1 locs1 ht hvm hq hB hz1 hk1 hS1 => ?_)
  cases hq
  obtain ⟨hP1, hK1, hD1⟩ := hB
  rw [ht] at hP1
  exact k H1 locs1 ls hP1 (zD_up C.2.2.1 hD1) hS1 hl
/-- a callee throws: so does this body -/
theorem z_tcs (C : zC x g cc Ts own nL rm) {E : Nat} (hx : zXe x g kk m E) {fr lc : Nat} (hG : GoodIn Ts (va_wsS own idx y ws)) (hd : y.cls ≠ "java/lang/invoke/MethodHandle" ∧ y.cls ≠ "java/lang/invoke/VarHandle" ∧ (parseMethodDescriptor y.desc).map (fun d => d.parameters.length) = some n) (hw : ws = Cond.code y bytes maxL ret :: ws') (hM : zTV x.2.1 g kk y ws { frames := fr, cells := 1, slots := 6, locals := lc } As m E) (hn : As.length = n) (h8 : (st.map fun v => v.category).sum ≤ 8) (hR : fr + 1 ≤ rm.frames ∧ 8 + (maxL + 11) + lc ≤ rm.locals) (hcs : 0 + 1 ≤ rm.cells ∧ 0 + 6 ≤ rm.slots) (hdg : decode cc pc = .ok (.invokestatic idx, 3)) {stk : List Value} (hst : stk = As.reverse ++ st) : zV x g nL 0 0 pc lo stk m := fun H locs ls hP hD hS hl => by
  obtain ⟨⟨Qc, hQ⟩, hlocks, htab, -, hE, hA⟩ := hx
  unfold zW
  rw [hQ]
  refine vx_callv (vx_runS (As := As) (rest := st) C.1 hM (va_cwS n C.1.2.2.2.2 hG hw rfl rfl hd ⟨by rw [C.2.2.2]; exact hR.1, by rw [C.2.2.2]; exact hR.2⟩) ⟨zPK_blind _ _ _ _, fun U hU hW => ⟨rfl, ⟨by rw [hU]; exact hP, va_K.moved hW.alike C.2.1, zD_ad hD⟩, KE.go hE hW (fun a h1 h2 => by rw [hU]; exact hS.2.1 a h1 h2) (zE_in C)⟩⟩ rfl hn hl.1 hst (lv_room h8) hdg ⟨by rw [C.2.2.2]; exact hcs.1, by rw [C.2.2.2]; exact hcs.2⟩) hS (fun q _ h => zE_in C q h) (fun q h => zE_in C q h) (fun q _ h => zE_in C q h) (fun E' ce q9 u t H1 locs1 ht hvm hp hB hz1 hk1 hS1 hce hcv hcl => ?_) (fun u t H1 locs1 ht hvm hq hB hz1 hk1 hS1 => hq.elim)
  obtain ⟨hB1, hB2, hB3, hB4⟩ := hB
  subst hp
  refine vx_out (fun z hz => (htab z hz).elim) hlocks hce hcv hcl (fun t2 ht2 hal => ⟨u, rfl, ⟨hB1, by rw [ht2, ← ht]; exact hB2, va_K.moved hal C.2.1, hB4⟩, ?_⟩) (fun z hz => ?_) (Nat.le_of_ble_eq_true rfl) (Nat.le_of_ble_eq_true rfl)
  · rw [← hA]
    exact hS1.F ht2
  · rw [← hA]
    exact hS1.2.2 z hz
/-- 'throw new E(text)', the text by a short or by a wide index -/
theorem z_thr (C : zC x g cc Ts RX5 nL rm) {E : Nat} (hx : zXe x g kk m E) {ik is ic : Nat} {tx : String} (ht : (is, tx) ∈ txX) (hk : Cond.classLink RX5 ik (exN E) ∈ Ts) (hi : Cond.initialized (exN E) ∈ Ts) (hat : ∀ w ∈ (vx_atS RX5 ic (exN E) exC).filter goodWord, w ∈ Ts) (hgood : ∀ w ∈ Cond.classLink RX5 ik (exN E) :: Cond.initialized (exN E) :: vx_atS RX5 ic (exN E) exC, vx_ot w = true) (hbad : ∀ w ∈ (vx_atS RX5 ic (exN E) exC).filter (fun w => !goodWord w), w ∈ exB E) (hfit : Bundle.fit (exN E) = true) (hfn : ∀ n ∈ exC, Bundle.fit n = true) (hR : 2 + 3 < rm.frames ∧ (st.map fun v => v.category).sum + (13 * (2 + 1) + 43) ≤ rm.locals) (hcs : 0 + 1 ≤ rm.cells ∧ 0 + 6 ≤ rm.slots) (d0 : decode cc pc = .ok (.new ik, 3)) (d3 : decode cc (pc + 3) = .ok (.dup, 1)) (d4 : decode cc (pc + 4) = .ok (.ldc is, 2)) (d6 : decode cc (pc + 6) = .ok (.invokespecial ic, 3)) (d9 : decode cc (pc + 9) = .ok (.athrow, 1)) : zV x g nL 0 0 pc lo st m := fun H locs ls hP hD hS hl => by
  obtain ⟨⟨Qc, hQ⟩, hlocks, htab, hst, hE, hA⟩ := hx
  obtain ⟨e1, e2, e3, e4, e5, e6, e7, e8, e9, e10⟩ := hE
  obtain ⟨sa, hsa⟩ := e7 _ ht
  unfold zW
  rw [hQ]
  refine vx_throwS (A := zfA x) C.1.1 C.1.2.1 hst C.1.2.2.2.1 hfit hfn (C.1.2.2.2.2 _ hk) (C.1.2.2.2.2 _ hi) hsa (vx_hat (fun w h => C.1.2.2.2.2 _ (hat w h)) hbad (vx_c (va_Nw.use rfl (e8 E)) (vx_c (va_Nw.use rfl (e10 _ (by decide))) (vx_c (va_Nw.use rfl (e10 _ (by decide))) (vx_c (va_Nw.use rfl (e10 _ (by decide))) vx_n))))) hgood e5 e6 hS (hl.1.trans C.1.2.2.1.symm) d0 d3 d4 d6 d9 (fun z hz => (htab z hz).elim) (by rw [C.2.2.2]; exact hR.1) (by rw [C.2.2.2]; exact hR.2) (by rw [C.2.2.2]; exact hcs.1) (by rw [C.2.2.2]; exact hcs.2) hlocks (fun t hal hz hq => ⟨m, rfl, ⟨rfl, ?_, va_K.moved hal C.2.1, zD_ad hD⟩, Nat.le_trans hS.1 hz, fun q h1 h2 => ?_⟩) (fun z hz => by rw [← hA]; exact hS.2.2 z hz) (Nat.le_refl _) (Nat.le_refl _)
  · exact hP.kept (fun k q hk2 => hq _ (vx_lt hP hk2))
  · rw [hq q (Nat.lt_of_lt_of_le h1 hS.1)]
    exact hS.2.1 q h1 (by rw [hA]; exact h2)
theorem z_thrW (C : zC x g cc Ts RX5 nL rm) {E : Nat} (hx : zXe x g kk m E) {ik is ic : Nat} {tx : String} (ht : (is, tx) ∈ txX) (hk : Cond.classLink RX5 ik (exN E) ∈ Ts) (hi : Cond.initialized (exN E) ∈ Ts) (hat : ∀ w ∈ (vx_atS RX5 ic (exN E) exC).filter goodWord, w ∈ Ts) (hgood : ∀ w ∈ Cond.classLink RX5 ik (exN E) :: Cond.initialized (exN E) :: vx_atS RX5 ic (exN E) exC, vx_ot w = true) (hbad : ∀ w ∈ (vx_atS RX5 ic (exN E) exC).filter (fun w => !goodWord w), w ∈ exB E) (hfit : Bundle.fit (exN E) = true) (hfn : ∀ n ∈ exC, Bundle.fit n = true) (hR : 2 + 3 < rm.frames ∧ (st.map fun v => v.category).sum + (13 * (2 + 1) + 43) ≤ rm.locals) (hcs : 0 + 1 ≤ rm.cells ∧ 0 + 6 ≤ rm.slots) (d0 : decode cc pc = .ok (.new ik, 3)) (d3 : decode cc (pc + 3) = .ok (.dup, 1)) (d4 : decode cc (pc + 4) = .ok (.ldc_w is, 3)) (d7 : decode cc (pc + 7) = .ok (.invokespecial ic, 3)) (d10 : decode cc (pc + 10) = .ok (.athrow, 1)) : zV x g nL 0 0 pc lo st m := fun H locs ls hP hD hS hl => by
  obtain ⟨⟨Qc, hQ⟩, hlocks, htab, hst, hE, hA⟩ := hx
  obtain ⟨e1, e2, e3, e4, e5, e6, e7, e8, e9, e10⟩ := hE
  obtain ⟨sa, hsa⟩ := e7 _ ht
  unfold zW
  rw [hQ]
  refine vx_throwSW (A := zfA x) C.1.1 C.1.2.1 hst C.1.2.2.2.1 hfit hfn (C.1.2.2.2.2 _ hk) (C.1.2.2.2.2 _ hi) hsa (vx_hat (fun w h => C.1.2.2.2.2 _ (hat w h)) hbad (vx_c (va_Nw.use rfl (e8 E)) (vx_c (va_Nw.use rfl (e10 _ (by decide))) (vx_c (va_Nw.use rfl (e10 _ (by decide))) (vx_c (va_Nw.use rfl (e10 _ (by decide))) vx_n))))) hgood e5 e6 hS (hl.1.trans C.1.2.2.1.symm) d0 d3 d4 d7 d10 (fun z hz => (htab z hz).elim) (by rw [C.2.2.2]; exact hR.1) (by rw [C.2.2.2]; exact hR.2) (by rw [C.2.2.2]; exact hcs.1) (by rw [C.2.2.2]; exact hcs.2) hlocks (fun t hal hz hq => ⟨m, rfl, ⟨rfl, ?_, va_K.moved hal C.2.1, zD_ad hD⟩, Nat.le_trans hS.1 hz, fun q h1 h2 => ?_⟩) (fun z hz => by rw [← hA]; exact hS.2.2 z hz) (Nat.le_refl _) (Nat.le_refl _)
  · exact hP.kept (fun k q hk2 => hq _ (vx_lt hP hk2))
  · rw [hq q (Nat.lt_of_lt_of_le h1 hS.1)]
    exact hS.2.1 q h1 (by rw [hA]; exact h2)
end ZK2
theorem ex_fn : ∀ n ∈ exC, Bundle.fit n = true := by decide +kernel
theorem ex_f1 : Bundle.fit (exN 1) = true := by decide +kernel
theorem ex_f2 : Bundle.fit (exN 2) = true := by decide +kernel
theorem ex_f3 : Bundle.fit (exN 3) = true := by decide +kernel
theorem ex_g1 : ∀ w ∈ Cond.classLink RX5 257 (exN 1) :: Cond.initialized (exN 1) :: vx_atS RX5 261 (exN 1) exC, vx_ot w = true := by decide +kernel
theorem ex_g2 : ∀ w ∈ Cond.classLink RX5 185 (exN 2) :: Cond.initialized (exN 2) :: vx_atS RX5 189 (exN 2) exC, vx_ot w = true := by decide +kernel
theorem ex_g3 : ∀ w ∈ Cond.classLink RX5 93 (exN 3) :: Cond.initialized (exN 3) :: vx_atS RX5 97 (exN 3) exC, vx_ot w = true := by decide +kernel
theorem ex_b1 : ∀ w ∈ (vx_atS RX5 261 (exN 1) exC).filter (fun w => !goodWord w), w ∈ exB 1 := by decide +kernel
theorem ex_b2 : ∀ w ∈ (vx_atS RX5 189 (exN 2) exC).filter (fun w => !goodWord w), w ∈ exB 2 := by decide +kernel
theorem ex_b3 : ∀ w ∈ (vx_atS RX5 97 (exN 3) exC).filter (fun w => !goodWord w), w ∈ exB 3 := by decide +kernel
section ZE2
variable {l : Launch} {g : zG} {kk : zKK} {y : MethodName} {ws ws' : List Cond} {fr lc : Nat} {cc : ByteArray} {maxL : Nat} {av : List Value} {m : zMem} {lo0 : List (Option Value)}
def zRc (x : zF) (g : zG) (cc : ByteArray) (nL : Nat) (o : Int32 × zMem) : Prop := ∀ (pc : Nat) (lo : List (Option Value)) (v : Int32) (m : zMem), 0 ≤ v ∧ v ≤ 127 → (v, m) = o → decode cc pc = .ok (.ireturn, 1) → zV x g nL 0 0 pc lo [.int v] m
theorem zk_met_i (hy : plainFor y = true) (hw : ws = Cond.code y cc maxL (some .int) :: ws') {o : Int32 × zMem} (hlo : zargs av ++ List.replicate (maxL - (lg_sl av).length) none = lo0) (hsz : (lg_sl av).length ≤ maxL)
    (body : ∀ x : zF, x.2.1 = l → zC x g cc ws y.cls maxL { frames := fr, cells := 0, slots := 0, locals := lc } → zfE kk x → zRi x g cc maxL o → zV x g maxL 0 0 0 lo0 [] m) : zKI l g kk y ws { frames := fr, cells := 0, slots := 0, locals := lc } av m o := by
  refine z_ofW (cc := cc) (maxL := maxL) (ret := (some .int)) hy hw ?_
  intro p e s mid args below meth c s₁ B hml hv
  obtain ⟨rfl, ⟨hP, hK, hD⟩, hE⟩ := hv
  have hx := B.exec
  have hb := B.bytes
  have hr := B.returns
  have hts := atoms_spec (ws := ws) B.pre
  have hown : s.vm.findClass y.cls = some mid.cls := findClass_of_methodNamed B.named
  have hlocks := B.notSynchronized
  have hl0 := lv_entry av (n := maxL) hsz
  rw [lg_entry_eq]
  generalize (lg_sl av ++ List.replicate (maxL - (lg_sl av).length) Slot.unset).toArray = ls at hl0 ⊢
  have hl : zlo ls maxL lo0 := by
    rw [← hlo]
    exact zlo_pad (zlo_of hl0 (fun i v h => by have := zargs_in av 0 i v h; rwa [Nat.zero_add] at this)) _
  have hA : ∀ i, i < zn g → zAD g (zad g i) := fun i h => ⟨i, h, rfl⟩
  have K := body (p, l, e, (headSpec ws { frames := fr, cells := 0, slots := 0, locals := lc }).room, s, mid, av.toArray, below, meth, c, MQ below (va_Qi (fun r u => (r, u) = o) (zPP g) (zAD g)) av.toArray s 0 0 (zAD g), zAD g) rfl ⟨⟨hx, hb, hml, hown, hts⟩, hK, hA, rfl⟩ hE ?_
  · exact K s.heap [] ls hP hD va_S.rf hl
  · intro pc lo v m1 e1 hd H locs ls hP1 hD1 hS1 hl1
    exact W.iret hx hb hr (fun t ht hW => ⟨⟨v, m1, rfl, e1, by rw [ht]; exact hP1, va_K.moved hW.alike hK, zD_ad hD1⟩, hS1.F ht⟩) hS1.2.2 hd hlocks
theorem zk_met_z (hy : plainFor y = true) (hw : ws = Cond.code y cc maxL (some .boolean) :: ws') {o : Int32 × zMem} (hlo : zargs av ++ List.replicate (maxL - (lg_sl av).length) none = lo0) (hsz : (lg_sl av).length ≤ maxL)
    (body : ∀ x : zF, x.2.1 = l → zC x g cc ws y.cls maxL { frames := fr, cells := 0, slots := 0, locals := lc } → zfE kk x → zRz x g cc maxL o → zV x g maxL 0 0 0 lo0 [] m) : zKI l g kk y ws { frames := fr, cells := 0, slots := 0, locals := lc } av m o := by
  refine z_ofW (cc := cc) (maxL := maxL) (ret := (some .boolean)) hy hw ?_
  intro p e s mid args below meth c s₁ B hml hv
  obtain ⟨rfl, ⟨hP, hK, hD⟩, hE⟩ := hv
  have hx := B.exec
  have hb := B.bytes
  have hr := B.returns
  have hts := atoms_spec (ws := ws) B.pre
  have hown : s.vm.findClass y.cls = some mid.cls := findClass_of_methodNamed B.named
  have hlocks := B.notSynchronized
  have hl0 := lv_entry av (n := maxL) hsz
  rw [lg_entry_eq]
  generalize (lg_sl av ++ List.replicate (maxL - (lg_sl av).length) Slot.unset).toArray = ls at hl0 ⊢
  have hl : zlo ls maxL lo0 := by
    rw [← hlo]
    exact zlo_pad (zlo_of hl0 (fun i v h => by have := zargs_in av 0 i v h; rwa [Nat.zero_add] at this)) _
  have hA : ∀ i, i < zn g → zAD g (zad g i) := fun i h => ⟨i, h, rfl⟩
  have K := body (p, l, e, (headSpec ws { frames := fr, cells := 0, slots := 0, locals := lc }).room, s, mid, av.toArray, below, meth, c, MQ below (va_Qi (fun r u => (r, u) = o) (zPP g) (zAD g)) av.toArray s 0 0 (zAD g), zAD g) rfl ⟨⟨hx, hb, hml, hown, hts⟩, hK, hA, rfl⟩ hE ?_
  · exact K s.heap [] ls hP hD va_S.rf hl
  · intro pc lo v m1 hv e1 hd H locs ls hP1 hD1 hS1 hl1
    exact W.zret hx hb hr (z_bit hv).1 (fun t ht hW => ⟨⟨v, m1, rfl, e1, by rw [ht]; exact hP1, va_K.moved hW.alike hK, zD_ad hD1⟩, hS1.F ht⟩) hS1.2.2 hd hlocks
theorem zk_met_c (hy : plainFor y = true) (hw : ws = Cond.code y cc maxL (some .char) :: ws') {o : Int32 × zMem} (hlo : zargs av ++ List.replicate (maxL - (lg_sl av).length) none = lo0) (hsz : (lg_sl av).length ≤ maxL)
    (body : ∀ x : zF, x.2.1 = l → zC x g cc ws y.cls maxL { frames := fr, cells := 0, slots := 0, locals := lc } → zfE kk x → zRc x g cc maxL o → zV x g maxL 0 0 0 lo0 [] m) : zKI l g kk y ws { frames := fr, cells := 0, slots := 0, locals := lc } av m o := by
  refine z_ofW (cc := cc) (maxL := maxL) (ret := (some .char)) hy hw ?_
  intro p e s mid args below meth c s₁ B hml hv
  obtain ⟨rfl, ⟨hP, hK, hD⟩, hE⟩ := hv
  have hx := B.exec
  have hb := B.bytes
  have hr := B.returns
  have hts := atoms_spec (ws := ws) B.pre
  have hown : s.vm.findClass y.cls = some mid.cls := findClass_of_methodNamed B.named
  have hlocks := B.notSynchronized
  have hl0 := lv_entry av (n := maxL) hsz
  rw [lg_entry_eq]
  generalize (lg_sl av ++ List.replicate (maxL - (lg_sl av).length) Slot.unset).toArray = ls at hl0 ⊢
  have hl : zlo ls maxL lo0 := by
    rw [← hlo]
    exact zlo_pad (zlo_of hl0 (fun i v h => by have := zargs_in av 0 i v h; rwa [Nat.zero_add] at this)) _
  have hA : ∀ i, i < zn g → zAD g (zad g i) := fun i h => ⟨i, h, rfl⟩
  have K := body (p, l, e, (headSpec ws { frames := fr, cells := 0, slots := 0, locals := lc }).room, s, mid, av.toArray, below, meth, c, MQ below (va_Qi (fun r u => (r, u) = o) (zPP g) (zAD g)) av.toArray s 0 0 (zAD g), zAD g) rfl ⟨⟨hx, hb, hml, hown, hts⟩, hK, hA, rfl⟩ hE ?_
  · exact K s.heap [] ls hP hD va_S.rf hl
  · intro pc lo v m1 hv e1 hd H locs ls hP1 hD1 hS1 hl1
    exact W.zret hx hb hr (nar_cb hv).1 (fun t ht hW => ⟨⟨v, m1, rfl, e1, by rw [ht]; exact hP1, va_K.moved hW.alike hK, zD_ad hD1⟩, hS1.F ht⟩) hS1.2.2 hd hlocks
theorem zk_met_b (hy : plainFor y = true) (hw : ws = Cond.code y cc maxL (some .byte) :: ws') {o : Int32 × zMem} (hlo : zargs av ++ List.replicate (maxL - (lg_sl av).length) none = lo0) (hsz : (lg_sl av).length ≤ maxL)
    (body : ∀ x : zF, x.2.1 = l → zC x g cc ws y.cls maxL { frames := fr, cells := 0, slots := 0, locals := lc } → zfE kk x → zRc x g cc maxL o → zV x g maxL 0 0 0 lo0 [] m) : zKI l g kk y ws { frames := fr, cells := 0, slots := 0, locals := lc } av m o := by
  refine z_ofW (cc := cc) (maxL := maxL) (ret := (some .byte)) hy hw ?_
  intro p e s mid args below meth c s₁ B hml hv
  obtain ⟨rfl, ⟨hP, hK, hD⟩, hE⟩ := hv
  have hx := B.exec
  have hb := B.bytes
  have hr := B.returns
  have hts := atoms_spec (ws := ws) B.pre
  have hown : s.vm.findClass y.cls = some mid.cls := findClass_of_methodNamed B.named
  have hlocks := B.notSynchronized
  have hl0 := lv_entry av (n := maxL) hsz
  rw [lg_entry_eq]
  generalize (lg_sl av ++ List.replicate (maxL - (lg_sl av).length) Slot.unset).toArray = ls at hl0 ⊢
  have hl : zlo ls maxL lo0 := by
    rw [← hlo]
    exact zlo_pad (zlo_of hl0 (fun i v h => by have := zargs_in av 0 i v h; rwa [Nat.zero_add] at this)) _
  have hA : ∀ i, i < zn g → zAD g (zad g i) := fun i h => ⟨i, h, rfl⟩
  have K := body (p, l, e, (headSpec ws { frames := fr, cells := 0, slots := 0, locals := lc }).room, s, mid, av.toArray, below, meth, c, MQ below (va_Qi (fun r u => (r, u) = o) (zPP g) (zAD g)) av.toArray s 0 0 (zAD g), zAD g) rfl ⟨⟨hx, hb, hml, hown, hts⟩, hK, hA, rfl⟩ hE ?_
  · exact K s.heap [] ls hP hD va_S.rf hl
  · intro pc lo v m1 hv e1 hd H locs ls hP1 hD1 hS1 hl1
    exact W.zret hx hb hr (nar_cb hv).2 (fun t ht hW => ⟨⟨v, m1, rfl, e1, by rw [ht]; exact hP1, va_K.moved hW.alike hK, zD_ad hD1⟩, hS1.F ht⟩) hS1.2.2 hd hlocks
theorem zk_met_v (hy : plainFor y = true) (hw : ws = Cond.code y cc maxL none :: ws') {o : zMem} (hlo : zargs av ++ List.replicate (maxL - (lg_sl av).length) none = lo0) (hsz : (lg_sl av).length ≤ maxL)
    (body : ∀ x : zF, x.2.1 = l → zC x g cc ws y.cls maxL { frames := fr, cells := 0, slots := 0, locals := lc } → zfE kk x → zRv x g cc maxL o → zV x g maxL 0 0 0 lo0 [] m) : zKV l g kk y ws { frames := fr, cells := 0, slots := 0, locals := lc } av m o := by
  refine z_ofW (cc := cc) (maxL := maxL) (ret := none) hy hw ?_
  intro p e s mid args below meth c s₁ B hml hv
  obtain ⟨rfl, ⟨hP, hK, hD⟩, hE⟩ := hv
  have hx := B.exec
  have hb := B.bytes
  have hr := B.returns
  have hts := atoms_spec (ws := ws) B.pre
  have hown : s.vm.findClass y.cls = some mid.cls := findClass_of_methodNamed B.named
  have hlocks := B.notSynchronized
  have hl0 := lv_entry av (n := maxL) hsz
  rw [lg_entry_eq]
  generalize (lg_sl av ++ List.replicate (maxL - (lg_sl av).length) Slot.unset).toArray = ls at hl0 ⊢
  have hl : zlo ls maxL lo0 := by
    rw [← hlo]
    exact zlo_pad (zlo_of hl0 (fun i v h => by have := zargs_in av 0 i v h; rwa [Nat.zero_add] at this)) _
  have hA : ∀ i, i < zn g → zAD g (zad g i) := fun i h => ⟨i, h, rfl⟩
  have K := body (p, l, e, (headSpec ws { frames := fr, cells := 0, slots := 0, locals := lc }).room, s, mid, av.toArray, below, meth, c, MQ below (va_Qv (fun u => u = o) (zPP g) (zAD g)) av.toArray s 0 0 (zAD g), zAD g) rfl ⟨⟨hx, hb, hml, hown, hts⟩, hK, hA, rfl⟩ hE ?_
  · exact K s.heap [] ls hP hD va_S.rf hl
  · intro pc lo m1 e1 hd H locs ls hP1 hD1 hS1 hl1
    exact W.vret hx hb hr (fun t ht hW => ⟨⟨m1, rfl, e1, by rw [ht]; exact hP1, va_K.moved hW.alike hK, zD_ad hD1⟩, hS1.F ht⟩) hS1.2.2 hd hlocks
theorem zt_met_v (hst : l.stackTraces = false) (hy : plainName y.cls = true) {ret : Option FieldType} (hw : ws = Cond.code y cc maxL ret :: ws') {o : Nat} (hlo : zargs av ++ List.replicate (maxL - (lg_sl av).length) none = lo0) (hsz : (lg_sl av).length ≤ maxL)
    (body : ∀ x : zF, x.2.1 = l → zC x g cc ws y.cls maxL { frames := fr, cells := 1, slots := 6, locals := lc } → zXe x g kk m o → zV x g maxL 0 0 0 lo0 [] m) : zTV l g kk y ws { frames := fr, cells := 1, slots := 6, locals := lc } av m o := by
  refine vx_ofW (cc := cc) (maxL := maxL) (ret := ret) hy hw ?_
  intro p e s mid args below meth c s₁ B hml htab hv
  obtain ⟨rfl, ⟨hP, hK, hD⟩, hE⟩ := hv
  have hx := B.exec
  have hb := B.bytes
  have hts := atoms_spec (ws := ws) B.pre
  have hown : s.vm.findClass y.cls = some mid.cls := findClass_of_methodNamed B.named
  have hlocks := B.notSynchronized
  have hl0 := lv_entry av (n := maxL) hsz
  rw [lg_entry_eq]
  generalize (lg_sl av ++ List.replicate (maxL - (lg_sl av).length) Slot.unset).toArray = ls at hl0 ⊢
  have hl : zlo ls maxL lo0 := by
    rw [← hlo]
    exact zlo_pad (zlo_of hl0 (fun i v h => by have := zargs_in av 0 i v h; rwa [Nat.zero_add] at this)) _
  have hA : ∀ i, i < zn g → zAD g (zad g i) := fun i h => ⟨i, h, rfl⟩
  have K := body (p, l, e, (headSpec ws { frames := fr, cells := 1, slots := 6, locals := lc }).room, s, mid, av.toArray, below, meth, c, vx_MQ below (va_Qv (fun (_ : zMem) => False) (zPP g) (zAD g)) (zXC g m o) av.toArray s 1 6 (zAD g), zAD g) rfl ⟨⟨hx, hb, hml, hown, hts⟩, hK, hA, rfl⟩ ⟨⟨_, rfl⟩, hlocks, htab, hst, hE, rfl⟩
  exact K s.heap [] ls hP hD va_S.rf hl
theorem zt_met_i (hst : l.stackTraces = false) (hy : plainName y.cls = true) {ret : Option FieldType} (hw : ws = Cond.code y cc maxL ret :: ws') {o : Nat} (hlo : zargs av ++ List.replicate (maxL - (lg_sl av).length) none = lo0) (hsz : (lg_sl av).length ≤ maxL)
    (body : ∀ x : zF, x.2.1 = l → zC x g cc ws y.cls maxL { frames := fr, cells := 1, slots := 6, locals := lc } → zXe x g kk m o → zV x g maxL 0 0 0 lo0 [] m) : zTI l g kk y ws { frames := fr, cells := 1, slots := 6, locals := lc } av m o := by
  refine vx_ofW (cc := cc) (maxL := maxL) (ret := ret) hy hw ?_
  intro p e s mid args below meth c s₁ B hml htab hv
  obtain ⟨rfl, ⟨hP, hK, hD⟩, hE⟩ := hv
  have hx := B.exec
  have hb := B.bytes
  have hts := atoms_spec (ws := ws) B.pre
  have hown : s.vm.findClass y.cls = some mid.cls := findClass_of_methodNamed B.named
  have hlocks := B.notSynchronized
  have hl0 := lv_entry av (n := maxL) hsz
  rw [lg_entry_eq]
  generalize (lg_sl av ++ List.replicate (maxL - (lg_sl av).length) Slot.unset).toArray = ls at hl0 ⊢
  have hl : zlo ls maxL lo0 := by
    rw [← hlo]
    exact zlo_pad (zlo_of hl0 (fun i v h => by have := zargs_in av 0 i v h; rwa [Nat.zero_add] at this)) _
  have hA : ∀ i, i < zn g → zAD g (zad g i) := fun i h => ⟨i, h, rfl⟩
  have K := body (p, l, e, (headSpec ws { frames := fr, cells := 1, slots := 6, locals := lc }).room, s, mid, av.toArray, below, meth, c, vx_MQ below (va_Qi (fun _ (_ : zMem) => False) (zPP g) (zAD g)) (zXC g m o) av.toArray s 1 6 (zAD g), zAD g) rfl ⟨⟨hx, hb, hml, hown, hts⟩, hK, hA, rfl⟩ ⟨⟨_, rfl⟩, hlocks, htab, hst, hE, rfl⟩
  exact K s.heap [] ls hP hD va_S.rf hl
end ZE2
