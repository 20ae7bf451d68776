/-! the state of a new object -/
def A0 : AS := (fun i => match i with
  | 0 => 2
  | 1 => 100
  | 2 => 20
  | 3 => 2
  | 4 => 8
  | _ => 0, fun _ => 0, fun _ => 0, fun _ => 0, fun _ _ => [])
theorem slot_A0 (i : Nat) : slot A0 i = 24 := fs_all (fun j _ => by
  have : ¬ aW A0 j = i + 1 := fun z => by
    have h : (0 : Nat) = i + 1 := z
    omega
  exact decide_eq_false this)
theorem cnt_A0 : cnt A0 = 0 := by decide
theorem BK_nil (f g : Nat → Int32) : BK 0 f g [] := ⟨rfl, by decide, fun j e h => by cases h⟩
theorem WF_A0 : WF A0 := ⟨fun k _ => Nat.zero_le _, fun k j _ _ h _ => absurd rfl h, fun k b _ _ => ⟨Nat.zero_le _, fun _ => rfl, List.nodup_nil, fun e h => by cases h⟩⟩
theorem GD_A0 : GD A0 0 := ⟨WF_A0, 0, 20, rfl, Nat.le_refl _, rfl, by decide, by decide⟩
theorem s0_7 : ∀ i : Fin 7, m0C.1 10 i.val = aS A0 i.val := by decide
theorem s0_9 : ∀ i : Fin 9, m0C.1 11 i.val = aS A0 (7 + i.val) := by decide
theorem PC_0 : PC m0C A0 [] := by
  refine ⟨⟨fun i hi => ?_, fun i j hi hj e => ?_⟩, ⟨fun i hi => s0_7 ⟨i, hi⟩, ?_, fun i hi => s0_9 ⟨i, hi⟩, fun i hi => ?_, fun k hk => ?_, fun k hk hw => absurd rfl hw⟩, by decide, rfl, fun i B h => by cases h⟩
  · show isS (10 * (i + 1))
    unfold isS
    omega
  · have e2 : 10 * (i + 1) = 10 * (j + 1) := e
    omega
  · rw [cnt_A0]; rfl
  · unfold rowI
    rw [slot_A0, if_neg (by omega)]
    show flF (fun _ => 0) (-1) 256 i = -1
    unfold flF
    rw [if_pos hi]
  · show flF (fun _ => 0) (-1) 24 k = nI 0 - 1
    unfold flF
    rw [if_pos hk]; rfl
theorem m0_16 : ∀ i : Fin 16, mM0.1 1 i.val = aS A0 i.val := by decide
theorem mM0_big {j : Nat} (h : 16 ≤ j) : mM0.1 1 j = 0 := by
  show upd (upd (upd (upd (upd (fun _ => 0) 0 2) 1 100) 2 20) 3 2) 4 8 j = 0
  unfold upd
  rw [if_neg (by omega), if_neg (by omega), if_neg (by omega), if_neg (by omega), if_neg (by omega)]
theorem PM_00 : PM mM0 A0 [] := by
  refine ⟨⟨fun i hi => m0_16 ⟨i, hi⟩, fun k hk => ⟨mM0_big (by omega), mM0_big (by omega), mM0_big (by omega), fun b hb => ?_⟩⟩, by decide, rfl, fun i B h => by cases h⟩
  unfold BkR
  rw [mM0_big (by omega)]
  exact BK_nil _ _
theorem ScC_0 : ScC m0C 0 (fun _ => 0) := ⟨rfl, by decide, fun j hj => absurd hj (by omega)⟩
theorem ScM_0 : ScM mM0 0 (fun _ => 0) := ⟨rfl, by decide, fun j hj => absurd hj (by omega)⟩
/-! class and reference side by side; n bounds the time -/
def INV (mC mM : zMem) (n : Nat) : Prop := ∃ (A : AS) (L : List AS) (k : Nat) (f : Nat → Int32), PC mC A L ∧ PM mM A L ∧ ScC mC k f ∧ ScM mM k f ∧ GD A n ∧ GL L n
theorem INV_0 : INV m0C mM0 0 := ⟨A0, [], 0, fun _ => 0, PC_0, PM_00, ScC_0, ScM_0, GD_A0, fun B h => by cases h⟩
theorem INV.mk {mC mM : zMem} {n n' : Nat} {A : AS} {L : List AS} {k : Nat} {f : Nat → Int32} (h1 : PC mC A L) (h2 : PM mM A L) (h3 : ScC mC k f) (h4 : ScM mM k f) (h5 : GD A n) (h6 : GL L n) (hn : n ≤ n') : INV mC mM n' := ⟨A, L, k, f, h1, h2, h3, h4, h5.mono hn, h6.mono hn⟩
theorem INV.c4 {mC mM : zMem} {n : Nat} {A : AS} {L : List AS} {k : Nat} {f : Nat → Int32} (h1 : PC mC A L) (h2 : PM mM A L) (h3 : ScC mC k f) (h4 : ScM mM k f) (h5 : GD A n) (h6 : GL L n) (c : Int32) : INV mC (zsI mM 0 4 c) (n + 10000) := INV.mk h1 (PM_4 h2 c).1 h3 (ScM_I h4 (by omega) (by omega)) h5 h6 (by omega)
abbrev NN : Nat := 200000
def cd2 (r : Int32) : Prop := r = 0 ∨ r = 1 ∨ r = 2
theorem cd2_mb (A : AS) (a : Int32) : cd2 (mbF A a) := by
  unfold mbF
  split
  · split
    · exact Or.inl rfl
    · exact Or.inr (Or.inr rfl)
  · exact Or.inr (Or.inl rfl)
theorem cd2_lk (A : AS) (a x : Int32) : cd2 (lkF A a x) := by
  unfold lkF
  split
  · exact cd2_mb A a
  · exact Or.inr (Or.inl rfl)
theorem cd2_et (A : AS) (a b c d : Int32) : cd2 (etF A a b c d) := by
  unfold etF
  split
  · exact cd2_mb A a
  · exact Or.inr (Or.inl rfl)
theorem cd2_sh (A : AS) (a o : Int32) : cd2 (shF A a o) := by
  unfold shF
  split
  · exact cd2_mb A a
  · exact Or.inr (Or.inl rfl)
theorem cd2_pb (A : AS) (a x q : Int32) : cd2 (pbF A a x q) := by
  unfold pbF
  split
  · exact cd2_lk A a x
  · exact Or.inr (Or.inl rfl)
theorem cd2_sw (A : AS) (a b c o p : Int32) : cd2 (swF A a b c o p) := by
  unfold swF
  split
  · exact cd2_mb A p
  · exact Or.inr (Or.inl rfl)
theorem GD_qu {A : AS} {n : Nat} (g : GD A n) (a b : Int32) : GD (quA A a b) n := by
  refine g.sc g.1 ?_ ?_
  · unfold quA
    rw [sS_n _ _ (by omega), sS_n _ _ (by omega)]
  · unfold quA
    rw [sS_n _ _ (by omega), sS_n _ _ (by omega)]
theorem GD_tk {A : AS} {n : Nat} {d : Int32} (g : GD A n) (h : okT d) : GD (tkS A d).2 (n + 500) := by
  obtain ⟨k1, k2⟩ := okT_n h
  have g2 := (GD_tick (d := iN d) g).2
  rw [← k2] at g2
  exact g2.mono (by omega)
theorem GD_lu {A : AS} {n : Nat} {a x : Int32} (g : GD A n) (h : lkF A a x = 0) : GD (luA A a x) n := by
  obtain ⟨q1, q2⟩ := lkF_0 h
  obtain ⟨q3, q4⟩ := mbF_0 q2
  exact GD_look g (okI_n q3).1 (okI_n q1).1 q4
