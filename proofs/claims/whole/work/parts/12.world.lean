/-! the two pictures: the class's 50 cells, the reference's 7 -/
def isS (s : Nat) : Prop := s = 10 ∨ s = 20 ∨ s = 30 ∨ s = 40
def kis {α : Type} (s : Nat) (k : Option α) : Option α := if s = 10 ∨ s = 20 ∨ s = 30 ∨ s = 40 then k else none
theorem kis_V {α : Type} {s : Nat} {a : Option α} {o : α} {G : Prop} (hf : kis s a = some o) (h1 : isS s → a = some o → G) : G := ite_V hf h1 (fun _ h => by cases h)
def shS (s : Nat) : Nat → zSh := fun r => match r with
  | 0 => .inr (1, [(0, 0), (0, 0), (0, 0), (0, 0), (0, 0), (0, 0), (0, 0), (0, 0), (1, s + 1), (1, s + 2), (1, s + 3), (1, s + 4), (1, s + 5), (1, s + 6)])
  | 1 => .inl 9
  | 2 => .inl 256
  | 3 => .inl 24
  | 4 => .inl 24
  | 5 => .inl 24
  | 6 => .inr (2, [(1, s + 7), (1, s + 8), (1, s + 9)])
  | 7 => .inl 192
  | 8 => .inl 768
  | _ => .inl 768
def shC : Nat → zSh := fun a => match a with
  | 0 => .inr (4, [(1, 1), (1, 6), (2, 0), (2, 1), (2, 2), (2, 3), (0, 0)])
  | 1 => .inr (3, [(1, 2), (0, 0), (0, 0), (0, 0), (0, 0), (1, 3), (0, 0), (1, 4), (1, 5), (0, 0)])
  | 2 => .inl 12
  | 3 => .inl 3
  | 4 => .inl 39
  | 5 => .inl 39
  | 6 => .inr (0, [(1, 7), (0, 0), (1, 8), (0, 0), (1, 9), (0, 0)])
  | 7 => .inl 120
  | 8 => .inl 20
  | 9 => .inl 60
  | a => shS (a - a % 10) (a % 10)
def shM : Nat → zSh := fun a => match a with
  | 0 => .inr (5, [(1, 1), (1, 2), (1, 3), (0, 0), (0, 0), (1, 4), (0, 0), (1, 5), (0, 0), (0, 0), (0, 0), (0, 0), (0, 0), (1, 6), (3, 0)])
  | 1 => .inl 1816
  | 2 => .inl 5448
  | 3 => .inl 1816
  | 4 => .inl 120
  | 5 => .inl 256
  | _ => .inl 3
def isC (g : zG) : Prop := zsh g = shC ∧ zn g = 50 ∧ zcl g = vwCl
def isM (g : zG) : Prop := zsh g = shM ∧ zn g = 7 ∧ zcl g = vwCl
def zcls : List (String × u_T × Nat) := vwCl
theorem zw_C {g : zG} (h : isC g) : zcl g = vwCl := h.2.2
theorem zw_M {g : zG} (h : isM g) : zcl g = vwCl := h.2.2
theorem cl_0 {g : zG} (h : isC g) : (zcl g)[0]? = some (RX1, TX1, 6) := by rw [h.2.2]; rfl
theorem cl_1 {g : zG} (h : isC g) : (zcl g)[1]? = some (RX2, TX2, 14) := by rw [h.2.2]; rfl
theorem cl_2 {g : zG} (h : isC g) : (zcl g)[2]? = some (RX3, TX3, 3) := by rw [h.2.2]; rfl
theorem cl_3 {g : zG} (h : isC g) : (zcl g)[3]? = some (RX4, TX4, 10) := by rw [h.2.2]; rfl
theorem cl_4 {g : zG} (h : isC g) : (zcl g)[4]? = some (RX5, TX5, 7) := by rw [h.2.2]; rfl
theorem cl_5 {g : zG} (h : isM g) : (zcl g)[5]? = some (RX6, TX6, 15) := by rw [h.2.2]; rfl
theorem sn_0 {g : zG} {s : Nat} (hC : isC g) (hs : isS s) : s < zn g := by rw [hC.2.1]; rcases hs with rfl | rfl | rfl | rfl <;> decide
theorem sc_0 {g : zG} {s : Nat} (hC : isC g) (hs : isS s) : zsh g s = .inr (1, [(0, 0), (0, 0), (0, 0), (0, 0), (0, 0), (0, 0), (0, 0), (0, 0), (1, s + 1), (1, s + 2), (1, s + 3), (1, s + 4), (1, s + 5), (1, s + 6)]) := by rw [hC.1]; rcases hs with rfl | rfl | rfl | rfl <;> rfl
theorem sn_1 {g : zG} {s : Nat} (hC : isC g) (hs : isS s) : (s + 1) < zn g := by rw [hC.2.1]; rcases hs with rfl | rfl | rfl | rfl <;> decide
theorem sc_1 {g : zG} {s : Nat} (hC : isC g) (hs : isS s) : zsh g (s + 1) = .inl 9 := by rw [hC.1]; rcases hs with rfl | rfl | rfl | rfl <;> rfl
theorem sn_2 {g : zG} {s : Nat} (hC : isC g) (hs : isS s) : (s + 2) < zn g := by rw [hC.2.1]; rcases hs with rfl | rfl | rfl | rfl <;> decide
theorem sc_2 {g : zG} {s : Nat} (hC : isC g) (hs : isS s) : zsh g (s + 2) = .inl 256 := by rw [hC.1]; rcases hs with rfl | rfl | rfl | rfl <;> rfl
theorem sn_3 {g : zG} {s : Nat} (hC : isC g) (hs : isS s) : (s + 3) < zn g := by rw [hC.2.1]; rcases hs with rfl | rfl | rfl | rfl <;> decide
theorem sc_3 {g : zG} {s : Nat} (hC : isC g) (hs : isS s) : zsh g (s + 3) = .inl 24 := by rw [hC.1]; rcases hs with rfl | rfl | rfl | rfl <;> rfl
theorem sn_4 {g : zG} {s : Nat} (hC : isC g) (hs : isS s) : (s + 4) < zn g := by rw [hC.2.1]; rcases hs with rfl | rfl | rfl | rfl <;> decide
theorem sc_4 {g : zG} {s : Nat} (hC : isC g) (hs : isS s) : zsh g (s + 4) = .inl 24 := by rw [hC.1]; rcases hs with rfl | rfl | rfl | rfl <;> rfl
theorem sn_5 {g : zG} {s : Nat} (hC : isC g) (hs : isS s) : (s + 5) < zn g := by rw [hC.2.1]; rcases hs with rfl | rfl | rfl | rfl <;> decide
theorem sc_5 {g : zG} {s : Nat} (hC : isC g) (hs : isS s) : zsh g (s + 5) = .inl 24 := by rw [hC.1]; rcases hs with rfl | rfl | rfl | rfl <;> rfl
theorem sn_6 {g : zG} {s : Nat} (hC : isC g) (hs : isS s) : (s + 6) < zn g := by rw [hC.2.1]; rcases hs with rfl | rfl | rfl | rfl <;> decide
theorem sc_6 {g : zG} {s : Nat} (hC : isC g) (hs : isS s) : zsh g (s + 6) = .inr (2, [(1, s + 7), (1, s + 8), (1, s + 9)]) := by rw [hC.1]; rcases hs with rfl | rfl | rfl | rfl <;> rfl
theorem sn_7 {g : zG} {s : Nat} (hC : isC g) (hs : isS s) : (s + 7) < zn g := by rw [hC.2.1]; rcases hs with rfl | rfl | rfl | rfl <;> decide
theorem sc_7 {g : zG} {s : Nat} (hC : isC g) (hs : isS s) : zsh g (s + 7) = .inl 192 := by rw [hC.1]; rcases hs with rfl | rfl | rfl | rfl <;> rfl
theorem sn_8 {g : zG} {s : Nat} (hC : isC g) (hs : isS s) : (s + 8) < zn g := by rw [hC.2.1]; rcases hs with rfl | rfl | rfl | rfl <;> decide
theorem sc_8 {g : zG} {s : Nat} (hC : isC g) (hs : isS s) : zsh g (s + 8) = .inl 768 := by rw [hC.1]; rcases hs with rfl | rfl | rfl | rfl <;> rfl
theorem sn_9 {g : zG} {s : Nat} (hC : isC g) (hs : isS s) : (s + 9) < zn g := by rw [hC.2.1]; rcases hs with rfl | rfl | rfl | rfl <;> decide
theorem sc_9 {g : zG} {s : Nat} (hC : isC g) (hs : isS s) : zsh g (s + 9) = .inl 768 := by rw [hC.1]; rcases hs with rfl | rfl | rfl | rfl <;> rfl
theorem tn_0 {g : zG} (hC : isC g) : 0 < zn g := by rw [hC.2.1]; decide
theorem tc_0 {g : zG} (hC : isC g) : zsh g 0 = .inr (4, [(1, 1), (1, 6), (2, 0), (2, 1), (2, 2), (2, 3), (0, 0)]) := by rw [hC.1]; rfl
theorem tn_1 {g : zG} (hC : isC g) : 1 < zn g := by rw [hC.2.1]; decide
theorem tc_1 {g : zG} (hC : isC g) : zsh g 1 = .inr (3, [(1, 2), (0, 0), (0, 0), (0, 0), (0, 0), (1, 3), (0, 0), (1, 4), (1, 5), (0, 0)]) := by rw [hC.1]; rfl
theorem tn_2 {g : zG} (hC : isC g) : 2 < zn g := by rw [hC.2.1]; decide
theorem tc_2 {g : zG} (hC : isC g) : zsh g 2 = .inl 12 := by rw [hC.1]; rfl
theorem tn_3 {g : zG} (hC : isC g) : 3 < zn g := by rw [hC.2.1]; decide
theorem tc_3 {g : zG} (hC : isC g) : zsh g 3 = .inl 3 := by rw [hC.1]; rfl
theorem tn_4 {g : zG} (hC : isC g) : 4 < zn g := by rw [hC.2.1]; decide
theorem tc_4 {g : zG} (hC : isC g) : zsh g 4 = .inl 39 := by rw [hC.1]; rfl
theorem tn_5 {g : zG} (hC : isC g) : 5 < zn g := by rw [hC.2.1]; decide
theorem tc_5 {g : zG} (hC : isC g) : zsh g 5 = .inl 39 := by rw [hC.1]; rfl
theorem tn_6 {g : zG} (hC : isC g) : 6 < zn g := by rw [hC.2.1]; decide
theorem tc_6 {g : zG} (hC : isC g) : zsh g 6 = .inr (0, [(1, 7), (0, 0), (1, 8), (0, 0), (1, 9), (0, 0)]) := by rw [hC.1]; rfl
theorem tn_7 {g : zG} (hC : isC g) : 7 < zn g := by rw [hC.2.1]; decide
theorem tc_7 {g : zG} (hC : isC g) : zsh g 7 = .inl 120 := by rw [hC.1]; rfl
theorem tn_8 {g : zG} (hC : isC g) : 8 < zn g := by rw [hC.2.1]; decide
theorem tc_8 {g : zG} (hC : isC g) : zsh g 8 = .inl 20 := by rw [hC.1]; rfl
theorem tn_9 {g : zG} (hC : isC g) : 9 < zn g := by rw [hC.2.1]; decide
theorem tc_9 {g : zG} (hC : isC g) : zsh g 9 = .inl 60 := by rw [hC.1]; rfl
theorem mn_0 {g : zG} (hM : isM g) : 0 < zn g := by rw [hM.2.1]; decide
theorem mc_0 {g : zG} (hM : isM g) : zsh g 0 = .inr (5, [(1, 1), (1, 2), (1, 3), (0, 0), (0, 0), (1, 4), (0, 0), (1, 5), (0, 0), (0, 0), (0, 0), (0, 0), (0, 0), (1, 6), (3, 0)]) := by rw [hM.1]; rfl
theorem mn_1 {g : zG} (hM : isM g) : 1 < zn g := by rw [hM.2.1]; decide
theorem mc_1 {g : zG} (hM : isM g) : zsh g 1 = .inl 1816 := by rw [hM.1]; rfl
theorem mn_2 {g : zG} (hM : isM g) : 2 < zn g := by rw [hM.2.1]; decide
theorem mc_2 {g : zG} (hM : isM g) : zsh g 2 = .inl 5448 := by rw [hM.1]; rfl
theorem mn_3 {g : zG} (hM : isM g) : 3 < zn g := by rw [hM.2.1]; decide
theorem mc_3 {g : zG} (hM : isM g) : zsh g 3 = .inl 1816 := by rw [hM.1]; rfl
theorem mn_4 {g : zG} (hM : isM g) : 4 < zn g := by rw [hM.2.1]; decide
theorem mc_4 {g : zG} (hM : isM g) : zsh g 4 = .inl 120 := by rw [hM.1]; rfl
theorem mn_5 {g : zG} (hM : isM g) : 5 < zn g := by rw [hM.2.1]; decide
theorem mc_5 {g : zG} (hM : isM g) : zsh g 5 = .inl 256 := by rw [hM.1]; rfl
theorem mn_6 {g : zG} (hM : isM g) : 6 < zn g := by rw [hM.2.1]; decide
theorem mc_6 {g : zG} (hM : isM g) : zsh g 6 = .inl 3 := by rw [hM.1]; rfl
theorem zhash_0 : ∀ i : Fin 15, ∀ e ∈ ([(1, 1), (1, 2), (1, 3), (0, 0), (0, 0), (1, 4), (0, 0), (1, 5), (0, 0), (0, 0), (0, 0), (0, 0), (0, 0), (1, 6), (3, 0)] : List (Nat × Nat))[i.val]?, e.1 ≠ 0 → e.1 ≠ 1 → e.1 ≠ 2 → i.val = 14 := by decide
theorem zhash_u : ∀ (i : Nat) (e : Nat × Nat), ([(1, 1), (1, 2), (1, 3), (0, 0), (0, 0), (1, 4), (0, 0), (1, 5), (0, 0), (0, 0), (0, 0), (0, 0), (0, 0), (1, 6), (3, 0)] : List (Nat × Nat))[i]? = some e → e.1 ≠ 0 → e.1 ≠ 1 → e.1 ≠ 2 → i = 14 := fun i e h => by
  have hi : i < 15 := (List.getElem?_eq_some_iff.mp h).1
  exact zhash_0 ⟨i, hi⟩ e h
theorem zno2 {l : List (Nat × Nat)} (hl : l.all (fun e => e.1 != 2) = true) {i v : Nat} : ¬ l[i]? = some (2, v) := fun h => by
  have := List.all_eq_true.mp hl _ (List.mem_of_getElem? h)
  simp at this
theorem zrefs_u {g : zG} (hC : isC g) {v : Nat} : ∀ (b cb : Nat) (db : List (Nat × Nat)) (i : Nat), zsh g b = .inr (cb, db) → db[i]? = some (2, v) → b = 0 ∧ i = v + 2 := by
  rw [hC.1]
  intro b cb db i h1 h2
  match b, h1 with
  | 0, h1 =>
    cases h1
    refine ⟨rfl, ?_⟩
    match i, h2 with
    | 0, h2 => cases h2
    | 1, h2 => cases h2
    | 2, h2 => cases h2; rfl
    | 3, h2 => cases h2; rfl
    | 4, h2 => cases h2; rfl
    | 5, h2 => cases h2; rfl
    | 6, h2 => cases h2
    | i + 7, h2 => cases h2
  | 1, h1 => cases h1; exact absurd h2 (zno2 rfl)
  | 2, h1 => cases h1
  | 3, h1 => cases h1
  | 4, h1 => cases h1
  | 5, h1 => cases h1
  | 6, h1 => cases h1; exact absurd h2 (zno2 rfl)
  | 7, h1 => cases h1
  | 8, h1 => cases h1
  | 9, h1 => cases h1
  | b + 10, h1 =>
    have h3 : shS (b + 10 - (b + 10) % 10) ((b + 10) % 10) = .inr (cb, db) := h1
    generalize b + 10 - (b + 10) % 10 = s at h3
    generalize (b + 10) % 10 = r at h3
    match r, h3 with
    | 0, h3 => cases h3; exact absurd h2 (zno2 rfl)
    | 1, h3 => cases h3
    | 2, h3 => cases h3
    | 3, h3 => cases h3
    | 4, h3 => cases h3
    | 5, h3 => cases h3
    | 6, h3 => cases h3; exact absurd h2 (zno2 rfl)
    | 7, h3 => cases h3
    | 8, h3 => cases h3
    | r + 9, h3 => cases h3
theorem zinc {y a b : Int32} (h : a = b) : y + a = y + b := by rw [h]
theorem zlk2 {y : Int32} {d : Int} {a1 a2 o1 o2 : Int} (h1 : ¬ y = Int32.ofInt a1) (h2 : ¬ y = Int32.ofInt a2) : Op.lookupswitch.offset [(a1, o1), (a2, o2)] d y.toInt = d := by
  have e1 : ¬ y.toInt = a1 := fun h => h1 (by rw [← h]; exact (Int32.ofInt_toInt y).symm)
  have e2 : ¬ y.toInt = a2 := fun h => h2 (by rw [← h]; exact (Int32.ofInt_toInt y).symm)
  have e1' : ¬ a1 = y.toInt := fun h => e1 h.symm
  have e2' : ¬ a2 = y.toInt := fun h => e2 h.symm
  simp [Op.lookupswitch.offset, e1, e2, e1', e2']
theorem zb_m10 : (Int8.ofInt (-10)).toInt32 = (-10) := by decide
theorem zb_6 : (Int8.ofInt (6)).toInt32 = 6 := by decide
theorem zb_7 : (Int8.ofInt (7)).toInt32 = 7 := by decide
theorem zb_8 : (Int8.ofInt (8)).toInt32 = 8 := by decide
theorem zb_9 : (Int8.ofInt (9)).toInt32 = 9 := by decide
theorem zb_10 : (Int8.ofInt (10)).toInt32 = 10 := by decide
theorem zb_11 : (Int8.ofInt (11)).toInt32 = 11 := by decide
theorem zb_12 : (Int8.ofInt (12)).toInt32 = 12 := by decide
theorem zb_13 : (Int8.ofInt (13)).toInt32 = 13 := by decide
theorem zb_15 : (Int8.ofInt (15)).toInt32 = 15 := by decide
theorem zb_16 : (Int8.ofInt (16)).toInt32 = 16 := by decide
theorem zb_24 : (Int8.ofInt (24)).toInt32 = 24 := by decide
theorem zb_31 : (Int8.ofInt (31)).toInt32 = 31 := by decide
theorem zb_32 : (Int8.ofInt (32)).toInt32 = 32 := by decide
theorem zb_39 : (Int8.ofInt (39)).toInt32 = 39 := by decide
theorem zb_43 : (Int8.ofInt (43)).toInt32 = 43 := by decide
theorem zb_48 : (Int8.ofInt (48)).toInt32 = 48 := by decide
theorem zb_57 : (Int8.ofInt (57)).toInt32 = 57 := by decide
theorem zb_59 : (Int8.ofInt (59)).toInt32 = 59 := by decide
theorem zb_75 : (Int8.ofInt (75)).toInt32 = 75 := by decide
theorem zb_97 : (Int8.ofInt (97)).toInt32 = 97 := by decide
theorem zb_99 : (Int8.ofInt (99)).toInt32 = 99 := by decide
theorem zb_100 : (Int8.ofInt (100)).toInt32 = 100 := by decide
theorem zb_101 : (Int8.ofInt (101)).toInt32 = 101 := by decide
theorem zb_105 : (Int8.ofInt (105)).toInt32 = 105 := by decide
theorem zb_106 : (Int8.ofInt (106)).toInt32 = 106 := by decide
theorem zb_107 : (Int8.ofInt (107)).toInt32 = 107 := by decide
theorem zb_108 : (Int8.ofInt (108)).toInt32 = 108 := by decide
theorem zb_110 : (Int8.ofInt (110)).toInt32 = 110 := by decide
theorem zb_111 : (Int8.ofInt (111)).toInt32 = 111 := by decide
theorem zb_116 : (Int8.ofInt (116)).toInt32 = 116 := by decide
theorem zb_118 : (Int8.ofInt (118)).toInt32 = 118 := by decide
theorem zb_120 : (Int8.ofInt (120)).toInt32 = 120 := by decide
theorem zb_122 : (Int8.ofInt (122)).toInt32 = 122 := by decide
theorem zb_127 : (Int8.ofInt (127)).toInt32 = 127 := by decide
theorem zi_m16 : Int32.ofInt (-16) = (-16) := by decide
theorem zi_m8 : Int32.ofInt (-8) = (-8) := by decide
theorem zi_m4 : Int32.ofInt (-4) = (-4) := by decide
theorem zi_m2 : Int32.ofInt (-2) = (-2) := by decide
theorem zi_m1 : Int32.ofInt (-1) = (-1) := by decide
theorem zi_0 : Int32.ofInt (0) = 0 := by decide
theorem zi_1 : Int32.ofInt (1) = 1 := by decide
theorem zi_2 : Int32.ofInt (2) = 2 := by decide
theorem zi_3 : Int32.ofInt (3) = 3 := by decide
theorem zi_4 : Int32.ofInt (4) = 4 := by decide
theorem zi_5 : Int32.ofInt (5) = 5 := by decide
theorem zi_6 : Int32.ofInt (6) = 6 := by decide
theorem zi_7 : Int32.ofInt (7) = 7 := by decide
theorem zs_192 : (Int16.ofInt (192)).toInt32 = 192 := by decide
theorem zs_255 : (Int16.ofInt (255)).toInt32 = 255 := by decide
theorem zs_256 : (Int16.ofInt (256)).toInt32 = 256 := by decide
theorem zs_500 : (Int16.ofInt (500)).toInt32 = 500 := by decide
theorem zs_768 : (Int16.ofInt (768)).toInt32 = 768 := by decide
theorem zs_1000 : (Int16.ofInt (1000)).toInt32 = 1000 := by decide
theorem zs_1816 : (Int16.ofInt (1816)).toInt32 = 1816 := by decide
theorem zs_3632 : (Int16.ofInt (3632)).toInt32 = 3632 := by decide
