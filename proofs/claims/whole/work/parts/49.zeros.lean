/-! leading zeros of 32 bits -/
theorem uI (u : UInt32) : u.toInt32 = nI u.toNat := by
  apply Int32.toBitVec_inj.1
  show u.toBitVec = BitVec.ofNat 32 u.toBitVec.toNat
  simp
theorem vI (v : Int32) : v = nI v.toUInt32.toNat := by
  apply Int32.toBitVec_inj.1
  show v.toBitVec = BitVec.ofNat 32 v.toBitVec.toNat
  simp
theorem nIu {n : Nat} (h : n < 2 ^ 32) : (nI n).toUInt32.toNat = n := by
  show (BitVec.ofNat 32 n).toNat = n
  rw [BitVec.toNat_ofNat]; exact Nat.mod_eq_of_lt h
theorem nI_sb {c d : Nat} (h : d ≤ c) : nI c - nI d = nI (c - d) := by
  have : nI c = nI (c - d) + nI d := by rw [nI_add]; congr 1; omega
  rw [this, Int32.add_sub_cancel]
theorem us_u (u : UInt32) {j : Nat} (hj : j < 32) : (u >>> UInt32.ofNat j).toNat = u.toNat / 2 ^ j := by
  rw [UInt32.toNat_shiftRight, Nat.shiftRight_eq_div_pow]
  congr 2
  have : (UInt32.ofNat j).toNat = j := by
    show (BitVec.ofNat 32 j).toNat = j
    rw [BitVec.toNat_ofNat]; exact Nat.mod_eq_of_lt (by omega)
  rw [this]; exact Nat.mod_eq_of_lt hj
theorem us_n {n : Nat} (hn : n < 2 ^ 32) {j : Nat} (hj : j < 32) : ((nI n).toUInt32 >>> UInt32.ofNat j).toInt32 = nI (n / 2 ^ j) := by
  rw [uI, us_u _ hj, nIu hn]
def lzN (n : Nat) : Nat := fs (fun i => n.testBit (31 - i)) 32
def lz (v : Int32) : Nat := lzN v.toUInt32.toNat
theorem lz_of {n r : Nat} (hr : r ≤ 31) (h1 : 2 ^ (31 - r) ≤ n) (h2 : n < 2 ^ (32 - r)) : lzN n = r := by
  refine fs_eq (fun j hj => ?_) (fun _ => ?_) (by omega)
  · refine Nat.testBit_lt_two_pow (Nat.lt_of_lt_of_le h2 (Nat.pow_le_pow_right (by omega) (by omega)))
  · rw [Nat.testBit_eq_decide_div_mod_eq]
    have hp : 0 < 2 ^ (31 - r) := Nat.two_pow_pos _
    have e : 2 ^ (32 - r) = 2 ^ (31 - r) * 2 := by rw [← Nat.pow_succ]; congr 1; omega
    have a1 : n / 2 ^ (31 - r) < 2 := (Nat.div_lt_iff_lt_mul hp).mpr (by rw [e, Nat.mul_comm] at h2; exact h2)
    have a2 : 1 ≤ n / 2 ^ (31 - r) := (Nat.le_div_iff_mul_le hp).mpr (by omega)
    exact decide_eq_true (by omega)
theorem lz_fin {n s y : Nat} (hy : y = n / 2 ^ s) (h1 : 1 ≤ y) (h3 : y ≤ 3) (hs : s ≤ 29) : lzN n = 31 - s - y / 2 := by
  have hp : 0 < 2 ^ s := Nat.two_pow_pos _
  have a1 : 2 ^ s * y ≤ n := by rw [hy]; exact Nat.mul_div_le n _
  have a2 : n < 2 ^ s * (y + 1) := by rw [hy]; exact Nat.lt_mul_div_succ n hp
  have e1 : 2 ^ (s + 1) = 2 ^ s * 2 := Nat.pow_succ _ _
  have e2 : 2 ^ (s + 2) = 2 ^ s * 4 := by rw [Nat.pow_add]
  rcases (by omega : y = 1 ∨ y = 2 ∨ y = 3) with q | q | q
  · subst q
    refine lz_of (by omega) ?_ ?_
    · rw [show 31 - (31 - s - 1 / 2) = s by omega]; omega
    · rw [show 32 - (31 - s - 1 / 2) = s + 1 by omega]; omega
  · subst q
    refine lz_of (by omega) ?_ ?_
    · rw [show 31 - (31 - s - 2 / 2) = s + 1 by omega]; omega
    · rw [show 32 - (31 - s - 2 / 2) = s + 2 by omega]; omega
  · subst q
    refine lz_of (by omega) ?_ ?_
    · rw [show 31 - (31 - s - 3 / 2) = s + 1 by omega]; omega
    · rw [show 32 - (31 - s - 3 / 2) = s + 2 by omega]; omega
theorem sh1 : ((1 : Int32).toUInt32 &&& Int32.toUInt32 31) = UInt32.ofNat 1 := by decide
theorem sh2 : ((2 : Int32).toUInt32 &&& Int32.toUInt32 31) = UInt32.ofNat 2 := by decide
theorem sh4 : ((4 : Int32).toUInt32 &&& Int32.toUInt32 31) = UInt32.ofNat 4 := by decide
theorem sh8 : ((8 : Int32).toUInt32 &&& Int32.toUInt32 31) = UInt32.ofNat 8 := by decide
theorem sh16 : ((16 : Int32).toUInt32 &&& Int32.toUInt32 31) = UInt32.ofNat 16 := by decide
def tl3 (w5 w6 : Int32) : Option Int32 :=
  if w5 < 4 then some (w6 - ((w5.toUInt32 >>> ((1 : Int32).toUInt32 &&& Int32.toUInt32 31)).toInt32))
  else klt ((w5.toUInt32 >>> ((2 : Int32).toUInt32 &&& Int32.toUInt32 31)).toInt32 : Int32) fun v7 =>
  some ((w6 + (-2)) - ((v7.toUInt32 >>> ((1 : Int32).toUInt32 &&& Int32.toUInt32 31)).toInt32))
def tl2 (w3 w4 : Int32) : Option Int32 := if w3 < 16 then tl3 w3 w4 else klt ((w3.toUInt32 >>> ((4 : Int32).toUInt32 &&& Int32.toUInt32 31)).toInt32 : Int32) fun v8 => tl3 v8 (w4 + (-4))
def tl1 (w1 w2 : Int32) : Option Int32 := if w1 < 256 then tl2 w1 w2 else klt ((w1.toUInt32 >>> ((8 : Int32).toUInt32 &&& Int32.toUInt32 31)).toInt32 : Int32) fun v9 => tl2 v9 (w2 + (-8))
theorem ms (c d : Nat) (x : Int32) (hx : x = - nI d) (h : d ≤ c) : nI c + x = nI (c - d) := by
  rw [hx, ← Int32.sub_eq_add_neg, nI_sb h]
theorem ms2 {c : Nat} (h : 2 ≤ c) : nI c + (-2) = nI (c - 2) := ms c 2 _ rfl h
theorem ms4 {c : Nat} (h : 4 ≤ c) : nI c + (-4) = nI (c - 4) := ms c 4 _ rfl h
theorem ms8 {c : Nat} (h : 8 ≤ c) : nI c + (-8) = nI (c - 8) := ms c 8 _ rfl h
theorem dd (n s j : Nat) : n / 2 ^ s / 2 ^ j = n / 2 ^ (s + j) := by rw [Nat.div_div_eq_div_mul, ← Nat.pow_add]
theorem T3 {n s x : Nat} (hx : x = n / 2 ^ s) (h1 : 1 ≤ x) (h2 : x < 16) (hs : s ≤ 27) : tl3 (nI x) (nI (31 - s)) = some (nI (lzN n)) := by
  simp only [tl3, klt]
  rw [sh1, sh2]
  by_cases q : x < 4
  · rw [nn4, if_pos (nI_lt q (by omega)), us_n (by omega) (by omega), nI_sb (by omega), lz_fin hx h1 (by omega) (by omega)]
  · have e : x / 2 ^ 2 = n / 2 ^ (s + 2) := by rw [hx, dd]
    rw [nn4, if_neg (nI_nlt (by omega) (by omega)), us_n (by omega) (by omega), us_n (by omega) (by omega), ms2 (by omega), nI_sb (by omega), lz_fin e (by omega) (by omega) (by omega), show 31 - s - 2 = 31 - (s + 2) by omega]
theorem T2 {n s x : Nat} (hx : x = n / 2 ^ s) (h1 : 1 ≤ x) (h2 : x < 256) (hs : s ≤ 23) : tl2 (nI x) (nI (31 - s)) = some (nI (lzN n)) := by
  simp only [tl2, klt]
  rw [sh4]
  by_cases q : x < 16
  · rw [nn16, if_pos (nI_lt q (by omega)), T3 hx h1 q (by omega)]
  · have e : x / 2 ^ 4 = n / 2 ^ (s + 4) := by rw [hx, dd]
    rw [nn16, if_neg (nI_nlt (by omega) (by omega)), us_n (by omega) (by omega), ms4 (by omega), show 31 - s - 4 = 31 - (s + 4) by omega, T3 e (by omega) (by omega) (by omega)]
theorem T1 {n s x : Nat} (hx : x = n / 2 ^ s) (h1 : 1 ≤ x) (h2 : x < 65536) (hs : s ≤ 16) (hs2 : s = 16 → x < 32768) : tl1 (nI x) (nI (31 - s)) = some (nI (lzN n)) := by
  simp only [tl1, klt]
  rw [sh8]
  by_cases q : x < 256
  · rw [nn256, if_pos (nI_lt q (by omega)), T2 hx h1 q (by omega)]
  · by_cases q2 : s = 16
    · subst q2
      have e : x / 2 ^ 8 = n / 2 ^ (16 + 8) := by rw [hx, dd]
      have := hs2 rfl
      rw [nn256, if_neg (nI_nlt (by omega) (by omega)), us_n (by omega) (by omega), ms8 (by omega)]
      simp only [tl2, klt]
      rw [sh4]
      by_cases q3 : x / 2 ^ 8 < 16
      · rw [nn16, if_pos (nI_lt q3 (by omega)), show 31 - 16 - 8 = 31 - (16 + 8) by omega, T3 e (by omega) q3 (by omega)]
      · have e2 : x / 2 ^ 8 / 2 ^ 4 = n / 2 ^ (24 + 4) := by rw [hx, dd, dd]
        rw [nn16, if_neg (nI_nlt (by omega) (by omega)), us_n (by omega) (by omega), ms4 (by omega)]
        simp only [tl3, klt]
        rw [sh1, sh2]
        by_cases q4 : x / 2 ^ 8 / 2 ^ 4 < 4
        · rw [nn4, if_pos (nI_lt q4 (by omega)), us_n (by omega) (by omega), nI_sb (by omega), lz_fin e2 (by omega) (by omega) (by omega)]
        · have e3 : x / 2 ^ 8 / 2 ^ 4 / 2 ^ 2 = n / 2 ^ 30 := by rw [hx, dd, dd, dd]
          have e4 : x / 2 ^ 8 / 2 ^ 4 / 2 ^ 2 = 1 := by omega
          rw [nn4, if_neg (nI_nlt (by omega) (by omega)), us_n (by omega) (by omega), us_n (by omega) (by omega), ms2 (by omega), nI_sb (by omega), e4]
          have e5 : lzN n = 1 := by
            rw [e4] at e3
            refine lz_of (by omega) ?_ ?_
            · show 2 ^ 30 ≤ n; omega
            · show n < 2 ^ 31; omega
          rw [e5]
    · have e : x / 2 ^ 8 = n / 2 ^ (s + 8) := by rw [hx, dd]
      rw [nn256, if_neg (nI_nlt (by omega) (by omega)), us_n (by omega) (by omega), ms8 (by omega), show 31 - s - 8 = 31 - (s + 8) by omega, T2 e (by omega) (by omega) (by omega)]
theorem nI_big {n : Nat} (h : 2 ^ 31 ≤ n) (h2 : n < 2 ^ 32) : nI n < 0 := by
  rw [Int32.lt_iff_toInt_lt]
  show (BitVec.ofNat 32 n).toInt < 0
  rw [BitVec.toInt_eq_toNat_cond, BitVec.toNat_ofNat, Nat.mod_eq_of_lt h2, if_neg (by omega)]
  omega
theorem pJ6 (v : Int32) : fJ6_numberOfLeadingZeros_0f7a4 v = some (nI (lz v)) := by
  have hn : v.toUInt32.toNat < 2 ^ 32 := UInt32.toNat_lt _
  have ev := vI v
  unfold lz
  generalize v.toUInt32.toNat = n at *
  subst ev
  have un : fJ6_numberOfLeadingZeros_0f7a4 (nI n) = if 0 < nI n then (if nI n < 65536 then tl1 (nI n) 31 else tl1 (((nI n).toUInt32 >>> ((16 : Int32).toUInt32 &&& Int32.toUInt32 31)).toInt32) (31 + (-16))) else if nI n = 0 then some 32 else some 0 := rfl
  rw [un, sh16]
  by_cases q : n < 2 ^ 31
  · by_cases q0 : n = 0
    · subst q0
      have : lzN 0 = 32 := by decide +kernel
      rw [this]; rfl
    · rw [show (0 : Int32) = nI 0 from rfl, if_pos (nI_lt (by omega) (by omega)), show (65536 : Int32) = nI 65536 from rfl]
      by_cases q2 : n < 65536
      · rw [if_pos (nI_lt q2 (by omega)), show (31 : Int32) = nI (31 - 0) from rfl]
        exact T1 (by simp) (by omega) q2 (by omega) (fun z => absurd z (by omega))
      · rw [if_neg (nI_nlt (by omega) (by omega)), us_n hn (by omega), show (31 : Int32) + (-16) = nI (31 - 16) from by decide]
        exact T1 rfl (by omega) (by omega) (by omega) (fun _ => by omega)
  · have hb := nI_big (by omega) hn
    have h1 : ¬ (0 : Int32) < nI n := fun z => Int32.lt_irrefl (Int32.lt_trans z hb)
    have h2 : ¬ nI n = 0 := fun z => by rw [z] at hb; exact Int32.lt_irrefl hb
    rw [if_neg h1, if_neg h2]
    have : lzN n = 0 := lz_of (by omega) (by show 2 ^ 31 ≤ n; omega) (by show n < 2 ^ 32; omega)
    rw [this]; rfl
theorem sh_all : ∀ i : Fin 32, (((31 : Int32) - nI i.val).toUInt32 &&& Int32.toUInt32 31) = UInt32.ofNat (31 - i.val) := by decide +kernel
def mxv (a b c : Int32) : Int32 := (a * (-1640531535)) + (b * 40503) + (c * 69069)
def mxs (x : Int32) : Int32 := x ^^^ ((x.toUInt32 >>> ((15 : Int32).toUInt32 &&& Int32.toUInt32 31)).toInt32)
def mxt (x : Int32) : Int32 := x ^^^ ((x.toUInt32 >>> ((13 : Int32).toUInt32 &&& Int32.toUInt32 31)).toInt32)
def mix (x : Int32) : Int32 := mxt (mxs x * (-2048144777))
/-- leading zeros of a puzzle -/
def zr (a b c : Int32) : Nat := lz (mix (mxv a b c))
theorem pX0_mix (a : Int32) : fX0_mix a = some (mix a) := rfl
theorem mxv2 (a b c : Int32) : (a * (-1640531535)) + (c * 69069) + (b * 40503) = mxv a b c := by
  unfold mxv
  rw [Int32.add_assoc, Int32.add_comm (c * 69069), ← Int32.add_assoc]
theorem pX0_leadingZeros (a b c : Int32) : fX0_leadingZeros a b c = some (nI (zr a b c)) := by
  unfold fX0_leadingZeros fX0_sumWithoutNonce
  rw [kc1_s, mxv2, pX0_mix, kc1_s, pJ6, kc1_s]; rfl
theorem lz_le (v : Int32) : lz v ≤ 32 := fs_le _ _
theorem pX6_zerosOf {N : Nat} (hN : 32 < N) (a b c : Int32) : fX6_zerosOf N a b c = some (nI (zr a b c)) := by
  have un : fX6_zerosOf N a b c = klp (sX6_zerosOf_37 (mix (mxv a b c)) fun w5 => some w5) N 0 := rfl
  rw [un]
  unfold zr
  generalize mix (mxv a b c) = v
  have hle := lz_le v
  have key : ∀ i, i < 32 → (((v.toUInt32 >>> ((31 - nI i : Int32).toUInt32 &&& Int32.toUInt32 31)).toInt32 &&& 1 = 0) ↔ v.toUInt32.toNat.testBit (31 - i) = false) := fun i hi => by
    rw [show ((31 - nI i : Int32).toUInt32 &&& Int32.toUInt32 31) = UInt32.ofNat (31 - i) from sh_all ⟨i, hi⟩, uI, us_u _ (by omega), nn1, nx_and, Nat.and_one_is_mod, Nat.testBit_eq_decide_div_mod_eq]
    constructor
    · intro z
      have := nI_inj (by omega) (by omega) (z.trans nn0)
      exact decide_eq_false (by omega)
    · intro z
      have := of_decide_eq_false z
      rw [show v.toUInt32.toNat / 2 ^ (31 - i) % 2 = 0 by omega]; rfl
  refine klp_at (fun i => nI i) (lz v) rfl (fun i hi rec => ?_) (fun rec => ?_) (by omega)
  · unfold sX6_zerosOf_37
    rw [show (32 : Int32) = nI 32 from rfl, if_neg (nI_ge (by omega) (by omega)), if_pos ((key i (by omega)).mpr (fs_no (p := fun i => v.toUInt32.toNat.testBit (31 - i)) (n := 32) hi)), nI_1]
  · unfold sX6_zerosOf_37
    by_cases q : lz v = 32
    · rw [q, show (32 : Int32) = nI 32 from rfl, if_pos (nI_le (Nat.le_refl _) (by omega))]
    · rw [show (32 : Int32) = nI 32 from rfl, if_neg (nI_ge (by omega) (by omega)), if_neg (fun z => by
        have h1 := (key _ (by omega)).mp z
        have h2 := fs_at (p := fun i => v.toUInt32.toNat.testBit (31 - i)) (n := 32) (show fs _ 32 < 32 by unfold lz lzN at q hle; omega)
        unfold lz lzN at h1
        rw [h1] at h2; cases h2)]
