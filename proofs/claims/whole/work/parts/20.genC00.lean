def fX0_sumWithoutNonce (a1 : Int32) (a2 : Int32) : Option (Int32) :=
  some ((a1 * (-1640531535)) + (a2 * 69069))
theorem hdX0_sumWithoutNonce : yX0_sumWithoutNonce.cls ≠ "java/lang/invoke/MethodHandle" ∧ yX0_sumWithoutNonce.cls ≠ "java/lang/invoke/VarHandle" ∧ (parseMethodDescriptor yX0_sumWithoutNonce.desc).map (fun d => d.parameters.length) = some 2 := by decide +kernel
set_option maxHeartbeats 4000000 in
set_option maxRecDepth 100000 in
theorem qX0_sumWithoutNonce {l : Launch} {g : zG}  (a1 : Int32) (a2 : Int32) (m : zMem)  (o : Int32) (hf : fX0_sumWithoutNonce a1 a2 = some o) : zMI l g yX0_sumWithoutNonce wsX0_sumWithoutNonce { frames := 0, cells := 0, slots := 0, locals := 0 } [.int a1, .int a2] m (o, m) := by
  refine z_met_i (cc := cX0_sumWithoutNonce) (maxL := 2) (lo0 := [some (.int a1), some (.int a2)]) (by decide +kernel) rfl rfl (Nat.le_of_ble_eq_true rfl) (fun x hx C hr => ?_)
  unfold fX0_sumWithoutNonce at hf
  refine z_iload_n (i := 0) C dX0_sumWithoutNonce_0 rfl rfl rfl ?_
  refine z_ldc (v := (-1640531535)) C (by decide +kernel) dX0_sumWithoutNonce_1 rfl ?_
  refine z_imul C dX0_sumWithoutNonce_3 rfl ?_
  refine z_iload_n (i := 1) C dX0_sumWithoutNonce_4 rfl rfl rfl ?_
  refine z_ldc (v := 69069) C (by decide +kernel) dX0_sumWithoutNonce_5 rfl ?_
  refine z_imul C dX0_sumWithoutNonce_7 rfl ?_
  refine z_iadd C dX0_sumWithoutNonce_8 rfl ?_
  exact hr _ _ _ _ (congrArg (fun z => (z, m)) (Option.some.inj hf)) dX0_sumWithoutNonce_9

def fX0_mix (a1 : Int32) : Option (Int32) :=
  klt (a1 ^^^ ((a1.toUInt32 >>> ((15 : Int32).toUInt32 &&& Int32.toUInt32 31)).toInt32) : Int32) fun v1 =>
  klt (v1 * (-2048144777) : Int32) fun v2 =>
  some (v2 ^^^ ((v2.toUInt32 >>> ((13 : Int32).toUInt32 &&& Int32.toUInt32 31)).toInt32))
theorem hdX0_mix : yX0_mix.cls ≠ "java/lang/invoke/MethodHandle" ∧ yX0_mix.cls ≠ "java/lang/invoke/VarHandle" ∧ (parseMethodDescriptor yX0_mix.desc).map (fun d => d.parameters.length) = some 1 := by decide +kernel
set_option maxHeartbeats 4000000 in
set_option maxRecDepth 100000 in
theorem qX0_mix {l : Launch} {g : zG}  (a1 : Int32) (m : zMem)  (o : Int32) (hf : fX0_mix a1 = some o) : zMI l g yX0_mix wsX0_mix { frames := 0, cells := 0, slots := 0, locals := 0 } [.int a1] m (o, m) := by
  refine z_met_i (cc := cX0_mix) (maxL := 2) (lo0 := [some (.int a1), none]) (by decide +kernel) rfl rfl (Nat.le_of_ble_eq_true rfl) (fun x hx C hr => ?_)
  unfold fX0_mix at hf
  refine z_iload_n (i := 0) C dX0_mix_0 rfl rfl rfl ?_
  refine z_iload_n (i := 0) C dX0_mix_1 rfl rfl rfl ?_
  refine z_bipush C dX0_mix_2 zb_15 rfl ?_
  refine z_iushr C dX0_mix_4 rfl ?_
  refine z_ixor C dX0_mix_5 rfl ?_
  refine z_top _ hf (fun v1 hf => ?_)
  refine z_istore_n (i := 1) (lo' := [some (.int a1), some (.int v1)]) C dX0_mix_6 rfl (Nat.le_of_ble_eq_true rfl) rfl rfl rfl ?_
  refine z_iload_n (i := 1) C dX0_mix_7 rfl rfl rfl ?_
  refine z_ldc (v := (-2048144777)) C (by decide +kernel) dX0_mix_8 rfl ?_
  refine z_imul C dX0_mix_10 rfl ?_
  refine z_top _ hf (fun v2 hf => ?_)
  refine z_istore_n (i := 1) (lo' := [some (.int a1), some (.int v2)]) C dX0_mix_11 rfl (Nat.le_of_ble_eq_true rfl) rfl rfl rfl ?_
  refine z_iload_n (i := 1) C dX0_mix_12 rfl rfl rfl ?_
  refine z_iload_n (i := 1) C dX0_mix_13 rfl rfl rfl ?_
  refine z_bipush C dX0_mix_14 zb_13 rfl ?_
  refine z_iushr C dX0_mix_16 rfl ?_
  refine z_ixor C dX0_mix_17 rfl ?_
  exact hr _ _ _ _ (congrArg (fun z => (z, m)) (Option.some.inj hf)) dX0_mix_18

def fJ6_numberOfLeadingZeros_0f7a4 (a1 : Int32) : Option (Int32) :=
  if 0 < a1 then
  kjn (fun (w1 : Int32) (w2 : Int32) =>
  kjn (fun (w3 : Int32) (w4 : Int32) =>
  kjn (fun (w5 : Int32) (w6 : Int32) =>
  if w5 < 4 then
  some (w6 - ((w5.toUInt32 >>> ((1 : Int32).toUInt32 &&& Int32.toUInt32 31)).toInt32))
  else
  klt ((w5.toUInt32 >>> ((2 : Int32).toUInt32 &&& Int32.toUInt32 31)).toInt32 : Int32) fun v7 =>
  some ((w6 + (-2)) - ((v7.toUInt32 >>> ((1 : Int32).toUInt32 &&& Int32.toUInt32 31)).toInt32))) fun K61 =>
  if w3 < 16 then
  K61 w3 w4
  else
  klt ((w3.toUInt32 >>> ((4 : Int32).toUInt32 &&& Int32.toUInt32 31)).toInt32 : Int32) fun v8 =>
  K61 v8 (w4 + (-4))) fun K48 =>
  if w1 < 256 then
  K48 w1 w2
  else
  klt ((w1.toUInt32 >>> ((8 : Int32).toUInt32 &&& Int32.toUInt32 31)).toInt32 : Int32) fun v9 =>
  K48 v9 (w2 + (-8))) fun K33 =>
  if a1 < 65536 then
  K33 a1 31
  else
  klt ((a1.toUInt32 >>> ((16 : Int32).toUInt32 &&& Int32.toUInt32 31)).toInt32 : Int32) fun v10 =>
  K33 v10 (31 + (-16))
  else
  if a1 = 0 then
  some 32
  else
  some 0
theorem hdJ6_numberOfLeadingZeros_0f7a4 : yJ6_numberOfLeadingZeros_0f7a4.cls ≠ "java/lang/invoke/MethodHandle" ∧ yJ6_numberOfLeadingZeros_0f7a4.cls ≠ "java/lang/invoke/VarHandle" ∧ (parseMethodDescriptor yJ6_numberOfLeadingZeros_0f7a4.desc).map (fun d => d.parameters.length) = some 1 := by decide +kernel
set_option maxHeartbeats 4000000 in
set_option maxRecDepth 100000 in
theorem qJ6_numberOfLeadingZeros_0f7a4 {l : Launch} {g : zG}  (a1 : Int32) (m : zMem)  (o : Int32) (hf : fJ6_numberOfLeadingZeros_0f7a4 a1 = some o) : zMI l g yJ6_numberOfLeadingZeros_0f7a4 wsJ6_numberOfLeadingZeros_0f7a4 { frames := 0, cells := 0, slots := 0, locals := 0 } [.int a1] m (o, m) := by
  refine z_met_i (cc := cJ6_numberOfLeadingZeros_0f7a4) (maxL := 2) (lo0 := [some (.int a1), none]) (by decide +kernel) rfl rfl (Nat.le_of_ble_eq_true rfl) (fun x hx C hr => ?_)
  unfold fJ6_numberOfLeadingZeros_0f7a4 at hf
  refine z_iload_n (i := 0) C dJ6_numberOfLeadingZeros_0f7a4_0 rfl rfl rfl ?_
  refine z_if_gt (tgt := 15) C dJ6_numberOfLeadingZeros_0f7a4_1 (by decide) rfl hf (fun hf => ?_) (fun hf => ?_)
  · skip
    refine z_bipush C dJ6_numberOfLeadingZeros_0f7a4_15 zb_31 rfl ?_
    refine z_istore_n (i := 1) (lo' := [some (.int a1), some (.int 31)]) C dJ6_numberOfLeadingZeros_0f7a4_17 rfl (Nat.le_of_ble_eq_true rfl) rfl rfl rfl ?_
    refine z_iload_n (i := 0) C dJ6_numberOfLeadingZeros_0f7a4_18 rfl rfl rfl ?_
    refine z_ldcw (v := 65536) C (by decide +kernel) dJ6_numberOfLeadingZeros_0f7a4_19 rfl ?_
    refine kjn_V (fun K33 => ∀ (w1 : Int32) (w2 : Int32), K33 w1 w2 = some o → zV x g 2 0 0 33 [some (.int w1), some (.int w2)] [] m) hf (fun w1 w2 hf => ?_) (fun K33 hK33 hf => ?_)
    · skip
      refine z_iload_n (i := 0) C dJ6_numberOfLeadingZeros_0f7a4_33 rfl rfl rfl ?_
      refine z_sipush C dJ6_numberOfLeadingZeros_0f7a4_34 zs_256 rfl ?_
      refine kjn_V (fun K48 => ∀ (w3 : Int32) (w4 : Int32), K48 w3 w4 = some o → zV x g 2 0 0 48 [some (.int w3), some (.int w4)] [] m) hf (fun w3 w4 hf => ?_) (fun K48 hK48 hf => ?_)
      · skip
        refine z_iload_n (i := 0) C dJ6_numberOfLeadingZeros_0f7a4_48 rfl rfl rfl ?_
        refine z_bipush C dJ6_numberOfLeadingZeros_0f7a4_49 zb_16 rfl ?_
        refine kjn_V (fun K61 => ∀ (w5 : Int32) (w6 : Int32), K61 w5 w6 = some o → zV x g 2 0 0 61 [some (.int w5), some (.int w6)] [] m) hf (fun w5 w6 hf => ?_) (fun K61 hK61 hf => ?_)
        · skip
          refine z_iload_n (i := 0) C dJ6_numberOfLeadingZeros_0f7a4_61 rfl rfl rfl ?_
          refine z_iconst C dJ6_numberOfLeadingZeros_0f7a4_62 zi_4 rfl ?_
          refine z_ic_lt (tgt := 73) C dJ6_numberOfLeadingZeros_0f7a4_63 (by decide) rfl hf (fun hf => ?_) (fun hf => ?_)
          · skip
            refine z_iload_n (i := 1) C dJ6_numberOfLeadingZeros_0f7a4_73 rfl rfl rfl ?_
            refine z_iload_n (i := 0) C dJ6_numberOfLeadingZeros_0f7a4_74 rfl rfl rfl ?_
            refine z_iconst C dJ6_numberOfLeadingZeros_0f7a4_75 zi_1 rfl ?_
            refine z_iushr C dJ6_numberOfLeadingZeros_0f7a4_76 rfl ?_
            refine z_isub C dJ6_numberOfLeadingZeros_0f7a4_77 rfl ?_
            exact hr _ _ _ _ (congrArg (fun z => (z, m)) (Option.some.inj hf)) dJ6_numberOfLeadingZeros_0f7a4_78
          · skip
            refine z_iinc (v := w6 + (-2)) (lo' := [some (.int w5), some (.int (w6 + (-2)))]) C dJ6_numberOfLeadingZeros_0f7a4_66 rfl (zinc zi_m2) (Nat.le_of_ble_eq_true rfl) rfl rfl rfl ?_
            refine z_iload_n (i := 0) C dJ6_numberOfLeadingZeros_0f7a4_69 rfl rfl rfl ?_
            refine z_iconst C dJ6_numberOfLeadingZeros_0f7a4_70 zi_2 rfl ?_
            refine z_iushr C dJ6_numberOfLeadingZeros_0f7a4_71 rfl ?_
            refine z_top _ hf (fun v7 hf => ?_)
            refine z_istore_n (i := 0) (lo' := [some (.int v7), some (.int (w6 + (-2)))]) C dJ6_numberOfLeadingZeros_0f7a4_72 rfl (Nat.le_of_ble_eq_true rfl) rfl rfl rfl ?_
            refine z_iload_n (i := 1) C dJ6_numberOfLeadingZeros_0f7a4_73 rfl rfl rfl ?_
            refine z_iload_n (i := 0) C dJ6_numberOfLeadingZeros_0f7a4_74 rfl rfl rfl ?_
            refine z_iconst C dJ6_numberOfLeadingZeros_0f7a4_75 zi_1 rfl ?_
            refine z_iushr C dJ6_numberOfLeadingZeros_0f7a4_76 rfl ?_
            refine z_isub C dJ6_numberOfLeadingZeros_0f7a4_77 rfl ?_
            exact hr _ _ _ _ (congrArg (fun z => (z, m)) (Option.some.inj hf)) dJ6_numberOfLeadingZeros_0f7a4_78
        · skip
          refine z_ic_lt (tgt := 61) C dJ6_numberOfLeadingZeros_0f7a4_51 (by decide) rfl hf (fun hf => ?_) (fun hf => ?_)
          · skip
            exact hK61 _ _ hf
          · skip
            refine z_iinc (v := w4 + (-4)) (lo' := [some (.int w3), some (.int (w4 + (-4)))]) C dJ6_numberOfLeadingZeros_0f7a4_54 rfl (zinc zi_m4) (Nat.le_of_ble_eq_true rfl) rfl rfl rfl ?_
            refine z_iload_n (i := 0) C dJ6_numberOfLeadingZeros_0f7a4_57 rfl rfl rfl ?_
            refine z_iconst C dJ6_numberOfLeadingZeros_0f7a4_58 zi_4 rfl ?_
            refine z_iushr C dJ6_numberOfLeadingZeros_0f7a4_59 rfl ?_
            refine z_top _ hf (fun v8 hf => ?_)
            refine z_istore_n (i := 0) (lo' := [some (.int v8), some (.int (w4 + (-4)))]) C dJ6_numberOfLeadingZeros_0f7a4_60 rfl (Nat.le_of_ble_eq_true rfl) rfl rfl rfl ?_
            exact hK61 _ _ hf
      · skip
        refine z_ic_lt (tgt := 48) C dJ6_numberOfLeadingZeros_0f7a4_37 (by decide) rfl hf (fun hf => ?_) (fun hf => ?_)
        · skip
          exact hK48 _ _ hf
        · skip
          refine z_iinc (v := w2 + (-8)) (lo' := [some (.int w1), some (.int (w2 + (-8)))]) C dJ6_numberOfLeadingZeros_0f7a4_40 rfl (zinc zi_m8) (Nat.le_of_ble_eq_true rfl) rfl rfl rfl ?_
          refine z_iload_n (i := 0) C dJ6_numberOfLeadingZeros_0f7a4_43 rfl rfl rfl ?_
          refine z_bipush C dJ6_numberOfLeadingZeros_0f7a4_44 zb_8 rfl ?_
          refine z_iushr C dJ6_numberOfLeadingZeros_0f7a4_46 rfl ?_
          refine z_top _ hf (fun v9 hf => ?_)
          refine z_istore_n (i := 0) (lo' := [some (.int v9), some (.int (w2 + (-8)))]) C dJ6_numberOfLeadingZeros_0f7a4_47 rfl (Nat.le_of_ble_eq_true rfl) rfl rfl rfl ?_
          exact hK48 _ _ hf
    · skip
      refine z_ic_lt (tgt := 33) C dJ6_numberOfLeadingZeros_0f7a4_22 (by decide) rfl hf (fun hf => ?_) (fun hf => ?_)
      · skip
        exact hK33 _ _ hf
      · skip
        refine z_iinc (v := 31 + (-16)) (lo' := [some (.int a1), some (.int (31 + (-16)))]) C dJ6_numberOfLeadingZeros_0f7a4_25 rfl (zinc zi_m16) (Nat.le_of_ble_eq_true rfl) rfl rfl rfl ?_
        refine z_iload_n (i := 0) C dJ6_numberOfLeadingZeros_0f7a4_28 rfl rfl rfl ?_
        refine z_bipush C dJ6_numberOfLeadingZeros_0f7a4_29 zb_16 rfl ?_
        refine z_iushr C dJ6_numberOfLeadingZeros_0f7a4_31 rfl ?_
        refine z_top _ hf (fun v10 hf => ?_)
        refine z_istore_n (i := 0) (lo' := [some (.int v10), some (.int (31 + (-16)))]) C dJ6_numberOfLeadingZeros_0f7a4_32 rfl (Nat.le_of_ble_eq_true rfl) rfl rfl rfl ?_
        exact hK33 _ _ hf
  · skip
    refine z_iload_n (i := 0) C dJ6_numberOfLeadingZeros_0f7a4_4 rfl rfl rfl ?_
    refine z_if_ne (tgt := 13) C dJ6_numberOfLeadingZeros_0f7a4_5 (by decide) rfl hf (fun hf => ?_) (fun hf => ?_)
    · skip
      refine z_iconst C dJ6_numberOfLeadingZeros_0f7a4_13 zi_0 rfl ?_
      exact hr _ _ _ _ (congrArg (fun z => (z, m)) (Option.some.inj hf)) dJ6_numberOfLeadingZeros_0f7a4_14
    · skip
      refine z_bipush C dJ6_numberOfLeadingZeros_0f7a4_8 zb_32 rfl ?_
      refine z_goto (pc' := 14) C dJ6_numberOfLeadingZeros_0f7a4_10 (by decide) ?_
      exact hr _ _ _ _ (congrArg (fun z => (z, m)) (Option.some.inj hf)) dJ6_numberOfLeadingZeros_0f7a4_14

def fX0_leadingZeros (a1 : Int32) (a2 : Int32) (a3 : Int32) : Option (Int32) :=
  kc1 (fX0_sumWithoutNonce a1 a3) fun v1 =>
  kc1 (fX0_mix (v1 + (a2 * 40503))) fun v2 =>
  kc1 (fJ6_numberOfLeadingZeros_0f7a4 v2) fun v3 =>
  some v3
theorem hdX0_leadingZeros : yX0_leadingZeros.cls ≠ "java/lang/invoke/MethodHandle" ∧ yX0_leadingZeros.cls ≠ "java/lang/invoke/VarHandle" ∧ (parseMethodDescriptor yX0_leadingZeros.desc).map (fun d => d.parameters.length) = some 3 := by decide +kernel
set_option maxHeartbeats 4000000 in
set_option maxRecDepth 100000 in
theorem qX0_leadingZeros {l : Launch} {g : zG}  (a1 : Int32) (a2 : Int32) (a3 : Int32) (m : zMem)  (o : Int32) (hf : fX0_leadingZeros a1 a2 a3 = some o) : zMI l g yX0_leadingZeros wsX0_leadingZeros { frames := 1, cells := 0, slots := 0, locals := 21 } [.int a1, .int a2, .int a3] m (o, m) := by
  refine z_met_i (cc := cX0_leadingZeros) (maxL := 3) (lo0 := [some (.int a1), some (.int a2), some (.int a3)]) (by decide +kernel) rfl rfl (Nat.le_of_ble_eq_true rfl) (fun x hx C hr => ?_)
  unfold fX0_leadingZeros at hf
  refine z_iload_n (i := 0) C dX0_leadingZeros_0 rfl rfl rfl ?_
  refine z_iload_n (i := 2) C dX0_leadingZeros_1 rfl rfl rfl ?_
  refine z_csiR (As := [.int a1, .int a3]) (st := []) (m := m) C gX0_leadingZeros_X0_sumWithoutNonce hdX0_sumWithoutNonce rfl (fun z h => qX0_sumWithoutNonce a1 a3 m z h) rfl (Nat.le_of_ble_eq_true rfl) ⟨Nat.le_of_ble_eq_true rfl, Nat.le_of_ble_eq_true rfl⟩ ⟨Nat.le_refl _, Nat.le_refl _⟩ dX0_leadingZeros_2 rfl rfl hf (fun v1 hf => ?_)
  refine z_iload_n (i := 1) C dX0_leadingZeros_5 rfl rfl rfl ?_
  refine z_ldc (v := 40503) C (by decide +kernel) dX0_leadingZeros_6 rfl ?_
  refine z_imul C dX0_leadingZeros_8 rfl ?_
  refine z_iadd C dX0_leadingZeros_9 rfl ?_
  refine z_csiR (As := [.int (v1 + (a2 * 40503))]) (st := []) (m := m) C gX0_leadingZeros_X0_mix hdX0_mix rfl (fun z h => qX0_mix (v1 + (a2 * 40503)) m z h) rfl (Nat.le_of_ble_eq_true rfl) ⟨Nat.le_of_ble_eq_true rfl, Nat.le_of_ble_eq_true rfl⟩ ⟨Nat.le_refl _, Nat.le_refl _⟩ dX0_leadingZeros_10 rfl rfl hf (fun v2 hf => ?_)
  refine z_csiR (As := [.int v2]) (st := []) (m := m) C gX0_leadingZeros_J6_numberOfLeadingZeros_0f7a4 hdJ6_numberOfLeadingZeros_0f7a4 rfl (fun z h => qJ6_numberOfLeadingZeros_0f7a4 v2 m z h) rfl (Nat.le_of_ble_eq_true rfl) ⟨Nat.le_of_ble_eq_true rfl, Nat.le_of_ble_eq_true rfl⟩ ⟨Nat.le_refl _, Nat.le_refl _⟩ dX0_leadingZeros_13 rfl rfl hf (fun v3 hf => ?_)
  exact hr _ _ _ _ (congrArg (fun z => (z, m)) (Option.some.inj hf)) dX0_leadingZeros_16

def fX1_number (a1 : Int32) (a2 : Int32) (m : zMem) : Option (Int32) :=
  kld m 9 60 ((a1 * 3) + a2) fun v1 =>
  some v1
theorem FX1_number_25 {g : zG} (hC : isC g) : zFl wsX1_number RX1 (zcl g) 25 0 4 := ⟨RX1, TX1, 6, hC.2.2 ▸ rfl, by decide +kernel, by decide, by decide +kernel⟩
theorem hdX1_number : yX1_number.cls = RX1 ∧ yX1_number.cls ≠ "java/lang/invoke/MethodHandle" ∧ yX1_number.cls ≠ "java/lang/invoke/VarHandle" ∧ (parseMethodDescriptor yX1_number.desc).map (fun d => d.parameters.length) = some 2 := by decide +kernel
set_option maxHeartbeats 4000000 in
set_option maxRecDepth 100000 in
theorem qX1_number {l : Launch} {g : zG} (hC : isC g)  (a1 : Int32) (a2 : Int32) (m : zMem)  (o : Int32) (hf : fX1_number a1 a2 m = some o) : zMI l g yX1_number wsX1_number { frames := 0, cells := 0, slots := 0, locals := 0 } [.ref (zad g 6), .int a1, .int a2] m (o, m) := by
  refine z_met_i (cc := cX1_number) (maxL := 3) (lo0 := [some (.ref (zad g 6)), some (.int a1), some (.int a2)]) (by decide +kernel) rfl rfl (Nat.le_of_ble_eq_true rfl) (fun x hx C hr => ?_)
  unfold fX1_number at hf
  refine z_aload_n (i := 0) C dX1_number_0 rfl rfl rfl ?_
  refine z_gr C (FX1_number_25 hC) (tn_6 hC) (tc_6 hC) rfl dX1_number_1 rfl ?_
  refine z_iload_n (i := 1) C dX1_number_4 rfl rfl rfl ?_
  refine z_iconst C dX1_number_5 zi_3 rfl ?_
  refine z_imul C dX1_number_6 rfl ?_
  refine z_iload_n (i := 2) C dX1_number_7 rfl rfl rfl ?_
  refine z_iadd C dX1_number_8 rfl ?_
  refine z_iaload C (tn_9 hC) (tc_9 hC) dX1_number_9 rfl hf (fun v1 hf => ?_)
  exact hr _ _ _ _ (congrArg (fun z => (z, m)) (Option.some.inj hf)) dX1_number_10

def sX1_skipSpaces_0 (K38 : zMem → Option (zMem)) : (zMem → Option (zMem)) → zMem → Option (zMem) := fun rec m2 =>
  kgi m2 6 5 fun v3 =>
  kgi m2 6 1 fun v4 =>
  if v4 ≤ v3 then
  K38 m2
  else
  kgi m2 6 5 fun v5 =>
  kld m2 7 120 v5 fun v6 =>
  if v6 = 32 then
  kgi m2 6 5 fun v7 =>
  kpi m2 6 5 (v7 + 1) fun m8 =>
  rec m8
  else
  K38 m2
def fX1_skipSpaces (N : Nat) (m : zMem) : Option (zMem) :=
  kjn (fun (m1 : zMem) =>
  some m1) fun K38 =>
  klp (sX1_skipSpaces_0 K38) N m
theorem FX1_skipSpaces_11 {g : zG} (hC : isC g) : zFl wsX1_skipSpaces RX1 (zcl g) 11 0 0 := ⟨RX1, TX1, 6, hC.2.2 ▸ rfl, by decide +kernel, by decide, by decide +kernel⟩
theorem FX1_skipSpaces_15 {g : zG} (hC : isC g) : zFl wsX1_skipSpaces RX1 (zcl g) 15 0 1 := ⟨RX1, TX1, 6, hC.2.2 ▸ rfl, by decide +kernel, by decide, by decide +kernel⟩
theorem FX1_skipSpaces_28 {g : zG} (hC : isC g) : zFl wsX1_skipSpaces RX1 (zcl g) 28 0 5 := ⟨RX1, TX1, 6, hC.2.2 ▸ rfl, by decide +kernel, by decide, by decide +kernel⟩
theorem PX1_skipSpaces_28 {g : zG} (hC : isC g) : zFp wsX1_skipSpaces RX1 (zcl g) 28 0 5 .int := ⟨RX1, TX1, 6, tyX1, hC.2.2 ▸ rfl, by decide +kernel, by decide, by decide +kernel, tyX1_ok, nmX1, rfl, by decide +kernel⟩
theorem hdX1_skipSpaces : yX1_skipSpaces.cls = RX1 ∧ yX1_skipSpaces.cls ≠ "java/lang/invoke/MethodHandle" ∧ yX1_skipSpaces.cls ≠ "java/lang/invoke/VarHandle" ∧ (parseMethodDescriptor yX1_skipSpaces.desc).map (fun d => d.parameters.length) = some 0 := by decide +kernel
set_option maxHeartbeats 4000000 in
set_option maxRecDepth 100000 in
theorem qX1_skipSpaces {l : Launch} {g : zG} (hC : isC g)  (N : Nat) (m : zMem)  (o : zMem) (hf : fX1_skipSpaces N m = some o) : zMV l g yX1_skipSpaces wsX1_skipSpaces { frames := 0, cells := 0, slots := 0, locals := 0 } [.ref (zad g 6)] m o := by
  refine z_met_v (cc := cX1_skipSpaces) (maxL := 1) (lo0 := [some (.ref (zad g 6))]) (by decide +kernel) rfl rfl (Nat.le_of_ble_eq_true rfl) (fun x hx C hr => ?_)
  unfold fX1_skipSpaces at hf
  refine kjn_V (fun K38 => ∀ (m1 : zMem), K38 m1 = some o → zV x g 1 0 0 38 [none] [] m1) hf (fun m1 hf => ?_) (fun K38 hK38 hf => ?_)
  · skip
    exact hr _ _ _ (Option.some.inj hf) dX1_skipSpaces_38
  · skip
    refine klp_V (fun z => zV x g 1 0 0 0 [some (.ref (zad g 6))] [] z) hf (fun rec z ih hf => ?_)
    generalize z = m2 at hf ⊢
    unfold sX1_skipSpaces_0 at hf
    try dsimp only at hf
    try dsimp only
    refine z_aload_n (i := 0) C dX1_skipSpaces_0 rfl rfl rfl ?_
    refine z_gi C (FX1_skipSpaces_28 hC) (tn_6 hC) (tc_6 hC) rfl dX1_skipSpaces_1 rfl hf (fun v3 hf => ?_)
    refine z_aload_n (i := 0) C dX1_skipSpaces_4 rfl rfl rfl ?_
    refine z_gi C (FX1_skipSpaces_15 hC) (tn_6 hC) (tc_6 hC) rfl dX1_skipSpaces_5 rfl hf (fun v4 hf => ?_)
    refine z_ic_ge (tgt := 38) C dX1_skipSpaces_8 (by decide) rfl hf (fun hf => ?_) (fun hf => ?_)
    · skip
      refine z_drop (lo' := [none]) 0 rfl ?_
      exact hK38 _ hf
    · skip
      refine z_aload_n (i := 0) C dX1_skipSpaces_11 rfl rfl rfl ?_
      refine z_gr C (FX1_skipSpaces_11 hC) (tn_6 hC) (tc_6 hC) rfl dX1_skipSpaces_12 rfl ?_
      refine z_aload_n (i := 0) C dX1_skipSpaces_15 rfl rfl rfl ?_
      refine z_gi C (FX1_skipSpaces_28 hC) (tn_6 hC) (tc_6 hC) rfl dX1_skipSpaces_16 rfl hf (fun v5 hf => ?_)
      refine z_iaload C (tn_7 hC) (tc_7 hC) dX1_skipSpaces_19 rfl hf (fun v6 hf => ?_)
      refine z_bipush C dX1_skipSpaces_20 zb_32 rfl ?_
      refine z_ic_ne (tgt := 38) C dX1_skipSpaces_22 (by decide) rfl hf (fun hf => ?_) (fun hf => ?_)
      · skip
        refine z_drop (lo' := [none]) 0 rfl ?_
        exact hK38 _ hf
      · skip
        refine z_aload_n (i := 0) C dX1_skipSpaces_25 rfl rfl rfl ?_
        refine z_dup C dX1_skipSpaces_26 rfl rfl ?_
        refine z_gi C (FX1_skipSpaces_28 hC) (tn_6 hC) (tc_6 hC) rfl dX1_skipSpaces_27 rfl hf (fun v7 hf => ?_)
        refine z_iconst C dX1_skipSpaces_30 zi_1 rfl ?_
        refine z_iadd C dX1_skipSpaces_31 rfl ?_
        refine z_pi C (PX1_skipSpaces_28 hC) (tn_6 hC) (tc_6 hC) rfl dX1_skipSpaces_32 rfl hf (fun m8 hf => ?_)
        refine z_goto (pc' := 0) C dX1_skipSpaces_35 (by decide) ?_
        exact ih m8 hf

def sX1_skipLetters_0 (K52 : zMem → Option (zMem)) : (zMem → Option (zMem)) → zMem → Option (zMem) := fun rec m2 =>
  kgi m2 6 5 fun v3 =>
  kgi m2 6 1 fun v4 =>
  if v4 ≤ v3 then
  K52 m2
  else
  kgi m2 6 5 fun v5 =>
  kld m2 7 120 v5 fun v6 =>
  if v6 < 97 then
  K52 m2
  else
  kgi m2 6 5 fun v7 =>
  kld m2 7 120 v7 fun v8 =>
  if 122 < v8 then
  K52 m2
  else
  kgi m2 6 5 fun v9 =>
  kpi m2 6 5 (v9 + 1) fun m10 =>
  rec m10
def fX1_skipLetters (N : Nat) (m : zMem) : Option (zMem) :=
  kjn (fun (m1 : zMem) =>
  some m1) fun K52 =>
  klp (sX1_skipLetters_0 K52) N m
theorem FX1_skipLetters_11 {g : zG} (hC : isC g) : zFl wsX1_skipLetters RX1 (zcl g) 11 0 0 := ⟨RX1, TX1, 6, hC.2.2 ▸ rfl, by decide +kernel, by decide, by decide +kernel⟩
theorem FX1_skipLetters_15 {g : zG} (hC : isC g) : zFl wsX1_skipLetters RX1 (zcl g) 15 0 1 := ⟨RX1, TX1, 6, hC.2.2 ▸ rfl, by decide +kernel, by decide, by decide +kernel⟩
theorem FX1_skipLetters_28 {g : zG} (hC : isC g) : zFl wsX1_skipLetters RX1 (zcl g) 28 0 5 := ⟨RX1, TX1, 6, hC.2.2 ▸ rfl, by decide +kernel, by decide, by decide +kernel⟩
theorem PX1_skipLetters_28 {g : zG} (hC : isC g) : zFp wsX1_skipLetters RX1 (zcl g) 28 0 5 .int := ⟨RX1, TX1, 6, tyX1, hC.2.2 ▸ rfl, by decide +kernel, by decide, by decide +kernel, tyX1_ok, nmX1, rfl, by decide +kernel⟩
theorem hdX1_skipLetters : yX1_skipLetters.cls = RX1 ∧ yX1_skipLetters.cls ≠ "java/lang/invoke/MethodHandle" ∧ yX1_skipLetters.cls ≠ "java/lang/invoke/VarHandle" ∧ (parseMethodDescriptor yX1_skipLetters.desc).map (fun d => d.parameters.length) = some 0 := by decide +kernel
set_option maxHeartbeats 4000000 in
set_option maxRecDepth 100000 in
theorem qX1_skipLetters {l : Launch} {g : zG} (hC : isC g)  (N : Nat) (m : zMem)  (o : zMem) (hf : fX1_skipLetters N m = some o) : zMV l g yX1_skipLetters wsX1_skipLetters { frames := 0, cells := 0, slots := 0, locals := 0 } [.ref (zad g 6)] m o := by
  refine z_met_v (cc := cX1_skipLetters) (maxL := 1) (lo0 := [some (.ref (zad g 6))]) (by decide +kernel) rfl rfl (Nat.le_of_ble_eq_true rfl) (fun x hx C hr => ?_)
  unfold fX1_skipLetters at hf
  refine kjn_V (fun K52 => ∀ (m1 : zMem), K52 m1 = some o → zV x g 1 0 0 52 [none] [] m1) hf (fun m1 hf => ?_) (fun K52 hK52 hf => ?_)
  · skip
    exact hr _ _ _ (Option.some.inj hf) dX1_skipLetters_52
  · skip
    refine klp_V (fun z => zV x g 1 0 0 0 [some (.ref (zad g 6))] [] z) hf (fun rec z ih hf => ?_)
    generalize z = m2 at hf ⊢
    unfold sX1_skipLetters_0 at hf
    try dsimp only at hf
    try dsimp only
    refine z_aload_n (i := 0) C dX1_skipLetters_0 rfl rfl rfl ?_
    refine z_gi C (FX1_skipLetters_28 hC) (tn_6 hC) (tc_6 hC) rfl dX1_skipLetters_1 rfl hf (fun v3 hf => ?_)
    refine z_aload_n (i := 0) C dX1_skipLetters_4 rfl rfl rfl ?_
    refine z_gi C (FX1_skipLetters_15 hC) (tn_6 hC) (tc_6 hC) rfl dX1_skipLetters_5 rfl hf (fun v4 hf => ?_)
    refine z_ic_ge (tgt := 52) C dX1_skipLetters_8 (by decide) rfl hf (fun hf => ?_) (fun hf => ?_)
    · skip
      refine z_drop (lo' := [none]) 0 rfl ?_
      exact hK52 _ hf
    · skip
      refine z_aload_n (i := 0) C dX1_skipLetters_11 rfl rfl rfl ?_
      refine z_gr C (FX1_skipLetters_11 hC) (tn_6 hC) (tc_6 hC) rfl dX1_skipLetters_12 rfl ?_
      refine z_aload_n (i := 0) C dX1_skipLetters_15 rfl rfl rfl ?_
      refine z_gi C (FX1_skipLetters_28 hC) (tn_6 hC) (tc_6 hC) rfl dX1_skipLetters_16 rfl hf (fun v5 hf => ?_)
      refine z_iaload C (tn_7 hC) (tc_7 hC) dX1_skipLetters_19 rfl hf (fun v6 hf => ?_)
      refine z_bipush C dX1_skipLetters_20 zb_97 rfl ?_
      refine z_ic_lt (tgt := 52) C dX1_skipLetters_22 (by decide) rfl hf (fun hf => ?_) (fun hf => ?_)
      · skip
        refine z_drop (lo' := [none]) 0 rfl ?_
        exact hK52 _ hf
      · skip
        refine z_aload_n (i := 0) C dX1_skipLetters_25 rfl rfl rfl ?_
        refine z_gr C (FX1_skipLetters_11 hC) (tn_6 hC) (tc_6 hC) rfl dX1_skipLetters_26 rfl ?_
        refine z_aload_n (i := 0) C dX1_skipLetters_29 rfl rfl rfl ?_
        refine z_gi C (FX1_skipLetters_28 hC) (tn_6 hC) (tc_6 hC) rfl dX1_skipLetters_30 rfl hf (fun v7 hf => ?_)
        refine z_iaload C (tn_7 hC) (tc_7 hC) dX1_skipLetters_33 rfl hf (fun v8 hf => ?_)
        refine z_bipush C dX1_skipLetters_34 zb_122 rfl ?_
        refine z_ic_gt (tgt := 52) C dX1_skipLetters_36 (by decide) rfl hf (fun hf => ?_) (fun hf => ?_)
        · skip
          refine z_drop (lo' := [none]) 0 rfl ?_
          exact hK52 _ hf
        · skip
          refine z_aload_n (i := 0) C dX1_skipLetters_39 rfl rfl rfl ?_
          refine z_dup C dX1_skipLetters_40 rfl rfl ?_
          refine z_gi C (FX1_skipLetters_28 hC) (tn_6 hC) (tc_6 hC) rfl dX1_skipLetters_41 rfl hf (fun v9 hf => ?_)
          refine z_iconst C dX1_skipLetters_44 zi_1 rfl ?_
          refine z_iadd C dX1_skipLetters_45 rfl ?_
          refine z_pi C (PX1_skipLetters_28 hC) (tn_6 hC) (tc_6 hC) rfl dX1_skipLetters_46 rfl hf (fun m10 hf => ?_)
          refine z_goto (pc' := 0) C dX1_skipLetters_49 (by decide) ?_
          exact ih m10 hf

def fX1_numbersOf (a1 : Int32) : Option (Int32) :=
  if a1 = 0 then
  some 3
  else if a1 = 2 then
  some 2
  else some 1
theorem hdX1_numbersOf : yX1_numbersOf.cls ≠ "java/lang/invoke/MethodHandle" ∧ yX1_numbersOf.cls ≠ "java/lang/invoke/VarHandle" ∧ (parseMethodDescriptor yX1_numbersOf.desc).map (fun d => d.parameters.length) = some 1 := by decide +kernel
set_option maxHeartbeats 4000000 in
set_option maxRecDepth 100000 in
theorem qX1_numbersOf {l : Launch} {g : zG}  (a1 : Int32) (m : zMem)  (o : Int32) (hf : fX1_numbersOf a1 = some o) : zMI l g yX1_numbersOf wsX1_numbersOf { frames := 0, cells := 0, slots := 0, locals := 0 } [.int a1] m (o, m) := by
  refine z_met_i (cc := cX1_numbersOf) (maxL := 1) (lo0 := [some (.int a1)]) (by decide +kernel) rfl rfl (Nat.le_of_ble_eq_true rfl) (fun x hx C hr => ?_)
  unfold fX1_numbersOf at hf
  refine z_iload_n (i := 0) C dX1_numbersOf_0 rfl rfl rfl ?_
  refine ite_V hf (fun hn hf => ?_) (fun hn1_0 hf => ?_)
  · refine z_lks (tgt := 28) (off := 27) C dX1_numbersOf_1 (by decide) (by rw [hn]; rfl) (by decide) ?_
    refine z_iconst C dX1_numbersOf_28 zi_3 rfl ?_
    exact hr _ _ _ _ (congrArg (fun z => (z, m)) (Option.some.inj hf)) dX1_numbersOf_29
  · skip
    refine ite_V hf (fun hn hf => ?_) (fun hn1_1 hf => ?_)
    · refine z_lks (tgt := 30) (off := 29) C dX1_numbersOf_1 (by decide) (by rw [hn]; rfl) (by decide) ?_
      refine z_iconst C dX1_numbersOf_30 zi_2 rfl ?_
      exact hr _ _ _ _ (congrArg (fun z => (z, m)) (Option.some.inj hf)) dX1_numbersOf_31
    · skip
      refine z_lks (tgt := 32) (off := 31) C dX1_numbersOf_1 (by decide) (zlk2 (by rw [zi_0]; exact hn1_0) (by rw [zi_2]; exact hn1_1)) (by decide) ?_
      refine z_iconst C dX1_numbersOf_32 zi_1 rfl ?_
      exact hr _ _ _ _ (congrArg (fun z => (z, m)) (Option.some.inj hf)) dX1_numbersOf_33

def fX1_peek (m : zMem) : Option (Int32) :=
  kgi m 6 5 fun v1 =>
  kgi m 6 1 fun v2 =>
  if v2 ≤ v1 then
  some (-1)
  else
  kgi m 6 5 fun v3 =>
  kld m 7 120 v3 fun v4 =>
  some v4
theorem FX1_peek_11 {g : zG} (hC : isC g) : zFl wsX1_peek RX1 (zcl g) 11 0 0 := ⟨RX1, TX1, 6, hC.2.2 ▸ rfl, by decide +kernel, by decide, by decide +kernel⟩
theorem FX1_peek_15 {g : zG} (hC : isC g) : zFl wsX1_peek RX1 (zcl g) 15 0 1 := ⟨RX1, TX1, 6, hC.2.2 ▸ rfl, by decide +kernel, by decide, by decide +kernel⟩
theorem FX1_peek_28 {g : zG} (hC : isC g) : zFl wsX1_peek RX1 (zcl g) 28 0 5 := ⟨RX1, TX1, 6, hC.2.2 ▸ rfl, by decide +kernel, by decide, by decide +kernel⟩
theorem hdX1_peek : yX1_peek.cls = RX1 ∧ yX1_peek.cls ≠ "java/lang/invoke/MethodHandle" ∧ yX1_peek.cls ≠ "java/lang/invoke/VarHandle" ∧ (parseMethodDescriptor yX1_peek.desc).map (fun d => d.parameters.length) = some 0 := by decide +kernel
set_option maxHeartbeats 4000000 in
set_option maxRecDepth 100000 in
theorem qX1_peek {l : Launch} {g : zG} (hC : isC g)  (m : zMem)  (o : Int32) (hf : fX1_peek m = some o) : zMI l g yX1_peek wsX1_peek { frames := 0, cells := 0, slots := 0, locals := 0 } [.ref (zad g 6)] m (o, m) := by
  refine z_met_i (cc := cX1_peek) (maxL := 1) (lo0 := [some (.ref (zad g 6))]) (by decide +kernel) rfl rfl (Nat.le_of_ble_eq_true rfl) (fun x hx C hr => ?_)
  unfold fX1_peek at hf
  refine z_aload_n (i := 0) C dX1_peek_0 rfl rfl rfl ?_
  refine z_gi C (FX1_peek_28 hC) (tn_6 hC) (tc_6 hC) rfl dX1_peek_1 rfl hf (fun v1 hf => ?_)
  refine z_aload_n (i := 0) C dX1_peek_4 rfl rfl rfl ?_
  refine z_gi C (FX1_peek_15 hC) (tn_6 hC) (tc_6 hC) rfl dX1_peek_5 rfl hf (fun v2 hf => ?_)
  refine z_ic_ge (tgt := 23) C dX1_peek_8 (by decide) rfl hf (fun hf => ?_) (fun hf => ?_)
  · skip
    refine z_iconst C dX1_peek_23 zi_m1 rfl ?_
    exact hr _ _ _ _ (congrArg (fun z => (z, m)) (Option.some.inj hf)) dX1_peek_24
  · skip
    refine z_aload_n (i := 0) C dX1_peek_11 rfl rfl rfl ?_
    refine z_gr C (FX1_peek_11 hC) (tn_6 hC) (tc_6 hC) rfl dX1_peek_12 rfl ?_
    refine z_aload_n (i := 0) C dX1_peek_15 rfl rfl rfl ?_
    refine z_gi C (FX1_peek_28 hC) (tn_6 hC) (tc_6 hC) rfl dX1_peek_16 rfl hf (fun v3 hf => ?_)
    refine z_iaload C (tn_7 hC) (tc_7 hC) dX1_peek_19 rfl hf (fun v4 hf => ?_)
    refine z_goto (pc' := 24) C dX1_peek_20 (by decide) ?_
    exact hr _ _ _ _ (congrArg (fun z => (z, m)) (Option.some.inj hf)) dX1_peek_24

def fX1_isDigit (a1 : Int32) : Option (Int32) :=
  if a1 < 48 then
  some 0
  else
  if 57 < a1 then
  some 0
  else
  some 1
theorem hdX1_isDigit : yX1_isDigit.cls ≠ "java/lang/invoke/MethodHandle" ∧ yX1_isDigit.cls ≠ "java/lang/invoke/VarHandle" ∧ (parseMethodDescriptor yX1_isDigit.desc).map (fun d => d.parameters.length) = some 1 := by decide +kernel
set_option maxHeartbeats 4000000 in
set_option maxRecDepth 100000 in
theorem qX1_isDigit {l : Launch} {g : zG}  (a1 : Int32) (m : zMem)  (o : Int32) (hf : fX1_isDigit a1 = some o) : zMI l g yX1_isDigit wsX1_isDigit { frames := 0, cells := 0, slots := 0, locals := 0 } [.int a1] m (o, m) := by
  refine z_met_z (cc := cX1_isDigit) (maxL := 1) (lo0 := [some (.int a1)]) (by decide +kernel) rfl rfl (Nat.le_of_ble_eq_true rfl) (fun x hx C hr => ?_)
  unfold fX1_isDigit at hf
  refine z_iload_n (i := 0) C dX1_isDigit_0 rfl rfl rfl ?_
  refine z_bipush C dX1_isDigit_1 zb_48 rfl ?_
  refine z_ic_lt (tgt := 16) C dX1_isDigit_3 (by decide) rfl hf (fun hf => ?_) (fun hf => ?_)
  · skip
    refine z_iconst C dX1_isDigit_16 zi_0 rfl ?_
    exact hr _ _ _ _ (Or.inl rfl) (congrArg (fun z => (z, m)) (Option.some.inj hf)) dX1_isDigit_17
  · skip
    refine z_iload_n (i := 0) C dX1_isDigit_6 rfl rfl rfl ?_
    refine z_bipush C dX1_isDigit_7 zb_57 rfl ?_
    refine z_ic_gt (tgt := 16) C dX1_isDigit_9 (by decide) rfl hf (fun hf => ?_) (fun hf => ?_)
    · skip
      refine z_iconst C dX1_isDigit_16 zi_0 rfl ?_
      exact hr _ _ _ _ (Or.inl rfl) (congrArg (fun z => (z, m)) (Option.some.inj hf)) dX1_isDigit_17
    · skip
      refine z_iconst C dX1_isDigit_12 zi_1 rfl ?_
      refine z_goto (pc' := 17) C dX1_isDigit_13 (by decide) ?_
      exact hr _ _ _ _ (Or.inr rfl) (congrArg (fun z => (z, m)) (Option.some.inj hf)) dX1_isDigit_17

def sX1_readNumber_31 (K75 : Int32 → zMem → Option (Int32 × zMem)) : (Int32 × Int32 × zMem → Option (Int32 × zMem)) → Int32 × Int32 × zMem → Option (Int32 × zMem) := fun rec (x10, x11, m12) =>
  if 5 ≤ x11 then
  K75 x10 m12
  else
  kc1 (fX1_peek m12) fun v13 =>
  kc1 (fX1_isDigit v13) fun v14 =>
  if v14 = 0 then
  K75 x10 m12
  else
  kc1 (fX1_peek m12) fun v15 =>
  klt ((10 * x10) + (v15 - 48) : Int32) fun v16 =>
  kgi m12 6 5 fun v17 =>
  kpi m12 6 5 (v17 + 1) fun m18 =>
  rec (v16, x11 + 1, m18)
def fX1_readNumber (N : Nat) (a1 : Int32) (m : zMem) : Option (Int32 × zMem) :=
  kc1 (fX1_peek m) fun v1 =>
  if v1 = 32 then
  kc1 (fX1_skipSpaces N m) fun m2 =>
  kc1 (fX1_peek m2) fun v3 =>
  kc1 (fX1_isDigit v3) fun v4 =>
  if v4 = 0 then
  some (0, m2)
  else
  kjn (fun (w5 : Int32) (m6 : zMem) =>
  kst m6 9 60 a1 w5 fun m7 =>
  kc1 (fX1_peek m7) fun v8 =>
  kc1 (fX1_isDigit v8) fun v9 =>
  if v9 = 0 then
  some (1, m7)
  else
  some (0, m7)) fun K75 =>
  klp (sX1_readNumber_31 K75) N (0, 0, m2)
  else
  some (0, m)
theorem FX1_readNumber_25 {g : zG} (hC : isC g) : zFl wsX1_readNumber RX1 (zcl g) 25 0 4 := ⟨RX1, TX1, 6, hC.2.2 ▸ rfl, by decide +kernel, by decide, by decide +kernel⟩
theorem FX1_readNumber_28 {g : zG} (hC : isC g) : zFl wsX1_readNumber RX1 (zcl g) 28 0 5 := ⟨RX1, TX1, 6, hC.2.2 ▸ rfl, by decide +kernel, by decide, by decide +kernel⟩
theorem PX1_readNumber_28 {g : zG} (hC : isC g) : zFp wsX1_readNumber RX1 (zcl g) 28 0 5 .int := ⟨RX1, TX1, 6, tyX1, hC.2.2 ▸ rfl, by decide +kernel, by decide, by decide +kernel, tyX1_ok, nmX1, rfl, by decide +kernel⟩
theorem hdX1_readNumber : yX1_readNumber.cls = RX1 ∧ yX1_readNumber.cls ≠ "java/lang/invoke/MethodHandle" ∧ yX1_readNumber.cls ≠ "java/lang/invoke/VarHandle" ∧ (parseMethodDescriptor yX1_readNumber.desc).map (fun d => d.parameters.length) = some 1 := by decide +kernel
set_option maxHeartbeats 4000000 in
set_option maxRecDepth 100000 in
theorem qX1_readNumber {l : Launch} {g : zG} (hC : isC g)  (N : Nat) (a1 : Int32) (m : zMem)  (o : Int32 × zMem) (hf : fX1_readNumber N a1 m = some o) : zMI l g yX1_readNumber wsX1_readNumber { frames := 1, cells := 0, slots := 0, locals := 20 } [.ref (zad g 6), .int a1] m o := by
  refine z_met_z (cc := cX1_readNumber) (maxL := 4) (lo0 := [some (.ref (zad g 6)), some (.int a1), none, none]) (by decide +kernel) rfl rfl (Nat.le_of_ble_eq_true rfl) (fun x hx C hr => ?_)
  unfold fX1_readNumber at hf
  refine z_aload_n (i := 0) C dX1_readNumber_0 rfl rfl rfl ?_
  refine z_cviR (As := []) (st := []) (m := m) C (cl_0 hC) (tn_6 hC) (tc_6 hC) gX1_readNumber_X1_peek hdX1_peek rfl (fun z h => qX1_peek hC m z h) rfl (Nat.le_of_ble_eq_true rfl) ⟨Nat.le_of_ble_eq_true rfl, Nat.le_of_ble_eq_true rfl⟩ ⟨Nat.le_refl _, Nat.le_refl _⟩ dX1_readNumber_1 rfl rfl hf (fun v1 hf => ?_)
  refine z_bipush C dX1_readNumber_4 zb_32 rfl ?_
  refine z_ic_eq (tgt := 11) C dX1_readNumber_6 (by decide) rfl hf (fun hf => ?_) (fun hf => ?_)
  · skip
    refine z_aload_n (i := 0) C dX1_readNumber_11 rfl rfl rfl ?_
    refine z_cvvW (As := []) (st := []) (m := m) C (cl_0 hC) (tn_6 hC) (tc_6 hC) gX1_readNumber_X1_skipSpaces hdX1_skipSpaces rfl (fun z h => qX1_skipSpaces hC N m z h) rfl (Nat.le_of_ble_eq_true rfl) ⟨Nat.le_of_ble_eq_true rfl, Nat.le_of_ble_eq_true rfl⟩ ⟨Nat.le_refl _, Nat.le_refl _⟩ dX1_readNumber_12 rfl rfl hf (fun m2 hf => ?_)
    refine z_aload_n (i := 0) C dX1_readNumber_15 rfl rfl rfl ?_
    refine z_cviR (As := []) (st := []) (m := m2) C (cl_0 hC) (tn_6 hC) (tc_6 hC) gX1_readNumber_X1_peek hdX1_peek rfl (fun z h => qX1_peek hC m2 z h) rfl (Nat.le_of_ble_eq_true rfl) ⟨Nat.le_of_ble_eq_true rfl, Nat.le_of_ble_eq_true rfl⟩ ⟨Nat.le_refl _, Nat.le_refl _⟩ dX1_readNumber_16 rfl rfl hf (fun v3 hf => ?_)
    refine z_csiR (As := [.int v3]) (st := []) (m := m2) C gX1_readNumber_X1_isDigit hdX1_isDigit rfl (fun z h => qX1_isDigit v3 m2 z h) rfl (Nat.le_of_ble_eq_true rfl) ⟨Nat.le_of_ble_eq_true rfl, Nat.le_of_ble_eq_true rfl⟩ ⟨Nat.le_refl _, Nat.le_refl _⟩ dX1_readNumber_19 rfl rfl hf (fun v4 hf => ?_)
    refine z_if_ne (tgt := 27) C dX1_readNumber_22 (by decide) rfl hf (fun hf => ?_) (fun hf => ?_)
    · skip
      refine z_iconst C dX1_readNumber_27 zi_0 rfl ?_
      refine z_istore_n (i := 2) (lo' := [some (.ref (zad g 6)), some (.int a1), some (.int 0), none]) C dX1_readNumber_28 rfl (Nat.le_of_ble_eq_true rfl) rfl rfl rfl ?_
      refine z_iconst C dX1_readNumber_29 zi_0 rfl ?_
      refine z_istore_n (i := 3) (lo' := [some (.ref (zad g 6)), some (.int a1), some (.int 0), some (.int 0)]) C dX1_readNumber_30 rfl (Nat.le_of_ble_eq_true rfl) rfl rfl rfl ?_
      refine kjn_V (fun K75 => ∀ (w5 : Int32) (m6 : zMem), K75 w5 m6 = some o → zV x g 4 0 0 75 [some (.ref (zad g 6)), some (.int a1), some (.int w5), none] [] m6) hf (fun w5 m6 hf => ?_) (fun K75 hK75 hf => ?_)
      · skip
        refine z_aload_n (i := 0) C dX1_readNumber_75 rfl rfl rfl ?_
        refine z_gr C (FX1_readNumber_25 hC) (tn_6 hC) (tc_6 hC) rfl dX1_readNumber_76 rfl ?_
        refine z_iload_n (i := 1) C dX1_readNumber_79 rfl rfl rfl ?_
        refine z_iload_n (i := 2) C dX1_readNumber_80 rfl rfl rfl ?_
        refine z_iastore C (tn_9 hC) (tc_9 hC) dX1_readNumber_81 rfl hf (fun m7 hf => ?_)
        refine z_aload_n (i := 0) C dX1_readNumber_82 rfl rfl rfl ?_
        refine z_cviR (As := []) (st := []) (m := m7) C (cl_0 hC) (tn_6 hC) (tc_6 hC) gX1_readNumber_X1_peek hdX1_peek rfl (fun z h => qX1_peek hC m7 z h) rfl (Nat.le_of_ble_eq_true rfl) ⟨Nat.le_of_ble_eq_true rfl, Nat.le_of_ble_eq_true rfl⟩ ⟨Nat.le_refl _, Nat.le_refl _⟩ dX1_readNumber_83 rfl rfl hf (fun v8 hf => ?_)
        refine z_csiR (As := [.int v8]) (st := []) (m := m7) C gX1_readNumber_X1_isDigit hdX1_isDigit rfl (fun z h => qX1_isDigit v8 m7 z h) rfl (Nat.le_of_ble_eq_true rfl) ⟨Nat.le_of_ble_eq_true rfl, Nat.le_of_ble_eq_true rfl⟩ ⟨Nat.le_refl _, Nat.le_refl _⟩ dX1_readNumber_86 rfl rfl hf (fun v9 hf => ?_)
        refine z_if_ne (tgt := 96) C dX1_readNumber_89 (by decide) rfl hf (fun hf => ?_) (fun hf => ?_)
        · skip
          refine z_iconst C dX1_readNumber_96 zi_0 rfl ?_
          exact hr _ _ _ _ (Or.inl rfl) (Option.some.inj hf) dX1_readNumber_97
        · skip
          refine z_iconst C dX1_readNumber_92 zi_1 rfl ?_
          refine z_goto (pc' := 97) C dX1_readNumber_93 (by decide) ?_
          exact hr _ _ _ _ (Or.inr rfl) (Option.some.inj hf) dX1_readNumber_97
      · skip
        refine klp_V (fun z => zV x g 4 0 0 31 [some (.ref (zad g 6)), some (.int a1), some (.int z.1), some (.int z.2.1)] [] z.2.2) hf (fun rec z ih hf => ?_)
        obtain ⟨x10, x11, m12⟩ := z
        unfold sX1_readNumber_31 at hf
        try dsimp only at hf
        try dsimp only
        refine z_iload_n (i := 3) C dX1_readNumber_31 rfl rfl rfl ?_
        refine z_iconst C dX1_readNumber_32 zi_5 rfl ?_
        refine z_ic_ge (tgt := 75) C dX1_readNumber_33 (by decide) rfl hf (fun hf => ?_) (fun hf => ?_)
        · skip
          refine z_drop (lo' := [some (.ref (zad g 6)), some (.int a1), some (.int x10), none]) 3 rfl ?_
          exact hK75 _ _ hf
        · skip
          refine z_aload_n (i := 0) C dX1_readNumber_36 rfl rfl rfl ?_
          refine z_cviR (As := []) (st := []) (m := m12) C (cl_0 hC) (tn_6 hC) (tc_6 hC) gX1_readNumber_X1_peek hdX1_peek rfl (fun z h => qX1_peek hC m12 z h) rfl (Nat.le_of_ble_eq_true rfl) ⟨Nat.le_of_ble_eq_true rfl, Nat.le_of_ble_eq_true rfl⟩ ⟨Nat.le_refl _, Nat.le_refl _⟩ dX1_readNumber_37 rfl rfl hf (fun v13 hf => ?_)
          refine z_csiR (As := [.int v13]) (st := []) (m := m12) C gX1_readNumber_X1_isDigit hdX1_isDigit rfl (fun z h => qX1_isDigit v13 m12 z h) rfl (Nat.le_of_ble_eq_true rfl) ⟨Nat.le_of_ble_eq_true rfl, Nat.le_of_ble_eq_true rfl⟩ ⟨Nat.le_refl _, Nat.le_refl _⟩ dX1_readNumber_40 rfl rfl hf (fun v14 hf => ?_)
          refine z_if_eq (tgt := 75) C dX1_readNumber_43 (by decide) rfl hf (fun hf => ?_) (fun hf => ?_)
          · skip
            refine z_drop (lo' := [some (.ref (zad g 6)), some (.int a1), some (.int x10), none]) 3 rfl ?_
            exact hK75 _ _ hf
          · skip
            refine z_bipush C dX1_readNumber_46 zb_10 rfl ?_
            refine z_iload_n (i := 2) C dX1_readNumber_48 rfl rfl rfl ?_
            refine z_imul C dX1_readNumber_49 rfl ?_
            refine z_aload_n (i := 0) C dX1_readNumber_50 rfl rfl rfl ?_
            refine z_cviR (As := []) (st := [.int (10 * x10)]) (m := m12) C (cl_0 hC) (tn_6 hC) (tc_6 hC) gX1_readNumber_X1_peek hdX1_peek rfl (fun z h => qX1_peek hC m12 z h) rfl (Nat.le_of_ble_eq_true rfl) ⟨Nat.le_of_ble_eq_true rfl, Nat.le_of_ble_eq_true rfl⟩ ⟨Nat.le_refl _, Nat.le_refl _⟩ dX1_readNumber_51 rfl rfl hf (fun v15 hf => ?_)
            refine z_bipush C dX1_readNumber_54 zb_48 rfl ?_
            refine z_isub C dX1_readNumber_56 rfl ?_
            refine z_iadd C dX1_readNumber_57 rfl ?_
            refine z_top _ hf (fun v16 hf => ?_)
            refine z_istore_n (i := 2) (lo' := [some (.ref (zad g 6)), some (.int a1), some (.int v16), some (.int x11)]) C dX1_readNumber_58 rfl (Nat.le_of_ble_eq_true rfl) rfl rfl rfl ?_
            refine z_aload_n (i := 0) C dX1_readNumber_59 rfl rfl rfl ?_
            refine z_dup C dX1_readNumber_60 rfl rfl ?_
            refine z_gi C (FX1_readNumber_28 hC) (tn_6 hC) (tc_6 hC) rfl dX1_readNumber_61 rfl hf (fun v17 hf => ?_)
            refine z_iconst C dX1_readNumber_64 zi_1 rfl ?_
            refine z_iadd C dX1_readNumber_65 rfl ?_
            refine z_pi C (PX1_readNumber_28 hC) (tn_6 hC) (tc_6 hC) rfl dX1_readNumber_66 rfl hf (fun m18 hf => ?_)
            refine z_iinc (v := x11 + 1) (lo' := [some (.ref (zad g 6)), some (.int a1), some (.int v16), some (.int (x11 + 1))]) C dX1_readNumber_69 rfl (zinc zi_1) (Nat.le_of_ble_eq_true rfl) rfl rfl rfl ?_
            refine z_goto (pc' := 31) C dX1_readNumber_72 (by decide) ?_
            exact ih (v16, x11 + 1, m18) hf
    · skip
      refine z_iconst C dX1_readNumber_25 zi_0 rfl ?_
      exact hr _ _ _ _ (Or.inl rfl) (Option.some.inj hf) dX1_readNumber_26
  · skip
    refine z_iconst C dX1_readNumber_9 zi_0 rfl ?_
    exact hr _ _ _ _ (Or.inl rfl) (Option.some.inj hf) dX1_readNumber_10

def fX3_copyFrom (s : Nat) (s2 : Nat) (m : zMem) : Option (zMem) :=
  kcp m (s2 + 7) (s + 7) 192 192 0 0 192 fun m1 =>
  kcp m1 (s2 + 8) (s + 8) 768 768 0 0 768 fun m2 =>
  kcp m2 (s2 + 9) (s + 9) 768 768 0 0 768 fun m3 =>
  some m3
theorem FX3_copyFrom_11 {g : zG} (hC : isC g) : zFl wsX3_copyFrom RX3 (zcl g) 11 2 0 := ⟨RX3, TX3, 3, hC.2.2 ▸ rfl, by decide +kernel, by decide, by decide +kernel⟩
theorem FX3_copyFrom_15 {g : zG} (hC : isC g) : zFl wsX3_copyFrom RX3 (zcl g) 15 2 1 := ⟨RX3, TX3, 3, hC.2.2 ▸ rfl, by decide +kernel, by decide, by decide +kernel⟩
theorem FX3_copyFrom_18 {g : zG} (hC : isC g) : zFl wsX3_copyFrom RX3 (zcl g) 18 2 2 := ⟨RX3, TX3, 3, hC.2.2 ▸ rfl, by decide +kernel, by decide, by decide +kernel⟩
theorem hdX3_copyFrom : yX3_copyFrom.cls = RX3 ∧ yX3_copyFrom.cls ≠ "java/lang/invoke/MethodHandle" ∧ yX3_copyFrom.cls ≠ "java/lang/invoke/VarHandle" ∧ (parseMethodDescriptor yX3_copyFrom.desc).map (fun d => d.parameters.length) = some 1 := by decide +kernel
set_option maxHeartbeats 4000000 in
set_option maxRecDepth 100000 in
theorem qX3_copyFrom {l : Launch} {g : zG} (hC : isC g)  (s : Nat) (s2 : Nat) (m : zMem) (hs : isS s) (hs2 : isS s2) (o : zMem) (hf : fX3_copyFrom s s2 m = some o) : zMV l g yX3_copyFrom wsX3_copyFrom { frames := 1, cells := 0, slots := 0, locals := 18 } [.ref (zad g (s + 6)), .ref (zad g (s2 + 6))] m o := by
  refine z_met_v (cc := cX3_copyFrom) (maxL := 2) (lo0 := [some (.ref (zad g (s + 6))), some (.ref (zad g (s2 + 6)))]) (by decide +kernel) rfl rfl (Nat.le_of_ble_eq_true rfl) (fun x hx C hr => ?_)
  unfold fX3_copyFrom at hf
  refine z_aload_n (i := 1) C dX3_copyFrom_0 rfl rfl rfl ?_
  refine z_gr C (FX3_copyFrom_11 hC) (sn_6 hC hs2) (sc_6 hC hs2) rfl dX3_copyFrom_1 rfl ?_
  refine z_iconst C dX3_copyFrom_4 zi_0 rfl ?_
  refine z_aload_n (i := 0) C dX3_copyFrom_5 rfl rfl rfl ?_
  refine z_gr C (FX3_copyFrom_11 hC) (sn_6 hC hs) (sc_6 hC hs) rfl dX3_copyFrom_6 rfl ?_
  refine z_iconst C dX3_copyFrom_9 zi_0 rfl ?_
  refine z_sipush C dX3_copyFrom_10 zs_192 rfl ?_
  refine z_copy (idx := 27) C (sn_7 hC hs2) (sn_7 hC hs) (sc_7 hC hs2) (sc_7 hC hs) (by decide +kernel) (by decide +kernel) (by decide +kernel) (by decide +kernel) ⟨Nat.le_of_ble_eq_true rfl, Nat.le_of_ble_eq_true rfl⟩ dX3_copyFrom_13 rfl hf (fun m1 hf => ?_)
  refine z_aload_n (i := 1) C dX3_copyFrom_16 rfl rfl rfl ?_
  refine z_gr C (FX3_copyFrom_15 hC) (sn_6 hC hs2) (sc_6 hC hs2) rfl dX3_copyFrom_17 rfl ?_
  refine z_iconst C dX3_copyFrom_20 zi_0 rfl ?_
  refine z_aload_n (i := 0) C dX3_copyFrom_21 rfl rfl rfl ?_
  refine z_gr C (FX3_copyFrom_15 hC) (sn_6 hC hs) (sc_6 hC hs) rfl dX3_copyFrom_22 rfl ?_
  refine z_iconst C dX3_copyFrom_25 zi_0 rfl ?_
  refine z_sipush C dX3_copyFrom_26 zs_768 rfl ?_
  refine z_copy (idx := 27) C (sn_8 hC hs2) (sn_8 hC hs) (sc_8 hC hs2) (sc_8 hC hs) (by decide +kernel) (by decide +kernel) (by decide +kernel) (by decide +kernel) ⟨Nat.le_of_ble_eq_true rfl, Nat.le_of_ble_eq_true rfl⟩ dX3_copyFrom_29 rfl hf (fun m2 hf => ?_)
  refine z_aload_n (i := 1) C dX3_copyFrom_32 rfl rfl rfl ?_
  refine z_gr C (FX3_copyFrom_18 hC) (sn_6 hC hs2) (sc_6 hC hs2) rfl dX3_copyFrom_33 rfl ?_
  refine z_iconst C dX3_copyFrom_36 zi_0 rfl ?_
  refine z_aload_n (i := 0) C dX3_copyFrom_37 rfl rfl rfl ?_
  refine z_gr C (FX3_copyFrom_18 hC) (sn_6 hC hs) (sc_6 hC hs) rfl dX3_copyFrom_38 rfl ?_
  refine z_iconst C dX3_copyFrom_41 zi_0 rfl ?_
  refine z_sipush C dX3_copyFrom_42 zs_768 rfl ?_
  refine z_copy (idx := 27) C (sn_9 hC hs2) (sn_9 hC hs) (sc_9 hC hs2) (sc_9 hC hs) (by decide +kernel) (by decide +kernel) (by decide +kernel) (by decide +kernel) ⟨Nat.le_of_ble_eq_true rfl, Nat.le_of_ble_eq_true rfl⟩ dX3_copyFrom_45 rfl hf (fun m3 hf => ?_)
  exact hr _ _ _ (Option.some.inj hf) dX3_copyFrom_48

def fX2_copyFrom (s : Nat) (s2 : Nat) (m : zMem) : Option (zMem) :=
  kgi m s2 0 fun v1 =>
  kpi m s 0 v1 fun m2 =>
  kgi m2 s2 1 fun v3 =>
  kpi m2 s 1 v3 fun m4 =>
  kgi m4 s2 2 fun v5 =>
  kpi m4 s 2 v5 fun m6 =>
  kgi m6 s2 3 fun v7 =>
  kpi m6 s 3 v7 fun m8 =>
  kgi m8 s2 4 fun v9 =>
  kpi m8 s 4 v9 fun m10 =>
  kgi m10 s2 5 fun v11 =>
  kpi m10 s 5 v11 fun m12 =>
  kgi m12 s2 6 fun v13 =>
  kpi m12 s 6 v13 fun m14 =>
  kgi m14 s2 7 fun v15 =>
  kpi m14 s 7 v15 fun m16 =>
  kcp m16 (s2 + 1) (s + 1) 9 9 0 0 9 fun m17 =>
  kcp m17 (s2 + 2) (s + 2) 256 256 0 0 256 fun m18 =>
  kcp m18 (s2 + 3) (s + 3) 24 24 0 0 24 fun m19 =>
  kcp m19 (s2 + 4) (s + 4) 24 24 0 0 24 fun m20 =>
  kcp m20 (s2 + 5) (s + 5) 24 24 0 0 24 fun m21 =>
  kc1 (fX3_copyFrom s s2 m21) fun m22 =>
  some m22
theorem FX2_copyFrom_9 {g : zG} (hC : isC g) : zFl wsX2_copyFrom RX2 (zcl g) 9 1 0 := ⟨RX2, TX2, 14, hC.2.2 ▸ rfl, by decide +kernel, by decide, by decide +kernel⟩
theorem PX2_copyFrom_9 {g : zG} (hC : isC g) : zFp wsX2_copyFrom RX2 (zcl g) 9 1 0 .int := ⟨RX2, TX2, 14, tyX2, hC.2.2 ▸ rfl, by decide +kernel, by decide, by decide +kernel, tyX2_ok, nmX2, rfl, by decide +kernel⟩
theorem FX2_copyFrom_15 {g : zG} (hC : isC g) : zFl wsX2_copyFrom RX2 (zcl g) 15 1 1 := ⟨RX2, TX2, 14, hC.2.2 ▸ rfl, by decide +kernel, by decide, by decide +kernel⟩
theorem PX2_copyFrom_15 {g : zG} (hC : isC g) : zFp wsX2_copyFrom RX2 (zcl g) 15 1 1 .int := ⟨RX2, TX2, 14, tyX2, hC.2.2 ▸ rfl, by decide +kernel, by decide, by decide +kernel, tyX2_ok, nmX2, rfl, by decide +kernel⟩
theorem FX2_copyFrom_18 {g : zG} (hC : isC g) : zFl wsX2_copyFrom RX2 (zcl g) 18 1 2 := ⟨RX2, TX2, 14, hC.2.2 ▸ rfl, by decide +kernel, by decide, by decide +kernel⟩
theorem PX2_copyFrom_18 {g : zG} (hC : isC g) : zFp wsX2_copyFrom RX2 (zcl g) 18 1 2 .int := ⟨RX2, TX2, 14, tyX2, hC.2.2 ▸ rfl, by decide +kernel, by decide, by decide +kernel, tyX2_ok, nmX2, rfl, by decide +kernel⟩
theorem FX2_copyFrom_21 {g : zG} (hC : isC g) : zFl wsX2_copyFrom RX2 (zcl g) 21 1 3 := ⟨RX2, TX2, 14, hC.2.2 ▸ rfl, by decide +kernel, by decide, by decide +kernel⟩
theorem PX2_copyFrom_21 {g : zG} (hC : isC g) : zFp wsX2_copyFrom RX2 (zcl g) 21 1 3 .int := ⟨RX2, TX2, 14, tyX2, hC.2.2 ▸ rfl, by decide +kernel, by decide, by decide +kernel, tyX2_ok, nmX2, rfl, by decide +kernel⟩
theorem FX2_copyFrom_24 {g : zG} (hC : isC g) : zFl wsX2_copyFrom RX2 (zcl g) 24 1 4 := ⟨RX2, TX2, 14, hC.2.2 ▸ rfl, by decide +kernel, by decide, by decide +kernel⟩
theorem PX2_copyFrom_24 {g : zG} (hC : isC g) : zFp wsX2_copyFrom RX2 (zcl g) 24 1 4 .int := ⟨RX2, TX2, 14, tyX2, hC.2.2 ▸ rfl, by decide +kernel, by decide, by decide +kernel, tyX2_ok, nmX2, rfl, by decide +kernel⟩
theorem FX2_copyFrom_27 {g : zG} (hC : isC g) : zFl wsX2_copyFrom RX2 (zcl g) 27 1 5 := ⟨RX2, TX2, 14, hC.2.2 ▸ rfl, by decide +kernel, by decide, by decide +kernel⟩
theorem PX2_copyFrom_27 {g : zG} (hC : isC g) : zFp wsX2_copyFrom RX2 (zcl g) 27 1 5 .int := ⟨RX2, TX2, 14, tyX2, hC.2.2 ▸ rfl, by decide +kernel, by decide, by decide +kernel, tyX2_ok, nmX2, rfl, by decide +kernel⟩
theorem FX2_copyFrom_30 {g : zG} (hC : isC g) : zFl wsX2_copyFrom RX2 (zcl g) 30 1 6 := ⟨RX2, TX2, 14, hC.2.2 ▸ rfl, by decide +kernel, by decide, by decide +kernel⟩
theorem PX2_copyFrom_30 {g : zG} (hC : isC g) : zFp wsX2_copyFrom RX2 (zcl g) 30 1 6 .int := ⟨RX2, TX2, 14, tyX2, hC.2.2 ▸ rfl, by decide +kernel, by decide, by decide +kernel, tyX2_ok, nmX2, rfl, by decide +kernel⟩
theorem FX2_copyFrom_33 {g : zG} (hC : isC g) : zFl wsX2_copyFrom RX2 (zcl g) 33 1 7 := ⟨RX2, TX2, 14, hC.2.2 ▸ rfl, by decide +kernel, by decide, by decide +kernel⟩
theorem PX2_copyFrom_33 {g : zG} (hC : isC g) : zFp wsX2_copyFrom RX2 (zcl g) 33 1 7 .int := ⟨RX2, TX2, 14, tyX2, hC.2.2 ▸ rfl, by decide +kernel, by decide, by decide +kernel, tyX2_ok, nmX2, rfl, by decide +kernel⟩
theorem FX2_copyFrom_36 {g : zG} (hC : isC g) : zFl wsX2_copyFrom RX2 (zcl g) 36 1 8 := ⟨RX2, TX2, 14, hC.2.2 ▸ rfl, by decide +kernel, by decide, by decide +kernel⟩
theorem FX2_copyFrom_40 {g : zG} (hC : isC g) : zFl wsX2_copyFrom RX2 (zcl g) 40 1 9 := ⟨RX2, TX2, 14, hC.2.2 ▸ rfl, by decide +kernel, by decide, by decide +kernel⟩
theorem FX2_copyFrom_43 {g : zG} (hC : isC g) : zFl wsX2_copyFrom RX2 (zcl g) 43 1 10 := ⟨RX2, TX2, 14, hC.2.2 ▸ rfl, by decide +kernel, by decide, by decide +kernel⟩
theorem FX2_copyFrom_46 {g : zG} (hC : isC g) : zFl wsX2_copyFrom RX2 (zcl g) 46 1 11 := ⟨RX2, TX2, 14, hC.2.2 ▸ rfl, by decide +kernel, by decide, by decide +kernel⟩
theorem FX2_copyFrom_49 {g : zG} (hC : isC g) : zFl wsX2_copyFrom RX2 (zcl g) 49 1 12 := ⟨RX2, TX2, 14, hC.2.2 ▸ rfl, by decide +kernel, by decide, by decide +kernel⟩
theorem FX2_copyFrom_55 {g : zG} (hC : isC g) : zFl wsX2_copyFrom RX2 (zcl g) 55 1 13 := ⟨RX2, TX2, 14, hC.2.2 ▸ rfl, by decide +kernel, by decide, by decide +kernel⟩
theorem hdX2_copyFrom : yX2_copyFrom.cls = RX2 ∧ yX2_copyFrom.cls ≠ "java/lang/invoke/MethodHandle" ∧ yX2_copyFrom.cls ≠ "java/lang/invoke/VarHandle" ∧ (parseMethodDescriptor yX2_copyFrom.desc).map (fun d => d.parameters.length) = some 1 := by decide +kernel
set_option maxHeartbeats 4000000 in
set_option maxRecDepth 100000 in
theorem qX2_copyFrom {l : Launch} {g : zG} (hC : isC g)  (s : Nat) (s2 : Nat) (m : zMem) (hs : isS s) (hs2 : isS s2) (o : zMem) (hf : fX2_copyFrom s s2 m = some o) : zMV l g yX2_copyFrom wsX2_copyFrom { frames := 2, cells := 0, slots := 0, locals := 39 } [.ref (zad g s), .ref (zad g s2)] m o := by
  refine z_met_v (cc := cX2_copyFrom) (maxL := 2) (lo0 := [some (.ref (zad g s)), some (.ref (zad g s2))]) (by decide +kernel) rfl rfl (Nat.le_of_ble_eq_true rfl) (fun x hx C hr => ?_)
  unfold fX2_copyFrom at hf
  refine z_aload_n (i := 0) C dX2_copyFrom_0 rfl rfl rfl ?_
  refine z_aload_n (i := 1) C dX2_copyFrom_1 rfl rfl rfl ?_
  refine z_gi C (FX2_copyFrom_9 hC) (sn_0 hC hs2) (sc_0 hC hs2) rfl dX2_copyFrom_2 rfl hf (fun v1 hf => ?_)
  refine z_pi C (PX2_copyFrom_9 hC) (sn_0 hC hs) (sc_0 hC hs) rfl dX2_copyFrom_5 rfl hf (fun m2 hf => ?_)
  refine z_aload_n (i := 0) C dX2_copyFrom_8 rfl rfl rfl ?_
  refine z_aload_n (i := 1) C dX2_copyFrom_9 rfl rfl rfl ?_
  refine z_gi C (FX2_copyFrom_15 hC) (sn_0 hC hs2) (sc_0 hC hs2) rfl dX2_copyFrom_10 rfl hf (fun v3 hf => ?_)
  refine z_pi C (PX2_copyFrom_15 hC) (sn_0 hC hs) (sc_0 hC hs) rfl dX2_copyFrom_13 rfl hf (fun m4 hf => ?_)
  refine z_aload_n (i := 0) C dX2_copyFrom_16 rfl rfl rfl ?_
  refine z_aload_n (i := 1) C dX2_copyFrom_17 rfl rfl rfl ?_
  refine z_gi C (FX2_copyFrom_18 hC) (sn_0 hC hs2) (sc_0 hC hs2) rfl dX2_copyFrom_18 rfl hf (fun v5 hf => ?_)
  refine z_pi C (PX2_copyFrom_18 hC) (sn_0 hC hs) (sc_0 hC hs) rfl dX2_copyFrom_21 rfl hf (fun m6 hf => ?_)
  refine z_aload_n (i := 0) C dX2_copyFrom_24 rfl rfl rfl ?_
  refine z_aload_n (i := 1) C dX2_copyFrom_25 rfl rfl rfl ?_
  refine z_gi C (FX2_copyFrom_21 hC) (sn_0 hC hs2) (sc_0 hC hs2) rfl dX2_copyFrom_26 rfl hf (fun v7 hf => ?_)
  refine z_pi C (PX2_copyFrom_21 hC) (sn_0 hC hs) (sc_0 hC hs) rfl dX2_copyFrom_29 rfl hf (fun m8 hf => ?_)
  refine z_aload_n (i := 0) C dX2_copyFrom_32 rfl rfl rfl ?_
  refine z_aload_n (i := 1) C dX2_copyFrom_33 rfl rfl rfl ?_
  refine z_gi C (FX2_copyFrom_24 hC) (sn_0 hC hs2) (sc_0 hC hs2) rfl dX2_copyFrom_34 rfl hf (fun v9 hf => ?_)
  refine z_pi C (PX2_copyFrom_24 hC) (sn_0 hC hs) (sc_0 hC hs) rfl dX2_copyFrom_37 rfl hf (fun m10 hf => ?_)
  refine z_aload_n (i := 0) C dX2_copyFrom_40 rfl rfl rfl ?_
  refine z_aload_n (i := 1) C dX2_copyFrom_41 rfl rfl rfl ?_
  refine z_gi C (FX2_copyFrom_27 hC) (sn_0 hC hs2) (sc_0 hC hs2) rfl dX2_copyFrom_42 rfl hf (fun v11 hf => ?_)
  refine z_pi C (PX2_copyFrom_27 hC) (sn_0 hC hs) (sc_0 hC hs) rfl dX2_copyFrom_45 rfl hf (fun m12 hf => ?_)
  refine z_aload_n (i := 0) C dX2_copyFrom_48 rfl rfl rfl ?_
  refine z_aload_n (i := 1) C dX2_copyFrom_49 rfl rfl rfl ?_
  refine z_gi C (FX2_copyFrom_30 hC) (sn_0 hC hs2) (sc_0 hC hs2) rfl dX2_copyFrom_50 rfl hf (fun v13 hf => ?_)
  refine z_pi C (PX2_copyFrom_30 hC) (sn_0 hC hs) (sc_0 hC hs) rfl dX2_copyFrom_53 rfl hf (fun m14 hf => ?_)
  refine z_aload_n (i := 0) C dX2_copyFrom_56 rfl rfl rfl ?_
  refine z_aload_n (i := 1) C dX2_copyFrom_57 rfl rfl rfl ?_
  refine z_gi C (FX2_copyFrom_33 hC) (sn_0 hC hs2) (sc_0 hC hs2) rfl dX2_copyFrom_58 rfl hf (fun v15 hf => ?_)
  refine z_pi C (PX2_copyFrom_33 hC) (sn_0 hC hs) (sc_0 hC hs) rfl dX2_copyFrom_61 rfl hf (fun m16 hf => ?_)
  refine z_aload_n (i := 1) C dX2_copyFrom_64 rfl rfl rfl ?_
  refine z_gr C (FX2_copyFrom_36 hC) (sn_0 hC hs2) (sc_0 hC hs2) rfl dX2_copyFrom_65 rfl ?_
  refine z_iconst C dX2_copyFrom_68 zi_0 rfl ?_
  refine z_aload_n (i := 0) C dX2_copyFrom_69 rfl rfl rfl ?_
  refine z_gr C (FX2_copyFrom_36 hC) (sn_0 hC hs) (sc_0 hC hs) rfl dX2_copyFrom_70 rfl ?_
  refine z_iconst C dX2_copyFrom_73 zi_0 rfl ?_
  refine z_bipush C dX2_copyFrom_74 zb_9 rfl ?_
  refine z_copy (idx := 65) C (sn_1 hC hs2) (sn_1 hC hs) (sc_1 hC hs2) (sc_1 hC hs) (by decide +kernel) (by decide +kernel) (by decide +kernel) (by decide +kernel) ⟨Nat.le_of_ble_eq_true rfl, Nat.le_of_ble_eq_true rfl⟩ dX2_copyFrom_76 rfl hf (fun m17 hf => ?_)
  refine z_aload_n (i := 1) C dX2_copyFrom_79 rfl rfl rfl ?_
  refine z_gr C (FX2_copyFrom_40 hC) (sn_0 hC hs2) (sc_0 hC hs2) rfl dX2_copyFrom_80 rfl ?_
  refine z_iconst C dX2_copyFrom_83 zi_0 rfl ?_
  refine z_aload_n (i := 0) C dX2_copyFrom_84 rfl rfl rfl ?_
  refine z_gr C (FX2_copyFrom_40 hC) (sn_0 hC hs) (sc_0 hC hs) rfl dX2_copyFrom_85 rfl ?_
  refine z_iconst C dX2_copyFrom_88 zi_0 rfl ?_
  refine z_sipush C dX2_copyFrom_89 zs_256 rfl ?_
  refine z_copy (idx := 65) C (sn_2 hC hs2) (sn_2 hC hs) (sc_2 hC hs2) (sc_2 hC hs) (by decide +kernel) (by decide +kernel) (by decide +kernel) (by decide +kernel) ⟨Nat.le_of_ble_eq_true rfl, Nat.le_of_ble_eq_true rfl⟩ dX2_copyFrom_92 rfl hf (fun m18 hf => ?_)
  refine z_aload_n (i := 1) C dX2_copyFrom_95 rfl rfl rfl ?_
  refine z_gr C (FX2_copyFrom_43 hC) (sn_0 hC hs2) (sc_0 hC hs2) rfl dX2_copyFrom_96 rfl ?_
  refine z_iconst C dX2_copyFrom_99 zi_0 rfl ?_
  refine z_aload_n (i := 0) C dX2_copyFrom_100 rfl rfl rfl ?_
  refine z_gr C (FX2_copyFrom_43 hC) (sn_0 hC hs) (sc_0 hC hs) rfl dX2_copyFrom_101 rfl ?_
  refine z_iconst C dX2_copyFrom_104 zi_0 rfl ?_
  refine z_bipush C dX2_copyFrom_105 zb_24 rfl ?_
  refine z_copy (idx := 65) C (sn_3 hC hs2) (sn_3 hC hs) (sc_3 hC hs2) (sc_3 hC hs) (by decide +kernel) (by decide +kernel) (by decide +kernel) (by decide +kernel) ⟨Nat.le_of_ble_eq_true rfl, Nat.le_of_ble_eq_true rfl⟩ dX2_copyFrom_107 rfl hf (fun m19 hf => ?_)
  refine z_aload_n (i := 1) C dX2_copyFrom_110 rfl rfl rfl ?_
  refine z_gr C (FX2_copyFrom_46 hC) (sn_0 hC hs2) (sc_0 hC hs2) rfl dX2_copyFrom_111 rfl ?_
  refine z_iconst C dX2_copyFrom_114 zi_0 rfl ?_
  refine z_aload_n (i := 0) C dX2_copyFrom_115 rfl rfl rfl ?_
  refine z_gr C (FX2_copyFrom_46 hC) (sn_0 hC hs) (sc_0 hC hs) rfl dX2_copyFrom_116 rfl ?_
  refine z_iconst C dX2_copyFrom_119 zi_0 rfl ?_
  refine z_bipush C dX2_copyFrom_120 zb_24 rfl ?_
  refine z_copy (idx := 65) C (sn_4 hC hs2) (sn_4 hC hs) (sc_4 hC hs2) (sc_4 hC hs) (by decide +kernel) (by decide +kernel) (by decide +kernel) (by decide +kernel) ⟨Nat.le_of_ble_eq_true rfl, Nat.le_of_ble_eq_true rfl⟩ dX2_copyFrom_122 rfl hf (fun m20 hf => ?_)
  refine z_aload_n (i := 1) C dX2_copyFrom_125 rfl rfl rfl ?_
  refine z_gr C (FX2_copyFrom_49 hC) (sn_0 hC hs2) (sc_0 hC hs2) rfl dX2_copyFrom_126 rfl ?_
  refine z_iconst C dX2_copyFrom_129 zi_0 rfl ?_
  refine z_aload_n (i := 0) C dX2_copyFrom_130 rfl rfl rfl ?_
  refine z_gr C (FX2_copyFrom_49 hC) (sn_0 hC hs) (sc_0 hC hs) rfl dX2_copyFrom_131 rfl ?_
  refine z_iconst C dX2_copyFrom_134 zi_0 rfl ?_
  refine z_bipush C dX2_copyFrom_135 zb_24 rfl ?_
  refine z_copy (idx := 65) C (sn_5 hC hs2) (sn_5 hC hs) (sc_5 hC hs2) (sc_5 hC hs) (by decide +kernel) (by decide +kernel) (by decide +kernel) (by decide +kernel) ⟨Nat.le_of_ble_eq_true rfl, Nat.le_of_ble_eq_true rfl⟩ dX2_copyFrom_137 rfl hf (fun m21 hf => ?_)
  refine z_aload_n (i := 0) C dX2_copyFrom_140 rfl rfl rfl ?_
  refine z_gr C (FX2_copyFrom_55 hC) (sn_0 hC hs) (sc_0 hC hs) rfl dX2_copyFrom_141 rfl ?_
  refine z_aload_n (i := 1) C dX2_copyFrom_144 rfl rfl rfl ?_
  refine z_gr C (FX2_copyFrom_55 hC) (sn_0 hC hs2) (sc_0 hC hs2) rfl dX2_copyFrom_145 rfl ?_
  refine z_cvvW (As := [.ref (zad g (s2 + 6))]) (st := []) (m := m21) C (cl_2 hC) (sn_6 hC hs) (sc_6 hC hs) gX2_copyFrom_X3_copyFrom hdX3_copyFrom rfl (fun z h => qX3_copyFrom hC s s2 m21 hs hs2 z h) rfl (Nat.le_of_ble_eq_true rfl) ⟨Nat.le_of_ble_eq_true rfl, Nat.le_of_ble_eq_true rfl⟩ ⟨Nat.le_refl _, Nat.le_refl _⟩ dX2_copyFrom_148 rfl rfl hf (fun m22 hf => ?_)
  exact hr _ _ _ (Option.some.inj hf) dX2_copyFrom_151

def fX2_isMember (s : Nat) (a1 : Int32) (m : zMem) : Option (Int32) :=
  if a1 < 0 then
  some 0
  else
  if 255 < a1 then
  some 0
  else
  kld m (s + 2) 256 a1 fun v1 =>
  if v1 = (-1) then
  some 0
  else
  some 1
theorem FX2_isMember_40 {g : zG} (hC : isC g) : zFl wsX2_isMember RX2 (zcl g) 40 1 9 := ⟨RX2, TX2, 14, hC.2.2 ▸ rfl, by decide +kernel, by decide, by decide +kernel⟩
theorem hdX2_isMember : yX2_isMember.cls = RX2 ∧ yX2_isMember.cls ≠ "java/lang/invoke/MethodHandle" ∧ yX2_isMember.cls ≠ "java/lang/invoke/VarHandle" ∧ (parseMethodDescriptor yX2_isMember.desc).map (fun d => d.parameters.length) = some 1 := by decide +kernel
set_option maxHeartbeats 4000000 in
set_option maxRecDepth 100000 in
theorem qX2_isMember {l : Launch} {g : zG} (hC : isC g)  (s : Nat) (a1 : Int32) (m : zMem) (hs : isS s) (o : Int32) (hf : fX2_isMember s a1 m = some o) : zMI l g yX2_isMember wsX2_isMember { frames := 0, cells := 0, slots := 0, locals := 0 } [.ref (zad g s), .int a1] m (o, m) := by
  refine z_met_z (cc := cX2_isMember) (maxL := 2) (lo0 := [some (.ref (zad g s)), some (.int a1)]) (by decide +kernel) rfl rfl (Nat.le_of_ble_eq_true rfl) (fun x hx C hr => ?_)
  unfold fX2_isMember at hf
  refine z_iload_n (i := 1) C dX2_isMember_0 rfl rfl rfl ?_
  refine z_if_lt (tgt := 25) C dX2_isMember_1 (by decide) rfl hf (fun hf => ?_) (fun hf => ?_)
  · skip
    refine z_iconst C dX2_isMember_25 zi_0 rfl ?_
    exact hr _ _ _ _ (Or.inl rfl) (congrArg (fun z => (z, m)) (Option.some.inj hf)) dX2_isMember_26
  · skip
    refine z_iload_n (i := 1) C dX2_isMember_4 rfl rfl rfl ?_
    refine z_sipush C dX2_isMember_5 zs_255 rfl ?_
    refine z_ic_gt (tgt := 25) C dX2_isMember_8 (by decide) rfl hf (fun hf => ?_) (fun hf => ?_)
    · skip
      refine z_iconst C dX2_isMember_25 zi_0 rfl ?_
      exact hr _ _ _ _ (Or.inl rfl) (congrArg (fun z => (z, m)) (Option.some.inj hf)) dX2_isMember_26
    · skip
      refine z_aload_n (i := 0) C dX2_isMember_11 rfl rfl rfl ?_
      refine z_gr C (FX2_isMember_40 hC) (sn_0 hC hs) (sc_0 hC hs) rfl dX2_isMember_12 rfl ?_
      refine z_iload_n (i := 1) C dX2_isMember_15 rfl rfl rfl ?_
      refine z_iaload C (sn_2 hC hs) (sc_2 hC hs) dX2_isMember_16 rfl hf (fun v1 hf => ?_)
      refine z_iconst C dX2_isMember_17 zi_m1 rfl ?_
      refine z_ic_eq (tgt := 25) C dX2_isMember_18 (by decide) rfl hf (fun hf => ?_) (fun hf => ?_)
      · skip
        refine z_iconst C dX2_isMember_25 zi_0 rfl ?_
        exact hr _ _ _ _ (Or.inl rfl) (congrArg (fun z => (z, m)) (Option.some.inj hf)) dX2_isMember_26
      · skip
        refine z_iconst C dX2_isMember_21 zi_1 rfl ?_
        refine z_goto (pc' := 26) C dX2_isMember_22 (by decide) ?_
        exact hr _ _ _ _ (Or.inr rfl) (congrArg (fun z => (z, m)) (Option.some.inj hf)) dX2_isMember_26

def fJ9_floorDiv_7cf53 (a1 : Int32) (a2 : Int32) : Option (Int32) :=
  kdv a1 a2 fun v1 =>
  if 0 ≤ (a1 ^^^ a2) then
  some v1
  else
  if (v1 * a2) = a1 then
  some v1
  else
  some (v1 - 1)
theorem hdJ9_floorDiv_7cf53 : yJ9_floorDiv_7cf53.cls ≠ "java/lang/invoke/MethodHandle" ∧ yJ9_floorDiv_7cf53.cls ≠ "java/lang/invoke/VarHandle" ∧ (parseMethodDescriptor yJ9_floorDiv_7cf53.desc).map (fun d => d.parameters.length) = some 2 := by decide +kernel
set_option maxHeartbeats 4000000 in
set_option maxRecDepth 100000 in
theorem qJ9_floorDiv_7cf53 {l : Launch} {g : zG}  (a1 : Int32) (a2 : Int32) (m : zMem)  (o : Int32) (hf : fJ9_floorDiv_7cf53 a1 a2 = some o) : zMI l g yJ9_floorDiv_7cf53 wsJ9_floorDiv_7cf53 { frames := 0, cells := 0, slots := 0, locals := 0 } [.int a1, .int a2] m (o, m) := by
  refine z_met_i (cc := cJ9_floorDiv_7cf53) (maxL := 3) (lo0 := [some (.int a1), some (.int a2), none]) (by decide +kernel) rfl rfl (Nat.le_of_ble_eq_true rfl) (fun x hx C hr => ?_)
  unfold fJ9_floorDiv_7cf53 at hf
  refine z_iload_n (i := 0) C dJ9_floorDiv_7cf53_0 rfl rfl rfl ?_
  refine z_iload_n (i := 1) C dJ9_floorDiv_7cf53_1 rfl rfl rfl ?_
  refine z_idiv C dJ9_floorDiv_7cf53_2 rfl hf (fun v1 hf => ?_)
  refine z_istore_n (i := 2) (lo' := [some (.int a1), some (.int a2), some (.int v1)]) C dJ9_floorDiv_7cf53_3 rfl (Nat.le_of_ble_eq_true rfl) rfl rfl rfl ?_
  refine z_iload_n (i := 0) C dJ9_floorDiv_7cf53_4 rfl rfl rfl ?_
  refine z_iload_n (i := 1) C dJ9_floorDiv_7cf53_5 rfl rfl rfl ?_
  refine z_ixor C dJ9_floorDiv_7cf53_6 rfl ?_
  refine z_if_ge (tgt := 21) C dJ9_floorDiv_7cf53_7 (by decide) rfl hf (fun hf => ?_) (fun hf => ?_)
  · skip
    refine z_iload_n (i := 2) C dJ9_floorDiv_7cf53_21 rfl rfl rfl ?_
    exact hr _ _ _ _ (congrArg (fun z => (z, m)) (Option.some.inj hf)) dJ9_floorDiv_7cf53_22
  · skip
    refine z_iload_n (i := 2) C dJ9_floorDiv_7cf53_10 rfl rfl rfl ?_
    refine z_iload_n (i := 1) C dJ9_floorDiv_7cf53_11 rfl rfl rfl ?_
    refine z_imul C dJ9_floorDiv_7cf53_12 rfl ?_
    refine z_iload_n (i := 0) C dJ9_floorDiv_7cf53_13 rfl rfl rfl ?_
    refine z_ic_eq (tgt := 21) C dJ9_floorDiv_7cf53_14 (by decide) rfl hf (fun hf => ?_) (fun hf => ?_)
    · skip
      refine z_iload_n (i := 2) C dJ9_floorDiv_7cf53_21 rfl rfl rfl ?_
      exact hr _ _ _ _ (congrArg (fun z => (z, m)) (Option.some.inj hf)) dJ9_floorDiv_7cf53_22
    · skip
      refine z_iload_n (i := 2) C dJ9_floorDiv_7cf53_17 rfl rfl rfl ?_
      refine z_iconst C dJ9_floorDiv_7cf53_18 zi_1 rfl ?_
      refine z_isub C dJ9_floorDiv_7cf53_19 rfl ?_
      exact hr _ _ _ _ (congrArg (fun z => (z, m)) (Option.some.inj hf)) dJ9_floorDiv_7cf53_20

def fX2_epoch (s : Nat) (m : zMem) : Option (Int32) :=
  kgi m s 2 fun v1 =>
  if v1 ≤ 0 then
  some 0
  else
  kgi m s 5 fun v2 =>
  kgi m s 2 fun v3 =>
  kc1 (fJ9_floorDiv_7cf53 v2 v3) fun v4 =>
  some v4
theorem FX2_epoch_18 {g : zG} (hC : isC g) : zFl wsX2_epoch RX2 (zcl g) 18 1 2 := ⟨RX2, TX2, 14, hC.2.2 ▸ rfl, by decide +kernel, by decide, by decide +kernel⟩
theorem FX2_epoch_27 {g : zG} (hC : isC g) : zFl wsX2_epoch RX2 (zcl g) 27 1 5 := ⟨RX2, TX2, 14, hC.2.2 ▸ rfl, by decide +kernel, by decide, by decide +kernel⟩
theorem hdX2_epoch : yX2_epoch.cls = RX2 ∧ yX2_epoch.cls ≠ "java/lang/invoke/MethodHandle" ∧ yX2_epoch.cls ≠ "java/lang/invoke/VarHandle" ∧ (parseMethodDescriptor yX2_epoch.desc).map (fun d => d.parameters.length) = some 0 := by decide +kernel
set_option maxHeartbeats 4000000 in
set_option maxRecDepth 100000 in
theorem qX2_epoch {l : Launch} {g : zG} (hC : isC g)  (s : Nat) (m : zMem) (hs : isS s) (o : Int32) (hf : fX2_epoch s m = some o) : zMI l g yX2_epoch wsX2_epoch { frames := 1, cells := 0, slots := 0, locals := 22 } [.ref (zad g s)] m (o, m) := by
  refine z_met_i (cc := cX2_epoch) (maxL := 1) (lo0 := [some (.ref (zad g s))]) (by decide +kernel) rfl rfl (Nat.le_of_ble_eq_true rfl) (fun x hx C hr => ?_)
  unfold fX2_epoch at hf
  refine z_aload_n (i := 0) C dX2_epoch_0 rfl rfl rfl ?_
  refine z_gi C (FX2_epoch_18 hC) (sn_0 hC hs) (sc_0 hC hs) rfl dX2_epoch_1 rfl hf (fun v1 hf => ?_)
  refine z_if_le (tgt := 21) C dX2_epoch_4 (by decide) rfl hf (fun hf => ?_) (fun hf => ?_)
  · skip
    refine z_iconst C dX2_epoch_21 zi_0 rfl ?_
    exact hr _ _ _ _ (congrArg (fun z => (z, m)) (Option.some.inj hf)) dX2_epoch_22
  · skip
    refine z_aload_n (i := 0) C dX2_epoch_7 rfl rfl rfl ?_
    refine z_gi C (FX2_epoch_27 hC) (sn_0 hC hs) (sc_0 hC hs) rfl dX2_epoch_8 rfl hf (fun v2 hf => ?_)
    refine z_aload_n (i := 0) C dX2_epoch_11 rfl rfl rfl ?_
    refine z_gi C (FX2_epoch_18 hC) (sn_0 hC hs) (sc_0 hC hs) rfl dX2_epoch_12 rfl hf (fun v3 hf => ?_)
    refine z_csiR (As := [.int v2, .int v3]) (st := []) (m := m) C gX2_epoch_J9_floorDiv_7cf53 hdJ9_floorDiv_7cf53 rfl (fun z h => qJ9_floorDiv_7cf53 v2 v3 m z h) rfl (Nat.le_of_ble_eq_true rfl) ⟨Nat.le_of_ble_eq_true rfl, Nat.le_of_ble_eq_true rfl⟩ ⟨Nat.le_refl _, Nat.le_refl _⟩ dX2_epoch_15 rfl rfl hf (fun v4 hf => ?_)
    refine z_goto (pc' := 22) C dX2_epoch_18 (by decide) ?_
    exact hr _ _ _ _ (congrArg (fun z => (z, m)) (Option.some.inj hf)) dX2_epoch_22

def fX2_difficulty (s : Nat) (m : zMem) : Option (Int32) :=
  kgi m s 0 fun v1 =>
  kgi m s 6 fun v2 =>
  kdv v2 4 fun v3 =>
  kmin (v1 + v3) 12 fun v4 =>
  some v4
theorem FX2_difficulty_9 {g : zG} (hC : isC g) : zFl wsX2_difficulty RX2 (zcl g) 9 1 0 := ⟨RX2, TX2, 14, hC.2.2 ▸ rfl, by decide +kernel, by decide, by decide +kernel⟩
theorem FX2_difficulty_30 {g : zG} (hC : isC g) : zFl wsX2_difficulty RX2 (zcl g) 30 1 6 := ⟨RX2, TX2, 14, hC.2.2 ▸ rfl, by decide +kernel, by decide, by decide +kernel⟩
theorem hdX2_difficulty : yX2_difficulty.cls = RX2 ∧ yX2_difficulty.cls ≠ "java/lang/invoke/MethodHandle" ∧ yX2_difficulty.cls ≠ "java/lang/invoke/VarHandle" ∧ (parseMethodDescriptor yX2_difficulty.desc).map (fun d => d.parameters.length) = some 0 := by decide +kernel
set_option maxHeartbeats 4000000 in
set_option maxRecDepth 100000 in
theorem qX2_difficulty {l : Launch} {g : zG} (hC : isC g)  (s : Nat) (m : zMem) (hs : isS s) (o : Int32) (hf : fX2_difficulty s m = some o) : zMI l g yX2_difficulty wsX2_difficulty { frames := 1, cells := 0, slots := 0, locals := 21 } [.ref (zad g s)] m (o, m) := by
  refine z_met_i (cc := cX2_difficulty) (maxL := 1) (lo0 := [some (.ref (zad g s))]) (by decide +kernel) rfl rfl (Nat.le_of_ble_eq_true rfl) (fun x hx C hr => ?_)
  unfold fX2_difficulty at hf
  refine z_aload_n (i := 0) C dX2_difficulty_0 rfl rfl rfl ?_
  refine z_gi C (FX2_difficulty_9 hC) (sn_0 hC hs) (sc_0 hC hs) rfl dX2_difficulty_1 rfl hf (fun v1 hf => ?_)
  refine z_aload_n (i := 0) C dX2_difficulty_4 rfl rfl rfl ?_
  refine z_gi C (FX2_difficulty_30 hC) (sn_0 hC hs) (sc_0 hC hs) rfl dX2_difficulty_5 rfl hf (fun v2 hf => ?_)
  refine z_iconst C dX2_difficulty_8 zi_4 rfl ?_
  refine z_idiv C dX2_difficulty_9 rfl hf (fun v3 hf => ?_)
  refine z_iadd C dX2_difficulty_10 rfl ?_
  refine z_bipush C dX2_difficulty_11 zb_12 rfl ?_
  refine z_mmin (idx := 81) C (by decide +kernel) (by decide +kernel) (by decide +kernel) (by decide +kernel) ⟨Nat.le_of_ble_eq_true rfl, Nat.le_of_ble_eq_true rfl⟩ ⟨Nat.le_refl _, Nat.le_refl _⟩ dX2_difficulty_13 rfl hf (fun v4 hf => ?_)
  exact hr _ _ _ _ (congrArg (fun z => (z, m)) (Option.some.inj hf)) dX2_difficulty_16

def fX2_isSolvedBy (s : Nat) (a1 : Int32) (a2 : Int32) (m : zMem) : Option (Int32) :=
  kc1 (fX2_epoch s m) fun v1 =>
  kc1 (fX0_leadingZeros a1 a2 v1) fun v2 =>
  kc1 (fX2_difficulty s m) fun v3 =>
  if v2 < v3 then
  some 0
  else
  some 1
theorem hdX2_isSolvedBy : yX2_isSolvedBy.cls = RX2 ∧ yX2_isSolvedBy.cls ≠ "java/lang/invoke/MethodHandle" ∧ yX2_isSolvedBy.cls ≠ "java/lang/invoke/VarHandle" ∧ (parseMethodDescriptor yX2_isSolvedBy.desc).map (fun d => d.parameters.length) = some 2 := by decide +kernel
set_option maxHeartbeats 4000000 in
set_option maxRecDepth 100000 in
theorem qX2_isSolvedBy {l : Launch} {g : zG} (hC : isC g)  (s : Nat) (a1 : Int32) (a2 : Int32) (m : zMem) (hs : isS s) (o : Int32) (hf : fX2_isSolvedBy s a1 a2 m = some o) : zMI l g yX2_isSolvedBy wsX2_isSolvedBy { frames := 2, cells := 0, slots := 0, locals := 43 } [.ref (zad g s), .int a1, .int a2] m (o, m) := by
  refine z_met_z (cc := cX2_isSolvedBy) (maxL := 3) (lo0 := [some (.ref (zad g s)), some (.int a1), some (.int a2)]) (by decide +kernel) rfl rfl (Nat.le_of_ble_eq_true rfl) (fun x hx C hr => ?_)
  unfold fX2_isSolvedBy at hf
  refine z_iload_n (i := 1) C dX2_isSolvedBy_0 rfl rfl rfl ?_
  refine z_iload_n (i := 2) C dX2_isSolvedBy_1 rfl rfl rfl ?_
  refine z_aload_n (i := 0) C dX2_isSolvedBy_2 rfl rfl rfl ?_
  refine z_cviR (As := []) (st := [.int a2, .int a1]) (m := m) C (cl_1 hC) (sn_0 hC hs) (sc_0 hC hs) gX2_isSolvedBy_X2_epoch hdX2_epoch rfl (fun z h => qX2_epoch hC s m hs z h) rfl (Nat.le_of_ble_eq_true rfl) ⟨Nat.le_of_ble_eq_true rfl, Nat.le_of_ble_eq_true rfl⟩ ⟨Nat.le_refl _, Nat.le_refl _⟩ dX2_isSolvedBy_3 rfl rfl hf (fun v1 hf => ?_)
  refine z_csiR (As := [.int a1, .int a2, .int v1]) (st := []) (m := m) C gX2_isSolvedBy_X0_leadingZeros hdX0_leadingZeros rfl (fun z h => qX0_leadingZeros a1 a2 v1 m z h) rfl (Nat.le_of_ble_eq_true rfl) ⟨Nat.le_of_ble_eq_true rfl, Nat.le_of_ble_eq_true rfl⟩ ⟨Nat.le_refl _, Nat.le_refl _⟩ dX2_isSolvedBy_6 rfl rfl hf (fun v2 hf => ?_)
  refine z_aload_n (i := 0) C dX2_isSolvedBy_9 rfl rfl rfl ?_
  refine z_cviR (As := []) (st := [.int v2]) (m := m) C (cl_1 hC) (sn_0 hC hs) (sc_0 hC hs) gX2_isSolvedBy_X2_difficulty hdX2_difficulty rfl (fun z h => qX2_difficulty hC s m hs z h) rfl (Nat.le_of_ble_eq_true rfl) ⟨Nat.le_of_ble_eq_true rfl, Nat.le_of_ble_eq_true rfl⟩ ⟨Nat.le_refl _, Nat.le_refl _⟩ dX2_isSolvedBy_10 rfl rfl hf (fun v3 hf => ?_)
  refine z_ic_lt (tgt := 20) C dX2_isSolvedBy_13 (by decide) rfl hf (fun hf => ?_) (fun hf => ?_)
  · skip
    refine z_iconst C dX2_isSolvedBy_20 zi_0 rfl ?_
    exact hr _ _ _ _ (Or.inl rfl) (congrArg (fun z => (z, m)) (Option.some.inj hf)) dX2_isSolvedBy_21
  · skip
    refine z_iconst C dX2_isSolvedBy_16 zi_1 rfl ?_
    refine z_goto (pc' := 21) C dX2_isSolvedBy_17 (by decide) ?_
    exact hr _ _ _ _ (Or.inr rfl) (congrArg (fun z => (z, m)) (Option.some.inj hf)) dX2_isSolvedBy_21
