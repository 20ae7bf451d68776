def fX5_admissionFault (N : Nat) (a1 : Int32) (a2 : Int32) (a3 : Int32) (m : zMem) : Option (Int32) :=
  kc1 (fX5_entryFault a1 a2 a3 m) fun v1 =>
  if v1 = 0 then
  kgr m 0 fun s2 => kis s2 <|
  kc1 (fX2_smallestNonce N s2 a1 m) fun v3 =>
  if v3 = (-1) then
  some 3
  else
  some v1
  else
  some v1
theorem FX5_admissionFault_26 {g : zG} (hC : isC g) : zFl wsX5_admissionFault RX5 (zcl g) 26 4 2 := ⟨RX5, TX5, 7, hC.2.2 ▸ rfl, by decide +kernel, by decide, by decide +kernel⟩
theorem hdX5_admissionFault : yX5_admissionFault.cls = RX5 ∧ yX5_admissionFault.cls ≠ "java/lang/invoke/MethodHandle" ∧ yX5_admissionFault.cls ≠ "java/lang/invoke/VarHandle" ∧ (parseMethodDescriptor yX5_admissionFault.desc).map (fun d => d.parameters.length) = some 3 := by decide +kernel
set_option maxHeartbeats 4000000 in
set_option maxRecDepth 100000 in
theorem qX5_admissionFault {l : Launch} {g : zG} (hC : isC g)  (N : Nat) (a1 : Int32) (a2 : Int32) (a3 : Int32) (m : zMem)  (o : Int32) (hf : fX5_admissionFault N a1 a2 a3 m = some o) : zMI l g yX5_admissionFault wsX5_admissionFault { frames := 3, cells := 0, slots := 0, locals := 66 } [.ref (zad g 0), .int a1, .int a2, .int a3] m (o, m) := by
  refine z_met_i (cc := cX5_admissionFault) (maxL := 5) (lo0 := [some (.ref (zad g 0)), some (.int a1), some (.int a2), some (.int a3), none]) (by decide +kernel) rfl rfl (Nat.le_of_ble_eq_true rfl) (fun x hx C hr => ?_)
  unfold fX5_admissionFault at hf
  refine z_aload_n (i := 0) C dX5_admissionFault_0 rfl rfl rfl ?_
  refine z_iload_n (i := 1) C dX5_admissionFault_1 rfl rfl rfl ?_
  refine z_iload_n (i := 2) C dX5_admissionFault_2 rfl rfl rfl ?_
  refine z_iload_n (i := 3) C dX5_admissionFault_3 rfl rfl rfl ?_
  refine z_cviR (As := [.int a1, .int a2, .int a3]) (st := []) (m := m) C (cl_4 hC) (tn_0 hC) (tc_0 hC) gX5_admissionFault_X5_entryFault hdX5_entryFault rfl (fun z h => qX5_entryFault hC a1 a2 a3 m z h) rfl (Nat.le_of_ble_eq_true rfl) ⟨Nat.le_of_ble_eq_true rfl, Nat.le_of_ble_eq_true rfl⟩ ⟨Nat.le_refl _, Nat.le_refl _⟩ dX5_admissionFault_4 rfl rfl hf (fun v1 hf => ?_)
  refine z_istore (lo' := [some (.ref (zad g 0)), some (.int a1), some (.int a2), some (.int a3), some (.int v1)]) C dX5_admissionFault_7 (Nat.le_of_ble_eq_true rfl) rfl rfl rfl ?_
  refine z_iload C dX5_admissionFault_9 rfl rfl ?_
  refine z_if_ne (tgt := 28) C dX5_admissionFault_11 (by decide) rfl hf (fun hf => ?_) (fun hf => ?_)
  · skip
    refine z_iload C dX5_admissionFault_28 rfl rfl ?_
    exact hr _ _ _ _ (congrArg (fun z => (z, m)) (Option.some.inj hf)) dX5_admissionFault_30
  · skip
    refine z_aload_n (i := 0) C dX5_admissionFault_14 rfl rfl rfl ?_
    refine z_gv C (FX5_admissionFault_26 hC) (tn_0 hC) (tc_0 hC) rfl dX5_admissionFault_15 rfl hf (fun s2 hf => ?_)
    refine kis_V hf (fun hs2 hf => ?_)
    refine z_iload_n (i := 1) C dX5_admissionFault_18 rfl rfl rfl ?_
    refine z_cviR (As := [.int a1]) (st := []) (m := m) C (cl_1 hC) (sn_0 hC hs2) (sc_0 hC hs2) gX5_admissionFault_X2_smallestNonce hdX2_smallestNonce rfl (fun z h => qX2_smallestNonce hC N s2 a1 m hs2 z h) rfl (Nat.le_of_ble_eq_true rfl) ⟨Nat.le_of_ble_eq_true rfl, Nat.le_of_ble_eq_true rfl⟩ ⟨Nat.le_refl _, Nat.le_refl _⟩ dX5_admissionFault_19 rfl rfl hf (fun v3 hf => ?_)
    refine z_iconst C dX5_admissionFault_22 zi_m1 rfl ?_
    refine z_ic_ne (tgt := 28) C dX5_admissionFault_23 (by decide) rfl hf (fun hf => ?_) (fun hf => ?_)
    · skip
      refine z_iload C dX5_admissionFault_28 rfl rfl ?_
      exact hr _ _ _ _ (congrArg (fun z => (z, m)) (Option.some.inj hf)) dX5_admissionFault_30
    · skip
      refine z_iconst C dX5_admissionFault_26 zi_3 rfl ?_
      exact hr _ _ _ _ (congrArg (fun z => (z, m)) (Option.some.inj hf)) dX5_admissionFault_27

def fX5_memberFault (a1 : Int32) (m : zMem) : Option (Int32) :=
  kc1 (fX5_isOutside a1 0 255) fun v1 =>
  if v1 = 0 then
  kgr m 0 fun s2 => kis s2 <|
  kc1 (fX2_isMember s2 a1 m) fun v3 =>
  if v3 = 0 then
  some 2
  else
  some 0
  else
  some 1
theorem FX5_memberFault_26 {g : zG} (hC : isC g) : zFl wsX5_memberFault RX5 (zcl g) 26 4 2 := ⟨RX5, TX5, 7, hC.2.2 ▸ rfl, by decide +kernel, by decide, by decide +kernel⟩
theorem hdX5_memberFault : yX5_memberFault.cls = RX5 ∧ yX5_memberFault.cls ≠ "java/lang/invoke/MethodHandle" ∧ yX5_memberFault.cls ≠ "java/lang/invoke/VarHandle" ∧ (parseMethodDescriptor yX5_memberFault.desc).map (fun d => d.parameters.length) = some 1 := by decide +kernel
set_option maxHeartbeats 4000000 in
set_option maxRecDepth 100000 in
theorem qX5_memberFault {l : Launch} {g : zG} (hC : isC g)  (a1 : Int32) (m : zMem)  (o : Int32) (hf : fX5_memberFault a1 m = some o) : zMI l g yX5_memberFault wsX5_memberFault { frames := 1, cells := 0, slots := 0, locals := 22 } [.ref (zad g 0), .int a1] m (o, m) := by
  refine z_met_i (cc := cX5_memberFault) (maxL := 2) (lo0 := [some (.ref (zad g 0)), some (.int a1)]) (by decide +kernel) rfl rfl (Nat.le_of_ble_eq_true rfl) (fun x hx C hr => ?_)
  unfold fX5_memberFault at hf
  refine z_iload_n (i := 1) C dX5_memberFault_0 rfl rfl rfl ?_
  refine z_iconst C dX5_memberFault_1 zi_0 rfl ?_
  refine z_sipush C dX5_memberFault_2 zs_255 rfl ?_
  refine z_csiR (As := [.int a1, .int 0, .int 255]) (st := []) (m := m) C gX5_memberFault_X5_isOutside hdX5_isOutside rfl (fun z h => qX5_isOutside a1 0 255 m z h) rfl (Nat.le_of_ble_eq_true rfl) ⟨Nat.le_of_ble_eq_true rfl, Nat.le_of_ble_eq_true rfl⟩ ⟨Nat.le_refl _, Nat.le_refl _⟩ dX5_memberFault_5 rfl rfl hf (fun v1 hf => ?_)
  refine z_if_eq (tgt := 13) C dX5_memberFault_8 (by decide) rfl hf (fun hf => ?_) (fun hf => ?_)
  · skip
    refine z_aload_n (i := 0) C dX5_memberFault_13 rfl rfl rfl ?_
    refine z_gv C (FX5_memberFault_26 hC) (tn_0 hC) (tc_0 hC) rfl dX5_memberFault_14 rfl hf (fun s2 hf => ?_)
    refine kis_V hf (fun hs2 hf => ?_)
    refine z_iload_n (i := 1) C dX5_memberFault_17 rfl rfl rfl ?_
    refine z_cviR (As := [.int a1]) (st := []) (m := m) C (cl_1 hC) (sn_0 hC hs2) (sc_0 hC hs2) gX5_memberFault_X2_isMember hdX2_isMember rfl (fun z h => qX2_isMember hC s2 a1 m hs2 z h) rfl (Nat.le_of_ble_eq_true rfl) ⟨Nat.le_of_ble_eq_true rfl, Nat.le_of_ble_eq_true rfl⟩ ⟨Nat.le_refl _, Nat.le_refl _⟩ dX5_memberFault_18 rfl rfl hf (fun v3 hf => ?_)
    refine z_if_eq (tgt := 28) C dX5_memberFault_21 (by decide) rfl hf (fun hf => ?_) (fun hf => ?_)
    · skip
      refine z_iconst C dX5_memberFault_28 zi_2 rfl ?_
      exact hr _ _ _ _ (congrArg (fun z => (z, m)) (Option.some.inj hf)) dX5_memberFault_29
    · skip
      refine z_iconst C dX5_memberFault_24 zi_0 rfl ?_
      refine z_goto (pc' := 29) C dX5_memberFault_25 (by decide) ?_
      exact hr _ _ _ _ (congrArg (fun z => (z, m)) (Option.some.inj hf)) dX5_memberFault_29
  · skip
    refine z_iconst C dX5_memberFault_11 zi_1 rfl ?_
    exact hr _ _ _ _ (congrArg (fun z => (z, m)) (Option.some.inj hf)) dX5_memberFault_12

def fX5_lookupFault (a1 : Int32) (a2 : Int32) (m : zMem) : Option (Int32) :=
  kc1 (fX5_isOutside a2 0 255) fun v1 =>
  if v1 = 0 then
  kc1 (fX5_memberFault a1 m) fun v2 =>
  some v2
  else
  some 1
theorem hdX5_lookupFault : yX5_lookupFault.cls = RX5 ∧ yX5_lookupFault.cls ≠ "java/lang/invoke/MethodHandle" ∧ yX5_lookupFault.cls ≠ "java/lang/invoke/VarHandle" ∧ (parseMethodDescriptor yX5_lookupFault.desc).map (fun d => d.parameters.length) = some 2 := by decide +kernel
set_option maxHeartbeats 4000000 in
set_option maxRecDepth 100000 in
theorem qX5_lookupFault {l : Launch} {g : zG} (hC : isC g)  (a1 : Int32) (a2 : Int32) (m : zMem)  (o : Int32) (hf : fX5_lookupFault a1 a2 m = some o) : zMI l g yX5_lookupFault wsX5_lookupFault { frames := 2, cells := 0, slots := 0, locals := 43 } [.ref (zad g 0), .int a1, .int a2] m (o, m) := by
  refine z_met_i (cc := cX5_lookupFault) (maxL := 3) (lo0 := [some (.ref (zad g 0)), some (.int a1), some (.int a2)]) (by decide +kernel) rfl rfl (Nat.le_of_ble_eq_true rfl) (fun x hx C hr => ?_)
  unfold fX5_lookupFault at hf
  refine z_iload_n (i := 2) C dX5_lookupFault_0 rfl rfl rfl ?_
  refine z_iconst C dX5_lookupFault_1 zi_0 rfl ?_
  refine z_sipush C dX5_lookupFault_2 zs_255 rfl ?_
  refine z_csiR (As := [.int a2, .int 0, .int 255]) (st := []) (m := m) C gX5_lookupFault_X5_isOutside hdX5_isOutside rfl (fun z h => qX5_isOutside a2 0 255 m z h) rfl (Nat.le_of_ble_eq_true rfl) ⟨Nat.le_of_ble_eq_true rfl, Nat.le_of_ble_eq_true rfl⟩ ⟨Nat.le_refl _, Nat.le_refl _⟩ dX5_lookupFault_5 rfl rfl hf (fun v1 hf => ?_)
  refine z_if_eq (tgt := 13) C dX5_lookupFault_8 (by decide) rfl hf (fun hf => ?_) (fun hf => ?_)
  · skip
    refine z_aload_n (i := 0) C dX5_lookupFault_13 rfl rfl rfl ?_
    refine z_iload_n (i := 1) C dX5_lookupFault_14 rfl rfl rfl ?_
    refine z_cviR (As := [.int a1]) (st := []) (m := m) C (cl_4 hC) (tn_0 hC) (tc_0 hC) gX5_lookupFault_X5_memberFault hdX5_memberFault rfl (fun z h => qX5_memberFault hC a1 m z h) rfl (Nat.le_of_ble_eq_true rfl) ⟨Nat.le_of_ble_eq_true rfl, Nat.le_of_ble_eq_true rfl⟩ ⟨Nat.le_refl _, Nat.le_refl _⟩ dX5_lookupFault_15 rfl rfl hf (fun v2 hf => ?_)
    exact hr _ _ _ _ (congrArg (fun z => (z, m)) (Option.some.inj hf)) dX5_lookupFault_18
  · skip
    refine z_iconst C dX5_lookupFault_11 zi_1 rfl ?_
    exact hr _ _ _ _ (congrArg (fun z => (z, m)) (Option.some.inj hf)) dX5_lookupFault_12

def fX5_memberValue (N : Nat) (a1 : Int32) (a2 : Int32) (m : zMem) : Option (Int32) :=
  kgr m 0 fun s1 => kis s1 <|
  kc1 (fX2_isMember s1 a1 m) fun v2 =>
  if a2 = 0 then
  if v2 = 0 then
  some 0
  else
  some 1
  else
  if v2 = 0 then
  some (-1)
  else
  kgr m 0 fun s3 => kis s3 <|
  kld m (s3 + 2) 256 a1 fun v4 =>
  if a2 = 1 then
  kgr m 0 fun s5 => kis s5 <|
  kld m (s5 + 4) 24 v4 fun v6 =>
  some v6
  else if a2 = 2 then
  kgr m 0 fun s7 => kis s7 <|
  kld m (s7 + 5) 24 v4 fun v8 =>
  some v8
  else if a2 = 3 then
  kgr m 0 fun s9 => kis s9 <|
  kc1 (fX3_entriesOf N s9 v4 m) fun v10 =>
  some v10
  else kgr m 0 fun s11 => kis s11 <|
  kc1 (fX2_tablesWith N s11 a1 m) fun v12 =>
  some v12
theorem FX5_memberValue_26 {g : zG} (hC : isC g) : zFl wsX5_memberValue RX5 (zcl g) 26 4 2 := ⟨RX5, TX5, 7, hC.2.2 ▸ rfl, by decide +kernel, by decide, by decide +kernel⟩
theorem FX5_memberValue_148 {g : zG} (hC : isC g) : zFl wsX5_memberValue RX5 (zcl g) 148 1 9 := ⟨RX2, TX2, 14, hC.2.2 ▸ rfl, by decide +kernel, by decide, by decide +kernel⟩
theorem FX5_memberValue_157 {g : zG} (hC : isC g) : zFl wsX5_memberValue RX5 (zcl g) 157 1 13 := ⟨RX2, TX2, 14, hC.2.2 ▸ rfl, by decide +kernel, by decide, by decide +kernel⟩
theorem FX5_memberValue_228 {g : zG} (hC : isC g) : zFl wsX5_memberValue RX5 (zcl g) 228 1 11 := ⟨RX2, TX2, 14, hC.2.2 ▸ rfl, by decide +kernel, by decide, by decide +kernel⟩
theorem FX5_memberValue_229 {g : zG} (hC : isC g) : zFl wsX5_memberValue RX5 (zcl g) 229 1 12 := ⟨RX2, TX2, 14, hC.2.2 ▸ rfl, by decide +kernel, by decide, by decide +kernel⟩
theorem hdX5_memberValue : yX5_memberValue.cls = RX5 ∧ yX5_memberValue.cls ≠ "java/lang/invoke/MethodHandle" ∧ yX5_memberValue.cls ≠ "java/lang/invoke/VarHandle" ∧ (parseMethodDescriptor yX5_memberValue.desc).map (fun d => d.parameters.length) = some 2 := by decide +kernel
set_option maxHeartbeats 4000000 in
set_option maxRecDepth 100000 in
theorem qX5_memberValue {l : Launch} {g : zG} (hC : isC g)  (N : Nat) (a1 : Int32) (a2 : Int32) (m : zMem)  (o : Int32) (hf : fX5_memberValue N a1 a2 m = some o) : zMI l g yX5_memberValue wsX5_memberValue { frames := 3, cells := 0, slots := 0, locals := 68 } [.ref (zad g 0), .int a1, .int a2] m (o, m) := by
  refine z_met_i (cc := cX5_memberValue) (maxL := 5) (lo0 := [some (.ref (zad g 0)), some (.int a1), some (.int a2), none, none]) (by decide +kernel) rfl rfl (Nat.le_of_ble_eq_true rfl) (fun x hx C hr => ?_)
  unfold fX5_memberValue at hf
  refine z_aload_n (i := 0) C dX5_memberValue_0 rfl rfl rfl ?_
  refine z_gv C (FX5_memberValue_26 hC) (tn_0 hC) (tc_0 hC) rfl dX5_memberValue_1 rfl hf (fun s1 hf => ?_)
  refine kis_V hf (fun hs1 hf => ?_)
  refine z_iload_n (i := 1) C dX5_memberValue_4 rfl rfl rfl ?_
  refine z_cviR (As := [.int a1]) (st := []) (m := m) C (cl_1 hC) (sn_0 hC hs1) (sc_0 hC hs1) gX5_memberValue_X2_isMember hdX2_isMember rfl (fun z h => qX2_isMember hC s1 a1 m hs1 z h) rfl (Nat.le_of_ble_eq_true rfl) ⟨Nat.le_of_ble_eq_true rfl, Nat.le_of_ble_eq_true rfl⟩ ⟨Nat.le_refl _, Nat.le_refl _⟩ dX5_memberValue_5 rfl rfl hf (fun v2 hf => ?_)
  refine z_istore_n (i := 3) (lo' := [some (.ref (zad g 0)), some (.int a1), some (.int a2), some (.int v2), none]) C dX5_memberValue_8 rfl (Nat.le_of_ble_eq_true rfl) rfl rfl rfl ?_
  refine z_iload_n (i := 2) C dX5_memberValue_9 rfl rfl rfl ?_
  refine z_if_ne (tgt := 23) C dX5_memberValue_10 (by decide) rfl hf (fun hf => ?_) (fun hf => ?_)
  · skip
    refine z_iload_n (i := 3) C dX5_memberValue_23 rfl rfl rfl ?_
    refine z_if_ne (tgt := 29) C dX5_memberValue_24 (by decide) rfl hf (fun hf => ?_) (fun hf => ?_)
    · skip
      refine z_aload_n (i := 0) C dX5_memberValue_29 rfl rfl rfl ?_
      refine z_gv C (FX5_memberValue_26 hC) (tn_0 hC) (tc_0 hC) rfl dX5_memberValue_30 rfl hf (fun s3 hf => ?_)
      refine kis_V hf (fun hs3 hf => ?_)
      refine z_gr C (FX5_memberValue_148 hC) (sn_0 hC hs3) (sc_0 hC hs3) rfl dX5_memberValue_33 rfl ?_
      refine z_iload_n (i := 1) C dX5_memberValue_36 rfl rfl rfl ?_
      refine z_iaload C (sn_2 hC hs3) (sc_2 hC hs3) dX5_memberValue_37 rfl hf (fun v4 hf => ?_)
      refine z_istore (lo' := [some (.ref (zad g 0)), some (.int a1), some (.int a2), some (.int v2), some (.int v4)]) C dX5_memberValue_38 (Nat.le_of_ble_eq_true rfl) rfl rfl rfl ?_
      refine z_iload_n (i := 2) C dX5_memberValue_40 rfl rfl rfl ?_
      refine ite_V hf (fun hn hf => ?_) (fun hn41_0 hf => ?_)
      · refine z_tsi (tgt := 68) C hn dX5_memberValue_41 (by decide) (by decide) rfl (by decide) ?_
        refine z_aload_n (i := 0) C dX5_memberValue_68 rfl rfl rfl ?_
        refine z_gv C (FX5_memberValue_26 hC) (tn_0 hC) (tc_0 hC) rfl dX5_memberValue_69 rfl hf (fun s5 hf => ?_)
        refine kis_V hf (fun hs5 hf => ?_)
        refine z_gr C (FX5_memberValue_228 hC) (sn_0 hC hs5) (sc_0 hC hs5) rfl dX5_memberValue_72 rfl ?_
        refine z_iload C dX5_memberValue_75 rfl rfl ?_
        refine z_iaload C (sn_4 hC hs5) (sc_4 hC hs5) dX5_memberValue_77 rfl hf (fun v6 hf => ?_)
        exact hr _ _ _ _ (congrArg (fun z => (z, m)) (Option.some.inj hf)) dX5_memberValue_78
      · skip
        refine ite_V hf (fun hn hf => ?_) (fun hn41_1 hf => ?_)
        · refine z_tsi (tgt := 79) C hn dX5_memberValue_41 (by decide) (by decide) rfl (by decide) ?_
          refine z_aload_n (i := 0) C dX5_memberValue_79 rfl rfl rfl ?_
          refine z_gv C (FX5_memberValue_26 hC) (tn_0 hC) (tc_0 hC) rfl dX5_memberValue_80 rfl hf (fun s7 hf => ?_)
          refine kis_V hf (fun hs7 hf => ?_)
          refine z_gr C (FX5_memberValue_229 hC) (sn_0 hC hs7) (sc_0 hC hs7) rfl dX5_memberValue_83 rfl ?_
          refine z_iload C dX5_memberValue_86 rfl rfl ?_
          refine z_iaload C (sn_5 hC hs7) (sc_5 hC hs7) dX5_memberValue_88 rfl hf (fun v8 hf => ?_)
          exact hr _ _ _ _ (congrArg (fun z => (z, m)) (Option.some.inj hf)) dX5_memberValue_89
        · skip
          refine ite_V hf (fun hn hf => ?_) (fun hn41_2 hf => ?_)
          · refine z_tsi (tgt := 90) C hn dX5_memberValue_41 (by decide) (by decide) rfl (by decide) ?_
            refine z_aload_n (i := 0) C dX5_memberValue_90 rfl rfl rfl ?_
            refine z_gv C (FX5_memberValue_26 hC) (tn_0 hC) (tc_0 hC) rfl dX5_memberValue_91 rfl hf (fun s9 hf => ?_)
            refine kis_V hf (fun hs9 hf => ?_)
            refine z_gr C (FX5_memberValue_157 hC) (sn_0 hC hs9) (sc_0 hC hs9) rfl dX5_memberValue_94 rfl ?_
            refine z_iload C dX5_memberValue_97 rfl rfl ?_
            refine z_cviR (As := [.int v4]) (st := []) (m := m) C (cl_2 hC) (sn_6 hC hs9) (sc_6 hC hs9) gX5_memberValue_X3_entriesOf hdX3_entriesOf rfl (fun z h => qX3_entriesOf hC N s9 v4 m hs9 z h) rfl (Nat.le_of_ble_eq_true rfl) ⟨Nat.le_of_ble_eq_true rfl, Nat.le_of_ble_eq_true rfl⟩ ⟨Nat.le_refl _, Nat.le_refl _⟩ dX5_memberValue_99 rfl rfl hf (fun v10 hf => ?_)
            exact hr _ _ _ _ (congrArg (fun z => (z, m)) (Option.some.inj hf)) dX5_memberValue_102
          · skip
            refine z_tso (tgt := 103) C dX5_memberValue_41 (z_tswd (fun c h1 h2 => ?_)) (by decide) ?_
            · have hc : c = 1 ∨ c = 2 ∨ c = 3 := by omega
              rcases hc with rfl|rfl|rfl
              · rw [zi_1]; exact hn41_0
              · rw [zi_2]; exact hn41_1
              · rw [zi_3]; exact hn41_2
            · skip
              refine z_aload_n (i := 0) C dX5_memberValue_103 rfl rfl rfl ?_
              refine z_gv C (FX5_memberValue_26 hC) (tn_0 hC) (tc_0 hC) rfl dX5_memberValue_104 rfl hf (fun s11 hf => ?_)
              refine kis_V hf (fun hs11 hf => ?_)
              refine z_iload_n (i := 1) C dX5_memberValue_107 rfl rfl rfl ?_
              refine z_cviR (As := [.int a1]) (st := []) (m := m) C (cl_1 hC) (sn_0 hC hs11) (sc_0 hC hs11) gX5_memberValue_X2_tablesWith hdX2_tablesWith rfl (fun z h => qX2_tablesWith hC N s11 a1 m hs11 z h) rfl (Nat.le_of_ble_eq_true rfl) ⟨Nat.le_of_ble_eq_true rfl, Nat.le_of_ble_eq_true rfl⟩ ⟨Nat.le_refl _, Nat.le_refl _⟩ dX5_memberValue_108 rfl rfl hf (fun v12 hf => ?_)
              exact hr _ _ _ _ (congrArg (fun z => (z, m)) (Option.some.inj hf)) dX5_memberValue_111
    · skip
      refine z_iconst C dX5_memberValue_27 zi_m1 rfl ?_
      exact hr _ _ _ _ (congrArg (fun z => (z, m)) (Option.some.inj hf)) dX5_memberValue_28
  · skip
    refine z_iload_n (i := 3) C dX5_memberValue_13 rfl rfl rfl ?_
    refine z_if_eq (tgt := 21) C dX5_memberValue_14 (by decide) rfl hf (fun hf => ?_) (fun hf => ?_)
    · skip
      refine z_iconst C dX5_memberValue_21 zi_0 rfl ?_
      exact hr _ _ _ _ (congrArg (fun z => (z, m)) (Option.some.inj hf)) dX5_memberValue_22
    · skip
      refine z_iconst C dX5_memberValue_17 zi_1 rfl ?_
      refine z_goto (pc' := 22) C dX5_memberValue_18 (by decide) ?_
      exact hr _ _ _ _ (congrArg (fun z => (z, m)) (Option.some.inj hf)) dX5_memberValue_22

def fX5_overlayValue (N : Nat) (a1 : Int32) (m : zMem) : Option (Int32) :=
  if a1 = 0 then
  kgr m 0 fun s1 => kis s1 <|
  kgi m s1 7 fun v2 =>
  some v2
  else if a1 = 1 then
  kgr m 0 fun s3 => kis s3 <|
  kgi m s3 5 fun v4 =>
  some v4
  else if a1 = 2 then
  kgr m 0 fun s5 => kis s5 <|
  kc1 (fX2_epoch s5 m) fun v6 =>
  some v6
  else if a1 = 3 then
  kgr m 0 fun s7 => kis s7 <|
  kc1 (fX2_difficulty s7 m) fun v8 =>
  some v8
  else if a1 = 4 then
  kgr m 0 fun s9 => kis s9 <|
  kgi m s9 6 fun v10 =>
  some v10
  else if a1 = 5 then
  kgr m 0 fun s11 => kis s11 <|
  kgi m s11 3 fun v12 =>
  some v12
  else if a1 = 6 then
  kgr m 0 fun s13 => kis s13 <|
  kgi m s13 4 fun v14 =>
  some v14
  else if a1 = 7 then
  kgr m 0 fun s15 => kis s15 <|
  kgi m s15 1 fun v16 =>
  some v16
  else kgr m 0 fun s17 => kis s17 <|
  kc1 (fX2_largestOrigin N s17 m) fun v18 =>
  some v18
theorem FX5_overlayValue_26 {g : zG} (hC : isC g) : zFl wsX5_overlayValue RX5 (zcl g) 26 4 2 := ⟨RX5, TX5, 7, hC.2.2 ▸ rfl, by decide +kernel, by decide, by decide +kernel⟩
theorem FX5_overlayValue_56 {g : zG} (hC : isC g) : zFl wsX5_overlayValue RX5 (zcl g) 56 1 4 := ⟨RX2, TX2, 14, hC.2.2 ▸ rfl, by decide +kernel, by decide, by decide +kernel⟩
theorem FX5_overlayValue_59 {g : zG} (hC : isC g) : zFl wsX5_overlayValue RX5 (zcl g) 59 1 3 := ⟨RX2, TX2, 14, hC.2.2 ▸ rfl, by decide +kernel, by decide, by decide +kernel⟩
theorem FX5_overlayValue_113 {g : zG} (hC : isC g) : zFl wsX5_overlayValue RX5 (zcl g) 113 1 7 := ⟨RX2, TX2, 14, hC.2.2 ▸ rfl, by decide +kernel, by decide, by decide +kernel⟩
theorem FX5_overlayValue_235 {g : zG} (hC : isC g) : zFl wsX5_overlayValue RX5 (zcl g) 235 1 5 := ⟨RX2, TX2, 14, hC.2.2 ▸ rfl, by decide +kernel, by decide, by decide +kernel⟩
theorem FX5_overlayValue_244 {g : zG} (hC : isC g) : zFl wsX5_overlayValue RX5 (zcl g) 244 1 6 := ⟨RX2, TX2, 14, hC.2.2 ▸ rfl, by decide +kernel, by decide, by decide +kernel⟩
theorem FX5_overlayValue_247 {g : zG} (hC : isC g) : zFl wsX5_overlayValue RX5 (zcl g) 247 1 1 := ⟨RX2, TX2, 14, hC.2.2 ▸ rfl, by decide +kernel, by decide, by decide +kernel⟩
theorem hdX5_overlayValue : yX5_overlayValue.cls = RX5 ∧ yX5_overlayValue.cls ≠ "java/lang/invoke/MethodHandle" ∧ yX5_overlayValue.cls ≠ "java/lang/invoke/VarHandle" ∧ (parseMethodDescriptor yX5_overlayValue.desc).map (fun d => d.parameters.length) = some 1 := by decide +kernel
set_option maxHeartbeats 4000000 in
set_option maxRecDepth 100000 in
theorem qX5_overlayValue {l : Launch} {g : zG} (hC : isC g)  (N : Nat) (a1 : Int32) (m : zMem)  (o : Int32) (hf : fX5_overlayValue N a1 m = some o) : zMI l g yX5_overlayValue wsX5_overlayValue { frames := 2, cells := 0, slots := 0, locals := 45 } [.ref (zad g 0), .int a1] m (o, m) := by
  refine z_met_i (cc := cX5_overlayValue) (maxL := 2) (lo0 := [some (.ref (zad g 0)), some (.int a1)]) (by decide +kernel) rfl rfl (Nat.le_of_ble_eq_true rfl) (fun x hx C hr => ?_)
  unfold fX5_overlayValue at hf
  refine z_iload_n (i := 1) C dX5_overlayValue_0 rfl rfl rfl ?_
  refine ite_V hf (fun hn hf => ?_) (fun hn1_0 hf => ?_)
  · refine z_tsi (tgt := 48) C hn dX5_overlayValue_1 (by decide) (by decide) rfl (by decide) ?_
    refine z_aload_n (i := 0) C dX5_overlayValue_48 rfl rfl rfl ?_
    refine z_gv C (FX5_overlayValue_26 hC) (tn_0 hC) (tc_0 hC) rfl dX5_overlayValue_49 rfl hf (fun s1 hf => ?_)
    refine kis_V hf (fun hs1 hf => ?_)
    refine z_gi C (FX5_overlayValue_113 hC) (sn_0 hC hs1) (sc_0 hC hs1) rfl dX5_overlayValue_52 rfl hf (fun v2 hf => ?_)
    exact hr _ _ _ _ (congrArg (fun z => (z, m)) (Option.some.inj hf)) dX5_overlayValue_55
  · skip
    refine ite_V hf (fun hn hf => ?_) (fun hn1_1 hf => ?_)
    · refine z_tsi (tgt := 56) C hn dX5_overlayValue_1 (by decide) (by decide) rfl (by decide) ?_
      refine z_aload_n (i := 0) C dX5_overlayValue_56 rfl rfl rfl ?_
      refine z_gv C (FX5_overlayValue_26 hC) (tn_0 hC) (tc_0 hC) rfl dX5_overlayValue_57 rfl hf (fun s3 hf => ?_)
      refine kis_V hf (fun hs3 hf => ?_)
      refine z_gi C (FX5_overlayValue_235 hC) (sn_0 hC hs3) (sc_0 hC hs3) rfl dX5_overlayValue_60 rfl hf (fun v4 hf => ?_)
      exact hr _ _ _ _ (congrArg (fun z => (z, m)) (Option.some.inj hf)) dX5_overlayValue_63
    · skip
      refine ite_V hf (fun hn hf => ?_) (fun hn1_2 hf => ?_)
      · refine z_tsi (tgt := 64) C hn dX5_overlayValue_1 (by decide) (by decide) rfl (by decide) ?_
        refine z_aload_n (i := 0) C dX5_overlayValue_64 rfl rfl rfl ?_
        refine z_gv C (FX5_overlayValue_26 hC) (tn_0 hC) (tc_0 hC) rfl dX5_overlayValue_65 rfl hf (fun s5 hf => ?_)
        refine kis_V hf (fun hs5 hf => ?_)
        refine z_cviR (As := []) (st := []) (m := m) C (cl_1 hC) (sn_0 hC hs5) (sc_0 hC hs5) gX5_overlayValue_X2_epoch hdX2_epoch rfl (fun z h => qX2_epoch hC s5 m hs5 z h) rfl (Nat.le_of_ble_eq_true rfl) ⟨Nat.le_of_ble_eq_true rfl, Nat.le_of_ble_eq_true rfl⟩ ⟨Nat.le_refl _, Nat.le_refl _⟩ dX5_overlayValue_68 rfl rfl hf (fun v6 hf => ?_)
        exact hr _ _ _ _ (congrArg (fun z => (z, m)) (Option.some.inj hf)) dX5_overlayValue_71
      · skip
        refine ite_V hf (fun hn hf => ?_) (fun hn1_3 hf => ?_)
        · refine z_tsi (tgt := 72) C hn dX5_overlayValue_1 (by decide) (by decide) rfl (by decide) ?_
          refine z_aload_n (i := 0) C dX5_overlayValue_72 rfl rfl rfl ?_
          refine z_gv C (FX5_overlayValue_26 hC) (tn_0 hC) (tc_0 hC) rfl dX5_overlayValue_73 rfl hf (fun s7 hf => ?_)
          refine kis_V hf (fun hs7 hf => ?_)
          refine z_cviR (As := []) (st := []) (m := m) C (cl_1 hC) (sn_0 hC hs7) (sc_0 hC hs7) gX5_overlayValue_X2_difficulty hdX2_difficulty rfl (fun z h => qX2_difficulty hC s7 m hs7 z h) rfl (Nat.le_of_ble_eq_true rfl) ⟨Nat.le_of_ble_eq_true rfl, Nat.le_of_ble_eq_true rfl⟩ ⟨Nat.le_refl _, Nat.le_refl _⟩ dX5_overlayValue_76 rfl rfl hf (fun v8 hf => ?_)
          exact hr _ _ _ _ (congrArg (fun z => (z, m)) (Option.some.inj hf)) dX5_overlayValue_79
        · skip
          refine ite_V hf (fun hn hf => ?_) (fun hn1_4 hf => ?_)
          · refine z_tsi (tgt := 80) C hn dX5_overlayValue_1 (by decide) (by decide) rfl (by decide) ?_
            refine z_aload_n (i := 0) C dX5_overlayValue_80 rfl rfl rfl ?_
            refine z_gv C (FX5_overlayValue_26 hC) (tn_0 hC) (tc_0 hC) rfl dX5_overlayValue_81 rfl hf (fun s9 hf => ?_)
            refine kis_V hf (fun hs9 hf => ?_)
            refine z_gi C (FX5_overlayValue_244 hC) (sn_0 hC hs9) (sc_0 hC hs9) rfl dX5_overlayValue_84 rfl hf (fun v10 hf => ?_)
            exact hr _ _ _ _ (congrArg (fun z => (z, m)) (Option.some.inj hf)) dX5_overlayValue_87
          · skip
            refine ite_V hf (fun hn hf => ?_) (fun hn1_5 hf => ?_)
            · refine z_tsi (tgt := 88) C hn dX5_overlayValue_1 (by decide) (by decide) rfl (by decide) ?_
              refine z_aload_n (i := 0) C dX5_overlayValue_88 rfl rfl rfl ?_
              refine z_gv C (FX5_overlayValue_26 hC) (tn_0 hC) (tc_0 hC) rfl dX5_overlayValue_89 rfl hf (fun s11 hf => ?_)
              refine kis_V hf (fun hs11 hf => ?_)
              refine z_gi C (FX5_overlayValue_59 hC) (sn_0 hC hs11) (sc_0 hC hs11) rfl dX5_overlayValue_92 rfl hf (fun v12 hf => ?_)
              exact hr _ _ _ _ (congrArg (fun z => (z, m)) (Option.some.inj hf)) dX5_overlayValue_95
            · skip
              refine ite_V hf (fun hn hf => ?_) (fun hn1_6 hf => ?_)
              · refine z_tsi (tgt := 96) C hn dX5_overlayValue_1 (by decide) (by decide) rfl (by decide) ?_
                refine z_aload_n (i := 0) C dX5_overlayValue_96 rfl rfl rfl ?_
                refine z_gv C (FX5_overlayValue_26 hC) (tn_0 hC) (tc_0 hC) rfl dX5_overlayValue_97 rfl hf (fun s13 hf => ?_)
                refine kis_V hf (fun hs13 hf => ?_)
                refine z_gi C (FX5_overlayValue_56 hC) (sn_0 hC hs13) (sc_0 hC hs13) rfl dX5_overlayValue_100 rfl hf (fun v14 hf => ?_)
                exact hr _ _ _ _ (congrArg (fun z => (z, m)) (Option.some.inj hf)) dX5_overlayValue_103
              · skip
                refine ite_V hf (fun hn hf => ?_) (fun hn1_7 hf => ?_)
                · refine z_tsi (tgt := 104) C hn dX5_overlayValue_1 (by decide) (by decide) rfl (by decide) ?_
                  refine z_aload_n (i := 0) C dX5_overlayValue_104 rfl rfl rfl ?_
                  refine z_gv C (FX5_overlayValue_26 hC) (tn_0 hC) (tc_0 hC) rfl dX5_overlayValue_105 rfl hf (fun s15 hf => ?_)
                  refine kis_V hf (fun hs15 hf => ?_)
                  refine z_gi C (FX5_overlayValue_247 hC) (sn_0 hC hs15) (sc_0 hC hs15) rfl dX5_overlayValue_108 rfl hf (fun v16 hf => ?_)
                  exact hr _ _ _ _ (congrArg (fun z => (z, m)) (Option.some.inj hf)) dX5_overlayValue_111
                · skip
                  refine z_tso (tgt := 112) C dX5_overlayValue_1 (z_tswd (fun c h1 h2 => ?_)) (by decide) ?_
                  · have hc : c = 0 ∨ c = 1 ∨ c = 2 ∨ c = 3 ∨ c = 4 ∨ c = 5 ∨ c = 6 ∨ c = 7 := by omega
                    rcases hc with rfl|rfl|rfl|rfl|rfl|rfl|rfl|rfl
                    · rw [zi_0]; exact hn1_0
                    · rw [zi_1]; exact hn1_1
                    · rw [zi_2]; exact hn1_2
                    · rw [zi_3]; exact hn1_3
                    · rw [zi_4]; exact hn1_4
                    · rw [zi_5]; exact hn1_5
                    · rw [zi_6]; exact hn1_6
                    · rw [zi_7]; exact hn1_7
                  · skip
                    refine z_aload_n (i := 0) C dX5_overlayValue_112 rfl rfl rfl ?_
                    refine z_gv C (FX5_overlayValue_26 hC) (tn_0 hC) (tc_0 hC) rfl dX5_overlayValue_113 rfl hf (fun s17 hf => ?_)
                    refine kis_V hf (fun hs17 hf => ?_)
                    refine z_cviR (As := []) (st := []) (m := m) C (cl_1 hC) (sn_0 hC hs17) (sc_0 hC hs17) gX5_overlayValue_X2_largestOrigin hdX2_largestOrigin rfl (fun z h => qX2_largestOrigin hC N s17 m hs17 z h) rfl (Nat.le_of_ble_eq_true rfl) ⟨Nat.le_of_ble_eq_true rfl, Nat.le_of_ble_eq_true rfl⟩ ⟨Nat.le_refl _, Nat.le_refl _⟩ dX5_overlayValue_116 rfl rfl hf (fun v18 hf => ?_)
                    exact hr _ _ _ _ (congrArg (fun z => (z, m)) (Option.some.inj hf)) dX5_overlayValue_119

def fX5_clearScript (m : zMem) : Option (Int32 × zMem) :=
  kgi m 6 1 fun v1 =>
  kpi m 6 1 0 fun m2 =>
  some (v1, m2)
theorem FX5_clearScript_19 {g : zG} (hC : isC g) : zFl wsX5_clearScript RX5 (zcl g) 19 4 1 := ⟨RX5, TX5, 7, hC.2.2 ▸ rfl, by decide +kernel, by decide, by decide +kernel⟩
theorem FX5_clearScript_182 {g : zG} (hC : isC g) : zFl wsX5_clearScript RX5 (zcl g) 182 0 1 := ⟨RX1, TX1, 6, hC.2.2 ▸ rfl, by decide +kernel, by decide, by decide +kernel⟩
theorem PX5_clearScript_182 {g : zG} (hC : isC g) : zFp wsX5_clearScript RX5 (zcl g) 182 0 1 .int := ⟨RX1, TX1, 6, tyX1, hC.2.2 ▸ rfl, by decide +kernel, by decide, by decide +kernel, tyX1_ok, nmX1, rfl, by decide +kernel⟩
theorem hdX5_clearScript : yX5_clearScript.cls = RX5 ∧ yX5_clearScript.cls ≠ "java/lang/invoke/MethodHandle" ∧ yX5_clearScript.cls ≠ "java/lang/invoke/VarHandle" ∧ (parseMethodDescriptor yX5_clearScript.desc).map (fun d => d.parameters.length) = some 0 := by decide +kernel
set_option maxHeartbeats 4000000 in
set_option maxRecDepth 100000 in
theorem qX5_clearScript {l : Launch} {g : zG} (hC : isC g)  (m : zMem)  (o : Int32 × zMem) (hf : fX5_clearScript m = some o) : zMI l g yX5_clearScript wsX5_clearScript { frames := 0, cells := 0, slots := 0, locals := 0 } [.ref (zad g 0)] m o := by
  refine z_met_i (cc := cX5_clearScript) (maxL := 2) (lo0 := [some (.ref (zad g 0)), none]) (by decide +kernel) rfl rfl (Nat.le_of_ble_eq_true rfl) (fun x hx C hr => ?_)
  unfold fX5_clearScript at hf
  refine z_aload_n (i := 0) C dX5_clearScript_0 rfl rfl rfl ?_
  refine z_gr C (FX5_clearScript_19 hC) (tn_0 hC) (tc_0 hC) rfl dX5_clearScript_1 rfl ?_
  refine z_gi C (FX5_clearScript_182 hC) (tn_6 hC) (tc_6 hC) rfl dX5_clearScript_4 rfl hf (fun v1 hf => ?_)
  refine z_istore_n (i := 1) (lo' := [some (.ref (zad g 0)), some (.int v1)]) C dX5_clearScript_7 rfl (Nat.le_of_ble_eq_true rfl) rfl rfl rfl ?_
  refine z_aload_n (i := 0) C dX5_clearScript_8 rfl rfl rfl ?_
  refine z_gr C (FX5_clearScript_19 hC) (tn_0 hC) (tc_0 hC) rfl dX5_clearScript_9 rfl ?_
  refine z_iconst C dX5_clearScript_12 zi_0 rfl ?_
  refine z_pi C (PX5_clearScript_182 hC) (tn_6 hC) (tc_6 hC) rfl dX5_clearScript_13 rfl hf (fun m2 hf => ?_)
  refine z_iload_n (i := 1) C dX5_clearScript_16 rfl rfl rfl ?_
  exact hr _ _ _ _ (Option.some.inj hf) dX5_clearScript_17

def fX5_carryOut (N : Nat) (a1 : Int32) (m : zMem) : Option (Int32 × zMem) :=
  kc1 (fX1_number a1 0 m) fun v1 =>
  kc1 (fX1_number a1 1 m) fun v2 =>
  kld m 8 20 a1 fun v3 =>
  if v3 = 0 then
  kgr m 0 fun s4 => kis s4 <|
  kgi m s4 7 fun v5 =>
  kjn (fun (w6 : Int32) =>
  kc1 (fX5_admissionFault N v1 v2 w6 m) fun v7 =>
  if v7 = 0 then
  kgr m 0 fun s8 => kis s8 <|
  kc2 (fX2_enter N s8 v1 v2 w6 m) fun v9 m10 =>
  some (1, m10)
  else
  some (0, m)) fun K79 =>
  if v5 = 0 then
  K79 (-1)
  else
  kc1 (fX1_number a1 2 m) fun v11 =>
  K79 v11
  else if v3 = 1 then
  kc1 (fX5_memberFault v1 m) fun v12 =>
  if v12 = 0 then
  kgr m 0 fun s13 => kis s13 <|
  kc1 (fX2_endIdentity s13 v1 m) fun m14 =>
  some (1, m14)
  else
  some (0, m)
  else if v3 = 2 then
  kc1 (fX5_lookupFault v1 v2 m) fun v15 =>
  if v15 = 0 then
  kgr m 0 fun s16 => kis s16 <|
  kc2 (fX2_makeLookup N s16 v1 v2 m) fun v17 m18 =>
  some (1, m18)
  else
  some (0, m)
  else kc1 (fX5_tickFault v1) fun v19 =>
  if v19 = 0 then
  kgr m 0 fun s20 => kis s20 <|
  kc2 (fX2_passTime N s20 v1 m) fun v21 m22 =>
  some (1, m22)
  else
  some (0, m)
theorem FX5_carryOut_10 {g : zG} (hC : isC g) : zFl wsX5_carryOut RX5 (zcl g) 10 4 0 := ⟨RX5, TX5, 7, hC.2.2 ▸ rfl, by decide +kernel, by decide, by decide +kernel⟩
theorem FX5_carryOut_19 {g : zG} (hC : isC g) : zFl wsX5_carryOut RX5 (zcl g) 19 4 1 := ⟨RX5, TX5, 7, hC.2.2 ▸ rfl, by decide +kernel, by decide, by decide +kernel⟩
theorem FX5_carryOut_26 {g : zG} (hC : isC g) : zFl wsX5_carryOut RX5 (zcl g) 26 4 2 := ⟨RX5, TX5, 7, hC.2.2 ▸ rfl, by decide +kernel, by decide, by decide +kernel⟩
theorem FX5_carryOut_113 {g : zG} (hC : isC g) : zFl wsX5_carryOut RX5 (zcl g) 113 1 7 := ⟨RX2, TX2, 14, hC.2.2 ▸ rfl, by decide +kernel, by decide, by decide +kernel⟩
theorem FX5_carryOut_225 {g : zG} (hC : isC g) : zFl wsX5_carryOut RX5 (zcl g) 225 0 2 := ⟨RX1, TX1, 6, hC.2.2 ▸ rfl, by decide +kernel, by decide, by decide +kernel⟩
theorem hdX5_carryOut : yX5_carryOut.cls = RX5 ∧ yX5_carryOut.cls ≠ "java/lang/invoke/MethodHandle" ∧ yX5_carryOut.cls ≠ "java/lang/invoke/VarHandle" ∧ (parseMethodDescriptor yX5_carryOut.desc).map (fun d => d.parameters.length) = some 1 := by decide +kernel
set_option maxHeartbeats 4000000 in
set_option maxRecDepth 100000 in
theorem qX5_carryOut {l : Launch} {g : zG} (hC : isC g)  (N : Nat) (a1 : Int32) (m : zMem)  (o : Int32 × zMem) (hf : fX5_carryOut N a1 m = some o) : zMI l g yX5_carryOut wsX5_carryOut { frames := 5, cells := 0, slots := 0, locals := 131 } [.ref (zad g 0), .int a1] m o := by
  refine z_met_z (cc := cX5_carryOut) (maxL := 5) (lo0 := [some (.ref (zad g 0)), some (.int a1), none, none, none]) (by decide +kernel) rfl rfl (Nat.le_of_ble_eq_true rfl) (fun x hx C hr => ?_)
  unfold fX5_carryOut at hf
  refine z_aload_n (i := 0) C dX5_carryOut_0 rfl rfl rfl ?_
  refine z_gr C (FX5_carryOut_19 hC) (tn_0 hC) (tc_0 hC) rfl dX5_carryOut_1 rfl ?_
  refine z_iload_n (i := 1) C dX5_carryOut_4 rfl rfl rfl ?_
  refine z_iconst C dX5_carryOut_5 zi_0 rfl ?_
  refine z_cviR (As := [.int a1, .int 0]) (st := []) (m := m) C (cl_0 hC) (tn_6 hC) (tc_6 hC) gX5_carryOut_X1_number hdX1_number rfl (fun z h => qX1_number hC a1 0 m z h) rfl (Nat.le_of_ble_eq_true rfl) ⟨Nat.le_of_ble_eq_true rfl, Nat.le_of_ble_eq_true rfl⟩ ⟨Nat.le_refl _, Nat.le_refl _⟩ dX5_carryOut_6 rfl rfl hf (fun v1 hf => ?_)
  refine z_istore_n (i := 2) (lo' := [some (.ref (zad g 0)), some (.int a1), some (.int v1), none, none]) C dX5_carryOut_9 rfl (Nat.le_of_ble_eq_true rfl) rfl rfl rfl ?_
  refine z_aload_n (i := 0) C dX5_carryOut_10 rfl rfl rfl ?_
  refine z_gr C (FX5_carryOut_19 hC) (tn_0 hC) (tc_0 hC) rfl dX5_carryOut_11 rfl ?_
  refine z_iload_n (i := 1) C dX5_carryOut_14 rfl rfl rfl ?_
  refine z_iconst C dX5_carryOut_15 zi_1 rfl ?_
  refine z_cviR (As := [.int a1, .int 1]) (st := []) (m := m) C (cl_0 hC) (tn_6 hC) (tc_6 hC) gX5_carryOut_X1_number hdX1_number rfl (fun z h => qX1_number hC a1 1 m z h) rfl (Nat.le_of_ble_eq_true rfl) ⟨Nat.le_of_ble_eq_true rfl, Nat.le_of_ble_eq_true rfl⟩ ⟨Nat.le_refl _, Nat.le_refl _⟩ dX5_carryOut_16 rfl rfl hf (fun v2 hf => ?_)
  refine z_istore_n (i := 3) (lo' := [some (.ref (zad g 0)), some (.int a1), some (.int v1), some (.int v2), none]) C dX5_carryOut_19 rfl (Nat.le_of_ble_eq_true rfl) rfl rfl rfl ?_
  refine z_aload_n (i := 0) C dX5_carryOut_20 rfl rfl rfl ?_
  refine z_gr C (FX5_carryOut_19 hC) (tn_0 hC) (tc_0 hC) rfl dX5_carryOut_21 rfl ?_
  refine z_gr C (FX5_carryOut_225 hC) (tn_6 hC) (tc_6 hC) rfl dX5_carryOut_24 rfl ?_
  refine z_iload_n (i := 1) C dX5_carryOut_27 rfl rfl rfl ?_
  refine z_iaload C (tn_8 hC) (tc_8 hC) dX5_carryOut_28 rfl hf (fun v3 hf => ?_)
  refine ite_V hf (fun hn hf => ?_) (fun hn29_0 hf => ?_)
  · refine z_tsi (tgt := 56) C hn dX5_carryOut_29 (by decide) (by decide) rfl (by decide) ?_
    refine z_aload_n (i := 0) C dX5_carryOut_56 rfl rfl rfl ?_
    refine z_gv C (FX5_carryOut_26 hC) (tn_0 hC) (tc_0 hC) rfl dX5_carryOut_57 rfl hf (fun s4 hf => ?_)
    refine kis_V hf (fun hs4 hf => ?_)
    refine z_gi C (FX5_carryOut_113 hC) (sn_0 hC hs4) (sc_0 hC hs4) rfl dX5_carryOut_60 rfl hf (fun v5 hf => ?_)
    refine kjn_V (fun K79 => ∀ (w6 : Int32), K79 w6 = some o → zV x g 5 0 0 79 [some (.ref (zad g 0)), none, some (.int v1), some (.int v2), none] [.int w6] m) hf (fun w6 hf => ?_) (fun K79 hK79 hf => ?_)
    · skip
      refine z_istore (lo' := [some (.ref (zad g 0)), none, some (.int v1), some (.int v2), some (.int w6)]) C dX5_carryOut_79 (Nat.le_of_ble_eq_true rfl) rfl rfl rfl ?_
      refine z_aload_n (i := 0) C dX5_carryOut_81 rfl rfl rfl ?_
      refine z_iload_n (i := 2) C dX5_carryOut_82 rfl rfl rfl ?_
      refine z_iload_n (i := 3) C dX5_carryOut_83 rfl rfl rfl ?_
      refine z_iload C dX5_carryOut_84 rfl rfl ?_
      refine z_cviR (As := [.int v1, .int v2, .int w6]) (st := []) (m := m) C (cl_4 hC) (tn_0 hC) (tc_0 hC) gX5_carryOut_X5_admissionFault hdX5_admissionFault rfl (fun z h => qX5_admissionFault hC N v1 v2 w6 m z h) rfl (Nat.le_of_ble_eq_true rfl) ⟨Nat.le_of_ble_eq_true rfl, Nat.le_of_ble_eq_true rfl⟩ ⟨Nat.le_refl _, Nat.le_refl _⟩ dX5_carryOut_86 rfl rfl hf (fun v7 hf => ?_)
      refine z_if_eq (tgt := 94) C dX5_carryOut_89 (by decide) rfl hf (fun hf => ?_) (fun hf => ?_)
      · skip
        refine z_aload_n (i := 0) C dX5_carryOut_94 rfl rfl rfl ?_
        refine z_gv C (FX5_carryOut_26 hC) (tn_0 hC) (tc_0 hC) rfl dX5_carryOut_95 rfl hf (fun s8 hf => ?_)
        refine kis_V hf (fun hs8 hf => ?_)
        refine z_aload_n (i := 0) C dX5_carryOut_98 rfl rfl rfl ?_
        refine z_gr C (FX5_carryOut_10 hC) (tn_0 hC) (tc_0 hC) rfl dX5_carryOut_99 rfl ?_
        refine z_iload_n (i := 2) C dX5_carryOut_102 rfl rfl rfl ?_
        refine z_iload_n (i := 3) C dX5_carryOut_103 rfl rfl rfl ?_
        refine z_iload C dX5_carryOut_104 rfl rfl ?_
        refine z_cviW (As := [.ref (zad g 1), .int v1, .int v2, .int w6]) (st := []) (m := m) C (cl_1 hC) (sn_0 hC hs8) (sc_0 hC hs8) gX5_carryOut_X2_enter hdX2_enter rfl (fun z h => qX2_enter hC N s8 v1 v2 w6 m hs8 z h) rfl (Nat.le_of_ble_eq_true rfl) ⟨Nat.le_of_ble_eq_true rfl, Nat.le_of_ble_eq_true rfl⟩ ⟨Nat.le_refl _, Nat.le_refl _⟩ dX5_carryOut_106 rfl rfl hf (fun v9 m10 hf => ?_)
        refine z_pop C dX5_carryOut_109 rfl rfl ?_
        refine z_iconst C dX5_carryOut_110 zi_1 rfl ?_
        exact hr _ _ _ _ (Or.inr rfl) (Option.some.inj hf) dX5_carryOut_111
      · skip
        refine z_iconst C dX5_carryOut_92 zi_0 rfl ?_
        exact hr _ _ _ _ (Or.inl rfl) (Option.some.inj hf) dX5_carryOut_93
    · skip
      refine z_if_ne (tgt := 70) C dX5_carryOut_63 (by decide) rfl hf (fun hf => ?_) (fun hf => ?_)
      · skip
        refine z_aload_n (i := 0) C dX5_carryOut_70 rfl rfl rfl ?_
        refine z_gr C (FX5_carryOut_19 hC) (tn_0 hC) (tc_0 hC) rfl dX5_carryOut_71 rfl ?_
        refine z_iload_n (i := 1) C dX5_carryOut_74 rfl rfl rfl ?_
        refine z_iconst C dX5_carryOut_75 zi_2 rfl ?_
        refine z_cviR (As := [.int a1, .int 2]) (st := []) (m := m) C (cl_0 hC) (tn_6 hC) (tc_6 hC) gX5_carryOut_X1_number hdX1_number rfl (fun z h => qX1_number hC a1 2 m z h) rfl (Nat.le_of_ble_eq_true rfl) ⟨Nat.le_of_ble_eq_true rfl, Nat.le_of_ble_eq_true rfl⟩ ⟨Nat.le_refl _, Nat.le_refl _⟩ dX5_carryOut_76 rfl rfl hf (fun v11 hf => ?_)
        refine z_drop (lo' := [some (.ref (zad g 0)), none, some (.int v1), some (.int v2), none]) 1 rfl ?_
        exact hK79 _ hf
      · skip
        refine z_iconst C dX5_carryOut_66 zi_m1 rfl ?_
        refine z_goto (pc' := 79) C dX5_carryOut_67 (by decide) ?_
        refine z_drop (lo' := [some (.ref (zad g 0)), none, some (.int v1), some (.int v2), none]) 1 rfl ?_
        exact hK79 _ hf
  · skip
    refine ite_V hf (fun hn hf => ?_) (fun hn29_1 hf => ?_)
    · refine z_tsi (tgt := 112) C hn dX5_carryOut_29 (by decide) (by decide) rfl (by decide) ?_
      refine z_aload_n (i := 0) C dX5_carryOut_112 rfl rfl rfl ?_
      refine z_iload_n (i := 2) C dX5_carryOut_113 rfl rfl rfl ?_
      refine z_cviR (As := [.int v1]) (st := []) (m := m) C (cl_4 hC) (tn_0 hC) (tc_0 hC) gX5_carryOut_X5_memberFault hdX5_memberFault rfl (fun z h => qX5_memberFault hC v1 m z h) rfl (Nat.le_of_ble_eq_true rfl) ⟨Nat.le_of_ble_eq_true rfl, Nat.le_of_ble_eq_true rfl⟩ ⟨Nat.le_refl _, Nat.le_refl _⟩ dX5_carryOut_114 rfl rfl hf (fun v12 hf => ?_)
      refine z_if_eq (tgt := 122) C dX5_carryOut_117 (by decide) rfl hf (fun hf => ?_) (fun hf => ?_)
      · skip
        refine z_aload_n (i := 0) C dX5_carryOut_122 rfl rfl rfl ?_
        refine z_gv C (FX5_carryOut_26 hC) (tn_0 hC) (tc_0 hC) rfl dX5_carryOut_123 rfl hf (fun s13 hf => ?_)
        refine kis_V hf (fun hs13 hf => ?_)
        refine z_iload_n (i := 2) C dX5_carryOut_126 rfl rfl rfl ?_
        refine z_cvvW (As := [.int v1]) (st := []) (m := m) C (cl_1 hC) (sn_0 hC hs13) (sc_0 hC hs13) gX5_carryOut_X2_endIdentity hdX2_endIdentity rfl (fun z h => qX2_endIdentity hC s13 v1 m hs13 z h) rfl (Nat.le_of_ble_eq_true rfl) ⟨Nat.le_of_ble_eq_true rfl, Nat.le_of_ble_eq_true rfl⟩ ⟨Nat.le_refl _, Nat.le_refl _⟩ dX5_carryOut_127 rfl rfl hf (fun m14 hf => ?_)
        refine z_iconst C dX5_carryOut_130 zi_1 rfl ?_
        exact hr _ _ _ _ (Or.inr rfl) (Option.some.inj hf) dX5_carryOut_131
      · skip
        refine z_iconst C dX5_carryOut_120 zi_0 rfl ?_
        exact hr _ _ _ _ (Or.inl rfl) (Option.some.inj hf) dX5_carryOut_121
    · skip
      refine ite_V hf (fun hn hf => ?_) (fun hn29_2 hf => ?_)
      · refine z_tsi (tgt := 132) C hn dX5_carryOut_29 (by decide) (by decide) rfl (by decide) ?_
        refine z_aload_n (i := 0) C dX5_carryOut_132 rfl rfl rfl ?_
        refine z_iload_n (i := 2) C dX5_carryOut_133 rfl rfl rfl ?_
        refine z_iload_n (i := 3) C dX5_carryOut_134 rfl rfl rfl ?_
        refine z_cviR (As := [.int v1, .int v2]) (st := []) (m := m) C (cl_4 hC) (tn_0 hC) (tc_0 hC) gX5_carryOut_X5_lookupFault hdX5_lookupFault rfl (fun z h => qX5_lookupFault hC v1 v2 m z h) rfl (Nat.le_of_ble_eq_true rfl) ⟨Nat.le_of_ble_eq_true rfl, Nat.le_of_ble_eq_true rfl⟩ ⟨Nat.le_refl _, Nat.le_refl _⟩ dX5_carryOut_135 rfl rfl hf (fun v15 hf => ?_)
        refine z_if_eq (tgt := 143) C dX5_carryOut_138 (by decide) rfl hf (fun hf => ?_) (fun hf => ?_)
        · skip
          refine z_aload_n (i := 0) C dX5_carryOut_143 rfl rfl rfl ?_
          refine z_gv C (FX5_carryOut_26 hC) (tn_0 hC) (tc_0 hC) rfl dX5_carryOut_144 rfl hf (fun s16 hf => ?_)
          refine kis_V hf (fun hs16 hf => ?_)
          refine z_aload_n (i := 0) C dX5_carryOut_147 rfl rfl rfl ?_
          refine z_gr C (FX5_carryOut_10 hC) (tn_0 hC) (tc_0 hC) rfl dX5_carryOut_148 rfl ?_
          refine z_iload_n (i := 2) C dX5_carryOut_151 rfl rfl rfl ?_
          refine z_iload_n (i := 3) C dX5_carryOut_152 rfl rfl rfl ?_
          refine z_cviW (As := [.ref (zad g 1), .int v1, .int v2]) (st := []) (m := m) C (cl_1 hC) (sn_0 hC hs16) (sc_0 hC hs16) gX5_carryOut_X2_makeLookup hdX2_makeLookup rfl (fun z h => qX2_makeLookup hC N s16 v1 v2 m hs16 z h) rfl (Nat.le_of_ble_eq_true rfl) ⟨Nat.le_of_ble_eq_true rfl, Nat.le_of_ble_eq_true rfl⟩ ⟨Nat.le_refl _, Nat.le_refl _⟩ dX5_carryOut_153 rfl rfl hf (fun v17 m18 hf => ?_)
          refine z_pop C dX5_carryOut_156 rfl rfl ?_
          refine z_iconst C dX5_carryOut_157 zi_1 rfl ?_
          exact hr _ _ _ _ (Or.inr rfl) (Option.some.inj hf) dX5_carryOut_158
        · skip
          refine z_iconst C dX5_carryOut_141 zi_0 rfl ?_
          exact hr _ _ _ _ (Or.inl rfl) (Option.some.inj hf) dX5_carryOut_142
      · skip
        refine z_tso (tgt := 159) C dX5_carryOut_29 (z_tswd (fun c h1 h2 => ?_)) (by decide) ?_
        · have hc : c = 0 ∨ c = 1 ∨ c = 2 := by omega
          rcases hc with rfl|rfl|rfl
          · rw [zi_0]; exact hn29_0
          · rw [zi_1]; exact hn29_1
          · rw [zi_2]; exact hn29_2
        · skip
          refine z_iload_n (i := 2) C dX5_carryOut_159 rfl rfl rfl ?_
          refine z_csiR (As := [.int v1]) (st := []) (m := m) C gX5_carryOut_X5_tickFault hdX5_tickFault rfl (fun z h => qX5_tickFault v1 m z h) rfl (Nat.le_of_ble_eq_true rfl) ⟨Nat.le_of_ble_eq_true rfl, Nat.le_of_ble_eq_true rfl⟩ ⟨Nat.le_refl _, Nat.le_refl _⟩ dX5_carryOut_160 rfl rfl hf (fun v19 hf => ?_)
          refine z_if_eq (tgt := 168) C dX5_carryOut_163 (by decide) rfl hf (fun hf => ?_) (fun hf => ?_)
          · skip
            refine z_aload_n (i := 0) C dX5_carryOut_168 rfl rfl rfl ?_
            refine z_gv C (FX5_carryOut_26 hC) (tn_0 hC) (tc_0 hC) rfl dX5_carryOut_169 rfl hf (fun s20 hf => ?_)
            refine kis_V hf (fun hs20 hf => ?_)
            refine z_iload_n (i := 2) C dX5_carryOut_172 rfl rfl rfl ?_
            refine z_cviW (As := [.int v1]) (st := []) (m := m) C (cl_1 hC) (sn_0 hC hs20) (sc_0 hC hs20) gX5_carryOut_X2_passTime hdX2_passTime rfl (fun z h => qX2_passTime hC N s20 v1 m hs20 z h) rfl (Nat.le_of_ble_eq_true rfl) ⟨Nat.le_of_ble_eq_true rfl, Nat.le_of_ble_eq_true rfl⟩ ⟨Nat.le_refl _, Nat.le_refl _⟩ dX5_carryOut_173 rfl rfl hf (fun v21 m22 hf => ?_)
            refine z_pop C dX5_carryOut_176 rfl rfl ?_
            refine z_iconst C dX5_carryOut_177 zi_1 rfl ?_
            exact hr _ _ _ _ (Or.inr rfl) (Option.some.inj hf) dX5_carryOut_178
          · skip
            refine z_iconst C dX5_carryOut_166 zi_0 rfl ?_
            exact hr _ _ _ _ (Or.inl rfl) (Option.some.inj hf) dX5_carryOut_167

def sX5_digest_121 (N : Nat) (m : zMem) (x9 : Int32) (K148 : Int64 → Option (Int64)) : (Int64 × Int32 → Option (Int64)) → Int64 × Int32 → Option (Int64) := fun rec (x18, x19) =>
  if 4 < x19 then
  K148 x18
  else
  kc1 (fX5_memberValue N x9 x19 m) fun v20 =>
  klt ((31 * x18) + v20.toInt64 : Int64) fun v21 =>
  rec (v21, x19 + 1)
def sX5_digest_91 (N : Nat) (m : zMem) (K175 : Int64 → Option (Int64)) : (Int64 × Int32 → Option (Int64)) → Int64 × Int32 → Option (Int64) := fun rec (x8, x9) =>
  if 255 < x9 then
  K175 x8
  else
  kgr m 0 fun s10 => kis s10 <|
  kc1 (fX2_isMember s10 x9 m) fun v11 =>
  if v11 = 0 then
  rec (x8, x9 + 1)
  else
  klt ((31 * x8) + x9.toInt64 : Int64) fun v12 =>
  kjn (fun (w13 : Int64) =>
  kgr m 0 fun s14 => kis s14 <|
  kgr m 0 fun s15 => kis s15 <|
  kld m (s15 + 2) 256 x9 fun v16 =>
  kc1 (fX3_hashOf N s14 v16 w13 m) fun v17 =>
  rec (v17, x9 + 1)) fun K148 =>
  klp (sX5_digest_121 N m x9 K148) N (v12, 1)
def sX5_digest_60 (m : zMem) (K89 : Int64 → Option (Int64)) : (Int64 × Int32 → Option (Int64)) → Int64 × Int32 → Option (Int64) := fun rec (x22, x23) =>
  if 9 ≤ x23 then
  K89 x22
  else
  kgr m 0 fun s24 => kis s24 <|
  kld m (s24 + 1) 9 x23 fun v25 =>
  klt ((31 * x22) + v25.toInt64 : Int64) fun v26 =>
  rec (v26, x23 + 1)
def sX5_digest_33 (N : Nat) (m : zMem) (K58 : Int64 → Option (Int64)) : (Int64 × Int32 → Option (Int64)) → Int64 × Int32 → Option (Int64) := fun rec (x27, x28) =>
  if 8 < x28 then
  K58 x27
  else
  kc1 (fX5_overlayValue N x28 m) fun v29 =>
  klt ((31 * x27) + v29.toInt64 : Int64) fun v30 =>
  rec (v30, x28 + 1)
def fX5_digest (N : Nat) (m : zMem) : Option (Int64) :=
  kgi m 0 6 fun v1 =>
  klt ((31 * 18554) + v1.toInt64 : Int64) fun v2 =>
  kgi m 6 1 fun v3 =>
  klt ((31 * v2) + v3.toInt64 : Int64) fun v4 =>
  kjn (fun (w5 : Int64) =>
  kjn (fun (w6 : Int64) =>
  kjn (fun (w7 : Int64) =>
  some w7) fun K175 =>
  klp (sX5_digest_91 N m K175) N (w6, 0)) fun K89 =>
  klp (sX5_digest_60 m K89) N (w5, 0)) fun K58 =>
  klp (sX5_digest_33 N m K58) N (v4, 0)
theorem FX5_digest_19 {g : zG} (hC : isC g) : zFl wsX5_digest RX5 (zcl g) 19 4 1 := ⟨RX5, TX5, 7, hC.2.2 ▸ rfl, by decide +kernel, by decide, by decide +kernel⟩
theorem FX5_digest_26 {g : zG} (hC : isC g) : zFl wsX5_digest RX5 (zcl g) 26 4 2 := ⟨RX5, TX5, 7, hC.2.2 ▸ rfl, by decide +kernel, by decide, by decide +kernel⟩
theorem FX5_digest_39 {g : zG} (hC : isC g) : zFl wsX5_digest RX5 (zcl g) 39 4 6 := ⟨RX5, TX5, 7, hC.2.2 ▸ rfl, by decide +kernel, by decide, by decide +kernel⟩
theorem FX5_digest_148 {g : zG} (hC : isC g) : zFl wsX5_digest RX5 (zcl g) 148 1 9 := ⟨RX2, TX2, 14, hC.2.2 ▸ rfl, by decide +kernel, by decide, by decide +kernel⟩
theorem FX5_digest_157 {g : zG} (hC : isC g) : zFl wsX5_digest RX5 (zcl g) 157 1 13 := ⟨RX2, TX2, 14, hC.2.2 ▸ rfl, by decide +kernel, by decide, by decide +kernel⟩
theorem FX5_digest_179 {g : zG} (hC : isC g) : zFl wsX5_digest RX5 (zcl g) 179 1 8 := ⟨RX2, TX2, 14, hC.2.2 ▸ rfl, by decide +kernel, by decide, by decide +kernel⟩
theorem FX5_digest_182 {g : zG} (hC : isC g) : zFl wsX5_digest RX5 (zcl g) 182 0 1 := ⟨RX1, TX1, 6, hC.2.2 ▸ rfl, by decide +kernel, by decide, by decide +kernel⟩
theorem hdX5_digest : yX5_digest.cls = RX5 ∧ yX5_digest.cls ≠ "java/lang/invoke/MethodHandle" ∧ yX5_digest.cls ≠ "java/lang/invoke/VarHandle" ∧ (parseMethodDescriptor yX5_digest.desc).map (fun d => d.parameters.length) = some 0 := by decide +kernel
set_option maxHeartbeats 4000000 in
set_option maxRecDepth 100000 in
theorem qX5_digest {l : Launch} {g : zG} (hC : isC g)  (N : Nat) (m : zMem)  (o : Int64) (hf : fX5_digest N m = some o) : zML l g yX5_digest wsX5_digest { frames := 4, cells := 0, slots := 0, locals := 92 } [.ref (zad g 0)] m (o, m) := by
  refine z_met_l (cc := cX5_digest) (maxL := 5) (lo0 := [some (.ref (zad g 0)), none, none, none, none]) (by decide +kernel) rfl rfl (Nat.le_of_ble_eq_true rfl) (fun x hx C hr => ?_)
  unfold fX5_digest at hf
  refine z_ldc2 (v := 18554) C (by decide +kernel) dX5_digest_0 rfl ?_
  refine z_lstore_n (i := 1) (lo' := [some (.ref (zad g 0)), some (.long 18554), none, none, none]) C dX5_digest_3 rfl (Nat.le_of_ble_eq_true rfl) rfl rfl rfl ?_
  refine z_ldc2 (v := 31) C (by decide +kernel) dX5_digest_4 rfl ?_
  refine z_lload_n (i := 1) C dX5_digest_7 rfl rfl rfl ?_
  refine z_lmul C dX5_digest_8 rfl ?_
  refine z_aload_n (i := 0) C dX5_digest_9 rfl rfl rfl ?_
  refine z_gi C (FX5_digest_39 hC) (tn_0 hC) (tc_0 hC) rfl dX5_digest_10 rfl hf (fun v1 hf => ?_)
  refine z_i2l C dX5_digest_13 rfl ?_
  refine z_ladd C dX5_digest_14 rfl ?_
  refine z_topl _ hf (fun v2 hf => ?_)
  refine z_lstore_n (i := 1) (lo' := [some (.ref (zad g 0)), some (.long v2), none, none, none]) C dX5_digest_15 rfl (Nat.le_of_ble_eq_true rfl) rfl rfl rfl ?_
  refine z_ldc2 (v := 31) C (by decide +kernel) dX5_digest_16 rfl ?_
  refine z_lload_n (i := 1) C dX5_digest_19 rfl rfl rfl ?_
  refine z_lmul C dX5_digest_20 rfl ?_
  refine z_aload_n (i := 0) C dX5_digest_21 rfl rfl rfl ?_
  refine z_gr C (FX5_digest_19 hC) (tn_0 hC) (tc_0 hC) rfl dX5_digest_22 rfl ?_
  refine z_gi C (FX5_digest_182 hC) (tn_6 hC) (tc_6 hC) rfl dX5_digest_25 rfl hf (fun v3 hf => ?_)
  refine z_i2l C dX5_digest_28 rfl ?_
  refine z_ladd C dX5_digest_29 rfl ?_
  refine z_topl _ hf (fun v4 hf => ?_)
  refine z_lstore_n (i := 1) (lo' := [some (.ref (zad g 0)), some (.long v4), none, none, none]) C dX5_digest_30 rfl (Nat.le_of_ble_eq_true rfl) rfl rfl rfl ?_
  refine z_iconst C dX5_digest_31 zi_0 rfl ?_
  refine z_istore_n (i := 3) (lo' := [some (.ref (zad g 0)), some (.long v4), none, some (.int 0), none]) C dX5_digest_32 rfl (Nat.le_of_ble_eq_true rfl) rfl rfl rfl ?_
  refine kjn_V (fun K58 => ∀ (w5 : Int64), K58 w5 = some o → zV x g 5 0 0 58 [some (.ref (zad g 0)), some (.long w5), none, none, none] [] m) hf (fun w5 hf => ?_) (fun K58 hK58 hf => ?_)
  · skip
    refine z_iconst C dX5_digest_58 zi_0 rfl ?_
    refine z_istore_n (i := 3) (lo' := [some (.ref (zad g 0)), some (.long w5), none, some (.int 0), none]) C dX5_digest_59 rfl (Nat.le_of_ble_eq_true rfl) rfl rfl rfl ?_
    refine kjn_V (fun K89 => ∀ (w6 : Int64), K89 w6 = some o → zV x g 5 0 0 89 [some (.ref (zad g 0)), some (.long w6), none, none, none] [] m) hf (fun w6 hf => ?_) (fun K89 hK89 hf => ?_)
    · skip
      refine z_iconst C dX5_digest_89 zi_0 rfl ?_
      refine z_istore_n (i := 3) (lo' := [some (.ref (zad g 0)), some (.long w6), none, some (.int 0), none]) C dX5_digest_90 rfl (Nat.le_of_ble_eq_true rfl) rfl rfl rfl ?_
      refine kjn_V (fun K175 => ∀ (w7 : Int64), K175 w7 = some o → zV x g 5 0 0 175 [none, some (.long w7), none, none, none] [] m) hf (fun w7 hf => ?_) (fun K175 hK175 hf => ?_)
      · skip
        refine z_lload_n (i := 1) C dX5_digest_175 rfl rfl rfl ?_
        exact hr _ _ _ _ (congrArg (fun z => (z, m)) (Option.some.inj hf)) dX5_digest_176
      · skip
        refine klp_V (fun z => zV x g 5 0 0 91 [some (.ref (zad g 0)), some (.long z.1), none, some (.int z.2), none] [] m) hf (fun rec z ih hf => ?_)
        obtain ⟨x8, x9⟩ := z
        unfold sX5_digest_91 at hf
        try dsimp only at hf
        try dsimp only
        refine z_iload_n (i := 3) C dX5_digest_91 rfl rfl rfl ?_
        refine z_sipush C dX5_digest_92 zs_255 rfl ?_
        refine z_ic_gt (tgt := 175) C dX5_digest_95 (by decide) rfl hf (fun hf => ?_) (fun hf => ?_)
        · skip
          refine z_drop (lo' := [none, some (.long x8), none, some (.int x9), none]) 0 rfl ?_
          refine z_drop (lo' := [none, some (.long x8), none, none, none]) 3 rfl ?_
          exact hK175 _ hf
        · skip
          refine z_aload_n (i := 0) C dX5_digest_98 rfl rfl rfl ?_
          refine z_gv C (FX5_digest_26 hC) (tn_0 hC) (tc_0 hC) rfl dX5_digest_99 rfl hf (fun s10 hf => ?_)
          refine kis_V hf (fun hs10 hf => ?_)
          refine z_iload_n (i := 3) C dX5_digest_102 rfl rfl rfl ?_
          refine z_cviR (As := [.int x9]) (st := []) (m := m) C (cl_1 hC) (sn_0 hC hs10) (sc_0 hC hs10) gX5_digest_X2_isMember hdX2_isMember rfl (fun z h => qX2_isMember hC s10 x9 m hs10 z h) rfl (Nat.le_of_ble_eq_true rfl) ⟨Nat.le_of_ble_eq_true rfl, Nat.le_of_ble_eq_true rfl⟩ ⟨Nat.le_refl _, Nat.le_refl _⟩ dX5_digest_103 rfl rfl hf (fun v11 hf => ?_)
          refine z_if_eq (tgt := 169) C dX5_digest_106 (by decide) rfl hf (fun hf => ?_) (fun hf => ?_)
          · skip
            refine z_iinc (v := x9 + 1) (lo' := [some (.ref (zad g 0)), some (.long x8), none, some (.int (x9 + 1)), none]) C dX5_digest_169 rfl (zinc zi_1) (Nat.le_of_ble_eq_true rfl) rfl rfl rfl ?_
            refine z_goto (pc' := 91) C dX5_digest_172 (by decide) ?_
            exact ih (x8, x9 + 1) hf
          · skip
            refine z_ldc2 (v := 31) C (by decide +kernel) dX5_digest_109 rfl ?_
            refine z_lload_n (i := 1) C dX5_digest_112 rfl rfl rfl ?_
            refine z_lmul C dX5_digest_113 rfl ?_
            refine z_iload_n (i := 3) C dX5_digest_114 rfl rfl rfl ?_
            refine z_i2l C dX5_digest_115 rfl ?_
            refine z_ladd C dX5_digest_116 rfl ?_
            refine z_topl _ hf (fun v12 hf => ?_)
            refine z_lstore_n (i := 1) (lo' := [some (.ref (zad g 0)), some (.long v12), none, some (.int x9), none]) C dX5_digest_117 rfl (Nat.le_of_ble_eq_true rfl) rfl rfl rfl ?_
            refine z_iconst C dX5_digest_118 zi_1 rfl ?_
            refine z_istore (lo' := [some (.ref (zad g 0)), some (.long v12), none, some (.int x9), some (.int 1)]) C dX5_digest_119 (Nat.le_of_ble_eq_true rfl) rfl rfl rfl ?_
            refine kjn_V (fun K148 => ∀ (w13 : Int64), K148 w13 = some o → zV x g 5 0 0 148 [some (.ref (zad g 0)), some (.long w13), none, some (.int x9), none] [] m) hf (fun w13 hf => ?_) (fun K148 hK148 hf => ?_)
            · skip
              refine z_aload_n (i := 0) C dX5_digest_148 rfl rfl rfl ?_
              refine z_gv C (FX5_digest_26 hC) (tn_0 hC) (tc_0 hC) rfl dX5_digest_149 rfl hf (fun s14 hf => ?_)
              refine kis_V hf (fun hs14 hf => ?_)
              refine z_gr C (FX5_digest_157 hC) (sn_0 hC hs14) (sc_0 hC hs14) rfl dX5_digest_152 rfl ?_
              refine z_aload_n (i := 0) C dX5_digest_155 rfl rfl rfl ?_
              refine z_gv C (FX5_digest_26 hC) (tn_0 hC) (tc_0 hC) rfl dX5_digest_156 rfl hf (fun s15 hf => ?_)
              refine kis_V hf (fun hs15 hf => ?_)
              refine z_gr C (FX5_digest_148 hC) (sn_0 hC hs15) (sc_0 hC hs15) rfl dX5_digest_159 rfl ?_
              refine z_iload_n (i := 3) C dX5_digest_162 rfl rfl rfl ?_
              refine z_iaload C (sn_2 hC hs15) (sc_2 hC hs15) dX5_digest_163 rfl hf (fun v16 hf => ?_)
              refine z_lload_n (i := 1) C dX5_digest_164 rfl rfl rfl ?_
              refine z_cvlR (As := [.int v16, .long w13]) (st := []) (m := m) C (cl_2 hC) (sn_6 hC hs14) (sc_6 hC hs14) gX5_digest_X3_hashOf hdX3_hashOf rfl (fun z h => qX3_hashOf hC N s14 v16 w13 m hs14 z h) rfl (Nat.le_of_ble_eq_true rfl) ⟨Nat.le_of_ble_eq_true rfl, Nat.le_of_ble_eq_true rfl⟩ ⟨Nat.le_refl _, Nat.le_refl _⟩ dX5_digest_165 rfl rfl hf (fun v17 hf => ?_)
              refine z_lstore_n (i := 1) (lo' := [some (.ref (zad g 0)), some (.long v17), none, some (.int x9), none]) C dX5_digest_168 rfl (Nat.le_of_ble_eq_true rfl) rfl rfl rfl ?_
              refine z_iinc (v := x9 + 1) (lo' := [some (.ref (zad g 0)), some (.long v17), none, some (.int (x9 + 1)), none]) C dX5_digest_169 rfl (zinc zi_1) (Nat.le_of_ble_eq_true rfl) rfl rfl rfl ?_
              refine z_goto (pc' := 91) C dX5_digest_172 (by decide) ?_
              exact ih (v17, x9 + 1) hf
            · skip
              refine klp_V (fun z => zV x g 5 0 0 121 [some (.ref (zad g 0)), some (.long z.1), none, some (.int x9), some (.int z.2)] [] m) hf (fun rec z ih hf => ?_)
              obtain ⟨x18, x19⟩ := z
              unfold sX5_digest_121 at hf
              try dsimp only at hf
              try dsimp only
              refine z_iload C dX5_digest_121 rfl rfl ?_
              refine z_iconst C dX5_digest_123 zi_4 rfl ?_
              refine z_ic_gt (tgt := 148) C dX5_digest_124 (by decide) rfl hf (fun hf => ?_) (fun hf => ?_)
              · skip
                refine z_drop (lo' := [some (.ref (zad g 0)), some (.long x18), none, some (.int x9), none]) 4 rfl ?_
                exact hK148 _ hf
              · skip
                refine z_ldc2 (v := 31) C (by decide +kernel) dX5_digest_127 rfl ?_
                refine z_lload_n (i := 1) C dX5_digest_130 rfl rfl rfl ?_
                refine z_lmul C dX5_digest_131 rfl ?_
                refine z_aload_n (i := 0) C dX5_digest_132 rfl rfl rfl ?_
                refine z_iload_n (i := 3) C dX5_digest_133 rfl rfl rfl ?_
                refine z_iload C dX5_digest_134 rfl rfl ?_
                refine z_cviR (As := [.int x9, .int x19]) (st := [.long (31 * x18)]) (m := m) C (cl_4 hC) (tn_0 hC) (tc_0 hC) gX5_digest_X5_memberValue hdX5_memberValue rfl (fun z h => qX5_memberValue hC N x9 x19 m z h) rfl (Nat.le_of_ble_eq_true rfl) ⟨Nat.le_of_ble_eq_true rfl, Nat.le_of_ble_eq_true rfl⟩ ⟨Nat.le_refl _, Nat.le_refl _⟩ dX5_digest_136 rfl rfl hf (fun v20 hf => ?_)
                refine z_i2l C dX5_digest_139 rfl ?_
                refine z_ladd C dX5_digest_140 rfl ?_
                refine z_topl _ hf (fun v21 hf => ?_)
                refine z_lstore_n (i := 1) (lo' := [some (.ref (zad g 0)), some (.long v21), none, some (.int x9), some (.int x19)]) C dX5_digest_141 rfl (Nat.le_of_ble_eq_true rfl) rfl rfl rfl ?_
                refine z_iinc (v := x19 + 1) (lo' := [some (.ref (zad g 0)), some (.long v21), none, some (.int x9), some (.int (x19 + 1))]) C dX5_digest_142 rfl (zinc zi_1) (Nat.le_of_ble_eq_true rfl) rfl rfl rfl ?_
                refine z_goto (pc' := 121) C dX5_digest_145 (by decide) ?_
                exact ih (v21, x19 + 1) hf
    · skip
      refine klp_V (fun z => zV x g 5 0 0 60 [some (.ref (zad g 0)), some (.long z.1), none, some (.int z.2), none] [] m) hf (fun rec z ih hf => ?_)
      obtain ⟨x22, x23⟩ := z
      unfold sX5_digest_60 at hf
      try dsimp only at hf
      try dsimp only
      refine z_iload_n (i := 3) C dX5_digest_60 rfl rfl rfl ?_
      refine z_bipush C dX5_digest_61 zb_9 rfl ?_
      refine z_ic_ge (tgt := 89) C dX5_digest_63 (by decide) rfl hf (fun hf => ?_) (fun hf => ?_)
      · skip
        refine z_drop (lo' := [some (.ref (zad g 0)), some (.long x22), none, none, none]) 3 rfl ?_
        exact hK89 _ hf
      · skip
        refine z_ldc2 (v := 31) C (by decide +kernel) dX5_digest_66 rfl ?_
        refine z_lload_n (i := 1) C dX5_digest_69 rfl rfl rfl ?_
        refine z_lmul C dX5_digest_70 rfl ?_
        refine z_aload_n (i := 0) C dX5_digest_71 rfl rfl rfl ?_
        refine z_gv C (FX5_digest_26 hC) (tn_0 hC) (tc_0 hC) rfl dX5_digest_72 rfl hf (fun s24 hf => ?_)
        refine kis_V hf (fun hs24 hf => ?_)
        refine z_gr C (FX5_digest_179 hC) (sn_0 hC hs24) (sc_0 hC hs24) rfl dX5_digest_75 rfl ?_
        refine z_iload_n (i := 3) C dX5_digest_78 rfl rfl rfl ?_
        refine z_iaload C (sn_1 hC hs24) (sc_1 hC hs24) dX5_digest_79 rfl hf (fun v25 hf => ?_)
        refine z_i2l C dX5_digest_80 rfl ?_
        refine z_ladd C dX5_digest_81 rfl ?_
        refine z_topl _ hf (fun v26 hf => ?_)
        refine z_lstore_n (i := 1) (lo' := [some (.ref (zad g 0)), some (.long v26), none, some (.int x23), none]) C dX5_digest_82 rfl (Nat.le_of_ble_eq_true rfl) rfl rfl rfl ?_
        refine z_iinc (v := x23 + 1) (lo' := [some (.ref (zad g 0)), some (.long v26), none, some (.int (x23 + 1)), none]) C dX5_digest_83 rfl (zinc zi_1) (Nat.le_of_ble_eq_true rfl) rfl rfl rfl ?_
        refine z_goto (pc' := 60) C dX5_digest_86 (by decide) ?_
        exact ih (v26, x23 + 1) hf
  · skip
    refine klp_V (fun z => zV x g 5 0 0 33 [some (.ref (zad g 0)), some (.long z.1), none, some (.int z.2), none] [] m) hf (fun rec z ih hf => ?_)
    obtain ⟨x27, x28⟩ := z
    unfold sX5_digest_33 at hf
    try dsimp only at hf
    try dsimp only
    refine z_iload_n (i := 3) C dX5_digest_33 rfl rfl rfl ?_
    refine z_bipush C dX5_digest_34 zb_8 rfl ?_
    refine z_ic_gt (tgt := 58) C dX5_digest_36 (by decide) rfl hf (fun hf => ?_) (fun hf => ?_)
    · skip
      refine z_drop (lo' := [some (.ref (zad g 0)), some (.long x27), none, none, none]) 3 rfl ?_
      exact hK58 _ hf
    · skip
      refine z_ldc2 (v := 31) C (by decide +kernel) dX5_digest_39 rfl ?_
      refine z_lload_n (i := 1) C dX5_digest_42 rfl rfl rfl ?_
      refine z_lmul C dX5_digest_43 rfl ?_
      refine z_aload_n (i := 0) C dX5_digest_44 rfl rfl rfl ?_
      refine z_iload_n (i := 3) C dX5_digest_45 rfl rfl rfl ?_
      refine z_cviR (As := [.int x28]) (st := [.long (31 * x27)]) (m := m) C (cl_4 hC) (tn_0 hC) (tc_0 hC) gX5_digest_X5_overlayValue hdX5_overlayValue rfl (fun z h => qX5_overlayValue hC N x28 m z h) rfl (Nat.le_of_ble_eq_true rfl) ⟨Nat.le_of_ble_eq_true rfl, Nat.le_of_ble_eq_true rfl⟩ ⟨Nat.le_refl _, Nat.le_refl _⟩ dX5_digest_46 rfl rfl hf (fun v29 hf => ?_)
      refine z_i2l C dX5_digest_49 rfl ?_
      refine z_ladd C dX5_digest_50 rfl ?_
      refine z_topl _ hf (fun v30 hf => ?_)
      refine z_lstore_n (i := 1) (lo' := [some (.ref (zad g 0)), some (.long v30), none, some (.int x28), none]) C dX5_digest_51 rfl (Nat.le_of_ble_eq_true rfl) rfl rfl rfl ?_
      refine z_iinc (v := x28 + 1) (lo' := [some (.ref (zad g 0)), some (.long v30), none, some (.int (x28 + 1)), none]) C dX5_digest_52 rfl (zinc zi_1) (Nat.le_of_ble_eq_true rfl) rfl rfl rfl ?_
      refine z_goto (pc' := 33) C dX5_digest_55 (by decide) ?_
      exact ih (v30, x28 + 1) hf
