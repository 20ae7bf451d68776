def fX5_setQuotas (a1 : Int32) (a2 : Int32) (m : zMem) : Option (Int32 × zMem) :=
  kc1 (fX5_refuseOutside a1 1 4) fun u1 =>
  kc1 (fX5_refuseOutside a2 1 32) fun u2 =>
  kc1 (fX5_save m) fun m3 =>
  kgr m3 0 fun s4 => kis s4 <|
  kgi m3 s4 4 fun v5 =>
  kgr m3 0 fun s6 => kis s6 <|
  kgi m3 s6 3 fun v7 =>
  klt ((10 * v5) + v7 : Int32) fun v8 =>
  kgr m3 0 fun s9 => kis s9 <|
  kpi m3 s9 3 a1 fun m10 =>
  kgr m10 0 fun s11 => kis s11 <|
  kpi m10 s11 4 a2 fun m12 =>
  some (v8, m12)
theorem FX5_setQuotas_26 {g : zG} (hC : isC g) : zFl wsX5_setQuotas RX5 (zcl g) 26 4 2 := ⟨RX5, TX5, 7, hC.2.2 ▸ rfl, by decide +kernel, by decide, by decide +kernel⟩
theorem FX5_setQuotas_56 {g : zG} (hC : isC g) : zFl wsX5_setQuotas RX5 (zcl g) 56 1 4 := ⟨RX2, TX2, 14, hC.2.2 ▸ rfl, by decide +kernel, by decide, by decide +kernel⟩
theorem PX5_setQuotas_56 {g : zG} (hC : isC g) : zFp wsX5_setQuotas RX5 (zcl g) 56 1 4 .int := ⟨RX2, TX2, 14, tyX2, hC.2.2 ▸ rfl, by decide +kernel, by decide, by decide +kernel, tyX2_ok, nmX2, rfl, by decide +kernel⟩
theorem FX5_setQuotas_59 {g : zG} (hC : isC g) : zFl wsX5_setQuotas RX5 (zcl g) 59 1 3 := ⟨RX2, TX2, 14, hC.2.2 ▸ rfl, by decide +kernel, by decide, by decide +kernel⟩
theorem PX5_setQuotas_59 {g : zG} (hC : isC g) : zFp wsX5_setQuotas RX5 (zcl g) 59 1 3 .int := ⟨RX2, TX2, 14, tyX2, hC.2.2 ▸ rfl, by decide +kernel, by decide, by decide +kernel, tyX2_ok, nmX2, rfl, by decide +kernel⟩
theorem hdX5_setQuotas : yX5_setQuotas.cls = RX5 ∧ yX5_setQuotas.cls ≠ "java/lang/invoke/MethodHandle" ∧ yX5_setQuotas.cls ≠ "java/lang/invoke/VarHandle" ∧ (parseMethodDescriptor yX5_setQuotas.desc).map (fun d => d.parameters.length) = some 2 := by decide +kernel
set_option maxHeartbeats 4000000 in
set_option maxRecDepth 100000 in
theorem qX5_setQuotas {l : Launch} {g : zG} (hC : isC g)  (a1 : Int32) (a2 : Int32) (m : zMem)  (o : Int32 × zMem) (hf : fX5_setQuotas a1 a2 m = some o) : zMI l g yX5_setQuotas wsX5_setQuotas { frames := 4, cells := 0, slots := 0, locals := 81 } [.ref (zad g 0), .int a1, .int a2] m o := by
  refine z_met_i (cc := cX5_setQuotas) (maxL := 4) (lo0 := [some (.ref (zad g 0)), some (.int a1), some (.int a2), none]) (by decide +kernel) rfl rfl (Nat.le_of_ble_eq_true rfl) (fun x hx C hr => ?_)
  unfold fX5_setQuotas at hf
  refine z_iload_n (i := 1) C dX5_setQuotas_0 rfl rfl rfl ?_
  refine z_iconst C dX5_setQuotas_1 zi_1 rfl ?_
  refine z_iconst C dX5_setQuotas_2 zi_4 rfl ?_
  refine z_csvR (As := [.int a1, .int 1, .int 4]) (st := []) (m := m) C gX5_setQuotas_X5_refuseOutside hdX5_refuseOutside rfl (fun z h => qX5_refuseOutside a1 1 4 m z h) rfl (Nat.le_of_ble_eq_true rfl) ⟨Nat.le_of_ble_eq_true rfl, Nat.le_of_ble_eq_true rfl⟩ ⟨Nat.le_refl _, Nat.le_refl _⟩ dX5_setQuotas_3 rfl rfl hf (fun u1 hf => ?_)
  refine z_iload_n (i := 2) C dX5_setQuotas_6 rfl rfl rfl ?_
  refine z_iconst C dX5_setQuotas_7 zi_1 rfl ?_
  refine z_bipush C dX5_setQuotas_8 zb_32 rfl ?_
  refine z_csvR (As := [.int a2, .int 1, .int 32]) (st := []) (m := m) C gX5_setQuotas_X5_refuseOutside hdX5_refuseOutside rfl (fun z h => qX5_refuseOutside a2 1 32 m z h) rfl (Nat.le_of_ble_eq_true rfl) ⟨Nat.le_of_ble_eq_true rfl, Nat.le_of_ble_eq_true rfl⟩ ⟨Nat.le_refl _, Nat.le_refl _⟩ dX5_setQuotas_10 rfl rfl hf (fun u2 hf => ?_)
  refine z_aload_n (i := 0) C dX5_setQuotas_13 rfl rfl rfl ?_
  refine z_cvvW (As := []) (st := []) (m := m) C (cl_4 hC) (tn_0 hC) (tc_0 hC) gX5_setQuotas_X5_save hdX5_save rfl (fun z h => qX5_save hC m z h) rfl (Nat.le_of_ble_eq_true rfl) ⟨Nat.le_of_ble_eq_true rfl, Nat.le_of_ble_eq_true rfl⟩ ⟨Nat.le_refl _, Nat.le_refl _⟩ dX5_setQuotas_14 rfl rfl hf (fun m3 hf => ?_)
  refine z_bipush C dX5_setQuotas_17 zb_10 rfl ?_
  refine z_aload_n (i := 0) C dX5_setQuotas_19 rfl rfl rfl ?_
  refine z_gv C (FX5_setQuotas_26 hC) (tn_0 hC) (tc_0 hC) rfl dX5_setQuotas_20 rfl hf (fun s4 hf => ?_)
  refine kis_V hf (fun hs4 hf => ?_)
  refine z_gi C (FX5_setQuotas_56 hC) (sn_0 hC hs4) (sc_0 hC hs4) rfl dX5_setQuotas_23 rfl hf (fun v5 hf => ?_)
  refine z_imul C dX5_setQuotas_26 rfl ?_
  refine z_aload_n (i := 0) C dX5_setQuotas_27 rfl rfl rfl ?_
  refine z_gv C (FX5_setQuotas_26 hC) (tn_0 hC) (tc_0 hC) rfl dX5_setQuotas_28 rfl hf (fun s6 hf => ?_)
  refine kis_V hf (fun hs6 hf => ?_)
  refine z_gi C (FX5_setQuotas_59 hC) (sn_0 hC hs6) (sc_0 hC hs6) rfl dX5_setQuotas_31 rfl hf (fun v7 hf => ?_)
  refine z_iadd C dX5_setQuotas_34 rfl ?_
  refine z_top _ hf (fun v8 hf => ?_)
  refine z_istore_n (i := 3) (lo' := [some (.ref (zad g 0)), some (.int a1), some (.int a2), some (.int v8)]) C dX5_setQuotas_35 rfl (Nat.le_of_ble_eq_true rfl) rfl rfl rfl ?_
  refine z_aload_n (i := 0) C dX5_setQuotas_36 rfl rfl rfl ?_
  refine z_gv C (FX5_setQuotas_26 hC) (tn_0 hC) (tc_0 hC) rfl dX5_setQuotas_37 rfl hf (fun s9 hf => ?_)
  refine kis_V hf (fun hs9 hf => ?_)
  refine z_iload_n (i := 1) C dX5_setQuotas_40 rfl rfl rfl ?_
  refine z_pi C (PX5_setQuotas_59 hC) (sn_0 hC hs9) (sc_0 hC hs9) rfl dX5_setQuotas_41 rfl hf (fun m10 hf => ?_)
  refine z_aload_n (i := 0) C dX5_setQuotas_44 rfl rfl rfl ?_
  refine z_gv C (FX5_setQuotas_26 hC) (tn_0 hC) (tc_0 hC) rfl dX5_setQuotas_45 rfl hf (fun s11 hf => ?_)
  refine kis_V hf (fun hs11 hf => ?_)
  refine z_iload_n (i := 2) C dX5_setQuotas_48 rfl rfl rfl ?_
  refine z_pi C (PX5_setQuotas_56 hC) (sn_0 hC hs11) (sc_0 hC hs11) rfl dX5_setQuotas_49 rfl hf (fun m12 hf => ?_)
  refine z_iload_n (i := 3) C dX5_setQuotas_52 rfl rfl rfl ?_
  exact hr _ _ _ _ (Option.some.inj hf) dX5_setQuotas_53

def fX5_tickFault (a1 : Int32) : Option (Int32) :=
  kc1 (fX5_isOutside a1 1 500) fun v1 =>
  if v1 = 0 then
  some 0
  else
  some 1
theorem hdX5_tickFault : yX5_tickFault.cls ≠ "java/lang/invoke/MethodHandle" ∧ yX5_tickFault.cls ≠ "java/lang/invoke/VarHandle" ∧ (parseMethodDescriptor yX5_tickFault.desc).map (fun d => d.parameters.length) = some 1 := by decide +kernel
set_option maxHeartbeats 4000000 in
set_option maxRecDepth 100000 in
theorem qX5_tickFault {l : Launch} {g : zG}  (a1 : Int32) (m : zMem)  (o : Int32) (hf : fX5_tickFault a1 = some o) : zMI l g yX5_tickFault wsX5_tickFault { frames := 1, cells := 0, slots := 0, locals := 22 } [.int a1] m (o, m) := by
  refine z_met_i (cc := cX5_tickFault) (maxL := 1) (lo0 := [some (.int a1)]) (by decide +kernel) rfl rfl (Nat.le_of_ble_eq_true rfl) (fun x hx C hr => ?_)
  unfold fX5_tickFault at hf
  refine z_iload_n (i := 0) C dX5_tickFault_0 rfl rfl rfl ?_
  refine z_iconst C dX5_tickFault_1 zi_1 rfl ?_
  refine z_sipush C dX5_tickFault_2 zs_500 rfl ?_
  refine z_csiR (As := [.int a1, .int 1, .int 500]) (st := []) (m := m) C gX5_tickFault_X5_isOutside hdX5_isOutside rfl (fun z h => qX5_isOutside a1 1 500 m z h) rfl (Nat.le_of_ble_eq_true rfl) ⟨Nat.le_of_ble_eq_true rfl, Nat.le_of_ble_eq_true rfl⟩ ⟨Nat.le_refl _, Nat.le_refl _⟩ dX5_tickFault_5 rfl rfl hf (fun v1 hf => ?_)
  refine z_if_eq (tgt := 15) C dX5_tickFault_8 (by decide) rfl hf (fun hf => ?_) (fun hf => ?_)
  · skip
    refine z_iconst C dX5_tickFault_15 zi_0 rfl ?_
    exact hr _ _ _ _ (congrArg (fun z => (z, m)) (Option.some.inj hf)) dX5_tickFault_16
  · skip
    refine z_iconst C dX5_tickFault_11 zi_1 rfl ?_
    refine z_goto (pc' := 16) C dX5_tickFault_12 (by decide) ?_
    exact hr _ _ _ _ (congrArg (fun z => (z, m)) (Option.some.inj hf)) dX5_tickFault_16

def fX5_raise (a1 : Int32) : Option (Unit) :=
  if a1 = 1 then
  none
  else
  if a1 = 2 then
  none
  else
  if a1 = 3 then
  none
  else
  some ()
theorem hdX5_raise : yX5_raise.cls ≠ "java/lang/invoke/MethodHandle" ∧ yX5_raise.cls ≠ "java/lang/invoke/VarHandle" ∧ (parseMethodDescriptor yX5_raise.desc).map (fun d => d.parameters.length) = some 1 := by decide +kernel
set_option maxHeartbeats 4000000 in
set_option maxRecDepth 100000 in
theorem qX5_raise {l : Launch} {g : zG}  (a1 : Int32) (m : zMem)  (o : Unit) (hf : fX5_raise a1 = some o) : zMV l g yX5_raise wsX5_raise { frames := 0, cells := 0, slots := 0, locals := 0 } [.int a1] m m := by
  refine z_met_v (cc := cX5_raise) (maxL := 1) (lo0 := [some (.int a1)]) (by decide +kernel) rfl rfl (Nat.le_of_ble_eq_true rfl) (fun x hx C hr => ?_)
  unfold fX5_raise at hf
  refine z_iload_n (i := 0) C dX5_raise_0 rfl rfl rfl ?_
  refine z_iconst C dX5_raise_1 zi_1 rfl ?_
  refine z_ic_ne (tgt := 16) C dX5_raise_2 (by decide) rfl hf (fun hf => ?_) (fun hf => ?_)
  · skip
    refine z_iload_n (i := 0) C dX5_raise_16 rfl rfl rfl ?_
    refine z_iconst C dX5_raise_17 zi_2 rfl ?_
    refine z_ic_ne (tgt := 32) C dX5_raise_18 (by decide) rfl hf (fun hf => ?_) (fun hf => ?_)
    · skip
      refine z_iload_n (i := 0) C dX5_raise_32 rfl rfl rfl ?_
      refine z_iconst C dX5_raise_33 zi_3 rfl ?_
      refine z_ic_ne (tgt := 48) C dX5_raise_34 (by decide) rfl hf (fun hf => ?_) (fun hf => ?_)
      · skip
        exact hr _ _ _ rfl dX5_raise_48
      · skip
        cases hf
    · skip
      cases hf
  · skip
    cases hf

def fX5_tick (N : Nat) (a1 : Int32) (m : zMem) : Option (Int32 × zMem) :=
  kc1 (fX5_tickFault a1) fun v1 =>
  kc1 (fX5_raise v1) fun u2 =>
  kc1 (fX5_save m) fun m3 =>
  kgr m3 0 fun s4 => kis s4 <|
  kc2 (fX2_passTime N s4 a1 m3) fun v5 m6 =>
  some (v5, m6)
theorem FX5_tick_26 {g : zG} (hC : isC g) : zFl wsX5_tick RX5 (zcl g) 26 4 2 := ⟨RX5, TX5, 7, hC.2.2 ▸ rfl, by decide +kernel, by decide, by decide +kernel⟩
theorem hdX5_tick : yX5_tick.cls = RX5 ∧ yX5_tick.cls ≠ "java/lang/invoke/MethodHandle" ∧ yX5_tick.cls ≠ "java/lang/invoke/VarHandle" ∧ (parseMethodDescriptor yX5_tick.desc).map (fun d => d.parameters.length) = some 1 := by decide +kernel
set_option maxHeartbeats 4000000 in
set_option maxRecDepth 100000 in
theorem qX5_tick {l : Launch} {g : zG} (hC : isC g)  (N : Nat) (a1 : Int32) (m : zMem)  (o : Int32 × zMem) (hf : fX5_tick N a1 m = some o) : zMI l g yX5_tick wsX5_tick { frames := 4, cells := 0, slots := 0, locals := 87 } [.ref (zad g 0), .int a1] m o := by
  refine z_met_i (cc := cX5_tick) (maxL := 2) (lo0 := [some (.ref (zad g 0)), some (.int a1)]) (by decide +kernel) rfl rfl (Nat.le_of_ble_eq_true rfl) (fun x hx C hr => ?_)
  unfold fX5_tick at hf
  refine z_iload_n (i := 1) C dX5_tick_0 rfl rfl rfl ?_
  refine z_csiR (As := [.int a1]) (st := []) (m := m) C gX5_tick_X5_tickFault hdX5_tickFault rfl (fun z h => qX5_tickFault a1 m z h) rfl (Nat.le_of_ble_eq_true rfl) ⟨Nat.le_of_ble_eq_true rfl, Nat.le_of_ble_eq_true rfl⟩ ⟨Nat.le_refl _, Nat.le_refl _⟩ dX5_tick_1 rfl rfl hf (fun v1 hf => ?_)
  refine z_csvR (As := [.int v1]) (st := []) (m := m) C gX5_tick_X5_raise hdX5_raise rfl (fun z h => qX5_raise v1 m z h) rfl (Nat.le_of_ble_eq_true rfl) ⟨Nat.le_of_ble_eq_true rfl, Nat.le_of_ble_eq_true rfl⟩ ⟨Nat.le_refl _, Nat.le_refl _⟩ dX5_tick_4 rfl rfl hf (fun u2 hf => ?_)
  refine z_aload_n (i := 0) C dX5_tick_7 rfl rfl rfl ?_
  refine z_cvvW (As := []) (st := []) (m := m) C (cl_4 hC) (tn_0 hC) (tc_0 hC) gX5_tick_X5_save hdX5_save rfl (fun z h => qX5_save hC m z h) rfl (Nat.le_of_ble_eq_true rfl) ⟨Nat.le_of_ble_eq_true rfl, Nat.le_of_ble_eq_true rfl⟩ ⟨Nat.le_refl _, Nat.le_refl _⟩ dX5_tick_8 rfl rfl hf (fun m3 hf => ?_)
  refine z_aload_n (i := 0) C dX5_tick_11 rfl rfl rfl ?_
  refine z_gv C (FX5_tick_26 hC) (tn_0 hC) (tc_0 hC) rfl dX5_tick_12 rfl hf (fun s4 hf => ?_)
  refine kis_V hf (fun hs4 hf => ?_)
  refine z_iload_n (i := 1) C dX5_tick_15 rfl rfl rfl ?_
  refine z_cviW (As := [.int a1]) (st := []) (m := m3) C (cl_1 hC) (sn_0 hC hs4) (sc_0 hC hs4) gX5_tick_X2_passTime hdX2_passTime rfl (fun z h => qX2_passTime hC N s4 a1 m3 hs4 z h) rfl (Nat.le_of_ble_eq_true rfl) ⟨Nat.le_of_ble_eq_true rfl, Nat.le_of_ble_eq_true rfl⟩ ⟨Nat.le_refl _, Nat.le_refl _⟩ dX5_tick_16 rfl rfl hf (fun v5 m6 hf => ?_)
  exact hr _ _ _ _ (Option.some.inj hf) dX5_tick_19

def fX5_solve (N : Nat) (a1 : Int32) (m : zMem) : Option (Int32) :=
  kc1 (fX5_refuseOutside a1 0 255) fun u1 =>
  kgr m 0 fun s2 => kis s2 <|
  kc1 (fX2_smallestNonce N s2 a1 m) fun v3 =>
  some v3
theorem FX5_solve_26 {g : zG} (hC : isC g) : zFl wsX5_solve RX5 (zcl g) 26 4 2 := ⟨RX5, TX5, 7, hC.2.2 ▸ rfl, by decide +kernel, by decide, by decide +kernel⟩
theorem hdX5_solve : yX5_solve.cls = RX5 ∧ yX5_solve.cls ≠ "java/lang/invoke/MethodHandle" ∧ yX5_solve.cls ≠ "java/lang/invoke/VarHandle" ∧ (parseMethodDescriptor yX5_solve.desc).map (fun d => d.parameters.length) = some 1 := by decide +kernel
set_option maxHeartbeats 4000000 in
set_option maxRecDepth 100000 in
theorem qX5_solve {l : Launch} {g : zG} (hC : isC g)  (N : Nat) (a1 : Int32) (m : zMem)  (o : Int32) (hf : fX5_solve N a1 m = some o) : zMI l g yX5_solve wsX5_solve { frames := 3, cells := 0, slots := 0, locals := 66 } [.ref (zad g 0), .int a1] m (o, m) := by
  refine z_met_i (cc := cX5_solve) (maxL := 2) (lo0 := [some (.ref (zad g 0)), some (.int a1)]) (by decide +kernel) rfl rfl (Nat.le_of_ble_eq_true rfl) (fun x hx C hr => ?_)
  unfold fX5_solve at hf
  refine z_iload_n (i := 1) C dX5_solve_0 rfl rfl rfl ?_
  refine z_iconst C dX5_solve_1 zi_0 rfl ?_
  refine z_sipush C dX5_solve_2 zs_255 rfl ?_
  refine z_csvR (As := [.int a1, .int 0, .int 255]) (st := []) (m := m) C gX5_solve_X5_refuseOutside hdX5_refuseOutside rfl (fun z h => qX5_refuseOutside a1 0 255 m z h) rfl (Nat.le_of_ble_eq_true rfl) ⟨Nat.le_of_ble_eq_true rfl, Nat.le_of_ble_eq_true rfl⟩ ⟨Nat.le_refl _, Nat.le_refl _⟩ dX5_solve_5 rfl rfl hf (fun u1 hf => ?_)
  refine z_aload_n (i := 0) C dX5_solve_8 rfl rfl rfl ?_
  refine z_gv C (FX5_solve_26 hC) (tn_0 hC) (tc_0 hC) rfl dX5_solve_9 rfl hf (fun s2 hf => ?_)
  refine kis_V hf (fun hs2 hf => ?_)
  refine z_iload_n (i := 1) C dX5_solve_12 rfl rfl rfl ?_
  refine z_cviR (As := [.int a1]) (st := []) (m := m) C (cl_1 hC) (sn_0 hC hs2) (sc_0 hC hs2) gX5_solve_X2_smallestNonce hdX2_smallestNonce rfl (fun z h => qX2_smallestNonce hC N s2 a1 m hs2 z h) rfl (Nat.le_of_ble_eq_true rfl) ⟨Nat.le_of_ble_eq_true rfl, Nat.le_of_ble_eq_true rfl⟩ ⟨Nat.le_refl _, Nat.le_refl _⟩ dX5_solve_13 rfl rfl hf (fun v3 hf => ?_)
  exact hr _ _ _ _ (congrArg (fun z => (z, m)) (Option.some.inj hf)) dX5_solve_16

def fX5_refuseNegative (a1 : Int32) : Option (Unit) :=
  if 0 ≤ a1 then
  some ()
  else
  none
theorem hdX5_refuseNegative : yX5_refuseNegative.cls ≠ "java/lang/invoke/MethodHandle" ∧ yX5_refuseNegative.cls ≠ "java/lang/invoke/VarHandle" ∧ (parseMethodDescriptor yX5_refuseNegative.desc).map (fun d => d.parameters.length) = some 1 := by decide +kernel
set_option maxHeartbeats 4000000 in
set_option maxRecDepth 100000 in
theorem qX5_refuseNegative {l : Launch} {g : zG}  (a1 : Int32) (m : zMem)  (o : Unit) (hf : fX5_refuseNegative a1 = some o) : zMV l g yX5_refuseNegative wsX5_refuseNegative { frames := 0, cells := 0, slots := 0, locals := 0 } [.int a1] m m := by
  refine z_met_v (cc := cX5_refuseNegative) (maxL := 1) (lo0 := [some (.int a1)]) (by decide +kernel) rfl rfl (Nat.le_of_ble_eq_true rfl) (fun x hx C hr => ?_)
  unfold fX5_refuseNegative at hf
  refine z_iload_n (i := 0) C dX5_refuseNegative_0 rfl rfl rfl ?_
  refine z_if_ge (tgt := 15) C dX5_refuseNegative_1 (by decide) rfl hf (fun hf => ?_) (fun hf => ?_)
  · skip
    exact hr _ _ _ rfl dX5_refuseNegative_15
  · skip
    cases hf

def fX5_zeros (a1 : Int32) (a2 : Int32) (a3 : Int32) : Option (Int32) :=
  kc1 (fX5_refuseOutside a1 0 255) fun u1 =>
  kc1 (fX5_refuseOutside a2 0 99999) fun u2 =>
  kc1 (fX5_refuseNegative a3) fun u3 =>
  kc1 (fX0_leadingZeros a1 a2 a3) fun v4 =>
  some v4
theorem hdX5_zeros : yX5_zeros.cls = RX5 ∧ yX5_zeros.cls ≠ "java/lang/invoke/MethodHandle" ∧ yX5_zeros.cls ≠ "java/lang/invoke/VarHandle" ∧ (parseMethodDescriptor yX5_zeros.desc).map (fun d => d.parameters.length) = some 3 := by decide +kernel
set_option maxHeartbeats 4000000 in
set_option maxRecDepth 100000 in
theorem qX5_zeros {l : Launch} {g : zG} (hC : isC g)  (a1 : Int32) (a2 : Int32) (a3 : Int32) (m : zMem)  (o : Int32) (hf : fX5_zeros a1 a2 a3 = some o) : zMI l g yX5_zeros wsX5_zeros { frames := 2, cells := 0, slots := 0, locals := 44 } [.ref (zad g 0), .int a1, .int a2, .int a3] m (o, m) := by
  refine z_met_i (cc := cX5_zeros) (maxL := 4) (lo0 := [some (.ref (zad g 0)), some (.int a1), some (.int a2), some (.int a3)]) (by decide +kernel) rfl rfl (Nat.le_of_ble_eq_true rfl) (fun x hx C hr => ?_)
  unfold fX5_zeros at hf
  refine z_iload_n (i := 1) C dX5_zeros_0 rfl rfl rfl ?_
  refine z_iconst C dX5_zeros_1 zi_0 rfl ?_
  refine z_sipush C dX5_zeros_2 zs_255 rfl ?_
  refine z_csvR (As := [.int a1, .int 0, .int 255]) (st := []) (m := m) C gX5_zeros_X5_refuseOutside hdX5_refuseOutside rfl (fun z h => qX5_refuseOutside a1 0 255 m z h) rfl (Nat.le_of_ble_eq_true rfl) ⟨Nat.le_of_ble_eq_true rfl, Nat.le_of_ble_eq_true rfl⟩ ⟨Nat.le_refl _, Nat.le_refl _⟩ dX5_zeros_5 rfl rfl hf (fun u1 hf => ?_)
  refine z_iload_n (i := 2) C dX5_zeros_8 rfl rfl rfl ?_
  refine z_iconst C dX5_zeros_9 zi_0 rfl ?_
  refine z_ldc (v := 99999) C (by decide +kernel) dX5_zeros_10 rfl ?_
  refine z_csvR (As := [.int a2, .int 0, .int 99999]) (st := []) (m := m) C gX5_zeros_X5_refuseOutside hdX5_refuseOutside rfl (fun z h => qX5_refuseOutside a2 0 99999 m z h) rfl (Nat.le_of_ble_eq_true rfl) ⟨Nat.le_of_ble_eq_true rfl, Nat.le_of_ble_eq_true rfl⟩ ⟨Nat.le_refl _, Nat.le_refl _⟩ dX5_zeros_12 rfl rfl hf (fun u2 hf => ?_)
  refine z_iload_n (i := 3) C dX5_zeros_15 rfl rfl rfl ?_
  refine z_csvR (As := [.int a3]) (st := []) (m := m) C gX5_zeros_X5_refuseNegative hdX5_refuseNegative rfl (fun z h => qX5_refuseNegative a3 m z h) rfl (Nat.le_of_ble_eq_true rfl) ⟨Nat.le_of_ble_eq_true rfl, Nat.le_of_ble_eq_true rfl⟩ ⟨Nat.le_refl _, Nat.le_refl _⟩ dX5_zeros_16 rfl rfl hf (fun u3 hf => ?_)
  refine z_iload_n (i := 1) C dX5_zeros_19 rfl rfl rfl ?_
  refine z_iload_n (i := 2) C dX5_zeros_20 rfl rfl rfl ?_
  refine z_iload_n (i := 3) C dX5_zeros_21 rfl rfl rfl ?_
  refine z_csiR (As := [.int a1, .int a2, .int a3]) (st := []) (m := m) C gX5_zeros_X0_leadingZeros hdX0_leadingZeros rfl (fun z h => qX0_leadingZeros a1 a2 a3 m z h) rfl (Nat.le_of_ble_eq_true rfl) ⟨Nat.le_of_ble_eq_true rfl, Nat.le_of_ble_eq_true rfl⟩ ⟨Nat.le_refl _, Nat.le_refl _⟩ dX5_zeros_22 rfl rfl hf (fun v4 hf => ?_)
  exact hr _ _ _ _ (congrArg (fun z => (z, m)) (Option.some.inj hf)) dX5_zeros_25

def fX5_entryFault (a1 : Int32) (a2 : Int32) (a3 : Int32) (m : zMem) : Option (Int32) :=
  kc1 (fX5_isOutside a1 0 255) fun v1 =>
  if v1 = 0 then
  kc1 (fX5_isOutside a2 0 7) fun v2 =>
  if v2 = 0 then
  kc1 (fX5_isOutside a3 (-1) 255) fun v3 =>
  if v3 = 0 then
  kgr m 0 fun s4 => kis s4 <|
  kc1 (fX2_isMember s4 a1 m) fun v5 =>
  if v5 = 0 then
  kgr m 0 fun s6 => kis s6 <|
  kgi m s6 7 fun v7 =>
  if v7 < 24 then
  kgr m 0 fun s8 => kis s8 <|
  kgi m s8 7 fun v9 =>
  kjn (fun (w10 : Int32) =>
  if w10 = 0 then
  some 3
  else
  some 0) fun K90 =>
  if v9 = 0 then
  if a3 = (-1) then
  K90 1
  else
  K90 0
  else
  kgr m 0 fun s11 => kis s11 <|
  kc1 (fX2_isMember s11 a3 m) fun v12 =>
  K90 v12
  else
  some 2
  else
  some 2
  else
  some 1
  else
  some 1
  else
  some 1
theorem FX5_entryFault_26 {g : zG} (hC : isC g) : zFl wsX5_entryFault RX5 (zcl g) 26 4 2 := ⟨RX5, TX5, 7, hC.2.2 ▸ rfl, by decide +kernel, by decide, by decide +kernel⟩
theorem FX5_entryFault_113 {g : zG} (hC : isC g) : zFl wsX5_entryFault RX5 (zcl g) 113 1 7 := ⟨RX2, TX2, 14, hC.2.2 ▸ rfl, by decide +kernel, by decide, by decide +kernel⟩
theorem hdX5_entryFault : yX5_entryFault.cls = RX5 ∧ yX5_entryFault.cls ≠ "java/lang/invoke/MethodHandle" ∧ yX5_entryFault.cls ≠ "java/lang/invoke/VarHandle" ∧ (parseMethodDescriptor yX5_entryFault.desc).map (fun d => d.parameters.length) = some 3 := by decide +kernel
set_option maxHeartbeats 4000000 in
set_option maxRecDepth 100000 in
theorem qX5_entryFault {l : Launch} {g : zG} (hC : isC g)  (a1 : Int32) (a2 : Int32) (a3 : Int32) (m : zMem)  (o : Int32) (hf : fX5_entryFault a1 a2 a3 m = some o) : zMI l g yX5_entryFault wsX5_entryFault { frames := 1, cells := 0, slots := 0, locals := 22 } [.ref (zad g 0), .int a1, .int a2, .int a3] m (o, m) := by
  refine z_met_i (cc := cX5_entryFault) (maxL := 5) (lo0 := [some (.ref (zad g 0)), some (.int a1), some (.int a2), some (.int a3), none]) (by decide +kernel) rfl rfl (Nat.le_of_ble_eq_true rfl) (fun x hx C hr => ?_)
  unfold fX5_entryFault at hf
  refine z_iload_n (i := 1) C dX5_entryFault_0 rfl rfl rfl ?_
  refine z_iconst C dX5_entryFault_1 zi_0 rfl ?_
  refine z_sipush C dX5_entryFault_2 zs_255 rfl ?_
  refine z_csiR (As := [.int a1, .int 0, .int 255]) (st := []) (m := m) C gX5_entryFault_X5_isOutside hdX5_isOutside rfl (fun z h => qX5_isOutside a1 0 255 m z h) rfl (Nat.le_of_ble_eq_true rfl) ⟨Nat.le_of_ble_eq_true rfl, Nat.le_of_ble_eq_true rfl⟩ ⟨Nat.le_refl _, Nat.le_refl _⟩ dX5_entryFault_5 rfl rfl hf (fun v1 hf => ?_)
  refine z_if_ne (tgt := 32) C dX5_entryFault_8 (by decide) rfl hf (fun hf => ?_) (fun hf => ?_)
  · skip
    refine z_iconst C dX5_entryFault_32 zi_1 rfl ?_
    exact hr _ _ _ _ (congrArg (fun z => (z, m)) (Option.some.inj hf)) dX5_entryFault_33
  · skip
    refine z_iload_n (i := 2) C dX5_entryFault_11 rfl rfl rfl ?_
    refine z_iconst C dX5_entryFault_12 zi_0 rfl ?_
    refine z_bipush C dX5_entryFault_13 zb_7 rfl ?_
    refine z_csiR (As := [.int a2, .int 0, .int 7]) (st := []) (m := m) C gX5_entryFault_X5_isOutside hdX5_isOutside rfl (fun z h => qX5_isOutside a2 0 7 m z h) rfl (Nat.le_of_ble_eq_true rfl) ⟨Nat.le_of_ble_eq_true rfl, Nat.le_of_ble_eq_true rfl⟩ ⟨Nat.le_refl _, Nat.le_refl _⟩ dX5_entryFault_15 rfl rfl hf (fun v2 hf => ?_)
    refine z_if_ne (tgt := 32) C dX5_entryFault_18 (by decide) rfl hf (fun hf => ?_) (fun hf => ?_)
    · skip
      refine z_iconst C dX5_entryFault_32 zi_1 rfl ?_
      exact hr _ _ _ _ (congrArg (fun z => (z, m)) (Option.some.inj hf)) dX5_entryFault_33
    · skip
      refine z_iload_n (i := 3) C dX5_entryFault_21 rfl rfl rfl ?_
      refine z_iconst C dX5_entryFault_22 zi_m1 rfl ?_
      refine z_sipush C dX5_entryFault_23 zs_255 rfl ?_
      refine z_csiR (As := [.int a3, .int (-1), .int 255]) (st := []) (m := m) C gX5_entryFault_X5_isOutside hdX5_isOutside rfl (fun z h => qX5_isOutside a3 (-1) 255 m z h) rfl (Nat.le_of_ble_eq_true rfl) ⟨Nat.le_of_ble_eq_true rfl, Nat.le_of_ble_eq_true rfl⟩ ⟨Nat.le_refl _, Nat.le_refl _⟩ dX5_entryFault_26 rfl rfl hf (fun v3 hf => ?_)
      refine z_if_eq (tgt := 34) C dX5_entryFault_29 (by decide) rfl hf (fun hf => ?_) (fun hf => ?_)
      · skip
        refine z_aload_n (i := 0) C dX5_entryFault_34 rfl rfl rfl ?_
        refine z_gv C (FX5_entryFault_26 hC) (tn_0 hC) (tc_0 hC) rfl dX5_entryFault_35 rfl hf (fun s4 hf => ?_)
        refine kis_V hf (fun hs4 hf => ?_)
        refine z_iload_n (i := 1) C dX5_entryFault_38 rfl rfl rfl ?_
        refine z_cviR (As := [.int a1]) (st := []) (m := m) C (cl_1 hC) (sn_0 hC hs4) (sc_0 hC hs4) gX5_entryFault_X2_isMember hdX2_isMember rfl (fun z h => qX2_isMember hC s4 a1 m hs4 z h) rfl (Nat.le_of_ble_eq_true rfl) ⟨Nat.le_of_ble_eq_true rfl, Nat.le_of_ble_eq_true rfl⟩ ⟨Nat.le_refl _, Nat.le_refl _⟩ dX5_entryFault_39 rfl rfl hf (fun v5 hf => ?_)
        refine z_if_ne (tgt := 57) C dX5_entryFault_42 (by decide) rfl hf (fun hf => ?_) (fun hf => ?_)
        · skip
          refine z_iconst C dX5_entryFault_57 zi_2 rfl ?_
          exact hr _ _ _ _ (congrArg (fun z => (z, m)) (Option.some.inj hf)) dX5_entryFault_58
        · skip
          refine z_aload_n (i := 0) C dX5_entryFault_45 rfl rfl rfl ?_
          refine z_gv C (FX5_entryFault_26 hC) (tn_0 hC) (tc_0 hC) rfl dX5_entryFault_46 rfl hf (fun s6 hf => ?_)
          refine kis_V hf (fun hs6 hf => ?_)
          refine z_gi C (FX5_entryFault_113 hC) (sn_0 hC hs6) (sc_0 hC hs6) rfl dX5_entryFault_49 rfl hf (fun v7 hf => ?_)
          refine z_bipush C dX5_entryFault_52 zb_24 rfl ?_
          refine z_ic_lt (tgt := 59) C dX5_entryFault_54 (by decide) rfl hf (fun hf => ?_) (fun hf => ?_)
          · skip
            refine z_aload_n (i := 0) C dX5_entryFault_59 rfl rfl rfl ?_
            refine z_gv C (FX5_entryFault_26 hC) (tn_0 hC) (tc_0 hC) rfl dX5_entryFault_60 rfl hf (fun s8 hf => ?_)
            refine kis_V hf (fun hs8 hf => ?_)
            refine z_gi C (FX5_entryFault_113 hC) (sn_0 hC hs8) (sc_0 hC hs8) rfl dX5_entryFault_63 rfl hf (fun v9 hf => ?_)
            refine kjn_V (fun K90 => ∀ (w10 : Int32), K90 w10 = some o → zV x g 5 0 0 90 [none, none, none, none, none] [.int w10] m) hf (fun w10 hf => ?_) (fun K90 hK90 hf => ?_)
            · skip
              refine z_istore (lo' := [none, none, none, none, some (.int w10)]) C dX5_entryFault_90 (Nat.le_of_ble_eq_true rfl) rfl rfl rfl ?_
              refine z_iload C dX5_entryFault_92 rfl rfl ?_
              refine z_if_eq (tgt := 101) C dX5_entryFault_94 (by decide) rfl hf (fun hf => ?_) (fun hf => ?_)
              · skip
                refine z_iconst C dX5_entryFault_101 zi_3 rfl ?_
                exact hr _ _ _ _ (congrArg (fun z => (z, m)) (Option.some.inj hf)) dX5_entryFault_102
              · skip
                refine z_iconst C dX5_entryFault_97 zi_0 rfl ?_
                refine z_goto (pc' := 102) C dX5_entryFault_98 (by decide) ?_
                exact hr _ _ _ _ (congrArg (fun z => (z, m)) (Option.some.inj hf)) dX5_entryFault_102
            · skip
              refine z_if_ne (tgt := 82) C dX5_entryFault_66 (by decide) rfl hf (fun hf => ?_) (fun hf => ?_)
              · skip
                refine z_aload_n (i := 0) C dX5_entryFault_82 rfl rfl rfl ?_
                refine z_gv C (FX5_entryFault_26 hC) (tn_0 hC) (tc_0 hC) rfl dX5_entryFault_83 rfl hf (fun s11 hf => ?_)
                refine kis_V hf (fun hs11 hf => ?_)
                refine z_iload_n (i := 3) C dX5_entryFault_86 rfl rfl rfl ?_
                refine z_cviR (As := [.int a3]) (st := []) (m := m) C (cl_1 hC) (sn_0 hC hs11) (sc_0 hC hs11) gX5_entryFault_X2_isMember hdX2_isMember rfl (fun z h => qX2_isMember hC s11 a3 m hs11 z h) rfl (Nat.le_of_ble_eq_true rfl) ⟨Nat.le_of_ble_eq_true rfl, Nat.le_of_ble_eq_true rfl⟩ ⟨Nat.le_refl _, Nat.le_refl _⟩ dX5_entryFault_87 rfl rfl hf (fun v12 hf => ?_)
                refine z_drop (lo' := [none, some (.int a1), some (.int a2), some (.int a3), none]) 0 rfl ?_
                refine z_drop (lo' := [none, none, some (.int a2), some (.int a3), none]) 1 rfl ?_
                refine z_drop (lo' := [none, none, none, some (.int a3), none]) 2 rfl ?_
                refine z_drop (lo' := [none, none, none, none, none]) 3 rfl ?_
                exact hK90 _ hf
              · skip
                refine z_iload_n (i := 3) C dX5_entryFault_69 rfl rfl rfl ?_
                refine z_iconst C dX5_entryFault_70 zi_m1 rfl ?_
                refine z_ic_ne (tgt := 78) C dX5_entryFault_71 (by decide) rfl hf (fun hf => ?_) (fun hf => ?_)
                · skip
                  refine z_iconst C dX5_entryFault_78 zi_0 rfl ?_
                  refine z_goto (pc' := 90) C dX5_entryFault_79 (by decide) ?_
                  refine z_drop (lo' := [none, some (.int a1), some (.int a2), some (.int a3), none]) 0 rfl ?_
                  refine z_drop (lo' := [none, none, some (.int a2), some (.int a3), none]) 1 rfl ?_
                  refine z_drop (lo' := [none, none, none, some (.int a3), none]) 2 rfl ?_
                  refine z_drop (lo' := [none, none, none, none, none]) 3 rfl ?_
                  exact hK90 _ hf
                · skip
                  refine z_iconst C dX5_entryFault_74 zi_1 rfl ?_
                  refine z_goto (pc' := 90) C dX5_entryFault_75 (by decide) ?_
                  refine z_drop (lo' := [none, some (.int a1), some (.int a2), some (.int a3), none]) 0 rfl ?_
                  refine z_drop (lo' := [none, none, some (.int a2), some (.int a3), none]) 1 rfl ?_
                  refine z_drop (lo' := [none, none, none, some (.int a3), none]) 2 rfl ?_
                  refine z_drop (lo' := [none, none, none, none, none]) 3 rfl ?_
                  exact hK90 _ hf
          · skip
            refine z_iconst C dX5_entryFault_57 zi_2 rfl ?_
            exact hr _ _ _ _ (congrArg (fun z => (z, m)) (Option.some.inj hf)) dX5_entryFault_58
      · skip
        refine z_iconst C dX5_entryFault_32 zi_1 rfl ?_
        exact hr _ _ _ _ (congrArg (fun z => (z, m)) (Option.some.inj hf)) dX5_entryFault_33

def fX5_join (N : Nat) (a1 : Int32) (a2 : Int32) (a3 : Int32) (a4 : Int32) (m : zMem) : Option (Int32 × zMem) :=
  kc1 (fX5_refuseOutside a3 0 99999) fun u1 =>
  kc1 (fX5_entryFault a1 a2 a4 m) fun v2 =>
  kc1 (fX5_raise v2) fun u3 =>
  kgr m 0 fun s4 => kis s4 <|
  kc1 (fX2_isSolvedBy s4 a1 a3 m) fun v5 =>
  if v5 = 0 then
  none
  else
  kc1 (fX5_save m) fun m6 =>
  kgr m6 0 fun s7 => kis s7 <|
  kc2 (fX2_enter N s7 a1 a2 a4 m6) fun v8 m9 =>
  some (v8, m9)
theorem FX5_join_10 {g : zG} (hC : isC g) : zFl wsX5_join RX5 (zcl g) 10 4 0 := ⟨RX5, TX5, 7, hC.2.2 ▸ rfl, by decide +kernel, by decide, by decide +kernel⟩
theorem FX5_join_26 {g : zG} (hC : isC g) : zFl wsX5_join RX5 (zcl g) 26 4 2 := ⟨RX5, TX5, 7, hC.2.2 ▸ rfl, by decide +kernel, by decide, by decide +kernel⟩
theorem hdX5_join : yX5_join.cls = RX5 ∧ yX5_join.cls ≠ "java/lang/invoke/MethodHandle" ∧ yX5_join.cls ≠ "java/lang/invoke/VarHandle" ∧ (parseMethodDescriptor yX5_join.desc).map (fun d => d.parameters.length) = some 4 := by decide +kernel
set_option maxHeartbeats 4000000 in
set_option maxRecDepth 100000 in
theorem qX5_join {l : Launch} {g : zG} (hC : isC g)  (N : Nat) (a1 : Int32) (a2 : Int32) (a3 : Int32) (a4 : Int32) (m : zMem)  (o : Int32 × zMem) (hf : fX5_join N a1 a2 a3 a4 m = some o) : zMI l g yX5_join wsX5_join { frames := 5, cells := 0, slots := 0, locals := 131 } [.ref (zad g 0), .int a1, .int a2, .int a3, .int a4] m o := by
  refine z_met_i (cc := cX5_join) (maxL := 5) (lo0 := [some (.ref (zad g 0)), some (.int a1), some (.int a2), some (.int a3), some (.int a4)]) (by decide +kernel) rfl rfl (Nat.le_of_ble_eq_true rfl) (fun x hx C hr => ?_)
  unfold fX5_join at hf
  refine z_iload_n (i := 3) C dX5_join_0 rfl rfl rfl ?_
  refine z_iconst C dX5_join_1 zi_0 rfl ?_
  refine z_ldc (v := 99999) C (by decide +kernel) dX5_join_2 rfl ?_
  refine z_csvR (As := [.int a3, .int 0, .int 99999]) (st := []) (m := m) C gX5_join_X5_refuseOutside hdX5_refuseOutside rfl (fun z h => qX5_refuseOutside a3 0 99999 m z h) rfl (Nat.le_of_ble_eq_true rfl) ⟨Nat.le_of_ble_eq_true rfl, Nat.le_of_ble_eq_true rfl⟩ ⟨Nat.le_refl _, Nat.le_refl _⟩ dX5_join_4 rfl rfl hf (fun u1 hf => ?_)
  refine z_aload_n (i := 0) C dX5_join_7 rfl rfl rfl ?_
  refine z_iload_n (i := 1) C dX5_join_8 rfl rfl rfl ?_
  refine z_iload_n (i := 2) C dX5_join_9 rfl rfl rfl ?_
  refine z_iload C dX5_join_10 rfl rfl ?_
  refine z_cviR (As := [.int a1, .int a2, .int a4]) (st := []) (m := m) C (cl_4 hC) (tn_0 hC) (tc_0 hC) gX5_join_X5_entryFault hdX5_entryFault rfl (fun z h => qX5_entryFault hC a1 a2 a4 m z h) rfl (Nat.le_of_ble_eq_true rfl) ⟨Nat.le_of_ble_eq_true rfl, Nat.le_of_ble_eq_true rfl⟩ ⟨Nat.le_refl _, Nat.le_refl _⟩ dX5_join_12 rfl rfl hf (fun v2 hf => ?_)
  refine z_csvR (As := [.int v2]) (st := []) (m := m) C gX5_join_X5_raise hdX5_raise rfl (fun z h => qX5_raise v2 m z h) rfl (Nat.le_of_ble_eq_true rfl) ⟨Nat.le_of_ble_eq_true rfl, Nat.le_of_ble_eq_true rfl⟩ ⟨Nat.le_refl _, Nat.le_refl _⟩ dX5_join_15 rfl rfl hf (fun u3 hf => ?_)
  refine z_aload_n (i := 0) C dX5_join_18 rfl rfl rfl ?_
  refine z_gv C (FX5_join_26 hC) (tn_0 hC) (tc_0 hC) rfl dX5_join_19 rfl hf (fun s4 hf => ?_)
  refine kis_V hf (fun hs4 hf => ?_)
  refine z_iload_n (i := 1) C dX5_join_22 rfl rfl rfl ?_
  refine z_iload_n (i := 3) C dX5_join_23 rfl rfl rfl ?_
  refine z_cviR (As := [.int a1, .int a3]) (st := []) (m := m) C (cl_1 hC) (sn_0 hC hs4) (sc_0 hC hs4) gX5_join_X2_isSolvedBy hdX2_isSolvedBy rfl (fun z h => qX2_isSolvedBy hC s4 a1 a3 m hs4 z h) rfl (Nat.le_of_ble_eq_true rfl) ⟨Nat.le_of_ble_eq_true rfl, Nat.le_of_ble_eq_true rfl⟩ ⟨Nat.le_refl _, Nat.le_refl _⟩ dX5_join_24 rfl rfl hf (fun v5 hf => ?_)
  refine z_if_ne (tgt := 40) C dX5_join_27 (by decide) rfl hf (fun hf => ?_) (fun hf => ?_)
  · skip
    refine z_aload_n (i := 0) C dX5_join_40 rfl rfl rfl ?_
    refine z_cvvW (As := []) (st := []) (m := m) C (cl_4 hC) (tn_0 hC) (tc_0 hC) gX5_join_X5_save hdX5_save rfl (fun z h => qX5_save hC m z h) rfl (Nat.le_of_ble_eq_true rfl) ⟨Nat.le_of_ble_eq_true rfl, Nat.le_of_ble_eq_true rfl⟩ ⟨Nat.le_refl _, Nat.le_refl _⟩ dX5_join_41 rfl rfl hf (fun m6 hf => ?_)
    refine z_aload_n (i := 0) C dX5_join_44 rfl rfl rfl ?_
    refine z_gv C (FX5_join_26 hC) (tn_0 hC) (tc_0 hC) rfl dX5_join_45 rfl hf (fun s7 hf => ?_)
    refine kis_V hf (fun hs7 hf => ?_)
    refine z_aload_n (i := 0) C dX5_join_48 rfl rfl rfl ?_
    refine z_gr C (FX5_join_10 hC) (tn_0 hC) (tc_0 hC) rfl dX5_join_49 rfl ?_
    refine z_iload_n (i := 1) C dX5_join_52 rfl rfl rfl ?_
    refine z_iload_n (i := 2) C dX5_join_53 rfl rfl rfl ?_
    refine z_iload C dX5_join_54 rfl rfl ?_
    refine z_cviW (As := [.ref (zad g 1), .int a1, .int a2, .int a4]) (st := []) (m := m6) C (cl_1 hC) (sn_0 hC hs7) (sc_0 hC hs7) gX5_join_X2_enter hdX2_enter rfl (fun z h => qX2_enter hC N s7 a1 a2 a4 m6 hs7 z h) rfl (Nat.le_of_ble_eq_true rfl) ⟨Nat.le_of_ble_eq_true rfl, Nat.le_of_ble_eq_true rfl⟩ ⟨Nat.le_refl _, Nat.le_refl _⟩ dX5_join_56 rfl rfl hf (fun v8 m9 hf => ?_)
    exact hr _ _ _ _ (Option.some.inj hf) dX5_join_59
  · skip
    cases hf

def fX5_admissionFault (N : Nat) (a1 : Int32) (a2 : Int32) (a3 : Int32) (m : zMem) : Option (Int32) :=
  kc1 (fX5_entryFault a1 a2 a3 m) fun v1 =>
  if v1 = 0 then
  kgr m 0 fun s2 => kis s2 <|
  kc1 (fX2_smallestNonce N s2 a1 m) fun v3 =>
  if v3 = (-1) then
  some 3
  else
  some v1
  else
  some v1
theorem FX5_admissionFault_26 {g : zG} (hC : isC g) : zFl wsX5_admissionFault RX5 (zcl g) 26 4 2 := ⟨RX5, TX5, 7, hC.2.2 ▸ rfl, by decide +kernel, by decide, by decide +kernel⟩
theorem hdX5_admissionFault : yX5_admissionFault.cls = RX5 ∧ yX5_admissionFault.cls ≠ "java/lang/invoke/MethodHandle" ∧ yX5_admissionFault.cls ≠ "java/lang/invoke/VarHandle" ∧ (parseMethodDescriptor yX5_admissionFault.desc).map (fun d => d.parameters.length) = some 3 := by decide +kernel
set_option maxHeartbeats 4000000 in
set_option maxRecDepth 100000 in
theorem qX5_admissionFault {l : Launch} {g : zG} (hC : isC g)  (N : Nat) (a1 : Int32) (a2 : Int32) (a3 : Int32) (m : zMem)  (o : Int32) (hf : fX5_admissionFault N a1 a2 a3 m = some o) : zMI l g yX5_admissionFault wsX5_admissionFault { frames := 3, cells := 0, slots := 0, locals := 66 } [.ref (zad g 0), .int a1, .int a2, .int a3] m (o, m) := by
  refine z_met_i (cc := cX5_admissionFault) (maxL := 5) (lo0 := [some (.ref (zad g 0)), some (.int a1), some (.int a2), some (.int a3), none]) (by decide +kernel) rfl rfl (Nat.le_of_ble_eq_true rfl) (fun x hx C hr => ?_)
  unfold fX5_admissionFault at hf
  refine z_aload_n (i := 0) C dX5_admissionFault_0 rfl rfl rfl ?_
  refine z_iload_n (i := 1) C dX5_admissionFault_1 rfl rfl rfl ?_
  refine z_iload_n (i := 2) C dX5_admissionFault_2 rfl rfl rfl ?_
  refine z_iload_n (i := 3) C dX5_admissionFault_3 rfl rfl rfl ?_
  refine z_cviR (As := [.int a1, .int a2, .int a3]) (st := []) (m := m) C (cl_4 hC) (tn_0 hC) (tc_0 hC) gX5_admissionFault_X5_entryFault hdX5_entryFault rfl (fun z h => qX5_entryFault hC a1 a2 a3 m z h) rfl (Nat.le_of_ble_eq_true rfl) ⟨Nat.le_of_ble_eq_true rfl, Nat.le_of_ble_eq_true rfl⟩ ⟨Nat.le_refl _, Nat.le_refl _⟩ dX5_admissionFault_4 rfl rfl hf (fun v1 hf => ?_)
  refine z_istore (lo' := [some (.ref (zad g 0)), some (.int a1), some (.int a2), some (.int a3), some (.int v1)]) C dX5_admissionFault_7 (Nat.le_of_ble_eq_true rfl) rfl rfl rfl ?_
  refine z_iload C dX5_admissionFault_9 rfl rfl ?_
  refine z_if_ne (tgt := 28) C dX5_admissionFault_11 (by decide) rfl hf (fun hf => ?_) (fun hf => ?_)
  · skip
    refine z_iload C dX5_admissionFault_28 rfl rfl ?_
    exact hr _ _ _ _ (congrArg (fun z => (z, m)) (Option.some.inj hf)) dX5_admissionFault_30
  · skip
    refine z_aload_n (i := 0) C dX5_admissionFault_14 rfl rfl rfl ?_
    refine z_gv C (FX5_admissionFault_26 hC) (tn_0 hC) (tc_0 hC) rfl dX5_admissionFault_15 rfl hf (fun s2 hf => ?_)
    refine kis_V hf (fun hs2 hf => ?_)
    refine z_iload_n (i := 1) C dX5_admissionFault_18 rfl rfl rfl ?_
    refine z_cviR (As := [.int a1]) (st := []) (m := m) C (cl_1 hC) (sn_0 hC hs2) (sc_0 hC hs2) gX5_admissionFault_X2_smallestNonce hdX2_smallestNonce rfl (fun z h => qX2_smallestNonce hC N s2 a1 m hs2 z h) rfl (Nat.le_of_ble_eq_true rfl) ⟨Nat.le_of_ble_eq_true rfl, Nat.le_of_ble_eq_true rfl⟩ ⟨Nat.le_refl _, Nat.le_refl _⟩ dX5_admissionFault_19 rfl rfl hf (fun v3 hf => ?_)
    refine z_iconst C dX5_admissionFault_22 zi_m1 rfl ?_
    refine z_ic_ne (tgt := 28) C dX5_admissionFault_23 (by decide) rfl hf (fun hf => ?_) (fun hf => ?_)
    · skip
      refine z_iload C dX5_admissionFault_28 rfl rfl ?_
      exact hr _ _ _ _ (congrArg (fun z => (z, m)) (Option.some.inj hf)) dX5_admissionFault_30
    · skip
      refine z_iconst C dX5_admissionFault_26 zi_3 rfl ?_
      exact hr _ _ _ _ (congrArg (fun z => (z, m)) (Option.some.inj hf)) dX5_admissionFault_27

def fX5_admit (N : Nat) (a1 : Int32) (a2 : Int32) (a3 : Int32) (m : zMem) : Option (Int32 × zMem) :=
  kc1 (fX5_admissionFault N a1 a2 a3 m) fun v1 =>
  kc1 (fX5_raise v1) fun u2 =>
  kc1 (fX5_save m) fun m3 =>
  kgr m3 0 fun s4 => kis s4 <|
  kc2 (fX2_enter N s4 a1 a2 a3 m3) fun v5 m6 =>
  some (v5, m6)
theorem FX5_admit_10 {g : zG} (hC : isC g) : zFl wsX5_admit RX5 (zcl g) 10 4 0 := ⟨RX5, TX5, 7, hC.2.2 ▸ rfl, by decide +kernel, by decide, by decide +kernel⟩
theorem FX5_admit_26 {g : zG} (hC : isC g) : zFl wsX5_admit RX5 (zcl g) 26 4 2 := ⟨RX5, TX5, 7, hC.2.2 ▸ rfl, by decide +kernel, by decide, by decide +kernel⟩
theorem hdX5_admit : yX5_admit.cls = RX5 ∧ yX5_admit.cls ≠ "java/lang/invoke/MethodHandle" ∧ yX5_admit.cls ≠ "java/lang/invoke/VarHandle" ∧ (parseMethodDescriptor yX5_admit.desc).map (fun d => d.parameters.length) = some 3 := by decide +kernel
set_option maxHeartbeats 4000000 in
set_option maxRecDepth 100000 in
theorem qX5_admit {l : Launch} {g : zG} (hC : isC g)  (N : Nat) (a1 : Int32) (a2 : Int32) (a3 : Int32) (m : zMem)  (o : Int32 × zMem) (hf : fX5_admit N a1 a2 a3 m = some o) : zMI l g yX5_admit wsX5_admit { frames := 5, cells := 0, slots := 0, locals := 131 } [.ref (zad g 0), .int a1, .int a2, .int a3] m o := by
  refine z_met_i (cc := cX5_admit) (maxL := 4) (lo0 := [some (.ref (zad g 0)), some (.int a1), some (.int a2), some (.int a3)]) (by decide +kernel) rfl rfl (Nat.le_of_ble_eq_true rfl) (fun x hx C hr => ?_)
  unfold fX5_admit at hf
  refine z_aload_n (i := 0) C dX5_admit_0 rfl rfl rfl ?_
  refine z_iload_n (i := 1) C dX5_admit_1 rfl rfl rfl ?_
  refine z_iload_n (i := 2) C dX5_admit_2 rfl rfl rfl ?_
  refine z_iload_n (i := 3) C dX5_admit_3 rfl rfl rfl ?_
  refine z_cviR (As := [.int a1, .int a2, .int a3]) (st := []) (m := m) C (cl_4 hC) (tn_0 hC) (tc_0 hC) gX5_admit_X5_admissionFault hdX5_admissionFault rfl (fun z h => qX5_admissionFault hC N a1 a2 a3 m z h) rfl (Nat.le_of_ble_eq_true rfl) ⟨Nat.le_of_ble_eq_true rfl, Nat.le_of_ble_eq_true rfl⟩ ⟨Nat.le_refl _, Nat.le_refl _⟩ dX5_admit_4 rfl rfl hf (fun v1 hf => ?_)
  refine z_csvR (As := [.int v1]) (st := []) (m := m) C gX5_admit_X5_raise hdX5_raise rfl (fun z h => qX5_raise v1 m z h) rfl (Nat.le_of_ble_eq_true rfl) ⟨Nat.le_of_ble_eq_true rfl, Nat.le_of_ble_eq_true rfl⟩ ⟨Nat.le_refl _, Nat.le_refl _⟩ dX5_admit_7 rfl rfl hf (fun u2 hf => ?_)
  refine z_aload_n (i := 0) C dX5_admit_10 rfl rfl rfl ?_
  refine z_cvvW (As := []) (st := []) (m := m) C (cl_4 hC) (tn_0 hC) (tc_0 hC) gX5_admit_X5_save hdX5_save rfl (fun z h => qX5_save hC m z h) rfl (Nat.le_of_ble_eq_true rfl) ⟨Nat.le_of_ble_eq_true rfl, Nat.le_of_ble_eq_true rfl⟩ ⟨Nat.le_refl _, Nat.le_refl _⟩ dX5_admit_11 rfl rfl hf (fun m3 hf => ?_)
  refine z_aload_n (i := 0) C dX5_admit_14 rfl rfl rfl ?_
  refine z_gv C (FX5_admit_26 hC) (tn_0 hC) (tc_0 hC) rfl dX5_admit_15 rfl hf (fun s4 hf => ?_)
  refine kis_V hf (fun hs4 hf => ?_)
  refine z_aload_n (i := 0) C dX5_admit_18 rfl rfl rfl ?_
  refine z_gr C (FX5_admit_10 hC) (tn_0 hC) (tc_0 hC) rfl dX5_admit_19 rfl ?_
  refine z_iload_n (i := 1) C dX5_admit_22 rfl rfl rfl ?_
  refine z_iload_n (i := 2) C dX5_admit_23 rfl rfl rfl ?_
  refine z_iload_n (i := 3) C dX5_admit_24 rfl rfl rfl ?_
  refine z_cviW (As := [.ref (zad g 1), .int a1, .int a2, .int a3]) (st := []) (m := m3) C (cl_1 hC) (sn_0 hC hs4) (sc_0 hC hs4) gX5_admit_X2_enter hdX2_enter rfl (fun z h => qX2_enter hC N s4 a1 a2 a3 m3 hs4 z h) rfl (Nat.le_of_ble_eq_true rfl) ⟨Nat.le_of_ble_eq_true rfl, Nat.le_of_ble_eq_true rfl⟩ ⟨Nat.le_refl _, Nat.le_refl _⟩ dX5_admit_25 rfl rfl hf (fun v5 m6 hf => ?_)
  exact hr _ _ _ _ (Option.some.inj hf) dX5_admit_28

def fX5_memberFault (a1 : Int32) (m : zMem) : Option (Int32) :=
  kc1 (fX5_isOutside a1 0 255) fun v1 =>
  if v1 = 0 then
  kgr m 0 fun s2 => kis s2 <|
  kc1 (fX2_isMember s2 a1 m) fun v3 =>
  if v3 = 0 then
  some 2
  else
  some 0
  else
  some 1
theorem FX5_memberFault_26 {g : zG} (hC : isC g) : zFl wsX5_memberFault RX5 (zcl g) 26 4 2 := ⟨RX5, TX5, 7, hC.2.2 ▸ rfl, by decide +kernel, by decide, by decide +kernel⟩
theorem hdX5_memberFault : yX5_memberFault.cls = RX5 ∧ yX5_memberFault.cls ≠ "java/lang/invoke/MethodHandle" ∧ yX5_memberFault.cls ≠ "java/lang/invoke/VarHandle" ∧ (parseMethodDescriptor yX5_memberFault.desc).map (fun d => d.parameters.length) = some 1 := by decide +kernel
set_option maxHeartbeats 4000000 in
set_option maxRecDepth 100000 in
theorem qX5_memberFault {l : Launch} {g : zG} (hC : isC g)  (a1 : Int32) (m : zMem)  (o : Int32) (hf : fX5_memberFault a1 m = some o) : zMI l g yX5_memberFault wsX5_memberFault { frames := 1, cells := 0, slots := 0, locals := 22 } [.ref (zad g 0), .int a1] m (o, m) := by
  refine z_met_i (cc := cX5_memberFault) (maxL := 2) (lo0 := [some (.ref (zad g 0)), some (.int a1)]) (by decide +kernel) rfl rfl (Nat.le_of_ble_eq_true rfl) (fun x hx C hr => ?_)
  unfold fX5_memberFault at hf
  refine z_iload_n (i := 1) C dX5_memberFault_0 rfl rfl rfl ?_
  refine z_iconst C dX5_memberFault_1 zi_0 rfl ?_
  refine z_sipush C dX5_memberFault_2 zs_255 rfl ?_
  refine z_csiR (As := [.int a1, .int 0, .int 255]) (st := []) (m := m) C gX5_memberFault_X5_isOutside hdX5_isOutside rfl (fun z h => qX5_isOutside a1 0 255 m z h) rfl (Nat.le_of_ble_eq_true rfl) ⟨Nat.le_of_ble_eq_true rfl, Nat.le_of_ble_eq_true rfl⟩ ⟨Nat.le_refl _, Nat.le_refl _⟩ dX5_memberFault_5 rfl rfl hf (fun v1 hf => ?_)
  refine z_if_eq (tgt := 13) C dX5_memberFault_8 (by decide) rfl hf (fun hf => ?_) (fun hf => ?_)
  · skip
    refine z_aload_n (i := 0) C dX5_memberFault_13 rfl rfl rfl ?_
    refine z_gv C (FX5_memberFault_26 hC) (tn_0 hC) (tc_0 hC) rfl dX5_memberFault_14 rfl hf (fun s2 hf => ?_)
    refine kis_V hf (fun hs2 hf => ?_)
    refine z_iload_n (i := 1) C dX5_memberFault_17 rfl rfl rfl ?_
    refine z_cviR (As := [.int a1]) (st := []) (m := m) C (cl_1 hC) (sn_0 hC hs2) (sc_0 hC hs2) gX5_memberFault_X2_isMember hdX2_isMember rfl (fun z h => qX2_isMember hC s2 a1 m hs2 z h) rfl (Nat.le_of_ble_eq_true rfl) ⟨Nat.le_of_ble_eq_true rfl, Nat.le_of_ble_eq_true rfl⟩ ⟨Nat.le_refl _, Nat.le_refl _⟩ dX5_memberFault_18 rfl rfl hf (fun v3 hf => ?_)
    refine z_if_eq (tgt := 28) C dX5_memberFault_21 (by decide) rfl hf (fun hf => ?_) (fun hf => ?_)
    · skip
      refine z_iconst C dX5_memberFault_28 zi_2 rfl ?_
      exact hr _ _ _ _ (congrArg (fun z => (z, m)) (Option.some.inj hf)) dX5_memberFault_29
    · skip
      refine z_iconst C dX5_memberFault_24 zi_0 rfl ?_
      refine z_goto (pc' := 29) C dX5_memberFault_25 (by decide) ?_
      exact hr _ _ _ _ (congrArg (fun z => (z, m)) (Option.some.inj hf)) dX5_memberFault_29
  · skip
    refine z_iconst C dX5_memberFault_11 zi_1 rfl ?_
    exact hr _ _ _ _ (congrArg (fun z => (z, m)) (Option.some.inj hf)) dX5_memberFault_12

def fX5_leave (a1 : Int32) (m : zMem) : Option (Int32 × zMem) :=
  kc1 (fX5_memberFault a1 m) fun v1 =>
  kc1 (fX5_raise v1) fun u2 =>
  kc1 (fX5_save m) fun m3 =>
  kgr m3 0 fun s4 => kis s4 <|
  kc1 (fX2_endIdentity s4 a1 m3) fun m5 =>
  kgr m5 0 fun s6 => kis s6 <|
  kgi m5 s6 7 fun v7 =>
  some (v7, m5)
theorem FX5_leave_26 {g : zG} (hC : isC g) : zFl wsX5_leave RX5 (zcl g) 26 4 2 := ⟨RX5, TX5, 7, hC.2.2 ▸ rfl, by decide +kernel, by decide, by decide +kernel⟩
theorem FX5_leave_113 {g : zG} (hC : isC g) : zFl wsX5_leave RX5 (zcl g) 113 1 7 := ⟨RX2, TX2, 14, hC.2.2 ▸ rfl, by decide +kernel, by decide, by decide +kernel⟩
theorem hdX5_leave : yX5_leave.cls = RX5 ∧ yX5_leave.cls ≠ "java/lang/invoke/MethodHandle" ∧ yX5_leave.cls ≠ "java/lang/invoke/VarHandle" ∧ (parseMethodDescriptor yX5_leave.desc).map (fun d => d.parameters.length) = some 1 := by decide +kernel
set_option maxHeartbeats 4000000 in
set_option maxRecDepth 100000 in
theorem qX5_leave {l : Launch} {g : zG} (hC : isC g)  (a1 : Int32) (m : zMem)  (o : Int32 × zMem) (hf : fX5_leave a1 m = some o) : zMI l g yX5_leave wsX5_leave { frames := 4, cells := 0, slots := 0, locals := 81 } [.ref (zad g 0), .int a1] m o := by
  refine z_met_i (cc := cX5_leave) (maxL := 2) (lo0 := [some (.ref (zad g 0)), some (.int a1)]) (by decide +kernel) rfl rfl (Nat.le_of_ble_eq_true rfl) (fun x hx C hr => ?_)
  unfold fX5_leave at hf
  refine z_aload_n (i := 0) C dX5_leave_0 rfl rfl rfl ?_
  refine z_iload_n (i := 1) C dX5_leave_1 rfl rfl rfl ?_
  refine z_cviR (As := [.int a1]) (st := []) (m := m) C (cl_4 hC) (tn_0 hC) (tc_0 hC) gX5_leave_X5_memberFault hdX5_memberFault rfl (fun z h => qX5_memberFault hC a1 m z h) rfl (Nat.le_of_ble_eq_true rfl) ⟨Nat.le_of_ble_eq_true rfl, Nat.le_of_ble_eq_true rfl⟩ ⟨Nat.le_refl _, Nat.le_refl _⟩ dX5_leave_2 rfl rfl hf (fun v1 hf => ?_)
  refine z_csvR (As := [.int v1]) (st := []) (m := m) C gX5_leave_X5_raise hdX5_raise rfl (fun z h => qX5_raise v1 m z h) rfl (Nat.le_of_ble_eq_true rfl) ⟨Nat.le_of_ble_eq_true rfl, Nat.le_of_ble_eq_true rfl⟩ ⟨Nat.le_refl _, Nat.le_refl _⟩ dX5_leave_5 rfl rfl hf (fun u2 hf => ?_)
  refine z_aload_n (i := 0) C dX5_leave_8 rfl rfl rfl ?_
  refine z_cvvW (As := []) (st := []) (m := m) C (cl_4 hC) (tn_0 hC) (tc_0 hC) gX5_leave_X5_save hdX5_save rfl (fun z h => qX5_save hC m z h) rfl (Nat.le_of_ble_eq_true rfl) ⟨Nat.le_of_ble_eq_true rfl, Nat.le_of_ble_eq_true rfl⟩ ⟨Nat.le_refl _, Nat.le_refl _⟩ dX5_leave_9 rfl rfl hf (fun m3 hf => ?_)
  refine z_aload_n (i := 0) C dX5_leave_12 rfl rfl rfl ?_
  refine z_gv C (FX5_leave_26 hC) (tn_0 hC) (tc_0 hC) rfl dX5_leave_13 rfl hf (fun s4 hf => ?_)
  refine kis_V hf (fun hs4 hf => ?_)
  refine z_iload_n (i := 1) C dX5_leave_16 rfl rfl rfl ?_
  refine z_cvvW (As := [.int a1]) (st := []) (m := m3) C (cl_1 hC) (sn_0 hC hs4) (sc_0 hC hs4) gX5_leave_X2_endIdentity hdX2_endIdentity rfl (fun z h => qX2_endIdentity hC s4 a1 m3 hs4 z h) rfl (Nat.le_of_ble_eq_true rfl) ⟨Nat.le_of_ble_eq_true rfl, Nat.le_of_ble_eq_true rfl⟩ ⟨Nat.le_refl _, Nat.le_refl _⟩ dX5_leave_17 rfl rfl hf (fun m5 hf => ?_)
  refine z_aload_n (i := 0) C dX5_leave_20 rfl rfl rfl ?_
  refine z_gv C (FX5_leave_26 hC) (tn_0 hC) (tc_0 hC) rfl dX5_leave_21 rfl hf (fun s6 hf => ?_)
  refine kis_V hf (fun hs6 hf => ?_)
  refine z_gi C (FX5_leave_113 hC) (sn_0 hC hs6) (sc_0 hC hs6) rfl dX5_leave_24 rfl hf (fun v7 hf => ?_)
  exact hr _ _ _ _ (Option.some.inj hf) dX5_leave_27

def sX5_swarm_50 (N : Nat) (a1 : Int32) (a2 : Int32) (a3 : Int32) (a4 : Int32) (a5 : Int32) (K108 : Int32 → zMem → Option (Int32 × zMem)) : (Int32 × Int32 × zMem → Option (Int32 × zMem)) → Int32 × Int32 × zMem → Option (Int32 × zMem) := fun rec (x10, x11, m12) =>
  if a3 ≤ x11 then
  K108 x10 m12
  else
  klt ((a1 + (x11 * a2)) &&& 255 : Int32) fun v13 =>
  kc1 (fX5_admissionFault N v13 a4 a5 m12) fun v14 =>
  if v14 = 0 then
  kgr m12 0 fun s15 => kis s15 <|
  kc2 (fX2_enter N s15 v13 a4 a5 m12) fun v16 m17 =>
  rec (x10 + 1, x11 + 1, m17)
  else
  rec (x10, x11 + 1, m12)
def fX5_swarm (N : Nat) (a1 : Int32) (a2 : Int32) (a3 : Int32) (a4 : Int32) (a5 : Int32) (m : zMem) : Option (Int32 × zMem) :=
  kc1 (fX5_refuseOutside a1 0 255) fun u1 =>
  kc1 (fX5_refuseOutside a2 1 255) fun u2 =>
  kc1 (fX5_refuseOutside a3 1 16) fun u3 =>
  kc1 (fX5_refuseOutside a4 0 7) fun u4 =>
  kc1 (fX5_memberFault a5 m) fun v5 =>
  kc1 (fX5_raise v5) fun u6 =>
  kc1 (fX5_save m) fun m7 =>
  kjn (fun (w8 : Int32) (m9 : zMem) =>
  some (w8, m9)) fun K108 =>
  klp (sX5_swarm_50 N a1 a2 a3 a4 a5 K108) N (0, 0, m7)
theorem FX5_swarm_10 {g : zG} (hC : isC g) : zFl wsX5_swarm RX5 (zcl g) 10 4 0 := ⟨RX5, TX5, 7, hC.2.2 ▸ rfl, by decide +kernel, by decide, by decide +kernel⟩
theorem FX5_swarm_26 {g : zG} (hC : isC g) : zFl wsX5_swarm RX5 (zcl g) 26 4 2 := ⟨RX5, TX5, 7, hC.2.2 ▸ rfl, by decide +kernel, by decide, by decide +kernel⟩
theorem hdX5_swarm : yX5_swarm.cls = RX5 ∧ yX5_swarm.cls ≠ "java/lang/invoke/MethodHandle" ∧ yX5_swarm.cls ≠ "java/lang/invoke/VarHandle" ∧ (parseMethodDescriptor yX5_swarm.desc).map (fun d => d.parameters.length) = some 5 := by decide +kernel
set_option maxHeartbeats 4000000 in
set_option maxRecDepth 100000 in
theorem qX5_swarm {l : Launch} {g : zG} (hC : isC g)  (N : Nat) (a1 : Int32) (a2 : Int32) (a3 : Int32) (a4 : Int32) (a5 : Int32) (m : zMem)  (o : Int32 × zMem) (hf : fX5_swarm N a1 a2 a3 a4 a5 m = some o) : zMI l g yX5_swarm wsX5_swarm { frames := 5, cells := 0, slots := 0, locals := 131 } [.ref (zad g 0), .int a1, .int a2, .int a3, .int a4, .int a5] m o := by
  refine z_met_i (cc := cX5_swarm) (maxL := 9) (lo0 := [some (.ref (zad g 0)), some (.int a1), some (.int a2), some (.int a3), some (.int a4), some (.int a5), none, none, none]) (by decide +kernel) rfl rfl (Nat.le_of_ble_eq_true rfl) (fun x hx C hr => ?_)
  unfold fX5_swarm at hf
  refine z_iload_n (i := 1) C dX5_swarm_0 rfl rfl rfl ?_
  refine z_iconst C dX5_swarm_1 zi_0 rfl ?_
  refine z_sipush C dX5_swarm_2 zs_255 rfl ?_
  refine z_csvR (As := [.int a1, .int 0, .int 255]) (st := []) (m := m) C gX5_swarm_X5_refuseOutside hdX5_refuseOutside rfl (fun z h => qX5_refuseOutside a1 0 255 m z h) rfl (Nat.le_of_ble_eq_true rfl) ⟨Nat.le_of_ble_eq_true rfl, Nat.le_of_ble_eq_true rfl⟩ ⟨Nat.le_refl _, Nat.le_refl _⟩ dX5_swarm_5 rfl rfl hf (fun u1 hf => ?_)
  refine z_iload_n (i := 2) C dX5_swarm_8 rfl rfl rfl ?_
  refine z_iconst C dX5_swarm_9 zi_1 rfl ?_
  refine z_sipush C dX5_swarm_10 zs_255 rfl ?_
  refine z_csvR (As := [.int a2, .int 1, .int 255]) (st := []) (m := m) C gX5_swarm_X5_refuseOutside hdX5_refuseOutside rfl (fun z h => qX5_refuseOutside a2 1 255 m z h) rfl (Nat.le_of_ble_eq_true rfl) ⟨Nat.le_of_ble_eq_true rfl, Nat.le_of_ble_eq_true rfl⟩ ⟨Nat.le_refl _, Nat.le_refl _⟩ dX5_swarm_13 rfl rfl hf (fun u2 hf => ?_)
  refine z_iload_n (i := 3) C dX5_swarm_16 rfl rfl rfl ?_
  refine z_iconst C dX5_swarm_17 zi_1 rfl ?_
  refine z_bipush C dX5_swarm_18 zb_16 rfl ?_
  refine z_csvR (As := [.int a3, .int 1, .int 16]) (st := []) (m := m) C gX5_swarm_X5_refuseOutside hdX5_refuseOutside rfl (fun z h => qX5_refuseOutside a3 1 16 m z h) rfl (Nat.le_of_ble_eq_true rfl) ⟨Nat.le_of_ble_eq_true rfl, Nat.le_of_ble_eq_true rfl⟩ ⟨Nat.le_refl _, Nat.le_refl _⟩ dX5_swarm_20 rfl rfl hf (fun u3 hf => ?_)
  refine z_iload C dX5_swarm_23 rfl rfl ?_
  refine z_iconst C dX5_swarm_25 zi_0 rfl ?_
  refine z_bipush C dX5_swarm_26 zb_7 rfl ?_
  refine z_csvR (As := [.int a4, .int 0, .int 7]) (st := []) (m := m) C gX5_swarm_X5_refuseOutside hdX5_refuseOutside rfl (fun z h => qX5_refuseOutside a4 0 7 m z h) rfl (Nat.le_of_ble_eq_true rfl) ⟨Nat.le_of_ble_eq_true rfl, Nat.le_of_ble_eq_true rfl⟩ ⟨Nat.le_refl _, Nat.le_refl _⟩ dX5_swarm_28 rfl rfl hf (fun u4 hf => ?_)
  refine z_aload_n (i := 0) C dX5_swarm_31 rfl rfl rfl ?_
  refine z_iload C dX5_swarm_32 rfl rfl ?_
  refine z_cviR (As := [.int a5]) (st := []) (m := m) C (cl_4 hC) (tn_0 hC) (tc_0 hC) gX5_swarm_X5_memberFault hdX5_memberFault rfl (fun z h => qX5_memberFault hC a5 m z h) rfl (Nat.le_of_ble_eq_true rfl) ⟨Nat.le_of_ble_eq_true rfl, Nat.le_of_ble_eq_true rfl⟩ ⟨Nat.le_refl _, Nat.le_refl _⟩ dX5_swarm_34 rfl rfl hf (fun v5 hf => ?_)
  refine z_csvR (As := [.int v5]) (st := []) (m := m) C gX5_swarm_X5_raise hdX5_raise rfl (fun z h => qX5_raise v5 m z h) rfl (Nat.le_of_ble_eq_true rfl) ⟨Nat.le_of_ble_eq_true rfl, Nat.le_of_ble_eq_true rfl⟩ ⟨Nat.le_refl _, Nat.le_refl _⟩ dX5_swarm_37 rfl rfl hf (fun u6 hf => ?_)
  refine z_aload_n (i := 0) C dX5_swarm_40 rfl rfl rfl ?_
  refine z_cvvW (As := []) (st := []) (m := m) C (cl_4 hC) (tn_0 hC) (tc_0 hC) gX5_swarm_X5_save hdX5_save rfl (fun z h => qX5_save hC m z h) rfl (Nat.le_of_ble_eq_true rfl) ⟨Nat.le_of_ble_eq_true rfl, Nat.le_of_ble_eq_true rfl⟩ ⟨Nat.le_refl _, Nat.le_refl _⟩ dX5_swarm_41 rfl rfl hf (fun m7 hf => ?_)
  refine z_iconst C dX5_swarm_44 zi_0 rfl ?_
  refine z_istore (lo' := [some (.ref (zad g 0)), some (.int a1), some (.int a2), some (.int a3), some (.int a4), some (.int a5), some (.int 0), none, none]) C dX5_swarm_45 (Nat.le_of_ble_eq_true rfl) rfl rfl rfl ?_
  refine z_iconst C dX5_swarm_47 zi_0 rfl ?_
  refine z_istore (lo' := [some (.ref (zad g 0)), some (.int a1), some (.int a2), some (.int a3), some (.int a4), some (.int a5), some (.int 0), some (.int 0), none]) C dX5_swarm_48 (Nat.le_of_ble_eq_true rfl) rfl rfl rfl ?_
  refine kjn_V (fun K108 => ∀ (w8 : Int32) (m9 : zMem), K108 w8 m9 = some o → zV x g 9 0 0 108 [none, none, none, none, none, none, some (.int w8), none, none] [] m9) hf (fun w8 m9 hf => ?_) (fun K108 hK108 hf => ?_)
  · skip
    refine z_iload C dX5_swarm_108 rfl rfl ?_
    exact hr _ _ _ _ (Option.some.inj hf) dX5_swarm_110
  · skip
    refine klp_V (fun z => zV x g 9 0 0 50 [some (.ref (zad g 0)), some (.int a1), some (.int a2), some (.int a3), some (.int a4), some (.int a5), some (.int z.1), some (.int z.2.1), none] [] z.2.2) hf (fun rec z ih hf => ?_)
    obtain ⟨x10, x11, m12⟩ := z
    unfold sX5_swarm_50 at hf
    try dsimp only at hf
    try dsimp only
    refine z_iload C dX5_swarm_50 rfl rfl ?_
    refine z_iload_n (i := 3) C dX5_swarm_52 rfl rfl rfl ?_
    refine z_ic_ge (tgt := 108) C dX5_swarm_53 (by decide) rfl hf (fun hf => ?_) (fun hf => ?_)
    · skip
      refine z_drop (lo' := [none, some (.int a1), some (.int a2), some (.int a3), some (.int a4), some (.int a5), some (.int x10), some (.int x11), none]) 0 rfl ?_
      refine z_drop (lo' := [none, none, some (.int a2), some (.int a3), some (.int a4), some (.int a5), some (.int x10), some (.int x11), none]) 1 rfl ?_
      refine z_drop (lo' := [none, none, none, some (.int a3), some (.int a4), some (.int a5), some (.int x10), some (.int x11), none]) 2 rfl ?_
      refine z_drop (lo' := [none, none, none, none, some (.int a4), some (.int a5), some (.int x10), some (.int x11), none]) 3 rfl ?_
      refine z_drop (lo' := [none, none, none, none, none, some (.int a5), some (.int x10), some (.int x11), none]) 4 rfl ?_
      refine z_drop (lo' := [none, none, none, none, none, none, some (.int x10), some (.int x11), none]) 5 rfl ?_
      refine z_drop (lo' := [none, none, none, none, none, none, some (.int x10), none, none]) 7 rfl ?_
      exact hK108 _ _ hf
    · skip
      refine z_iload_n (i := 1) C dX5_swarm_56 rfl rfl rfl ?_
      refine z_iload C dX5_swarm_57 rfl rfl ?_
      refine z_iload_n (i := 2) C dX5_swarm_59 rfl rfl rfl ?_
      refine z_imul C dX5_swarm_60 rfl ?_
      refine z_iadd C dX5_swarm_61 rfl ?_
      refine z_sipush C dX5_swarm_62 zs_255 rfl ?_
      refine z_iand C dX5_swarm_65 rfl ?_
      refine z_top _ hf (fun v13 hf => ?_)
      refine z_istore (lo' := [some (.ref (zad g 0)), some (.int a1), some (.int a2), some (.int a3), some (.int a4), some (.int a5), some (.int x10), some (.int x11), some (.int v13)]) C dX5_swarm_66 (Nat.le_of_ble_eq_true rfl) rfl rfl rfl ?_
      refine z_aload_n (i := 0) C dX5_swarm_68 rfl rfl rfl ?_
      refine z_iload C dX5_swarm_69 rfl rfl ?_
      refine z_iload C dX5_swarm_71 rfl rfl ?_
      refine z_iload C dX5_swarm_73 rfl rfl ?_
      refine z_cviR (As := [.int v13, .int a4, .int a5]) (st := []) (m := m12) C (cl_4 hC) (tn_0 hC) (tc_0 hC) gX5_swarm_X5_admissionFault hdX5_admissionFault rfl (fun z h => qX5_admissionFault hC N v13 a4 a5 m12 z h) rfl (Nat.le_of_ble_eq_true rfl) ⟨Nat.le_of_ble_eq_true rfl, Nat.le_of_ble_eq_true rfl⟩ ⟨Nat.le_refl _, Nat.le_refl _⟩ dX5_swarm_75 rfl rfl hf (fun v14 hf => ?_)
      refine z_if_ne (tgt := 102) C dX5_swarm_78 (by decide) rfl hf (fun hf => ?_) (fun hf => ?_)
      · skip
        refine z_iinc (v := x11 + 1) (lo' := [some (.ref (zad g 0)), some (.int a1), some (.int a2), some (.int a3), some (.int a4), some (.int a5), some (.int x10), some (.int (x11 + 1)), some (.int v13)]) C dX5_swarm_102 rfl (zinc zi_1) (Nat.le_of_ble_eq_true rfl) rfl rfl rfl ?_
        refine z_goto (pc' := 50) C dX5_swarm_105 (by decide) ?_
        refine z_drop (lo' := [some (.ref (zad g 0)), some (.int a1), some (.int a2), some (.int a3), some (.int a4), some (.int a5), some (.int x10), some (.int (x11 + 1)), none]) 8 rfl ?_
        exact ih (x10, x11 + 1, m12) hf
      · skip
        refine z_aload_n (i := 0) C dX5_swarm_81 rfl rfl rfl ?_
        refine z_gv C (FX5_swarm_26 hC) (tn_0 hC) (tc_0 hC) rfl dX5_swarm_82 rfl hf (fun s15 hf => ?_)
        refine kis_V hf (fun hs15 hf => ?_)
        refine z_aload_n (i := 0) C dX5_swarm_85 rfl rfl rfl ?_
        refine z_gr C (FX5_swarm_10 hC) (tn_0 hC) (tc_0 hC) rfl dX5_swarm_86 rfl ?_
        refine z_iload C dX5_swarm_89 rfl rfl ?_
        refine z_iload C dX5_swarm_91 rfl rfl ?_
        refine z_iload C dX5_swarm_93 rfl rfl ?_
        refine z_cviW (As := [.ref (zad g 1), .int v13, .int a4, .int a5]) (st := []) (m := m12) C (cl_1 hC) (sn_0 hC hs15) (sc_0 hC hs15) gX5_swarm_X2_enter hdX2_enter rfl (fun z h => qX2_enter hC N s15 v13 a4 a5 m12 hs15 z h) rfl (Nat.le_of_ble_eq_true rfl) ⟨Nat.le_of_ble_eq_true rfl, Nat.le_of_ble_eq_true rfl⟩ ⟨Nat.le_refl _, Nat.le_refl _⟩ dX5_swarm_95 rfl rfl hf (fun v16 m17 hf => ?_)
        refine z_pop C dX5_swarm_98 rfl rfl ?_
        refine z_iinc (v := x10 + 1) (lo' := [some (.ref (zad g 0)), some (.int a1), some (.int a2), some (.int a3), some (.int a4), some (.int a5), some (.int (x10 + 1)), some (.int x11), some (.int v13)]) C dX5_swarm_99 rfl (zinc zi_1) (Nat.le_of_ble_eq_true rfl) rfl rfl rfl ?_
        refine z_iinc (v := x11 + 1) (lo' := [some (.ref (zad g 0)), some (.int a1), some (.int a2), some (.int a3), some (.int a4), some (.int a5), some (.int (x10 + 1)), some (.int (x11 + 1)), some (.int v13)]) C dX5_swarm_102 rfl (zinc zi_1) (Nat.le_of_ble_eq_true rfl) rfl rfl rfl ?_
        refine z_goto (pc' := 50) C dX5_swarm_105 (by decide) ?_
        refine z_drop (lo' := [some (.ref (zad g 0)), some (.int a1), some (.int a2), some (.int a3), some (.int a4), some (.int a5), some (.int (x10 + 1)), some (.int (x11 + 1)), none]) 8 rfl ?_
        exact ih (x10 + 1, x11 + 1, m17) hf

def fX5_lookupFault (a1 : Int32) (a2 : Int32) (m : zMem) : Option (Int32) :=
  kc1 (fX5_isOutside a2 0 255) fun v1 =>
  if v1 = 0 then
  kc1 (fX5_memberFault a1 m) fun v2 =>
  some v2
  else
  some 1
theorem hdX5_lookupFault : yX5_lookupFault.cls = RX5 ∧ yX5_lookupFault.cls ≠ "java/lang/invoke/MethodHandle" ∧ yX5_lookupFault.cls ≠ "java/lang/invoke/VarHandle" ∧ (parseMethodDescriptor yX5_lookupFault.desc).map (fun d => d.parameters.length) = some 2 := by decide +kernel
set_option maxHeartbeats 4000000 in
set_option maxRecDepth 100000 in
theorem qX5_lookupFault {l : Launch} {g : zG} (hC : isC g)  (a1 : Int32) (a2 : Int32) (m : zMem)  (o : Int32) (hf : fX5_lookupFault a1 a2 m = some o) : zMI l g yX5_lookupFault wsX5_lookupFault { frames := 2, cells := 0, slots := 0, locals := 43 } [.ref (zad g 0), .int a1, .int a2] m (o, m) := by
  refine z_met_i (cc := cX5_lookupFault) (maxL := 3) (lo0 := [some (.ref (zad g 0)), some (.int a1), some (.int a2)]) (by decide +kernel) rfl rfl (Nat.le_of_ble_eq_true rfl) (fun x hx C hr => ?_)
  unfold fX5_lookupFault at hf
  refine z_iload_n (i := 2) C dX5_lookupFault_0 rfl rfl rfl ?_
  refine z_iconst C dX5_lookupFault_1 zi_0 rfl ?_
  refine z_sipush C dX5_lookupFault_2 zs_255 rfl ?_
  refine z_csiR (As := [.int a2, .int 0, .int 255]) (st := []) (m := m) C gX5_lookupFault_X5_isOutside hdX5_isOutside rfl (fun z h => qX5_isOutside a2 0 255 m z h) rfl (Nat.le_of_ble_eq_true rfl) ⟨Nat.le_of_ble_eq_true rfl, Nat.le_of_ble_eq_true rfl⟩ ⟨Nat.le_refl _, Nat.le_refl _⟩ dX5_lookupFault_5 rfl rfl hf (fun v1 hf => ?_)
  refine z_if_eq (tgt := 13) C dX5_lookupFault_8 (by decide) rfl hf (fun hf => ?_) (fun hf => ?_)
  · skip
    refine z_aload_n (i := 0) C dX5_lookupFault_13 rfl rfl rfl ?_
    refine z_iload_n (i := 1) C dX5_lookupFault_14 rfl rfl rfl ?_
    refine z_cviR (As := [.int a1]) (st := []) (m := m) C (cl_4 hC) (tn_0 hC) (tc_0 hC) gX5_lookupFault_X5_memberFault hdX5_memberFault rfl (fun z h => qX5_memberFault hC a1 m z h) rfl (Nat.le_of_ble_eq_true rfl) ⟨Nat.le_of_ble_eq_true rfl, Nat.le_of_ble_eq_true rfl⟩ ⟨Nat.le_refl _, Nat.le_refl _⟩ dX5_lookupFault_15 rfl rfl hf (fun v2 hf => ?_)
    exact hr _ _ _ _ (congrArg (fun z => (z, m)) (Option.some.inj hf)) dX5_lookupFault_18
  · skip
    refine z_iconst C dX5_lookupFault_11 zi_1 rfl ?_
    exact hr _ _ _ _ (congrArg (fun z => (z, m)) (Option.some.inj hf)) dX5_lookupFault_12

def fX5_lookup (N : Nat) (a1 : Int32) (a2 : Int32) (m : zMem) : Option (Int32 × zMem) :=
  kc1 (fX5_lookupFault a1 a2 m) fun v1 =>
  kc1 (fX5_raise v1) fun u2 =>
  kc1 (fX5_save m) fun m3 =>
  kgr m3 0 fun s4 => kis s4 <|
  kc2 (fX2_makeLookup N s4 a1 a2 m3) fun v5 m6 =>
  some (v5, m6)
theorem FX5_lookup_10 {g : zG} (hC : isC g) : zFl wsX5_lookup RX5 (zcl g) 10 4 0 := ⟨RX5, TX5, 7, hC.2.2 ▸ rfl, by decide +kernel, by decide, by decide +kernel⟩
theorem FX5_lookup_26 {g : zG} (hC : isC g) : zFl wsX5_lookup RX5 (zcl g) 26 4 2 := ⟨RX5, TX5, 7, hC.2.2 ▸ rfl, by decide +kernel, by decide, by decide +kernel⟩
theorem hdX5_lookup : yX5_lookup.cls = RX5 ∧ yX5_lookup.cls ≠ "java/lang/invoke/MethodHandle" ∧ yX5_lookup.cls ≠ "java/lang/invoke/VarHandle" ∧ (parseMethodDescriptor yX5_lookup.desc).map (fun d => d.parameters.length) = some 2 := by decide +kernel
set_option maxHeartbeats 4000000 in
set_option maxRecDepth 100000 in
theorem qX5_lookup {l : Launch} {g : zG} (hC : isC g)  (N : Nat) (a1 : Int32) (a2 : Int32) (m : zMem)  (o : Int32 × zMem) (hf : fX5_lookup N a1 a2 m = some o) : zMI l g yX5_lookup wsX5_lookup { frames := 4, cells := 0, slots := 0, locals := 106 } [.ref (zad g 0), .int a1, .int a2] m o := by
  refine z_met_i (cc := cX5_lookup) (maxL := 3) (lo0 := [some (.ref (zad g 0)), some (.int a1), some (.int a2)]) (by decide +kernel) rfl rfl (Nat.le_of_ble_eq_true rfl) (fun x hx C hr => ?_)
  unfold fX5_lookup at hf
  refine z_aload_n (i := 0) C dX5_lookup_0 rfl rfl rfl ?_
  refine z_iload_n (i := 1) C dX5_lookup_1 rfl rfl rfl ?_
  refine z_iload_n (i := 2) C dX5_lookup_2 rfl rfl rfl ?_
  refine z_cviR (As := [.int a1, .int a2]) (st := []) (m := m) C (cl_4 hC) (tn_0 hC) (tc_0 hC) gX5_lookup_X5_lookupFault hdX5_lookupFault rfl (fun z h => qX5_lookupFault hC a1 a2 m z h) rfl (Nat.le_of_ble_eq_true rfl) ⟨Nat.le_of_ble_eq_true rfl, Nat.le_of_ble_eq_true rfl⟩ ⟨Nat.le_refl _, Nat.le_refl _⟩ dX5_lookup_3 rfl rfl hf (fun v1 hf => ?_)
  refine z_csvR (As := [.int v1]) (st := []) (m := m) C gX5_lookup_X5_raise hdX5_raise rfl (fun z h => qX5_raise v1 m z h) rfl (Nat.le_of_ble_eq_true rfl) ⟨Nat.le_of_ble_eq_true rfl, Nat.le_of_ble_eq_true rfl⟩ ⟨Nat.le_refl _, Nat.le_refl _⟩ dX5_lookup_6 rfl rfl hf (fun u2 hf => ?_)
  refine z_aload_n (i := 0) C dX5_lookup_9 rfl rfl rfl ?_
  refine z_cvvW (As := []) (st := []) (m := m) C (cl_4 hC) (tn_0 hC) (tc_0 hC) gX5_lookup_X5_save hdX5_save rfl (fun z h => qX5_save hC m z h) rfl (Nat.le_of_ble_eq_true rfl) ⟨Nat.le_of_ble_eq_true rfl, Nat.le_of_ble_eq_true rfl⟩ ⟨Nat.le_refl _, Nat.le_refl _⟩ dX5_lookup_10 rfl rfl hf (fun m3 hf => ?_)
  refine z_aload_n (i := 0) C dX5_lookup_13 rfl rfl rfl ?_
  refine z_gv C (FX5_lookup_26 hC) (tn_0 hC) (tc_0 hC) rfl dX5_lookup_14 rfl hf (fun s4 hf => ?_)
  refine kis_V hf (fun hs4 hf => ?_)
  refine z_aload_n (i := 0) C dX5_lookup_17 rfl rfl rfl ?_
  refine z_gr C (FX5_lookup_10 hC) (tn_0 hC) (tc_0 hC) rfl dX5_lookup_18 rfl ?_
  refine z_iload_n (i := 1) C dX5_lookup_21 rfl rfl rfl ?_
  refine z_iload_n (i := 2) C dX5_lookup_22 rfl rfl rfl ?_
  refine z_cviW (As := [.ref (zad g 1), .int a1, .int a2]) (st := []) (m := m3) C (cl_1 hC) (sn_0 hC hs4) (sc_0 hC hs4) gX5_lookup_X2_makeLookup hdX2_makeLookup rfl (fun z h => qX2_makeLookup hC N s4 a1 a2 m3 hs4 z h) rfl (Nat.le_of_ble_eq_true rfl) ⟨Nat.le_of_ble_eq_true rfl, Nat.le_of_ble_eq_true rfl⟩ ⟨Nat.le_refl _, Nat.le_refl _⟩ dX5_lookup_23 rfl rfl hf (fun v5 m6 hf => ?_)
  exact hr _ _ _ _ (Option.some.inj hf) dX5_lookup_26

def fX5_probe (N : Nat) (a1 : Int32) (a2 : Int32) (a3 : Int32) (m : zMem) : Option (Int32 × zMem) :=
  kc1 (fX5_refuseOutside a3 0 3) fun u1 =>
  kc1 (fX5_lookupFault a1 a2 m) fun v2 =>
  kc1 (fX5_raise v2) fun u3 =>
  kgr m 0 fun s4 => kis s4 <|
  kc1 (fX4_trace N s4 a1 a2 m) fun m5 =>
  if a3 = 0 then
  kgi m5 1 3 fun v6 =>
  some (v6, m5)
  else if a3 = 1 then
  kgi m5 1 1 fun v7 =>
  some (v7, m5)
  else if a3 = 2 then
  kgi m5 1 2 fun v8 =>
  some (v8, m5)
  else kgi m5 1 4 fun v9 =>
  if v9 = 0 then
  some (0, m5)
  else
  some (1, m5)
theorem FX5_probe_10 {g : zG} (hC : isC g) : zFl wsX5_probe RX5 (zcl g) 10 4 0 := ⟨RX5, TX5, 7, hC.2.2 ▸ rfl, by decide +kernel, by decide, by decide +kernel⟩
theorem FX5_probe_26 {g : zG} (hC : isC g) : zFl wsX5_probe RX5 (zcl g) 26 4 2 := ⟨RX5, TX5, 7, hC.2.2 ▸ rfl, by decide +kernel, by decide, by decide +kernel⟩
theorem FX5_probe_128 {g : zG} (hC : isC g) : zFl wsX5_probe RX5 (zcl g) 128 3 3 := ⟨RX4, TX4, 10, hC.2.2 ▸ rfl, by decide +kernel, by decide, by decide +kernel⟩
theorem FX5_probe_131 {g : zG} (hC : isC g) : zFl wsX5_probe RX5 (zcl g) 131 3 1 := ⟨RX4, TX4, 10, hC.2.2 ▸ rfl, by decide +kernel, by decide, by decide +kernel⟩
theorem FX5_probe_134 {g : zG} (hC : isC g) : zFl wsX5_probe RX5 (zcl g) 134 3 2 := ⟨RX4, TX4, 10, hC.2.2 ▸ rfl, by decide +kernel, by decide, by decide +kernel⟩
theorem FX5_probe_137 {g : zG} (hC : isC g) : zFl wsX5_probe RX5 (zcl g) 137 3 4 := ⟨RX4, TX4, 10, hC.2.2 ▸ rfl, by decide +kernel, by decide, by decide +kernel⟩
theorem hdX5_probe : yX5_probe.cls = RX5 ∧ yX5_probe.cls ≠ "java/lang/invoke/MethodHandle" ∧ yX5_probe.cls ≠ "java/lang/invoke/VarHandle" ∧ (parseMethodDescriptor yX5_probe.desc).map (fun d => d.parameters.length) = some 3 := by decide +kernel
set_option maxHeartbeats 4000000 in
set_option maxRecDepth 100000 in
theorem qX5_probe {l : Launch} {g : zG} (hC : isC g)  (N : Nat) (a1 : Int32) (a2 : Int32) (a3 : Int32) (m : zMem)  (o : Int32 × zMem) (hf : fX5_probe N a1 a2 a3 m = some o) : zMI l g yX5_probe wsX5_probe { frames := 3, cells := 0, slots := 0, locals := 81 } [.ref (zad g 0), .int a1, .int a2, .int a3] m o := by
  refine z_met_i (cc := cX5_probe) (maxL := 4) (lo0 := [some (.ref (zad g 0)), some (.int a1), some (.int a2), some (.int a3)]) (by decide +kernel) rfl rfl (Nat.le_of_ble_eq_true rfl) (fun x hx C hr => ?_)
  unfold fX5_probe at hf
  refine z_iload_n (i := 3) C dX5_probe_0 rfl rfl rfl ?_
  refine z_iconst C dX5_probe_1 zi_0 rfl ?_
  refine z_iconst C dX5_probe_2 zi_3 rfl ?_
  refine z_csvR (As := [.int a3, .int 0, .int 3]) (st := []) (m := m) C gX5_probe_X5_refuseOutside hdX5_refuseOutside rfl (fun z h => qX5_refuseOutside a3 0 3 m z h) rfl (Nat.le_of_ble_eq_true rfl) ⟨Nat.le_of_ble_eq_true rfl, Nat.le_of_ble_eq_true rfl⟩ ⟨Nat.le_refl _, Nat.le_refl _⟩ dX5_probe_3 rfl rfl hf (fun u1 hf => ?_)
  refine z_aload_n (i := 0) C dX5_probe_6 rfl rfl rfl ?_
  refine z_iload_n (i := 1) C dX5_probe_7 rfl rfl rfl ?_
  refine z_iload_n (i := 2) C dX5_probe_8 rfl rfl rfl ?_
  refine z_cviR (As := [.int a1, .int a2]) (st := []) (m := m) C (cl_4 hC) (tn_0 hC) (tc_0 hC) gX5_probe_X5_lookupFault hdX5_lookupFault rfl (fun z h => qX5_lookupFault hC a1 a2 m z h) rfl (Nat.le_of_ble_eq_true rfl) ⟨Nat.le_of_ble_eq_true rfl, Nat.le_of_ble_eq_true rfl⟩ ⟨Nat.le_refl _, Nat.le_refl _⟩ dX5_probe_9 rfl rfl hf (fun v2 hf => ?_)
  refine z_csvR (As := [.int v2]) (st := []) (m := m) C gX5_probe_X5_raise hdX5_raise rfl (fun z h => qX5_raise v2 m z h) rfl (Nat.le_of_ble_eq_true rfl) ⟨Nat.le_of_ble_eq_true rfl, Nat.le_of_ble_eq_true rfl⟩ ⟨Nat.le_refl _, Nat.le_refl _⟩ dX5_probe_12 rfl rfl hf (fun u3 hf => ?_)
  refine z_aload_n (i := 0) C dX5_probe_15 rfl rfl rfl ?_
  refine z_gr C (FX5_probe_10 hC) (tn_0 hC) (tc_0 hC) rfl dX5_probe_16 rfl ?_
  refine z_aload_n (i := 0) C dX5_probe_19 rfl rfl rfl ?_
  refine z_gv C (FX5_probe_26 hC) (tn_0 hC) (tc_0 hC) rfl dX5_probe_20 rfl hf (fun s4 hf => ?_)
  refine kis_V hf (fun hs4 hf => ?_)
  refine z_iload_n (i := 1) C dX5_probe_23 rfl rfl rfl ?_
  refine z_iload_n (i := 2) C dX5_probe_24 rfl rfl rfl ?_
  refine z_cvvW (As := [.ref (zad g s4), .int a1, .int a2]) (st := []) (m := m) C (cl_3 hC) (tn_1 hC) (tc_1 hC) gX5_probe_X4_trace hdX4_trace rfl (fun z h => qX4_trace hC N s4 a1 a2 m hs4 z h) rfl (Nat.le_of_ble_eq_true rfl) ⟨Nat.le_of_ble_eq_true rfl, Nat.le_of_ble_eq_true rfl⟩ ⟨Nat.le_refl _, Nat.le_refl _⟩ dX5_probe_25 rfl rfl hf (fun m5 hf => ?_)
  refine z_iload_n (i := 3) C dX5_probe_28 rfl rfl rfl ?_
  refine ite_V hf (fun hn hf => ?_) (fun hn29_0 hf => ?_)
  · refine z_tsi (tgt := 56) C hn dX5_probe_29 (by decide) (by decide) rfl (by decide) ?_
    refine z_aload_n (i := 0) C dX5_probe_56 rfl rfl rfl ?_
    refine z_gr C (FX5_probe_10 hC) (tn_0 hC) (tc_0 hC) rfl dX5_probe_57 rfl ?_
    refine z_gi C (FX5_probe_128 hC) (tn_1 hC) (tc_1 hC) rfl dX5_probe_60 rfl hf (fun v6 hf => ?_)
    exact hr _ _ _ _ (Option.some.inj hf) dX5_probe_63
  · skip
    refine ite_V hf (fun hn hf => ?_) (fun hn29_1 hf => ?_)
    · refine z_tsi (tgt := 64) C hn dX5_probe_29 (by decide) (by decide) rfl (by decide) ?_
      refine z_aload_n (i := 0) C dX5_probe_64 rfl rfl rfl ?_
      refine z_gr C (FX5_probe_10 hC) (tn_0 hC) (tc_0 hC) rfl dX5_probe_65 rfl ?_
      refine z_gi C (FX5_probe_131 hC) (tn_1 hC) (tc_1 hC) rfl dX5_probe_68 rfl hf (fun v7 hf => ?_)
      exact hr _ _ _ _ (Option.some.inj hf) dX5_probe_71
    · skip
      refine ite_V hf (fun hn hf => ?_) (fun hn29_2 hf => ?_)
      · refine z_tsi (tgt := 72) C hn dX5_probe_29 (by decide) (by decide) rfl (by decide) ?_
        refine z_aload_n (i := 0) C dX5_probe_72 rfl rfl rfl ?_
        refine z_gr C (FX5_probe_10 hC) (tn_0 hC) (tc_0 hC) rfl dX5_probe_73 rfl ?_
        refine z_gi C (FX5_probe_134 hC) (tn_1 hC) (tc_1 hC) rfl dX5_probe_76 rfl hf (fun v8 hf => ?_)
        exact hr _ _ _ _ (Option.some.inj hf) dX5_probe_79
      · skip
        refine z_tso (tgt := 80) C dX5_probe_29 (z_tswd (fun c h1 h2 => ?_)) (by decide) ?_
        · have hc : c = 0 ∨ c = 1 ∨ c = 2 := by omega
          rcases hc with rfl|rfl|rfl
          · rw [zi_0]; exact hn29_0
          · rw [zi_1]; exact hn29_1
          · rw [zi_2]; exact hn29_2
        · skip
          refine z_aload_n (i := 0) C dX5_probe_80 rfl rfl rfl ?_
          refine z_gr C (FX5_probe_10 hC) (tn_0 hC) (tc_0 hC) rfl dX5_probe_81 rfl ?_
          refine z_gi C (FX5_probe_137 hC) (tn_1 hC) (tc_1 hC) rfl dX5_probe_84 rfl hf (fun v9 hf => ?_)
          refine z_if_eq (tgt := 94) C dX5_probe_87 (by decide) rfl hf (fun hf => ?_) (fun hf => ?_)
          · skip
            refine z_iconst C dX5_probe_94 zi_0 rfl ?_
            exact hr _ _ _ _ (Option.some.inj hf) dX5_probe_95
          · skip
            refine z_iconst C dX5_probe_90 zi_1 rfl ?_
            refine z_goto (pc' := 95) C dX5_probe_91 (by decide) ?_
            exact hr _ _ _ _ (Option.some.inj hf) dX5_probe_95

def sX5_reach_12 (N : Nat) (a1 : Int32) (K51 : Int32 → zMem → Option (Int32 × zMem)) : (Int32 × Int32 × zMem → Option (Int32 × zMem)) → Int32 × Int32 × zMem → Option (Int32 × zMem) := fun rec (x5, x6, m7) =>
  if 255 < x6 then
  K51 x5 m7
  else
  kgr m7 0 fun s8 => kis s8 <|
  kc1 (fX4_trace N s8 a1 x6 m7) fun m9 =>
  kgi m9 1 4 fun v10 =>
  if v10 = 0 then
  rec (x5, x6 + 1, m9)
  else
  rec (x5 + 1, x6 + 1, m9)
def fX5_reach (N : Nat) (a1 : Int32) (m : zMem) : Option (Int32 × zMem) :=
  kc1 (fX5_memberFault a1 m) fun v1 =>
  kc1 (fX5_raise v1) fun u2 =>
  kjn (fun (w3 : Int32) (m4 : zMem) =>
  some (w3, m4)) fun K51 =>
  klp (sX5_reach_12 N a1 K51) N (0, 0, m)
theorem FX5_reach_10 {g : zG} (hC : isC g) : zFl wsX5_reach RX5 (zcl g) 10 4 0 := ⟨RX5, TX5, 7, hC.2.2 ▸ rfl, by decide +kernel, by decide, by decide +kernel⟩
theorem FX5_reach_26 {g : zG} (hC : isC g) : zFl wsX5_reach RX5 (zcl g) 26 4 2 := ⟨RX5, TX5, 7, hC.2.2 ▸ rfl, by decide +kernel, by decide, by decide +kernel⟩
theorem FX5_reach_137 {g : zG} (hC : isC g) : zFl wsX5_reach RX5 (zcl g) 137 3 4 := ⟨RX4, TX4, 10, hC.2.2 ▸ rfl, by decide +kernel, by decide, by decide +kernel⟩
theorem hdX5_reach : yX5_reach.cls = RX5 ∧ yX5_reach.cls ≠ "java/lang/invoke/MethodHandle" ∧ yX5_reach.cls ≠ "java/lang/invoke/VarHandle" ∧ (parseMethodDescriptor yX5_reach.desc).map (fun d => d.parameters.length) = some 1 := by decide +kernel
set_option maxHeartbeats 4000000 in
set_option maxRecDepth 100000 in
theorem qX5_reach {l : Launch} {g : zG} (hC : isC g)  (N : Nat) (a1 : Int32) (m : zMem)  (o : Int32 × zMem) (hf : fX5_reach N a1 m = some o) : zMI l g yX5_reach wsX5_reach { frames := 3, cells := 0, slots := 0, locals := 81 } [.ref (zad g 0), .int a1] m o := by
  refine z_met_i (cc := cX5_reach) (maxL := 4) (lo0 := [some (.ref (zad g 0)), some (.int a1), none, none]) (by decide +kernel) rfl rfl (Nat.le_of_ble_eq_true rfl) (fun x hx C hr => ?_)
  unfold fX5_reach at hf
  refine z_aload_n (i := 0) C dX5_reach_0 rfl rfl rfl ?_
  refine z_iload_n (i := 1) C dX5_reach_1 rfl rfl rfl ?_
  refine z_cviR (As := [.int a1]) (st := []) (m := m) C (cl_4 hC) (tn_0 hC) (tc_0 hC) gX5_reach_X5_memberFault hdX5_memberFault rfl (fun z h => qX5_memberFault hC a1 m z h) rfl (Nat.le_of_ble_eq_true rfl) ⟨Nat.le_of_ble_eq_true rfl, Nat.le_of_ble_eq_true rfl⟩ ⟨Nat.le_refl _, Nat.le_refl _⟩ dX5_reach_2 rfl rfl hf (fun v1 hf => ?_)
  refine z_csvR (As := [.int v1]) (st := []) (m := m) C gX5_reach_X5_raise hdX5_raise rfl (fun z h => qX5_raise v1 m z h) rfl (Nat.le_of_ble_eq_true rfl) ⟨Nat.le_of_ble_eq_true rfl, Nat.le_of_ble_eq_true rfl⟩ ⟨Nat.le_refl _, Nat.le_refl _⟩ dX5_reach_5 rfl rfl hf (fun u2 hf => ?_)
  refine z_iconst C dX5_reach_8 zi_0 rfl ?_
  refine z_istore_n (i := 2) (lo' := [some (.ref (zad g 0)), some (.int a1), some (.int 0), none]) C dX5_reach_9 rfl (Nat.le_of_ble_eq_true rfl) rfl rfl rfl ?_
  refine z_iconst C dX5_reach_10 zi_0 rfl ?_
  refine z_istore_n (i := 3) (lo' := [some (.ref (zad g 0)), some (.int a1), some (.int 0), some (.int 0)]) C dX5_reach_11 rfl (Nat.le_of_ble_eq_true rfl) rfl rfl rfl ?_
  refine kjn_V (fun K51 => ∀ (w3 : Int32) (m4 : zMem), K51 w3 m4 = some o → zV x g 4 0 0 51 [none, none, some (.int w3), none] [] m4) hf (fun w3 m4 hf => ?_) (fun K51 hK51 hf => ?_)
  · skip
    refine z_iload_n (i := 2) C dX5_reach_51 rfl rfl rfl ?_
    exact hr _ _ _ _ (Option.some.inj hf) dX5_reach_52
  · skip
    refine klp_V (fun z => zV x g 4 0 0 12 [some (.ref (zad g 0)), some (.int a1), some (.int z.1), some (.int z.2.1)] [] z.2.2) hf (fun rec z ih hf => ?_)
    obtain ⟨x5, x6, m7⟩ := z
    unfold sX5_reach_12 at hf
    try dsimp only at hf
    try dsimp only
    refine z_iload_n (i := 3) C dX5_reach_12 rfl rfl rfl ?_
    refine z_sipush C dX5_reach_13 zs_255 rfl ?_
    refine z_ic_gt (tgt := 51) C dX5_reach_16 (by decide) rfl hf (fun hf => ?_) (fun hf => ?_)
    · skip
      refine z_drop (lo' := [none, some (.int a1), some (.int x5), some (.int x6)]) 0 rfl ?_
      refine z_drop (lo' := [none, none, some (.int x5), some (.int x6)]) 1 rfl ?_
      refine z_drop (lo' := [none, none, some (.int x5), none]) 3 rfl ?_
      exact hK51 _ _ hf
    · skip
      refine z_aload_n (i := 0) C dX5_reach_19 rfl rfl rfl ?_
      refine z_gr C (FX5_reach_10 hC) (tn_0 hC) (tc_0 hC) rfl dX5_reach_20 rfl ?_
      refine z_aload_n (i := 0) C dX5_reach_23 rfl rfl rfl ?_
      refine z_gv C (FX5_reach_26 hC) (tn_0 hC) (tc_0 hC) rfl dX5_reach_24 rfl hf (fun s8 hf => ?_)
      refine kis_V hf (fun hs8 hf => ?_)
      refine z_iload_n (i := 1) C dX5_reach_27 rfl rfl rfl ?_
      refine z_iload_n (i := 3) C dX5_reach_28 rfl rfl rfl ?_
      refine z_cvvW (As := [.ref (zad g s8), .int a1, .int x6]) (st := []) (m := m7) C (cl_3 hC) (tn_1 hC) (tc_1 hC) gX5_reach_X4_trace hdX4_trace rfl (fun z h => qX4_trace hC N s8 a1 x6 m7 hs8 z h) rfl (Nat.le_of_ble_eq_true rfl) ⟨Nat.le_of_ble_eq_true rfl, Nat.le_of_ble_eq_true rfl⟩ ⟨Nat.le_refl _, Nat.le_refl _⟩ dX5_reach_29 rfl rfl hf (fun m9 hf => ?_)
      refine z_aload_n (i := 0) C dX5_reach_32 rfl rfl rfl ?_
      refine z_gr C (FX5_reach_10 hC) (tn_0 hC) (tc_0 hC) rfl dX5_reach_33 rfl ?_
      refine z_gi C (FX5_reach_137 hC) (tn_1 hC) (tc_1 hC) rfl dX5_reach_36 rfl hf (fun v10 hf => ?_)
      refine z_if_eq (tgt := 45) C dX5_reach_39 (by decide) rfl hf (fun hf => ?_) (fun hf => ?_)
      · skip
        refine z_iinc (v := x6 + 1) (lo' := [some (.ref (zad g 0)), some (.int a1), some (.int x5), some (.int (x6 + 1))]) C dX5_reach_45 rfl (zinc zi_1) (Nat.le_of_ble_eq_true rfl) rfl rfl rfl ?_
        refine z_goto (pc' := 12) C dX5_reach_48 (by decide) ?_
        exact ih (x5, x6 + 1, m9) hf
      · skip
        refine z_iinc (v := x5 + 1) (lo' := [some (.ref (zad g 0)), some (.int a1), some (.int (x5 + 1)), some (.int x6)]) C dX5_reach_42 rfl (zinc zi_1) (Nat.le_of_ble_eq_true rfl) rfl rfl rfl ?_
        refine z_iinc (v := x6 + 1) (lo' := [some (.ref (zad g 0)), some (.int a1), some (.int (x5 + 1)), some (.int (x6 + 1))]) C dX5_reach_45 rfl (zinc zi_1) (Nat.le_of_ble_eq_true rfl) rfl rfl rfl ?_
        refine z_goto (pc' := 12) C dX5_reach_48 (by decide) ?_
        exact ih (x5 + 1, x6 + 1, m9) hf

def fX5_memberValue (N : Nat) (a1 : Int32) (a2 : Int32) (m : zMem) : Option (Int32) :=
  kgr m 0 fun s1 => kis s1 <|
  kc1 (fX2_isMember s1 a1 m) fun v2 =>
  if a2 = 0 then
  if v2 = 0 then
  some 0
  else
  some 1
  else
  if v2 = 0 then
  some (-1)
  else
  kgr m 0 fun s3 => kis s3 <|
  kld m (s3 + 2) 256 a1 fun v4 =>
  if a2 = 1 then
  kgr m 0 fun s5 => kis s5 <|
  kld m (s5 + 4) 24 v4 fun v6 =>
  some v6
  else if a2 = 2 then
  kgr m 0 fun s7 => kis s7 <|
  kld m (s7 + 5) 24 v4 fun v8 =>
  some v8
  else if a2 = 3 then
  kgr m 0 fun s9 => kis s9 <|
  kc1 (fX3_entriesOf N s9 v4 m) fun v10 =>
  some v10
  else kgr m 0 fun s11 => kis s11 <|
  kc1 (fX2_tablesWith N s11 a1 m) fun v12 =>
  some v12
theorem FX5_memberValue_26 {g : zG} (hC : isC g) : zFl wsX5_memberValue RX5 (zcl g) 26 4 2 := ⟨RX5, TX5, 7, hC.2.2 ▸ rfl, by decide +kernel, by decide, by decide +kernel⟩
theorem FX5_memberValue_148 {g : zG} (hC : isC g) : zFl wsX5_memberValue RX5 (zcl g) 148 1 9 := ⟨RX2, TX2, 14, hC.2.2 ▸ rfl, by decide +kernel, by decide, by decide +kernel⟩
theorem FX5_memberValue_157 {g : zG} (hC : isC g) : zFl wsX5_memberValue RX5 (zcl g) 157 1 13 := ⟨RX2, TX2, 14, hC.2.2 ▸ rfl, by decide +kernel, by decide, by decide +kernel⟩
theorem FX5_memberValue_228 {g : zG} (hC : isC g) : zFl wsX5_memberValue RX5 (zcl g) 228 1 11 := ⟨RX2, TX2, 14, hC.2.2 ▸ rfl, by decide +kernel, by decide, by decide +kernel⟩
theorem FX5_memberValue_229 {g : zG} (hC : isC g) : zFl wsX5_memberValue RX5 (zcl g) 229 1 12 := ⟨RX2, TX2, 14, hC.2.2 ▸ rfl, by decide +kernel, by decide, by decide +kernel⟩
theorem hdX5_memberValue : yX5_memberValue.cls = RX5 ∧ yX5_memberValue.cls ≠ "java/lang/invoke/MethodHandle" ∧ yX5_memberValue.cls ≠ "java/lang/invoke/VarHandle" ∧ (parseMethodDescriptor yX5_memberValue.desc).map (fun d => d.parameters.length) = some 2 := by decide +kernel
set_option maxHeartbeats 4000000 in
set_option maxRecDepth 100000 in
theorem qX5_memberValue {l : Launch} {g : zG} (hC : isC g)  (N : Nat) (a1 : Int32) (a2 : Int32) (m : zMem)  (o : Int32) (hf : fX5_memberValue N a1 a2 m = some o) : zMI l g yX5_memberValue wsX5_memberValue { frames := 3, cells := 0, slots := 0, locals := 68 } [.ref (zad g 0), .int a1, .int a2] m (o, m) := by
  refine z_met_i (cc := cX5_memberValue) (maxL := 5) (lo0 := [some (.ref (zad g 0)), some (.int a1), some (.int a2), none, none]) (by decide +kernel) rfl rfl (Nat.le_of_ble_eq_true rfl) (fun x hx C hr => ?_)
  unfold fX5_memberValue at hf
  refine z_aload_n (i := 0) C dX5_memberValue_0 rfl rfl rfl ?_
  refine z_gv C (FX5_memberValue_26 hC) (tn_0 hC) (tc_0 hC) rfl dX5_memberValue_1 rfl hf (fun s1 hf => ?_)
  refine kis_V hf (fun hs1 hf => ?_)
  refine z_iload_n (i := 1) C dX5_memberValue_4 rfl rfl rfl ?_
  refine z_cviR (As := [.int a1]) (st := []) (m := m) C (cl_1 hC) (sn_0 hC hs1) (sc_0 hC hs1) gX5_memberValue_X2_isMember hdX2_isMember rfl (fun z h => qX2_isMember hC s1 a1 m hs1 z h) rfl (Nat.le_of_ble_eq_true rfl) ⟨Nat.le_of_ble_eq_true rfl, Nat.le_of_ble_eq_true rfl⟩ ⟨Nat.le_refl _, Nat.le_refl _⟩ dX5_memberValue_5 rfl rfl hf (fun v2 hf => ?_)
  refine z_istore_n (i := 3) (lo' := [some (.ref (zad g 0)), some (.int a1), some (.int a2), some (.int v2), none]) C dX5_memberValue_8 rfl (Nat.le_of_ble_eq_true rfl) rfl rfl rfl ?_
  refine z_iload_n (i := 2) C dX5_memberValue_9 rfl rfl rfl ?_
  refine z_if_ne (tgt := 23) C dX5_memberValue_10 (by decide) rfl hf (fun hf => ?_) (fun hf => ?_)
  · skip
    refine z_iload_n (i := 3) C dX5_memberValue_23 rfl rfl rfl ?_
    refine z_if_ne (tgt := 29) C dX5_memberValue_24 (by decide) rfl hf (fun hf => ?_) (fun hf => ?_)
    · skip
      refine z_aload_n (i := 0) C dX5_memberValue_29 rfl rfl rfl ?_
      refine z_gv C (FX5_memberValue_26 hC) (tn_0 hC) (tc_0 hC) rfl dX5_memberValue_30 rfl hf (fun s3 hf => ?_)
      refine kis_V hf (fun hs3 hf => ?_)
      refine z_gr C (FX5_memberValue_148 hC) (sn_0 hC hs3) (sc_0 hC hs3) rfl dX5_memberValue_33 rfl ?_
      refine z_iload_n (i := 1) C dX5_memberValue_36 rfl rfl rfl ?_
      refine z_iaload C (sn_2 hC hs3) (sc_2 hC hs3) dX5_memberValue_37 rfl hf (fun v4 hf => ?_)
      refine z_istore (lo' := [some (.ref (zad g 0)), some (.int a1), some (.int a2), some (.int v2), some (.int v4)]) C dX5_memberValue_38 (Nat.le_of_ble_eq_true rfl) rfl rfl rfl ?_
      refine z_iload_n (i := 2) C dX5_memberValue_40 rfl rfl rfl ?_
      refine ite_V hf (fun hn hf => ?_) (fun hn41_0 hf => ?_)
      · refine z_tsi (tgt := 68) C hn dX5_memberValue_41 (by decide) (by decide) rfl (by decide) ?_
        refine z_aload_n (i := 0) C dX5_memberValue_68 rfl rfl rfl ?_
        refine z_gv C (FX5_memberValue_26 hC) (tn_0 hC) (tc_0 hC) rfl dX5_memberValue_69 rfl hf (fun s5 hf => ?_)
        refine kis_V hf (fun hs5 hf => ?_)
        refine z_gr C (FX5_memberValue_228 hC) (sn_0 hC hs5) (sc_0 hC hs5) rfl dX5_memberValue_72 rfl ?_
        refine z_iload C dX5_memberValue_75 rfl rfl ?_
        refine z_iaload C (sn_4 hC hs5) (sc_4 hC hs5) dX5_memberValue_77 rfl hf (fun v6 hf => ?_)
        exact hr _ _ _ _ (congrArg (fun z => (z, m)) (Option.some.inj hf)) dX5_memberValue_78
      · skip
        refine ite_V hf (fun hn hf => ?_) (fun hn41_1 hf => ?_)
        · refine z_tsi (tgt := 79) C hn dX5_memberValue_41 (by decide) (by decide) rfl (by decide) ?_
          refine z_aload_n (i := 0) C dX5_memberValue_79 rfl rfl rfl ?_
          refine z_gv C (FX5_memberValue_26 hC) (tn_0 hC) (tc_0 hC) rfl dX5_memberValue_80 rfl hf (fun s7 hf => ?_)
          refine kis_V hf (fun hs7 hf => ?_)
          refine z_gr C (FX5_memberValue_229 hC) (sn_0 hC hs7) (sc_0 hC hs7) rfl dX5_memberValue_83 rfl ?_
          refine z_iload C dX5_memberValue_86 rfl rfl ?_
          refine z_iaload C (sn_5 hC hs7) (sc_5 hC hs7) dX5_memberValue_88 rfl hf (fun v8 hf => ?_)
          exact hr _ _ _ _ (congrArg (fun z => (z, m)) (Option.some.inj hf)) dX5_memberValue_89
        · skip
          refine ite_V hf (fun hn hf => ?_) (fun hn41_2 hf => ?_)
          · refine z_tsi (tgt := 90) C hn dX5_memberValue_41 (by decide) (by decide) rfl (by decide) ?_
            refine z_aload_n (i := 0) C dX5_memberValue_90 rfl rfl rfl ?_
            refine z_gv C (FX5_memberValue_26 hC) (tn_0 hC) (tc_0 hC) rfl dX5_memberValue_91 rfl hf (fun s9 hf => ?_)
            refine kis_V hf (fun hs9 hf => ?_)
            refine z_gr C (FX5_memberValue_157 hC) (sn_0 hC hs9) (sc_0 hC hs9) rfl dX5_memberValue_94 rfl ?_
            refine z_iload C dX5_memberValue_97 rfl rfl ?_
            refine z_cviR (As := [.int v4]) (st := []) (m := m) C (cl_2 hC) (sn_6 hC hs9) (sc_6 hC hs9) gX5_memberValue_X3_entriesOf hdX3_entriesOf rfl (fun z h => qX3_entriesOf hC N s9 v4 m hs9 z h) rfl (Nat.le_of_ble_eq_true rfl) ⟨Nat.le_of_ble_eq_true rfl, Nat.le_of_ble_eq_true rfl⟩ ⟨Nat.le_refl _, Nat.le_refl _⟩ dX5_memberValue_99 rfl rfl hf (fun v10 hf => ?_)
            exact hr _ _ _ _ (congrArg (fun z => (z, m)) (Option.some.inj hf)) dX5_memberValue_102
          · skip
            refine z_tso (tgt := 103) C dX5_memberValue_41 (z_tswd (fun c h1 h2 => ?_)) (by decide) ?_
            · have hc : c = 1 ∨ c = 2 ∨ c = 3 := by omega
              rcases hc with rfl|rfl|rfl
              · rw [zi_1]; exact hn41_0
              · rw [zi_2]; exact hn41_1
              · rw [zi_3]; exact hn41_2
            · skip
              refine z_aload_n (i := 0) C dX5_memberValue_103 rfl rfl rfl ?_
              refine z_gv C (FX5_memberValue_26 hC) (tn_0 hC) (tc_0 hC) rfl dX5_memberValue_104 rfl hf (fun s11 hf => ?_)
              refine kis_V hf (fun hs11 hf => ?_)
              refine z_iload_n (i := 1) C dX5_memberValue_107 rfl rfl rfl ?_
              refine z_cviR (As := [.int a1]) (st := []) (m := m) C (cl_1 hC) (sn_0 hC hs11) (sc_0 hC hs11) gX5_memberValue_X2_tablesWith hdX2_tablesWith rfl (fun z h => qX2_tablesWith hC N s11 a1 m hs11 z h) rfl (Nat.le_of_ble_eq_true rfl) ⟨Nat.le_of_ble_eq_true rfl, Nat.le_of_ble_eq_true rfl⟩ ⟨Nat.le_refl _, Nat.le_refl _⟩ dX5_memberValue_108 rfl rfl hf (fun v12 hf => ?_)
              exact hr _ _ _ _ (congrArg (fun z => (z, m)) (Option.some.inj hf)) dX5_memberValue_111
    · skip
      refine z_iconst C dX5_memberValue_27 zi_m1 rfl ?_
      exact hr _ _ _ _ (congrArg (fun z => (z, m)) (Option.some.inj hf)) dX5_memberValue_28
  · skip
    refine z_iload_n (i := 3) C dX5_memberValue_13 rfl rfl rfl ?_
    refine z_if_eq (tgt := 21) C dX5_memberValue_14 (by decide) rfl hf (fun hf => ?_) (fun hf => ?_)
    · skip
      refine z_iconst C dX5_memberValue_21 zi_0 rfl ?_
      exact hr _ _ _ _ (congrArg (fun z => (z, m)) (Option.some.inj hf)) dX5_memberValue_22
    · skip
      refine z_iconst C dX5_memberValue_17 zi_1 rfl ?_
      refine z_goto (pc' := 22) C dX5_memberValue_18 (by decide) ?_
      exact hr _ _ _ _ (congrArg (fun z => (z, m)) (Option.some.inj hf)) dX5_memberValue_22
