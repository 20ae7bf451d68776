def fX6_overlay (N : Nat) (a1 : Int32) (m : zMem) : Option (Int32 × zMem) :=
  kc1 (fX6_in a1 0 8) fun v1 =>
  kjn (fun (w2 : Int32) =>
  kc2 (fX6_refused w2 m) fun v3 m4 =>
  if v3 = 0 then
  kc1 (fX6_tellOverlay N a1 m4) fun v5 =>
  some (v5, m4)
  else
  some (0, m4)) fun K16 =>
  if v1 = 0 then
  K16 1
  else
  K16 0
theorem hdX6_overlay : yX6_overlay.cls = RX6 ∧ yX6_overlay.cls ≠ "java/lang/invoke/MethodHandle" ∧ yX6_overlay.cls ≠ "java/lang/invoke/VarHandle" ∧ (parseMethodDescriptor yX6_overlay.desc).map (fun d => d.parameters.length) = some 1 := by decide +kernel
set_option maxHeartbeats 4000000 in
set_option maxRecDepth 100000 in
theorem qX6_overlay {l : Launch} {g : zG} (hM : isM g)  (N : Nat) (a1 : Int32) (m : zMem)  (o : Int32 × zMem) (hf : fX6_overlay N a1 m = some o) : zMI l g yX6_overlay wsX6_overlay { frames := 3, cells := 0, slots := 0, locals := 65 } [.ref (zad g 0), .int a1] m o := by
  refine z_met_i (cc := cX6_overlay) (maxL := 2) (lo0 := [some (.ref (zad g 0)), some (.int a1)]) (by decide +kernel) rfl rfl (Nat.le_of_ble_eq_true rfl) (fun x hx C hr => ?_)
  unfold fX6_overlay at hf
  refine z_aload_n (i := 0) C dX6_overlay_0 rfl rfl rfl ?_
  refine z_iload_n (i := 1) C dX6_overlay_1 rfl rfl rfl ?_
  refine z_iconst C dX6_overlay_2 zi_0 rfl ?_
  refine z_bipush C dX6_overlay_3 zb_8 rfl ?_
  refine z_csiR (As := [.int a1, .int 0, .int 8]) (st := [.ref (zad g 0)]) (m := m) C gX6_overlay_X6_in hdX6_in rfl (fun z h => qX6_in a1 0 8 m z h) rfl (Nat.le_of_ble_eq_true rfl) ⟨Nat.le_of_ble_eq_true rfl, Nat.le_of_ble_eq_true rfl⟩ ⟨Nat.le_refl _, Nat.le_refl _⟩ dX6_overlay_5 rfl rfl hf (fun v1 hf => ?_)
  refine kjn_V (fun K16 => ∀ (w2 : Int32), K16 w2 = some o → zV x g 2 0 0 16 [some (.ref (zad g 0)), some (.int a1)] [.int w2, .ref (zad g 0)] m) hf (fun w2 hf => ?_) (fun K16 hK16 hf => ?_)
  · skip
    refine z_cviW (As := [.int w2]) (st := []) (m := m) C (cl_5 hM) (mn_0 hM) (mc_0 hM) gX6_overlay_X6_refused hdX6_refused rfl (fun z h => qX6_refused hM w2 m z h) rfl (Nat.le_of_ble_eq_true rfl) ⟨Nat.le_of_ble_eq_true rfl, Nat.le_of_ble_eq_true rfl⟩ ⟨Nat.le_refl _, Nat.le_refl _⟩ dX6_overlay_16 rfl rfl hf (fun v3 m4 hf => ?_)
    refine z_if_eq (tgt := 26) C dX6_overlay_19 (by decide) rfl hf (fun hf => ?_) (fun hf => ?_)
    · skip
      refine z_aload_n (i := 0) C dX6_overlay_26 rfl rfl rfl ?_
      refine z_iload_n (i := 1) C dX6_overlay_27 rfl rfl rfl ?_
      refine z_cviR (As := [.int a1]) (st := []) (m := m4) C (cl_5 hM) (mn_0 hM) (mc_0 hM) gX6_overlay_X6_tellOverlay hdX6_tellOverlay rfl (fun z h => qX6_tellOverlay hM N a1 m4 z h) rfl (Nat.le_of_ble_eq_true rfl) ⟨Nat.le_of_ble_eq_true rfl, Nat.le_of_ble_eq_true rfl⟩ ⟨Nat.le_refl _, Nat.le_refl _⟩ dX6_overlay_28 rfl rfl hf (fun v5 hf => ?_)
      exact hr _ _ _ _ (Option.some.inj hf) dX6_overlay_31
    · skip
      refine z_iconst C dX6_overlay_22 zi_0 rfl ?_
      refine z_goto (pc' := 31) C dX6_overlay_23 (by decide) ?_
      exact hr _ _ _ _ (Option.some.inj hf) dX6_overlay_31
  · skip
    refine z_if_eq (tgt := 15) C dX6_overlay_8 (by decide) rfl hf (fun hf => ?_) (fun hf => ?_)
    · skip
      refine z_iconst C dX6_overlay_15 zi_1 rfl ?_
      exact hK16 _ hf
    · skip
      refine z_iconst C dX6_overlay_11 zi_0 rfl ?_
      refine z_goto (pc' := 16) C dX6_overlay_12 (by decide) ?_
      exact hK16 _ hf

def fX6_count (a1 : Int32) (m : zMem) : Option (Int32 × zMem) :=
  kc1 (fX6_in a1 0 8) fun v1 =>
  kjn (fun (w2 : Int32) =>
  kc2 (fX6_refused w2 m) fun v3 m4 =>
  if v3 = 0 then
  kld m4 1 1816 (7 + a1) fun v5 =>
  some (v5, m4)
  else
  some (0, m4)) fun K16 =>
  if v1 = 0 then
  K16 1
  else
  K16 0
theorem FX6_count_7 {g : zG} (hM : isM g) : zFl wsX6_count RX6 (zcl g) 7 5 0 := ⟨RX6, TX6, 15, hM.2.2 ▸ rfl, by decide +kernel, by decide, by decide +kernel⟩
theorem hdX6_count : yX6_count.cls = RX6 ∧ yX6_count.cls ≠ "java/lang/invoke/MethodHandle" ∧ yX6_count.cls ≠ "java/lang/invoke/VarHandle" ∧ (parseMethodDescriptor yX6_count.desc).map (fun d => d.parameters.length) = some 1 := by decide +kernel
set_option maxHeartbeats 4000000 in
set_option maxRecDepth 100000 in
theorem qX6_count {l : Launch} {g : zG} (hM : isM g)  (a1 : Int32) (m : zMem)  (o : Int32 × zMem) (hf : fX6_count a1 m = some o) : zMI l g yX6_count wsX6_count { frames := 1, cells := 0, slots := 0, locals := 22 } [.ref (zad g 0), .int a1] m o := by
  refine z_met_i (cc := cX6_count) (maxL := 2) (lo0 := [some (.ref (zad g 0)), some (.int a1)]) (by decide +kernel) rfl rfl (Nat.le_of_ble_eq_true rfl) (fun x hx C hr => ?_)
  unfold fX6_count at hf
  refine z_aload_n (i := 0) C dX6_count_0 rfl rfl rfl ?_
  refine z_iload_n (i := 1) C dX6_count_1 rfl rfl rfl ?_
  refine z_iconst C dX6_count_2 zi_0 rfl ?_
  refine z_bipush C dX6_count_3 zb_8 rfl ?_
  refine z_csiR (As := [.int a1, .int 0, .int 8]) (st := [.ref (zad g 0)]) (m := m) C gX6_count_X6_in hdX6_in rfl (fun z h => qX6_in a1 0 8 m z h) rfl (Nat.le_of_ble_eq_true rfl) ⟨Nat.le_of_ble_eq_true rfl, Nat.le_of_ble_eq_true rfl⟩ ⟨Nat.le_refl _, Nat.le_refl _⟩ dX6_count_5 rfl rfl hf (fun v1 hf => ?_)
  refine kjn_V (fun K16 => ∀ (w2 : Int32), K16 w2 = some o → zV x g 2 0 0 16 [some (.ref (zad g 0)), some (.int a1)] [.int w2, .ref (zad g 0)] m) hf (fun w2 hf => ?_) (fun K16 hK16 hf => ?_)
  · skip
    refine z_cviW (As := [.int w2]) (st := []) (m := m) C (cl_5 hM) (mn_0 hM) (mc_0 hM) gX6_count_X6_refused hdX6_refused rfl (fun z h => qX6_refused hM w2 m z h) rfl (Nat.le_of_ble_eq_true rfl) ⟨Nat.le_of_ble_eq_true rfl, Nat.le_of_ble_eq_true rfl⟩ ⟨Nat.le_refl _, Nat.le_refl _⟩ dX6_count_16 rfl rfl hf (fun v3 m4 hf => ?_)
    refine z_if_eq (tgt := 26) C dX6_count_19 (by decide) rfl hf (fun hf => ?_) (fun hf => ?_)
    · skip
      refine z_aload_n (i := 0) C dX6_count_26 rfl rfl rfl ?_
      refine z_gr C (FX6_count_7 hM) (mn_0 hM) (mc_0 hM) rfl dX6_count_27 rfl ?_
      refine z_bipush C dX6_count_30 zb_7 rfl ?_
      refine z_iload_n (i := 1) C dX6_count_32 rfl rfl rfl ?_
      refine z_iadd C dX6_count_33 rfl ?_
      refine z_iaload C (mn_1 hM) (mc_1 hM) dX6_count_34 rfl hf (fun v5 hf => ?_)
      exact hr _ _ _ _ (Option.some.inj hf) dX6_count_35
    · skip
      refine z_iconst C dX6_count_22 zi_0 rfl ?_
      refine z_goto (pc' := 35) C dX6_count_23 (by decide) ?_
      exact hr _ _ _ _ (Option.some.inj hf) dX6_count_35
  · skip
    refine z_if_eq (tgt := 15) C dX6_count_8 (by decide) rfl hf (fun hf => ?_) (fun hf => ?_)
    · skip
      refine z_iconst C dX6_count_15 zi_1 rfl ?_
      exact hK16 _ hf
    · skip
      refine z_iconst C dX6_count_11 zi_0 rfl ?_
      refine z_goto (pc' := 16) C dX6_count_12 (by decide) ?_
      exact hK16 _ hf

def fX6_type (a1 : Int32) (m : zMem) : Option (Int32 × zMem) :=
  kc1 (fX6_in a1 0 127) fun v1 =>
  kjn (fun (w2 : Int32) =>
  kc2 (fX6_refused w2 m) fun v3 m4 =>
  if v3 = 0 then
  kgi m4 0 6 fun v5 =>
  kst m4 4 120 v5 a1 fun m6 =>
  kgi m6 0 6 fun v7 =>
  kpi m6 0 6 (v7 + 1) fun m8 =>
  kgi m8 0 6 fun v9 =>
  some (v9, m8)
  else
  some (0, m4)) fun K29 =>
  if v1 = 0 then
  K29 1
  else
  kgi m 0 6 fun v10 =>
  if v10 = 120 then
  K29 2
  else
  K29 0
theorem FX6_type_19 {g : zG} (hM : isM g) : zFl wsX6_type RX6 (zcl g) 19 5 5 := ⟨RX6, TX6, 15, hM.2.2 ▸ rfl, by decide +kernel, by decide, by decide +kernel⟩
theorem FX6_type_187 {g : zG} (hM : isM g) : zFl wsX6_type RX6 (zcl g) 187 5 6 := ⟨RX6, TX6, 15, hM.2.2 ▸ rfl, by decide +kernel, by decide, by decide +kernel⟩
theorem PX6_type_187 {g : zG} (hM : isM g) : zFp wsX6_type RX6 (zcl g) 187 5 6 .int := ⟨RX6, TX6, 15, tyX6, hM.2.2 ▸ rfl, by decide +kernel, by decide, by decide +kernel, tyX6_ok, nmX6, rfl, by decide +kernel⟩
theorem hdX6_type : yX6_type.cls = RX6 ∧ yX6_type.cls ≠ "java/lang/invoke/MethodHandle" ∧ yX6_type.cls ≠ "java/lang/invoke/VarHandle" ∧ (parseMethodDescriptor yX6_type.desc).map (fun d => d.parameters.length) = some 1 := by decide +kernel
set_option maxHeartbeats 4000000 in
set_option maxRecDepth 100000 in
theorem qX6_type {l : Launch} {g : zG} (hM : isM g)  (a1 : Int32) (m : zMem)  (o : Int32 × zMem) (hf : fX6_type a1 m = some o) : zMI l g yX6_type wsX6_type { frames := 1, cells := 0, slots := 0, locals := 22 } [.ref (zad g 0), .int a1] m o := by
  refine z_met_i (cc := cX6_type) (maxL := 2) (lo0 := [some (.ref (zad g 0)), some (.int a1)]) (by decide +kernel) rfl rfl (Nat.le_of_ble_eq_true rfl) (fun x hx C hr => ?_)
  unfold fX6_type at hf
  refine z_aload_n (i := 0) C dX6_type_0 rfl rfl rfl ?_
  refine z_iload_n (i := 1) C dX6_type_1 rfl rfl rfl ?_
  refine z_iconst C dX6_type_2 zi_0 rfl ?_
  refine z_bipush C dX6_type_3 zb_127 rfl ?_
  refine z_csiR (As := [.int a1, .int 0, .int 127]) (st := [.ref (zad g 0)]) (m := m) C gX6_type_X6_in hdX6_in rfl (fun z h => qX6_in a1 0 127 m z h) rfl (Nat.le_of_ble_eq_true rfl) ⟨Nat.le_of_ble_eq_true rfl, Nat.le_of_ble_eq_true rfl⟩ ⟨Nat.le_refl _, Nat.le_refl _⟩ dX6_type_5 rfl rfl hf (fun v1 hf => ?_)
  refine kjn_V (fun K29 => ∀ (w2 : Int32), K29 w2 = some o → zV x g 2 0 0 29 [some (.ref (zad g 0)), some (.int a1)] [.int w2, .ref (zad g 0)] m) hf (fun w2 hf => ?_) (fun K29 hK29 hf => ?_)
  · skip
    refine z_cviW (As := [.int w2]) (st := []) (m := m) C (cl_5 hM) (mn_0 hM) (mc_0 hM) gX6_type_X6_refused hdX6_refused rfl (fun z h => qX6_refused hM w2 m z h) rfl (Nat.le_of_ble_eq_true rfl) ⟨Nat.le_of_ble_eq_true rfl, Nat.le_of_ble_eq_true rfl⟩ ⟨Nat.le_refl _, Nat.le_refl _⟩ dX6_type_29 rfl rfl hf (fun v3 m4 hf => ?_)
    refine z_if_eq (tgt := 37) C dX6_type_32 (by decide) rfl hf (fun hf => ?_) (fun hf => ?_)
    · skip
      refine z_aload_n (i := 0) C dX6_type_37 rfl rfl rfl ?_
      refine z_gr C (FX6_type_19 hM) (mn_0 hM) (mc_0 hM) rfl dX6_type_38 rfl ?_
      refine z_aload_n (i := 0) C dX6_type_41 rfl rfl rfl ?_
      refine z_gi C (FX6_type_187 hM) (mn_0 hM) (mc_0 hM) rfl dX6_type_42 rfl hf (fun v5 hf => ?_)
      refine z_iload_n (i := 1) C dX6_type_45 rfl rfl rfl ?_
      refine z_iastore C (mn_4 hM) (mc_4 hM) dX6_type_46 rfl hf (fun m6 hf => ?_)
      refine z_aload_n (i := 0) C dX6_type_47 rfl rfl rfl ?_
      refine z_dup C dX6_type_48 rfl rfl ?_
      refine z_gi C (FX6_type_187 hM) (mn_0 hM) (mc_0 hM) rfl dX6_type_49 rfl hf (fun v7 hf => ?_)
      refine z_iconst C dX6_type_52 zi_1 rfl ?_
      refine z_iadd C dX6_type_53 rfl ?_
      refine z_pi C (PX6_type_187 hM) (mn_0 hM) (mc_0 hM) rfl dX6_type_54 rfl hf (fun m8 hf => ?_)
      refine z_aload_n (i := 0) C dX6_type_57 rfl rfl rfl ?_
      refine z_gi C (FX6_type_187 hM) (mn_0 hM) (mc_0 hM) rfl dX6_type_58 rfl hf (fun v9 hf => ?_)
      exact hr _ _ _ _ (Option.some.inj hf) dX6_type_61
    · skip
      refine z_iconst C dX6_type_35 zi_0 rfl ?_
      exact hr _ _ _ _ (Option.some.inj hf) dX6_type_36
  · skip
    refine z_if_ne (tgt := 15) C dX6_type_8 (by decide) rfl hf (fun hf => ?_) (fun hf => ?_)
    · skip
      refine z_aload_n (i := 0) C dX6_type_15 rfl rfl rfl ?_
      refine z_gi C (FX6_type_187 hM) (mn_0 hM) (mc_0 hM) rfl dX6_type_16 rfl hf (fun v10 hf => ?_)
      refine z_bipush C dX6_type_19 zb_120 rfl ?_
      refine z_ic_ne (tgt := 28) C dX6_type_21 (by decide) rfl hf (fun hf => ?_) (fun hf => ?_)
      · skip
        refine z_iconst C dX6_type_28 zi_0 rfl ?_
        exact hK29 _ hf
      · skip
        refine z_iconst C dX6_type_24 zi_2 rfl ?_
        refine z_goto (pc' := 29) C dX6_type_25 (by decide) ?_
        exact hK29 _ hf
    · skip
      refine z_iconst C dX6_type_11 zi_1 rfl ?_
      refine z_goto (pc' := 29) C dX6_type_12 (by decide) ?_
      exact hK29 _ hf

def fX6_clearScript (m : zMem) : Option (Int32 × zMem) :=
  kpi m 0 4 0 fun m1 =>
  kgi m1 0 6 fun v2 =>
  kpi m1 0 6 0 fun m3 =>
  some (v2, m3)
theorem PX6_clearScript_28 {g : zG} (hM : isM g) : zFp wsX6_clearScript RX6 (zcl g) 28 5 4 .int := ⟨RX6, TX6, 15, tyX6, hM.2.2 ▸ rfl, by decide +kernel, by decide, by decide +kernel, tyX6_ok, nmX6, rfl, by decide +kernel⟩
theorem FX6_clearScript_187 {g : zG} (hM : isM g) : zFl wsX6_clearScript RX6 (zcl g) 187 5 6 := ⟨RX6, TX6, 15, hM.2.2 ▸ rfl, by decide +kernel, by decide, by decide +kernel⟩
theorem PX6_clearScript_187 {g : zG} (hM : isM g) : zFp wsX6_clearScript RX6 (zcl g) 187 5 6 .int := ⟨RX6, TX6, 15, tyX6, hM.2.2 ▸ rfl, by decide +kernel, by decide, by decide +kernel, tyX6_ok, nmX6, rfl, by decide +kernel⟩
theorem hdX6_clearScript : yX6_clearScript.cls = RX6 ∧ yX6_clearScript.cls ≠ "java/lang/invoke/MethodHandle" ∧ yX6_clearScript.cls ≠ "java/lang/invoke/VarHandle" ∧ (parseMethodDescriptor yX6_clearScript.desc).map (fun d => d.parameters.length) = some 0 := by decide +kernel
set_option maxHeartbeats 4000000 in
set_option maxRecDepth 100000 in
theorem qX6_clearScript {l : Launch} {g : zG} (hM : isM g)  (m : zMem)  (o : Int32 × zMem) (hf : fX6_clearScript m = some o) : zMI l g yX6_clearScript wsX6_clearScript { frames := 0, cells := 0, slots := 0, locals := 0 } [.ref (zad g 0)] m o := by
  refine z_met_i (cc := cX6_clearScript) (maxL := 2) (lo0 := [some (.ref (zad g 0)), none]) (by decide +kernel) rfl rfl (Nat.le_of_ble_eq_true rfl) (fun x hx C hr => ?_)
  unfold fX6_clearScript at hf
  refine z_aload_n (i := 0) C dX6_clearScript_0 rfl rfl rfl ?_
  refine z_iconst C dX6_clearScript_1 zi_0 rfl ?_
  refine z_pi C (PX6_clearScript_28 hM) (mn_0 hM) (mc_0 hM) rfl dX6_clearScript_2 rfl hf (fun m1 hf => ?_)
  refine z_aload_n (i := 0) C dX6_clearScript_5 rfl rfl rfl ?_
  refine z_gi C (FX6_clearScript_187 hM) (mn_0 hM) (mc_0 hM) rfl dX6_clearScript_6 rfl hf (fun v2 hf => ?_)
  refine z_istore_n (i := 1) (lo' := [some (.ref (zad g 0)), some (.int v2)]) C dX6_clearScript_9 rfl (Nat.le_of_ble_eq_true rfl) rfl rfl rfl ?_
  refine z_aload_n (i := 0) C dX6_clearScript_10 rfl rfl rfl ?_
  refine z_iconst C dX6_clearScript_11 zi_0 rfl ?_
  refine z_pi C (PX6_clearScript_187 hM) (mn_0 hM) (mc_0 hM) rfl dX6_clearScript_12 rfl hf (fun m3 hf => ?_)
  refine z_iload_n (i := 1) C dX6_clearScript_15 rfl rfl rfl ?_
  exact hr _ _ _ _ (Option.some.inj hf) dX6_clearScript_16

def fX6_isAt (a1 : Int32) (a2 : Int32) (m : zMem) : Option (Int32) :=
  kgi m 0 11 fun v1 =>
  kgi m 0 6 fun v2 =>
  if v2 ≤ v1 then
  some 0
  else
  kgi m 0 11 fun v3 =>
  kld m 4 120 v3 fun v4 =>
  kc1 (fX6_in v4 a1 a2) fun v5 =>
  if v5 = 0 then
  some 0
  else
  some 1
theorem FX6_isAt_19 {g : zG} (hM : isM g) : zFl wsX6_isAt RX6 (zcl g) 19 5 5 := ⟨RX6, TX6, 15, hM.2.2 ▸ rfl, by decide +kernel, by decide, by decide +kernel⟩
theorem FX6_isAt_187 {g : zG} (hM : isM g) : zFl wsX6_isAt RX6 (zcl g) 187 5 6 := ⟨RX6, TX6, 15, hM.2.2 ▸ rfl, by decide +kernel, by decide, by decide +kernel⟩
theorem FX6_isAt_190 {g : zG} (hM : isM g) : zFl wsX6_isAt RX6 (zcl g) 190 5 11 := ⟨RX6, TX6, 15, hM.2.2 ▸ rfl, by decide +kernel, by decide, by decide +kernel⟩
theorem hdX6_isAt : yX6_isAt.cls = RX6 ∧ yX6_isAt.cls ≠ "java/lang/invoke/MethodHandle" ∧ yX6_isAt.cls ≠ "java/lang/invoke/VarHandle" ∧ (parseMethodDescriptor yX6_isAt.desc).map (fun d => d.parameters.length) = some 2 := by decide +kernel
set_option maxHeartbeats 4000000 in
set_option maxRecDepth 100000 in
theorem qX6_isAt {l : Launch} {g : zG} (hM : isM g)  (a1 : Int32) (a2 : Int32) (m : zMem)  (o : Int32) (hf : fX6_isAt a1 a2 m = some o) : zMI l g yX6_isAt wsX6_isAt { frames := 1, cells := 0, slots := 0, locals := 22 } [.ref (zad g 0), .int a1, .int a2] m (o, m) := by
  refine z_met_z (cc := cX6_isAt) (maxL := 3) (lo0 := [some (.ref (zad g 0)), some (.int a1), some (.int a2)]) (by decide +kernel) rfl rfl (Nat.le_of_ble_eq_true rfl) (fun x hx C hr => ?_)
  unfold fX6_isAt at hf
  refine z_aload_n (i := 0) C dX6_isAt_0 rfl rfl rfl ?_
  refine z_gi C (FX6_isAt_190 hM) (mn_0 hM) (mc_0 hM) rfl dX6_isAt_1 rfl hf (fun v1 hf => ?_)
  refine z_aload_n (i := 0) C dX6_isAt_4 rfl rfl rfl ?_
  refine z_gi C (FX6_isAt_187 hM) (mn_0 hM) (mc_0 hM) rfl dX6_isAt_5 rfl hf (fun v2 hf => ?_)
  refine z_ic_ge (tgt := 32) C dX6_isAt_8 (by decide) rfl hf (fun hf => ?_) (fun hf => ?_)
  · skip
    refine z_iconst C dX6_isAt_32 zi_0 rfl ?_
    exact hr _ _ _ _ (Or.inl rfl) (congrArg (fun z => (z, m)) (Option.some.inj hf)) dX6_isAt_33
  · skip
    refine z_aload_n (i := 0) C dX6_isAt_11 rfl rfl rfl ?_
    refine z_gr C (FX6_isAt_19 hM) (mn_0 hM) (mc_0 hM) rfl dX6_isAt_12 rfl ?_
    refine z_aload_n (i := 0) C dX6_isAt_15 rfl rfl rfl ?_
    refine z_gi C (FX6_isAt_190 hM) (mn_0 hM) (mc_0 hM) rfl dX6_isAt_16 rfl hf (fun v3 hf => ?_)
    refine z_iaload C (mn_4 hM) (mc_4 hM) dX6_isAt_19 rfl hf (fun v4 hf => ?_)
    refine z_iload_n (i := 1) C dX6_isAt_20 rfl rfl rfl ?_
    refine z_iload_n (i := 2) C dX6_isAt_21 rfl rfl rfl ?_
    refine z_csiR (As := [.int v4, .int a1, .int a2]) (st := []) (m := m) C gX6_isAt_X6_in hdX6_in rfl (fun z h => qX6_in v4 a1 a2 m z h) rfl (Nat.le_of_ble_eq_true rfl) ⟨Nat.le_of_ble_eq_true rfl, Nat.le_of_ble_eq_true rfl⟩ ⟨Nat.le_refl _, Nat.le_refl _⟩ dX6_isAt_22 rfl rfl hf (fun v5 hf => ?_)
    refine z_if_eq (tgt := 32) C dX6_isAt_25 (by decide) rfl hf (fun hf => ?_) (fun hf => ?_)
    · skip
      refine z_iconst C dX6_isAt_32 zi_0 rfl ?_
      exact hr _ _ _ _ (Or.inl rfl) (congrArg (fun z => (z, m)) (Option.some.inj hf)) dX6_isAt_33
    · skip
      refine z_iconst C dX6_isAt_28 zi_1 rfl ?_
      refine z_goto (pc' := 33) C dX6_isAt_29 (by decide) ?_
      exact hr _ _ _ _ (Or.inr rfl) (congrArg (fun z => (z, m)) (Option.some.inj hf)) dX6_isAt_33

def sX6_skips_9 (K33 : zMem → Option (Int32 × zMem)) : (zMem → Option (Int32 × zMem)) → zMem → Option (Int32 × zMem) := fun rec m3 =>
  kc1 (fX6_isAt 32 32 m3) fun v4 =>
  if v4 = 0 then
  K33 m3
  else
  kgi m3 0 11 fun v5 =>
  kpi m3 0 11 (v5 + 1) fun m6 =>
  rec m6
def fX6_skips (N : Nat) (m : zMem) : Option (Int32 × zMem) :=
  kc1 (fX6_isAt 32 32 m) fun v1 =>
  kjn (fun (m2 : zMem) =>
  kbz v1 (some (v1, m2))) fun K33 =>
  klp (sX6_skips_9 K33) N m
theorem FX6_skips_190 {g : zG} (hM : isM g) : zFl wsX6_skips RX6 (zcl g) 190 5 11 := ⟨RX6, TX6, 15, hM.2.2 ▸ rfl, by decide +kernel, by decide, by decide +kernel⟩
theorem PX6_skips_190 {g : zG} (hM : isM g) : zFp wsX6_skips RX6 (zcl g) 190 5 11 .int := ⟨RX6, TX6, 15, tyX6, hM.2.2 ▸ rfl, by decide +kernel, by decide, by decide +kernel, tyX6_ok, nmX6, rfl, by decide +kernel⟩
theorem hdX6_skips : yX6_skips.cls = RX6 ∧ yX6_skips.cls ≠ "java/lang/invoke/MethodHandle" ∧ yX6_skips.cls ≠ "java/lang/invoke/VarHandle" ∧ (parseMethodDescriptor yX6_skips.desc).map (fun d => d.parameters.length) = some 0 := by decide +kernel
set_option maxHeartbeats 4000000 in
set_option maxRecDepth 100000 in
theorem qX6_skips {l : Launch} {g : zG} (hM : isM g)  (N : Nat) (m : zMem)  (o : Int32 × zMem) (hf : fX6_skips N m = some o) : zMI l g yX6_skips wsX6_skips { frames := 2, cells := 0, slots := 0, locals := 44 } [.ref (zad g 0)] m o := by
  refine z_met_z (cc := cX6_skips) (maxL := 2) (lo0 := [some (.ref (zad g 0)), none]) (by decide +kernel) rfl rfl (Nat.le_of_ble_eq_true rfl) (fun x hx C hr => ?_)
  unfold fX6_skips at hf
  refine z_aload_n (i := 0) C dX6_skips_0 rfl rfl rfl ?_
  refine z_bipush C dX6_skips_1 zb_32 rfl ?_
  refine z_bipush C dX6_skips_3 zb_32 rfl ?_
  refine z_cviR (As := [.int 32, .int 32]) (st := []) (m := m) C (cl_5 hM) (mn_0 hM) (mc_0 hM) gX6_skips_X6_isAt hdX6_isAt rfl (fun z h => qX6_isAt hM 32 32 m z h) rfl (Nat.le_of_ble_eq_true rfl) ⟨Nat.le_of_ble_eq_true rfl, Nat.le_of_ble_eq_true rfl⟩ ⟨Nat.le_refl _, Nat.le_refl _⟩ dX6_skips_5 rfl rfl hf (fun v1 hf => ?_)
  refine z_istore_n (i := 1) (lo' := [some (.ref (zad g 0)), some (.int v1)]) C dX6_skips_8 rfl (Nat.le_of_ble_eq_true rfl) rfl rfl rfl ?_
  refine kjn_V (fun K33 => ∀ (m2 : zMem), K33 m2 = some o → zV x g 2 0 0 33 [none, some (.int v1)] [] m2) hf (fun m2 hf => ?_) (fun K33 hK33 hf => ?_)
  · skip
    refine z_iload_n (i := 1) C dX6_skips_33 rfl rfl rfl ?_
    exact kbz_V hf (fun hb hf => hr _ _ _ _ hb (Option.some.inj hf) dX6_skips_34)
  · skip
    refine klp_V (fun z => zV x g 2 0 0 9 [some (.ref (zad g 0)), some (.int v1)] [] z) hf (fun rec z ih hf => ?_)
    generalize z = m3 at hf ⊢
    unfold sX6_skips_9 at hf
    try dsimp only at hf
    try dsimp only
    refine z_aload_n (i := 0) C dX6_skips_9 rfl rfl rfl ?_
    refine z_bipush C dX6_skips_10 zb_32 rfl ?_
    refine z_bipush C dX6_skips_12 zb_32 rfl ?_
    refine z_cviR (As := [.int 32, .int 32]) (st := []) (m := m3) C (cl_5 hM) (mn_0 hM) (mc_0 hM) gX6_skips_X6_isAt hdX6_isAt rfl (fun z h => qX6_isAt hM 32 32 m3 z h) rfl (Nat.le_of_ble_eq_true rfl) ⟨Nat.le_of_ble_eq_true rfl, Nat.le_of_ble_eq_true rfl⟩ ⟨Nat.le_refl _, Nat.le_refl _⟩ dX6_skips_14 rfl rfl hf (fun v4 hf => ?_)
    refine z_if_eq (tgt := 33) C dX6_skips_17 (by decide) rfl hf (fun hf => ?_) (fun hf => ?_)
    · skip
      refine z_drop (lo' := [none, some (.int v1)]) 0 rfl ?_
      exact hK33 _ hf
    · skip
      refine z_aload_n (i := 0) C dX6_skips_20 rfl rfl rfl ?_
      refine z_dup C dX6_skips_21 rfl rfl ?_
      refine z_gi C (FX6_skips_190 hM) (mn_0 hM) (mc_0 hM) rfl dX6_skips_22 rfl hf (fun v5 hf => ?_)
      refine z_iconst C dX6_skips_25 zi_1 rfl ?_
      refine z_iadd C dX6_skips_26 rfl ?_
      refine z_pi C (PX6_skips_190 hM) (mn_0 hM) (mc_0 hM) rfl dX6_skips_27 rfl hf (fun m6 hf => ?_)
      refine z_goto (pc' := 9) C dX6_skips_30 (by decide) ?_
      exact ih m6 hf

def fX6_spells (a1 : Int32) (a2 : Int32) (a3 : Int32) (a4 : Int32) (a5 : Int32) (a6 : Int32) (a7 : Int32) (m : zMem) : Option (Int32) :=
  kgi m 0 11 fun v1 =>
  kjn (fun (w2 : Int32) =>
  if w2 = 0 then
  some 0
  else
  if a2 = 4 then
  some 1
  else
  kld m 4 120 (a1 + 4) fun v3 =>
  if v3 = a7 then
  some 1
  else
  some 0) fun K64 =>
  if (v1 - a1) = a2 then
  kld m 4 120 a1 fun v4 =>
  if v4 = a3 then
  kld m 4 120 (a1 + 1) fun v5 =>
  if v5 = a4 then
  kld m 4 120 (a1 + 2) fun v6 =>
  if v6 = a5 then
  kld m 4 120 (a1 + 3) fun v7 =>
  if v7 = a6 then
  K64 1
  else
  K64 0
  else
  K64 0
  else
  K64 0
  else
  K64 0
  else
  K64 0
theorem FX6_spells_19 {g : zG} (hM : isM g) : zFl wsX6_spells RX6 (zcl g) 19 5 5 := ⟨RX6, TX6, 15, hM.2.2 ▸ rfl, by decide +kernel, by decide, by decide +kernel⟩
theorem FX6_spells_190 {g : zG} (hM : isM g) : zFl wsX6_spells RX6 (zcl g) 190 5 11 := ⟨RX6, TX6, 15, hM.2.2 ▸ rfl, by decide +kernel, by decide, by decide +kernel⟩
theorem hdX6_spells : yX6_spells.cls = RX6 ∧ yX6_spells.cls ≠ "java/lang/invoke/MethodHandle" ∧ yX6_spells.cls ≠ "java/lang/invoke/VarHandle" ∧ (parseMethodDescriptor yX6_spells.desc).map (fun d => d.parameters.length) = some 7 := by decide +kernel
set_option maxHeartbeats 4000000 in
set_option maxRecDepth 100000 in
theorem qX6_spells {l : Launch} {g : zG} (hM : isM g)  (a1 : Int32) (a2 : Int32) (a3 : Int32) (a4 : Int32) (a5 : Int32) (a6 : Int32) (a7 : Int32) (m : zMem)  (o : Int32) (hf : fX6_spells a1 a2 a3 a4 a5 a6 a7 m = some o) : zMI l g yX6_spells wsX6_spells { frames := 0, cells := 0, slots := 0, locals := 0 } [.ref (zad g 0), .int a1, .int a2, .int a3, .int a4, .int a5, .int a6, .int a7] m (o, m) := by
  refine z_met_z (cc := cX6_spells) (maxL := 9) (lo0 := [some (.ref (zad g 0)), some (.int a1), some (.int a2), some (.int a3), some (.int a4), some (.int a5), some (.int a6), some (.int a7), none]) (by decide +kernel) rfl rfl (Nat.le_of_ble_eq_true rfl) (fun x hx C hr => ?_)
  unfold fX6_spells at hf
  refine z_aload_n (i := 0) C dX6_spells_0 rfl rfl rfl ?_
  refine z_gi C (FX6_spells_190 hM) (mn_0 hM) (mc_0 hM) rfl dX6_spells_1 rfl hf (fun v1 hf => ?_)
  refine z_iload_n (i := 1) C dX6_spells_4 rfl rfl rfl ?_
  refine z_isub C dX6_spells_5 rfl ?_
  refine z_iload_n (i := 2) C dX6_spells_6 rfl rfl rfl ?_
  refine kjn_V (fun K64 => ∀ (w2 : Int32), K64 w2 = some o → zV x g 9 0 0 64 [some (.ref (zad g 0)), some (.int a1), some (.int a2), none, none, none, none, some (.int a7), none] [.int w2] m) hf (fun w2 hf => ?_) (fun K64 hK64 hf => ?_)
  · skip
    refine z_istore (lo' := [some (.ref (zad g 0)), some (.int a1), some (.int a2), none, none, none, none, some (.int a7), some (.int w2)]) C dX6_spells_64 (Nat.le_of_ble_eq_true rfl) rfl rfl rfl ?_
    refine z_iload C dX6_spells_66 rfl rfl ?_
    refine z_if_eq (tgt := 93) C dX6_spells_68 (by decide) rfl hf (fun hf => ?_) (fun hf => ?_)
    · skip
      refine z_iconst C dX6_spells_93 zi_0 rfl ?_
      exact hr _ _ _ _ (Or.inl rfl) (congrArg (fun z => (z, m)) (Option.some.inj hf)) dX6_spells_94
    · skip
      refine z_iload_n (i := 2) C dX6_spells_71 rfl rfl rfl ?_
      refine z_iconst C dX6_spells_72 zi_4 rfl ?_
      refine z_ic_eq (tgt := 89) C dX6_spells_73 (by decide) rfl hf (fun hf => ?_) (fun hf => ?_)
      · skip
        refine z_iconst C dX6_spells_89 zi_1 rfl ?_
        refine z_goto (pc' := 94) C dX6_spells_90 (by decide) ?_
        exact hr _ _ _ _ (Or.inr rfl) (congrArg (fun z => (z, m)) (Option.some.inj hf)) dX6_spells_94
      · skip
        refine z_aload_n (i := 0) C dX6_spells_76 rfl rfl rfl ?_
        refine z_gr C (FX6_spells_19 hM) (mn_0 hM) (mc_0 hM) rfl dX6_spells_77 rfl ?_
        refine z_iload_n (i := 1) C dX6_spells_80 rfl rfl rfl ?_
        refine z_iconst C dX6_spells_81 zi_4 rfl ?_
        refine z_iadd C dX6_spells_82 rfl ?_
        refine z_iaload C (mn_4 hM) (mc_4 hM) dX6_spells_83 rfl hf (fun v3 hf => ?_)
        refine z_iload C dX6_spells_84 rfl rfl ?_
        refine z_ic_ne (tgt := 93) C dX6_spells_86 (by decide) rfl hf (fun hf => ?_) (fun hf => ?_)
        · skip
          refine z_iconst C dX6_spells_93 zi_0 rfl ?_
          exact hr _ _ _ _ (Or.inl rfl) (congrArg (fun z => (z, m)) (Option.some.inj hf)) dX6_spells_94
        · skip
          refine z_iconst C dX6_spells_89 zi_1 rfl ?_
          refine z_goto (pc' := 94) C dX6_spells_90 (by decide) ?_
          exact hr _ _ _ _ (Or.inr rfl) (congrArg (fun z => (z, m)) (Option.some.inj hf)) dX6_spells_94
  · skip
    refine z_ic_ne (tgt := 63) C dX6_spells_7 (by decide) rfl hf (fun hf => ?_) (fun hf => ?_)
    · skip
      refine z_iconst C dX6_spells_63 zi_0 rfl ?_
      refine z_drop (lo' := [some (.ref (zad g 0)), some (.int a1), some (.int a2), none, some (.int a4), some (.int a5), some (.int a6), some (.int a7), none]) 3 rfl ?_
      refine z_drop (lo' := [some (.ref (zad g 0)), some (.int a1), some (.int a2), none, none, some (.int a5), some (.int a6), some (.int a7), none]) 4 rfl ?_
      refine z_drop (lo' := [some (.ref (zad g 0)), some (.int a1), some (.int a2), none, none, none, some (.int a6), some (.int a7), none]) 5 rfl ?_
      refine z_drop (lo' := [some (.ref (zad g 0)), some (.int a1), some (.int a2), none, none, none, none, some (.int a7), none]) 6 rfl ?_
      exact hK64 _ hf
    · skip
      refine z_aload_n (i := 0) C dX6_spells_10 rfl rfl rfl ?_
      refine z_gr C (FX6_spells_19 hM) (mn_0 hM) (mc_0 hM) rfl dX6_spells_11 rfl ?_
      refine z_iload_n (i := 1) C dX6_spells_14 rfl rfl rfl ?_
      refine z_iaload C (mn_4 hM) (mc_4 hM) dX6_spells_15 rfl hf (fun v4 hf => ?_)
      refine z_iload_n (i := 3) C dX6_spells_16 rfl rfl rfl ?_
      refine z_ic_ne (tgt := 63) C dX6_spells_17 (by decide) rfl hf (fun hf => ?_) (fun hf => ?_)
      · skip
        refine z_iconst C dX6_spells_63 zi_0 rfl ?_
        refine z_drop (lo' := [some (.ref (zad g 0)), some (.int a1), some (.int a2), none, some (.int a4), some (.int a5), some (.int a6), some (.int a7), none]) 3 rfl ?_
        refine z_drop (lo' := [some (.ref (zad g 0)), some (.int a1), some (.int a2), none, none, some (.int a5), some (.int a6), some (.int a7), none]) 4 rfl ?_
        refine z_drop (lo' := [some (.ref (zad g 0)), some (.int a1), some (.int a2), none, none, none, some (.int a6), some (.int a7), none]) 5 rfl ?_
        refine z_drop (lo' := [some (.ref (zad g 0)), some (.int a1), some (.int a2), none, none, none, none, some (.int a7), none]) 6 rfl ?_
        exact hK64 _ hf
      · skip
        refine z_aload_n (i := 0) C dX6_spells_20 rfl rfl rfl ?_
        refine z_gr C (FX6_spells_19 hM) (mn_0 hM) (mc_0 hM) rfl dX6_spells_21 rfl ?_
        refine z_iload_n (i := 1) C dX6_spells_24 rfl rfl rfl ?_
        refine z_iconst C dX6_spells_25 zi_1 rfl ?_
        refine z_iadd C dX6_spells_26 rfl ?_
        refine z_iaload C (mn_4 hM) (mc_4 hM) dX6_spells_27 rfl hf (fun v5 hf => ?_)
        refine z_iload C dX6_spells_28 rfl rfl ?_
        refine z_ic_ne (tgt := 63) C dX6_spells_30 (by decide) rfl hf (fun hf => ?_) (fun hf => ?_)
        · skip
          refine z_iconst C dX6_spells_63 zi_0 rfl ?_
          refine z_drop (lo' := [some (.ref (zad g 0)), some (.int a1), some (.int a2), none, some (.int a4), some (.int a5), some (.int a6), some (.int a7), none]) 3 rfl ?_
          refine z_drop (lo' := [some (.ref (zad g 0)), some (.int a1), some (.int a2), none, none, some (.int a5), some (.int a6), some (.int a7), none]) 4 rfl ?_
          refine z_drop (lo' := [some (.ref (zad g 0)), some (.int a1), some (.int a2), none, none, none, some (.int a6), some (.int a7), none]) 5 rfl ?_
          refine z_drop (lo' := [some (.ref (zad g 0)), some (.int a1), some (.int a2), none, none, none, none, some (.int a7), none]) 6 rfl ?_
          exact hK64 _ hf
        · skip
          refine z_aload_n (i := 0) C dX6_spells_33 rfl rfl rfl ?_
          refine z_gr C (FX6_spells_19 hM) (mn_0 hM) (mc_0 hM) rfl dX6_spells_34 rfl ?_
          refine z_iload_n (i := 1) C dX6_spells_37 rfl rfl rfl ?_
          refine z_iconst C dX6_spells_38 zi_2 rfl ?_
          refine z_iadd C dX6_spells_39 rfl ?_
          refine z_iaload C (mn_4 hM) (mc_4 hM) dX6_spells_40 rfl hf (fun v6 hf => ?_)
          refine z_iload C dX6_spells_41 rfl rfl ?_
          refine z_ic_ne (tgt := 63) C dX6_spells_43 (by decide) rfl hf (fun hf => ?_) (fun hf => ?_)
          · skip
            refine z_iconst C dX6_spells_63 zi_0 rfl ?_
            refine z_drop (lo' := [some (.ref (zad g 0)), some (.int a1), some (.int a2), none, some (.int a4), some (.int a5), some (.int a6), some (.int a7), none]) 3 rfl ?_
            refine z_drop (lo' := [some (.ref (zad g 0)), some (.int a1), some (.int a2), none, none, some (.int a5), some (.int a6), some (.int a7), none]) 4 rfl ?_
            refine z_drop (lo' := [some (.ref (zad g 0)), some (.int a1), some (.int a2), none, none, none, some (.int a6), some (.int a7), none]) 5 rfl ?_
            refine z_drop (lo' := [some (.ref (zad g 0)), some (.int a1), some (.int a2), none, none, none, none, some (.int a7), none]) 6 rfl ?_
            exact hK64 _ hf
          · skip
            refine z_aload_n (i := 0) C dX6_spells_46 rfl rfl rfl ?_
            refine z_gr C (FX6_spells_19 hM) (mn_0 hM) (mc_0 hM) rfl dX6_spells_47 rfl ?_
            refine z_iload_n (i := 1) C dX6_spells_50 rfl rfl rfl ?_
            refine z_iconst C dX6_spells_51 zi_3 rfl ?_
            refine z_iadd C dX6_spells_52 rfl ?_
            refine z_iaload C (mn_4 hM) (mc_4 hM) dX6_spells_53 rfl hf (fun v7 hf => ?_)
            refine z_iload C dX6_spells_54 rfl rfl ?_
            refine z_ic_ne (tgt := 63) C dX6_spells_56 (by decide) rfl hf (fun hf => ?_) (fun hf => ?_)
            · skip
              refine z_iconst C dX6_spells_63 zi_0 rfl ?_
              refine z_drop (lo' := [some (.ref (zad g 0)), some (.int a1), some (.int a2), none, some (.int a4), some (.int a5), some (.int a6), some (.int a7), none]) 3 rfl ?_
              refine z_drop (lo' := [some (.ref (zad g 0)), some (.int a1), some (.int a2), none, none, some (.int a5), some (.int a6), some (.int a7), none]) 4 rfl ?_
              refine z_drop (lo' := [some (.ref (zad g 0)), some (.int a1), some (.int a2), none, none, none, some (.int a6), some (.int a7), none]) 5 rfl ?_
              refine z_drop (lo' := [some (.ref (zad g 0)), some (.int a1), some (.int a2), none, none, none, none, some (.int a7), none]) 6 rfl ?_
              exact hK64 _ hf
            · skip
              refine z_iconst C dX6_spells_59 zi_1 rfl ?_
              refine z_goto (pc' := 64) C dX6_spells_60 (by decide) ?_
              refine z_drop (lo' := [some (.ref (zad g 0)), some (.int a1), some (.int a2), none, some (.int a4), some (.int a5), some (.int a6), some (.int a7), none]) 3 rfl ?_
              refine z_drop (lo' := [some (.ref (zad g 0)), some (.int a1), some (.int a2), none, none, some (.int a5), some (.int a6), some (.int a7), none]) 4 rfl ?_
              refine z_drop (lo' := [some (.ref (zad g 0)), some (.int a1), some (.int a2), none, none, none, some (.int a6), some (.int a7), none]) 5 rfl ?_
              refine z_drop (lo' := [some (.ref (zad g 0)), some (.int a1), some (.int a2), none, none, none, none, some (.int a7), none]) 6 rfl ?_
              exact hK64 _ hf

def sX6_readsNumber_24 (K74 : Int32 → zMem → Option (Int32 × zMem)) : (Int32 × Int32 × zMem → Option (Int32 × zMem)) → Int32 × Int32 × zMem → Option (Int32 × zMem) := fun rec (x6, x7, m8) =>
  if 5 ≤ x7 then
  K74 x6 m8
  else
  kc1 (fX6_isAt 48 57 m8) fun v9 =>
  if v9 = 0 then
  K74 x6 m8
  else
  kgi m8 0 11 fun v10 =>
  kld m8 4 120 v10 fun v11 =>
  klt (((10 * x6) + v11) - 48 : Int32) fun v12 =>
  kgi m8 0 11 fun v13 =>
  kpi m8 0 11 (v13 + 1) fun m14 =>
  rec (v12, x7 + 1, m14)
def fX6_readsNumber (N : Nat) (m : zMem) : Option (Int32 × zMem) :=
  kc2 (fX6_skips N m) fun v1 m2 =>
  if v1 = 0 then
  some ((-1), m2)
  else
  kc1 (fX6_isAt 48 57 m2) fun v3 =>
  if v3 = 0 then
  some ((-1), m2)
  else
  kjn (fun (w4 : Int32) (m5 : zMem) =>
  some (w4, m5)) fun K74 =>
  klp (sX6_readsNumber_24 K74) N (0, 0, m2)
theorem FX6_readsNumber_19 {g : zG} (hM : isM g) : zFl wsX6_readsNumber RX6 (zcl g) 19 5 5 := ⟨RX6, TX6, 15, hM.2.2 ▸ rfl, by decide +kernel, by decide, by decide +kernel⟩
theorem FX6_readsNumber_190 {g : zG} (hM : isM g) : zFl wsX6_readsNumber RX6 (zcl g) 190 5 11 := ⟨RX6, TX6, 15, hM.2.2 ▸ rfl, by decide +kernel, by decide, by decide +kernel⟩
theorem PX6_readsNumber_190 {g : zG} (hM : isM g) : zFp wsX6_readsNumber RX6 (zcl g) 190 5 11 .int := ⟨RX6, TX6, 15, tyX6, hM.2.2 ▸ rfl, by decide +kernel, by decide, by decide +kernel, tyX6_ok, nmX6, rfl, by decide +kernel⟩
theorem hdX6_readsNumber : yX6_readsNumber.cls = RX6 ∧ yX6_readsNumber.cls ≠ "java/lang/invoke/MethodHandle" ∧ yX6_readsNumber.cls ≠ "java/lang/invoke/VarHandle" ∧ (parseMethodDescriptor yX6_readsNumber.desc).map (fun d => d.parameters.length) = some 0 := by decide +kernel
set_option maxHeartbeats 4000000 in
set_option maxRecDepth 100000 in
theorem qX6_readsNumber {l : Launch} {g : zG} (hM : isM g)  (N : Nat) (m : zMem)  (o : Int32 × zMem) (hf : fX6_readsNumber N m = some o) : zMI l g yX6_readsNumber wsX6_readsNumber { frames := 3, cells := 0, slots := 0, locals := 65 } [.ref (zad g 0)] m o := by
  refine z_met_i (cc := cX6_readsNumber) (maxL := 3) (lo0 := [some (.ref (zad g 0)), none, none]) (by decide +kernel) rfl rfl (Nat.le_of_ble_eq_true rfl) (fun x hx C hr => ?_)
  unfold fX6_readsNumber at hf
  refine z_aload_n (i := 0) C dX6_readsNumber_0 rfl rfl rfl ?_
  refine z_cviW (As := []) (st := []) (m := m) C (cl_5 hM) (mn_0 hM) (mc_0 hM) gX6_readsNumber_X6_skips hdX6_skips rfl (fun z h => qX6_skips hM N m z h) rfl (Nat.le_of_ble_eq_true rfl) ⟨Nat.le_of_ble_eq_true rfl, Nat.le_of_ble_eq_true rfl⟩ ⟨Nat.le_refl _, Nat.le_refl _⟩ dX6_readsNumber_1 rfl rfl hf (fun v1 m2 hf => ?_)
  refine z_if_eq (tgt := 18) C dX6_readsNumber_4 (by decide) rfl hf (fun hf => ?_) (fun hf => ?_)
  · skip
    refine z_iconst C dX6_readsNumber_18 zi_m1 rfl ?_
    exact hr _ _ _ _ (Option.some.inj hf) dX6_readsNumber_19
  · skip
    refine z_aload_n (i := 0) C dX6_readsNumber_7 rfl rfl rfl ?_
    refine z_bipush C dX6_readsNumber_8 zb_48 rfl ?_
    refine z_bipush C dX6_readsNumber_10 zb_57 rfl ?_
    refine z_cviR (As := [.int 48, .int 57]) (st := []) (m := m2) C (cl_5 hM) (mn_0 hM) (mc_0 hM) gX6_readsNumber_X6_isAt hdX6_isAt rfl (fun z h => qX6_isAt hM 48 57 m2 z h) rfl (Nat.le_of_ble_eq_true rfl) ⟨Nat.le_of_ble_eq_true rfl, Nat.le_of_ble_eq_true rfl⟩ ⟨Nat.le_refl _, Nat.le_refl _⟩ dX6_readsNumber_12 rfl rfl hf (fun v3 hf => ?_)
    refine z_if_ne (tgt := 20) C dX6_readsNumber_15 (by decide) rfl hf (fun hf => ?_) (fun hf => ?_)
    · skip
      refine z_iconst C dX6_readsNumber_20 zi_0 rfl ?_
      refine z_istore_n (i := 1) (lo' := [some (.ref (zad g 0)), some (.int 0), none]) C dX6_readsNumber_21 rfl (Nat.le_of_ble_eq_true rfl) rfl rfl rfl ?_
      refine z_iconst C dX6_readsNumber_22 zi_0 rfl ?_
      refine z_istore_n (i := 2) (lo' := [some (.ref (zad g 0)), some (.int 0), some (.int 0)]) C dX6_readsNumber_23 rfl (Nat.le_of_ble_eq_true rfl) rfl rfl rfl ?_
      refine kjn_V (fun K74 => ∀ (w4 : Int32) (m5 : zMem), K74 w4 m5 = some o → zV x g 3 0 0 74 [none, some (.int w4), none] [] m5) hf (fun w4 m5 hf => ?_) (fun K74 hK74 hf => ?_)
      · skip
        refine z_iload_n (i := 1) C dX6_readsNumber_74 rfl rfl rfl ?_
        exact hr _ _ _ _ (Option.some.inj hf) dX6_readsNumber_75
      · skip
        refine klp_V (fun z => zV x g 3 0 0 24 [some (.ref (zad g 0)), some (.int z.1), some (.int z.2.1)] [] z.2.2) hf (fun rec z ih hf => ?_)
        obtain ⟨x6, x7, m8⟩ := z
        unfold sX6_readsNumber_24 at hf
        try dsimp only at hf
        try dsimp only
        refine z_iload_n (i := 2) C dX6_readsNumber_24 rfl rfl rfl ?_
        refine z_iconst C dX6_readsNumber_25 zi_5 rfl ?_
        refine z_ic_ge (tgt := 74) C dX6_readsNumber_26 (by decide) rfl hf (fun hf => ?_) (fun hf => ?_)
        · skip
          refine z_drop (lo' := [none, some (.int x6), some (.int x7)]) 0 rfl ?_
          refine z_drop (lo' := [none, some (.int x6), none]) 2 rfl ?_
          exact hK74 _ _ hf
        · skip
          refine z_aload_n (i := 0) C dX6_readsNumber_29 rfl rfl rfl ?_
          refine z_bipush C dX6_readsNumber_30 zb_48 rfl ?_
          refine z_bipush C dX6_readsNumber_32 zb_57 rfl ?_
          refine z_cviR (As := [.int 48, .int 57]) (st := []) (m := m8) C (cl_5 hM) (mn_0 hM) (mc_0 hM) gX6_readsNumber_X6_isAt hdX6_isAt rfl (fun z h => qX6_isAt hM 48 57 m8 z h) rfl (Nat.le_of_ble_eq_true rfl) ⟨Nat.le_of_ble_eq_true rfl, Nat.le_of_ble_eq_true rfl⟩ ⟨Nat.le_refl _, Nat.le_refl _⟩ dX6_readsNumber_34 rfl rfl hf (fun v9 hf => ?_)
          refine z_if_eq (tgt := 74) C dX6_readsNumber_37 (by decide) rfl hf (fun hf => ?_) (fun hf => ?_)
          · skip
            refine z_drop (lo' := [none, some (.int x6), some (.int x7)]) 0 rfl ?_
            refine z_drop (lo' := [none, some (.int x6), none]) 2 rfl ?_
            exact hK74 _ _ hf
          · skip
            refine z_bipush C dX6_readsNumber_40 zb_10 rfl ?_
            refine z_iload_n (i := 1) C dX6_readsNumber_42 rfl rfl rfl ?_
            refine z_imul C dX6_readsNumber_43 rfl ?_
            refine z_aload_n (i := 0) C dX6_readsNumber_44 rfl rfl rfl ?_
            refine z_gr C (FX6_readsNumber_19 hM) (mn_0 hM) (mc_0 hM) rfl dX6_readsNumber_45 rfl ?_
            refine z_aload_n (i := 0) C dX6_readsNumber_48 rfl rfl rfl ?_
            refine z_gi C (FX6_readsNumber_190 hM) (mn_0 hM) (mc_0 hM) rfl dX6_readsNumber_49 rfl hf (fun v10 hf => ?_)
            refine z_iaload C (mn_4 hM) (mc_4 hM) dX6_readsNumber_52 rfl hf (fun v11 hf => ?_)
            refine z_iadd C dX6_readsNumber_53 rfl ?_
            refine z_bipush C dX6_readsNumber_54 zb_48 rfl ?_
            refine z_isub C dX6_readsNumber_56 rfl ?_
            refine z_top _ hf (fun v12 hf => ?_)
            refine z_istore_n (i := 1) (lo' := [some (.ref (zad g 0)), some (.int v12), some (.int x7)]) C dX6_readsNumber_57 rfl (Nat.le_of_ble_eq_true rfl) rfl rfl rfl ?_
            refine z_aload_n (i := 0) C dX6_readsNumber_58 rfl rfl rfl ?_
            refine z_dup C dX6_readsNumber_59 rfl rfl ?_
            refine z_gi C (FX6_readsNumber_190 hM) (mn_0 hM) (mc_0 hM) rfl dX6_readsNumber_60 rfl hf (fun v13 hf => ?_)
            refine z_iconst C dX6_readsNumber_63 zi_1 rfl ?_
            refine z_iadd C dX6_readsNumber_64 rfl ?_
            refine z_pi C (PX6_readsNumber_190 hM) (mn_0 hM) (mc_0 hM) rfl dX6_readsNumber_65 rfl hf (fun m14 hf => ?_)
            refine z_iinc (v := x7 + 1) (lo' := [some (.ref (zad g 0)), some (.int v12), some (.int (x7 + 1))]) C dX6_readsNumber_68 rfl (zinc zi_1) (Nat.le_of_ble_eq_true rfl) rfl rfl rfl ?_
            refine z_goto (pc' := 24) C dX6_readsNumber_71 (by decide) ?_
            exact ih (v12, x7 + 1, m14) hf
    · skip
      refine z_iconst C dX6_readsNumber_18 zi_m1 rfl ?_
      exact hr _ _ _ _ (Option.some.inj hf) dX6_readsNumber_19

def sX6_reads_168 (N : Nat) (w9 : Int32) (K204 : zMem → Option (Int32 × zMem)) : (Int32 × zMem → Option (Int32 × zMem)) → Int32 × zMem → Option (Int32 × zMem) := fun rec (x17, m18) =>
  if w9 ≤ x17 then
  K204 m18
  else
  kc2 (fX6_readsNumber N m18) fun v19 m20 =>
  kst m20 6 3 x17 v19 fun m21 =>
  kld m21 6 3 x17 fun v22 =>
  if v22 = (-1) then
  some (0, m21)
  else
  rec (x17 + 1, m21)
def sX6_reads_5 (K29 : zMem → Option (Int32 × zMem)) : (zMem → Option (Int32 × zMem)) → zMem → Option (Int32 × zMem) := fun rec m27 =>
  kc1 (fX6_isAt 97 122 m27) fun v28 =>
  if v28 = 0 then
  K29 m27
  else
  kgi m27 0 11 fun v29 =>
  kpi m27 0 11 (v29 + 1) fun m30 =>
  rec m30
def fX6_reads (N : Nat) (m : zMem) : Option (Int32 × zMem) :=
  kgi m 0 11 fun v1 =>
  kjn (fun (m2 : zMem) =>
  kc1 (fX6_spells v1 4 116 105 99 107 0 m2) fun v3 =>
  kc1 (fX6_spells v1 4 106 111 105 110 0 m2) fun v4 =>
  kjn (fun (w5 : Int32) =>
  kpi m2 0 12 w5 fun m6 =>
  kgi m6 0 12 fun v7 =>
  if v7 = 0 then
  kpi m6 0 11 v1 fun m24 =>
  some (0, m24)
  else
  kgi m6 0 12 fun v8 =>
  kjn (fun (w9 : Int32) =>
  kjn (fun (m10 : zMem) =>
  kc2 (fX6_skips N m10) fun v11 m12 =>
  kc1 (fX6_isAt 59 59 m12) fun v13 =>
  kgi m12 0 11 fun v14 =>
  kjn (fun (w15 : Int32) =>
  kpi m12 0 11 (v14 + w15) fun m16 =>
  kbz v13 (some (v13, m16))) fun K235 =>
  if v13 = 0 then
  K235 0
  else
  K235 1) fun K204 =>
  klp (sX6_reads_168 N w9 K204) N (0, m6)) fun K164 =>
  if v8 = 1 then
  K164 3
  else
  kgi m6 0 12 fun v23 =>
  if v23 = 3 then
  K164 2
  else
  K164 1) fun K122 =>
  if v4 = 0 then
  kc1 (fX6_spells v1 5 108 101 97 118 101 m2) fun v25 =>
  if v25 = 0 then
  kc1 (fX6_spells v1 4 108 111 111 107 0 m2) fun v26 =>
  if v26 = 0 then
  if v3 = 0 then
  K122 0
  else
  K122 4
  else
  K122 3
  else
  K122 2
  else
  K122 1) fun K29 =>
  klp (sX6_reads_5 K29) N m
theorem FX6_reads_25 {g : zG} (hM : isM g) : zFl wsX6_reads RX6 (zcl g) 25 5 13 := ⟨RX6, TX6, 15, hM.2.2 ▸ rfl, by decide +kernel, by decide, by decide +kernel⟩
theorem FX6_reads_190 {g : zG} (hM : isM g) : zFl wsX6_reads RX6 (zcl g) 190 5 11 := ⟨RX6, TX6, 15, hM.2.2 ▸ rfl, by decide +kernel, by decide, by decide +kernel⟩
theorem PX6_reads_190 {g : zG} (hM : isM g) : zFp wsX6_reads RX6 (zcl g) 190 5 11 .int := ⟨RX6, TX6, 15, tyX6, hM.2.2 ▸ rfl, by decide +kernel, by decide, by decide +kernel, tyX6_ok, nmX6, rfl, by decide +kernel⟩
theorem FX6_reads_205 {g : zG} (hM : isM g) : zFl wsX6_reads RX6 (zcl g) 205 5 12 := ⟨RX6, TX6, 15, hM.2.2 ▸ rfl, by decide +kernel, by decide, by decide +kernel⟩
theorem PX6_reads_205 {g : zG} (hM : isM g) : zFp wsX6_reads RX6 (zcl g) 205 5 12 .int := ⟨RX6, TX6, 15, tyX6, hM.2.2 ▸ rfl, by decide +kernel, by decide, by decide +kernel, tyX6_ok, nmX6, rfl, by decide +kernel⟩
theorem hdX6_reads : yX6_reads.cls = RX6 ∧ yX6_reads.cls ≠ "java/lang/invoke/MethodHandle" ∧ yX6_reads.cls ≠ "java/lang/invoke/VarHandle" ∧ (parseMethodDescriptor yX6_reads.desc).map (fun d => d.parameters.length) = some 0 := by decide +kernel
set_option maxHeartbeats 4000000 in
set_option maxRecDepth 100000 in
theorem qX6_reads {l : Launch} {g : zG} (hM : isM g)  (N : Nat) (m : zMem)  (o : Int32 × zMem) (hf : fX6_reads N m = some o) : zMI l g yX6_reads wsX6_reads { frames := 4, cells := 0, slots := 0, locals := 87 } [.ref (zad g 0)] m o := by
  refine z_met_z (cc := cX6_reads) (maxL := 6) (lo0 := [some (.ref (zad g 0)), none, none, none, none, none]) (by decide +kernel) rfl rfl (Nat.le_of_ble_eq_true rfl) (fun x hx C hr => ?_)
  unfold fX6_reads at hf
  refine z_aload_n (i := 0) C dX6_reads_0 rfl rfl rfl ?_
  refine z_gi C (FX6_reads_190 hM) (mn_0 hM) (mc_0 hM) rfl dX6_reads_1 rfl hf (fun v1 hf => ?_)
  refine z_istore_n (i := 1) (lo' := [some (.ref (zad g 0)), some (.int v1), none, none, none, none]) C dX6_reads_4 rfl (Nat.le_of_ble_eq_true rfl) rfl rfl rfl ?_
  refine kjn_V (fun K29 => ∀ (m2 : zMem), K29 m2 = some o → zV x g 6 0 0 29 [some (.ref (zad g 0)), some (.int v1), none, none, none, none] [] m2) hf (fun m2 hf => ?_) (fun K29 hK29 hf => ?_)
  · skip
    refine z_aload_n (i := 0) C dX6_reads_29 rfl rfl rfl ?_
    refine z_iload_n (i := 1) C dX6_reads_30 rfl rfl rfl ?_
    refine z_iconst C dX6_reads_31 zi_4 rfl ?_
    refine z_bipush C dX6_reads_32 zb_116 rfl ?_
    refine z_bipush C dX6_reads_34 zb_105 rfl ?_
    refine z_bipush C dX6_reads_36 zb_99 rfl ?_
    refine z_bipush C dX6_reads_38 zb_107 rfl ?_
    refine z_iconst C dX6_reads_40 zi_0 rfl ?_
    refine z_cviR (As := [.int v1, .int 4, .int 116, .int 105, .int 99, .int 107, .int 0]) (st := []) (m := m2) C (cl_5 hM) (mn_0 hM) (mc_0 hM) gX6_reads_X6_spells hdX6_spells rfl (fun z h => qX6_spells hM v1 4 116 105 99 107 0 m2 z h) rfl (Nat.le_of_ble_eq_true rfl) ⟨Nat.le_of_ble_eq_true rfl, Nat.le_of_ble_eq_true rfl⟩ ⟨Nat.le_refl _, Nat.le_refl _⟩ dX6_reads_41 rfl rfl hf (fun v3 hf => ?_)
    refine z_istore_n (i := 2) (lo' := [some (.ref (zad g 0)), some (.int v1), some (.int v3), none, none, none]) C dX6_reads_44 rfl (Nat.le_of_ble_eq_true rfl) rfl rfl rfl ?_
    refine z_aload_n (i := 0) C dX6_reads_45 rfl rfl rfl ?_
    refine z_aload_n (i := 0) C dX6_reads_46 rfl rfl rfl ?_
    refine z_iload_n (i := 1) C dX6_reads_47 rfl rfl rfl ?_
    refine z_iconst C dX6_reads_48 zi_4 rfl ?_
    refine z_bipush C dX6_reads_49 zb_106 rfl ?_
    refine z_bipush C dX6_reads_51 zb_111 rfl ?_
    refine z_bipush C dX6_reads_53 zb_105 rfl ?_
    refine z_bipush C dX6_reads_55 zb_110 rfl ?_
    refine z_iconst C dX6_reads_57 zi_0 rfl ?_
    refine z_cviR (As := [.int v1, .int 4, .int 106, .int 111, .int 105, .int 110, .int 0]) (st := [.ref (zad g 0)]) (m := m2) C (cl_5 hM) (mn_0 hM) (mc_0 hM) gX6_reads_X6_spells hdX6_spells rfl (fun z h => qX6_spells hM v1 4 106 111 105 110 0 m2 z h) rfl (Nat.le_of_ble_eq_true rfl) ⟨Nat.le_of_ble_eq_true rfl, Nat.le_of_ble_eq_true rfl⟩ ⟨Nat.le_refl _, Nat.le_refl _⟩ dX6_reads_58 rfl rfl hf (fun v4 hf => ?_)
    refine kjn_V (fun K122 => ∀ (w5 : Int32), K122 w5 = some o → zV x g 6 0 0 122 [some (.ref (zad g 0)), some (.int v1), none, none, none, none] [.int w5, .ref (zad g 0)] m2) hf (fun w5 hf => ?_) (fun K122 hK122 hf => ?_)
    · skip
      refine z_pi C (PX6_reads_205 hM) (mn_0 hM) (mc_0 hM) rfl dX6_reads_122 rfl hf (fun m6 hf => ?_)
      refine z_aload_n (i := 0) C dX6_reads_125 rfl rfl rfl ?_
      refine z_gi C (FX6_reads_205 hM) (mn_0 hM) (mc_0 hM) rfl dX6_reads_126 rfl hf (fun v7 hf => ?_)
      refine z_if_ne (tgt := 139) C dX6_reads_129 (by decide) rfl hf (fun hf => ?_) (fun hf => ?_)
      · skip
        refine z_aload_n (i := 0) C dX6_reads_139 rfl rfl rfl ?_
        refine z_gi C (FX6_reads_205 hM) (mn_0 hM) (mc_0 hM) rfl dX6_reads_140 rfl hf (fun v8 hf => ?_)
        refine z_iconst C dX6_reads_143 zi_1 rfl ?_
        refine kjn_V (fun K164 => ∀ (w9 : Int32), K164 w9 = some o → zV x g 6 0 0 164 [some (.ref (zad g 0)), none, none, none, none, none] [.int w9] m6) hf (fun w9 hf => ?_) (fun K164 hK164 hf => ?_)
        · skip
          refine z_istore_n (i := 3) (lo' := [some (.ref (zad g 0)), none, none, some (.int w9), none, none]) C dX6_reads_164 rfl (Nat.le_of_ble_eq_true rfl) rfl rfl rfl ?_
          refine z_iconst C dX6_reads_165 zi_0 rfl ?_
          refine z_istore (lo' := [some (.ref (zad g 0)), none, none, some (.int w9), some (.int 0), none]) C dX6_reads_166 (Nat.le_of_ble_eq_true rfl) rfl rfl rfl ?_
          refine kjn_V (fun K204 => ∀ (m10 : zMem), K204 m10 = some o → zV x g 6 0 0 204 [some (.ref (zad g 0)), none, none, none, none, none] [] m10) hf (fun m10 hf => ?_) (fun K204 hK204 hf => ?_)
          · skip
            refine z_aload_n (i := 0) C dX6_reads_204 rfl rfl rfl ?_
            refine z_cviW (As := []) (st := []) (m := m10) C (cl_5 hM) (mn_0 hM) (mc_0 hM) gX6_reads_X6_skips hdX6_skips rfl (fun z h => qX6_skips hM N m10 z h) rfl (Nat.le_of_ble_eq_true rfl) ⟨Nat.le_of_ble_eq_true rfl, Nat.le_of_ble_eq_true rfl⟩ ⟨Nat.le_refl _, Nat.le_refl _⟩ dX6_reads_205 rfl rfl hf (fun v11 m12 hf => ?_)
            refine z_istore (lo' := [some (.ref (zad g 0)), none, none, none, some (.int v11), none]) C dX6_reads_208 (Nat.le_of_ble_eq_true rfl) rfl rfl rfl ?_
            refine z_aload_n (i := 0) C dX6_reads_210 rfl rfl rfl ?_
            refine z_bipush C dX6_reads_211 zb_59 rfl ?_
            refine z_bipush C dX6_reads_213 zb_59 rfl ?_
            refine z_cviR (As := [.int 59, .int 59]) (st := []) (m := m12) C (cl_5 hM) (mn_0 hM) (mc_0 hM) gX6_reads_X6_isAt hdX6_isAt rfl (fun z h => qX6_isAt hM 59 59 m12 z h) rfl (Nat.le_of_ble_eq_true rfl) ⟨Nat.le_of_ble_eq_true rfl, Nat.le_of_ble_eq_true rfl⟩ ⟨Nat.le_refl _, Nat.le_refl _⟩ dX6_reads_215 rfl rfl hf (fun v13 hf => ?_)
            refine z_istore (lo' := [some (.ref (zad g 0)), none, none, none, some (.int v11), some (.int v13)]) C dX6_reads_218 (Nat.le_of_ble_eq_true rfl) rfl rfl rfl ?_
            refine z_aload_n (i := 0) C dX6_reads_220 rfl rfl rfl ?_
            refine z_dup C dX6_reads_221 rfl rfl ?_
            refine z_gi C (FX6_reads_190 hM) (mn_0 hM) (mc_0 hM) rfl dX6_reads_222 rfl hf (fun v14 hf => ?_)
            refine z_iload C dX6_reads_225 rfl rfl ?_
            refine kjn_V (fun K235 => ∀ (w15 : Int32), K235 w15 = some o → zV x g 6 0 0 235 [none, none, none, none, none, some (.int v13)] [.int w15, .int v14, .ref (zad g 0)] m12) hf (fun w15 hf => ?_) (fun K235 hK235 hf => ?_)
            · skip
              refine z_iadd C dX6_reads_235 rfl ?_
              refine z_pi C (PX6_reads_190 hM) (mn_0 hM) (mc_0 hM) rfl dX6_reads_236 rfl hf (fun m16 hf => ?_)
              refine z_iload C dX6_reads_239 rfl rfl ?_
              exact kbz_V hf (fun hb hf => hr _ _ _ _ hb (Option.some.inj hf) dX6_reads_241)
            · skip
              refine z_if_eq (tgt := 234) C dX6_reads_227 (by decide) rfl hf (fun hf => ?_) (fun hf => ?_)
              · skip
                refine z_iconst C dX6_reads_234 zi_0 rfl ?_
                refine z_drop (lo' := [none, none, none, none, some (.int v11), some (.int v13)]) 0 rfl ?_
                refine z_drop (lo' := [none, none, none, none, none, some (.int v13)]) 4 rfl ?_
                exact hK235 _ hf
              · skip
                refine z_iconst C dX6_reads_230 zi_1 rfl ?_
                refine z_goto (pc' := 235) C dX6_reads_231 (by decide) ?_
                refine z_drop (lo' := [none, none, none, none, some (.int v11), some (.int v13)]) 0 rfl ?_
                refine z_drop (lo' := [none, none, none, none, none, some (.int v13)]) 4 rfl ?_
                exact hK235 _ hf
          · skip
            refine klp_V (fun z => zV x g 6 0 0 168 [some (.ref (zad g 0)), none, none, some (.int w9), some (.int z.1), none] [] z.2) hf (fun rec z ih hf => ?_)
            obtain ⟨x17, m18⟩ := z
            unfold sX6_reads_168 at hf
            try dsimp only at hf
            try dsimp only
            refine z_iload C dX6_reads_168 rfl rfl ?_
            refine z_iload_n (i := 3) C dX6_reads_170 rfl rfl rfl ?_
            refine z_ic_ge (tgt := 204) C dX6_reads_171 (by decide) rfl hf (fun hf => ?_) (fun hf => ?_)
            · skip
              refine z_drop (lo' := [some (.ref (zad g 0)), none, none, none, some (.int x17), none]) 3 rfl ?_
              refine z_drop (lo' := [some (.ref (zad g 0)), none, none, none, none, none]) 4 rfl ?_
              exact hK204 _ hf
            · skip
              refine z_aload_n (i := 0) C dX6_reads_174 rfl rfl rfl ?_
              refine z_gr C (FX6_reads_25 hM) (mn_0 hM) (mc_0 hM) rfl dX6_reads_175 rfl ?_
              refine z_iload C dX6_reads_178 rfl rfl ?_
              refine z_aload_n (i := 0) C dX6_reads_180 rfl rfl rfl ?_
              refine z_cviW (As := []) (st := [.int x17, .ref (zad g 6)]) (m := m18) C (cl_5 hM) (mn_0 hM) (mc_0 hM) gX6_reads_X6_readsNumber hdX6_readsNumber rfl (fun z h => qX6_readsNumber hM N m18 z h) rfl (Nat.le_of_ble_eq_true rfl) ⟨Nat.le_of_ble_eq_true rfl, Nat.le_of_ble_eq_true rfl⟩ ⟨Nat.le_refl _, Nat.le_refl _⟩ dX6_reads_181 rfl rfl hf (fun v19 m20 hf => ?_)
              refine z_iastore C (mn_6 hM) (mc_6 hM) dX6_reads_184 rfl hf (fun m21 hf => ?_)
              refine z_aload_n (i := 0) C dX6_reads_185 rfl rfl rfl ?_
              refine z_gr C (FX6_reads_25 hM) (mn_0 hM) (mc_0 hM) rfl dX6_reads_186 rfl ?_
              refine z_iload C dX6_reads_189 rfl rfl ?_
              refine z_iaload C (mn_6 hM) (mc_6 hM) dX6_reads_191 rfl hf (fun v22 hf => ?_)
              refine z_iconst C dX6_reads_192 zi_m1 rfl ?_
              refine z_ic_ne (tgt := 198) C dX6_reads_193 (by decide) rfl hf (fun hf => ?_) (fun hf => ?_)
              · skip
                refine z_iinc (v := x17 + 1) (lo' := [some (.ref (zad g 0)), none, none, some (.int w9), some (.int (x17 + 1)), none]) C dX6_reads_198 rfl (zinc zi_1) (Nat.le_of_ble_eq_true rfl) rfl rfl rfl ?_
                refine z_goto (pc' := 168) C dX6_reads_201 (by decide) ?_
                exact ih (x17 + 1, m21) hf
              · skip
                refine z_iconst C dX6_reads_196 zi_0 rfl ?_
                exact hr _ _ _ _ (Or.inl rfl) (Option.some.inj hf) dX6_reads_197
        · skip
          refine z_ic_ne (tgt := 151) C dX6_reads_144 (by decide) rfl hf (fun hf => ?_) (fun hf => ?_)
          · skip
            refine z_aload_n (i := 0) C dX6_reads_151 rfl rfl rfl ?_
            refine z_gi C (FX6_reads_205 hM) (mn_0 hM) (mc_0 hM) rfl dX6_reads_152 rfl hf (fun v23 hf => ?_)
            refine z_iconst C dX6_reads_155 zi_3 rfl ?_
            refine z_ic_ne (tgt := 163) C dX6_reads_156 (by decide) rfl hf (fun hf => ?_) (fun hf => ?_)
            · skip
              refine z_iconst C dX6_reads_163 zi_1 rfl ?_
              refine z_drop (lo' := [some (.ref (zad g 0)), none, none, none, none, none]) 1 rfl ?_
              exact hK164 _ hf
            · skip
              refine z_iconst C dX6_reads_159 zi_2 rfl ?_
              refine z_goto (pc' := 164) C dX6_reads_160 (by decide) ?_
              refine z_drop (lo' := [some (.ref (zad g 0)), none, none, none, none, none]) 1 rfl ?_
              exact hK164 _ hf
          · skip
            refine z_iconst C dX6_reads_147 zi_3 rfl ?_
            refine z_goto (pc' := 164) C dX6_reads_148 (by decide) ?_
            refine z_drop (lo' := [some (.ref (zad g 0)), none, none, none, none, none]) 1 rfl ?_
            exact hK164 _ hf
      · skip
        refine z_aload_n (i := 0) C dX6_reads_132 rfl rfl rfl ?_
        refine z_iload_n (i := 1) C dX6_reads_133 rfl rfl rfl ?_
        refine z_pi C (PX6_reads_190 hM) (mn_0 hM) (mc_0 hM) rfl dX6_reads_134 rfl hf (fun m24 hf => ?_)
        refine z_iconst C dX6_reads_137 zi_0 rfl ?_
        exact hr _ _ _ _ (Or.inl rfl) (Option.some.inj hf) dX6_reads_138
    · skip
      refine z_if_eq (tgt := 68) C dX6_reads_61 (by decide) rfl hf (fun hf => ?_) (fun hf => ?_)
      · skip
        refine z_aload_n (i := 0) C dX6_reads_68 rfl rfl rfl ?_
        refine z_iload_n (i := 1) C dX6_reads_69 rfl rfl rfl ?_
        refine z_iconst C dX6_reads_70 zi_5 rfl ?_
        refine z_bipush C dX6_reads_71 zb_108 rfl ?_
        refine z_bipush C dX6_reads_73 zb_101 rfl ?_
        refine z_bipush C dX6_reads_75 zb_97 rfl ?_
        refine z_bipush C dX6_reads_77 zb_118 rfl ?_
        refine z_bipush C dX6_reads_79 zb_101 rfl ?_
        refine z_cviR (As := [.int v1, .int 5, .int 108, .int 101, .int 97, .int 118, .int 101]) (st := [.ref (zad g 0)]) (m := m2) C (cl_5 hM) (mn_0 hM) (mc_0 hM) gX6_reads_X6_spells hdX6_spells rfl (fun z h => qX6_spells hM v1 5 108 101 97 118 101 m2 z h) rfl (Nat.le_of_ble_eq_true rfl) ⟨Nat.le_of_ble_eq_true rfl, Nat.le_of_ble_eq_true rfl⟩ ⟨Nat.le_refl _, Nat.le_refl _⟩ dX6_reads_81 rfl rfl hf (fun v25 hf => ?_)
        refine z_if_eq (tgt := 91) C dX6_reads_84 (by decide) rfl hf (fun hf => ?_) (fun hf => ?_)
        · skip
          refine z_aload_n (i := 0) C dX6_reads_91 rfl rfl rfl ?_
          refine z_iload_n (i := 1) C dX6_reads_92 rfl rfl rfl ?_
          refine z_iconst C dX6_reads_93 zi_4 rfl ?_
          refine z_bipush C dX6_reads_94 zb_108 rfl ?_
          refine z_bipush C dX6_reads_96 zb_111 rfl ?_
          refine z_bipush C dX6_reads_98 zb_111 rfl ?_
          refine z_bipush C dX6_reads_100 zb_107 rfl ?_
          refine z_iconst C dX6_reads_102 zi_0 rfl ?_
          refine z_cviR (As := [.int v1, .int 4, .int 108, .int 111, .int 111, .int 107, .int 0]) (st := [.ref (zad g 0)]) (m := m2) C (cl_5 hM) (mn_0 hM) (mc_0 hM) gX6_reads_X6_spells hdX6_spells rfl (fun z h => qX6_spells hM v1 4 108 111 111 107 0 m2 z h) rfl (Nat.le_of_ble_eq_true rfl) ⟨Nat.le_of_ble_eq_true rfl, Nat.le_of_ble_eq_true rfl⟩ ⟨Nat.le_refl _, Nat.le_refl _⟩ dX6_reads_103 rfl rfl hf (fun v26 hf => ?_)
          refine z_if_eq (tgt := 113) C dX6_reads_106 (by decide) rfl hf (fun hf => ?_) (fun hf => ?_)
          · skip
            refine z_iload_n (i := 2) C dX6_reads_113 rfl rfl rfl ?_
            refine z_if_eq (tgt := 121) C dX6_reads_114 (by decide) rfl hf (fun hf => ?_) (fun hf => ?_)
            · skip
              refine z_iconst C dX6_reads_121 zi_0 rfl ?_
              refine z_drop (lo' := [some (.ref (zad g 0)), some (.int v1), none, none, none, none]) 2 rfl ?_
              exact hK122 _ hf
            · skip
              refine z_iconst C dX6_reads_117 zi_4 rfl ?_
              refine z_goto (pc' := 122) C dX6_reads_118 (by decide) ?_
              refine z_drop (lo' := [some (.ref (zad g 0)), some (.int v1), none, none, none, none]) 2 rfl ?_
              exact hK122 _ hf
          · skip
            refine z_iconst C dX6_reads_109 zi_3 rfl ?_
            refine z_goto (pc' := 122) C dX6_reads_110 (by decide) ?_
            refine z_drop (lo' := [some (.ref (zad g 0)), some (.int v1), none, none, none, none]) 2 rfl ?_
            exact hK122 _ hf
        · skip
          refine z_iconst C dX6_reads_87 zi_2 rfl ?_
          refine z_goto (pc' := 122) C dX6_reads_88 (by decide) ?_
          refine z_drop (lo' := [some (.ref (zad g 0)), some (.int v1), none, none, none, none]) 2 rfl ?_
          exact hK122 _ hf
      · skip
        refine z_iconst C dX6_reads_64 zi_1 rfl ?_
        refine z_goto (pc' := 122) C dX6_reads_65 (by decide) ?_
        refine z_drop (lo' := [some (.ref (zad g 0)), some (.int v1), none, none, none, none]) 2 rfl ?_
        exact hK122 _ hf
  · skip
    refine klp_V (fun z => zV x g 6 0 0 5 [some (.ref (zad g 0)), some (.int v1), none, none, none, none] [] z) hf (fun rec z ih hf => ?_)
    generalize z = m27 at hf ⊢
    unfold sX6_reads_5 at hf
    try dsimp only at hf
    try dsimp only
    refine z_aload_n (i := 0) C dX6_reads_5 rfl rfl rfl ?_
    refine z_bipush C dX6_reads_6 zb_97 rfl ?_
    refine z_bipush C dX6_reads_8 zb_122 rfl ?_
    refine z_cviR (As := [.int 97, .int 122]) (st := []) (m := m27) C (cl_5 hM) (mn_0 hM) (mc_0 hM) gX6_reads_X6_isAt hdX6_isAt rfl (fun z h => qX6_isAt hM 97 122 m27 z h) rfl (Nat.le_of_ble_eq_true rfl) ⟨Nat.le_of_ble_eq_true rfl, Nat.le_of_ble_eq_true rfl⟩ ⟨Nat.le_refl _, Nat.le_refl _⟩ dX6_reads_10 rfl rfl hf (fun v28 hf => ?_)
    refine z_if_eq (tgt := 29) C dX6_reads_13 (by decide) rfl hf (fun hf => ?_) (fun hf => ?_)
    · skip
      exact hK29 _ hf
    · skip
      refine z_aload_n (i := 0) C dX6_reads_16 rfl rfl rfl ?_
      refine z_dup C dX6_reads_17 rfl rfl ?_
      refine z_gi C (FX6_reads_190 hM) (mn_0 hM) (mc_0 hM) rfl dX6_reads_18 rfl hf (fun v29 hf => ?_)
      refine z_iconst C dX6_reads_21 zi_1 rfl ?_
      refine z_iadd C dX6_reads_22 rfl ?_
      refine z_pi C (PX6_reads_190 hM) (mn_0 hM) (mc_0 hM) rfl dX6_reads_23 rfl hf (fun m30 hf => ?_)
      refine z_goto (pc' := 5) C dX6_reads_26 (by decide) ?_
      exact ih m30 hf

def fX6_does (N : Nat) (m : zMem) : Option (Int32 × zMem) :=
  kld m 6 3 0 fun v1 =>
  kgi m 0 12 fun v2 =>
  if v2 = 1 then
  kc1 (fX6_memberMany N m) fun v3 =>
  kjn (fun (w4 : Int32) =>
  kld m 6 3 1 fun v5 =>
  kc1 (fX6_badAdmission N v1 v5 w4 m) fun v6 =>
  if v6 ≤ 0 then
  kld m 6 3 1 fun v7 =>
  kc2 (fX6_joins N v1 v7 w4 m) fun v8 m9 =>
  some (1, m9)
  else
  some (0, m)) fun K57 =>
  if v3 = 0 then
  K57 (-1)
  else
  kld m 6 3 2 fun v10 =>
  K57 v10
  else if v2 = 2 then
  kc1 (fX6_badMember N v1 m) fun v11 =>
  if v11 ≤ 0 then
  kc1 (fX6_placeOf N v1 m) fun v12 =>
  kc1 (fX6_ends N v12 m) fun m13 =>
  some (1, m13)
  else
  some (0, m)
  else if v2 = 3 then
  kld m 6 3 1 fun v14 =>
  kc1 (fX6_badLook N v1 v14 m) fun v15 =>
  if v15 ≤ 0 then
  kld m 6 3 1 fun v16 =>
  kc2 (fX6_looks N v1 v16 m) fun v17 m18 =>
  some (1, m18)
  else
  some (0, m)
  else kc1 (fX6_areTicks v1) fun v19 =>
  if v19 = 0 then
  some (0, m)
  else
  kc2 (fX6_passes N v1 m) fun v20 m21 =>
  some (1, m21)
theorem FX6_does_25 {g : zG} (hM : isM g) : zFl wsX6_does RX6 (zcl g) 25 5 13 := ⟨RX6, TX6, 15, hM.2.2 ▸ rfl, by decide +kernel, by decide, by decide +kernel⟩
theorem FX6_does_205 {g : zG} (hM : isM g) : zFl wsX6_does RX6 (zcl g) 205 5 12 := ⟨RX6, TX6, 15, hM.2.2 ▸ rfl, by decide +kernel, by decide, by decide +kernel⟩
theorem hdX6_does : yX6_does.cls = RX6 ∧ yX6_does.cls ≠ "java/lang/invoke/MethodHandle" ∧ yX6_does.cls ≠ "java/lang/invoke/VarHandle" ∧ (parseMethodDescriptor yX6_does.desc).map (fun d => d.parameters.length) = some 0 := by decide +kernel
set_option maxHeartbeats 4000000 in
set_option maxRecDepth 100000 in
theorem qX6_does {l : Launch} {g : zG} (hM : isM g)  (N : Nat) (m : zMem)  (o : Int32 × zMem) (hf : fX6_does N m = some o) : zMI l g yX6_does wsX6_does { frames := 7, cells := 0, slots := 0, locals := 170 } [.ref (zad g 0)] m o := by
  refine z_met_z (cc := cX6_does) (maxL := 4) (lo0 := [some (.ref (zad g 0)), none, none, none]) (by decide +kernel) rfl rfl (Nat.le_of_ble_eq_true rfl) (fun x hx C hr => ?_)
  unfold fX6_does at hf
  refine z_aload_n (i := 0) C dX6_does_0 rfl rfl rfl ?_
  refine z_gr C (FX6_does_25 hM) (mn_0 hM) (mc_0 hM) rfl dX6_does_1 rfl ?_
  refine z_iconst C dX6_does_4 zi_0 rfl ?_
  refine z_iaload C (mn_6 hM) (mc_6 hM) dX6_does_5 rfl hf (fun v1 hf => ?_)
  refine z_istore_n (i := 1) (lo' := [some (.ref (zad g 0)), some (.int v1), none, none]) C dX6_does_6 rfl (Nat.le_of_ble_eq_true rfl) rfl rfl rfl ?_
  refine z_iconst C dX6_does_7 zi_0 rfl ?_
  refine z_istore_n (i := 2) (lo' := [some (.ref (zad g 0)), some (.int v1), some (.int 0), none]) C dX6_does_8 rfl (Nat.le_of_ble_eq_true rfl) rfl rfl rfl ?_
  refine z_aload_n (i := 0) C dX6_does_9 rfl rfl rfl ?_
  refine z_gi C (FX6_does_205 hM) (mn_0 hM) (mc_0 hM) rfl dX6_does_10 rfl hf (fun v2 hf => ?_)
  refine ite_V hf (fun hn hf => ?_) (fun hn13_0 hf => ?_)
  · refine z_tsi (tgt := 40) C hn dX6_does_13 (by decide) (by decide) rfl (by decide) ?_
    refine z_aload_n (i := 0) C dX6_does_40 rfl rfl rfl ?_
    refine z_cviR (As := []) (st := []) (m := m) C (cl_5 hM) (mn_0 hM) (mc_0 hM) gX6_does_X6_memberMany hdX6_memberMany rfl (fun z h => qX6_memberMany hM N m z h) rfl (Nat.le_of_ble_eq_true rfl) ⟨Nat.le_of_ble_eq_true rfl, Nat.le_of_ble_eq_true rfl⟩ ⟨Nat.le_refl _, Nat.le_refl _⟩ dX6_does_41 rfl rfl hf (fun v3 hf => ?_)
    refine kjn_V (fun K57 => ∀ (w4 : Int32), K57 w4 = some o → zV x g 4 0 0 57 [some (.ref (zad g 0)), some (.int v1), none, none] [.int w4] m) hf (fun w4 hf => ?_) (fun K57 hK57 hf => ?_)
    · skip
      refine z_istore_n (i := 3) (lo' := [some (.ref (zad g 0)), some (.int v1), none, some (.int w4)]) C dX6_does_57 rfl (Nat.le_of_ble_eq_true rfl) rfl rfl rfl ?_
      refine z_aload_n (i := 0) C dX6_does_58 rfl rfl rfl ?_
      refine z_iload_n (i := 1) C dX6_does_59 rfl rfl rfl ?_
      refine z_aload_n (i := 0) C dX6_does_60 rfl rfl rfl ?_
      refine z_gr C (FX6_does_25 hM) (mn_0 hM) (mc_0 hM) rfl dX6_does_61 rfl ?_
      refine z_iconst C dX6_does_64 zi_1 rfl ?_
      refine z_iaload C (mn_6 hM) (mc_6 hM) dX6_does_65 rfl hf (fun v5 hf => ?_)
      refine z_iload_n (i := 3) C dX6_does_66 rfl rfl rfl ?_
      refine z_cviR (As := [.int v1, .int v5, .int w4]) (st := []) (m := m) C (cl_5 hM) (mn_0 hM) (mc_0 hM) gX6_does_X6_badAdmission hdX6_badAdmission rfl (fun z h => qX6_badAdmission hM N v1 v5 w4 m z h) rfl (Nat.le_of_ble_eq_true rfl) ⟨Nat.le_of_ble_eq_true rfl, Nat.le_of_ble_eq_true rfl⟩ ⟨Nat.le_refl _, Nat.le_refl _⟩ dX6_does_67 rfl rfl hf (fun v6 hf => ?_)
      refine z_if_le (tgt := 75) C dX6_does_70 (by decide) rfl hf (fun hf => ?_) (fun hf => ?_)
      · skip
        refine z_aload_n (i := 0) C dX6_does_75 rfl rfl rfl ?_
        refine z_iload_n (i := 1) C dX6_does_76 rfl rfl rfl ?_
        refine z_aload_n (i := 0) C dX6_does_77 rfl rfl rfl ?_
        refine z_gr C (FX6_does_25 hM) (mn_0 hM) (mc_0 hM) rfl dX6_does_78 rfl ?_
        refine z_iconst C dX6_does_81 zi_1 rfl ?_
        refine z_iaload C (mn_6 hM) (mc_6 hM) dX6_does_82 rfl hf (fun v7 hf => ?_)
        refine z_iload_n (i := 3) C dX6_does_83 rfl rfl rfl ?_
        refine z_cviW (As := [.int v1, .int v7, .int w4]) (st := []) (m := m) C (cl_5 hM) (mn_0 hM) (mc_0 hM) gX6_does_X6_joins hdX6_joins rfl (fun z h => qX6_joins hM N v1 v7 w4 m z h) rfl (Nat.le_of_ble_eq_true rfl) ⟨Nat.le_of_ble_eq_true rfl, Nat.le_of_ble_eq_true rfl⟩ ⟨Nat.le_refl _, Nat.le_refl _⟩ dX6_does_84 rfl rfl hf (fun v8 m9 hf => ?_)
        refine z_istore_n (i := 2) (lo' := [some (.ref (zad g 0)), some (.int v1), some (.int v8), some (.int w4)]) C dX6_does_87 rfl (Nat.le_of_ble_eq_true rfl) rfl rfl rfl ?_
        refine z_iconst C dX6_does_88 zi_1 rfl ?_
        exact hr _ _ _ _ (Or.inr rfl) (Option.some.inj hf) dX6_does_89
      · skip
        refine z_iconst C dX6_does_73 zi_0 rfl ?_
        exact hr _ _ _ _ (Or.inl rfl) (Option.some.inj hf) dX6_does_74
    · skip
      refine z_if_ne (tgt := 51) C dX6_does_44 (by decide) rfl hf (fun hf => ?_) (fun hf => ?_)
      · skip
        refine z_aload_n (i := 0) C dX6_does_51 rfl rfl rfl ?_
        refine z_gr C (FX6_does_25 hM) (mn_0 hM) (mc_0 hM) rfl dX6_does_52 rfl ?_
        refine z_iconst C dX6_does_55 zi_2 rfl ?_
        refine z_iaload C (mn_6 hM) (mc_6 hM) dX6_does_56 rfl hf (fun v10 hf => ?_)
        refine z_drop (lo' := [some (.ref (zad g 0)), some (.int v1), none, none]) 2 rfl ?_
        exact hK57 _ hf
      · skip
        refine z_iconst C dX6_does_47 zi_m1 rfl ?_
        refine z_goto (pc' := 57) C dX6_does_48 (by decide) ?_
        refine z_drop (lo' := [some (.ref (zad g 0)), some (.int v1), none, none]) 2 rfl ?_
        exact hK57 _ hf
  · skip
    refine ite_V hf (fun hn hf => ?_) (fun hn13_1 hf => ?_)
    · refine z_tsi (tgt := 90) C hn dX6_does_13 (by decide) (by decide) rfl (by decide) ?_
      refine z_aload_n (i := 0) C dX6_does_90 rfl rfl rfl ?_
      refine z_iload_n (i := 1) C dX6_does_91 rfl rfl rfl ?_
      refine z_cviR (As := [.int v1]) (st := []) (m := m) C (cl_5 hM) (mn_0 hM) (mc_0 hM) gX6_does_X6_badMember hdX6_badMember rfl (fun z h => qX6_badMember hM N v1 m z h) rfl (Nat.le_of_ble_eq_true rfl) ⟨Nat.le_of_ble_eq_true rfl, Nat.le_of_ble_eq_true rfl⟩ ⟨Nat.le_refl _, Nat.le_refl _⟩ dX6_does_92 rfl rfl hf (fun v11 hf => ?_)
      refine z_if_le (tgt := 100) C dX6_does_95 (by decide) rfl hf (fun hf => ?_) (fun hf => ?_)
      · skip
        refine z_aload_n (i := 0) C dX6_does_100 rfl rfl rfl ?_
        refine z_aload_n (i := 0) C dX6_does_101 rfl rfl rfl ?_
        refine z_iload_n (i := 1) C dX6_does_102 rfl rfl rfl ?_
        refine z_cviR (As := [.int v1]) (st := [.ref (zad g 0)]) (m := m) C (cl_5 hM) (mn_0 hM) (mc_0 hM) gX6_does_X6_placeOf hdX6_placeOf rfl (fun z h => qX6_placeOf hM N v1 m z h) rfl (Nat.le_of_ble_eq_true rfl) ⟨Nat.le_of_ble_eq_true rfl, Nat.le_of_ble_eq_true rfl⟩ ⟨Nat.le_refl _, Nat.le_refl _⟩ dX6_does_103 rfl rfl hf (fun v12 hf => ?_)
        refine z_cvvW (As := [.int v12]) (st := []) (m := m) C (cl_5 hM) (mn_0 hM) (mc_0 hM) gX6_does_X6_ends hdX6_ends rfl (fun z h => qX6_ends hM N v12 m z h) rfl (Nat.le_of_ble_eq_true rfl) ⟨Nat.le_of_ble_eq_true rfl, Nat.le_of_ble_eq_true rfl⟩ ⟨Nat.le_refl _, Nat.le_refl _⟩ dX6_does_106 rfl rfl hf (fun m13 hf => ?_)
        refine z_iconst C dX6_does_109 zi_1 rfl ?_
        exact hr _ _ _ _ (Or.inr rfl) (Option.some.inj hf) dX6_does_110
      · skip
        refine z_iconst C dX6_does_98 zi_0 rfl ?_
        exact hr _ _ _ _ (Or.inl rfl) (Option.some.inj hf) dX6_does_99
    · skip
      refine ite_V hf (fun hn hf => ?_) (fun hn13_2 hf => ?_)
      · refine z_tsi (tgt := 111) C hn dX6_does_13 (by decide) (by decide) rfl (by decide) ?_
        refine z_aload_n (i := 0) C dX6_does_111 rfl rfl rfl ?_
        refine z_iload_n (i := 1) C dX6_does_112 rfl rfl rfl ?_
        refine z_aload_n (i := 0) C dX6_does_113 rfl rfl rfl ?_
        refine z_gr C (FX6_does_25 hM) (mn_0 hM) (mc_0 hM) rfl dX6_does_114 rfl ?_
        refine z_iconst C dX6_does_117 zi_1 rfl ?_
        refine z_iaload C (mn_6 hM) (mc_6 hM) dX6_does_118 rfl hf (fun v14 hf => ?_)
        refine z_cviR (As := [.int v1, .int v14]) (st := []) (m := m) C (cl_5 hM) (mn_0 hM) (mc_0 hM) gX6_does_X6_badLook hdX6_badLook rfl (fun z h => qX6_badLook hM N v1 v14 m z h) rfl (Nat.le_of_ble_eq_true rfl) ⟨Nat.le_of_ble_eq_true rfl, Nat.le_of_ble_eq_true rfl⟩ ⟨Nat.le_refl _, Nat.le_refl _⟩ dX6_does_119 rfl rfl hf (fun v15 hf => ?_)
        refine z_if_le (tgt := 127) C dX6_does_122 (by decide) rfl hf (fun hf => ?_) (fun hf => ?_)
        · skip
          refine z_aload_n (i := 0) C dX6_does_127 rfl rfl rfl ?_
          refine z_iload_n (i := 1) C dX6_does_128 rfl rfl rfl ?_
          refine z_aload_n (i := 0) C dX6_does_129 rfl rfl rfl ?_
          refine z_gr C (FX6_does_25 hM) (mn_0 hM) (mc_0 hM) rfl dX6_does_130 rfl ?_
          refine z_iconst C dX6_does_133 zi_1 rfl ?_
          refine z_iaload C (mn_6 hM) (mc_6 hM) dX6_does_134 rfl hf (fun v16 hf => ?_)
          refine z_cviW (As := [.int v1, .int v16]) (st := []) (m := m) C (cl_5 hM) (mn_0 hM) (mc_0 hM) gX6_does_X6_looks hdX6_looks rfl (fun z h => qX6_looks hM N v1 v16 m z h) rfl (Nat.le_of_ble_eq_true rfl) ⟨Nat.le_of_ble_eq_true rfl, Nat.le_of_ble_eq_true rfl⟩ ⟨Nat.le_refl _, Nat.le_refl _⟩ dX6_does_135 rfl rfl hf (fun v17 m18 hf => ?_)
          refine z_istore_n (i := 2) (lo' := [some (.ref (zad g 0)), some (.int v1), some (.int v17), none]) C dX6_does_138 rfl (Nat.le_of_ble_eq_true rfl) rfl rfl rfl ?_
          refine z_iconst C dX6_does_139 zi_1 rfl ?_
          exact hr _ _ _ _ (Or.inr rfl) (Option.some.inj hf) dX6_does_140
        · skip
          refine z_iconst C dX6_does_125 zi_0 rfl ?_
          exact hr _ _ _ _ (Or.inl rfl) (Option.some.inj hf) dX6_does_126
      · skip
        refine z_tso (tgt := 141) C dX6_does_13 (z_tswd (fun c h1 h2 => ?_)) (by decide) ?_
        · have hc : c = 1 ∨ c = 2 ∨ c = 3 := by omega
          rcases hc with rfl|rfl|rfl
          · rw [zi_1]; exact hn13_0
          · rw [zi_2]; exact hn13_1
          · rw [zi_3]; exact hn13_2
        · skip
          refine z_iload_n (i := 1) C dX6_does_141 rfl rfl rfl ?_
          refine z_csiR (As := [.int v1]) (st := []) (m := m) C gX6_does_X6_areTicks hdX6_areTicks rfl (fun z h => qX6_areTicks v1 m z h) rfl (Nat.le_of_ble_eq_true rfl) ⟨Nat.le_of_ble_eq_true rfl, Nat.le_of_ble_eq_true rfl⟩ ⟨Nat.le_refl _, Nat.le_refl _⟩ dX6_does_142 rfl rfl hf (fun v19 hf => ?_)
          refine z_if_ne (tgt := 150) C dX6_does_145 (by decide) rfl hf (fun hf => ?_) (fun hf => ?_)
          · skip
            refine z_aload_n (i := 0) C dX6_does_150 rfl rfl rfl ?_
            refine z_iload_n (i := 1) C dX6_does_151 rfl rfl rfl ?_
            refine z_cviW (As := [.int v1]) (st := []) (m := m) C (cl_5 hM) (mn_0 hM) (mc_0 hM) gX6_does_X6_passes hdX6_passes rfl (fun z h => qX6_passes hM N v1 m z h) rfl (Nat.le_of_ble_eq_true rfl) ⟨Nat.le_of_ble_eq_true rfl, Nat.le_of_ble_eq_true rfl⟩ ⟨Nat.le_refl _, Nat.le_refl _⟩ dX6_does_152 rfl rfl hf (fun v20 m21 hf => ?_)
            refine z_istore_n (i := 2) (lo' := [some (.ref (zad g 0)), some (.int v1), some (.int v20), none]) C dX6_does_155 rfl (Nat.le_of_ble_eq_true rfl) rfl rfl rfl ?_
            refine z_iconst C dX6_does_156 zi_1 rfl ?_
            exact hr _ _ _ _ (Or.inr rfl) (Option.some.inj hf) dX6_does_157
          · skip
            refine z_iconst C dX6_does_148 zi_0 rfl ?_
            exact hr _ _ _ _ (Or.inl rfl) (Option.some.inj hf) dX6_does_149
