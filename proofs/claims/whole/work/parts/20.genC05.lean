def fX5_member (N : Nat) (a1 : Int32) (a2 : Int32) (m : zMem) : Option (Int32) :=
  kc1 (fX5_refuseOutside a1 0 255) fun u1 =>
  kc1 (fX5_refuseOutside a2 0 4) fun u2 =>
  kc1 (fX5_memberValue N a1 a2 m) fun v3 =>
  some v3
theorem hdX5_member : yX5_member.cls = RX5 ∧ yX5_member.cls ≠ "java/lang/invoke/MethodHandle" ∧ yX5_member.cls ≠ "java/lang/invoke/VarHandle" ∧ (parseMethodDescriptor yX5_member.desc).map (fun d => d.parameters.length) = some 2 := by decide +kernel
set_option maxHeartbeats 4000000 in
set_option maxRecDepth 100000 in
theorem qX5_member {l : Launch} {g : zG} (hC : isC g)  (N : Nat) (a1 : Int32) (a2 : Int32) (m : zMem)  (o : Int32) (hf : fX5_member N a1 a2 m = some o) : zMI l g yX5_member wsX5_member { frames := 4, cells := 0, slots := 0, locals := 92 } [.ref (zad g 0), .int a1, .int a2] m (o, m) := by
  refine z_met_i (cc := cX5_member) (maxL := 3) (lo0 := [some (.ref (zad g 0)), some (.int a1), some (.int a2)]) (by decide +kernel) rfl rfl (Nat.le_of_ble_eq_true rfl) (fun x hx C hr => ?_)
  unfold fX5_member at hf
  refine z_iload_n (i := 1) C dX5_member_0 rfl rfl rfl ?_
  refine z_iconst C dX5_member_1 zi_0 rfl ?_
  refine z_sipush C dX5_member_2 zs_255 rfl ?_
  refine z_csvR (As := [.int a1, .int 0, .int 255]) (st := []) (m := m) C gX5_member_X5_refuseOutside hdX5_refuseOutside rfl (fun z h => qX5_refuseOutside a1 0 255 m z h) rfl (Nat.le_of_ble_eq_true rfl) ⟨Nat.le_of_ble_eq_true rfl, Nat.le_of_ble_eq_true rfl⟩ ⟨Nat.le_refl _, Nat.le_refl _⟩ dX5_member_5 rfl rfl hf (fun u1 hf => ?_)
  refine z_iload_n (i := 2) C dX5_member_8 rfl rfl rfl ?_
  refine z_iconst C dX5_member_9 zi_0 rfl ?_
  refine z_iconst C dX5_member_10 zi_4 rfl ?_
  refine z_csvR (As := [.int a2, .int 0, .int 4]) (st := []) (m := m) C gX5_member_X5_refuseOutside hdX5_refuseOutside rfl (fun z h => qX5_refuseOutside a2 0 4 m z h) rfl (Nat.le_of_ble_eq_true rfl) ⟨Nat.le_of_ble_eq_true rfl, Nat.le_of_ble_eq_true rfl⟩ ⟨Nat.le_refl _, Nat.le_refl _⟩ dX5_member_11 rfl rfl hf (fun u2 hf => ?_)
  refine z_aload_n (i := 0) C dX5_member_14 rfl rfl rfl ?_
  refine z_iload_n (i := 1) C dX5_member_15 rfl rfl rfl ?_
  refine z_iload_n (i := 2) C dX5_member_16 rfl rfl rfl ?_
  refine z_cviR (As := [.int a1, .int a2]) (st := []) (m := m) C (cl_4 hC) (tn_0 hC) (tc_0 hC) gX5_member_X5_memberValue hdX5_memberValue rfl (fun z h => qX5_memberValue hC N a1 a2 m z h) rfl (Nat.le_of_ble_eq_true rfl) ⟨Nat.le_of_ble_eq_true rfl, Nat.le_of_ble_eq_true rfl⟩ ⟨Nat.le_refl _, Nat.le_refl _⟩ dX5_member_17 rfl rfl hf (fun v3 hf => ?_)
  exact hr _ _ _ _ (congrArg (fun z => (z, m)) (Option.some.inj hf)) dX5_member_20

def sX5_memberAt_8 (a1 : Int32) (m : zMem) (K42 : Option (Int32)) : (Int32 × Int32 → Option (Int32)) → Int32 × Int32 → Option (Int32) := fun rec (x2, x3) =>
  if 255 < x3 then
  K42
  else
  kgr m 0 fun s4 => kis s4 <|
  kc1 (fX2_isMember s4 x3 m) fun v5 =>
  if v5 = 0 then
  rec (x2, x3 + 1)
  else
  if x2 = a1 then
  some x3
  else
  rec (x2 + 1, x3 + 1)
def fX5_memberAt (N : Nat) (a1 : Int32) (m : zMem) : Option (Int32) :=
  kc1 (fX5_refuseNegative a1) fun u1 =>
  kjn (some (-1)) fun K42 =>
  klp (sX5_memberAt_8 a1 m K42) N (0, 0)
theorem FX5_memberAt_26 {g : zG} (hC : isC g) : zFl wsX5_memberAt RX5 (zcl g) 26 4 2 := ⟨RX5, TX5, 7, hC.2.2 ▸ rfl, by decide +kernel, by decide, by decide +kernel⟩
theorem hdX5_memberAt : yX5_memberAt.cls = RX5 ∧ yX5_memberAt.cls ≠ "java/lang/invoke/MethodHandle" ∧ yX5_memberAt.cls ≠ "java/lang/invoke/VarHandle" ∧ (parseMethodDescriptor yX5_memberAt.desc).map (fun d => d.parameters.length) = some 1 := by decide +kernel
set_option maxHeartbeats 4000000 in
set_option maxRecDepth 100000 in
theorem qX5_memberAt {l : Launch} {g : zG} (hC : isC g)  (N : Nat) (a1 : Int32) (m : zMem)  (o : Int32) (hf : fX5_memberAt N a1 m = some o) : zMI l g yX5_memberAt wsX5_memberAt { frames := 1, cells := 0, slots := 0, locals := 21 } [.ref (zad g 0), .int a1] m (o, m) := by
  refine z_met_i (cc := cX5_memberAt) (maxL := 4) (lo0 := [some (.ref (zad g 0)), some (.int a1), none, none]) (by decide +kernel) rfl rfl (Nat.le_of_ble_eq_true rfl) (fun x hx C hr => ?_)
  unfold fX5_memberAt at hf
  refine z_iload_n (i := 1) C dX5_memberAt_0 rfl rfl rfl ?_
  refine z_csvR (As := [.int a1]) (st := []) (m := m) C gX5_memberAt_X5_refuseNegative hdX5_refuseNegative rfl (fun z h => qX5_refuseNegative a1 m z h) rfl (Nat.le_of_ble_eq_true rfl) ⟨Nat.le_of_ble_eq_true rfl, Nat.le_of_ble_eq_true rfl⟩ ⟨Nat.le_refl _, Nat.le_refl _⟩ dX5_memberAt_1 rfl rfl hf (fun u1 hf => ?_)
  refine z_iconst C dX5_memberAt_4 zi_0 rfl ?_
  refine z_istore_n (i := 2) (lo' := [some (.ref (zad g 0)), some (.int a1), some (.int 0), none]) C dX5_memberAt_5 rfl (Nat.le_of_ble_eq_true rfl) rfl rfl rfl ?_
  refine z_iconst C dX5_memberAt_6 zi_0 rfl ?_
  refine z_istore_n (i := 3) (lo' := [some (.ref (zad g 0)), some (.int a1), some (.int 0), some (.int 0)]) C dX5_memberAt_7 rfl (Nat.le_of_ble_eq_true rfl) rfl rfl rfl ?_
  refine kjn_V (fun K42 => K42 = some o → zV x g 4 0 0 42 [none, none, none, none] [] m) hf (fun  hf => ?_) (fun K42 hK42 hf => ?_)
  · skip
    refine z_iconst C dX5_memberAt_42 zi_m1 rfl ?_
    exact hr _ _ _ _ (congrArg (fun z => (z, m)) (Option.some.inj hf)) dX5_memberAt_43
  · skip
    refine klp_V (fun z => zV x g 4 0 0 8 [some (.ref (zad g 0)), some (.int a1), some (.int z.1), some (.int z.2)] [] m) hf (fun rec z ih hf => ?_)
    obtain ⟨x2, x3⟩ := z
    unfold sX5_memberAt_8 at hf
    try dsimp only at hf
    try dsimp only
    refine z_iload_n (i := 3) C dX5_memberAt_8 rfl rfl rfl ?_
    refine z_sipush C dX5_memberAt_9 zs_255 rfl ?_
    refine z_ic_gt (tgt := 42) C dX5_memberAt_12 (by decide) rfl hf (fun hf => ?_) (fun hf => ?_)
    · skip
      refine z_drop (lo' := [none, some (.int a1), some (.int x2), some (.int x3)]) 0 rfl ?_
      refine z_drop (lo' := [none, none, some (.int x2), some (.int x3)]) 1 rfl ?_
      refine z_drop (lo' := [none, none, none, some (.int x3)]) 2 rfl ?_
      refine z_drop (lo' := [none, none, none, none]) 3 rfl ?_
      exact hK42 hf
    · skip
      refine z_aload_n (i := 0) C dX5_memberAt_15 rfl rfl rfl ?_
      refine z_gv C (FX5_memberAt_26 hC) (tn_0 hC) (tc_0 hC) rfl dX5_memberAt_16 rfl hf (fun s4 hf => ?_)
      refine kis_V hf (fun hs4 hf => ?_)
      refine z_iload_n (i := 3) C dX5_memberAt_19 rfl rfl rfl ?_
      refine z_cviR (As := [.int x3]) (st := []) (m := m) C (cl_1 hC) (sn_0 hC hs4) (sc_0 hC hs4) gX5_memberAt_X2_isMember hdX2_isMember rfl (fun z h => qX2_isMember hC s4 x3 m hs4 z h) rfl (Nat.le_of_ble_eq_true rfl) ⟨Nat.le_of_ble_eq_true rfl, Nat.le_of_ble_eq_true rfl⟩ ⟨Nat.le_refl _, Nat.le_refl _⟩ dX5_memberAt_20 rfl rfl hf (fun v5 hf => ?_)
      refine z_if_eq (tgt := 36) C dX5_memberAt_23 (by decide) rfl hf (fun hf => ?_) (fun hf => ?_)
      · skip
        refine z_iinc (v := x3 + 1) (lo' := [some (.ref (zad g 0)), some (.int a1), some (.int x2), some (.int (x3 + 1))]) C dX5_memberAt_36 rfl (zinc zi_1) (Nat.le_of_ble_eq_true rfl) rfl rfl rfl ?_
        refine z_goto (pc' := 8) C dX5_memberAt_39 (by decide) ?_
        exact ih (x2, x3 + 1) hf
      · skip
        refine z_iload_n (i := 2) C dX5_memberAt_26 rfl rfl rfl ?_
        refine z_iload_n (i := 1) C dX5_memberAt_27 rfl rfl rfl ?_
        refine z_ic_ne (tgt := 33) C dX5_memberAt_28 (by decide) rfl hf (fun hf => ?_) (fun hf => ?_)
        · skip
          refine z_iinc (v := x2 + 1) (lo' := [some (.ref (zad g 0)), some (.int a1), some (.int (x2 + 1)), some (.int x3)]) C dX5_memberAt_33 rfl (zinc zi_1) (Nat.le_of_ble_eq_true rfl) rfl rfl rfl ?_
          refine z_iinc (v := x3 + 1) (lo' := [some (.ref (zad g 0)), some (.int a1), some (.int (x2 + 1)), some (.int (x3 + 1))]) C dX5_memberAt_36 rfl (zinc zi_1) (Nat.le_of_ble_eq_true rfl) rfl rfl rfl ?_
          refine z_goto (pc' := 8) C dX5_memberAt_39 (by decide) ?_
          exact ih (x2 + 1, x3 + 1) hf
        · skip
          refine z_iload_n (i := 3) C dX5_memberAt_31 rfl rfl rfl ?_
          exact hr _ _ _ _ (congrArg (fun z => (z, m)) (Option.some.inj hf)) dX5_memberAt_32

def fX5_entry (a1 : Int32) (a2 : Int32) (a3 : Int32) (a4 : Int32) (m : zMem) : Option (Int32) :=
  kc1 (fX5_refuseOutside a2 0 7) fun u1 =>
  kc1 (fX5_refuseNegative a3) fun u2 =>
  kc1 (fX5_refuseOutside a4 0 1) fun u3 =>
  kc1 (fX5_memberFault a1 m) fun v4 =>
  kc1 (fX5_raise v4) fun u5 =>
  kgr m 0 fun s6 => kis s6 <|
  kld m (s6 + 2) 256 a1 fun v7 =>
  kc1 (fX3_bucketPlace v7 a2) fun v8 =>
  kgr m 0 fun s9 => kis s9 <|
  kld m (s9 + 7) 192 v8 fun v10 =>
  if a3 < v10 then
  klt ((v8 * 4) + a3 : Int32) fun v11 =>
  if a4 = 0 then
  kgr m 0 fun s14 => kis s14 <|
  kld m (s14 + 8) 768 v11 fun v15 =>
  some v15
  else
  kgr m 0 fun s12 => kis s12 <|
  kld m (s12 + 9) 768 v11 fun v13 =>
  some v13
  else
  some (-1)
theorem FX5_entry_26 {g : zG} (hC : isC g) : zFl wsX5_entry RX5 (zcl g) 26 4 2 := ⟨RX5, TX5, 7, hC.2.2 ▸ rfl, by decide +kernel, by decide, by decide +kernel⟩
theorem FX5_entry_148 {g : zG} (hC : isC g) : zFl wsX5_entry RX5 (zcl g) 148 1 9 := ⟨RX2, TX2, 14, hC.2.2 ▸ rfl, by decide +kernel, by decide, by decide +kernel⟩
theorem FX5_entry_157 {g : zG} (hC : isC g) : zFl wsX5_entry RX5 (zcl g) 157 1 13 := ⟨RX2, TX2, 14, hC.2.2 ▸ rfl, by decide +kernel, by decide, by decide +kernel⟩
theorem FX5_entry_161 {g : zG} (hC : isC g) : zFl wsX5_entry RX5 (zcl g) 161 2 0 := ⟨RX3, TX3, 3, hC.2.2 ▸ rfl, by decide +kernel, by decide, by decide +kernel⟩
theorem FX5_entry_164 {g : zG} (hC : isC g) : zFl wsX5_entry RX5 (zcl g) 164 2 1 := ⟨RX3, TX3, 3, hC.2.2 ▸ rfl, by decide +kernel, by decide, by decide +kernel⟩
theorem FX5_entry_167 {g : zG} (hC : isC g) : zFl wsX5_entry RX5 (zcl g) 167 2 2 := ⟨RX3, TX3, 3, hC.2.2 ▸ rfl, by decide +kernel, by decide, by decide +kernel⟩
theorem hdX5_entry : yX5_entry.cls = RX5 ∧ yX5_entry.cls ≠ "java/lang/invoke/MethodHandle" ∧ yX5_entry.cls ≠ "java/lang/invoke/VarHandle" ∧ (parseMethodDescriptor yX5_entry.desc).map (fun d => d.parameters.length) = some 4 := by decide +kernel
set_option maxHeartbeats 4000000 in
set_option maxRecDepth 100000 in
theorem qX5_entry {l : Launch} {g : zG} (hC : isC g)  (a1 : Int32) (a2 : Int32) (a3 : Int32) (a4 : Int32) (m : zMem)  (o : Int32) (hf : fX5_entry a1 a2 a3 a4 m = some o) : zMI l g yX5_entry wsX5_entry { frames := 2, cells := 0, slots := 0, locals := 44 } [.ref (zad g 0), .int a1, .int a2, .int a3, .int a4] m (o, m) := by
  refine z_met_i (cc := cX5_entry) (maxL := 7) (lo0 := [some (.ref (zad g 0)), some (.int a1), some (.int a2), some (.int a3), some (.int a4), none, none]) (by decide +kernel) rfl rfl (Nat.le_of_ble_eq_true rfl) (fun x hx C hr => ?_)
  unfold fX5_entry at hf
  refine z_iload_n (i := 2) C dX5_entry_0 rfl rfl rfl ?_
  refine z_iconst C dX5_entry_1 zi_0 rfl ?_
  refine z_bipush C dX5_entry_2 zb_7 rfl ?_
  refine z_csvR (As := [.int a2, .int 0, .int 7]) (st := []) (m := m) C gX5_entry_X5_refuseOutside hdX5_refuseOutside rfl (fun z h => qX5_refuseOutside a2 0 7 m z h) rfl (Nat.le_of_ble_eq_true rfl) ⟨Nat.le_of_ble_eq_true rfl, Nat.le_of_ble_eq_true rfl⟩ ⟨Nat.le_refl _, Nat.le_refl _⟩ dX5_entry_4 rfl rfl hf (fun u1 hf => ?_)
  refine z_iload_n (i := 3) C dX5_entry_7 rfl rfl rfl ?_
  refine z_csvR (As := [.int a3]) (st := []) (m := m) C gX5_entry_X5_refuseNegative hdX5_refuseNegative rfl (fun z h => qX5_refuseNegative a3 m z h) rfl (Nat.le_of_ble_eq_true rfl) ⟨Nat.le_of_ble_eq_true rfl, Nat.le_of_ble_eq_true rfl⟩ ⟨Nat.le_refl _, Nat.le_refl _⟩ dX5_entry_8 rfl rfl hf (fun u2 hf => ?_)
  refine z_iload C dX5_entry_11 rfl rfl ?_
  refine z_iconst C dX5_entry_13 zi_0 rfl ?_
  refine z_iconst C dX5_entry_14 zi_1 rfl ?_
  refine z_csvR (As := [.int a4, .int 0, .int 1]) (st := []) (m := m) C gX5_entry_X5_refuseOutside hdX5_refuseOutside rfl (fun z h => qX5_refuseOutside a4 0 1 m z h) rfl (Nat.le_of_ble_eq_true rfl) ⟨Nat.le_of_ble_eq_true rfl, Nat.le_of_ble_eq_true rfl⟩ ⟨Nat.le_refl _, Nat.le_refl _⟩ dX5_entry_15 rfl rfl hf (fun u3 hf => ?_)
  refine z_aload_n (i := 0) C dX5_entry_18 rfl rfl rfl ?_
  refine z_iload_n (i := 1) C dX5_entry_19 rfl rfl rfl ?_
  refine z_cviR (As := [.int a1]) (st := []) (m := m) C (cl_4 hC) (tn_0 hC) (tc_0 hC) gX5_entry_X5_memberFault hdX5_memberFault rfl (fun z h => qX5_memberFault hC a1 m z h) rfl (Nat.le_of_ble_eq_true rfl) ⟨Nat.le_of_ble_eq_true rfl, Nat.le_of_ble_eq_true rfl⟩ ⟨Nat.le_refl _, Nat.le_refl _⟩ dX5_entry_20 rfl rfl hf (fun v4 hf => ?_)
  refine z_csvR (As := [.int v4]) (st := []) (m := m) C gX5_entry_X5_raise hdX5_raise rfl (fun z h => qX5_raise v4 m z h) rfl (Nat.le_of_ble_eq_true rfl) ⟨Nat.le_of_ble_eq_true rfl, Nat.le_of_ble_eq_true rfl⟩ ⟨Nat.le_refl _, Nat.le_refl _⟩ dX5_entry_23 rfl rfl hf (fun u5 hf => ?_)
  refine z_aload_n (i := 0) C dX5_entry_26 rfl rfl rfl ?_
  refine z_gv C (FX5_entry_26 hC) (tn_0 hC) (tc_0 hC) rfl dX5_entry_27 rfl hf (fun s6 hf => ?_)
  refine kis_V hf (fun hs6 hf => ?_)
  refine z_gr C (FX5_entry_148 hC) (sn_0 hC hs6) (sc_0 hC hs6) rfl dX5_entry_30 rfl ?_
  refine z_iload_n (i := 1) C dX5_entry_33 rfl rfl rfl ?_
  refine z_iaload C (sn_2 hC hs6) (sc_2 hC hs6) dX5_entry_34 rfl hf (fun v7 hf => ?_)
  refine z_iload_n (i := 2) C dX5_entry_35 rfl rfl rfl ?_
  refine z_csiR (As := [.int v7, .int a2]) (st := []) (m := m) C gX5_entry_X3_bucketPlace hdX3_bucketPlace rfl (fun z h => qX3_bucketPlace v7 a2 m z h) rfl (Nat.le_of_ble_eq_true rfl) ⟨Nat.le_of_ble_eq_true rfl, Nat.le_of_ble_eq_true rfl⟩ ⟨Nat.le_refl _, Nat.le_refl _⟩ dX5_entry_36 rfl rfl hf (fun v8 hf => ?_)
  refine z_istore (lo' := [some (.ref (zad g 0)), some (.int a1), some (.int a2), some (.int a3), some (.int a4), some (.int v8), none]) C dX5_entry_39 (Nat.le_of_ble_eq_true rfl) rfl rfl rfl ?_
  refine z_iload_n (i := 3) C dX5_entry_41 rfl rfl rfl ?_
  refine z_aload_n (i := 0) C dX5_entry_42 rfl rfl rfl ?_
  refine z_gv C (FX5_entry_26 hC) (tn_0 hC) (tc_0 hC) rfl dX5_entry_43 rfl hf (fun s9 hf => ?_)
  refine kis_V hf (fun hs9 hf => ?_)
  refine z_gr C (FX5_entry_157 hC) (sn_0 hC hs9) (sc_0 hC hs9) rfl dX5_entry_46 rfl ?_
  refine z_gr C (FX5_entry_161 hC) (sn_6 hC hs9) (sc_6 hC hs9) rfl dX5_entry_49 rfl ?_
  refine z_iload C dX5_entry_52 rfl rfl ?_
  refine z_iaload C (sn_7 hC hs9) (sc_7 hC hs9) dX5_entry_54 rfl hf (fun v10 hf => ?_)
  refine z_ic_lt (tgt := 60) C dX5_entry_55 (by decide) rfl hf (fun hf => ?_) (fun hf => ?_)
  · skip
    refine z_iload C dX5_entry_60 rfl rfl ?_
    refine z_iconst C dX5_entry_62 zi_4 rfl ?_
    refine z_imul C dX5_entry_63 rfl ?_
    refine z_iload_n (i := 3) C dX5_entry_64 rfl rfl rfl ?_
    refine z_iadd C dX5_entry_65 rfl ?_
    refine z_top _ hf (fun v11 hf => ?_)
    refine z_istore (lo' := [some (.ref (zad g 0)), some (.int a1), some (.int a2), some (.int a3), some (.int a4), some (.int v8), some (.int v11)]) C dX5_entry_66 (Nat.le_of_ble_eq_true rfl) rfl rfl rfl ?_
    refine z_iload C dX5_entry_68 rfl rfl ?_
    refine z_if_ne (tgt := 89) C dX5_entry_70 (by decide) rfl hf (fun hf => ?_) (fun hf => ?_)
    · skip
      refine z_aload_n (i := 0) C dX5_entry_89 rfl rfl rfl ?_
      refine z_gv C (FX5_entry_26 hC) (tn_0 hC) (tc_0 hC) rfl dX5_entry_90 rfl hf (fun s12 hf => ?_)
      refine kis_V hf (fun hs12 hf => ?_)
      refine z_gr C (FX5_entry_157 hC) (sn_0 hC hs12) (sc_0 hC hs12) rfl dX5_entry_93 rfl ?_
      refine z_gr C (FX5_entry_167 hC) (sn_6 hC hs12) (sc_6 hC hs12) rfl dX5_entry_96 rfl ?_
      refine z_iload C dX5_entry_99 rfl rfl ?_
      refine z_iaload C (sn_9 hC hs12) (sc_9 hC hs12) dX5_entry_101 rfl hf (fun v13 hf => ?_)
      exact hr _ _ _ _ (congrArg (fun z => (z, m)) (Option.some.inj hf)) dX5_entry_102
    · skip
      refine z_aload_n (i := 0) C dX5_entry_73 rfl rfl rfl ?_
      refine z_gv C (FX5_entry_26 hC) (tn_0 hC) (tc_0 hC) rfl dX5_entry_74 rfl hf (fun s14 hf => ?_)
      refine kis_V hf (fun hs14 hf => ?_)
      refine z_gr C (FX5_entry_157 hC) (sn_0 hC hs14) (sc_0 hC hs14) rfl dX5_entry_77 rfl ?_
      refine z_gr C (FX5_entry_164 hC) (sn_6 hC hs14) (sc_6 hC hs14) rfl dX5_entry_80 rfl ?_
      refine z_iload C dX5_entry_83 rfl rfl ?_
      refine z_iaload C (sn_8 hC hs14) (sc_8 hC hs14) dX5_entry_85 rfl hf (fun v15 hf => ?_)
      refine z_goto (pc' := 102) C dX5_entry_86 (by decide) ?_
      exact hr _ _ _ _ (congrArg (fun z => (z, m)) (Option.some.inj hf)) dX5_entry_102
  · skip
    refine z_iconst C dX5_entry_58 zi_m1 rfl ?_
    exact hr _ _ _ _ (congrArg (fun z => (z, m)) (Option.some.inj hf)) dX5_entry_59

def fX5_share (N : Nat) (a1 : Int32) (a2 : Int32) (m : zMem) : Option (Int32) :=
  kc1 (fX5_refuseOutside a2 0 7) fun u1 =>
  kc1 (fX5_memberFault a1 m) fun v2 =>
  kc1 (fX5_raise v2) fun u3 =>
  kgr m 0 fun s4 => kis s4 <|
  kld m (s4 + 2) 256 a1 fun v5 =>
  kgr m 0 fun s6 => kis s6 <|
  kc1 (fX3_entriesOf N s6 v5 m) fun v7 =>
  if v7 = 0 then
  some 0
  else
  kgr m 0 fun s8 => kis s8 <|
  kc1 (fX3_bucketPlace v5 0) fun v9 =>
  kc1 (fX3_entriesOfOrigin N s8 v9 8 a2 m) fun v10 =>
  kdv (1000 * v10) v7 fun v11 =>
  some v11
theorem FX5_share_26 {g : zG} (hC : isC g) : zFl wsX5_share RX5 (zcl g) 26 4 2 := ⟨RX5, TX5, 7, hC.2.2 ▸ rfl, by decide +kernel, by decide, by decide +kernel⟩
theorem FX5_share_148 {g : zG} (hC : isC g) : zFl wsX5_share RX5 (zcl g) 148 1 9 := ⟨RX2, TX2, 14, hC.2.2 ▸ rfl, by decide +kernel, by decide, by decide +kernel⟩
theorem FX5_share_157 {g : zG} (hC : isC g) : zFl wsX5_share RX5 (zcl g) 157 1 13 := ⟨RX2, TX2, 14, hC.2.2 ▸ rfl, by decide +kernel, by decide, by decide +kernel⟩
theorem hdX5_share : yX5_share.cls = RX5 ∧ yX5_share.cls ≠ "java/lang/invoke/MethodHandle" ∧ yX5_share.cls ≠ "java/lang/invoke/VarHandle" ∧ (parseMethodDescriptor yX5_share.desc).map (fun d => d.parameters.length) = some 2 := by decide +kernel
set_option maxHeartbeats 4000000 in
set_option maxRecDepth 100000 in
theorem qX5_share {l : Launch} {g : zG} (hC : isC g)  (N : Nat) (a1 : Int32) (a2 : Int32) (m : zMem)  (o : Int32) (hf : fX5_share N a1 a2 m = some o) : zMI l g yX5_share wsX5_share { frames := 2, cells := 0, slots := 0, locals := 44 } [.ref (zad g 0), .int a1, .int a2] m (o, m) := by
  refine z_met_i (cc := cX5_share) (maxL := 5) (lo0 := [some (.ref (zad g 0)), some (.int a1), some (.int a2), none, none]) (by decide +kernel) rfl rfl (Nat.le_of_ble_eq_true rfl) (fun x hx C hr => ?_)
  unfold fX5_share at hf
  refine z_iload_n (i := 2) C dX5_share_0 rfl rfl rfl ?_
  refine z_iconst C dX5_share_1 zi_0 rfl ?_
  refine z_bipush C dX5_share_2 zb_7 rfl ?_
  refine z_csvR (As := [.int a2, .int 0, .int 7]) (st := []) (m := m) C gX5_share_X5_refuseOutside hdX5_refuseOutside rfl (fun z h => qX5_refuseOutside a2 0 7 m z h) rfl (Nat.le_of_ble_eq_true rfl) ⟨Nat.le_of_ble_eq_true rfl, Nat.le_of_ble_eq_true rfl⟩ ⟨Nat.le_refl _, Nat.le_refl _⟩ dX5_share_4 rfl rfl hf (fun u1 hf => ?_)
  refine z_aload_n (i := 0) C dX5_share_7 rfl rfl rfl ?_
  refine z_iload_n (i := 1) C dX5_share_8 rfl rfl rfl ?_
  refine z_cviR (As := [.int a1]) (st := []) (m := m) C (cl_4 hC) (tn_0 hC) (tc_0 hC) gX5_share_X5_memberFault hdX5_memberFault rfl (fun z h => qX5_memberFault hC a1 m z h) rfl (Nat.le_of_ble_eq_true rfl) ⟨Nat.le_of_ble_eq_true rfl, Nat.le_of_ble_eq_true rfl⟩ ⟨Nat.le_refl _, Nat.le_refl _⟩ dX5_share_9 rfl rfl hf (fun v2 hf => ?_)
  refine z_csvR (As := [.int v2]) (st := []) (m := m) C gX5_share_X5_raise hdX5_raise rfl (fun z h => qX5_raise v2 m z h) rfl (Nat.le_of_ble_eq_true rfl) ⟨Nat.le_of_ble_eq_true rfl, Nat.le_of_ble_eq_true rfl⟩ ⟨Nat.le_refl _, Nat.le_refl _⟩ dX5_share_12 rfl rfl hf (fun u3 hf => ?_)
  refine z_aload_n (i := 0) C dX5_share_15 rfl rfl rfl ?_
  refine z_gv C (FX5_share_26 hC) (tn_0 hC) (tc_0 hC) rfl dX5_share_16 rfl hf (fun s4 hf => ?_)
  refine kis_V hf (fun hs4 hf => ?_)
  refine z_gr C (FX5_share_148 hC) (sn_0 hC hs4) (sc_0 hC hs4) rfl dX5_share_19 rfl ?_
  refine z_iload_n (i := 1) C dX5_share_22 rfl rfl rfl ?_
  refine z_iaload C (sn_2 hC hs4) (sc_2 hC hs4) dX5_share_23 rfl hf (fun v5 hf => ?_)
  refine z_istore_n (i := 3) (lo' := [some (.ref (zad g 0)), some (.int a1), some (.int a2), some (.int v5), none]) C dX5_share_24 rfl (Nat.le_of_ble_eq_true rfl) rfl rfl rfl ?_
  refine z_aload_n (i := 0) C dX5_share_25 rfl rfl rfl ?_
  refine z_gv C (FX5_share_26 hC) (tn_0 hC) (tc_0 hC) rfl dX5_share_26 rfl hf (fun s6 hf => ?_)
  refine kis_V hf (fun hs6 hf => ?_)
  refine z_gr C (FX5_share_157 hC) (sn_0 hC hs6) (sc_0 hC hs6) rfl dX5_share_29 rfl ?_
  refine z_iload_n (i := 3) C dX5_share_32 rfl rfl rfl ?_
  refine z_cviR (As := [.int v5]) (st := []) (m := m) C (cl_2 hC) (sn_6 hC hs6) (sc_6 hC hs6) gX5_share_X3_entriesOf hdX3_entriesOf rfl (fun z h => qX3_entriesOf hC N s6 v5 m hs6 z h) rfl (Nat.le_of_ble_eq_true rfl) ⟨Nat.le_of_ble_eq_true rfl, Nat.le_of_ble_eq_true rfl⟩ ⟨Nat.le_refl _, Nat.le_refl _⟩ dX5_share_33 rfl rfl hf (fun v7 hf => ?_)
  refine z_istore (lo' := [some (.ref (zad g 0)), some (.int a1), some (.int a2), some (.int v5), some (.int v7)]) C dX5_share_36 (Nat.le_of_ble_eq_true rfl) rfl rfl rfl ?_
  refine z_iload C dX5_share_38 rfl rfl ?_
  refine z_if_ne (tgt := 45) C dX5_share_40 (by decide) rfl hf (fun hf => ?_) (fun hf => ?_)
  · skip
    refine z_sipush C dX5_share_45 zs_1000 rfl ?_
    refine z_aload_n (i := 0) C dX5_share_48 rfl rfl rfl ?_
    refine z_gv C (FX5_share_26 hC) (tn_0 hC) (tc_0 hC) rfl dX5_share_49 rfl hf (fun s8 hf => ?_)
    refine kis_V hf (fun hs8 hf => ?_)
    refine z_gr C (FX5_share_157 hC) (sn_0 hC hs8) (sc_0 hC hs8) rfl dX5_share_52 rfl ?_
    refine z_iload_n (i := 3) C dX5_share_55 rfl rfl rfl ?_
    refine z_iconst C dX5_share_56 zi_0 rfl ?_
    refine z_csiR (As := [.int v5, .int 0]) (st := [.ref (zad g (s8 + 6)), .int 1000]) (m := m) C gX5_share_X3_bucketPlace hdX3_bucketPlace rfl (fun z h => qX3_bucketPlace v5 0 m z h) rfl (Nat.le_of_ble_eq_true rfl) ⟨Nat.le_of_ble_eq_true rfl, Nat.le_of_ble_eq_true rfl⟩ ⟨Nat.le_refl _, Nat.le_refl _⟩ dX5_share_57 rfl rfl hf (fun v9 hf => ?_)
    refine z_bipush C dX5_share_60 zb_8 rfl ?_
    refine z_iload_n (i := 2) C dX5_share_62 rfl rfl rfl ?_
    refine z_cviR (As := [.int v9, .int 8, .int a2]) (st := [.int 1000]) (m := m) C (cl_2 hC) (sn_6 hC hs8) (sc_6 hC hs8) gX5_share_X3_entriesOfOrigin hdX3_entriesOfOrigin rfl (fun z h => qX3_entriesOfOrigin hC N s8 v9 8 a2 m hs8 z h) rfl (Nat.le_of_ble_eq_true rfl) ⟨Nat.le_of_ble_eq_true rfl, Nat.le_of_ble_eq_true rfl⟩ ⟨Nat.le_refl _, Nat.le_refl _⟩ dX5_share_63 rfl rfl hf (fun v10 hf => ?_)
    refine z_imul C dX5_share_66 rfl ?_
    refine z_iload C dX5_share_67 rfl rfl ?_
    refine z_idiv C dX5_share_69 rfl hf (fun v11 hf => ?_)
    exact hr _ _ _ _ (congrArg (fun z => (z, m)) (Option.some.inj hf)) dX5_share_70
  · skip
    refine z_iconst C dX5_share_43 zi_0 rfl ?_
    exact hr _ _ _ _ (congrArg (fun z => (z, m)) (Option.some.inj hf)) dX5_share_44

def fX5_overlayValue (N : Nat) (a1 : Int32) (m : zMem) : Option (Int32) :=
  if a1 = 0 then
  kgr m 0 fun s1 => kis s1 <|
  kgi m s1 7 fun v2 =>
  some v2
  else if a1 = 1 then
  kgr m 0 fun s3 => kis s3 <|
  kgi m s3 5 fun v4 =>
  some v4
  else if a1 = 2 then
  kgr m 0 fun s5 => kis s5 <|
  kc1 (fX2_epoch s5 m) fun v6 =>
  some v6
  else if a1 = 3 then
  kgr m 0 fun s7 => kis s7 <|
  kc1 (fX2_difficulty s7 m) fun v8 =>
  some v8
  else if a1 = 4 then
  kgr m 0 fun s9 => kis s9 <|
  kgi m s9 6 fun v10 =>
  some v10
  else if a1 = 5 then
  kgr m 0 fun s11 => kis s11 <|
  kgi m s11 3 fun v12 =>
  some v12
  else if a1 = 6 then
  kgr m 0 fun s13 => kis s13 <|
  kgi m s13 4 fun v14 =>
  some v14
  else if a1 = 7 then
  kgr m 0 fun s15 => kis s15 <|
  kgi m s15 1 fun v16 =>
  some v16
  else kgr m 0 fun s17 => kis s17 <|
  kc1 (fX2_largestOrigin N s17 m) fun v18 =>
  some v18
theorem FX5_overlayValue_26 {g : zG} (hC : isC g) : zFl wsX5_overlayValue RX5 (zcl g) 26 4 2 := ⟨RX5, TX5, 7, hC.2.2 ▸ rfl, by decide +kernel, by decide, by decide +kernel⟩
theorem FX5_overlayValue_56 {g : zG} (hC : isC g) : zFl wsX5_overlayValue RX5 (zcl g) 56 1 4 := ⟨RX2, TX2, 14, hC.2.2 ▸ rfl, by decide +kernel, by decide, by decide +kernel⟩
theorem FX5_overlayValue_59 {g : zG} (hC : isC g) : zFl wsX5_overlayValue RX5 (zcl g) 59 1 3 := ⟨RX2, TX2, 14, hC.2.2 ▸ rfl, by decide +kernel, by decide, by decide +kernel⟩
theorem FX5_overlayValue_113 {g : zG} (hC : isC g) : zFl wsX5_overlayValue RX5 (zcl g) 113 1 7 := ⟨RX2, TX2, 14, hC.2.2 ▸ rfl, by decide +kernel, by decide, by decide +kernel⟩
theorem FX5_overlayValue_235 {g : zG} (hC : isC g) : zFl wsX5_overlayValue RX5 (zcl g) 235 1 5 := ⟨RX2, TX2, 14, hC.2.2 ▸ rfl, by decide +kernel, by decide, by decide +kernel⟩
theorem FX5_overlayValue_244 {g : zG} (hC : isC g) : zFl wsX5_overlayValue RX5 (zcl g) 244 1 6 := ⟨RX2, TX2, 14, hC.2.2 ▸ rfl, by decide +kernel, by decide, by decide +kernel⟩
theorem FX5_overlayValue_247 {g : zG} (hC : isC g) : zFl wsX5_overlayValue RX5 (zcl g) 247 1 1 := ⟨RX2, TX2, 14, hC.2.2 ▸ rfl, by decide +kernel, by decide, by decide +kernel⟩
theorem hdX5_overlayValue : yX5_overlayValue.cls = RX5 ∧ yX5_overlayValue.cls ≠ "java/lang/invoke/MethodHandle" ∧ yX5_overlayValue.cls ≠ "java/lang/invoke/VarHandle" ∧ (parseMethodDescriptor yX5_overlayValue.desc).map (fun d => d.parameters.length) = some 1 := by decide +kernel
set_option maxHeartbeats 4000000 in
set_option maxRecDepth 100000 in
theorem qX5_overlayValue {l : Launch} {g : zG} (hC : isC g)  (N : Nat) (a1 : Int32) (m : zMem)  (o : Int32) (hf : fX5_overlayValue N a1 m = some o) : zMI l g yX5_overlayValue wsX5_overlayValue { frames := 2, cells := 0, slots := 0, locals := 45 } [.ref (zad g 0), .int a1] m (o, m) := by
  refine z_met_i (cc := cX5_overlayValue) (maxL := 2) (lo0 := [some (.ref (zad g 0)), some (.int a1)]) (by decide +kernel) rfl rfl (Nat.le_of_ble_eq_true rfl) (fun x hx C hr => ?_)
  unfold fX5_overlayValue at hf
  refine z_iload_n (i := 1) C dX5_overlayValue_0 rfl rfl rfl ?_
  refine ite_V hf (fun hn hf => ?_) (fun hn1_0 hf => ?_)
  · refine z_tsi (tgt := 48) C hn dX5_overlayValue_1 (by decide) (by decide) rfl (by decide) ?_
    refine z_aload_n (i := 0) C dX5_overlayValue_48 rfl rfl rfl ?_
    refine z_gv C (FX5_overlayValue_26 hC) (tn_0 hC) (tc_0 hC) rfl dX5_overlayValue_49 rfl hf (fun s1 hf => ?_)
    refine kis_V hf (fun hs1 hf => ?_)
    refine z_gi C (FX5_overlayValue_113 hC) (sn_0 hC hs1) (sc_0 hC hs1) rfl dX5_overlayValue_52 rfl hf (fun v2 hf => ?_)
    exact hr _ _ _ _ (congrArg (fun z => (z, m)) (Option.some.inj hf)) dX5_overlayValue_55
  · skip
    refine ite_V hf (fun hn hf => ?_) (fun hn1_1 hf => ?_)
    · refine z_tsi (tgt := 56) C hn dX5_overlayValue_1 (by decide) (by decide) rfl (by decide) ?_
      refine z_aload_n (i := 0) C dX5_overlayValue_56 rfl rfl rfl ?_
      refine z_gv C (FX5_overlayValue_26 hC) (tn_0 hC) (tc_0 hC) rfl dX5_overlayValue_57 rfl hf (fun s3 hf => ?_)
      refine kis_V hf (fun hs3 hf => ?_)
      refine z_gi C (FX5_overlayValue_235 hC) (sn_0 hC hs3) (sc_0 hC hs3) rfl dX5_overlayValue_60 rfl hf (fun v4 hf => ?_)
      exact hr _ _ _ _ (congrArg (fun z => (z, m)) (Option.some.inj hf)) dX5_overlayValue_63
    · skip
      refine ite_V hf (fun hn hf => ?_) (fun hn1_2 hf => ?_)
      · refine z_tsi (tgt := 64) C hn dX5_overlayValue_1 (by decide) (by decide) rfl (by decide) ?_
        refine z_aload_n (i := 0) C dX5_overlayValue_64 rfl rfl rfl ?_
        refine z_gv C (FX5_overlayValue_26 hC) (tn_0 hC) (tc_0 hC) rfl dX5_overlayValue_65 rfl hf (fun s5 hf => ?_)
        refine kis_V hf (fun hs5 hf => ?_)
        refine z_cviR (As := []) (st := []) (m := m) C (cl_1 hC) (sn_0 hC hs5) (sc_0 hC hs5) gX5_overlayValue_X2_epoch hdX2_epoch rfl (fun z h => qX2_epoch hC s5 m hs5 z h) rfl (Nat.le_of_ble_eq_true rfl) ⟨Nat.le_of_ble_eq_true rfl, Nat.le_of_ble_eq_true rfl⟩ ⟨Nat.le_refl _, Nat.le_refl _⟩ dX5_overlayValue_68 rfl rfl hf (fun v6 hf => ?_)
        exact hr _ _ _ _ (congrArg (fun z => (z, m)) (Option.some.inj hf)) dX5_overlayValue_71
      · skip
        refine ite_V hf (fun hn hf => ?_) (fun hn1_3 hf => ?_)
        · refine z_tsi (tgt := 72) C hn dX5_overlayValue_1 (by decide) (by decide) rfl (by decide) ?_
          refine z_aload_n (i := 0) C dX5_overlayValue_72 rfl rfl rfl ?_
          refine z_gv C (FX5_overlayValue_26 hC) (tn_0 hC) (tc_0 hC) rfl dX5_overlayValue_73 rfl hf (fun s7 hf => ?_)
          refine kis_V hf (fun hs7 hf => ?_)
          refine z_cviR (As := []) (st := []) (m := m) C (cl_1 hC) (sn_0 hC hs7) (sc_0 hC hs7) gX5_overlayValue_X2_difficulty hdX2_difficulty rfl (fun z h => qX2_difficulty hC s7 m hs7 z h) rfl (Nat.le_of_ble_eq_true rfl) ⟨Nat.le_of_ble_eq_true rfl, Nat.le_of_ble_eq_true rfl⟩ ⟨Nat.le_refl _, Nat.le_refl _⟩ dX5_overlayValue_76 rfl rfl hf (fun v8 hf => ?_)
          exact hr _ _ _ _ (congrArg (fun z => (z, m)) (Option.some.inj hf)) dX5_overlayValue_79
        · skip
          refine ite_V hf (fun hn hf => ?_) (fun hn1_4 hf => ?_)
          · refine z_tsi (tgt := 80) C hn dX5_overlayValue_1 (by decide) (by decide) rfl (by decide) ?_
            refine z_aload_n (i := 0) C dX5_overlayValue_80 rfl rfl rfl ?_
            refine z_gv C (FX5_overlayValue_26 hC) (tn_0 hC) (tc_0 hC) rfl dX5_overlayValue_81 rfl hf (fun s9 hf => ?_)
            refine kis_V hf (fun hs9 hf => ?_)
            refine z_gi C (FX5_overlayValue_244 hC) (sn_0 hC hs9) (sc_0 hC hs9) rfl dX5_overlayValue_84 rfl hf (fun v10 hf => ?_)
            exact hr _ _ _ _ (congrArg (fun z => (z, m)) (Option.some.inj hf)) dX5_overlayValue_87
          · skip
            refine ite_V hf (fun hn hf => ?_) (fun hn1_5 hf => ?_)
            · refine z_tsi (tgt := 88) C hn dX5_overlayValue_1 (by decide) (by decide) rfl (by decide) ?_
              refine z_aload_n (i := 0) C dX5_overlayValue_88 rfl rfl rfl ?_
              refine z_gv C (FX5_overlayValue_26 hC) (tn_0 hC) (tc_0 hC) rfl dX5_overlayValue_89 rfl hf (fun s11 hf => ?_)
              refine kis_V hf (fun hs11 hf => ?_)
              refine z_gi C (FX5_overlayValue_59 hC) (sn_0 hC hs11) (sc_0 hC hs11) rfl dX5_overlayValue_92 rfl hf (fun v12 hf => ?_)
              exact hr _ _ _ _ (congrArg (fun z => (z, m)) (Option.some.inj hf)) dX5_overlayValue_95
            · skip
              refine ite_V hf (fun hn hf => ?_) (fun hn1_6 hf => ?_)
              · refine z_tsi (tgt := 96) C hn dX5_overlayValue_1 (by decide) (by decide) rfl (by decide) ?_
                refine z_aload_n (i := 0) C dX5_overlayValue_96 rfl rfl rfl ?_
                refine z_gv C (FX5_overlayValue_26 hC) (tn_0 hC) (tc_0 hC) rfl dX5_overlayValue_97 rfl hf (fun s13 hf => ?_)
                refine kis_V hf (fun hs13 hf => ?_)
                refine z_gi C (FX5_overlayValue_56 hC) (sn_0 hC hs13) (sc_0 hC hs13) rfl dX5_overlayValue_100 rfl hf (fun v14 hf => ?_)
                exact hr _ _ _ _ (congrArg (fun z => (z, m)) (Option.some.inj hf)) dX5_overlayValue_103
              · skip
                refine ite_V hf (fun hn hf => ?_) (fun hn1_7 hf => ?_)
                · refine z_tsi (tgt := 104) C hn dX5_overlayValue_1 (by decide) (by decide) rfl (by decide) ?_
                  refine z_aload_n (i := 0) C dX5_overlayValue_104 rfl rfl rfl ?_
                  refine z_gv C (FX5_overlayValue_26 hC) (tn_0 hC) (tc_0 hC) rfl dX5_overlayValue_105 rfl hf (fun s15 hf => ?_)
                  refine kis_V hf (fun hs15 hf => ?_)
                  refine z_gi C (FX5_overlayValue_247 hC) (sn_0 hC hs15) (sc_0 hC hs15) rfl dX5_overlayValue_108 rfl hf (fun v16 hf => ?_)
                  exact hr _ _ _ _ (congrArg (fun z => (z, m)) (Option.some.inj hf)) dX5_overlayValue_111
                · skip
                  refine z_tso (tgt := 112) C dX5_overlayValue_1 (z_tswd (fun c h1 h2 => ?_)) (by decide) ?_
                  · have hc : c = 0 ∨ c = 1 ∨ c = 2 ∨ c = 3 ∨ c = 4 ∨ c = 5 ∨ c = 6 ∨ c = 7 := by omega
                    rcases hc with rfl|rfl|rfl|rfl|rfl|rfl|rfl|rfl
                    · rw [zi_0]; exact hn1_0
                    · rw [zi_1]; exact hn1_1
                    · rw [zi_2]; exact hn1_2
                    · rw [zi_3]; exact hn1_3
                    · rw [zi_4]; exact hn1_4
                    · rw [zi_5]; exact hn1_5
                    · rw [zi_6]; exact hn1_6
                    · rw [zi_7]; exact hn1_7
                  · skip
                    refine z_aload_n (i := 0) C dX5_overlayValue_112 rfl rfl rfl ?_
                    refine z_gv C (FX5_overlayValue_26 hC) (tn_0 hC) (tc_0 hC) rfl dX5_overlayValue_113 rfl hf (fun s17 hf => ?_)
                    refine kis_V hf (fun hs17 hf => ?_)
                    refine z_cviR (As := []) (st := []) (m := m) C (cl_1 hC) (sn_0 hC hs17) (sc_0 hC hs17) gX5_overlayValue_X2_largestOrigin hdX2_largestOrigin rfl (fun z h => qX2_largestOrigin hC N s17 m hs17 z h) rfl (Nat.le_of_ble_eq_true rfl) ⟨Nat.le_of_ble_eq_true rfl, Nat.le_of_ble_eq_true rfl⟩ ⟨Nat.le_refl _, Nat.le_refl _⟩ dX5_overlayValue_116 rfl rfl hf (fun v18 hf => ?_)
                    exact hr _ _ _ _ (congrArg (fun z => (z, m)) (Option.some.inj hf)) dX5_overlayValue_119

def fX5_overlay (N : Nat) (a1 : Int32) (m : zMem) : Option (Int32) :=
  kc1 (fX5_refuseOutside a1 0 8) fun u1 =>
  kc1 (fX5_overlayValue N a1 m) fun v2 =>
  some v2
theorem hdX5_overlay : yX5_overlay.cls = RX5 ∧ yX5_overlay.cls ≠ "java/lang/invoke/MethodHandle" ∧ yX5_overlay.cls ≠ "java/lang/invoke/VarHandle" ∧ (parseMethodDescriptor yX5_overlay.desc).map (fun d => d.parameters.length) = some 1 := by decide +kernel
set_option maxHeartbeats 4000000 in
set_option maxRecDepth 100000 in
theorem qX5_overlay {l : Launch} {g : zG} (hC : isC g)  (N : Nat) (a1 : Int32) (m : zMem)  (o : Int32) (hf : fX5_overlay N a1 m = some o) : zMI l g yX5_overlay wsX5_overlay { frames := 3, cells := 0, slots := 0, locals := 66 } [.ref (zad g 0), .int a1] m (o, m) := by
  refine z_met_i (cc := cX5_overlay) (maxL := 2) (lo0 := [some (.ref (zad g 0)), some (.int a1)]) (by decide +kernel) rfl rfl (Nat.le_of_ble_eq_true rfl) (fun x hx C hr => ?_)
  unfold fX5_overlay at hf
  refine z_iload_n (i := 1) C dX5_overlay_0 rfl rfl rfl ?_
  refine z_iconst C dX5_overlay_1 zi_0 rfl ?_
  refine z_bipush C dX5_overlay_2 zb_8 rfl ?_
  refine z_csvR (As := [.int a1, .int 0, .int 8]) (st := []) (m := m) C gX5_overlay_X5_refuseOutside hdX5_refuseOutside rfl (fun z h => qX5_refuseOutside a1 0 8 m z h) rfl (Nat.le_of_ble_eq_true rfl) ⟨Nat.le_of_ble_eq_true rfl, Nat.le_of_ble_eq_true rfl⟩ ⟨Nat.le_refl _, Nat.le_refl _⟩ dX5_overlay_4 rfl rfl hf (fun u1 hf => ?_)
  refine z_aload_n (i := 0) C dX5_overlay_7 rfl rfl rfl ?_
  refine z_iload_n (i := 1) C dX5_overlay_8 rfl rfl rfl ?_
  refine z_cviR (As := [.int a1]) (st := []) (m := m) C (cl_4 hC) (tn_0 hC) (tc_0 hC) gX5_overlay_X5_overlayValue hdX5_overlayValue rfl (fun z h => qX5_overlayValue hC N a1 m z h) rfl (Nat.le_of_ble_eq_true rfl) ⟨Nat.le_of_ble_eq_true rfl, Nat.le_of_ble_eq_true rfl⟩ ⟨Nat.le_refl _, Nat.le_refl _⟩ dX5_overlay_9 rfl rfl hf (fun v2 hf => ?_)
  exact hr _ _ _ _ (congrArg (fun z => (z, m)) (Option.some.inj hf)) dX5_overlay_12

def fX5_count (a1 : Int32) (m : zMem) : Option (Int32) :=
  kc1 (fX5_refuseOutside a1 0 8) fun u1 =>
  kgr m 0 fun s2 => kis s2 <|
  kld m (s2 + 1) 9 a1 fun v3 =>
  some v3
theorem FX5_count_26 {g : zG} (hC : isC g) : zFl wsX5_count RX5 (zcl g) 26 4 2 := ⟨RX5, TX5, 7, hC.2.2 ▸ rfl, by decide +kernel, by decide, by decide +kernel⟩
theorem FX5_count_179 {g : zG} (hC : isC g) : zFl wsX5_count RX5 (zcl g) 179 1 8 := ⟨RX2, TX2, 14, hC.2.2 ▸ rfl, by decide +kernel, by decide, by decide +kernel⟩
theorem hdX5_count : yX5_count.cls = RX5 ∧ yX5_count.cls ≠ "java/lang/invoke/MethodHandle" ∧ yX5_count.cls ≠ "java/lang/invoke/VarHandle" ∧ (parseMethodDescriptor yX5_count.desc).map (fun d => d.parameters.length) = some 1 := by decide +kernel
set_option maxHeartbeats 4000000 in
set_option maxRecDepth 100000 in
theorem qX5_count {l : Launch} {g : zG} (hC : isC g)  (a1 : Int32) (m : zMem)  (o : Int32) (hf : fX5_count a1 m = some o) : zMI l g yX5_count wsX5_count { frames := 2, cells := 0, slots := 0, locals := 44 } [.ref (zad g 0), .int a1] m (o, m) := by
  refine z_met_i (cc := cX5_count) (maxL := 2) (lo0 := [some (.ref (zad g 0)), some (.int a1)]) (by decide +kernel) rfl rfl (Nat.le_of_ble_eq_true rfl) (fun x hx C hr => ?_)
  unfold fX5_count at hf
  refine z_iload_n (i := 1) C dX5_count_0 rfl rfl rfl ?_
  refine z_iconst C dX5_count_1 zi_0 rfl ?_
  refine z_bipush C dX5_count_2 zb_8 rfl ?_
  refine z_csvR (As := [.int a1, .int 0, .int 8]) (st := []) (m := m) C gX5_count_X5_refuseOutside hdX5_refuseOutside rfl (fun z h => qX5_refuseOutside a1 0 8 m z h) rfl (Nat.le_of_ble_eq_true rfl) ⟨Nat.le_of_ble_eq_true rfl, Nat.le_of_ble_eq_true rfl⟩ ⟨Nat.le_refl _, Nat.le_refl _⟩ dX5_count_4 rfl rfl hf (fun u1 hf => ?_)
  refine z_aload_n (i := 0) C dX5_count_7 rfl rfl rfl ?_
  refine z_gv C (FX5_count_26 hC) (tn_0 hC) (tc_0 hC) rfl dX5_count_8 rfl hf (fun s2 hf => ?_)
  refine kis_V hf (fun hs2 hf => ?_)
  refine z_gr C (FX5_count_179 hC) (sn_0 hC hs2) (sc_0 hC hs2) rfl dX5_count_11 rfl ?_
  refine z_iload_n (i := 1) C dX5_count_14 rfl rfl rfl ?_
  refine z_iaload C (sn_1 hC hs2) (sc_1 hC hs2) dX5_count_15 rfl hf (fun v3 hf => ?_)
  exact hr _ _ _ _ (congrArg (fun z => (z, m)) (Option.some.inj hf)) dX5_count_16

def fX5_type (a1 : Int32) (m : zMem) : Option (Int32 × zMem) :=
  kc1 (fX5_refuseOutside a1 0 127) fun u1 =>
  kgi m 6 1 fun v2 =>
  if v2 < 120 then
  kgi m 6 1 fun v3 =>
  kst m 7 120 v3 a1 fun m4 =>
  kgi m4 6 1 fun v5 =>
  kpi m4 6 1 (v5 + 1) fun m6 =>
  kgi m6 6 1 fun v7 =>
  some (v7, m6)
  else
  none
theorem FX5_type_19 {g : zG} (hC : isC g) : zFl wsX5_type RX5 (zcl g) 19 4 1 := ⟨RX5, TX5, 7, hC.2.2 ▸ rfl, by decide +kernel, by decide, by decide +kernel⟩
theorem FX5_type_182 {g : zG} (hC : isC g) : zFl wsX5_type RX5 (zcl g) 182 0 1 := ⟨RX1, TX1, 6, hC.2.2 ▸ rfl, by decide +kernel, by decide, by decide +kernel⟩
theorem PX5_type_182 {g : zG} (hC : isC g) : zFp wsX5_type RX5 (zcl g) 182 0 1 .int := ⟨RX1, TX1, 6, tyX1, hC.2.2 ▸ rfl, by decide +kernel, by decide, by decide +kernel, tyX1_ok, nmX1, rfl, by decide +kernel⟩
theorem FX5_type_190 {g : zG} (hC : isC g) : zFl wsX5_type RX5 (zcl g) 190 0 0 := ⟨RX1, TX1, 6, hC.2.2 ▸ rfl, by decide +kernel, by decide, by decide +kernel⟩
theorem hdX5_type : yX5_type.cls = RX5 ∧ yX5_type.cls ≠ "java/lang/invoke/MethodHandle" ∧ yX5_type.cls ≠ "java/lang/invoke/VarHandle" ∧ (parseMethodDescriptor yX5_type.desc).map (fun d => d.parameters.length) = some 1 := by decide +kernel
set_option maxHeartbeats 4000000 in
set_option maxRecDepth 100000 in
theorem qX5_type {l : Launch} {g : zG} (hC : isC g)  (a1 : Int32) (m : zMem)  (o : Int32 × zMem) (hf : fX5_type a1 m = some o) : zMI l g yX5_type wsX5_type { frames := 2, cells := 0, slots := 0, locals := 44 } [.ref (zad g 0), .int a1] m o := by
  refine z_met_i (cc := cX5_type) (maxL := 2) (lo0 := [some (.ref (zad g 0)), some (.int a1)]) (by decide +kernel) rfl rfl (Nat.le_of_ble_eq_true rfl) (fun x hx C hr => ?_)
  unfold fX5_type at hf
  refine z_iload_n (i := 1) C dX5_type_0 rfl rfl rfl ?_
  refine z_iconst C dX5_type_1 zi_0 rfl ?_
  refine z_bipush C dX5_type_2 zb_127 rfl ?_
  refine z_csvR (As := [.int a1, .int 0, .int 127]) (st := []) (m := m) C gX5_type_X5_refuseOutside hdX5_refuseOutside rfl (fun z h => qX5_refuseOutside a1 0 127 m z h) rfl (Nat.le_of_ble_eq_true rfl) ⟨Nat.le_of_ble_eq_true rfl, Nat.le_of_ble_eq_true rfl⟩ ⟨Nat.le_refl _, Nat.le_refl _⟩ dX5_type_4 rfl rfl hf (fun u1 hf => ?_)
  refine z_aload_n (i := 0) C dX5_type_7 rfl rfl rfl ?_
  refine z_gr C (FX5_type_19 hC) (tn_0 hC) (tc_0 hC) rfl dX5_type_8 rfl ?_
  refine z_gi C (FX5_type_182 hC) (tn_6 hC) (tc_6 hC) rfl dX5_type_11 rfl hf (fun v2 hf => ?_)
  refine z_bipush C dX5_type_14 zb_120 rfl ?_
  refine z_ic_lt (tgt := 29) C dX5_type_16 (by decide) rfl hf (fun hf => ?_) (fun hf => ?_)
  · skip
    refine z_aload_n (i := 0) C dX5_type_29 rfl rfl rfl ?_
    refine z_gr C (FX5_type_19 hC) (tn_0 hC) (tc_0 hC) rfl dX5_type_30 rfl ?_
    refine z_gr C (FX5_type_190 hC) (tn_6 hC) (tc_6 hC) rfl dX5_type_33 rfl ?_
    refine z_aload_n (i := 0) C dX5_type_36 rfl rfl rfl ?_
    refine z_gr C (FX5_type_19 hC) (tn_0 hC) (tc_0 hC) rfl dX5_type_37 rfl ?_
    refine z_gi C (FX5_type_182 hC) (tn_6 hC) (tc_6 hC) rfl dX5_type_40 rfl hf (fun v3 hf => ?_)
    refine z_iload_n (i := 1) C dX5_type_43 rfl rfl rfl ?_
    refine z_iastore C (tn_7 hC) (tc_7 hC) dX5_type_44 rfl hf (fun m4 hf => ?_)
    refine z_aload_n (i := 0) C dX5_type_45 rfl rfl rfl ?_
    refine z_gr C (FX5_type_19 hC) (tn_0 hC) (tc_0 hC) rfl dX5_type_46 rfl ?_
    refine z_dup C dX5_type_49 rfl rfl ?_
    refine z_gi C (FX5_type_182 hC) (tn_6 hC) (tc_6 hC) rfl dX5_type_50 rfl hf (fun v5 hf => ?_)
    refine z_iconst C dX5_type_53 zi_1 rfl ?_
    refine z_iadd C dX5_type_54 rfl ?_
    refine z_pi C (PX5_type_182 hC) (tn_6 hC) (tc_6 hC) rfl dX5_type_55 rfl hf (fun m6 hf => ?_)
    refine z_aload_n (i := 0) C dX5_type_58 rfl rfl rfl ?_
    refine z_gr C (FX5_type_19 hC) (tn_0 hC) (tc_0 hC) rfl dX5_type_59 rfl ?_
    refine z_gi C (FX5_type_182 hC) (tn_6 hC) (tc_6 hC) rfl dX5_type_62 rfl hf (fun v7 hf => ?_)
    exact hr _ _ _ _ (Option.some.inj hf) dX5_type_65
  · skip
    cases hf

def fX5_clearScript (m : zMem) : Option (Int32 × zMem) :=
  kgi m 6 1 fun v1 =>
  kpi m 6 1 0 fun m2 =>
  some (v1, m2)
theorem FX5_clearScript_19 {g : zG} (hC : isC g) : zFl wsX5_clearScript RX5 (zcl g) 19 4 1 := ⟨RX5, TX5, 7, hC.2.2 ▸ rfl, by decide +kernel, by decide, by decide +kernel⟩
theorem FX5_clearScript_182 {g : zG} (hC : isC g) : zFl wsX5_clearScript RX5 (zcl g) 182 0 1 := ⟨RX1, TX1, 6, hC.2.2 ▸ rfl, by decide +kernel, by decide, by decide +kernel⟩
theorem PX5_clearScript_182 {g : zG} (hC : isC g) : zFp wsX5_clearScript RX5 (zcl g) 182 0 1 .int := ⟨RX1, TX1, 6, tyX1, hC.2.2 ▸ rfl, by decide +kernel, by decide, by decide +kernel, tyX1_ok, nmX1, rfl, by decide +kernel⟩
theorem hdX5_clearScript : yX5_clearScript.cls = RX5 ∧ yX5_clearScript.cls ≠ "java/lang/invoke/MethodHandle" ∧ yX5_clearScript.cls ≠ "java/lang/invoke/VarHandle" ∧ (parseMethodDescriptor yX5_clearScript.desc).map (fun d => d.parameters.length) = some 0 := by decide +kernel
set_option maxHeartbeats 4000000 in
set_option maxRecDepth 100000 in
theorem qX5_clearScript {l : Launch} {g : zG} (hC : isC g)  (m : zMem)  (o : Int32 × zMem) (hf : fX5_clearScript m = some o) : zMI l g yX5_clearScript wsX5_clearScript { frames := 0, cells := 0, slots := 0, locals := 0 } [.ref (zad g 0)] m o := by
  refine z_met_i (cc := cX5_clearScript) (maxL := 2) (lo0 := [some (.ref (zad g 0)), none]) (by decide +kernel) rfl rfl (Nat.le_of_ble_eq_true rfl) (fun x hx C hr => ?_)
  unfold fX5_clearScript at hf
  refine z_aload_n (i := 0) C dX5_clearScript_0 rfl rfl rfl ?_
  refine z_gr C (FX5_clearScript_19 hC) (tn_0 hC) (tc_0 hC) rfl dX5_clearScript_1 rfl ?_
  refine z_gi C (FX5_clearScript_182 hC) (tn_6 hC) (tc_6 hC) rfl dX5_clearScript_4 rfl hf (fun v1 hf => ?_)
  refine z_istore_n (i := 1) (lo' := [some (.ref (zad g 0)), some (.int v1)]) C dX5_clearScript_7 rfl (Nat.le_of_ble_eq_true rfl) rfl rfl rfl ?_
  refine z_aload_n (i := 0) C dX5_clearScript_8 rfl rfl rfl ?_
  refine z_gr C (FX5_clearScript_19 hC) (tn_0 hC) (tc_0 hC) rfl dX5_clearScript_9 rfl ?_
  refine z_iconst C dX5_clearScript_12 zi_0 rfl ?_
  refine z_pi C (PX5_clearScript_182 hC) (tn_6 hC) (tc_6 hC) rfl dX5_clearScript_13 rfl hf (fun m2 hf => ?_)
  refine z_iload_n (i := 1) C dX5_clearScript_16 rfl rfl rfl ?_
  exact hr _ _ _ _ (Option.some.inj hf) dX5_clearScript_17

def fX5_carryOut (N : Nat) (a1 : Int32) (m : zMem) : Option (Int32 × zMem) :=
  kc1 (fX1_number a1 0 m) fun v1 =>
  kc1 (fX1_number a1 1 m) fun v2 =>
  kld m 8 20 a1 fun v3 =>
  if v3 = 0 then
  kgr m 0 fun s4 => kis s4 <|
  kgi m s4 7 fun v5 =>
  kjn (fun (w6 : Int32) =>
  kc1 (fX5_admissionFault N v1 v2 w6 m) fun v7 =>
  if v7 = 0 then
  kgr m 0 fun s8 => kis s8 <|
  kc2 (fX2_enter N s8 v1 v2 w6 m) fun v9 m10 =>
  some (1, m10)
  else
  some (0, m)) fun K79 =>
  if v5 = 0 then
  K79 (-1)
  else
  kc1 (fX1_number a1 2 m) fun v11 =>
  K79 v11
  else if v3 = 1 then
  kc1 (fX5_memberFault v1 m) fun v12 =>
  if v12 = 0 then
  kgr m 0 fun s13 => kis s13 <|
  kc1 (fX2_endIdentity s13 v1 m) fun m14 =>
  some (1, m14)
  else
  some (0, m)
  else if v3 = 2 then
  kc1 (fX5_lookupFault v1 v2 m) fun v15 =>
  if v15 = 0 then
  kgr m 0 fun s16 => kis s16 <|
  kc2 (fX2_makeLookup N s16 v1 v2 m) fun v17 m18 =>
  some (1, m18)
  else
  some (0, m)
  else kc1 (fX5_tickFault v1) fun v19 =>
  if v19 = 0 then
  kgr m 0 fun s20 => kis s20 <|
  kc2 (fX2_passTime N s20 v1 m) fun v21 m22 =>
  some (1, m22)
  else
  some (0, m)
theorem FX5_carryOut_10 {g : zG} (hC : isC g) : zFl wsX5_carryOut RX5 (zcl g) 10 4 0 := ⟨RX5, TX5, 7, hC.2.2 ▸ rfl, by decide +kernel, by decide, by decide +kernel⟩
theorem FX5_carryOut_19 {g : zG} (hC : isC g) : zFl wsX5_carryOut RX5 (zcl g) 19 4 1 := ⟨RX5, TX5, 7, hC.2.2 ▸ rfl, by decide +kernel, by decide, by decide +kernel⟩
theorem FX5_carryOut_26 {g : zG} (hC : isC g) : zFl wsX5_carryOut RX5 (zcl g) 26 4 2 := ⟨RX5, TX5, 7, hC.2.2 ▸ rfl, by decide +kernel, by decide, by decide +kernel⟩
theorem FX5_carryOut_113 {g : zG} (hC : isC g) : zFl wsX5_carryOut RX5 (zcl g) 113 1 7 := ⟨RX2, TX2, 14, hC.2.2 ▸ rfl, by decide +kernel, by decide, by decide +kernel⟩
theorem FX5_carryOut_225 {g : zG} (hC : isC g) : zFl wsX5_carryOut RX5 (zcl g) 225 0 2 := ⟨RX1, TX1, 6, hC.2.2 ▸ rfl, by decide +kernel, by decide, by decide +kernel⟩
theorem hdX5_carryOut : yX5_carryOut.cls = RX5 ∧ yX5_carryOut.cls ≠ "java/lang/invoke/MethodHandle" ∧ yX5_carryOut.cls ≠ "java/lang/invoke/VarHandle" ∧ (parseMethodDescriptor yX5_carryOut.desc).map (fun d => d.parameters.length) = some 1 := by decide +kernel
set_option maxHeartbeats 4000000 in
set_option maxRecDepth 100000 in
theorem qX5_carryOut {l : Launch} {g : zG} (hC : isC g)  (N : Nat) (a1 : Int32) (m : zMem)  (o : Int32 × zMem) (hf : fX5_carryOut N a1 m = some o) : zMI l g yX5_carryOut wsX5_carryOut { frames := 5, cells := 0, slots := 0, locals := 131 } [.ref (zad g 0), .int a1] m o := by
  refine z_met_z (cc := cX5_carryOut) (maxL := 5) (lo0 := [some (.ref (zad g 0)), some (.int a1), none, none, none]) (by decide +kernel) rfl rfl (Nat.le_of_ble_eq_true rfl) (fun x hx C hr => ?_)
  unfold fX5_carryOut at hf
  refine z_aload_n (i := 0) C dX5_carryOut_0 rfl rfl rfl ?_
  refine z_gr C (FX5_carryOut_19 hC) (tn_0 hC) (tc_0 hC) rfl dX5_carryOut_1 rfl ?_
  refine z_iload_n (i := 1) C dX5_carryOut_4 rfl rfl rfl ?_
  refine z_iconst C dX5_carryOut_5 zi_0 rfl ?_
  refine z_cviR (As := [.int a1, .int 0]) (st := []) (m := m) C (cl_0 hC) (tn_6 hC) (tc_6 hC) gX5_carryOut_X1_number hdX1_number rfl (fun z h => qX1_number hC a1 0 m z h) rfl (Nat.le_of_ble_eq_true rfl) ⟨Nat.le_of_ble_eq_true rfl, Nat.le_of_ble_eq_true rfl⟩ ⟨Nat.le_refl _, Nat.le_refl _⟩ dX5_carryOut_6 rfl rfl hf (fun v1 hf => ?_)
  refine z_istore_n (i := 2) (lo' := [some (.ref (zad g 0)), some (.int a1), some (.int v1), none, none]) C dX5_carryOut_9 rfl (Nat.le_of_ble_eq_true rfl) rfl rfl rfl ?_
  refine z_aload_n (i := 0) C dX5_carryOut_10 rfl rfl rfl ?_
  refine z_gr C (FX5_carryOut_19 hC) (tn_0 hC) (tc_0 hC) rfl dX5_carryOut_11 rfl ?_
  refine z_iload_n (i := 1) C dX5_carryOut_14 rfl rfl rfl ?_
  refine z_iconst C dX5_carryOut_15 zi_1 rfl ?_
  refine z_cviR (As := [.int a1, .int 1]) (st := []) (m := m) C (cl_0 hC) (tn_6 hC) (tc_6 hC) gX5_carryOut_X1_number hdX1_number rfl (fun z h => qX1_number hC a1 1 m z h) rfl (Nat.le_of_ble_eq_true rfl) ⟨Nat.le_of_ble_eq_true rfl, Nat.le_of_ble_eq_true rfl⟩ ⟨Nat.le_refl _, Nat.le_refl _⟩ dX5_carryOut_16 rfl rfl hf (fun v2 hf => ?_)
  refine z_istore_n (i := 3) (lo' := [some (.ref (zad g 0)), some (.int a1), some (.int v1), some (.int v2), none]) C dX5_carryOut_19 rfl (Nat.le_of_ble_eq_true rfl) rfl rfl rfl ?_
  refine z_aload_n (i := 0) C dX5_carryOut_20 rfl rfl rfl ?_
  refine z_gr C (FX5_carryOut_19 hC) (tn_0 hC) (tc_0 hC) rfl dX5_carryOut_21 rfl ?_
  refine z_gr C (FX5_carryOut_225 hC) (tn_6 hC) (tc_6 hC) rfl dX5_carryOut_24 rfl ?_
  refine z_iload_n (i := 1) C dX5_carryOut_27 rfl rfl rfl ?_
  refine z_iaload C (tn_8 hC) (tc_8 hC) dX5_carryOut_28 rfl hf (fun v3 hf => ?_)
  refine ite_V hf (fun hn hf => ?_) (fun hn29_0 hf => ?_)
  · refine z_tsi (tgt := 56) C hn dX5_carryOut_29 (by decide) (by decide) rfl (by decide) ?_
    refine z_aload_n (i := 0) C dX5_carryOut_56 rfl rfl rfl ?_
    refine z_gv C (FX5_carryOut_26 hC) (tn_0 hC) (tc_0 hC) rfl dX5_carryOut_57 rfl hf (fun s4 hf => ?_)
    refine kis_V hf (fun hs4 hf => ?_)
    refine z_gi C (FX5_carryOut_113 hC) (sn_0 hC hs4) (sc_0 hC hs4) rfl dX5_carryOut_60 rfl hf (fun v5 hf => ?_)
    refine kjn_V (fun K79 => ∀ (w6 : Int32), K79 w6 = some o → zV x g 5 0 0 79 [some (.ref (zad g 0)), none, some (.int v1), some (.int v2), none] [.int w6] m) hf (fun w6 hf => ?_) (fun K79 hK79 hf => ?_)
    · skip
      refine z_istore (lo' := [some (.ref (zad g 0)), none, some (.int v1), some (.int v2), some (.int w6)]) C dX5_carryOut_79 (Nat.le_of_ble_eq_true rfl) rfl rfl rfl ?_
      refine z_aload_n (i := 0) C dX5_carryOut_81 rfl rfl rfl ?_
      refine z_iload_n (i := 2) C dX5_carryOut_82 rfl rfl rfl ?_
      refine z_iload_n (i := 3) C dX5_carryOut_83 rfl rfl rfl ?_
      refine z_iload C dX5_carryOut_84 rfl rfl ?_
      refine z_cviR (As := [.int v1, .int v2, .int w6]) (st := []) (m := m) C (cl_4 hC) (tn_0 hC) (tc_0 hC) gX5_carryOut_X5_admissionFault hdX5_admissionFault rfl (fun z h => qX5_admissionFault hC N v1 v2 w6 m z h) rfl (Nat.le_of_ble_eq_true rfl) ⟨Nat.le_of_ble_eq_true rfl, Nat.le_of_ble_eq_true rfl⟩ ⟨Nat.le_refl _, Nat.le_refl _⟩ dX5_carryOut_86 rfl rfl hf (fun v7 hf => ?_)
      refine z_if_eq (tgt := 94) C dX5_carryOut_89 (by decide) rfl hf (fun hf => ?_) (fun hf => ?_)
      · skip
        refine z_aload_n (i := 0) C dX5_carryOut_94 rfl rfl rfl ?_
        refine z_gv C (FX5_carryOut_26 hC) (tn_0 hC) (tc_0 hC) rfl dX5_carryOut_95 rfl hf (fun s8 hf => ?_)
        refine kis_V hf (fun hs8 hf => ?_)
        refine z_aload_n (i := 0) C dX5_carryOut_98 rfl rfl rfl ?_
        refine z_gr C (FX5_carryOut_10 hC) (tn_0 hC) (tc_0 hC) rfl dX5_carryOut_99 rfl ?_
        refine z_iload_n (i := 2) C dX5_carryOut_102 rfl rfl rfl ?_
        refine z_iload_n (i := 3) C dX5_carryOut_103 rfl rfl rfl ?_
        refine z_iload C dX5_carryOut_104 rfl rfl ?_
        refine z_cviW (As := [.ref (zad g 1), .int v1, .int v2, .int w6]) (st := []) (m := m) C (cl_1 hC) (sn_0 hC hs8) (sc_0 hC hs8) gX5_carryOut_X2_enter hdX2_enter rfl (fun z h => qX2_enter hC N s8 v1 v2 w6 m hs8 z h) rfl (Nat.le_of_ble_eq_true rfl) ⟨Nat.le_of_ble_eq_true rfl, Nat.le_of_ble_eq_true rfl⟩ ⟨Nat.le_refl _, Nat.le_refl _⟩ dX5_carryOut_106 rfl rfl hf (fun v9 m10 hf => ?_)
        refine z_pop C dX5_carryOut_109 rfl rfl ?_
        refine z_iconst C dX5_carryOut_110 zi_1 rfl ?_
        exact hr _ _ _ _ (Or.inr rfl) (Option.some.inj hf) dX5_carryOut_111
      · skip
        refine z_iconst C dX5_carryOut_92 zi_0 rfl ?_
        exact hr _ _ _ _ (Or.inl rfl) (Option.some.inj hf) dX5_carryOut_93
    · skip
      refine z_if_ne (tgt := 70) C dX5_carryOut_63 (by decide) rfl hf (fun hf => ?_) (fun hf => ?_)
      · skip
        refine z_aload_n (i := 0) C dX5_carryOut_70 rfl rfl rfl ?_
        refine z_gr C (FX5_carryOut_19 hC) (tn_0 hC) (tc_0 hC) rfl dX5_carryOut_71 rfl ?_
        refine z_iload_n (i := 1) C dX5_carryOut_74 rfl rfl rfl ?_
        refine z_iconst C dX5_carryOut_75 zi_2 rfl ?_
        refine z_cviR (As := [.int a1, .int 2]) (st := []) (m := m) C (cl_0 hC) (tn_6 hC) (tc_6 hC) gX5_carryOut_X1_number hdX1_number rfl (fun z h => qX1_number hC a1 2 m z h) rfl (Nat.le_of_ble_eq_true rfl) ⟨Nat.le_of_ble_eq_true rfl, Nat.le_of_ble_eq_true rfl⟩ ⟨Nat.le_refl _, Nat.le_refl _⟩ dX5_carryOut_76 rfl rfl hf (fun v11 hf => ?_)
        refine z_drop (lo' := [some (.ref (zad g 0)), none, some (.int v1), some (.int v2), none]) 1 rfl ?_
        exact hK79 _ hf
      · skip
        refine z_iconst C dX5_carryOut_66 zi_m1 rfl ?_
        refine z_goto (pc' := 79) C dX5_carryOut_67 (by decide) ?_
        refine z_drop (lo' := [some (.ref (zad g 0)), none, some (.int v1), some (.int v2), none]) 1 rfl ?_
        exact hK79 _ hf
  · skip
    refine ite_V hf (fun hn hf => ?_) (fun hn29_1 hf => ?_)
    · refine z_tsi (tgt := 112) C hn dX5_carryOut_29 (by decide) (by decide) rfl (by decide) ?_
      refine z_aload_n (i := 0) C dX5_carryOut_112 rfl rfl rfl ?_
      refine z_iload_n (i := 2) C dX5_carryOut_113 rfl rfl rfl ?_
      refine z_cviR (As := [.int v1]) (st := []) (m := m) C (cl_4 hC) (tn_0 hC) (tc_0 hC) gX5_carryOut_X5_memberFault hdX5_memberFault rfl (fun z h => qX5_memberFault hC v1 m z h) rfl (Nat.le_of_ble_eq_true rfl) ⟨Nat.le_of_ble_eq_true rfl, Nat.le_of_ble_eq_true rfl⟩ ⟨Nat.le_refl _, Nat.le_refl _⟩ dX5_carryOut_114 rfl rfl hf (fun v12 hf => ?_)
      refine z_if_eq (tgt := 122) C dX5_carryOut_117 (by decide) rfl hf (fun hf => ?_) (fun hf => ?_)
      · skip
        refine z_aload_n (i := 0) C dX5_carryOut_122 rfl rfl rfl ?_
        refine z_gv C (FX5_carryOut_26 hC) (tn_0 hC) (tc_0 hC) rfl dX5_carryOut_123 rfl hf (fun s13 hf => ?_)
        refine kis_V hf (fun hs13 hf => ?_)
        refine z_iload_n (i := 2) C dX5_carryOut_126 rfl rfl rfl ?_
        refine z_cvvW (As := [.int v1]) (st := []) (m := m) C (cl_1 hC) (sn_0 hC hs13) (sc_0 hC hs13) gX5_carryOut_X2_endIdentity hdX2_endIdentity rfl (fun z h => qX2_endIdentity hC s13 v1 m hs13 z h) rfl (Nat.le_of_ble_eq_true rfl) ⟨Nat.le_of_ble_eq_true rfl, Nat.le_of_ble_eq_true rfl⟩ ⟨Nat.le_refl _, Nat.le_refl _⟩ dX5_carryOut_127 rfl rfl hf (fun m14 hf => ?_)
        refine z_iconst C dX5_carryOut_130 zi_1 rfl ?_
        exact hr _ _ _ _ (Or.inr rfl) (Option.some.inj hf) dX5_carryOut_131
      · skip
        refine z_iconst C dX5_carryOut_120 zi_0 rfl ?_
        exact hr _ _ _ _ (Or.inl rfl) (Option.some.inj hf) dX5_carryOut_121
    · skip
      refine ite_V hf (fun hn hf => ?_) (fun hn29_2 hf => ?_)
      · refine z_tsi (tgt := 132) C hn dX5_carryOut_29 (by decide) (by decide) rfl (by decide) ?_
        refine z_aload_n (i := 0) C dX5_carryOut_132 rfl rfl rfl ?_
        refine z_iload_n (i := 2) C dX5_carryOut_133 rfl rfl rfl ?_
        refine z_iload_n (i := 3) C dX5_carryOut_134 rfl rfl rfl ?_
        refine z_cviR (As := [.int v1, .int v2]) (st := []) (m := m) C (cl_4 hC) (tn_0 hC) (tc_0 hC) gX5_carryOut_X5_lookupFault hdX5_lookupFault rfl (fun z h => qX5_lookupFault hC v1 v2 m z h) rfl (Nat.le_of_ble_eq_true rfl) ⟨Nat.le_of_ble_eq_true rfl, Nat.le_of_ble_eq_true rfl⟩ ⟨Nat.le_refl _, Nat.le_refl _⟩ dX5_carryOut_135 rfl rfl hf (fun v15 hf => ?_)
        refine z_if_eq (tgt := 143) C dX5_carryOut_138 (by decide) rfl hf (fun hf => ?_) (fun hf => ?_)
        · skip
          refine z_aload_n (i := 0) C dX5_carryOut_143 rfl rfl rfl ?_
          refine z_gv C (FX5_carryOut_26 hC) (tn_0 hC) (tc_0 hC) rfl dX5_carryOut_144 rfl hf (fun s16 hf => ?_)
          refine kis_V hf (fun hs16 hf => ?_)
          refine z_aload_n (i := 0) C dX5_carryOut_147 rfl rfl rfl ?_
          refine z_gr C (FX5_carryOut_10 hC) (tn_0 hC) (tc_0 hC) rfl dX5_carryOut_148 rfl ?_
          refine z_iload_n (i := 2) C dX5_carryOut_151 rfl rfl rfl ?_
          refine z_iload_n (i := 3) C dX5_carryOut_152 rfl rfl rfl ?_
          refine z_cviW (As := [.ref (zad g 1), .int v1, .int v2]) (st := []) (m := m) C (cl_1 hC) (sn_0 hC hs16) (sc_0 hC hs16) gX5_carryOut_X2_makeLookup hdX2_makeLookup rfl (fun z h => qX2_makeLookup hC N s16 v1 v2 m hs16 z h) rfl (Nat.le_of_ble_eq_true rfl) ⟨Nat.le_of_ble_eq_true rfl, Nat.le_of_ble_eq_true rfl⟩ ⟨Nat.le_refl _, Nat.le_refl _⟩ dX5_carryOut_153 rfl rfl hf (fun v17 m18 hf => ?_)
          refine z_pop C dX5_carryOut_156 rfl rfl ?_
          refine z_iconst C dX5_carryOut_157 zi_1 rfl ?_
          exact hr _ _ _ _ (Or.inr rfl) (Option.some.inj hf) dX5_carryOut_158
        · skip
          refine z_iconst C dX5_carryOut_141 zi_0 rfl ?_
          exact hr _ _ _ _ (Or.inl rfl) (Option.some.inj hf) dX5_carryOut_142
      · skip
        refine z_tso (tgt := 159) C dX5_carryOut_29 (z_tswd (fun c h1 h2 => ?_)) (by decide) ?_
        · have hc : c = 0 ∨ c = 1 ∨ c = 2 := by omega
          rcases hc with rfl|rfl|rfl
          · rw [zi_0]; exact hn29_0
          · rw [zi_1]; exact hn29_1
          · rw [zi_2]; exact hn29_2
        · skip
          refine z_iload_n (i := 2) C dX5_carryOut_159 rfl rfl rfl ?_
          refine z_csiR (As := [.int v1]) (st := []) (m := m) C gX5_carryOut_X5_tickFault hdX5_tickFault rfl (fun z h => qX5_tickFault v1 m z h) rfl (Nat.le_of_ble_eq_true rfl) ⟨Nat.le_of_ble_eq_true rfl, Nat.le_of_ble_eq_true rfl⟩ ⟨Nat.le_refl _, Nat.le_refl _⟩ dX5_carryOut_160 rfl rfl hf (fun v19 hf => ?_)
          refine z_if_eq (tgt := 168) C dX5_carryOut_163 (by decide) rfl hf (fun hf => ?_) (fun hf => ?_)
          · skip
            refine z_aload_n (i := 0) C dX5_carryOut_168 rfl rfl rfl ?_
            refine z_gv C (FX5_carryOut_26 hC) (tn_0 hC) (tc_0 hC) rfl dX5_carryOut_169 rfl hf (fun s20 hf => ?_)
            refine kis_V hf (fun hs20 hf => ?_)
            refine z_iload_n (i := 2) C dX5_carryOut_172 rfl rfl rfl ?_
            refine z_cviW (As := [.int v1]) (st := []) (m := m) C (cl_1 hC) (sn_0 hC hs20) (sc_0 hC hs20) gX5_carryOut_X2_passTime hdX2_passTime rfl (fun z h => qX2_passTime hC N s20 v1 m hs20 z h) rfl (Nat.le_of_ble_eq_true rfl) ⟨Nat.le_of_ble_eq_true rfl, Nat.le_of_ble_eq_true rfl⟩ ⟨Nat.le_refl _, Nat.le_refl _⟩ dX5_carryOut_173 rfl rfl hf (fun v21 m22 hf => ?_)
            refine z_pop C dX5_carryOut_176 rfl rfl ?_
            refine z_iconst C dX5_carryOut_177 zi_1 rfl ?_
            exact hr _ _ _ _ (Or.inr rfl) (Option.some.inj hf) dX5_carryOut_178
          · skip
            refine z_iconst C dX5_carryOut_166 zi_0 rfl ?_
            exact hr _ _ _ _ (Or.inl rfl) (Option.some.inj hf) dX5_carryOut_167

def fX5_undo (m : zMem) : Option (Int32 × zMem) :=
  kgi m 0 6 fun v1 =>
  if v1 = 0 then
  none
  else
  kgr m 0 fun s2 => kis s2 <|
  kgr m 1 fun s3 => kis s3 <|
  kpr m 0 s3 fun m4 =>
  kgr m4 2 fun s5 => kis s5 <|
  kpr m4 1 s5 fun m6 =>
  kgr m6 3 fun s7 => kis s7 <|
  kpr m6 2 s7 fun m8 =>
  kpr m8 3 s2 fun m9 =>
  kgi m9 0 6 fun v10 =>
  kpi m9 0 6 (v10 - 1) fun m11 =>
  kgi m11 0 6 fun v12 =>
  some (v12, m11)
theorem FX5_undo_26 {g : zG} (hC : isC g) : zFl wsX5_undo RX5 (zcl g) 26 4 2 := ⟨RX5, TX5, 7, hC.2.2 ▸ rfl, by decide +kernel, by decide, by decide +kernel⟩
theorem PX5_undo_26 {g : zG} (hC : isC g) : zFp wsX5_undo RX5 (zcl g) 26 4 2 (.object "QuotaOverlay$State") := ⟨RX5, TX5, 7, tyX5, hC.2.2 ▸ rfl, by decide +kernel, by decide, by decide +kernel, tyX5_ok, nmX5, rfl, by decide +kernel⟩
theorem FX5_undo_30 {g : zG} (hC : isC g) : zFl wsX5_undo RX5 (zcl g) 30 4 3 := ⟨RX5, TX5, 7, hC.2.2 ▸ rfl, by decide +kernel, by decide, by decide +kernel⟩
theorem PX5_undo_30 {g : zG} (hC : isC g) : zFp wsX5_undo RX5 (zcl g) 30 4 3 (.object "QuotaOverlay$State") := ⟨RX5, TX5, 7, tyX5, hC.2.2 ▸ rfl, by decide +kernel, by decide, by decide +kernel, tyX5_ok, nmX5, rfl, by decide +kernel⟩
theorem FX5_undo_33 {g : zG} (hC : isC g) : zFl wsX5_undo RX5 (zcl g) 33 4 4 := ⟨RX5, TX5, 7, hC.2.2 ▸ rfl, by decide +kernel, by decide, by decide +kernel⟩
theorem PX5_undo_33 {g : zG} (hC : isC g) : zFp wsX5_undo RX5 (zcl g) 33 4 4 (.object "QuotaOverlay$State") := ⟨RX5, TX5, 7, tyX5, hC.2.2 ▸ rfl, by decide +kernel, by decide, by decide +kernel, tyX5_ok, nmX5, rfl, by decide +kernel⟩
theorem FX5_undo_36 {g : zG} (hC : isC g) : zFl wsX5_undo RX5 (zcl g) 36 4 5 := ⟨RX5, TX5, 7, hC.2.2 ▸ rfl, by decide +kernel, by decide, by decide +kernel⟩
theorem PX5_undo_36 {g : zG} (hC : isC g) : zFp wsX5_undo RX5 (zcl g) 36 4 5 (.object "QuotaOverlay$State") := ⟨RX5, TX5, 7, tyX5, hC.2.2 ▸ rfl, by decide +kernel, by decide, by decide +kernel, tyX5_ok, nmX5, rfl, by decide +kernel⟩
theorem FX5_undo_39 {g : zG} (hC : isC g) : zFl wsX5_undo RX5 (zcl g) 39 4 6 := ⟨RX5, TX5, 7, hC.2.2 ▸ rfl, by decide +kernel, by decide, by decide +kernel⟩
theorem PX5_undo_39 {g : zG} (hC : isC g) : zFp wsX5_undo RX5 (zcl g) 39 4 6 .int := ⟨RX5, TX5, 7, tyX5, hC.2.2 ▸ rfl, by decide +kernel, by decide, by decide +kernel, tyX5_ok, nmX5, rfl, by decide +kernel⟩
theorem hdX5_undo : yX5_undo.cls = RX5 ∧ yX5_undo.cls ≠ "java/lang/invoke/MethodHandle" ∧ yX5_undo.cls ≠ "java/lang/invoke/VarHandle" ∧ (parseMethodDescriptor yX5_undo.desc).map (fun d => d.parameters.length) = some 0 := by decide +kernel
set_option maxHeartbeats 4000000 in
set_option maxRecDepth 100000 in
theorem qX5_undo {l : Launch} {g : zG} (hC : isC g)  (m : zMem)  (o : Int32 × zMem) (hf : fX5_undo m = some o) : zMI l g yX5_undo wsX5_undo { frames := 0, cells := 0, slots := 0, locals := 0 } [.ref (zad g 0)] m o := by
  refine z_met_i (cc := cX5_undo) (maxL := 2) (lo0 := [some (.ref (zad g 0)), none]) (by decide +kernel) rfl rfl (Nat.le_of_ble_eq_true rfl) (fun x hx C hr => ?_)
  unfold fX5_undo at hf
  refine z_aload_n (i := 0) C dX5_undo_0 rfl rfl rfl ?_
  refine z_gi C (FX5_undo_39 hC) (tn_0 hC) (tc_0 hC) rfl dX5_undo_1 rfl hf (fun v1 hf => ?_)
  refine z_if_ne (tgt := 17) C dX5_undo_4 (by decide) rfl hf (fun hf => ?_) (fun hf => ?_)
  · skip
    refine z_aload_n (i := 0) C dX5_undo_17 rfl rfl rfl ?_
    refine z_gv C (FX5_undo_26 hC) (tn_0 hC) (tc_0 hC) rfl dX5_undo_18 rfl hf (fun s2 hf => ?_)
    refine kis_V hf (fun hs2 hf => ?_)
    refine z_astore_n (i := 1) (lo' := [some (.ref (zad g 0)), some (.ref (zad g s2))]) C dX5_undo_21 rfl (Nat.le_of_ble_eq_true rfl) rfl rfl rfl ?_
    refine z_aload_n (i := 0) C dX5_undo_22 rfl rfl rfl ?_
    refine z_aload_n (i := 0) C dX5_undo_23 rfl rfl rfl ?_
    refine z_gv C (FX5_undo_30 hC) (tn_0 hC) (tc_0 hC) rfl dX5_undo_24 rfl hf (fun s3 hf => ?_)
    refine kis_V hf (fun hs3 hf => ?_)
    refine z_pv C (PX5_undo_26 hC) (tn_0 hC) (tc_0 hC) rfl (zrefs_u hC) dX5_undo_27 rfl hf (fun m4 hf => ?_)
    refine z_aload_n (i := 0) C dX5_undo_30 rfl rfl rfl ?_
    refine z_aload_n (i := 0) C dX5_undo_31 rfl rfl rfl ?_
    refine z_gv C (FX5_undo_33 hC) (tn_0 hC) (tc_0 hC) rfl dX5_undo_32 rfl hf (fun s5 hf => ?_)
    refine kis_V hf (fun hs5 hf => ?_)
    refine z_pv C (PX5_undo_30 hC) (tn_0 hC) (tc_0 hC) rfl (zrefs_u hC) dX5_undo_35 rfl hf (fun m6 hf => ?_)
    refine z_aload_n (i := 0) C dX5_undo_38 rfl rfl rfl ?_
    refine z_aload_n (i := 0) C dX5_undo_39 rfl rfl rfl ?_
    refine z_gv C (FX5_undo_36 hC) (tn_0 hC) (tc_0 hC) rfl dX5_undo_40 rfl hf (fun s7 hf => ?_)
    refine kis_V hf (fun hs7 hf => ?_)
    refine z_pv C (PX5_undo_33 hC) (tn_0 hC) (tc_0 hC) rfl (zrefs_u hC) dX5_undo_43 rfl hf (fun m8 hf => ?_)
    refine z_aload_n (i := 0) C dX5_undo_46 rfl rfl rfl ?_
    refine z_aload_n (i := 1) C dX5_undo_47 rfl rfl rfl ?_
    refine z_pv C (PX5_undo_36 hC) (tn_0 hC) (tc_0 hC) rfl (zrefs_u hC) dX5_undo_48 rfl hf (fun m9 hf => ?_)
    refine z_aload_n (i := 0) C dX5_undo_51 rfl rfl rfl ?_
    refine z_dup C dX5_undo_52 rfl rfl ?_
    refine z_gi C (FX5_undo_39 hC) (tn_0 hC) (tc_0 hC) rfl dX5_undo_53 rfl hf (fun v10 hf => ?_)
    refine z_iconst C dX5_undo_56 zi_1 rfl ?_
    refine z_isub C dX5_undo_57 rfl ?_
    refine z_pi C (PX5_undo_39 hC) (tn_0 hC) (tc_0 hC) rfl dX5_undo_58 rfl hf (fun m11 hf => ?_)
    refine z_aload_n (i := 0) C dX5_undo_61 rfl rfl rfl ?_
    refine z_gi C (FX5_undo_39 hC) (tn_0 hC) (tc_0 hC) rfl dX5_undo_62 rfl hf (fun v12 hf => ?_)
    exact hr _ _ _ _ (Option.some.inj hf) dX5_undo_65
  · skip
    cases hf

def sX5_digest_121 (N : Nat) (m : zMem) (x9 : Int32) (K148 : Int64 → Option (Int64)) : (Int64 × Int32 → Option (Int64)) → Int64 × Int32 → Option (Int64) := fun rec (x18, x19) =>
  if 4 < x19 then
  K148 x18
  else
  kc1 (fX5_memberValue N x9 x19 m) fun v20 =>
  klt ((31 * x18) + v20.toInt64 : Int64) fun v21 =>
  rec (v21, x19 + 1)
def sX5_digest_91 (N : Nat) (m : zMem) (K175 : Int64 → Option (Int64)) : (Int64 × Int32 → Option (Int64)) → Int64 × Int32 → Option (Int64) := fun rec (x8, x9) =>
  if 255 < x9 then
  K175 x8
  else
  kgr m 0 fun s10 => kis s10 <|
  kc1 (fX2_isMember s10 x9 m) fun v11 =>
  if v11 = 0 then
  rec (x8, x9 + 1)
  else
  klt ((31 * x8) + x9.toInt64 : Int64) fun v12 =>
  kjn (fun (w13 : Int64) =>
  kgr m 0 fun s14 => kis s14 <|
  kgr m 0 fun s15 => kis s15 <|
  kld m (s15 + 2) 256 x9 fun v16 =>
  kc1 (fX3_hashOf N s14 v16 w13 m) fun v17 =>
  rec (v17, x9 + 1)) fun K148 =>
  klp (sX5_digest_121 N m x9 K148) N (v12, 1)
def sX5_digest_60 (m : zMem) (K89 : Int64 → Option (Int64)) : (Int64 × Int32 → Option (Int64)) → Int64 × Int32 → Option (Int64) := fun rec (x22, x23) =>
  if 9 ≤ x23 then
  K89 x22
  else
  kgr m 0 fun s24 => kis s24 <|
  kld m (s24 + 1) 9 x23 fun v25 =>
  klt ((31 * x22) + v25.toInt64 : Int64) fun v26 =>
  rec (v26, x23 + 1)
def sX5_digest_33 (N : Nat) (m : zMem) (K58 : Int64 → Option (Int64)) : (Int64 × Int32 → Option (Int64)) → Int64 × Int32 → Option (Int64) := fun rec (x27, x28) =>
  if 8 < x28 then
  K58 x27
  else
  kc1 (fX5_overlayValue N x28 m) fun v29 =>
  klt ((31 * x27) + v29.toInt64 : Int64) fun v30 =>
  rec (v30, x28 + 1)
def fX5_digest (N : Nat) (m : zMem) : Option (Int64) :=
  kgi m 0 6 fun v1 =>
  klt ((31 * 18554) + v1.toInt64 : Int64) fun v2 =>
  kgi m 6 1 fun v3 =>
  klt ((31 * v2) + v3.toInt64 : Int64) fun v4 =>
  kjn (fun (w5 : Int64) =>
  kjn (fun (w6 : Int64) =>
  kjn (fun (w7 : Int64) =>
  some w7) fun K175 =>
  klp (sX5_digest_91 N m K175) N (w6, 0)) fun K89 =>
  klp (sX5_digest_60 m K89) N (w5, 0)) fun K58 =>
  klp (sX5_digest_33 N m K58) N (v4, 0)
theorem FX5_digest_19 {g : zG} (hC : isC g) : zFl wsX5_digest RX5 (zcl g) 19 4 1 := ⟨RX5, TX5, 7, hC.2.2 ▸ rfl, by decide +kernel, by decide, by decide +kernel⟩
theorem FX5_digest_26 {g : zG} (hC : isC g) : zFl wsX5_digest RX5 (zcl g) 26 4 2 := ⟨RX5, TX5, 7, hC.2.2 ▸ rfl, by decide +kernel, by decide, by decide +kernel⟩
theorem FX5_digest_39 {g : zG} (hC : isC g) : zFl wsX5_digest RX5 (zcl g) 39 4 6 := ⟨RX5, TX5, 7, hC.2.2 ▸ rfl, by decide +kernel, by decide, by decide +kernel⟩
theorem FX5_digest_148 {g : zG} (hC : isC g) : zFl wsX5_digest RX5 (zcl g) 148 1 9 := ⟨RX2, TX2, 14, hC.2.2 ▸ rfl, by decide +kernel, by decide, by decide +kernel⟩
theorem FX5_digest_157 {g : zG} (hC : isC g) : zFl wsX5_digest RX5 (zcl g) 157 1 13 := ⟨RX2, TX2, 14, hC.2.2 ▸ rfl, by decide +kernel, by decide, by decide +kernel⟩
theorem FX5_digest_179 {g : zG} (hC : isC g) : zFl wsX5_digest RX5 (zcl g) 179 1 8 := ⟨RX2, TX2, 14, hC.2.2 ▸ rfl, by decide +kernel, by decide, by decide +kernel⟩
theorem FX5_digest_182 {g : zG} (hC : isC g) : zFl wsX5_digest RX5 (zcl g) 182 0 1 := ⟨RX1, TX1, 6, hC.2.2 ▸ rfl, by decide +kernel, by decide, by decide +kernel⟩
theorem hdX5_digest : yX5_digest.cls = RX5 ∧ yX5_digest.cls ≠ "java/lang/invoke/MethodHandle" ∧ yX5_digest.cls ≠ "java/lang/invoke/VarHandle" ∧ (parseMethodDescriptor yX5_digest.desc).map (fun d => d.parameters.length) = some 0 := by decide +kernel
set_option maxHeartbeats 4000000 in
set_option maxRecDepth 100000 in
theorem qX5_digest {l : Launch} {g : zG} (hC : isC g)  (N : Nat) (m : zMem)  (o : Int64) (hf : fX5_digest N m = some o) : zML l g yX5_digest wsX5_digest { frames := 4, cells := 0, slots := 0, locals := 92 } [.ref (zad g 0)] m (o, m) := by
  refine z_met_l (cc := cX5_digest) (maxL := 5) (lo0 := [some (.ref (zad g 0)), none, none, none, none]) (by decide +kernel) rfl rfl (Nat.le_of_ble_eq_true rfl) (fun x hx C hr => ?_)
  unfold fX5_digest at hf
  refine z_ldc2 (v := 18554) C (by decide +kernel) dX5_digest_0 rfl ?_
  refine z_lstore_n (i := 1) (lo' := [some (.ref (zad g 0)), some (.long 18554), none, none, none]) C dX5_digest_3 rfl (Nat.le_of_ble_eq_true rfl) rfl rfl rfl ?_
  refine z_ldc2 (v := 31) C (by decide +kernel) dX5_digest_4 rfl ?_
  refine z_lload_n (i := 1) C dX5_digest_7 rfl rfl rfl ?_
  refine z_lmul C dX5_digest_8 rfl ?_
  refine z_aload_n (i := 0) C dX5_digest_9 rfl rfl rfl ?_
  refine z_gi C (FX5_digest_39 hC) (tn_0 hC) (tc_0 hC) rfl dX5_digest_10 rfl hf (fun v1 hf => ?_)
  refine z_i2l C dX5_digest_13 rfl ?_
  refine z_ladd C dX5_digest_14 rfl ?_
  refine z_topl _ hf (fun v2 hf => ?_)
  refine z_lstore_n (i := 1) (lo' := [some (.ref (zad g 0)), some (.long v2), none, none, none]) C dX5_digest_15 rfl (Nat.le_of_ble_eq_true rfl) rfl rfl rfl ?_
  refine z_ldc2 (v := 31) C (by decide +kernel) dX5_digest_16 rfl ?_
  refine z_lload_n (i := 1) C dX5_digest_19 rfl rfl rfl ?_
  refine z_lmul C dX5_digest_20 rfl ?_
  refine z_aload_n (i := 0) C dX5_digest_21 rfl rfl rfl ?_
  refine z_gr C (FX5_digest_19 hC) (tn_0 hC) (tc_0 hC) rfl dX5_digest_22 rfl ?_
  refine z_gi C (FX5_digest_182 hC) (tn_6 hC) (tc_6 hC) rfl dX5_digest_25 rfl hf (fun v3 hf => ?_)
  refine z_i2l C dX5_digest_28 rfl ?_
  refine z_ladd C dX5_digest_29 rfl ?_
  refine z_topl _ hf (fun v4 hf => ?_)
  refine z_lstore_n (i := 1) (lo' := [some (.ref (zad g 0)), some (.long v4), none, none, none]) C dX5_digest_30 rfl (Nat.le_of_ble_eq_true rfl) rfl rfl rfl ?_
  refine z_iconst C dX5_digest_31 zi_0 rfl ?_
  refine z_istore_n (i := 3) (lo' := [some (.ref (zad g 0)), some (.long v4), none, some (.int 0), none]) C dX5_digest_32 rfl (Nat.le_of_ble_eq_true rfl) rfl rfl rfl ?_
  refine kjn_V (fun K58 => ∀ (w5 : Int64), K58 w5 = some o → zV x g 5 0 0 58 [some (.ref (zad g 0)), some (.long w5), none, none, none] [] m) hf (fun w5 hf => ?_) (fun K58 hK58 hf => ?_)
  · skip
    refine z_iconst C dX5_digest_58 zi_0 rfl ?_
    refine z_istore_n (i := 3) (lo' := [some (.ref (zad g 0)), some (.long w5), none, some (.int 0), none]) C dX5_digest_59 rfl (Nat.le_of_ble_eq_true rfl) rfl rfl rfl ?_
    refine kjn_V (fun K89 => ∀ (w6 : Int64), K89 w6 = some o → zV x g 5 0 0 89 [some (.ref (zad g 0)), some (.long w6), none, none, none] [] m) hf (fun w6 hf => ?_) (fun K89 hK89 hf => ?_)
    · skip
      refine z_iconst C dX5_digest_89 zi_0 rfl ?_
      refine z_istore_n (i := 3) (lo' := [some (.ref (zad g 0)), some (.long w6), none, some (.int 0), none]) C dX5_digest_90 rfl (Nat.le_of_ble_eq_true rfl) rfl rfl rfl ?_
      refine kjn_V (fun K175 => ∀ (w7 : Int64), K175 w7 = some o → zV x g 5 0 0 175 [none, some (.long w7), none, none, none] [] m) hf (fun w7 hf => ?_) (fun K175 hK175 hf => ?_)
      · skip
        refine z_lload_n (i := 1) C dX5_digest_175 rfl rfl rfl ?_
        exact hr _ _ _ _ (congrArg (fun z => (z, m)) (Option.some.inj hf)) dX5_digest_176
      · skip
        refine klp_V (fun z => zV x g 5 0 0 91 [some (.ref (zad g 0)), some (.long z.1), none, some (.int z.2), none] [] m) hf (fun rec z ih hf => ?_)
        obtain ⟨x8, x9⟩ := z
        unfold sX5_digest_91 at hf
        try dsimp only at hf
        try dsimp only
        refine z_iload_n (i := 3) C dX5_digest_91 rfl rfl rfl ?_
        refine z_sipush C dX5_digest_92 zs_255 rfl ?_
        refine z_ic_gt (tgt := 175) C dX5_digest_95 (by decide) rfl hf (fun hf => ?_) (fun hf => ?_)
        · skip
          refine z_drop (lo' := [none, some (.long x8), none, some (.int x9), none]) 0 rfl ?_
          refine z_drop (lo' := [none, some (.long x8), none, none, none]) 3 rfl ?_
          exact hK175 _ hf
        · skip
          refine z_aload_n (i := 0) C dX5_digest_98 rfl rfl rfl ?_
          refine z_gv C (FX5_digest_26 hC) (tn_0 hC) (tc_0 hC) rfl dX5_digest_99 rfl hf (fun s10 hf => ?_)
          refine kis_V hf (fun hs10 hf => ?_)
          refine z_iload_n (i := 3) C dX5_digest_102 rfl rfl rfl ?_
          refine z_cviR (As := [.int x9]) (st := []) (m := m) C (cl_1 hC) (sn_0 hC hs10) (sc_0 hC hs10) gX5_digest_X2_isMember hdX2_isMember rfl (fun z h => qX2_isMember hC s10 x9 m hs10 z h) rfl (Nat.le_of_ble_eq_true rfl) ⟨Nat.le_of_ble_eq_true rfl, Nat.le_of_ble_eq_true rfl⟩ ⟨Nat.le_refl _, Nat.le_refl _⟩ dX5_digest_103 rfl rfl hf (fun v11 hf => ?_)
          refine z_if_eq (tgt := 169) C dX5_digest_106 (by decide) rfl hf (fun hf => ?_) (fun hf => ?_)
          · skip
            refine z_iinc (v := x9 + 1) (lo' := [some (.ref (zad g 0)), some (.long x8), none, some (.int (x9 + 1)), none]) C dX5_digest_169 rfl (zinc zi_1) (Nat.le_of_ble_eq_true rfl) rfl rfl rfl ?_
            refine z_goto (pc' := 91) C dX5_digest_172 (by decide) ?_
            exact ih (x8, x9 + 1) hf
          · skip
            refine z_ldc2 (v := 31) C (by decide +kernel) dX5_digest_109 rfl ?_
            refine z_lload_n (i := 1) C dX5_digest_112 rfl rfl rfl ?_
            refine z_lmul C dX5_digest_113 rfl ?_
            refine z_iload_n (i := 3) C dX5_digest_114 rfl rfl rfl ?_
            refine z_i2l C dX5_digest_115 rfl ?_
            refine z_ladd C dX5_digest_116 rfl ?_
            refine z_topl _ hf (fun v12 hf => ?_)
            refine z_lstore_n (i := 1) (lo' := [some (.ref (zad g 0)), some (.long v12), none, some (.int x9), none]) C dX5_digest_117 rfl (Nat.le_of_ble_eq_true rfl) rfl rfl rfl ?_
            refine z_iconst C dX5_digest_118 zi_1 rfl ?_
            refine z_istore (lo' := [some (.ref (zad g 0)), some (.long v12), none, some (.int x9), some (.int 1)]) C dX5_digest_119 (Nat.le_of_ble_eq_true rfl) rfl rfl rfl ?_
            refine kjn_V (fun K148 => ∀ (w13 : Int64), K148 w13 = some o → zV x g 5 0 0 148 [some (.ref (zad g 0)), some (.long w13), none, some (.int x9), none] [] m) hf (fun w13 hf => ?_) (fun K148 hK148 hf => ?_)
            · skip
              refine z_aload_n (i := 0) C dX5_digest_148 rfl rfl rfl ?_
              refine z_gv C (FX5_digest_26 hC) (tn_0 hC) (tc_0 hC) rfl dX5_digest_149 rfl hf (fun s14 hf => ?_)
              refine kis_V hf (fun hs14 hf => ?_)
              refine z_gr C (FX5_digest_157 hC) (sn_0 hC hs14) (sc_0 hC hs14) rfl dX5_digest_152 rfl ?_
              refine z_aload_n (i := 0) C dX5_digest_155 rfl rfl rfl ?_
              refine z_gv C (FX5_digest_26 hC) (tn_0 hC) (tc_0 hC) rfl dX5_digest_156 rfl hf (fun s15 hf => ?_)
              refine kis_V hf (fun hs15 hf => ?_)
              refine z_gr C (FX5_digest_148 hC) (sn_0 hC hs15) (sc_0 hC hs15) rfl dX5_digest_159 rfl ?_
              refine z_iload_n (i := 3) C dX5_digest_162 rfl rfl rfl ?_
              refine z_iaload C (sn_2 hC hs15) (sc_2 hC hs15) dX5_digest_163 rfl hf (fun v16 hf => ?_)
              refine z_lload_n (i := 1) C dX5_digest_164 rfl rfl rfl ?_
              refine z_cvlR (As := [.int v16, .long w13]) (st := []) (m := m) C (cl_2 hC) (sn_6 hC hs14) (sc_6 hC hs14) gX5_digest_X3_hashOf hdX3_hashOf rfl (fun z h => qX3_hashOf hC N s14 v16 w13 m hs14 z h) rfl (Nat.le_of_ble_eq_true rfl) ⟨Nat.le_of_ble_eq_true rfl, Nat.le_of_ble_eq_true rfl⟩ ⟨Nat.le_refl _, Nat.le_refl _⟩ dX5_digest_165 rfl rfl hf (fun v17 hf => ?_)
              refine z_lstore_n (i := 1) (lo' := [some (.ref (zad g 0)), some (.long v17), none, some (.int x9), none]) C dX5_digest_168 rfl (Nat.le_of_ble_eq_true rfl) rfl rfl rfl ?_
              refine z_iinc (v := x9 + 1) (lo' := [some (.ref (zad g 0)), some (.long v17), none, some (.int (x9 + 1)), none]) C dX5_digest_169 rfl (zinc zi_1) (Nat.le_of_ble_eq_true rfl) rfl rfl rfl ?_
              refine z_goto (pc' := 91) C dX5_digest_172 (by decide) ?_
              exact ih (v17, x9 + 1) hf
            · skip
              refine klp_V (fun z => zV x g 5 0 0 121 [some (.ref (zad g 0)), some (.long z.1), none, some (.int x9), some (.int z.2)] [] m) hf (fun rec z ih hf => ?_)
              obtain ⟨x18, x19⟩ := z
              unfold sX5_digest_121 at hf
              try dsimp only at hf
              try dsimp only
              refine z_iload C dX5_digest_121 rfl rfl ?_
              refine z_iconst C dX5_digest_123 zi_4 rfl ?_
              refine z_ic_gt (tgt := 148) C dX5_digest_124 (by decide) rfl hf (fun hf => ?_) (fun hf => ?_)
              · skip
                refine z_drop (lo' := [some (.ref (zad g 0)), some (.long x18), none, some (.int x9), none]) 4 rfl ?_
                exact hK148 _ hf
              · skip
                refine z_ldc2 (v := 31) C (by decide +kernel) dX5_digest_127 rfl ?_
                refine z_lload_n (i := 1) C dX5_digest_130 rfl rfl rfl ?_
                refine z_lmul C dX5_digest_131 rfl ?_
                refine z_aload_n (i := 0) C dX5_digest_132 rfl rfl rfl ?_
                refine z_iload_n (i := 3) C dX5_digest_133 rfl rfl rfl ?_
                refine z_iload C dX5_digest_134 rfl rfl ?_
                refine z_cviR (As := [.int x9, .int x19]) (st := [.long (31 * x18)]) (m := m) C (cl_4 hC) (tn_0 hC) (tc_0 hC) gX5_digest_X5_memberValue hdX5_memberValue rfl (fun z h => qX5_memberValue hC N x9 x19 m z h) rfl (Nat.le_of_ble_eq_true rfl) ⟨Nat.le_of_ble_eq_true rfl, Nat.le_of_ble_eq_true rfl⟩ ⟨Nat.le_refl _, Nat.le_refl _⟩ dX5_digest_136 rfl rfl hf (fun v20 hf => ?_)
                refine z_i2l C dX5_digest_139 rfl ?_
                refine z_ladd C dX5_digest_140 rfl ?_
                refine z_topl _ hf (fun v21 hf => ?_)
                refine z_lstore_n (i := 1) (lo' := [some (.ref (zad g 0)), some (.long v21), none, some (.int x9), some (.int x19)]) C dX5_digest_141 rfl (Nat.le_of_ble_eq_true rfl) rfl rfl rfl ?_
                refine z_iinc (v := x19 + 1) (lo' := [some (.ref (zad g 0)), some (.long v21), none, some (.int x9), some (.int (x19 + 1))]) C dX5_digest_142 rfl (zinc zi_1) (Nat.le_of_ble_eq_true rfl) rfl rfl rfl ?_
                refine z_goto (pc' := 121) C dX5_digest_145 (by decide) ?_
                exact ih (v21, x19 + 1) hf
    · skip
      refine klp_V (fun z => zV x g 5 0 0 60 [some (.ref (zad g 0)), some (.long z.1), none, some (.int z.2), none] [] m) hf (fun rec z ih hf => ?_)
      obtain ⟨x22, x23⟩ := z
      unfold sX5_digest_60 at hf
      try dsimp only at hf
      try dsimp only
      refine z_iload_n (i := 3) C dX5_digest_60 rfl rfl rfl ?_
      refine z_bipush C dX5_digest_61 zb_9 rfl ?_
      refine z_ic_ge (tgt := 89) C dX5_digest_63 (by decide) rfl hf (fun hf => ?_) (fun hf => ?_)
      · skip
        refine z_drop (lo' := [some (.ref (zad g 0)), some (.long x22), none, none, none]) 3 rfl ?_
        exact hK89 _ hf
      · skip
        refine z_ldc2 (v := 31) C (by decide +kernel) dX5_digest_66 rfl ?_
        refine z_lload_n (i := 1) C dX5_digest_69 rfl rfl rfl ?_
        refine z_lmul C dX5_digest_70 rfl ?_
        refine z_aload_n (i := 0) C dX5_digest_71 rfl rfl rfl ?_
        refine z_gv C (FX5_digest_26 hC) (tn_0 hC) (tc_0 hC) rfl dX5_digest_72 rfl hf (fun s24 hf => ?_)
        refine kis_V hf (fun hs24 hf => ?_)
        refine z_gr C (FX5_digest_179 hC) (sn_0 hC hs24) (sc_0 hC hs24) rfl dX5_digest_75 rfl ?_
        refine z_iload_n (i := 3) C dX5_digest_78 rfl rfl rfl ?_
        refine z_iaload C (sn_1 hC hs24) (sc_1 hC hs24) dX5_digest_79 rfl hf (fun v25 hf => ?_)
        refine z_i2l C dX5_digest_80 rfl ?_
        refine z_ladd C dX5_digest_81 rfl ?_
        refine z_topl _ hf (fun v26 hf => ?_)
        refine z_lstore_n (i := 1) (lo' := [some (.ref (zad g 0)), some (.long v26), none, some (.int x23), none]) C dX5_digest_82 rfl (Nat.le_of_ble_eq_true rfl) rfl rfl rfl ?_
        refine z_iinc (v := x23 + 1) (lo' := [some (.ref (zad g 0)), some (.long v26), none, some (.int (x23 + 1)), none]) C dX5_digest_83 rfl (zinc zi_1) (Nat.le_of_ble_eq_true rfl) rfl rfl rfl ?_
        refine z_goto (pc' := 60) C dX5_digest_86 (by decide) ?_
        exact ih (v26, x23 + 1) hf
  · skip
    refine klp_V (fun z => zV x g 5 0 0 33 [some (.ref (zad g 0)), some (.long z.1), none, some (.int z.2), none] [] m) hf (fun rec z ih hf => ?_)
    obtain ⟨x27, x28⟩ := z
    unfold sX5_digest_33 at hf
    try dsimp only at hf
    try dsimp only
    refine z_iload_n (i := 3) C dX5_digest_33 rfl rfl rfl ?_
    refine z_bipush C dX5_digest_34 zb_8 rfl ?_
    refine z_ic_gt (tgt := 58) C dX5_digest_36 (by decide) rfl hf (fun hf => ?_) (fun hf => ?_)
    · skip
      refine z_drop (lo' := [some (.ref (zad g 0)), some (.long x27), none, none, none]) 3 rfl ?_
      exact hK58 _ hf
    · skip
      refine z_ldc2 (v := 31) C (by decide +kernel) dX5_digest_39 rfl ?_
      refine z_lload_n (i := 1) C dX5_digest_42 rfl rfl rfl ?_
      refine z_lmul C dX5_digest_43 rfl ?_
      refine z_aload_n (i := 0) C dX5_digest_44 rfl rfl rfl ?_
      refine z_iload_n (i := 3) C dX5_digest_45 rfl rfl rfl ?_
      refine z_cviR (As := [.int x28]) (st := [.long (31 * x27)]) (m := m) C (cl_4 hC) (tn_0 hC) (tc_0 hC) gX5_digest_X5_overlayValue hdX5_overlayValue rfl (fun z h => qX5_overlayValue hC N x28 m z h) rfl (Nat.le_of_ble_eq_true rfl) ⟨Nat.le_of_ble_eq_true rfl, Nat.le_of_ble_eq_true rfl⟩ ⟨Nat.le_refl _, Nat.le_refl _⟩ dX5_digest_46 rfl rfl hf (fun v29 hf => ?_)
      refine z_i2l C dX5_digest_49 rfl ?_
      refine z_ladd C dX5_digest_50 rfl ?_
      refine z_topl _ hf (fun v30 hf => ?_)
      refine z_lstore_n (i := 1) (lo' := [some (.ref (zad g 0)), some (.long v30), none, some (.int x28), none]) C dX5_digest_51 rfl (Nat.le_of_ble_eq_true rfl) rfl rfl rfl ?_
      refine z_iinc (v := x28 + 1) (lo' := [some (.ref (zad g 0)), some (.long v30), none, some (.int (x28 + 1)), none]) C dX5_digest_52 rfl (zinc zi_1) (Nat.le_of_ble_eq_true rfl) rfl rfl rfl ?_
      refine z_goto (pc' := 33) C dX5_digest_55 (by decide) ?_
      exact ih (v30, x28 + 1) hf
