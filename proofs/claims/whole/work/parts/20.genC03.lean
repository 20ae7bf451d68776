def fX2_forget (N : Nat) (s : Nat) (a1 : Int32) (a2 : Int32) (m : zMem) : Option (zMem) :=
  if a1 = a2 then
  some m
  else
  kc1 (fX2_isMember s a1 m) fun v1 =>
  if v1 = 0 then
  some m
  else
  kld m (s + 2) 256 a1 fun v2 =>
  kc1 (fX3_bucketFor a1 a2) fun v3 =>
  kc1 (fX3_bucketPlace v2 v3) fun v4 =>
  kc1 (fX3_indexOf N s v4 a2 m) fun v5 =>
  if v5 = (-1) then
  some m
  else
  kc1 (fX3_removeAt N s v4 v5 m) fun m6 =>
  some m6
theorem FX2_forget_40 {g : zG} (hC : isC g) : zFl wsX2_forget RX2 (zcl g) 40 1 9 := ⟨RX2, TX2, 14, hC.2.2 ▸ rfl, by decide +kernel, by decide, by decide +kernel⟩
theorem FX2_forget_55 {g : zG} (hC : isC g) : zFl wsX2_forget RX2 (zcl g) 55 1 13 := ⟨RX2, TX2, 14, hC.2.2 ▸ rfl, by decide +kernel, by decide, by decide +kernel⟩
theorem hdX2_forget : yX2_forget.cls = RX2 ∧ yX2_forget.cls ≠ "java/lang/invoke/MethodHandle" ∧ yX2_forget.cls ≠ "java/lang/invoke/VarHandle" ∧ (parseMethodDescriptor yX2_forget.desc).map (fun d => d.parameters.length) = some 2 := by decide +kernel
set_option maxHeartbeats 4000000 in
set_option maxRecDepth 100000 in
theorem qX2_forget {l : Launch} {g : zG} (hC : isC g)  (N : Nat) (s : Nat) (a1 : Int32) (a2 : Int32) (m : zMem) (hs : isS s) (o : zMem) (hf : fX2_forget N s a1 a2 m = some o) : zMV l g yX2_forget wsX2_forget { frames := 2, cells := 0, slots := 0, locals := 43 } [.ref (zad g s), .int a1, .int a2] m o := by
  refine z_met_v (cc := cX2_forget) (maxL := 5) (lo0 := [some (.ref (zad g s)), some (.int a1), some (.int a2), none, none]) (by decide +kernel) rfl rfl (Nat.le_of_ble_eq_true rfl) (fun x hx C hr => ?_)
  unfold fX2_forget at hf
  refine z_iload_n (i := 1) C dX2_forget_0 rfl rfl rfl ?_
  refine z_iload_n (i := 2) C dX2_forget_1 rfl rfl rfl ?_
  refine z_ic_eq (tgt := 13) C dX2_forget_2 (by decide) rfl hf (fun hf => ?_) (fun hf => ?_)
  · skip
    exact hr _ _ _ (Option.some.inj hf) dX2_forget_13
  · skip
    refine z_aload_n (i := 0) C dX2_forget_5 rfl rfl rfl ?_
    refine z_iload_n (i := 1) C dX2_forget_6 rfl rfl rfl ?_
    refine z_cviR (As := [.int a1]) (st := []) (m := m) C (cl_1 hC) (sn_0 hC hs) (sc_0 hC hs) gX2_forget_X2_isMember hdX2_isMember rfl (fun z h => qX2_isMember hC s a1 m hs z h) rfl (Nat.le_of_ble_eq_true rfl) ⟨Nat.le_of_ble_eq_true rfl, Nat.le_of_ble_eq_true rfl⟩ ⟨Nat.le_refl _, Nat.le_refl _⟩ dX2_forget_7 rfl rfl hf (fun v1 hf => ?_)
    refine z_if_ne (tgt := 14) C dX2_forget_10 (by decide) rfl hf (fun hf => ?_) (fun hf => ?_)
    · skip
      refine z_aload_n (i := 0) C dX2_forget_14 rfl rfl rfl ?_
      refine z_gr C (FX2_forget_40 hC) (sn_0 hC hs) (sc_0 hC hs) rfl dX2_forget_15 rfl ?_
      refine z_iload_n (i := 1) C dX2_forget_18 rfl rfl rfl ?_
      refine z_iaload C (sn_2 hC hs) (sc_2 hC hs) dX2_forget_19 rfl hf (fun v2 hf => ?_)
      refine z_iload_n (i := 1) C dX2_forget_20 rfl rfl rfl ?_
      refine z_iload_n (i := 2) C dX2_forget_21 rfl rfl rfl ?_
      refine z_csiR (As := [.int a1, .int a2]) (st := [.int v2]) (m := m) C gX2_forget_X3_bucketFor hdX3_bucketFor rfl (fun z h => qX3_bucketFor a1 a2 m z h) rfl (Nat.le_of_ble_eq_true rfl) ⟨Nat.le_of_ble_eq_true rfl, Nat.le_of_ble_eq_true rfl⟩ ⟨Nat.le_refl _, Nat.le_refl _⟩ dX2_forget_22 rfl rfl hf (fun v3 hf => ?_)
      refine z_csiR (As := [.int v2, .int v3]) (st := []) (m := m) C gX2_forget_X3_bucketPlace hdX3_bucketPlace rfl (fun z h => qX3_bucketPlace v2 v3 m z h) rfl (Nat.le_of_ble_eq_true rfl) ⟨Nat.le_of_ble_eq_true rfl, Nat.le_of_ble_eq_true rfl⟩ ⟨Nat.le_refl _, Nat.le_refl _⟩ dX2_forget_25 rfl rfl hf (fun v4 hf => ?_)
      refine z_istore_n (i := 3) (lo' := [some (.ref (zad g s)), some (.int a1), some (.int a2), some (.int v4), none]) C dX2_forget_28 rfl (Nat.le_of_ble_eq_true rfl) rfl rfl rfl ?_
      refine z_aload_n (i := 0) C dX2_forget_29 rfl rfl rfl ?_
      refine z_gr C (FX2_forget_55 hC) (sn_0 hC hs) (sc_0 hC hs) rfl dX2_forget_30 rfl ?_
      refine z_iload_n (i := 3) C dX2_forget_33 rfl rfl rfl ?_
      refine z_iload_n (i := 2) C dX2_forget_34 rfl rfl rfl ?_
      refine z_cviR (As := [.int v4, .int a2]) (st := []) (m := m) C (cl_2 hC) (sn_6 hC hs) (sc_6 hC hs) gX2_forget_X3_indexOf hdX3_indexOf rfl (fun z h => qX3_indexOf hC N s v4 a2 m hs z h) rfl (Nat.le_of_ble_eq_true rfl) ⟨Nat.le_of_ble_eq_true rfl, Nat.le_of_ble_eq_true rfl⟩ ⟨Nat.le_refl _, Nat.le_refl _⟩ dX2_forget_35 rfl rfl hf (fun v5 hf => ?_)
      refine z_istore (lo' := [some (.ref (zad g s)), some (.int a1), some (.int a2), some (.int v4), some (.int v5)]) C dX2_forget_38 (Nat.le_of_ble_eq_true rfl) rfl rfl rfl ?_
      refine z_iload C dX2_forget_40 rfl rfl ?_
      refine z_iconst C dX2_forget_42 zi_m1 rfl ?_
      refine z_ic_eq (tgt := 56) C dX2_forget_43 (by decide) rfl hf (fun hf => ?_) (fun hf => ?_)
      · skip
        exact hr _ _ _ (Option.some.inj hf) dX2_forget_56
      · skip
        refine z_aload_n (i := 0) C dX2_forget_46 rfl rfl rfl ?_
        refine z_gr C (FX2_forget_55 hC) (sn_0 hC hs) (sc_0 hC hs) rfl dX2_forget_47 rfl ?_
        refine z_iload_n (i := 3) C dX2_forget_50 rfl rfl rfl ?_
        refine z_iload C dX2_forget_51 rfl rfl ?_
        refine z_cvvW (As := [.int v4, .int v5]) (st := []) (m := m) C (cl_2 hC) (sn_6 hC hs) (sc_6 hC hs) gX2_forget_X3_removeAt hdX3_removeAt rfl (fun z h => qX3_removeAt hC N s v4 v5 m hs z h) rfl (Nat.le_of_ble_eq_true rfl) ⟨Nat.le_of_ble_eq_true rfl, Nat.le_of_ble_eq_true rfl⟩ ⟨Nat.le_refl _, Nat.le_refl _⟩ dX2_forget_53 rfl rfl hf (fun m6 hf => ?_)
        exact hr _ _ _ (Option.some.inj hf) dX2_forget_56
    · skip
      exact hr _ _ _ (Option.some.inj hf) dX2_forget_13

def sX2_makeLookup_64 (N : Nat) (s : Nat) (a1 : Int32) (K121 : zMem → Option (Int32 × zMem)) : (Int32 × zMem → Option (Int32 × zMem)) → Int32 × zMem → Option (Int32 × zMem) := fun rec (x14, m15) =>
  kgi m15 1 1 fun v16 =>
  if v16 ≤ x14 then
  K121 m15
  else
  kld m15 2 12 x14 fun v17 =>
  kc1 (fX2_isMember s v17 m15) fun v18 =>
  if v18 = 0 then
  kc1 (fX2_forget N s a1 v17 m15) fun m19 =>
  rec (x14 + 1, m19)
  else
  kc1 (fX2_learn N s v17 a1 m15) fun m20 =>
  kc1 (fX2_learn N s a1 v17 m20) fun m21 =>
  rec (x14 + 1, m21)
def fX2_makeLookup (N : Nat) (s : Nat) (a1 : Int32) (a2 : Int32) (m : zMem) : Option (Int32 × zMem) :=
  kc1 (fX4_trace N s a1 a2 m) fun m1 =>
  kld m1 (s + 1) 9 2 fun v2 =>
  kst m1 (s + 1) 9 2 (v2 + 1) fun m3 =>
  kld m3 (s + 1) 9 3 fun v4 =>
  kgi m3 1 1 fun v5 =>
  kst m3 (s + 1) 9 3 (v4 + v5) fun m6 =>
  kld m6 (s + 1) 9 4 fun v7 =>
  kgi m6 1 2 fun v8 =>
  kst m6 (s + 1) 9 4 (v7 + v8) fun m9 =>
  kgi m9 1 4 fun v10 =>
  kjn (fun (m11 : zMem) =>
  kjn (fun (m12 : zMem) =>
  kgi m12 1 3 fun v13 =>
  some (v13, m12)) fun K121 =>
  klp (sX2_makeLookup_64 N s a1 K121) N (0, m11)) fun K61 =>
  if v10 = 0 then
  K61 m9
  else
  kld m9 (s + 1) 9 8 fun v22 =>
  kst m9 (s + 1) 9 8 (v22 + 1) fun m23 =>
  K61 m23
theorem FX2_makeLookup_36 {g : zG} (hC : isC g) : zFl wsX2_makeLookup RX2 (zcl g) 36 1 8 := ⟨RX2, TX2, 14, hC.2.2 ▸ rfl, by decide +kernel, by decide, by decide +kernel⟩
theorem FX2_makeLookup_145 {g : zG} (hC : isC g) : zFl wsX2_makeLookup RX2 (zcl g) 145 3 1 := ⟨RX4, TX4, 10, hC.2.2 ▸ rfl, by decide +kernel, by decide, by decide +kernel⟩
theorem FX2_makeLookup_148 {g : zG} (hC : isC g) : zFl wsX2_makeLookup RX2 (zcl g) 148 3 2 := ⟨RX4, TX4, 10, hC.2.2 ▸ rfl, by decide +kernel, by decide, by decide +kernel⟩
theorem FX2_makeLookup_151 {g : zG} (hC : isC g) : zFl wsX2_makeLookup RX2 (zcl g) 151 3 4 := ⟨RX4, TX4, 10, hC.2.2 ▸ rfl, by decide +kernel, by decide, by decide +kernel⟩
theorem FX2_makeLookup_155 {g : zG} (hC : isC g) : zFl wsX2_makeLookup RX2 (zcl g) 155 3 0 := ⟨RX4, TX4, 10, hC.2.2 ▸ rfl, by decide +kernel, by decide, by decide +kernel⟩
theorem FX2_makeLookup_161 {g : zG} (hC : isC g) : zFl wsX2_makeLookup RX2 (zcl g) 161 3 3 := ⟨RX4, TX4, 10, hC.2.2 ▸ rfl, by decide +kernel, by decide, by decide +kernel⟩
theorem hdX2_makeLookup : yX2_makeLookup.cls = RX2 ∧ yX2_makeLookup.cls ≠ "java/lang/invoke/MethodHandle" ∧ yX2_makeLookup.cls ≠ "java/lang/invoke/VarHandle" ∧ (parseMethodDescriptor yX2_makeLookup.desc).map (fun d => d.parameters.length) = some 3 := by decide +kernel
set_option maxHeartbeats 4000000 in
set_option maxRecDepth 100000 in
theorem qX2_makeLookup {l : Launch} {g : zG} (hC : isC g)  (N : Nat) (s : Nat) (a1 : Int32) (a2 : Int32) (m : zMem) (hs : isS s) (o : Int32 × zMem) (hf : fX2_makeLookup N s a1 a2 m = some o) : zMI l g yX2_makeLookup wsX2_makeLookup { frames := 3, cells := 0, slots := 0, locals := 81 } [.ref (zad g s), .ref (zad g 1), .int a1, .int a2] m o := by
  refine z_met_i (cc := cX2_makeLookup) (maxL := 6) (lo0 := [some (.ref (zad g s)), some (.ref (zad g 1)), some (.int a1), some (.int a2), none, none]) (by decide +kernel) rfl rfl (Nat.le_of_ble_eq_true rfl) (fun x hx C hr => ?_)
  unfold fX2_makeLookup at hf
  refine z_aload_n (i := 1) C dX2_makeLookup_0 rfl rfl rfl ?_
  refine z_aload_n (i := 0) C dX2_makeLookup_1 rfl rfl rfl ?_
  refine z_iload_n (i := 2) C dX2_makeLookup_2 rfl rfl rfl ?_
  refine z_iload_n (i := 3) C dX2_makeLookup_3 rfl rfl rfl ?_
  refine z_cvvW (As := [.ref (zad g s), .int a1, .int a2]) (st := []) (m := m) C (cl_3 hC) (tn_1 hC) (tc_1 hC) gX2_makeLookup_X4_trace hdX4_trace rfl (fun z h => qX4_trace hC N s a1 a2 m hs z h) rfl (Nat.le_of_ble_eq_true rfl) ⟨Nat.le_of_ble_eq_true rfl, Nat.le_of_ble_eq_true rfl⟩ ⟨Nat.le_refl _, Nat.le_refl _⟩ dX2_makeLookup_4 rfl rfl hf (fun m1 hf => ?_)
  refine z_aload_n (i := 0) C dX2_makeLookup_7 rfl rfl rfl ?_
  refine z_gr C (FX2_makeLookup_36 hC) (sn_0 hC hs) (sc_0 hC hs) rfl dX2_makeLookup_8 rfl ?_
  refine z_iconst C dX2_makeLookup_11 zi_2 rfl ?_
  refine z_dup2 C dX2_makeLookup_12 rfl rfl rfl ?_
  refine z_iaload C (sn_1 hC hs) (sc_1 hC hs) dX2_makeLookup_13 rfl hf (fun v2 hf => ?_)
  refine z_iconst C dX2_makeLookup_14 zi_1 rfl ?_
  refine z_iadd C dX2_makeLookup_15 rfl ?_
  refine z_iastore C (sn_1 hC hs) (sc_1 hC hs) dX2_makeLookup_16 rfl hf (fun m3 hf => ?_)
  refine z_aload_n (i := 0) C dX2_makeLookup_17 rfl rfl rfl ?_
  refine z_gr C (FX2_makeLookup_36 hC) (sn_0 hC hs) (sc_0 hC hs) rfl dX2_makeLookup_18 rfl ?_
  refine z_iconst C dX2_makeLookup_21 zi_3 rfl ?_
  refine z_dup2 C dX2_makeLookup_22 rfl rfl rfl ?_
  refine z_iaload C (sn_1 hC hs) (sc_1 hC hs) dX2_makeLookup_23 rfl hf (fun v4 hf => ?_)
  refine z_aload_n (i := 1) C dX2_makeLookup_24 rfl rfl rfl ?_
  refine z_gi C (FX2_makeLookup_145 hC) (tn_1 hC) (tc_1 hC) rfl dX2_makeLookup_25 rfl hf (fun v5 hf => ?_)
  refine z_iadd C dX2_makeLookup_28 rfl ?_
  refine z_iastore C (sn_1 hC hs) (sc_1 hC hs) dX2_makeLookup_29 rfl hf (fun m6 hf => ?_)
  refine z_aload_n (i := 0) C dX2_makeLookup_30 rfl rfl rfl ?_
  refine z_gr C (FX2_makeLookup_36 hC) (sn_0 hC hs) (sc_0 hC hs) rfl dX2_makeLookup_31 rfl ?_
  refine z_iconst C dX2_makeLookup_34 zi_4 rfl ?_
  refine z_dup2 C dX2_makeLookup_35 rfl rfl rfl ?_
  refine z_iaload C (sn_1 hC hs) (sc_1 hC hs) dX2_makeLookup_36 rfl hf (fun v7 hf => ?_)
  refine z_aload_n (i := 1) C dX2_makeLookup_37 rfl rfl rfl ?_
  refine z_gi C (FX2_makeLookup_148 hC) (tn_1 hC) (tc_1 hC) rfl dX2_makeLookup_38 rfl hf (fun v8 hf => ?_)
  refine z_iadd C dX2_makeLookup_41 rfl ?_
  refine z_iastore C (sn_1 hC hs) (sc_1 hC hs) dX2_makeLookup_42 rfl hf (fun m9 hf => ?_)
  refine z_aload_n (i := 1) C dX2_makeLookup_43 rfl rfl rfl ?_
  refine z_gi C (FX2_makeLookup_151 hC) (tn_1 hC) (tc_1 hC) rfl dX2_makeLookup_44 rfl hf (fun v10 hf => ?_)
  refine kjn_V (fun K61 => ∀ (m11 : zMem), K61 m11 = some o → zV x g 6 0 0 61 [some (.ref (zad g s)), some (.ref (zad g 1)), some (.int a1), none, none, none] [] m11) hf (fun m11 hf => ?_) (fun K61 hK61 hf => ?_)
  · skip
    refine z_iconst C dX2_makeLookup_61 zi_0 rfl ?_
    refine z_istore (lo' := [some (.ref (zad g s)), some (.ref (zad g 1)), some (.int a1), none, some (.int 0), none]) C dX2_makeLookup_62 (Nat.le_of_ble_eq_true rfl) rfl rfl rfl ?_
    refine kjn_V (fun K121 => ∀ (m12 : zMem), K121 m12 = some o → zV x g 6 0 0 121 [none, some (.ref (zad g 1)), none, none, none, none] [] m12) hf (fun m12 hf => ?_) (fun K121 hK121 hf => ?_)
    · skip
      refine z_aload_n (i := 1) C dX2_makeLookup_121 rfl rfl rfl ?_
      refine z_gi C (FX2_makeLookup_161 hC) (tn_1 hC) (tc_1 hC) rfl dX2_makeLookup_122 rfl hf (fun v13 hf => ?_)
      exact hr _ _ _ _ (Option.some.inj hf) dX2_makeLookup_125
    · skip
      refine klp_V (fun z => zV x g 6 0 0 64 [some (.ref (zad g s)), some (.ref (zad g 1)), some (.int a1), none, some (.int z.1), none] [] z.2) hf (fun rec z ih hf => ?_)
      obtain ⟨x14, m15⟩ := z
      unfold sX2_makeLookup_64 at hf
      try dsimp only at hf
      try dsimp only
      refine z_iload C dX2_makeLookup_64 rfl rfl ?_
      refine z_aload_n (i := 1) C dX2_makeLookup_66 rfl rfl rfl ?_
      refine z_gi C (FX2_makeLookup_145 hC) (tn_1 hC) (tc_1 hC) rfl dX2_makeLookup_67 rfl hf (fun v16 hf => ?_)
      refine z_ic_ge (tgt := 121) C dX2_makeLookup_70 (by decide) rfl hf (fun hf => ?_) (fun hf => ?_)
      · skip
        refine z_drop (lo' := [none, some (.ref (zad g 1)), some (.int a1), none, some (.int x14), none]) 0 rfl ?_
        refine z_drop (lo' := [none, some (.ref (zad g 1)), none, none, some (.int x14), none]) 2 rfl ?_
        refine z_drop (lo' := [none, some (.ref (zad g 1)), none, none, none, none]) 4 rfl ?_
        exact hK121 _ hf
      · skip
        refine z_aload_n (i := 1) C dX2_makeLookup_73 rfl rfl rfl ?_
        refine z_gr C (FX2_makeLookup_155 hC) (tn_1 hC) (tc_1 hC) rfl dX2_makeLookup_74 rfl ?_
        refine z_iload C dX2_makeLookup_77 rfl rfl ?_
        refine z_iaload C (tn_2 hC) (tc_2 hC) dX2_makeLookup_79 rfl hf (fun v17 hf => ?_)
        refine z_istore (lo' := [some (.ref (zad g s)), some (.ref (zad g 1)), some (.int a1), none, some (.int x14), some (.int v17)]) C dX2_makeLookup_80 (Nat.le_of_ble_eq_true rfl) rfl rfl rfl ?_
        refine z_aload_n (i := 0) C dX2_makeLookup_82 rfl rfl rfl ?_
        refine z_iload C dX2_makeLookup_83 rfl rfl ?_
        refine z_cviR (As := [.int v17]) (st := []) (m := m15) C (cl_1 hC) (sn_0 hC hs) (sc_0 hC hs) gX2_makeLookup_X2_isMember hdX2_isMember rfl (fun z h => qX2_isMember hC s v17 m15 hs z h) rfl (Nat.le_of_ble_eq_true rfl) ⟨Nat.le_of_ble_eq_true rfl, Nat.le_of_ble_eq_true rfl⟩ ⟨Nat.le_refl _, Nat.le_refl _⟩ dX2_makeLookup_85 rfl rfl hf (fun v18 hf => ?_)
        refine z_if_eq (tgt := 108) C dX2_makeLookup_88 (by decide) rfl hf (fun hf => ?_) (fun hf => ?_)
        · skip
          refine z_aload_n (i := 0) C dX2_makeLookup_108 rfl rfl rfl ?_
          refine z_iload_n (i := 2) C dX2_makeLookup_109 rfl rfl rfl ?_
          refine z_iload C dX2_makeLookup_110 rfl rfl ?_
          refine z_cvvW (As := [.int a1, .int v17]) (st := []) (m := m15) C (cl_1 hC) (sn_0 hC hs) (sc_0 hC hs) gX2_makeLookup_X2_forget hdX2_forget rfl (fun z h => qX2_forget hC N s a1 v17 m15 hs z h) rfl (Nat.le_of_ble_eq_true rfl) ⟨Nat.le_of_ble_eq_true rfl, Nat.le_of_ble_eq_true rfl⟩ ⟨Nat.le_refl _, Nat.le_refl _⟩ dX2_makeLookup_112 rfl rfl hf (fun m19 hf => ?_)
          refine z_iinc (v := x14 + 1) (lo' := [some (.ref (zad g s)), some (.ref (zad g 1)), some (.int a1), none, some (.int (x14 + 1)), some (.int v17)]) C dX2_makeLookup_115 rfl (zinc zi_1) (Nat.le_of_ble_eq_true rfl) rfl rfl rfl ?_
          refine z_goto (pc' := 64) C dX2_makeLookup_118 (by decide) ?_
          refine z_drop (lo' := [some (.ref (zad g s)), some (.ref (zad g 1)), some (.int a1), none, some (.int (x14 + 1)), none]) 5 rfl ?_
          exact ih (x14 + 1, m19) hf
        · skip
          refine z_aload_n (i := 0) C dX2_makeLookup_91 rfl rfl rfl ?_
          refine z_iload C dX2_makeLookup_92 rfl rfl ?_
          refine z_iload_n (i := 2) C dX2_makeLookup_94 rfl rfl rfl ?_
          refine z_cvvW (As := [.int v17, .int a1]) (st := []) (m := m15) C (cl_1 hC) (sn_0 hC hs) (sc_0 hC hs) gX2_makeLookup_X2_learn hdX2_learn rfl (fun z h => qX2_learn hC N s v17 a1 m15 hs z h) rfl (Nat.le_of_ble_eq_true rfl) ⟨Nat.le_of_ble_eq_true rfl, Nat.le_of_ble_eq_true rfl⟩ ⟨Nat.le_refl _, Nat.le_refl _⟩ dX2_makeLookup_95 rfl rfl hf (fun m20 hf => ?_)
          refine z_aload_n (i := 0) C dX2_makeLookup_98 rfl rfl rfl ?_
          refine z_iload_n (i := 2) C dX2_makeLookup_99 rfl rfl rfl ?_
          refine z_iload C dX2_makeLookup_100 rfl rfl ?_
          refine z_cvvW (As := [.int a1, .int v17]) (st := []) (m := m20) C (cl_1 hC) (sn_0 hC hs) (sc_0 hC hs) gX2_makeLookup_X2_learn hdX2_learn rfl (fun z h => qX2_learn hC N s a1 v17 m20 hs z h) rfl (Nat.le_of_ble_eq_true rfl) ⟨Nat.le_of_ble_eq_true rfl, Nat.le_of_ble_eq_true rfl⟩ ⟨Nat.le_refl _, Nat.le_refl _⟩ dX2_makeLookup_102 rfl rfl hf (fun m21 hf => ?_)
          refine z_goto (pc' := 115) C dX2_makeLookup_105 (by decide) ?_
          refine z_iinc (v := x14 + 1) (lo' := [some (.ref (zad g s)), some (.ref (zad g 1)), some (.int a1), none, some (.int (x14 + 1)), some (.int v17)]) C dX2_makeLookup_115 rfl (zinc zi_1) (Nat.le_of_ble_eq_true rfl) rfl rfl rfl ?_
          refine z_goto (pc' := 64) C dX2_makeLookup_118 (by decide) ?_
          refine z_drop (lo' := [some (.ref (zad g s)), some (.ref (zad g 1)), some (.int a1), none, some (.int (x14 + 1)), none]) 5 rfl ?_
          exact ih (x14 + 1, m21) hf
  · skip
    refine z_if_eq (tgt := 61) C dX2_makeLookup_47 (by decide) rfl hf (fun hf => ?_) (fun hf => ?_)
    · skip
      refine z_drop (lo' := [some (.ref (zad g s)), some (.ref (zad g 1)), some (.int a1), none, none, none]) 3 rfl ?_
      exact hK61 _ hf
    · skip
      refine z_aload_n (i := 0) C dX2_makeLookup_50 rfl rfl rfl ?_
      refine z_gr C (FX2_makeLookup_36 hC) (sn_0 hC hs) (sc_0 hC hs) rfl dX2_makeLookup_51 rfl ?_
      refine z_bipush C dX2_makeLookup_54 zb_8 rfl ?_
      refine z_dup2 C dX2_makeLookup_56 rfl rfl rfl ?_
      refine z_iaload C (sn_1 hC hs) (sc_1 hC hs) dX2_makeLookup_57 rfl hf (fun v22 hf => ?_)
      refine z_iconst C dX2_makeLookup_58 zi_1 rfl ?_
      refine z_iadd C dX2_makeLookup_59 rfl ?_
      refine z_iastore C (sn_1 hC hs) (sc_1 hC hs) dX2_makeLookup_60 rfl hf (fun m23 hf => ?_)
      refine z_drop (lo' := [some (.ref (zad g s)), some (.ref (zad g 1)), some (.int a1), none, none, none]) 3 rfl ?_
      exact hK61 _ hf

def sX3_entriesOf_4 (s : Nat) (a1 : Int32) (m : zMem) (K29 : Int32 → Option (Int32)) : (Int32 × Int32 → Option (Int32)) → Int32 × Int32 → Option (Int32) := fun rec (x2, x3) =>
  if 8 ≤ x3 then
  K29 x2
  else
  kc1 (fX3_bucketPlace a1 x3) fun v4 =>
  kld m (s + 7) 192 v4 fun v5 =>
  klt (x2 + v5 : Int32) fun v6 =>
  rec (v6, x3 + 1)
def fX3_entriesOf (N : Nat) (s : Nat) (a1 : Int32) (m : zMem) : Option (Int32) :=
  kjn (fun (w1 : Int32) =>
  some w1) fun K29 =>
  klp (sX3_entriesOf_4 s a1 m K29) N (0, 0)
theorem FX3_entriesOf_11 {g : zG} (hC : isC g) : zFl wsX3_entriesOf RX3 (zcl g) 11 2 0 := ⟨RX3, TX3, 3, hC.2.2 ▸ rfl, by decide +kernel, by decide, by decide +kernel⟩
theorem hdX3_entriesOf : yX3_entriesOf.cls = RX3 ∧ yX3_entriesOf.cls ≠ "java/lang/invoke/MethodHandle" ∧ yX3_entriesOf.cls ≠ "java/lang/invoke/VarHandle" ∧ (parseMethodDescriptor yX3_entriesOf.desc).map (fun d => d.parameters.length) = some 1 := by decide +kernel
set_option maxHeartbeats 4000000 in
set_option maxRecDepth 100000 in
theorem qX3_entriesOf {l : Launch} {g : zG} (hC : isC g)  (N : Nat) (s : Nat) (a1 : Int32) (m : zMem) (hs : isS s) (o : Int32) (hf : fX3_entriesOf N s a1 m = some o) : zMI l g yX3_entriesOf wsX3_entriesOf { frames := 1, cells := 0, slots := 0, locals := 21 } [.ref (zad g (s + 6)), .int a1] m (o, m) := by
  refine z_met_i (cc := cX3_entriesOf) (maxL := 4) (lo0 := [some (.ref (zad g (s + 6))), some (.int a1), none, none]) (by decide +kernel) rfl rfl (Nat.le_of_ble_eq_true rfl) (fun x hx C hr => ?_)
  unfold fX3_entriesOf at hf
  refine z_iconst C dX3_entriesOf_0 zi_0 rfl ?_
  refine z_istore_n (i := 2) (lo' := [some (.ref (zad g (s + 6))), some (.int a1), some (.int 0), none]) C dX3_entriesOf_1 rfl (Nat.le_of_ble_eq_true rfl) rfl rfl rfl ?_
  refine z_iconst C dX3_entriesOf_2 zi_0 rfl ?_
  refine z_istore_n (i := 3) (lo' := [some (.ref (zad g (s + 6))), some (.int a1), some (.int 0), some (.int 0)]) C dX3_entriesOf_3 rfl (Nat.le_of_ble_eq_true rfl) rfl rfl rfl ?_
  refine kjn_V (fun K29 => ∀ (w1 : Int32), K29 w1 = some o → zV x g 4 0 0 29 [none, none, some (.int w1), none] [] m) hf (fun w1 hf => ?_) (fun K29 hK29 hf => ?_)
  · skip
    refine z_iload_n (i := 2) C dX3_entriesOf_29 rfl rfl rfl ?_
    exact hr _ _ _ _ (congrArg (fun z => (z, m)) (Option.some.inj hf)) dX3_entriesOf_30
  · skip
    refine klp_V (fun z => zV x g 4 0 0 4 [some (.ref (zad g (s + 6))), some (.int a1), some (.int z.1), some (.int z.2)] [] m) hf (fun rec z ih hf => ?_)
    obtain ⟨x2, x3⟩ := z
    unfold sX3_entriesOf_4 at hf
    try dsimp only at hf
    try dsimp only
    refine z_iload_n (i := 3) C dX3_entriesOf_4 rfl rfl rfl ?_
    refine z_bipush C dX3_entriesOf_5 zb_8 rfl ?_
    refine z_ic_ge (tgt := 29) C dX3_entriesOf_7 (by decide) rfl hf (fun hf => ?_) (fun hf => ?_)
    · skip
      refine z_drop (lo' := [none, some (.int a1), some (.int x2), some (.int x3)]) 0 rfl ?_
      refine z_drop (lo' := [none, none, some (.int x2), some (.int x3)]) 1 rfl ?_
      refine z_drop (lo' := [none, none, some (.int x2), none]) 3 rfl ?_
      exact hK29 _ hf
    · skip
      refine z_iload_n (i := 2) C dX3_entriesOf_10 rfl rfl rfl ?_
      refine z_aload_n (i := 0) C dX3_entriesOf_11 rfl rfl rfl ?_
      refine z_gr C (FX3_entriesOf_11 hC) (sn_6 hC hs) (sc_6 hC hs) rfl dX3_entriesOf_12 rfl ?_
      refine z_iload_n (i := 1) C dX3_entriesOf_15 rfl rfl rfl ?_
      refine z_iload_n (i := 3) C dX3_entriesOf_16 rfl rfl rfl ?_
      refine z_csiR (As := [.int a1, .int x3]) (st := [.ref (zad g (s + 7)), .int x2]) (m := m) C gX3_entriesOf_X3_bucketPlace hdX3_bucketPlace rfl (fun z h => qX3_bucketPlace a1 x3 m z h) rfl (Nat.le_of_ble_eq_true rfl) ⟨Nat.le_of_ble_eq_true rfl, Nat.le_of_ble_eq_true rfl⟩ ⟨Nat.le_refl _, Nat.le_refl _⟩ dX3_entriesOf_17 rfl rfl hf (fun v4 hf => ?_)
      refine z_iaload C (sn_7 hC hs) (sc_7 hC hs) dX3_entriesOf_20 rfl hf (fun v5 hf => ?_)
      refine z_iadd C dX3_entriesOf_21 rfl ?_
      refine z_top _ hf (fun v6 hf => ?_)
      refine z_istore_n (i := 2) (lo' := [some (.ref (zad g (s + 6))), some (.int a1), some (.int v6), some (.int x3)]) C dX3_entriesOf_22 rfl (Nat.le_of_ble_eq_true rfl) rfl rfl rfl ?_
      refine z_iinc (v := x3 + 1) (lo' := [some (.ref (zad g (s + 6))), some (.int a1), some (.int v6), some (.int (x3 + 1))]) C dX3_entriesOf_23 rfl (zinc zi_1) (Nat.le_of_ble_eq_true rfl) rfl rfl rfl ?_
      refine z_goto (pc' := 4) C dX3_entriesOf_26 (by decide) ?_
      exact ih (v6, x3 + 1) hf

def fX2_enter (N : Nat) (s : Nat) (a1 : Int32) (a2 : Int32) (a3 : Int32) (m : zMem) : Option (Int32 × zMem) :=
  kc1 (fX2_freeRow N s m) fun v1 =>
  if v1 = (-1) then
  some (0, m)
  else
  kst m (s + 2) 256 a1 v1 fun m2 =>
  kst m2 (s + 3) 24 v1 a1 fun m3 =>
  kst m3 (s + 4) 24 v1 a2 fun m4 =>
  kgi m4 s 5 fun v5 =>
  kst m4 (s + 5) 24 v1 v5 fun m6 =>
  kc1 (fX3_clear N s v1 m6) fun m7 =>
  kgi m7 s 7 fun v8 =>
  kpi m7 s 7 (v8 + 1) fun m9 =>
  kgi m9 s 6 fun v10 =>
  kpi m9 s 6 (v10 + 1) fun m11 =>
  kld m11 (s + 1) 9 0 fun v12 =>
  kst m11 (s + 1) 9 0 (v12 + 1) fun m13 =>
  kjn (fun (m14 : zMem) =>
  kc1 (fX3_entriesOf N s v1 m14) fun v15 =>
  some (v15, m14)) fun K116 =>
  if a3 = (-1) then
  K116 m13
  else
  kc1 (fX2_learn N s a3 a1 m13) fun m16 =>
  kc1 (fX2_learn N s a1 a3 m16) fun m17 =>
  kc2 (fX2_makeLookup N s a1 a1 m17) fun v18 m19 =>
  K116 m19
theorem FX2_enter_27 {g : zG} (hC : isC g) : zFl wsX2_enter RX2 (zcl g) 27 1 5 := ⟨RX2, TX2, 14, hC.2.2 ▸ rfl, by decide +kernel, by decide, by decide +kernel⟩
theorem FX2_enter_30 {g : zG} (hC : isC g) : zFl wsX2_enter RX2 (zcl g) 30 1 6 := ⟨RX2, TX2, 14, hC.2.2 ▸ rfl, by decide +kernel, by decide, by decide +kernel⟩
theorem PX2_enter_30 {g : zG} (hC : isC g) : zFp wsX2_enter RX2 (zcl g) 30 1 6 .int := ⟨RX2, TX2, 14, tyX2, hC.2.2 ▸ rfl, by decide +kernel, by decide, by decide +kernel, tyX2_ok, nmX2, rfl, by decide +kernel⟩
theorem FX2_enter_33 {g : zG} (hC : isC g) : zFl wsX2_enter RX2 (zcl g) 33 1 7 := ⟨RX2, TX2, 14, hC.2.2 ▸ rfl, by decide +kernel, by decide, by decide +kernel⟩
theorem PX2_enter_33 {g : zG} (hC : isC g) : zFp wsX2_enter RX2 (zcl g) 33 1 7 .int := ⟨RX2, TX2, 14, tyX2, hC.2.2 ▸ rfl, by decide +kernel, by decide, by decide +kernel, tyX2_ok, nmX2, rfl, by decide +kernel⟩
theorem FX2_enter_36 {g : zG} (hC : isC g) : zFl wsX2_enter RX2 (zcl g) 36 1 8 := ⟨RX2, TX2, 14, hC.2.2 ▸ rfl, by decide +kernel, by decide, by decide +kernel⟩
theorem FX2_enter_40 {g : zG} (hC : isC g) : zFl wsX2_enter RX2 (zcl g) 40 1 9 := ⟨RX2, TX2, 14, hC.2.2 ▸ rfl, by decide +kernel, by decide, by decide +kernel⟩
theorem FX2_enter_43 {g : zG} (hC : isC g) : zFl wsX2_enter RX2 (zcl g) 43 1 10 := ⟨RX2, TX2, 14, hC.2.2 ▸ rfl, by decide +kernel, by decide, by decide +kernel⟩
theorem FX2_enter_46 {g : zG} (hC : isC g) : zFl wsX2_enter RX2 (zcl g) 46 1 11 := ⟨RX2, TX2, 14, hC.2.2 ▸ rfl, by decide +kernel, by decide, by decide +kernel⟩
theorem FX2_enter_49 {g : zG} (hC : isC g) : zFl wsX2_enter RX2 (zcl g) 49 1 12 := ⟨RX2, TX2, 14, hC.2.2 ▸ rfl, by decide +kernel, by decide, by decide +kernel⟩
theorem FX2_enter_55 {g : zG} (hC : isC g) : zFl wsX2_enter RX2 (zcl g) 55 1 13 := ⟨RX2, TX2, 14, hC.2.2 ▸ rfl, by decide +kernel, by decide, by decide +kernel⟩
theorem hdX2_enter : yX2_enter.cls = RX2 ∧ yX2_enter.cls ≠ "java/lang/invoke/MethodHandle" ∧ yX2_enter.cls ≠ "java/lang/invoke/VarHandle" ∧ (parseMethodDescriptor yX2_enter.desc).map (fun d => d.parameters.length) = some 4 := by decide +kernel
set_option maxHeartbeats 4000000 in
set_option maxRecDepth 100000 in
theorem qX2_enter {l : Launch} {g : zG} (hC : isC g)  (N : Nat) (s : Nat) (a1 : Int32) (a2 : Int32) (a3 : Int32) (m : zMem) (hs : isS s) (o : Int32 × zMem) (hf : fX2_enter N s a1 a2 a3 m = some o) : zMI l g yX2_enter wsX2_enter { frames := 4, cells := 0, slots := 0, locals := 106 } [.ref (zad g s), .ref (zad g 1), .int a1, .int a2, .int a3] m o := by
  refine z_met_i (cc := cX2_enter) (maxL := 6) (lo0 := [some (.ref (zad g s)), some (.ref (zad g 1)), some (.int a1), some (.int a2), some (.int a3), none]) (by decide +kernel) rfl rfl (Nat.le_of_ble_eq_true rfl) (fun x hx C hr => ?_)
  unfold fX2_enter at hf
  refine z_aload_n (i := 0) C dX2_enter_0 rfl rfl rfl ?_
  refine z_cviR (As := []) (st := []) (m := m) C (cl_1 hC) (sn_0 hC hs) (sc_0 hC hs) gX2_enter_X2_freeRow hdX2_freeRow rfl (fun z h => qX2_freeRow hC N s m hs z h) rfl (Nat.le_of_ble_eq_true rfl) ⟨Nat.le_of_ble_eq_true rfl, Nat.le_of_ble_eq_true rfl⟩ ⟨Nat.le_refl _, Nat.le_refl _⟩ dX2_enter_1 rfl rfl hf (fun v1 hf => ?_)
  refine z_istore (lo' := [some (.ref (zad g s)), some (.ref (zad g 1)), some (.int a1), some (.int a2), some (.int a3), some (.int v1)]) C dX2_enter_4 (Nat.le_of_ble_eq_true rfl) rfl rfl rfl ?_
  refine z_iload C dX2_enter_6 rfl rfl ?_
  refine z_iconst C dX2_enter_8 zi_m1 rfl ?_
  refine z_ic_ne (tgt := 14) C dX2_enter_9 (by decide) rfl hf (fun hf => ?_) (fun hf => ?_)
  · skip
    refine z_aload_n (i := 0) C dX2_enter_14 rfl rfl rfl ?_
    refine z_gr C (FX2_enter_40 hC) (sn_0 hC hs) (sc_0 hC hs) rfl dX2_enter_15 rfl ?_
    refine z_iload_n (i := 2) C dX2_enter_18 rfl rfl rfl ?_
    refine z_iload C dX2_enter_19 rfl rfl ?_
    refine z_iastore C (sn_2 hC hs) (sc_2 hC hs) dX2_enter_21 rfl hf (fun m2 hf => ?_)
    refine z_aload_n (i := 0) C dX2_enter_22 rfl rfl rfl ?_
    refine z_gr C (FX2_enter_43 hC) (sn_0 hC hs) (sc_0 hC hs) rfl dX2_enter_23 rfl ?_
    refine z_iload C dX2_enter_26 rfl rfl ?_
    refine z_iload_n (i := 2) C dX2_enter_28 rfl rfl rfl ?_
    refine z_iastore C (sn_3 hC hs) (sc_3 hC hs) dX2_enter_29 rfl hf (fun m3 hf => ?_)
    refine z_aload_n (i := 0) C dX2_enter_30 rfl rfl rfl ?_
    refine z_gr C (FX2_enter_46 hC) (sn_0 hC hs) (sc_0 hC hs) rfl dX2_enter_31 rfl ?_
    refine z_iload C dX2_enter_34 rfl rfl ?_
    refine z_iload_n (i := 3) C dX2_enter_36 rfl rfl rfl ?_
    refine z_iastore C (sn_4 hC hs) (sc_4 hC hs) dX2_enter_37 rfl hf (fun m4 hf => ?_)
    refine z_aload_n (i := 0) C dX2_enter_38 rfl rfl rfl ?_
    refine z_gr C (FX2_enter_49 hC) (sn_0 hC hs) (sc_0 hC hs) rfl dX2_enter_39 rfl ?_
    refine z_iload C dX2_enter_42 rfl rfl ?_
    refine z_aload_n (i := 0) C dX2_enter_44 rfl rfl rfl ?_
    refine z_gi C (FX2_enter_27 hC) (sn_0 hC hs) (sc_0 hC hs) rfl dX2_enter_45 rfl hf (fun v5 hf => ?_)
    refine z_iastore C (sn_5 hC hs) (sc_5 hC hs) dX2_enter_48 rfl hf (fun m6 hf => ?_)
    refine z_aload_n (i := 0) C dX2_enter_49 rfl rfl rfl ?_
    refine z_gr C (FX2_enter_55 hC) (sn_0 hC hs) (sc_0 hC hs) rfl dX2_enter_50 rfl ?_
    refine z_iload C dX2_enter_53 rfl rfl ?_
    refine z_cvvW (As := [.int v1]) (st := []) (m := m6) C (cl_2 hC) (sn_6 hC hs) (sc_6 hC hs) gX2_enter_X3_clear hdX3_clear rfl (fun z h => qX3_clear hC N s v1 m6 hs z h) rfl (Nat.le_of_ble_eq_true rfl) ⟨Nat.le_of_ble_eq_true rfl, Nat.le_of_ble_eq_true rfl⟩ ⟨Nat.le_refl _, Nat.le_refl _⟩ dX2_enter_55 rfl rfl hf (fun m7 hf => ?_)
    refine z_aload_n (i := 0) C dX2_enter_58 rfl rfl rfl ?_
    refine z_dup C dX2_enter_59 rfl rfl ?_
    refine z_gi C (FX2_enter_33 hC) (sn_0 hC hs) (sc_0 hC hs) rfl dX2_enter_60 rfl hf (fun v8 hf => ?_)
    refine z_iconst C dX2_enter_63 zi_1 rfl ?_
    refine z_iadd C dX2_enter_64 rfl ?_
    refine z_pi C (PX2_enter_33 hC) (sn_0 hC hs) (sc_0 hC hs) rfl dX2_enter_65 rfl hf (fun m9 hf => ?_)
    refine z_aload_n (i := 0) C dX2_enter_68 rfl rfl rfl ?_
    refine z_dup C dX2_enter_69 rfl rfl ?_
    refine z_gi C (FX2_enter_30 hC) (sn_0 hC hs) (sc_0 hC hs) rfl dX2_enter_70 rfl hf (fun v10 hf => ?_)
    refine z_iconst C dX2_enter_73 zi_1 rfl ?_
    refine z_iadd C dX2_enter_74 rfl ?_
    refine z_pi C (PX2_enter_30 hC) (sn_0 hC hs) (sc_0 hC hs) rfl dX2_enter_75 rfl hf (fun m11 hf => ?_)
    refine z_aload_n (i := 0) C dX2_enter_78 rfl rfl rfl ?_
    refine z_gr C (FX2_enter_36 hC) (sn_0 hC hs) (sc_0 hC hs) rfl dX2_enter_79 rfl ?_
    refine z_iconst C dX2_enter_82 zi_0 rfl ?_
    refine z_dup2 C dX2_enter_83 rfl rfl rfl ?_
    refine z_iaload C (sn_1 hC hs) (sc_1 hC hs) dX2_enter_84 rfl hf (fun v12 hf => ?_)
    refine z_iconst C dX2_enter_85 zi_1 rfl ?_
    refine z_iadd C dX2_enter_86 rfl ?_
    refine z_iastore C (sn_1 hC hs) (sc_1 hC hs) dX2_enter_87 rfl hf (fun m13 hf => ?_)
    refine z_iload C dX2_enter_88 rfl rfl ?_
    refine z_iconst C dX2_enter_90 zi_m1 rfl ?_
    refine kjn_V (fun K116 => ∀ (m14 : zMem), K116 m14 = some o → zV x g 6 0 0 116 [some (.ref (zad g s)), none, none, none, none, some (.int v1)] [] m14) hf (fun m14 hf => ?_) (fun K116 hK116 hf => ?_)
    · skip
      refine z_aload_n (i := 0) C dX2_enter_116 rfl rfl rfl ?_
      refine z_gr C (FX2_enter_55 hC) (sn_0 hC hs) (sc_0 hC hs) rfl dX2_enter_117 rfl ?_
      refine z_iload C dX2_enter_120 rfl rfl ?_
      refine z_cviR (As := [.int v1]) (st := []) (m := m14) C (cl_2 hC) (sn_6 hC hs) (sc_6 hC hs) gX2_enter_X3_entriesOf hdX3_entriesOf rfl (fun z h => qX3_entriesOf hC N s v1 m14 hs z h) rfl (Nat.le_of_ble_eq_true rfl) ⟨Nat.le_of_ble_eq_true rfl, Nat.le_of_ble_eq_true rfl⟩ ⟨Nat.le_refl _, Nat.le_refl _⟩ dX2_enter_122 rfl rfl hf (fun v15 hf => ?_)
      exact hr _ _ _ _ (Option.some.inj hf) dX2_enter_125
    · skip
      refine z_ic_eq (tgt := 116) C dX2_enter_91 (by decide) rfl hf (fun hf => ?_) (fun hf => ?_)
      · skip
        refine z_drop (lo' := [some (.ref (zad g s)), none, some (.int a1), some (.int a2), some (.int a3), some (.int v1)]) 1 rfl ?_
        refine z_drop (lo' := [some (.ref (zad g s)), none, none, some (.int a2), some (.int a3), some (.int v1)]) 2 rfl ?_
        refine z_drop (lo' := [some (.ref (zad g s)), none, none, none, some (.int a3), some (.int v1)]) 3 rfl ?_
        refine z_drop (lo' := [some (.ref (zad g s)), none, none, none, none, some (.int v1)]) 4 rfl ?_
        exact hK116 _ hf
      · skip
        refine z_aload_n (i := 0) C dX2_enter_94 rfl rfl rfl ?_
        refine z_iload C dX2_enter_95 rfl rfl ?_
        refine z_iload_n (i := 2) C dX2_enter_97 rfl rfl rfl ?_
        refine z_cvvW (As := [.int a3, .int a1]) (st := []) (m := m13) C (cl_1 hC) (sn_0 hC hs) (sc_0 hC hs) gX2_enter_X2_learn hdX2_learn rfl (fun z h => qX2_learn hC N s a3 a1 m13 hs z h) rfl (Nat.le_of_ble_eq_true rfl) ⟨Nat.le_of_ble_eq_true rfl, Nat.le_of_ble_eq_true rfl⟩ ⟨Nat.le_refl _, Nat.le_refl _⟩ dX2_enter_98 rfl rfl hf (fun m16 hf => ?_)
        refine z_aload_n (i := 0) C dX2_enter_101 rfl rfl rfl ?_
        refine z_iload_n (i := 2) C dX2_enter_102 rfl rfl rfl ?_
        refine z_iload C dX2_enter_103 rfl rfl ?_
        refine z_cvvW (As := [.int a1, .int a3]) (st := []) (m := m16) C (cl_1 hC) (sn_0 hC hs) (sc_0 hC hs) gX2_enter_X2_learn hdX2_learn rfl (fun z h => qX2_learn hC N s a1 a3 m16 hs z h) rfl (Nat.le_of_ble_eq_true rfl) ⟨Nat.le_of_ble_eq_true rfl, Nat.le_of_ble_eq_true rfl⟩ ⟨Nat.le_refl _, Nat.le_refl _⟩ dX2_enter_105 rfl rfl hf (fun m17 hf => ?_)
        refine z_aload_n (i := 0) C dX2_enter_108 rfl rfl rfl ?_
        refine z_aload_n (i := 1) C dX2_enter_109 rfl rfl rfl ?_
        refine z_iload_n (i := 2) C dX2_enter_110 rfl rfl rfl ?_
        refine z_iload_n (i := 2) C dX2_enter_111 rfl rfl rfl ?_
        refine z_cviW (As := [.ref (zad g 1), .int a1, .int a1]) (st := []) (m := m17) C (cl_1 hC) (sn_0 hC hs) (sc_0 hC hs) gX2_enter_X2_makeLookup hdX2_makeLookup rfl (fun z h => qX2_makeLookup hC N s a1 a1 m17 hs z h) rfl (Nat.le_of_ble_eq_true rfl) ⟨Nat.le_of_ble_eq_true rfl, Nat.le_of_ble_eq_true rfl⟩ ⟨Nat.le_refl _, Nat.le_refl _⟩ dX2_enter_112 rfl rfl hf (fun v18 m19 hf => ?_)
        refine z_pop C dX2_enter_115 rfl rfl ?_
        refine z_drop (lo' := [some (.ref (zad g s)), none, some (.int a1), some (.int a2), some (.int a3), some (.int v1)]) 1 rfl ?_
        refine z_drop (lo' := [some (.ref (zad g s)), none, none, some (.int a2), some (.int a3), some (.int v1)]) 2 rfl ?_
        refine z_drop (lo' := [some (.ref (zad g s)), none, none, none, some (.int a3), some (.int v1)]) 3 rfl ?_
        refine z_drop (lo' := [some (.ref (zad g s)), none, none, none, none, some (.int v1)]) 4 rfl ?_
        exact hK116 _ hf
  · skip
    refine z_iconst C dX2_enter_12 zi_0 rfl ?_
    exact hr _ _ _ _ (Option.some.inj hf) dX2_enter_13

def sX2_tablesWith_4 (N : Nat) (s : Nat) (a1 : Int32) (m : zMem) (K65 : Int32 → Option (Int32)) : (Int32 × Int32 → Option (Int32)) → Int32 × Int32 → Option (Int32) := fun rec (x2, x3) =>
  if 24 ≤ x3 then
  K65 x2
  else
  kld m (s + 3) 24 x3 fun v4 =>
  if v4 = (-1) then
  rec (x2, x3 + 1)
  else
  if v4 = a1 then
  rec (x2, x3 + 1)
  else
  kc1 (fX3_bucketFor v4 a1) fun v5 =>
  kc1 (fX3_bucketPlace x3 v5) fun v6 =>
  kc1 (fX3_indexOf N s v6 a1 m) fun v7 =>
  if v7 = (-1) then
  rec (x2, x3 + 1)
  else
  rec (x2 + 1, x3 + 1)
def fX2_tablesWith (N : Nat) (s : Nat) (a1 : Int32) (m : zMem) : Option (Int32) :=
  kjn (fun (w1 : Int32) =>
  some w1) fun K65 =>
  klp (sX2_tablesWith_4 N s a1 m K65) N (0, 0)
theorem FX2_tablesWith_43 {g : zG} (hC : isC g) : zFl wsX2_tablesWith RX2 (zcl g) 43 1 10 := ⟨RX2, TX2, 14, hC.2.2 ▸ rfl, by decide +kernel, by decide, by decide +kernel⟩
theorem FX2_tablesWith_55 {g : zG} (hC : isC g) : zFl wsX2_tablesWith RX2 (zcl g) 55 1 13 := ⟨RX2, TX2, 14, hC.2.2 ▸ rfl, by decide +kernel, by decide, by decide +kernel⟩
theorem hdX2_tablesWith : yX2_tablesWith.cls = RX2 ∧ yX2_tablesWith.cls ≠ "java/lang/invoke/MethodHandle" ∧ yX2_tablesWith.cls ≠ "java/lang/invoke/VarHandle" ∧ (parseMethodDescriptor yX2_tablesWith.desc).map (fun d => d.parameters.length) = some 1 := by decide +kernel
set_option maxHeartbeats 4000000 in
set_option maxRecDepth 100000 in
theorem qX2_tablesWith {l : Launch} {g : zG} (hC : isC g)  (N : Nat) (s : Nat) (a1 : Int32) (m : zMem) (hs : isS s) (o : Int32) (hf : fX2_tablesWith N s a1 m = some o) : zMI l g yX2_tablesWith wsX2_tablesWith { frames := 2, cells := 0, slots := 0, locals := 43 } [.ref (zad g s), .int a1] m (o, m) := by
  refine z_met_i (cc := cX2_tablesWith) (maxL := 6) (lo0 := [some (.ref (zad g s)), some (.int a1), none, none, none, none]) (by decide +kernel) rfl rfl (Nat.le_of_ble_eq_true rfl) (fun x hx C hr => ?_)
  unfold fX2_tablesWith at hf
  refine z_iconst C dX2_tablesWith_0 zi_0 rfl ?_
  refine z_istore_n (i := 2) (lo' := [some (.ref (zad g s)), some (.int a1), some (.int 0), none, none, none]) C dX2_tablesWith_1 rfl (Nat.le_of_ble_eq_true rfl) rfl rfl rfl ?_
  refine z_iconst C dX2_tablesWith_2 zi_0 rfl ?_
  refine z_istore_n (i := 3) (lo' := [some (.ref (zad g s)), some (.int a1), some (.int 0), some (.int 0), none, none]) C dX2_tablesWith_3 rfl (Nat.le_of_ble_eq_true rfl) rfl rfl rfl ?_
  refine kjn_V (fun K65 => ∀ (w1 : Int32), K65 w1 = some o → zV x g 6 0 0 65 [none, none, some (.int w1), none, none, none] [] m) hf (fun w1 hf => ?_) (fun K65 hK65 hf => ?_)
  · skip
    refine z_iload_n (i := 2) C dX2_tablesWith_65 rfl rfl rfl ?_
    exact hr _ _ _ _ (congrArg (fun z => (z, m)) (Option.some.inj hf)) dX2_tablesWith_66
  · skip
    refine klp_V (fun z => zV x g 6 0 0 4 [some (.ref (zad g s)), some (.int a1), some (.int z.1), some (.int z.2), none, none] [] m) hf (fun rec z ih hf => ?_)
    obtain ⟨x2, x3⟩ := z
    unfold sX2_tablesWith_4 at hf
    try dsimp only at hf
    try dsimp only
    refine z_iload_n (i := 3) C dX2_tablesWith_4 rfl rfl rfl ?_
    refine z_bipush C dX2_tablesWith_5 zb_24 rfl ?_
    refine z_ic_ge (tgt := 65) C dX2_tablesWith_7 (by decide) rfl hf (fun hf => ?_) (fun hf => ?_)
    · skip
      refine z_drop (lo' := [none, some (.int a1), some (.int x2), some (.int x3), none, none]) 0 rfl ?_
      refine z_drop (lo' := [none, none, some (.int x2), some (.int x3), none, none]) 1 rfl ?_
      refine z_drop (lo' := [none, none, some (.int x2), none, none, none]) 3 rfl ?_
      exact hK65 _ hf
    · skip
      refine z_aload_n (i := 0) C dX2_tablesWith_10 rfl rfl rfl ?_
      refine z_gr C (FX2_tablesWith_43 hC) (sn_0 hC hs) (sc_0 hC hs) rfl dX2_tablesWith_11 rfl ?_
      refine z_iload_n (i := 3) C dX2_tablesWith_14 rfl rfl rfl ?_
      refine z_iaload C (sn_3 hC hs) (sc_3 hC hs) dX2_tablesWith_15 rfl hf (fun v4 hf => ?_)
      refine z_istore (lo' := [some (.ref (zad g s)), some (.int a1), some (.int x2), some (.int x3), some (.int v4), none]) C dX2_tablesWith_16 (Nat.le_of_ble_eq_true rfl) rfl rfl rfl ?_
      refine z_iload C dX2_tablesWith_18 rfl rfl ?_
      refine z_iconst C dX2_tablesWith_20 zi_m1 rfl ?_
      refine z_ic_eq (tgt := 59) C dX2_tablesWith_21 (by decide) rfl hf (fun hf => ?_) (fun hf => ?_)
      · skip
        refine z_iinc (v := x3 + 1) (lo' := [some (.ref (zad g s)), some (.int a1), some (.int x2), some (.int (x3 + 1)), some (.int v4), none]) C dX2_tablesWith_59 rfl (zinc zi_1) (Nat.le_of_ble_eq_true rfl) rfl rfl rfl ?_
        refine z_goto (pc' := 4) C dX2_tablesWith_62 (by decide) ?_
        refine z_drop (lo' := [some (.ref (zad g s)), some (.int a1), some (.int x2), some (.int (x3 + 1)), none, none]) 4 rfl ?_
        exact ih (x2, x3 + 1) hf
      · skip
        refine z_iload C dX2_tablesWith_24 rfl rfl ?_
        refine z_iload_n (i := 1) C dX2_tablesWith_26 rfl rfl rfl ?_
        refine z_ic_eq (tgt := 59) C dX2_tablesWith_27 (by decide) rfl hf (fun hf => ?_) (fun hf => ?_)
        · skip
          refine z_iinc (v := x3 + 1) (lo' := [some (.ref (zad g s)), some (.int a1), some (.int x2), some (.int (x3 + 1)), some (.int v4), none]) C dX2_tablesWith_59 rfl (zinc zi_1) (Nat.le_of_ble_eq_true rfl) rfl rfl rfl ?_
          refine z_goto (pc' := 4) C dX2_tablesWith_62 (by decide) ?_
          refine z_drop (lo' := [some (.ref (zad g s)), some (.int a1), some (.int x2), some (.int (x3 + 1)), none, none]) 4 rfl ?_
          exact ih (x2, x3 + 1) hf
        · skip
          refine z_iload_n (i := 3) C dX2_tablesWith_30 rfl rfl rfl ?_
          refine z_iload C dX2_tablesWith_31 rfl rfl ?_
          refine z_iload_n (i := 1) C dX2_tablesWith_33 rfl rfl rfl ?_
          refine z_csiR (As := [.int v4, .int a1]) (st := [.int x3]) (m := m) C gX2_tablesWith_X3_bucketFor hdX3_bucketFor rfl (fun z h => qX3_bucketFor v4 a1 m z h) rfl (Nat.le_of_ble_eq_true rfl) ⟨Nat.le_of_ble_eq_true rfl, Nat.le_of_ble_eq_true rfl⟩ ⟨Nat.le_refl _, Nat.le_refl _⟩ dX2_tablesWith_34 rfl rfl hf (fun v5 hf => ?_)
          refine z_csiR (As := [.int x3, .int v5]) (st := []) (m := m) C gX2_tablesWith_X3_bucketPlace hdX3_bucketPlace rfl (fun z h => qX3_bucketPlace x3 v5 m z h) rfl (Nat.le_of_ble_eq_true rfl) ⟨Nat.le_of_ble_eq_true rfl, Nat.le_of_ble_eq_true rfl⟩ ⟨Nat.le_refl _, Nat.le_refl _⟩ dX2_tablesWith_37 rfl rfl hf (fun v6 hf => ?_)
          refine z_istore (lo' := [some (.ref (zad g s)), some (.int a1), some (.int x2), some (.int x3), some (.int v4), some (.int v6)]) C dX2_tablesWith_40 (Nat.le_of_ble_eq_true rfl) rfl rfl rfl ?_
          refine z_aload_n (i := 0) C dX2_tablesWith_42 rfl rfl rfl ?_
          refine z_gr C (FX2_tablesWith_55 hC) (sn_0 hC hs) (sc_0 hC hs) rfl dX2_tablesWith_43 rfl ?_
          refine z_iload C dX2_tablesWith_46 rfl rfl ?_
          refine z_iload_n (i := 1) C dX2_tablesWith_48 rfl rfl rfl ?_
          refine z_cviR (As := [.int v6, .int a1]) (st := []) (m := m) C (cl_2 hC) (sn_6 hC hs) (sc_6 hC hs) gX2_tablesWith_X3_indexOf hdX3_indexOf rfl (fun z h => qX3_indexOf hC N s v6 a1 m hs z h) rfl (Nat.le_of_ble_eq_true rfl) ⟨Nat.le_of_ble_eq_true rfl, Nat.le_of_ble_eq_true rfl⟩ ⟨Nat.le_refl _, Nat.le_refl _⟩ dX2_tablesWith_49 rfl rfl hf (fun v7 hf => ?_)
          refine z_iconst C dX2_tablesWith_52 zi_m1 rfl ?_
          refine z_ic_eq (tgt := 59) C dX2_tablesWith_53 (by decide) rfl hf (fun hf => ?_) (fun hf => ?_)
          · skip
            refine z_iinc (v := x3 + 1) (lo' := [some (.ref (zad g s)), some (.int a1), some (.int x2), some (.int (x3 + 1)), some (.int v4), some (.int v6)]) C dX2_tablesWith_59 rfl (zinc zi_1) (Nat.le_of_ble_eq_true rfl) rfl rfl rfl ?_
            refine z_goto (pc' := 4) C dX2_tablesWith_62 (by decide) ?_
            refine z_drop (lo' := [some (.ref (zad g s)), some (.int a1), some (.int x2), some (.int (x3 + 1)), none, some (.int v6)]) 4 rfl ?_
            refine z_drop (lo' := [some (.ref (zad g s)), some (.int a1), some (.int x2), some (.int (x3 + 1)), none, none]) 5 rfl ?_
            exact ih (x2, x3 + 1) hf
          · skip
            refine z_iinc (v := x2 + 1) (lo' := [some (.ref (zad g s)), some (.int a1), some (.int (x2 + 1)), some (.int x3), some (.int v4), some (.int v6)]) C dX2_tablesWith_56 rfl (zinc zi_1) (Nat.le_of_ble_eq_true rfl) rfl rfl rfl ?_
            refine z_iinc (v := x3 + 1) (lo' := [some (.ref (zad g s)), some (.int a1), some (.int (x2 + 1)), some (.int (x3 + 1)), some (.int v4), some (.int v6)]) C dX2_tablesWith_59 rfl (zinc zi_1) (Nat.le_of_ble_eq_true rfl) rfl rfl rfl ?_
            refine z_goto (pc' := 4) C dX2_tablesWith_62 (by decide) ?_
            refine z_drop (lo' := [some (.ref (zad g s)), some (.int a1), some (.int (x2 + 1)), some (.int (x3 + 1)), none, some (.int v6)]) 4 rfl ?_
            refine z_drop (lo' := [some (.ref (zad g s)), some (.int a1), some (.int (x2 + 1)), some (.int (x3 + 1)), none, none]) 5 rfl ?_
            exact ih (x2 + 1, x3 + 1) hf

def sX2_largestOrigin_15 (s : Nat) (m : zMem) (x3 : Int32) (K53 : Int32 → Option (Int32)) : (Int32 × Int32 → Option (Int32)) → Int32 × Int32 → Option (Int32) := fun rec (x6, x7) =>
  if 24 ≤ x7 then
  K53 x6
  else
  kld m (s + 3) 24 x7 fun v8 =>
  if v8 = (-1) then
  rec (x6, x7 + 1)
  else
  kld m (s + 4) 24 x7 fun v9 =>
  if v9 = x3 then
  rec (x6 + 1, x7 + 1)
  else
  rec (x6, x7 + 1)
def sX2_largestOrigin_4 (N : Nat) (s : Nat) (m : zMem) (K65 : Int32 → Option (Int32)) : (Int32 × Int32 → Option (Int32)) → Int32 × Int32 → Option (Int32) := fun rec (x2, x3) =>
  if 7 < x3 then
  K65 x2
  else
  kjn (fun (w4 : Int32) =>
  kmax x2 w4 fun v5 =>
  rec (v5, x3 + 1)) fun K53 =>
  klp (sX2_largestOrigin_15 s m x3 K53) N (0, 0)
def fX2_largestOrigin (N : Nat) (s : Nat) (m : zMem) : Option (Int32) :=
  kjn (fun (w1 : Int32) =>
  some w1) fun K65 =>
  klp (sX2_largestOrigin_4 N s m K65) N (0, 0)
theorem FX2_largestOrigin_43 {g : zG} (hC : isC g) : zFl wsX2_largestOrigin RX2 (zcl g) 43 1 10 := ⟨RX2, TX2, 14, hC.2.2 ▸ rfl, by decide +kernel, by decide, by decide +kernel⟩
theorem FX2_largestOrigin_46 {g : zG} (hC : isC g) : zFl wsX2_largestOrigin RX2 (zcl g) 46 1 11 := ⟨RX2, TX2, 14, hC.2.2 ▸ rfl, by decide +kernel, by decide, by decide +kernel⟩
theorem hdX2_largestOrigin : yX2_largestOrigin.cls = RX2 ∧ yX2_largestOrigin.cls ≠ "java/lang/invoke/MethodHandle" ∧ yX2_largestOrigin.cls ≠ "java/lang/invoke/VarHandle" ∧ (parseMethodDescriptor yX2_largestOrigin.desc).map (fun d => d.parameters.length) = some 0 := by decide +kernel
set_option maxHeartbeats 4000000 in
set_option maxRecDepth 100000 in
theorem qX2_largestOrigin {l : Launch} {g : zG} (hC : isC g)  (N : Nat) (s : Nat) (m : zMem) (hs : isS s) (o : Int32) (hf : fX2_largestOrigin N s m = some o) : zMI l g yX2_largestOrigin wsX2_largestOrigin { frames := 1, cells := 0, slots := 0, locals := 21 } [.ref (zad g s)] m (o, m) := by
  refine z_met_i (cc := cX2_largestOrigin) (maxL := 5) (lo0 := [some (.ref (zad g s)), none, none, none, none]) (by decide +kernel) rfl rfl (Nat.le_of_ble_eq_true rfl) (fun x hx C hr => ?_)
  unfold fX2_largestOrigin at hf
  refine z_iconst C dX2_largestOrigin_0 zi_0 rfl ?_
  refine z_istore_n (i := 1) (lo' := [some (.ref (zad g s)), some (.int 0), none, none, none]) C dX2_largestOrigin_1 rfl (Nat.le_of_ble_eq_true rfl) rfl rfl rfl ?_
  refine z_iconst C dX2_largestOrigin_2 zi_0 rfl ?_
  refine z_istore_n (i := 2) (lo' := [some (.ref (zad g s)), some (.int 0), some (.int 0), none, none]) C dX2_largestOrigin_3 rfl (Nat.le_of_ble_eq_true rfl) rfl rfl rfl ?_
  refine kjn_V (fun K65 => ∀ (w1 : Int32), K65 w1 = some o → zV x g 5 0 0 65 [none, some (.int w1), none, none, none] [] m) hf (fun w1 hf => ?_) (fun K65 hK65 hf => ?_)
  · skip
    refine z_iload_n (i := 1) C dX2_largestOrigin_65 rfl rfl rfl ?_
    exact hr _ _ _ _ (congrArg (fun z => (z, m)) (Option.some.inj hf)) dX2_largestOrigin_66
  · skip
    refine klp_V (fun z => zV x g 5 0 0 4 [some (.ref (zad g s)), some (.int z.1), some (.int z.2), none, none] [] m) hf (fun rec z ih hf => ?_)
    obtain ⟨x2, x3⟩ := z
    unfold sX2_largestOrigin_4 at hf
    try dsimp only at hf
    try dsimp only
    refine z_iload_n (i := 2) C dX2_largestOrigin_4 rfl rfl rfl ?_
    refine z_bipush C dX2_largestOrigin_5 zb_7 rfl ?_
    refine z_ic_gt (tgt := 65) C dX2_largestOrigin_7 (by decide) rfl hf (fun hf => ?_) (fun hf => ?_)
    · skip
      refine z_drop (lo' := [none, some (.int x2), some (.int x3), none, none]) 0 rfl ?_
      refine z_drop (lo' := [none, some (.int x2), none, none, none]) 2 rfl ?_
      exact hK65 _ hf
    · skip
      refine z_iconst C dX2_largestOrigin_10 zi_0 rfl ?_
      refine z_istore_n (i := 3) (lo' := [some (.ref (zad g s)), some (.int x2), some (.int x3), some (.int 0), none]) C dX2_largestOrigin_11 rfl (Nat.le_of_ble_eq_true rfl) rfl rfl rfl ?_
      refine z_iconst C dX2_largestOrigin_12 zi_0 rfl ?_
      refine z_istore (lo' := [some (.ref (zad g s)), some (.int x2), some (.int x3), some (.int 0), some (.int 0)]) C dX2_largestOrigin_13 (Nat.le_of_ble_eq_true rfl) rfl rfl rfl ?_
      refine kjn_V (fun K53 => ∀ (w4 : Int32), K53 w4 = some o → zV x g 5 0 0 53 [some (.ref (zad g s)), some (.int x2), some (.int x3), some (.int w4), none] [] m) hf (fun w4 hf => ?_) (fun K53 hK53 hf => ?_)
      · skip
        refine z_iload_n (i := 1) C dX2_largestOrigin_53 rfl rfl rfl ?_
        refine z_iload_n (i := 3) C dX2_largestOrigin_54 rfl rfl rfl ?_
        refine z_mmax (idx := 193) C (by decide +kernel) (by decide +kernel) (by decide +kernel) (by decide +kernel) ⟨Nat.le_of_ble_eq_true rfl, Nat.le_of_ble_eq_true rfl⟩ ⟨Nat.le_refl _, Nat.le_refl _⟩ dX2_largestOrigin_55 rfl hf (fun v5 hf => ?_)
        refine z_istore_n (i := 1) (lo' := [some (.ref (zad g s)), some (.int v5), some (.int x3), some (.int w4), none]) C dX2_largestOrigin_58 rfl (Nat.le_of_ble_eq_true rfl) rfl rfl rfl ?_
        refine z_iinc (v := x3 + 1) (lo' := [some (.ref (zad g s)), some (.int v5), some (.int (x3 + 1)), some (.int w4), none]) C dX2_largestOrigin_59 rfl (zinc zi_1) (Nat.le_of_ble_eq_true rfl) rfl rfl rfl ?_
        refine z_goto (pc' := 4) C dX2_largestOrigin_62 (by decide) ?_
        refine z_drop (lo' := [some (.ref (zad g s)), some (.int v5), some (.int (x3 + 1)), none, none]) 3 rfl ?_
        exact ih (v5, x3 + 1) hf
      · skip
        refine klp_V (fun z => zV x g 5 0 0 15 [some (.ref (zad g s)), some (.int x2), some (.int x3), some (.int z.1), some (.int z.2)] [] m) hf (fun rec z ih hf => ?_)
        obtain ⟨x6, x7⟩ := z
        unfold sX2_largestOrigin_15 at hf
        try dsimp only at hf
        try dsimp only
        refine z_iload C dX2_largestOrigin_15 rfl rfl ?_
        refine z_bipush C dX2_largestOrigin_17 zb_24 rfl ?_
        refine z_ic_ge (tgt := 53) C dX2_largestOrigin_19 (by decide) rfl hf (fun hf => ?_) (fun hf => ?_)
        · skip
          refine z_drop (lo' := [some (.ref (zad g s)), some (.int x2), some (.int x3), some (.int x6), none]) 4 rfl ?_
          exact hK53 _ hf
        · skip
          refine z_aload_n (i := 0) C dX2_largestOrigin_22 rfl rfl rfl ?_
          refine z_gr C (FX2_largestOrigin_43 hC) (sn_0 hC hs) (sc_0 hC hs) rfl dX2_largestOrigin_23 rfl ?_
          refine z_iload C dX2_largestOrigin_26 rfl rfl ?_
          refine z_iaload C (sn_3 hC hs) (sc_3 hC hs) dX2_largestOrigin_28 rfl hf (fun v8 hf => ?_)
          refine z_iconst C dX2_largestOrigin_29 zi_m1 rfl ?_
          refine z_ic_eq (tgt := 47) C dX2_largestOrigin_30 (by decide) rfl hf (fun hf => ?_) (fun hf => ?_)
          · skip
            refine z_iinc (v := x7 + 1) (lo' := [some (.ref (zad g s)), some (.int x2), some (.int x3), some (.int x6), some (.int (x7 + 1))]) C dX2_largestOrigin_47 rfl (zinc zi_1) (Nat.le_of_ble_eq_true rfl) rfl rfl rfl ?_
            refine z_goto (pc' := 15) C dX2_largestOrigin_50 (by decide) ?_
            exact ih (x6, x7 + 1) hf
          · skip
            refine z_aload_n (i := 0) C dX2_largestOrigin_33 rfl rfl rfl ?_
            refine z_gr C (FX2_largestOrigin_46 hC) (sn_0 hC hs) (sc_0 hC hs) rfl dX2_largestOrigin_34 rfl ?_
            refine z_iload C dX2_largestOrigin_37 rfl rfl ?_
            refine z_iaload C (sn_4 hC hs) (sc_4 hC hs) dX2_largestOrigin_39 rfl hf (fun v9 hf => ?_)
            refine z_iload_n (i := 2) C dX2_largestOrigin_40 rfl rfl rfl ?_
            refine z_ic_ne (tgt := 47) C dX2_largestOrigin_41 (by decide) rfl hf (fun hf => ?_) (fun hf => ?_)
            · skip
              refine z_iinc (v := x7 + 1) (lo' := [some (.ref (zad g s)), some (.int x2), some (.int x3), some (.int x6), some (.int (x7 + 1))]) C dX2_largestOrigin_47 rfl (zinc zi_1) (Nat.le_of_ble_eq_true rfl) rfl rfl rfl ?_
              refine z_goto (pc' := 15) C dX2_largestOrigin_50 (by decide) ?_
              exact ih (x6, x7 + 1) hf
            · skip
              refine z_iinc (v := x6 + 1) (lo' := [some (.ref (zad g s)), some (.int x2), some (.int x3), some (.int (x6 + 1)), some (.int x7)]) C dX2_largestOrigin_44 rfl (zinc zi_1) (Nat.le_of_ble_eq_true rfl) rfl rfl rfl ?_
              refine z_iinc (v := x7 + 1) (lo' := [some (.ref (zad g s)), some (.int x2), some (.int x3), some (.int (x6 + 1)), some (.int (x7 + 1))]) C dX2_largestOrigin_47 rfl (zinc zi_1) (Nat.le_of_ble_eq_true rfl) rfl rfl rfl ?_
              refine z_goto (pc' := 15) C dX2_largestOrigin_50 (by decide) ?_
              exact ih (x6 + 1, x7 + 1) hf

def sX3_hashOf_47 (s : Nat) (m : zMem) (v4 : Int32) (v5 : Int32) (K105 : Int64 → Option (Int64)) : (Int64 × Int32 → Option (Int64)) → Int64 × Int32 → Option (Int64) := fun rec (x9, x10) =>
  kld m (s + 7) 192 v4 fun v11 =>
  if v11 ≤ x10 then
  K105 x9
  else
  kld m (s + 8) 768 (v5 + x10) fun v12 =>
  klt ((31 * x9) + v12.toInt64 : Int64) fun v13 =>
  kld m (s + 9) 768 (v5 + x10) fun v14 =>
  klt ((31 * v13) + v14.toInt64 : Int64) fun v15 =>
  rec (v15, x10 + 1)
def sX3_hashOf_6 (N : Nat) (s : Nat) (a1 : Int32) (m : zMem) (K111 : Int64 → Option (Int64)) : (Int64 × Int32 → Option (Int64)) → Int64 × Int32 → Option (Int64) := fun rec (x2, x3) =>
  if 8 ≤ x3 then
  K111 x2
  else
  kc1 (fX3_bucketPlace a1 x3) fun v4 =>
  klt (v4 * 4 : Int32) fun v5 =>
  kld m (s + 7) 192 v4 fun v6 =>
  klt ((31 * x2) + v6.toInt64 : Int64) fun v7 =>
  kjn (fun (w8 : Int64) =>
  rec (w8, x3 + 1)) fun K105 =>
  klp (sX3_hashOf_47 s m v4 v5 K105) N (v7, 0)
def fX3_hashOf (N : Nat) (s : Nat) (a1 : Int32) (a2 : Int64) (m : zMem) : Option (Int64) :=
  kjn (fun (w1 : Int64) =>
  some w1) fun K111 =>
  klp (sX3_hashOf_6 N s a1 m K111) N (a2, 0)
theorem FX3_hashOf_11 {g : zG} (hC : isC g) : zFl wsX3_hashOf RX3 (zcl g) 11 2 0 := ⟨RX3, TX3, 3, hC.2.2 ▸ rfl, by decide +kernel, by decide, by decide +kernel⟩
theorem FX3_hashOf_15 {g : zG} (hC : isC g) : zFl wsX3_hashOf RX3 (zcl g) 15 2 1 := ⟨RX3, TX3, 3, hC.2.2 ▸ rfl, by decide +kernel, by decide, by decide +kernel⟩
theorem FX3_hashOf_18 {g : zG} (hC : isC g) : zFl wsX3_hashOf RX3 (zcl g) 18 2 2 := ⟨RX3, TX3, 3, hC.2.2 ▸ rfl, by decide +kernel, by decide, by decide +kernel⟩
theorem hdX3_hashOf : yX3_hashOf.cls = RX3 ∧ yX3_hashOf.cls ≠ "java/lang/invoke/MethodHandle" ∧ yX3_hashOf.cls ≠ "java/lang/invoke/VarHandle" ∧ (parseMethodDescriptor yX3_hashOf.desc).map (fun d => d.parameters.length) = some 2 := by decide +kernel
set_option maxHeartbeats 4000000 in
set_option maxRecDepth 100000 in
theorem qX3_hashOf {l : Launch} {g : zG} (hC : isC g)  (N : Nat) (s : Nat) (a1 : Int32) (a2 : Int64) (m : zMem) (hs : isS s) (o : Int64) (hf : fX3_hashOf N s a1 a2 m = some o) : zML l g yX3_hashOf wsX3_hashOf { frames := 1, cells := 0, slots := 0, locals := 21 } [.ref (zad g (s + 6)), .int a1, .long a2] m (o, m) := by
  refine z_met_l (cc := cX3_hashOf) (maxL := 10) (lo0 := [some (.ref (zad g (s + 6))), some (.int a1), some (.long a2), none, none, none, none, none, none, none]) (by decide +kernel) rfl rfl (Nat.le_of_ble_eq_true rfl) (fun x hx C hr => ?_)
  unfold fX3_hashOf at hf
  refine z_lload_n (i := 2) C dX3_hashOf_0 rfl rfl rfl ?_
  refine z_lstore (lo' := [some (.ref (zad g (s + 6))), some (.int a1), some (.long a2), none, some (.long a2), none, none, none, none, none]) C dX3_hashOf_1 (Nat.le_of_ble_eq_true rfl) rfl rfl rfl ?_
  refine z_iconst C dX3_hashOf_3 zi_0 rfl ?_
  refine z_istore (lo' := [some (.ref (zad g (s + 6))), some (.int a1), some (.long a2), none, some (.long a2), none, some (.int 0), none, none, none]) C dX3_hashOf_4 (Nat.le_of_ble_eq_true rfl) rfl rfl rfl ?_
  refine z_drop (lo' := [some (.ref (zad g (s + 6))), some (.int a1), none, none, some (.long a2), none, some (.int 0), none, none, none]) 2 rfl ?_
  refine kjn_V (fun K111 => ∀ (w1 : Int64), K111 w1 = some o → zV x g 10 0 0 111 [none, none, none, none, some (.long w1), none, none, none, none, none] [] m) hf (fun w1 hf => ?_) (fun K111 hK111 hf => ?_)
  · skip
    refine z_lload C dX3_hashOf_111 rfl rfl ?_
    exact hr _ _ _ _ (congrArg (fun z => (z, m)) (Option.some.inj hf)) dX3_hashOf_113
  · skip
    refine klp_V (fun z => zV x g 10 0 0 6 [some (.ref (zad g (s + 6))), some (.int a1), none, none, some (.long z.1), none, some (.int z.2), none, none, none] [] m) hf (fun rec z ih hf => ?_)
    obtain ⟨x2, x3⟩ := z
    unfold sX3_hashOf_6 at hf
    try dsimp only at hf
    try dsimp only
    refine z_iload C dX3_hashOf_6 rfl rfl ?_
    refine z_bipush C dX3_hashOf_8 zb_8 rfl ?_
    refine z_ic_ge (tgt := 111) C dX3_hashOf_10 (by decide) rfl hf (fun hf => ?_) (fun hf => ?_)
    · skip
      refine z_drop (lo' := [none, some (.int a1), none, none, some (.long x2), none, some (.int x3), none, none, none]) 0 rfl ?_
      refine z_drop (lo' := [none, none, none, none, some (.long x2), none, some (.int x3), none, none, none]) 1 rfl ?_
      refine z_drop (lo' := [none, none, none, none, some (.long x2), none, none, none, none, none]) 6 rfl ?_
      exact hK111 _ hf
    · skip
      refine z_iload_n (i := 1) C dX3_hashOf_13 rfl rfl rfl ?_
      refine z_iload C dX3_hashOf_14 rfl rfl ?_
      refine z_csiR (As := [.int a1, .int x3]) (st := []) (m := m) C gX3_hashOf_X3_bucketPlace hdX3_bucketPlace rfl (fun z h => qX3_bucketPlace a1 x3 m z h) rfl (Nat.le_of_ble_eq_true rfl) ⟨Nat.le_of_ble_eq_true rfl, Nat.le_of_ble_eq_true rfl⟩ ⟨Nat.le_refl _, Nat.le_refl _⟩ dX3_hashOf_16 rfl rfl hf (fun v4 hf => ?_)
      refine z_istore (lo' := [some (.ref (zad g (s + 6))), some (.int a1), none, none, some (.long x2), none, some (.int x3), some (.int v4), none, none]) C dX3_hashOf_19 (Nat.le_of_ble_eq_true rfl) rfl rfl rfl ?_
      refine z_iload C dX3_hashOf_21 rfl rfl ?_
      refine z_iconst C dX3_hashOf_23 zi_4 rfl ?_
      refine z_imul C dX3_hashOf_24 rfl ?_
      refine z_top _ hf (fun v5 hf => ?_)
      refine z_istore (lo' := [some (.ref (zad g (s + 6))), some (.int a1), none, none, some (.long x2), none, some (.int x3), some (.int v4), some (.int v5), none]) C dX3_hashOf_25 (Nat.le_of_ble_eq_true rfl) rfl rfl rfl ?_
      refine z_ldc2 (v := 31) C (by decide +kernel) dX3_hashOf_27 rfl ?_
      refine z_lload C dX3_hashOf_30 rfl rfl ?_
      refine z_lmul C dX3_hashOf_32 rfl ?_
      refine z_aload_n (i := 0) C dX3_hashOf_33 rfl rfl rfl ?_
      refine z_gr C (FX3_hashOf_11 hC) (sn_6 hC hs) (sc_6 hC hs) rfl dX3_hashOf_34 rfl ?_
      refine z_iload C dX3_hashOf_37 rfl rfl ?_
      refine z_iaload C (sn_7 hC hs) (sc_7 hC hs) dX3_hashOf_39 rfl hf (fun v6 hf => ?_)
      refine z_i2l C dX3_hashOf_40 rfl ?_
      refine z_ladd C dX3_hashOf_41 rfl ?_
      refine z_topl _ hf (fun v7 hf => ?_)
      refine z_lstore (lo' := [some (.ref (zad g (s + 6))), some (.int a1), none, none, some (.long v7), none, some (.int x3), some (.int v4), some (.int v5), none]) C dX3_hashOf_42 (Nat.le_of_ble_eq_true rfl) rfl rfl rfl ?_
      refine z_iconst C dX3_hashOf_44 zi_0 rfl ?_
      refine z_istore (lo' := [some (.ref (zad g (s + 6))), some (.int a1), none, none, some (.long v7), none, some (.int x3), some (.int v4), some (.int v5), some (.int 0)]) C dX3_hashOf_45 (Nat.le_of_ble_eq_true rfl) rfl rfl rfl ?_
      refine kjn_V (fun K105 => ∀ (w8 : Int64), K105 w8 = some o → zV x g 10 0 0 105 [some (.ref (zad g (s + 6))), some (.int a1), none, none, some (.long w8), none, some (.int x3), none, none, none] [] m) hf (fun w8 hf => ?_) (fun K105 hK105 hf => ?_)
      · skip
        refine z_iinc (v := x3 + 1) (lo' := [some (.ref (zad g (s + 6))), some (.int a1), none, none, some (.long w8), none, some (.int (x3 + 1)), none, none, none]) C dX3_hashOf_105 rfl (zinc zi_1) (Nat.le_of_ble_eq_true rfl) rfl rfl rfl ?_
        refine z_goto (pc' := 6) C dX3_hashOf_108 (by decide) ?_
        exact ih (w8, x3 + 1) hf
      · skip
        refine klp_V (fun z => zV x g 10 0 0 47 [some (.ref (zad g (s + 6))), some (.int a1), none, none, some (.long z.1), none, some (.int x3), some (.int v4), some (.int v5), some (.int z.2)] [] m) hf (fun rec z ih hf => ?_)
        obtain ⟨x9, x10⟩ := z
        unfold sX3_hashOf_47 at hf
        try dsimp only at hf
        try dsimp only
        refine z_iload C dX3_hashOf_47 rfl rfl ?_
        refine z_aload_n (i := 0) C dX3_hashOf_49 rfl rfl rfl ?_
        refine z_gr C (FX3_hashOf_11 hC) (sn_6 hC hs) (sc_6 hC hs) rfl dX3_hashOf_50 rfl ?_
        refine z_iload C dX3_hashOf_53 rfl rfl ?_
        refine z_iaload C (sn_7 hC hs) (sc_7 hC hs) dX3_hashOf_55 rfl hf (fun v11 hf => ?_)
        refine z_ic_ge (tgt := 105) C dX3_hashOf_56 (by decide) rfl hf (fun hf => ?_) (fun hf => ?_)
        · skip
          refine z_drop (lo' := [some (.ref (zad g (s + 6))), some (.int a1), none, none, some (.long x9), none, some (.int x3), none, some (.int v5), some (.int x10)]) 7 rfl ?_
          refine z_drop (lo' := [some (.ref (zad g (s + 6))), some (.int a1), none, none, some (.long x9), none, some (.int x3), none, none, some (.int x10)]) 8 rfl ?_
          refine z_drop (lo' := [some (.ref (zad g (s + 6))), some (.int a1), none, none, some (.long x9), none, some (.int x3), none, none, none]) 9 rfl ?_
          exact hK105 _ hf
        · skip
          refine z_ldc2 (v := 31) C (by decide +kernel) dX3_hashOf_59 rfl ?_
          refine z_lload C dX3_hashOf_62 rfl rfl ?_
          refine z_lmul C dX3_hashOf_64 rfl ?_
          refine z_aload_n (i := 0) C dX3_hashOf_65 rfl rfl rfl ?_
          refine z_gr C (FX3_hashOf_15 hC) (sn_6 hC hs) (sc_6 hC hs) rfl dX3_hashOf_66 rfl ?_
          refine z_iload C dX3_hashOf_69 rfl rfl ?_
          refine z_iload C dX3_hashOf_71 rfl rfl ?_
          refine z_iadd C dX3_hashOf_73 rfl ?_
          refine z_iaload C (sn_8 hC hs) (sc_8 hC hs) dX3_hashOf_74 rfl hf (fun v12 hf => ?_)
          refine z_i2l C dX3_hashOf_75 rfl ?_
          refine z_ladd C dX3_hashOf_76 rfl ?_
          refine z_topl _ hf (fun v13 hf => ?_)
          refine z_lstore (lo' := [some (.ref (zad g (s + 6))), some (.int a1), none, none, some (.long v13), none, some (.int x3), some (.int v4), some (.int v5), some (.int x10)]) C dX3_hashOf_77 (Nat.le_of_ble_eq_true rfl) rfl rfl rfl ?_
          refine z_ldc2 (v := 31) C (by decide +kernel) dX3_hashOf_79 rfl ?_
          refine z_lload C dX3_hashOf_82 rfl rfl ?_
          refine z_lmul C dX3_hashOf_84 rfl ?_
          refine z_aload_n (i := 0) C dX3_hashOf_85 rfl rfl rfl ?_
          refine z_gr C (FX3_hashOf_18 hC) (sn_6 hC hs) (sc_6 hC hs) rfl dX3_hashOf_86 rfl ?_
          refine z_iload C dX3_hashOf_89 rfl rfl ?_
          refine z_iload C dX3_hashOf_91 rfl rfl ?_
          refine z_iadd C dX3_hashOf_93 rfl ?_
          refine z_iaload C (sn_9 hC hs) (sc_9 hC hs) dX3_hashOf_94 rfl hf (fun v14 hf => ?_)
          refine z_i2l C dX3_hashOf_95 rfl ?_
          refine z_ladd C dX3_hashOf_96 rfl ?_
          refine z_topl _ hf (fun v15 hf => ?_)
          refine z_lstore (lo' := [some (.ref (zad g (s + 6))), some (.int a1), none, none, some (.long v15), none, some (.int x3), some (.int v4), some (.int v5), some (.int x10)]) C dX3_hashOf_97 (Nat.le_of_ble_eq_true rfl) rfl rfl rfl ?_
          refine z_iinc (v := x10 + 1) (lo' := [some (.ref (zad g (s + 6))), some (.int a1), none, none, some (.long v15), none, some (.int x3), some (.int v4), some (.int v5), some (.int (x10 + 1))]) C dX3_hashOf_99 rfl (zinc zi_1) (Nat.le_of_ble_eq_true rfl) rfl rfl rfl ?_
          refine z_goto (pc' := 47) C dX3_hashOf_102 (by decide) ?_
          exact ih (v15, x10 + 1) hf

def fX5_isOutside (a1 : Int32) (a2 : Int32) (a3 : Int32) : Option (Int32) :=
  if a1 < a2 then
  some 1
  else
  if a1 ≤ a3 then
  some 0
  else
  some 1
theorem hdX5_isOutside : yX5_isOutside.cls ≠ "java/lang/invoke/MethodHandle" ∧ yX5_isOutside.cls ≠ "java/lang/invoke/VarHandle" ∧ (parseMethodDescriptor yX5_isOutside.desc).map (fun d => d.parameters.length) = some 3 := by decide +kernel
set_option maxHeartbeats 4000000 in
set_option maxRecDepth 100000 in
theorem qX5_isOutside {l : Launch} {g : zG}  (a1 : Int32) (a2 : Int32) (a3 : Int32) (m : zMem)  (o : Int32) (hf : fX5_isOutside a1 a2 a3 = some o) : zMI l g yX5_isOutside wsX5_isOutside { frames := 0, cells := 0, slots := 0, locals := 0 } [.int a1, .int a2, .int a3] m (o, m) := by
  refine z_met_z (cc := cX5_isOutside) (maxL := 3) (lo0 := [some (.int a1), some (.int a2), some (.int a3)]) (by decide +kernel) rfl rfl (Nat.le_of_ble_eq_true rfl) (fun x hx C hr => ?_)
  unfold fX5_isOutside at hf
  refine z_iload_n (i := 0) C dX5_isOutside_0 rfl rfl rfl ?_
  refine z_iload_n (i := 1) C dX5_isOutside_1 rfl rfl rfl ?_
  refine z_ic_lt (tgt := 10) C dX5_isOutside_2 (by decide) rfl hf (fun hf => ?_) (fun hf => ?_)
  · skip
    refine z_iconst C dX5_isOutside_10 zi_1 rfl ?_
    refine z_goto (pc' := 15) C dX5_isOutside_11 (by decide) ?_
    exact hr _ _ _ _ (Or.inr rfl) (congrArg (fun z => (z, m)) (Option.some.inj hf)) dX5_isOutside_15
  · skip
    refine z_iload_n (i := 0) C dX5_isOutside_5 rfl rfl rfl ?_
    refine z_iload_n (i := 2) C dX5_isOutside_6 rfl rfl rfl ?_
    refine z_ic_le (tgt := 14) C dX5_isOutside_7 (by decide) rfl hf (fun hf => ?_) (fun hf => ?_)
    · skip
      refine z_iconst C dX5_isOutside_14 zi_0 rfl ?_
      exact hr _ _ _ _ (Or.inl rfl) (congrArg (fun z => (z, m)) (Option.some.inj hf)) dX5_isOutside_15
    · skip
      refine z_iconst C dX5_isOutside_10 zi_1 rfl ?_
      refine z_goto (pc' := 15) C dX5_isOutside_11 (by decide) ?_
      exact hr _ _ _ _ (Or.inr rfl) (congrArg (fun z => (z, m)) (Option.some.inj hf)) dX5_isOutside_15

def fX5_refuseOutside (a1 : Int32) (a2 : Int32) (a3 : Int32) : Option (Unit) :=
  kc1 (fX5_isOutside a1 a2 a3) fun v1 =>
  if v1 = 0 then
  some ()
  else
  none
theorem hdX5_refuseOutside : yX5_refuseOutside.cls ≠ "java/lang/invoke/MethodHandle" ∧ yX5_refuseOutside.cls ≠ "java/lang/invoke/VarHandle" ∧ (parseMethodDescriptor yX5_refuseOutside.desc).map (fun d => d.parameters.length) = some 3 := by decide +kernel
set_option maxHeartbeats 4000000 in
set_option maxRecDepth 100000 in
theorem qX5_refuseOutside {l : Launch} {g : zG}  (a1 : Int32) (a2 : Int32) (a3 : Int32) (m : zMem)  (o : Unit) (hf : fX5_refuseOutside a1 a2 a3 = some o) : zMV l g yX5_refuseOutside wsX5_refuseOutside { frames := 1, cells := 0, slots := 0, locals := 22 } [.int a1, .int a2, .int a3] m m := by
  refine z_met_v (cc := cX5_refuseOutside) (maxL := 3) (lo0 := [some (.int a1), some (.int a2), some (.int a3)]) (by decide +kernel) rfl rfl (Nat.le_of_ble_eq_true rfl) (fun x hx C hr => ?_)
  unfold fX5_refuseOutside at hf
  refine z_iload_n (i := 0) C dX5_refuseOutside_0 rfl rfl rfl ?_
  refine z_iload_n (i := 1) C dX5_refuseOutside_1 rfl rfl rfl ?_
  refine z_iload_n (i := 2) C dX5_refuseOutside_2 rfl rfl rfl ?_
  refine z_csiR (As := [.int a1, .int a2, .int a3]) (st := []) (m := m) C gX5_refuseOutside_X5_isOutside hdX5_isOutside rfl (fun z h => qX5_isOutside a1 a2 a3 m z h) rfl (Nat.le_of_ble_eq_true rfl) ⟨Nat.le_of_ble_eq_true rfl, Nat.le_of_ble_eq_true rfl⟩ ⟨Nat.le_refl _, Nat.le_refl _⟩ dX5_refuseOutside_3 rfl rfl hf (fun v1 hf => ?_)
  refine z_if_eq (tgt := 20) C dX5_refuseOutside_6 (by decide) rfl hf (fun hf => ?_) (fun hf => ?_)
  · skip
    exact hr _ _ _ rfl dX5_refuseOutside_20
  · skip
    cases hf

def fX5_save (m : zMem) : Option (zMem) :=
  kgr m 3 fun s1 => kis s1 <|
  kgr m 2 fun s2 => kis s2 <|
  kpr m 3 s2 fun m3 =>
  kgr m3 1 fun s4 => kis s4 <|
  kpr m3 2 s4 fun m5 =>
  kpr m5 1 s1 fun m6 =>
  kgr m6 1 fun s7 => kis s7 <|
  kgr m6 0 fun s8 => kis s8 <|
  kc1 (fX2_copyFrom s7 s8 m6) fun m9 =>
  kgi m9 0 6 fun v10 =>
  kmin (v10 + 1) 3 fun v11 =>
  kpi m9 0 6 v11 fun m12 =>
  some m12
theorem FX5_save_26 {g : zG} (hC : isC g) : zFl wsX5_save RX5 (zcl g) 26 4 2 := ⟨RX5, TX5, 7, hC.2.2 ▸ rfl, by decide +kernel, by decide, by decide +kernel⟩
theorem FX5_save_30 {g : zG} (hC : isC g) : zFl wsX5_save RX5 (zcl g) 30 4 3 := ⟨RX5, TX5, 7, hC.2.2 ▸ rfl, by decide +kernel, by decide, by decide +kernel⟩
theorem PX5_save_30 {g : zG} (hC : isC g) : zFp wsX5_save RX5 (zcl g) 30 4 3 (.object "QuotaOverlay$State") := ⟨RX5, TX5, 7, tyX5, hC.2.2 ▸ rfl, by decide +kernel, by decide, by decide +kernel, tyX5_ok, nmX5, rfl, by decide +kernel⟩
theorem FX5_save_33 {g : zG} (hC : isC g) : zFl wsX5_save RX5 (zcl g) 33 4 4 := ⟨RX5, TX5, 7, hC.2.2 ▸ rfl, by decide +kernel, by decide, by decide +kernel⟩
theorem PX5_save_33 {g : zG} (hC : isC g) : zFp wsX5_save RX5 (zcl g) 33 4 4 (.object "QuotaOverlay$State") := ⟨RX5, TX5, 7, tyX5, hC.2.2 ▸ rfl, by decide +kernel, by decide, by decide +kernel, tyX5_ok, nmX5, rfl, by decide +kernel⟩
theorem FX5_save_36 {g : zG} (hC : isC g) : zFl wsX5_save RX5 (zcl g) 36 4 5 := ⟨RX5, TX5, 7, hC.2.2 ▸ rfl, by decide +kernel, by decide, by decide +kernel⟩
theorem PX5_save_36 {g : zG} (hC : isC g) : zFp wsX5_save RX5 (zcl g) 36 4 5 (.object "QuotaOverlay$State") := ⟨RX5, TX5, 7, tyX5, hC.2.2 ▸ rfl, by decide +kernel, by decide, by decide +kernel, tyX5_ok, nmX5, rfl, by decide +kernel⟩
theorem FX5_save_39 {g : zG} (hC : isC g) : zFl wsX5_save RX5 (zcl g) 39 4 6 := ⟨RX5, TX5, 7, hC.2.2 ▸ rfl, by decide +kernel, by decide, by decide +kernel⟩
theorem PX5_save_39 {g : zG} (hC : isC g) : zFp wsX5_save RX5 (zcl g) 39 4 6 .int := ⟨RX5, TX5, 7, tyX5, hC.2.2 ▸ rfl, by decide +kernel, by decide, by decide +kernel, tyX5_ok, nmX5, rfl, by decide +kernel⟩
theorem hdX5_save : yX5_save.cls = RX5 ∧ yX5_save.cls ≠ "java/lang/invoke/MethodHandle" ∧ yX5_save.cls ≠ "java/lang/invoke/VarHandle" ∧ (parseMethodDescriptor yX5_save.desc).map (fun d => d.parameters.length) = some 0 := by decide +kernel
set_option maxHeartbeats 4000000 in
set_option maxRecDepth 100000 in
theorem qX5_save {l : Launch} {g : zG} (hC : isC g)  (m : zMem)  (o : zMem) (hf : fX5_save m = some o) : zMV l g yX5_save wsX5_save { frames := 3, cells := 0, slots := 0, locals := 60 } [.ref (zad g 0)] m o := by
  refine z_met_v (cc := cX5_save) (maxL := 2) (lo0 := [some (.ref (zad g 0)), none]) (by decide +kernel) rfl rfl (Nat.le_of_ble_eq_true rfl) (fun x hx C hr => ?_)
  unfold fX5_save at hf
  refine z_aload_n (i := 0) C dX5_save_0 rfl rfl rfl ?_
  refine z_gv C (FX5_save_36 hC) (tn_0 hC) (tc_0 hC) rfl dX5_save_1 rfl hf (fun s1 hf => ?_)
  refine kis_V hf (fun hs1 hf => ?_)
  refine z_astore_n (i := 1) (lo' := [some (.ref (zad g 0)), some (.ref (zad g s1))]) C dX5_save_4 rfl (Nat.le_of_ble_eq_true rfl) rfl rfl rfl ?_
  refine z_aload_n (i := 0) C dX5_save_5 rfl rfl rfl ?_
  refine z_aload_n (i := 0) C dX5_save_6 rfl rfl rfl ?_
  refine z_gv C (FX5_save_33 hC) (tn_0 hC) (tc_0 hC) rfl dX5_save_7 rfl hf (fun s2 hf => ?_)
  refine kis_V hf (fun hs2 hf => ?_)
  refine z_pv C (PX5_save_36 hC) (tn_0 hC) (tc_0 hC) rfl (zrefs_u hC) dX5_save_10 rfl hf (fun m3 hf => ?_)
  refine z_aload_n (i := 0) C dX5_save_13 rfl rfl rfl ?_
  refine z_aload_n (i := 0) C dX5_save_14 rfl rfl rfl ?_
  refine z_gv C (FX5_save_30 hC) (tn_0 hC) (tc_0 hC) rfl dX5_save_15 rfl hf (fun s4 hf => ?_)
  refine kis_V hf (fun hs4 hf => ?_)
  refine z_pv C (PX5_save_33 hC) (tn_0 hC) (tc_0 hC) rfl (zrefs_u hC) dX5_save_18 rfl hf (fun m5 hf => ?_)
  refine z_aload_n (i := 0) C dX5_save_21 rfl rfl rfl ?_
  refine z_aload_n (i := 1) C dX5_save_22 rfl rfl rfl ?_
  refine z_pv C (PX5_save_30 hC) (tn_0 hC) (tc_0 hC) rfl (zrefs_u hC) dX5_save_23 rfl hf (fun m6 hf => ?_)
  refine z_aload_n (i := 0) C dX5_save_26 rfl rfl rfl ?_
  refine z_gv C (FX5_save_30 hC) (tn_0 hC) (tc_0 hC) rfl dX5_save_27 rfl hf (fun s7 hf => ?_)
  refine kis_V hf (fun hs7 hf => ?_)
  refine z_aload_n (i := 0) C dX5_save_30 rfl rfl rfl ?_
  refine z_gv C (FX5_save_26 hC) (tn_0 hC) (tc_0 hC) rfl dX5_save_31 rfl hf (fun s8 hf => ?_)
  refine kis_V hf (fun hs8 hf => ?_)
  refine z_cvvW (As := [.ref (zad g s8)]) (st := []) (m := m6) C (cl_1 hC) (sn_0 hC hs7) (sc_0 hC hs7) gX5_save_X2_copyFrom hdX2_copyFrom rfl (fun z h => qX2_copyFrom hC s7 s8 m6 hs7 hs8 z h) rfl (Nat.le_of_ble_eq_true rfl) ⟨Nat.le_of_ble_eq_true rfl, Nat.le_of_ble_eq_true rfl⟩ ⟨Nat.le_refl _, Nat.le_refl _⟩ dX5_save_34 rfl rfl hf (fun m9 hf => ?_)
  refine z_aload_n (i := 0) C dX5_save_37 rfl rfl rfl ?_
  refine z_aload_n (i := 0) C dX5_save_38 rfl rfl rfl ?_
  refine z_gi C (FX5_save_39 hC) (tn_0 hC) (tc_0 hC) rfl dX5_save_39 rfl hf (fun v10 hf => ?_)
  refine z_iconst C dX5_save_42 zi_1 rfl ?_
  refine z_iadd C dX5_save_43 rfl ?_
  refine z_iconst C dX5_save_44 zi_3 rfl ?_
  refine z_mmin (idx := 217) C (by decide +kernel) (by decide +kernel) (by decide +kernel) (by decide +kernel) ⟨Nat.le_of_ble_eq_true rfl, Nat.le_of_ble_eq_true rfl⟩ ⟨Nat.le_refl _, Nat.le_refl _⟩ dX5_save_45 rfl hf (fun v11 hf => ?_)
  refine z_pi C (PX5_save_39 hC) (tn_0 hC) (tc_0 hC) rfl dX5_save_48 rfl hf (fun m12 hf => ?_)
  exact hr _ _ _ (Option.some.inj hf) dX5_save_51

def fX5_setPuzzles (a1 : Int32) (a2 : Int32) (a3 : Int32) (m : zMem) : Option (Int32 × zMem) :=
  kc1 (fX5_refuseOutside a1 0 6) fun u1 =>
  kc1 (fX5_refuseOutside a2 10 1000) fun u2 =>
  kc1 (fX5_refuseOutside a3 5 100) fun u3 =>
  kc1 (fX5_save m) fun m4 =>
  kgr m4 0 fun s5 => kis s5 <|
  kgi m4 s5 0 fun v6 =>
  kgr m4 0 fun s7 => kis s7 <|
  kc1 (fX2_adoptPuzzles s7 a1 a2 a3 m4) fun m8 =>
  some (v6, m8)
theorem FX5_setPuzzles_26 {g : zG} (hC : isC g) : zFl wsX5_setPuzzles RX5 (zcl g) 26 4 2 := ⟨RX5, TX5, 7, hC.2.2 ▸ rfl, by decide +kernel, by decide, by decide +kernel⟩
theorem FX5_setPuzzles_50 {g : zG} (hC : isC g) : zFl wsX5_setPuzzles RX5 (zcl g) 50 1 0 := ⟨RX2, TX2, 14, hC.2.2 ▸ rfl, by decide +kernel, by decide, by decide +kernel⟩
theorem hdX5_setPuzzles : yX5_setPuzzles.cls = RX5 ∧ yX5_setPuzzles.cls ≠ "java/lang/invoke/MethodHandle" ∧ yX5_setPuzzles.cls ≠ "java/lang/invoke/VarHandle" ∧ (parseMethodDescriptor yX5_setPuzzles.desc).map (fun d => d.parameters.length) = some 3 := by decide +kernel
set_option maxHeartbeats 4000000 in
set_option maxRecDepth 100000 in
theorem qX5_setPuzzles {l : Launch} {g : zG} (hC : isC g)  (a1 : Int32) (a2 : Int32) (a3 : Int32) (m : zMem)  (o : Int32 × zMem) (hf : fX5_setPuzzles a1 a2 a3 m = some o) : zMI l g yX5_setPuzzles wsX5_setPuzzles { frames := 4, cells := 0, slots := 0, locals := 87 } [.ref (zad g 0), .int a1, .int a2, .int a3] m o := by
  refine z_met_i (cc := cX5_setPuzzles) (maxL := 5) (lo0 := [some (.ref (zad g 0)), some (.int a1), some (.int a2), some (.int a3), none]) (by decide +kernel) rfl rfl (Nat.le_of_ble_eq_true rfl) (fun x hx C hr => ?_)
  unfold fX5_setPuzzles at hf
  refine z_iload_n (i := 1) C dX5_setPuzzles_0 rfl rfl rfl ?_
  refine z_iconst C dX5_setPuzzles_1 zi_0 rfl ?_
  refine z_bipush C dX5_setPuzzles_2 zb_6 rfl ?_
  refine z_csvR (As := [.int a1, .int 0, .int 6]) (st := []) (m := m) C gX5_setPuzzles_X5_refuseOutside hdX5_refuseOutside rfl (fun z h => qX5_refuseOutside a1 0 6 m z h) rfl (Nat.le_of_ble_eq_true rfl) ⟨Nat.le_of_ble_eq_true rfl, Nat.le_of_ble_eq_true rfl⟩ ⟨Nat.le_refl _, Nat.le_refl _⟩ dX5_setPuzzles_4 rfl rfl hf (fun u1 hf => ?_)
  refine z_iload_n (i := 2) C dX5_setPuzzles_7 rfl rfl rfl ?_
  refine z_bipush C dX5_setPuzzles_8 zb_10 rfl ?_
  refine z_sipush C dX5_setPuzzles_10 zs_1000 rfl ?_
  refine z_csvR (As := [.int a2, .int 10, .int 1000]) (st := []) (m := m) C gX5_setPuzzles_X5_refuseOutside hdX5_refuseOutside rfl (fun z h => qX5_refuseOutside a2 10 1000 m z h) rfl (Nat.le_of_ble_eq_true rfl) ⟨Nat.le_of_ble_eq_true rfl, Nat.le_of_ble_eq_true rfl⟩ ⟨Nat.le_refl _, Nat.le_refl _⟩ dX5_setPuzzles_13 rfl rfl hf (fun u2 hf => ?_)
  refine z_iload_n (i := 3) C dX5_setPuzzles_16 rfl rfl rfl ?_
  refine z_iconst C dX5_setPuzzles_17 zi_5 rfl ?_
  refine z_bipush C dX5_setPuzzles_18 zb_100 rfl ?_
  refine z_csvR (As := [.int a3, .int 5, .int 100]) (st := []) (m := m) C gX5_setPuzzles_X5_refuseOutside hdX5_refuseOutside rfl (fun z h => qX5_refuseOutside a3 5 100 m z h) rfl (Nat.le_of_ble_eq_true rfl) ⟨Nat.le_of_ble_eq_true rfl, Nat.le_of_ble_eq_true rfl⟩ ⟨Nat.le_refl _, Nat.le_refl _⟩ dX5_setPuzzles_20 rfl rfl hf (fun u3 hf => ?_)
  refine z_aload_n (i := 0) C dX5_setPuzzles_23 rfl rfl rfl ?_
  refine z_cvvW (As := []) (st := []) (m := m) C (cl_4 hC) (tn_0 hC) (tc_0 hC) gX5_setPuzzles_X5_save hdX5_save rfl (fun z h => qX5_save hC m z h) rfl (Nat.le_of_ble_eq_true rfl) ⟨Nat.le_of_ble_eq_true rfl, Nat.le_of_ble_eq_true rfl⟩ ⟨Nat.le_refl _, Nat.le_refl _⟩ dX5_setPuzzles_24 rfl rfl hf (fun m4 hf => ?_)
  refine z_aload_n (i := 0) C dX5_setPuzzles_27 rfl rfl rfl ?_
  refine z_gv C (FX5_setPuzzles_26 hC) (tn_0 hC) (tc_0 hC) rfl dX5_setPuzzles_28 rfl hf (fun s5 hf => ?_)
  refine kis_V hf (fun hs5 hf => ?_)
  refine z_gi C (FX5_setPuzzles_50 hC) (sn_0 hC hs5) (sc_0 hC hs5) rfl dX5_setPuzzles_31 rfl hf (fun v6 hf => ?_)
  refine z_istore (lo' := [some (.ref (zad g 0)), some (.int a1), some (.int a2), some (.int a3), some (.int v6)]) C dX5_setPuzzles_34 (Nat.le_of_ble_eq_true rfl) rfl rfl rfl ?_
  refine z_aload_n (i := 0) C dX5_setPuzzles_36 rfl rfl rfl ?_
  refine z_gv C (FX5_setPuzzles_26 hC) (tn_0 hC) (tc_0 hC) rfl dX5_setPuzzles_37 rfl hf (fun s7 hf => ?_)
  refine kis_V hf (fun hs7 hf => ?_)
  refine z_iload_n (i := 1) C dX5_setPuzzles_40 rfl rfl rfl ?_
  refine z_iload_n (i := 2) C dX5_setPuzzles_41 rfl rfl rfl ?_
  refine z_iload_n (i := 3) C dX5_setPuzzles_42 rfl rfl rfl ?_
  refine z_cvvW (As := [.int a1, .int a2, .int a3]) (st := []) (m := m4) C (cl_1 hC) (sn_0 hC hs7) (sc_0 hC hs7) gX5_setPuzzles_X2_adoptPuzzles hdX2_adoptPuzzles rfl (fun z h => qX2_adoptPuzzles hC s7 a1 a2 a3 m4 hs7 z h) rfl (Nat.le_of_ble_eq_true rfl) ⟨Nat.le_of_ble_eq_true rfl, Nat.le_of_ble_eq_true rfl⟩ ⟨Nat.le_refl _, Nat.le_refl _⟩ dX5_setPuzzles_43 rfl rfl hf (fun m8 hf => ?_)
  refine z_iload C dX5_setPuzzles_46 rfl rfl ?_
  exact hr _ _ _ _ (Option.some.inj hf) dX5_setPuzzles_48
