def sX2_smallestNonce_17 (v3 : Int32) (K49 : Option (Int32)) : (Int32 × Int32 → Option (Int32)) → Int32 × Int32 → Option (Int32) := fun rec (x4, x5) =>
  if 99999 < x5 then
  K49
  else
  kc1 (fX0_mix x4) fun v6 =>
  kc1 (fJ6_numberOfLeadingZeros_0f7a4 v6) fun v7 =>
  if v7 < v3 then
  klt (x4 + 40503 : Int32) fun v8 =>
  rec (v8, x5 + 1)
  else
  some x5
def fX2_smallestNonce (N : Nat) (s : Nat) (a1 : Int32) (m : zMem) : Option (Int32) :=
  kc1 (fX2_epoch s m) fun v1 =>
  kc1 (fX0_sumWithoutNonce a1 v1) fun v2 =>
  kc1 (fX2_difficulty s m) fun v3 =>
  kjn (some (-1)) fun K49 =>
  klp (sX2_smallestNonce_17 v3 K49) N (v2, 0)
theorem hdX2_smallestNonce : yX2_smallestNonce.cls = RX2 ∧ yX2_smallestNonce.cls ≠ "java/lang/invoke/MethodHandle" ∧ yX2_smallestNonce.cls ≠ "java/lang/invoke/VarHandle" ∧ (parseMethodDescriptor yX2_smallestNonce.desc).map (fun d => d.parameters.length) = some 1 := by decide +kernel
set_option maxHeartbeats 4000000 in
set_option maxRecDepth 100000 in
theorem qX2_smallestNonce {l : Launch} {g : zG} (hC : isC g)  (N : Nat) (s : Nat) (a1 : Int32) (m : zMem) (hs : isS s) (o : Int32) (hf : fX2_smallestNonce N s a1 m = some o) : zMI l g yX2_smallestNonce wsX2_smallestNonce { frames := 2, cells := 0, slots := 0, locals := 42 } [.ref (zad g s), .int a1] m (o, m) := by
  refine z_met_i (cc := cX2_smallestNonce) (maxL := 5) (lo0 := [some (.ref (zad g s)), some (.int a1), none, none, none]) (by decide +kernel) rfl rfl (Nat.le_of_ble_eq_true rfl) (fun x hx C hr => ?_)
  unfold fX2_smallestNonce at hf
  refine z_iload_n (i := 1) C dX2_smallestNonce_0 rfl rfl rfl ?_
  refine z_aload_n (i := 0) C dX2_smallestNonce_1 rfl rfl rfl ?_
  refine z_cviR (As := []) (st := [.int a1]) (m := m) C (cl_1 hC) (sn_0 hC hs) (sc_0 hC hs) gX2_smallestNonce_X2_epoch hdX2_epoch rfl (fun z h => qX2_epoch hC s m hs z h) rfl (Nat.le_of_ble_eq_true rfl) ⟨Nat.le_of_ble_eq_true rfl, Nat.le_of_ble_eq_true rfl⟩ ⟨Nat.le_refl _, Nat.le_refl _⟩ dX2_smallestNonce_2 rfl rfl hf (fun v1 hf => ?_)
  refine z_csiR (As := [.int a1, .int v1]) (st := []) (m := m) C gX2_smallestNonce_X0_sumWithoutNonce hdX0_sumWithoutNonce rfl (fun z h => qX0_sumWithoutNonce a1 v1 m z h) rfl (Nat.le_of_ble_eq_true rfl) ⟨Nat.le_of_ble_eq_true rfl, Nat.le_of_ble_eq_true rfl⟩ ⟨Nat.le_refl _, Nat.le_refl _⟩ dX2_smallestNonce_5 rfl rfl hf (fun v2 hf => ?_)
  refine z_istore_n (i := 2) (lo' := [some (.ref (zad g s)), some (.int a1), some (.int v2), none, none]) C dX2_smallestNonce_8 rfl (Nat.le_of_ble_eq_true rfl) rfl rfl rfl ?_
  refine z_aload_n (i := 0) C dX2_smallestNonce_9 rfl rfl rfl ?_
  refine z_cviR (As := []) (st := []) (m := m) C (cl_1 hC) (sn_0 hC hs) (sc_0 hC hs) gX2_smallestNonce_X2_difficulty hdX2_difficulty rfl (fun z h => qX2_difficulty hC s m hs z h) rfl (Nat.le_of_ble_eq_true rfl) ⟨Nat.le_of_ble_eq_true rfl, Nat.le_of_ble_eq_true rfl⟩ ⟨Nat.le_refl _, Nat.le_refl _⟩ dX2_smallestNonce_10 rfl rfl hf (fun v3 hf => ?_)
  refine z_istore_n (i := 3) (lo' := [some (.ref (zad g s)), some (.int a1), some (.int v2), some (.int v3), none]) C dX2_smallestNonce_13 rfl (Nat.le_of_ble_eq_true rfl) rfl rfl rfl ?_
  refine z_iconst C dX2_smallestNonce_14 zi_0 rfl ?_
  refine z_istore (lo' := [some (.ref (zad g s)), some (.int a1), some (.int v2), some (.int v3), some (.int 0)]) C dX2_smallestNonce_15 (Nat.le_of_ble_eq_true rfl) rfl rfl rfl ?_
  refine z_drop (lo' := [none, some (.int a1), some (.int v2), some (.int v3), some (.int 0)]) 0 rfl ?_
  refine z_drop (lo' := [none, none, some (.int v2), some (.int v3), some (.int 0)]) 1 rfl ?_
  refine kjn_V (fun K49 => K49 = some o → zV x g 5 0 0 49 [none, none, none, none, none] [] m) hf (fun  hf => ?_) (fun K49 hK49 hf => ?_)
  · skip
    refine z_iconst C dX2_smallestNonce_49 zi_m1 rfl ?_
    exact hr _ _ _ _ (congrArg (fun z => (z, m)) (Option.some.inj hf)) dX2_smallestNonce_50
  · skip
    refine klp_V (fun z => zV x g 5 0 0 17 [none, none, some (.int z.1), some (.int v3), some (.int z.2)] [] m) hf (fun rec z ih hf => ?_)
    obtain ⟨x4, x5⟩ := z
    unfold sX2_smallestNonce_17 at hf
    try dsimp only at hf
    try dsimp only
    refine z_iload C dX2_smallestNonce_17 rfl rfl ?_
    refine z_ldc (v := 99999) C (by decide +kernel) dX2_smallestNonce_19 rfl ?_
    refine z_ic_gt (tgt := 49) C dX2_smallestNonce_21 (by decide) rfl hf (fun hf => ?_) (fun hf => ?_)
    · skip
      refine z_drop (lo' := [none, none, none, some (.int v3), some (.int x5)]) 2 rfl ?_
      refine z_drop (lo' := [none, none, none, none, some (.int x5)]) 3 rfl ?_
      refine z_drop (lo' := [none, none, none, none, none]) 4 rfl ?_
      exact hK49 hf
    · skip
      refine z_iload_n (i := 2) C dX2_smallestNonce_24 rfl rfl rfl ?_
      refine z_csiR (As := [.int x4]) (st := []) (m := m) C gX2_smallestNonce_X0_mix hdX0_mix rfl (fun z h => qX0_mix x4 m z h) rfl (Nat.le_of_ble_eq_true rfl) ⟨Nat.le_of_ble_eq_true rfl, Nat.le_of_ble_eq_true rfl⟩ ⟨Nat.le_refl _, Nat.le_refl _⟩ dX2_smallestNonce_25 rfl rfl hf (fun v6 hf => ?_)
      refine z_csiR (As := [.int v6]) (st := []) (m := m) C gX2_smallestNonce_J6_numberOfLeadingZeros_0f7a4 hdJ6_numberOfLeadingZeros_0f7a4 rfl (fun z h => qJ6_numberOfLeadingZeros_0f7a4 v6 m z h) rfl (Nat.le_of_ble_eq_true rfl) ⟨Nat.le_of_ble_eq_true rfl, Nat.le_of_ble_eq_true rfl⟩ ⟨Nat.le_refl _, Nat.le_refl _⟩ dX2_smallestNonce_28 rfl rfl hf (fun v7 hf => ?_)
      refine z_iload_n (i := 3) C dX2_smallestNonce_31 rfl rfl rfl ?_
      refine z_ic_lt (tgt := 38) C dX2_smallestNonce_32 (by decide) rfl hf (fun hf => ?_) (fun hf => ?_)
      · skip
        refine z_iload_n (i := 2) C dX2_smallestNonce_38 rfl rfl rfl ?_
        refine z_ldc (v := 40503) C (by decide +kernel) dX2_smallestNonce_39 rfl ?_
        refine z_iadd C dX2_smallestNonce_41 rfl ?_
        refine z_top _ hf (fun v8 hf => ?_)
        refine z_istore_n (i := 2) (lo' := [none, none, some (.int v8), some (.int v3), some (.int x5)]) C dX2_smallestNonce_42 rfl (Nat.le_of_ble_eq_true rfl) rfl rfl rfl ?_
        refine z_iinc (v := x5 + 1) (lo' := [none, none, some (.int v8), some (.int v3), some (.int (x5 + 1))]) C dX2_smallestNonce_43 rfl (zinc zi_1) (Nat.le_of_ble_eq_true rfl) rfl rfl rfl ?_
        refine z_goto (pc' := 17) C dX2_smallestNonce_46 (by decide) ?_
        exact ih (v8, x5 + 1) hf
      · skip
        refine z_iload C dX2_smallestNonce_35 rfl rfl ?_
        exact hr _ _ _ _ (congrArg (fun z => (z, m)) (Option.some.inj hf)) dX2_smallestNonce_37

def fX2_startEpochIfOther (s : Nat) (a1 : Int32) (m : zMem) : Option (zMem) :=
  kc1 (fX2_epoch s m) fun v1 =>
  if v1 = a1 then
  some m
  else
  kpi m s 6 0 fun m2 =>
  some m2
theorem PX2_startEpochIfOther_30 {g : zG} (hC : isC g) : zFp wsX2_startEpochIfOther RX2 (zcl g) 30 1 6 .int := ⟨RX2, TX2, 14, tyX2, hC.2.2 ▸ rfl, by decide +kernel, by decide, by decide +kernel, tyX2_ok, nmX2, rfl, by decide +kernel⟩
theorem hdX2_startEpochIfOther : yX2_startEpochIfOther.cls = RX2 ∧ yX2_startEpochIfOther.cls ≠ "java/lang/invoke/MethodHandle" ∧ yX2_startEpochIfOther.cls ≠ "java/lang/invoke/VarHandle" ∧ (parseMethodDescriptor yX2_startEpochIfOther.desc).map (fun d => d.parameters.length) = some 1 := by decide +kernel
set_option maxHeartbeats 4000000 in
set_option maxRecDepth 100000 in
theorem qX2_startEpochIfOther {l : Launch} {g : zG} (hC : isC g)  (s : Nat) (a1 : Int32) (m : zMem) (hs : isS s) (o : zMem) (hf : fX2_startEpochIfOther s a1 m = some o) : zMV l g yX2_startEpochIfOther wsX2_startEpochIfOther { frames := 2, cells := 0, slots := 0, locals := 42 } [.ref (zad g s), .int a1] m o := by
  refine z_met_v (cc := cX2_startEpochIfOther) (maxL := 2) (lo0 := [some (.ref (zad g s)), some (.int a1)]) (by decide +kernel) rfl rfl (Nat.le_of_ble_eq_true rfl) (fun x hx C hr => ?_)
  unfold fX2_startEpochIfOther at hf
  refine z_aload_n (i := 0) C dX2_startEpochIfOther_0 rfl rfl rfl ?_
  refine z_cviR (As := []) (st := []) (m := m) C (cl_1 hC) (sn_0 hC hs) (sc_0 hC hs) gX2_startEpochIfOther_X2_epoch hdX2_epoch rfl (fun z h => qX2_epoch hC s m hs z h) rfl (Nat.le_of_ble_eq_true rfl) ⟨Nat.le_of_ble_eq_true rfl, Nat.le_of_ble_eq_true rfl⟩ ⟨Nat.le_refl _, Nat.le_refl _⟩ dX2_startEpochIfOther_1 rfl rfl hf (fun v1 hf => ?_)
  refine z_iload_n (i := 1) C dX2_startEpochIfOther_4 rfl rfl rfl ?_
  refine z_ic_eq (tgt := 13) C dX2_startEpochIfOther_5 (by decide) rfl hf (fun hf => ?_) (fun hf => ?_)
  · skip
    exact hr _ _ _ (Option.some.inj hf) dX2_startEpochIfOther_13
  · skip
    refine z_aload_n (i := 0) C dX2_startEpochIfOther_8 rfl rfl rfl ?_
    refine z_iconst C dX2_startEpochIfOther_9 zi_0 rfl ?_
    refine z_pi C (PX2_startEpochIfOther_30 hC) (sn_0 hC hs) (sc_0 hC hs) rfl dX2_startEpochIfOther_10 rfl hf (fun m2 hf => ?_)
    exact hr _ _ _ (Option.some.inj hf) dX2_startEpochIfOther_13

def fX2_adoptPuzzles (s : Nat) (a1 : Int32) (a2 : Int32) (a3 : Int32) (m : zMem) : Option (zMem) :=
  kc1 (fX2_epoch s m) fun v1 =>
  kpi m s 0 a1 fun m2 =>
  kpi m2 s 1 a2 fun m3 =>
  kpi m3 s 2 a3 fun m4 =>
  kc1 (fX2_startEpochIfOther s v1 m4) fun m5 =>
  some m5
theorem PX2_adoptPuzzles_9 {g : zG} (hC : isC g) : zFp wsX2_adoptPuzzles RX2 (zcl g) 9 1 0 .int := ⟨RX2, TX2, 14, tyX2, hC.2.2 ▸ rfl, by decide +kernel, by decide, by decide +kernel, tyX2_ok, nmX2, rfl, by decide +kernel⟩
theorem PX2_adoptPuzzles_15 {g : zG} (hC : isC g) : zFp wsX2_adoptPuzzles RX2 (zcl g) 15 1 1 .int := ⟨RX2, TX2, 14, tyX2, hC.2.2 ▸ rfl, by decide +kernel, by decide, by decide +kernel, tyX2_ok, nmX2, rfl, by decide +kernel⟩
theorem PX2_adoptPuzzles_18 {g : zG} (hC : isC g) : zFp wsX2_adoptPuzzles RX2 (zcl g) 18 1 2 .int := ⟨RX2, TX2, 14, tyX2, hC.2.2 ▸ rfl, by decide +kernel, by decide, by decide +kernel, tyX2_ok, nmX2, rfl, by decide +kernel⟩
theorem hdX2_adoptPuzzles : yX2_adoptPuzzles.cls = RX2 ∧ yX2_adoptPuzzles.cls ≠ "java/lang/invoke/MethodHandle" ∧ yX2_adoptPuzzles.cls ≠ "java/lang/invoke/VarHandle" ∧ (parseMethodDescriptor yX2_adoptPuzzles.desc).map (fun d => d.parameters.length) = some 3 := by decide +kernel
set_option maxHeartbeats 4000000 in
set_option maxRecDepth 100000 in
theorem qX2_adoptPuzzles {l : Launch} {g : zG} (hC : isC g)  (s : Nat) (a1 : Int32) (a2 : Int32) (a3 : Int32) (m : zMem) (hs : isS s) (o : zMem) (hf : fX2_adoptPuzzles s a1 a2 a3 m = some o) : zMV l g yX2_adoptPuzzles wsX2_adoptPuzzles { frames := 3, cells := 0, slots := 0, locals := 63 } [.ref (zad g s), .int a1, .int a2, .int a3] m o := by
  refine z_met_v (cc := cX2_adoptPuzzles) (maxL := 5) (lo0 := [some (.ref (zad g s)), some (.int a1), some (.int a2), some (.int a3), none]) (by decide +kernel) rfl rfl (Nat.le_of_ble_eq_true rfl) (fun x hx C hr => ?_)
  unfold fX2_adoptPuzzles at hf
  refine z_aload_n (i := 0) C dX2_adoptPuzzles_0 rfl rfl rfl ?_
  refine z_cviR (As := []) (st := []) (m := m) C (cl_1 hC) (sn_0 hC hs) (sc_0 hC hs) gX2_adoptPuzzles_X2_epoch hdX2_epoch rfl (fun z h => qX2_epoch hC s m hs z h) rfl (Nat.le_of_ble_eq_true rfl) ⟨Nat.le_of_ble_eq_true rfl, Nat.le_of_ble_eq_true rfl⟩ ⟨Nat.le_refl _, Nat.le_refl _⟩ dX2_adoptPuzzles_1 rfl rfl hf (fun v1 hf => ?_)
  refine z_istore (lo' := [some (.ref (zad g s)), some (.int a1), some (.int a2), some (.int a3), some (.int v1)]) C dX2_adoptPuzzles_4 (Nat.le_of_ble_eq_true rfl) rfl rfl rfl ?_
  refine z_aload_n (i := 0) C dX2_adoptPuzzles_6 rfl rfl rfl ?_
  refine z_iload_n (i := 1) C dX2_adoptPuzzles_7 rfl rfl rfl ?_
  refine z_pi C (PX2_adoptPuzzles_9 hC) (sn_0 hC hs) (sc_0 hC hs) rfl dX2_adoptPuzzles_8 rfl hf (fun m2 hf => ?_)
  refine z_aload_n (i := 0) C dX2_adoptPuzzles_11 rfl rfl rfl ?_
  refine z_iload_n (i := 2) C dX2_adoptPuzzles_12 rfl rfl rfl ?_
  refine z_pi C (PX2_adoptPuzzles_15 hC) (sn_0 hC hs) (sc_0 hC hs) rfl dX2_adoptPuzzles_13 rfl hf (fun m3 hf => ?_)
  refine z_aload_n (i := 0) C dX2_adoptPuzzles_16 rfl rfl rfl ?_
  refine z_iload_n (i := 3) C dX2_adoptPuzzles_17 rfl rfl rfl ?_
  refine z_pi C (PX2_adoptPuzzles_18 hC) (sn_0 hC hs) (sc_0 hC hs) rfl dX2_adoptPuzzles_18 rfl hf (fun m4 hf => ?_)
  refine z_aload_n (i := 0) C dX2_adoptPuzzles_21 rfl rfl rfl ?_
  refine z_iload C dX2_adoptPuzzles_22 rfl rfl ?_
  refine z_cvvW (As := [.int v1]) (st := []) (m := m4) C (cl_1 hC) (sn_0 hC hs) (sc_0 hC hs) gX2_adoptPuzzles_X2_startEpochIfOther hdX2_startEpochIfOther rfl (fun z h => qX2_startEpochIfOther hC s v1 m4 hs z h) rfl (Nat.le_of_ble_eq_true rfl) ⟨Nat.le_of_ble_eq_true rfl, Nat.le_of_ble_eq_true rfl⟩ ⟨Nat.le_refl _, Nat.le_refl _⟩ dX2_adoptPuzzles_24 rfl rfl hf (fun m5 hf => ?_)
  exact hr _ _ _ (Option.some.inj hf) dX2_adoptPuzzles_27

def fX2_endIdentity (s : Nat) (a1 : Int32) (m : zMem) : Option (zMem) :=
  kc1 (fX2_isMember s a1 m) fun v1 =>
  if v1 = 0 then
  some m
  else
  kld m (s + 2) 256 a1 fun v2 =>
  kst m (s + 3) 24 v2 (-1) fun m3 =>
  kst m3 (s + 2) 256 a1 (-1) fun m4 =>
  kgi m4 s 7 fun v5 =>
  kpi m4 s 7 (v5 - 1) fun m6 =>
  kld m6 (s + 1) 9 1 fun v7 =>
  kst m6 (s + 1) 9 1 (v7 + 1) fun m8 =>
  some m8
theorem FX2_endIdentity_33 {g : zG} (hC : isC g) : zFl wsX2_endIdentity RX2 (zcl g) 33 1 7 := ⟨RX2, TX2, 14, hC.2.2 ▸ rfl, by decide +kernel, by decide, by decide +kernel⟩
theorem PX2_endIdentity_33 {g : zG} (hC : isC g) : zFp wsX2_endIdentity RX2 (zcl g) 33 1 7 .int := ⟨RX2, TX2, 14, tyX2, hC.2.2 ▸ rfl, by decide +kernel, by decide, by decide +kernel, tyX2_ok, nmX2, rfl, by decide +kernel⟩
theorem FX2_endIdentity_36 {g : zG} (hC : isC g) : zFl wsX2_endIdentity RX2 (zcl g) 36 1 8 := ⟨RX2, TX2, 14, hC.2.2 ▸ rfl, by decide +kernel, by decide, by decide +kernel⟩
theorem FX2_endIdentity_40 {g : zG} (hC : isC g) : zFl wsX2_endIdentity RX2 (zcl g) 40 1 9 := ⟨RX2, TX2, 14, hC.2.2 ▸ rfl, by decide +kernel, by decide, by decide +kernel⟩
theorem FX2_endIdentity_43 {g : zG} (hC : isC g) : zFl wsX2_endIdentity RX2 (zcl g) 43 1 10 := ⟨RX2, TX2, 14, hC.2.2 ▸ rfl, by decide +kernel, by decide, by decide +kernel⟩
theorem hdX2_endIdentity : yX2_endIdentity.cls = RX2 ∧ yX2_endIdentity.cls ≠ "java/lang/invoke/MethodHandle" ∧ yX2_endIdentity.cls ≠ "java/lang/invoke/VarHandle" ∧ (parseMethodDescriptor yX2_endIdentity.desc).map (fun d => d.parameters.length) = some 1 := by decide +kernel
set_option maxHeartbeats 4000000 in
set_option maxRecDepth 100000 in
theorem qX2_endIdentity {l : Launch} {g : zG} (hC : isC g)  (s : Nat) (a1 : Int32) (m : zMem) (hs : isS s) (o : zMem) (hf : fX2_endIdentity s a1 m = some o) : zMV l g yX2_endIdentity wsX2_endIdentity { frames := 1, cells := 0, slots := 0, locals := 21 } [.ref (zad g s), .int a1] m o := by
  refine z_met_v (cc := cX2_endIdentity) (maxL := 2) (lo0 := [some (.ref (zad g s)), some (.int a1)]) (by decide +kernel) rfl rfl (Nat.le_of_ble_eq_true rfl) (fun x hx C hr => ?_)
  unfold fX2_endIdentity at hf
  refine z_aload_n (i := 0) C dX2_endIdentity_0 rfl rfl rfl ?_
  refine z_iload_n (i := 1) C dX2_endIdentity_1 rfl rfl rfl ?_
  refine z_cviR (As := [.int a1]) (st := []) (m := m) C (cl_1 hC) (sn_0 hC hs) (sc_0 hC hs) gX2_endIdentity_X2_isMember hdX2_isMember rfl (fun z h => qX2_isMember hC s a1 m hs z h) rfl (Nat.le_of_ble_eq_true rfl) ⟨Nat.le_of_ble_eq_true rfl, Nat.le_of_ble_eq_true rfl⟩ ⟨Nat.le_refl _, Nat.le_refl _⟩ dX2_endIdentity_2 rfl rfl hf (fun v1 hf => ?_)
  refine z_if_eq (tgt := 47) C dX2_endIdentity_5 (by decide) rfl hf (fun hf => ?_) (fun hf => ?_)
  · skip
    exact hr _ _ _ (Option.some.inj hf) dX2_endIdentity_47
  · skip
    refine z_aload_n (i := 0) C dX2_endIdentity_8 rfl rfl rfl ?_
    refine z_gr C (FX2_endIdentity_43 hC) (sn_0 hC hs) (sc_0 hC hs) rfl dX2_endIdentity_9 rfl ?_
    refine z_aload_n (i := 0) C dX2_endIdentity_12 rfl rfl rfl ?_
    refine z_gr C (FX2_endIdentity_40 hC) (sn_0 hC hs) (sc_0 hC hs) rfl dX2_endIdentity_13 rfl ?_
    refine z_iload_n (i := 1) C dX2_endIdentity_16 rfl rfl rfl ?_
    refine z_iaload C (sn_2 hC hs) (sc_2 hC hs) dX2_endIdentity_17 rfl hf (fun v2 hf => ?_)
    refine z_iconst C dX2_endIdentity_18 zi_m1 rfl ?_
    refine z_iastore C (sn_3 hC hs) (sc_3 hC hs) dX2_endIdentity_19 rfl hf (fun m3 hf => ?_)
    refine z_aload_n (i := 0) C dX2_endIdentity_20 rfl rfl rfl ?_
    refine z_gr C (FX2_endIdentity_40 hC) (sn_0 hC hs) (sc_0 hC hs) rfl dX2_endIdentity_21 rfl ?_
    refine z_iload_n (i := 1) C dX2_endIdentity_24 rfl rfl rfl ?_
    refine z_iconst C dX2_endIdentity_25 zi_m1 rfl ?_
    refine z_iastore C (sn_2 hC hs) (sc_2 hC hs) dX2_endIdentity_26 rfl hf (fun m4 hf => ?_)
    refine z_aload_n (i := 0) C dX2_endIdentity_27 rfl rfl rfl ?_
    refine z_dup C dX2_endIdentity_28 rfl rfl ?_
    refine z_gi C (FX2_endIdentity_33 hC) (sn_0 hC hs) (sc_0 hC hs) rfl dX2_endIdentity_29 rfl hf (fun v5 hf => ?_)
    refine z_iconst C dX2_endIdentity_32 zi_1 rfl ?_
    refine z_isub C dX2_endIdentity_33 rfl ?_
    refine z_pi C (PX2_endIdentity_33 hC) (sn_0 hC hs) (sc_0 hC hs) rfl dX2_endIdentity_34 rfl hf (fun m6 hf => ?_)
    refine z_aload_n (i := 0) C dX2_endIdentity_37 rfl rfl rfl ?_
    refine z_gr C (FX2_endIdentity_36 hC) (sn_0 hC hs) (sc_0 hC hs) rfl dX2_endIdentity_38 rfl ?_
    refine z_iconst C dX2_endIdentity_41 zi_1 rfl ?_
    refine z_dup2 C dX2_endIdentity_42 rfl rfl rfl ?_
    refine z_iaload C (sn_1 hC hs) (sc_1 hC hs) dX2_endIdentity_43 rfl hf (fun v7 hf => ?_)
    refine z_iconst C dX2_endIdentity_44 zi_1 rfl ?_
    refine z_iadd C dX2_endIdentity_45 rfl ?_
    refine z_iastore C (sn_1 hC hs) (sc_1 hC hs) dX2_endIdentity_46 rfl hf (fun m8 hf => ?_)
    exact hr _ _ _ (Option.some.inj hf) dX2_endIdentity_47

def sX2_passTime_25 (s : Nat) (K82 : Int32 → zMem → Option (Int32 × zMem)) : (Int32 × Int32 × zMem → Option (Int32 × zMem)) → Int32 × Int32 × zMem → Option (Int32 × zMem) := fun rec (x7, x8, m9) =>
  if 24 ≤ x8 then
  K82 x7 m9
  else
  kld m9 (s + 3) 24 x8 fun v10 =>
  if v10 = (-1) then
  rec (x7, x8 + 1, m9)
  else
  kld m9 (s + 5) 24 x8 fun v11 =>
  kgi m9 s 1 fun v12 =>
  kgi m9 s 5 fun v13 =>
  if v13 < (v11 + v12) then
  rec (x7, x8 + 1, m9)
  else
  kld m9 (s + 3) 24 x8 fun v14 =>
  kc1 (fX2_endIdentity s v14 m9) fun m15 =>
  rec (x7 + 1, x8 + 1, m15)
def fX2_passTime (N : Nat) (s : Nat) (a1 : Int32) (m : zMem) : Option (Int32 × zMem) :=
  kc1 (fX2_epoch s m) fun v1 =>
  kgi m s 5 fun v2 =>
  kpi m s 5 (v2 + a1) fun m3 =>
  kc1 (fX2_startEpochIfOther s v1 m3) fun m4 =>
  kjn (fun (w5 : Int32) (m6 : zMem) =>
  some (w5, m6)) fun K82 =>
  klp (sX2_passTime_25 s K82) N (0, 0, m4)
theorem FX2_passTime_15 {g : zG} (hC : isC g) : zFl wsX2_passTime RX2 (zcl g) 15 1 1 := ⟨RX2, TX2, 14, hC.2.2 ▸ rfl, by decide +kernel, by decide, by decide +kernel⟩
theorem FX2_passTime_27 {g : zG} (hC : isC g) : zFl wsX2_passTime RX2 (zcl g) 27 1 5 := ⟨RX2, TX2, 14, hC.2.2 ▸ rfl, by decide +kernel, by decide, by decide +kernel⟩
theorem PX2_passTime_27 {g : zG} (hC : isC g) : zFp wsX2_passTime RX2 (zcl g) 27 1 5 .int := ⟨RX2, TX2, 14, tyX2, hC.2.2 ▸ rfl, by decide +kernel, by decide, by decide +kernel, tyX2_ok, nmX2, rfl, by decide +kernel⟩
theorem FX2_passTime_43 {g : zG} (hC : isC g) : zFl wsX2_passTime RX2 (zcl g) 43 1 10 := ⟨RX2, TX2, 14, hC.2.2 ▸ rfl, by decide +kernel, by decide, by decide +kernel⟩
theorem FX2_passTime_49 {g : zG} (hC : isC g) : zFl wsX2_passTime RX2 (zcl g) 49 1 12 := ⟨RX2, TX2, 14, hC.2.2 ▸ rfl, by decide +kernel, by decide, by decide +kernel⟩
theorem hdX2_passTime : yX2_passTime.cls = RX2 ∧ yX2_passTime.cls ≠ "java/lang/invoke/MethodHandle" ∧ yX2_passTime.cls ≠ "java/lang/invoke/VarHandle" ∧ (parseMethodDescriptor yX2_passTime.desc).map (fun d => d.parameters.length) = some 1 := by decide +kernel
set_option maxHeartbeats 4000000 in
set_option maxRecDepth 100000 in
theorem qX2_passTime {l : Launch} {g : zG} (hC : isC g)  (N : Nat) (s : Nat) (a1 : Int32) (m : zMem) (hs : isS s) (o : Int32 × zMem) (hf : fX2_passTime N s a1 m = some o) : zMI l g yX2_passTime wsX2_passTime { frames := 3, cells := 0, slots := 0, locals := 63 } [.ref (zad g s), .int a1] m o := by
  refine z_met_i (cc := cX2_passTime) (maxL := 5) (lo0 := [some (.ref (zad g s)), some (.int a1), none, none, none]) (by decide +kernel) rfl rfl (Nat.le_of_ble_eq_true rfl) (fun x hx C hr => ?_)
  unfold fX2_passTime at hf
  refine z_aload_n (i := 0) C dX2_passTime_0 rfl rfl rfl ?_
  refine z_cviR (As := []) (st := []) (m := m) C (cl_1 hC) (sn_0 hC hs) (sc_0 hC hs) gX2_passTime_X2_epoch hdX2_epoch rfl (fun z h => qX2_epoch hC s m hs z h) rfl (Nat.le_of_ble_eq_true rfl) ⟨Nat.le_of_ble_eq_true rfl, Nat.le_of_ble_eq_true rfl⟩ ⟨Nat.le_refl _, Nat.le_refl _⟩ dX2_passTime_1 rfl rfl hf (fun v1 hf => ?_)
  refine z_istore_n (i := 2) (lo' := [some (.ref (zad g s)), some (.int a1), some (.int v1), none, none]) C dX2_passTime_4 rfl (Nat.le_of_ble_eq_true rfl) rfl rfl rfl ?_
  refine z_aload_n (i := 0) C dX2_passTime_5 rfl rfl rfl ?_
  refine z_dup C dX2_passTime_6 rfl rfl ?_
  refine z_gi C (FX2_passTime_27 hC) (sn_0 hC hs) (sc_0 hC hs) rfl dX2_passTime_7 rfl hf (fun v2 hf => ?_)
  refine z_iload_n (i := 1) C dX2_passTime_10 rfl rfl rfl ?_
  refine z_iadd C dX2_passTime_11 rfl ?_
  refine z_pi C (PX2_passTime_27 hC) (sn_0 hC hs) (sc_0 hC hs) rfl dX2_passTime_12 rfl hf (fun m3 hf => ?_)
  refine z_aload_n (i := 0) C dX2_passTime_15 rfl rfl rfl ?_
  refine z_iload_n (i := 2) C dX2_passTime_16 rfl rfl rfl ?_
  refine z_cvvW (As := [.int v1]) (st := []) (m := m3) C (cl_1 hC) (sn_0 hC hs) (sc_0 hC hs) gX2_passTime_X2_startEpochIfOther hdX2_startEpochIfOther rfl (fun z h => qX2_startEpochIfOther hC s v1 m3 hs z h) rfl (Nat.le_of_ble_eq_true rfl) ⟨Nat.le_of_ble_eq_true rfl, Nat.le_of_ble_eq_true rfl⟩ ⟨Nat.le_refl _, Nat.le_refl _⟩ dX2_passTime_17 rfl rfl hf (fun m4 hf => ?_)
  refine z_iconst C dX2_passTime_20 zi_0 rfl ?_
  refine z_istore_n (i := 3) (lo' := [some (.ref (zad g s)), some (.int a1), some (.int v1), some (.int 0), none]) C dX2_passTime_21 rfl (Nat.le_of_ble_eq_true rfl) rfl rfl rfl ?_
  refine z_iconst C dX2_passTime_22 zi_0 rfl ?_
  refine z_istore (lo' := [some (.ref (zad g s)), some (.int a1), some (.int v1), some (.int 0), some (.int 0)]) C dX2_passTime_23 (Nat.le_of_ble_eq_true rfl) rfl rfl rfl ?_
  refine z_drop (lo' := [some (.ref (zad g s)), none, some (.int v1), some (.int 0), some (.int 0)]) 1 rfl ?_
  refine z_drop (lo' := [some (.ref (zad g s)), none, none, some (.int 0), some (.int 0)]) 2 rfl ?_
  refine kjn_V (fun K82 => ∀ (w5 : Int32) (m6 : zMem), K82 w5 m6 = some o → zV x g 5 0 0 82 [none, none, none, some (.int w5), none] [] m6) hf (fun w5 m6 hf => ?_) (fun K82 hK82 hf => ?_)
  · skip
    refine z_iload_n (i := 3) C dX2_passTime_82 rfl rfl rfl ?_
    exact hr _ _ _ _ (Option.some.inj hf) dX2_passTime_83
  · skip
    refine klp_V (fun z => zV x g 5 0 0 25 [some (.ref (zad g s)), none, none, some (.int z.1), some (.int z.2.1)] [] z.2.2) hf (fun rec z ih hf => ?_)
    obtain ⟨x7, x8, m9⟩ := z
    unfold sX2_passTime_25 at hf
    try dsimp only at hf
    try dsimp only
    refine z_iload C dX2_passTime_25 rfl rfl ?_
    refine z_bipush C dX2_passTime_27 zb_24 rfl ?_
    refine z_ic_ge (tgt := 82) C dX2_passTime_29 (by decide) rfl hf (fun hf => ?_) (fun hf => ?_)
    · skip
      refine z_drop (lo' := [none, none, none, some (.int x7), some (.int x8)]) 0 rfl ?_
      refine z_drop (lo' := [none, none, none, some (.int x7), none]) 4 rfl ?_
      exact hK82 _ _ hf
    · skip
      refine z_aload_n (i := 0) C dX2_passTime_32 rfl rfl rfl ?_
      refine z_gr C (FX2_passTime_43 hC) (sn_0 hC hs) (sc_0 hC hs) rfl dX2_passTime_33 rfl ?_
      refine z_iload C dX2_passTime_36 rfl rfl ?_
      refine z_iaload C (sn_3 hC hs) (sc_3 hC hs) dX2_passTime_38 rfl hf (fun v10 hf => ?_)
      refine z_iconst C dX2_passTime_39 zi_m1 rfl ?_
      refine z_ic_eq (tgt := 76) C dX2_passTime_40 (by decide) rfl hf (fun hf => ?_) (fun hf => ?_)
      · skip
        refine z_iinc (v := x8 + 1) (lo' := [some (.ref (zad g s)), none, none, some (.int x7), some (.int (x8 + 1))]) C dX2_passTime_76 rfl (zinc zi_1) (Nat.le_of_ble_eq_true rfl) rfl rfl rfl ?_
        refine z_goto (pc' := 25) C dX2_passTime_79 (by decide) ?_
        exact ih (x7, x8 + 1, m9) hf
      · skip
        refine z_aload_n (i := 0) C dX2_passTime_43 rfl rfl rfl ?_
        refine z_gr C (FX2_passTime_49 hC) (sn_0 hC hs) (sc_0 hC hs) rfl dX2_passTime_44 rfl ?_
        refine z_iload C dX2_passTime_47 rfl rfl ?_
        refine z_iaload C (sn_5 hC hs) (sc_5 hC hs) dX2_passTime_49 rfl hf (fun v11 hf => ?_)
        refine z_aload_n (i := 0) C dX2_passTime_50 rfl rfl rfl ?_
        refine z_gi C (FX2_passTime_15 hC) (sn_0 hC hs) (sc_0 hC hs) rfl dX2_passTime_51 rfl hf (fun v12 hf => ?_)
        refine z_iadd C dX2_passTime_54 rfl ?_
        refine z_aload_n (i := 0) C dX2_passTime_55 rfl rfl rfl ?_
        refine z_gi C (FX2_passTime_27 hC) (sn_0 hC hs) (sc_0 hC hs) rfl dX2_passTime_56 rfl hf (fun v13 hf => ?_)
        refine z_ic_gt (tgt := 76) C dX2_passTime_59 (by decide) rfl hf (fun hf => ?_) (fun hf => ?_)
        · skip
          refine z_iinc (v := x8 + 1) (lo' := [some (.ref (zad g s)), none, none, some (.int x7), some (.int (x8 + 1))]) C dX2_passTime_76 rfl (zinc zi_1) (Nat.le_of_ble_eq_true rfl) rfl rfl rfl ?_
          refine z_goto (pc' := 25) C dX2_passTime_79 (by decide) ?_
          exact ih (x7, x8 + 1, m9) hf
        · skip
          refine z_aload_n (i := 0) C dX2_passTime_62 rfl rfl rfl ?_
          refine z_aload_n (i := 0) C dX2_passTime_63 rfl rfl rfl ?_
          refine z_gr C (FX2_passTime_43 hC) (sn_0 hC hs) (sc_0 hC hs) rfl dX2_passTime_64 rfl ?_
          refine z_iload C dX2_passTime_67 rfl rfl ?_
          refine z_iaload C (sn_3 hC hs) (sc_3 hC hs) dX2_passTime_69 rfl hf (fun v14 hf => ?_)
          refine z_cvvW (As := [.int v14]) (st := []) (m := m9) C (cl_1 hC) (sn_0 hC hs) (sc_0 hC hs) gX2_passTime_X2_endIdentity hdX2_endIdentity rfl (fun z h => qX2_endIdentity hC s v14 m9 hs z h) rfl (Nat.le_of_ble_eq_true rfl) ⟨Nat.le_of_ble_eq_true rfl, Nat.le_of_ble_eq_true rfl⟩ ⟨Nat.le_refl _, Nat.le_refl _⟩ dX2_passTime_70 rfl rfl hf (fun m15 hf => ?_)
          refine z_iinc (v := x7 + 1) (lo' := [some (.ref (zad g s)), none, none, some (.int (x7 + 1)), some (.int x8)]) C dX2_passTime_73 rfl (zinc zi_1) (Nat.le_of_ble_eq_true rfl) rfl rfl rfl ?_
          refine z_iinc (v := x8 + 1) (lo' := [some (.ref (zad g s)), none, none, some (.int (x7 + 1)), some (.int (x8 + 1))]) C dX2_passTime_76 rfl (zinc zi_1) (Nat.le_of_ble_eq_true rfl) rfl rfl rfl ?_
          refine z_goto (pc' := 25) C dX2_passTime_79 (by decide) ?_
          exact ih (x7 + 1, x8 + 1, m15) hf

def sX2_freeRow_2 (s : Nat) (m : zMem) (K26 : Option (Int32)) : (Int32 → Option (Int32)) → Int32 → Option (Int32) := fun rec x1 =>
  if 24 ≤ x1 then
  K26
  else
  kld m (s + 3) 24 x1 fun v2 =>
  if v2 = (-1) then
  some x1
  else
  rec (x1 + 1)
def fX2_freeRow (N : Nat) (s : Nat) (m : zMem) : Option (Int32) :=
  kjn (some (-1)) fun K26 =>
  klp (sX2_freeRow_2 s m K26) N 0
theorem FX2_freeRow_43 {g : zG} (hC : isC g) : zFl wsX2_freeRow RX2 (zcl g) 43 1 10 := ⟨RX2, TX2, 14, hC.2.2 ▸ rfl, by decide +kernel, by decide, by decide +kernel⟩
theorem hdX2_freeRow : yX2_freeRow.cls = RX2 ∧ yX2_freeRow.cls ≠ "java/lang/invoke/MethodHandle" ∧ yX2_freeRow.cls ≠ "java/lang/invoke/VarHandle" ∧ (parseMethodDescriptor yX2_freeRow.desc).map (fun d => d.parameters.length) = some 0 := by decide +kernel
set_option maxHeartbeats 4000000 in
set_option maxRecDepth 100000 in
theorem qX2_freeRow {l : Launch} {g : zG} (hC : isC g)  (N : Nat) (s : Nat) (m : zMem) (hs : isS s) (o : Int32) (hf : fX2_freeRow N s m = some o) : zMI l g yX2_freeRow wsX2_freeRow { frames := 0, cells := 0, slots := 0, locals := 0 } [.ref (zad g s)] m (o, m) := by
  refine z_met_i (cc := cX2_freeRow) (maxL := 2) (lo0 := [some (.ref (zad g s)), none]) (by decide +kernel) rfl rfl (Nat.le_of_ble_eq_true rfl) (fun x hx C hr => ?_)
  unfold fX2_freeRow at hf
  refine z_iconst C dX2_freeRow_0 zi_0 rfl ?_
  refine z_istore_n (i := 1) (lo' := [some (.ref (zad g s)), some (.int 0)]) C dX2_freeRow_1 rfl (Nat.le_of_ble_eq_true rfl) rfl rfl rfl ?_
  refine kjn_V (fun K26 => K26 = some o → zV x g 2 0 0 26 [none, none] [] m) hf (fun  hf => ?_) (fun K26 hK26 hf => ?_)
  · skip
    refine z_iconst C dX2_freeRow_26 zi_m1 rfl ?_
    exact hr _ _ _ _ (congrArg (fun z => (z, m)) (Option.some.inj hf)) dX2_freeRow_27
  · skip
    refine klp_V (fun z => zV x g 2 0 0 2 [some (.ref (zad g s)), some (.int z)] [] m) hf (fun rec z ih hf => ?_)
    generalize z = x1 at hf ⊢
    unfold sX2_freeRow_2 at hf
    try dsimp only at hf
    try dsimp only
    refine z_iload_n (i := 1) C dX2_freeRow_2 rfl rfl rfl ?_
    refine z_bipush C dX2_freeRow_3 zb_24 rfl ?_
    refine z_ic_ge (tgt := 26) C dX2_freeRow_5 (by decide) rfl hf (fun hf => ?_) (fun hf => ?_)
    · skip
      refine z_drop (lo' := [none, some (.int x1)]) 0 rfl ?_
      refine z_drop (lo' := [none, none]) 1 rfl ?_
      exact hK26 hf
    · skip
      refine z_aload_n (i := 0) C dX2_freeRow_8 rfl rfl rfl ?_
      refine z_gr C (FX2_freeRow_43 hC) (sn_0 hC hs) (sc_0 hC hs) rfl dX2_freeRow_9 rfl ?_
      refine z_iload_n (i := 1) C dX2_freeRow_12 rfl rfl rfl ?_
      refine z_iaload C (sn_3 hC hs) (sc_3 hC hs) dX2_freeRow_13 rfl hf (fun v2 hf => ?_)
      refine z_iconst C dX2_freeRow_14 zi_m1 rfl ?_
      refine z_ic_ne (tgt := 20) C dX2_freeRow_15 (by decide) rfl hf (fun hf => ?_) (fun hf => ?_)
      · skip
        refine z_iinc (v := x1 + 1) (lo' := [some (.ref (zad g s)), some (.int (x1 + 1))]) C dX2_freeRow_20 rfl (zinc zi_1) (Nat.le_of_ble_eq_true rfl) rfl rfl rfl ?_
        refine z_goto (pc' := 2) C dX2_freeRow_23 (by decide) ?_
        exact ih (x1 + 1) hf
      · skip
        refine z_iload_n (i := 1) C dX2_freeRow_18 rfl rfl rfl ?_
        exact hr _ _ _ _ (congrArg (fun z => (z, m)) (Option.some.inj hf)) dX2_freeRow_19

def fX3_bucketPlace (a1 : Int32) (a2 : Int32) : Option (Int32) :=
  some ((a1 * 8) + a2)
theorem hdX3_bucketPlace : yX3_bucketPlace.cls ≠ "java/lang/invoke/MethodHandle" ∧ yX3_bucketPlace.cls ≠ "java/lang/invoke/VarHandle" ∧ (parseMethodDescriptor yX3_bucketPlace.desc).map (fun d => d.parameters.length) = some 2 := by decide +kernel
set_option maxHeartbeats 4000000 in
set_option maxRecDepth 100000 in
theorem qX3_bucketPlace {l : Launch} {g : zG}  (a1 : Int32) (a2 : Int32) (m : zMem)  (o : Int32) (hf : fX3_bucketPlace a1 a2 = some o) : zMI l g yX3_bucketPlace wsX3_bucketPlace { frames := 0, cells := 0, slots := 0, locals := 0 } [.int a1, .int a2] m (o, m) := by
  refine z_met_i (cc := cX3_bucketPlace) (maxL := 2) (lo0 := [some (.int a1), some (.int a2)]) (by decide +kernel) rfl rfl (Nat.le_of_ble_eq_true rfl) (fun x hx C hr => ?_)
  unfold fX3_bucketPlace at hf
  refine z_iload_n (i := 0) C dX3_bucketPlace_0 rfl rfl rfl ?_
  refine z_bipush C dX3_bucketPlace_1 zb_8 rfl ?_
  refine z_imul C dX3_bucketPlace_3 rfl ?_
  refine z_iload_n (i := 1) C dX3_bucketPlace_4 rfl rfl rfl ?_
  refine z_iadd C dX3_bucketPlace_5 rfl ?_
  exact hr _ _ _ _ (congrArg (fun z => (z, m)) (Option.some.inj hf)) dX3_bucketPlace_6

def sX3_clear_2 (s : Nat) (a1 : Int32) (K25 : zMem → Option (zMem)) : (Int32 × zMem → Option (zMem)) → Int32 × zMem → Option (zMem) := fun rec (x2, m3) =>
  if 8 ≤ x2 then
  K25 m3
  else
  kc1 (fX3_bucketPlace a1 x2) fun v4 =>
  kst m3 (s + 7) 192 v4 0 fun m5 =>
  rec (x2 + 1, m5)
def fX3_clear (N : Nat) (s : Nat) (a1 : Int32) (m : zMem) : Option (zMem) :=
  kjn (fun (m1 : zMem) =>
  some m1) fun K25 =>
  klp (sX3_clear_2 s a1 K25) N (0, m)
theorem FX3_clear_11 {g : zG} (hC : isC g) : zFl wsX3_clear RX3 (zcl g) 11 2 0 := ⟨RX3, TX3, 3, hC.2.2 ▸ rfl, by decide +kernel, by decide, by decide +kernel⟩
theorem hdX3_clear : yX3_clear.cls = RX3 ∧ yX3_clear.cls ≠ "java/lang/invoke/MethodHandle" ∧ yX3_clear.cls ≠ "java/lang/invoke/VarHandle" ∧ (parseMethodDescriptor yX3_clear.desc).map (fun d => d.parameters.length) = some 1 := by decide +kernel
set_option maxHeartbeats 4000000 in
set_option maxRecDepth 100000 in
theorem qX3_clear {l : Launch} {g : zG} (hC : isC g)  (N : Nat) (s : Nat) (a1 : Int32) (m : zMem) (hs : isS s) (o : zMem) (hf : fX3_clear N s a1 m = some o) : zMV l g yX3_clear wsX3_clear { frames := 1, cells := 0, slots := 0, locals := 21 } [.ref (zad g (s + 6)), .int a1] m o := by
  refine z_met_v (cc := cX3_clear) (maxL := 3) (lo0 := [some (.ref (zad g (s + 6))), some (.int a1), none]) (by decide +kernel) rfl rfl (Nat.le_of_ble_eq_true rfl) (fun x hx C hr => ?_)
  unfold fX3_clear at hf
  refine z_iconst C dX3_clear_0 zi_0 rfl ?_
  refine z_istore_n (i := 2) (lo' := [some (.ref (zad g (s + 6))), some (.int a1), some (.int 0)]) C dX3_clear_1 rfl (Nat.le_of_ble_eq_true rfl) rfl rfl rfl ?_
  refine kjn_V (fun K25 => ∀ (m1 : zMem), K25 m1 = some o → zV x g 3 0 0 25 [none, none, none] [] m1) hf (fun m1 hf => ?_) (fun K25 hK25 hf => ?_)
  · skip
    exact hr _ _ _ (Option.some.inj hf) dX3_clear_25
  · skip
    refine klp_V (fun z => zV x g 3 0 0 2 [some (.ref (zad g (s + 6))), some (.int a1), some (.int z.1)] [] z.2) hf (fun rec z ih hf => ?_)
    obtain ⟨x2, m3⟩ := z
    unfold sX3_clear_2 at hf
    try dsimp only at hf
    try dsimp only
    refine z_iload_n (i := 2) C dX3_clear_2 rfl rfl rfl ?_
    refine z_bipush C dX3_clear_3 zb_8 rfl ?_
    refine z_ic_ge (tgt := 25) C dX3_clear_5 (by decide) rfl hf (fun hf => ?_) (fun hf => ?_)
    · skip
      refine z_drop (lo' := [none, some (.int a1), some (.int x2)]) 0 rfl ?_
      refine z_drop (lo' := [none, none, some (.int x2)]) 1 rfl ?_
      refine z_drop (lo' := [none, none, none]) 2 rfl ?_
      exact hK25 _ hf
    · skip
      refine z_aload_n (i := 0) C dX3_clear_8 rfl rfl rfl ?_
      refine z_gr C (FX3_clear_11 hC) (sn_6 hC hs) (sc_6 hC hs) rfl dX3_clear_9 rfl ?_
      refine z_iload_n (i := 1) C dX3_clear_12 rfl rfl rfl ?_
      refine z_iload_n (i := 2) C dX3_clear_13 rfl rfl rfl ?_
      refine z_csiR (As := [.int a1, .int x2]) (st := [.ref (zad g (s + 7))]) (m := m3) C gX3_clear_X3_bucketPlace hdX3_bucketPlace rfl (fun z h => qX3_bucketPlace a1 x2 m3 z h) rfl (Nat.le_of_ble_eq_true rfl) ⟨Nat.le_of_ble_eq_true rfl, Nat.le_of_ble_eq_true rfl⟩ ⟨Nat.le_refl _, Nat.le_refl _⟩ dX3_clear_14 rfl rfl hf (fun v4 hf => ?_)
      refine z_iconst C dX3_clear_17 zi_0 rfl ?_
      refine z_iastore C (sn_7 hC hs) (sc_7 hC hs) dX3_clear_18 rfl hf (fun m5 hf => ?_)
      refine z_iinc (v := x2 + 1) (lo' := [some (.ref (zad g (s + 6))), some (.int a1), some (.int (x2 + 1))]) C dX3_clear_19 rfl (zinc zi_1) (Nat.le_of_ble_eq_true rfl) rfl rfl rfl ?_
      refine z_goto (pc' := 2) C dX3_clear_22 (by decide) ?_
      exact ih (x2 + 1, m5) hf

def fX3_bucketFor (a1 : Int32) (a2 : Int32) : Option (Int32) :=
  klt ((a1 ^^^ a2) &&& 255 : Int32) fun v1 =>
  kc1 (fJ6_numberOfLeadingZeros_0f7a4 (v1 ||| 1)) fun v2 =>
  some (v2 - 24)
theorem hdX3_bucketFor : yX3_bucketFor.cls ≠ "java/lang/invoke/MethodHandle" ∧ yX3_bucketFor.cls ≠ "java/lang/invoke/VarHandle" ∧ (parseMethodDescriptor yX3_bucketFor.desc).map (fun d => d.parameters.length) = some 2 := by decide +kernel
set_option maxHeartbeats 4000000 in
set_option maxRecDepth 100000 in
theorem qX3_bucketFor {l : Launch} {g : zG}  (a1 : Int32) (a2 : Int32) (m : zMem)  (o : Int32) (hf : fX3_bucketFor a1 a2 = some o) : zMI l g yX3_bucketFor wsX3_bucketFor { frames := 1, cells := 0, slots := 0, locals := 21 } [.int a1, .int a2] m (o, m) := by
  refine z_met_i (cc := cX3_bucketFor) (maxL := 3) (lo0 := [some (.int a1), some (.int a2), none]) (by decide +kernel) rfl rfl (Nat.le_of_ble_eq_true rfl) (fun x hx C hr => ?_)
  unfold fX3_bucketFor at hf
  refine z_iload_n (i := 0) C dX3_bucketFor_0 rfl rfl rfl ?_
  refine z_iload_n (i := 1) C dX3_bucketFor_1 rfl rfl rfl ?_
  refine z_ixor C dX3_bucketFor_2 rfl ?_
  refine z_sipush C dX3_bucketFor_3 zs_255 rfl ?_
  refine z_iand C dX3_bucketFor_6 rfl ?_
  refine z_top _ hf (fun v1 hf => ?_)
  refine z_istore_n (i := 2) (lo' := [some (.int a1), some (.int a2), some (.int v1)]) C dX3_bucketFor_7 rfl (Nat.le_of_ble_eq_true rfl) rfl rfl rfl ?_
  refine z_iload_n (i := 2) C dX3_bucketFor_8 rfl rfl rfl ?_
  refine z_iconst C dX3_bucketFor_9 zi_1 rfl ?_
  refine z_ior C dX3_bucketFor_10 rfl ?_
  refine z_csiR (As := [.int (v1 ||| 1)]) (st := []) (m := m) C gX3_bucketFor_J6_numberOfLeadingZeros_0f7a4 hdJ6_numberOfLeadingZeros_0f7a4 rfl (fun z h => qJ6_numberOfLeadingZeros_0f7a4 (v1 ||| 1) m z h) rfl (Nat.le_of_ble_eq_true rfl) ⟨Nat.le_of_ble_eq_true rfl, Nat.le_of_ble_eq_true rfl⟩ ⟨Nat.le_refl _, Nat.le_refl _⟩ dX3_bucketFor_11 rfl rfl hf (fun v2 hf => ?_)
  refine z_bipush C dX3_bucketFor_14 zb_24 rfl ?_
  refine z_isub C dX3_bucketFor_16 rfl ?_
  exact hr _ _ _ _ (congrArg (fun z => (z, m)) (Option.some.inj hf)) dX3_bucketFor_17

def sX3_indexOf_7 (s : Nat) (a1 : Int32) (a2 : Int32) (m : zMem) (v1 : Int32) (K40 : Option (Int32)) : (Int32 → Option (Int32)) → Int32 → Option (Int32) := fun rec x2 =>
  kld m (s + 7) 192 a1 fun v3 =>
  if v3 ≤ x2 then
  K40
  else
  kld m (s + 8) 768 (v1 + x2) fun v4 =>
  if v4 = a2 then
  some x2
  else
  rec (x2 + 1)
def fX3_indexOf (N : Nat) (s : Nat) (a1 : Int32) (a2 : Int32) (m : zMem) : Option (Int32) :=
  klt (a1 * 4 : Int32) fun v1 =>
  kjn (some (-1)) fun K40 =>
  klp (sX3_indexOf_7 s a1 a2 m v1 K40) N 0
theorem FX3_indexOf_11 {g : zG} (hC : isC g) : zFl wsX3_indexOf RX3 (zcl g) 11 2 0 := ⟨RX3, TX3, 3, hC.2.2 ▸ rfl, by decide +kernel, by decide, by decide +kernel⟩
theorem FX3_indexOf_15 {g : zG} (hC : isC g) : zFl wsX3_indexOf RX3 (zcl g) 15 2 1 := ⟨RX3, TX3, 3, hC.2.2 ▸ rfl, by decide +kernel, by decide, by decide +kernel⟩
theorem hdX3_indexOf : yX3_indexOf.cls = RX3 ∧ yX3_indexOf.cls ≠ "java/lang/invoke/MethodHandle" ∧ yX3_indexOf.cls ≠ "java/lang/invoke/VarHandle" ∧ (parseMethodDescriptor yX3_indexOf.desc).map (fun d => d.parameters.length) = some 2 := by decide +kernel
set_option maxHeartbeats 4000000 in
set_option maxRecDepth 100000 in
theorem qX3_indexOf {l : Launch} {g : zG} (hC : isC g)  (N : Nat) (s : Nat) (a1 : Int32) (a2 : Int32) (m : zMem) (hs : isS s) (o : Int32) (hf : fX3_indexOf N s a1 a2 m = some o) : zMI l g yX3_indexOf wsX3_indexOf { frames := 0, cells := 0, slots := 0, locals := 0 } [.ref (zad g (s + 6)), .int a1, .int a2] m (o, m) := by
  refine z_met_i (cc := cX3_indexOf) (maxL := 5) (lo0 := [some (.ref (zad g (s + 6))), some (.int a1), some (.int a2), none, none]) (by decide +kernel) rfl rfl (Nat.le_of_ble_eq_true rfl) (fun x hx C hr => ?_)
  unfold fX3_indexOf at hf
  refine z_iload_n (i := 1) C dX3_indexOf_0 rfl rfl rfl ?_
  refine z_iconst C dX3_indexOf_1 zi_4 rfl ?_
  refine z_imul C dX3_indexOf_2 rfl ?_
  refine z_top _ hf (fun v1 hf => ?_)
  refine z_istore_n (i := 3) (lo' := [some (.ref (zad g (s + 6))), some (.int a1), some (.int a2), some (.int v1), none]) C dX3_indexOf_3 rfl (Nat.le_of_ble_eq_true rfl) rfl rfl rfl ?_
  refine z_iconst C dX3_indexOf_4 zi_0 rfl ?_
  refine z_istore (lo' := [some (.ref (zad g (s + 6))), some (.int a1), some (.int a2), some (.int v1), some (.int 0)]) C dX3_indexOf_5 (Nat.le_of_ble_eq_true rfl) rfl rfl rfl ?_
  refine kjn_V (fun K40 => K40 = some o → zV x g 5 0 0 40 [none, none, none, none, none] [] m) hf (fun  hf => ?_) (fun K40 hK40 hf => ?_)
  · skip
    refine z_iconst C dX3_indexOf_40 zi_m1 rfl ?_
    exact hr _ _ _ _ (congrArg (fun z => (z, m)) (Option.some.inj hf)) dX3_indexOf_41
  · skip
    refine klp_V (fun z => zV x g 5 0 0 7 [some (.ref (zad g (s + 6))), some (.int a1), some (.int a2), some (.int v1), some (.int z)] [] m) hf (fun rec z ih hf => ?_)
    generalize z = x2 at hf ⊢
    unfold sX3_indexOf_7 at hf
    try dsimp only at hf
    try dsimp only
    refine z_iload C dX3_indexOf_7 rfl rfl ?_
    refine z_aload_n (i := 0) C dX3_indexOf_9 rfl rfl rfl ?_
    refine z_gr C (FX3_indexOf_11 hC) (sn_6 hC hs) (sc_6 hC hs) rfl dX3_indexOf_10 rfl ?_
    refine z_iload_n (i := 1) C dX3_indexOf_13 rfl rfl rfl ?_
    refine z_iaload C (sn_7 hC hs) (sc_7 hC hs) dX3_indexOf_14 rfl hf (fun v3 hf => ?_)
    refine z_ic_ge (tgt := 40) C dX3_indexOf_15 (by decide) rfl hf (fun hf => ?_) (fun hf => ?_)
    · skip
      refine z_drop (lo' := [none, some (.int a1), some (.int a2), some (.int v1), some (.int x2)]) 0 rfl ?_
      refine z_drop (lo' := [none, none, some (.int a2), some (.int v1), some (.int x2)]) 1 rfl ?_
      refine z_drop (lo' := [none, none, none, some (.int v1), some (.int x2)]) 2 rfl ?_
      refine z_drop (lo' := [none, none, none, none, some (.int x2)]) 3 rfl ?_
      refine z_drop (lo' := [none, none, none, none, none]) 4 rfl ?_
      exact hK40 hf
    · skip
      refine z_aload_n (i := 0) C dX3_indexOf_18 rfl rfl rfl ?_
      refine z_gr C (FX3_indexOf_15 hC) (sn_6 hC hs) (sc_6 hC hs) rfl dX3_indexOf_19 rfl ?_
      refine z_iload_n (i := 3) C dX3_indexOf_22 rfl rfl rfl ?_
      refine z_iload C dX3_indexOf_23 rfl rfl ?_
      refine z_iadd C dX3_indexOf_25 rfl ?_
      refine z_iaload C (sn_8 hC hs) (sc_8 hC hs) dX3_indexOf_26 rfl hf (fun v4 hf => ?_)
      refine z_iload_n (i := 2) C dX3_indexOf_27 rfl rfl rfl ?_
      refine z_ic_ne (tgt := 34) C dX3_indexOf_28 (by decide) rfl hf (fun hf => ?_) (fun hf => ?_)
      · skip
        refine z_iinc (v := x2 + 1) (lo' := [some (.ref (zad g (s + 6))), some (.int a1), some (.int a2), some (.int v1), some (.int (x2 + 1))]) C dX3_indexOf_34 rfl (zinc zi_1) (Nat.le_of_ble_eq_true rfl) rfl rfl rfl ?_
        refine z_goto (pc' := 7) C dX3_indexOf_37 (by decide) ?_
        exact ih (x2 + 1) hf
      · skip
        refine z_iload C dX3_indexOf_31 rfl rfl ?_
        exact hr _ _ _ _ (congrArg (fun z => (z, m)) (Option.some.inj hf)) dX3_indexOf_33

def sX3_removeAt_35 (s : Nat) (v3 : Int32) (K79 : zMem → Option (zMem)) : (Int32 × zMem → Option (zMem)) → Int32 × zMem → Option (zMem) := fun rec (x8, m9) =>
  if v3 ≤ x8 then
  K79 m9
  else
  kld m9 (s + 8) 768 (x8 + 1) fun v10 =>
  kst m9 (s + 8) 768 x8 v10 fun m11 =>
  kld m11 (s + 9) 768 (x8 + 1) fun v12 =>
  kst m11 (s + 9) 768 x8 v12 fun m13 =>
  rec (x8 + 1, m13)
def fX3_removeAt (N : Nat) (s : Nat) (a1 : Int32) (a2 : Int32) (m : zMem) : Option (zMem) :=
  if a2 < 0 then
  some m
  else
  kld m (s + 7) 192 a1 fun v1 =>
  if a2 < v1 then
  kld m (s + 7) 192 a1 fun v2 =>
  klt (((a1 * 4) + v2) - 1 : Int32) fun v3 =>
  klt ((a1 * 4) + a2 : Int32) fun v4 =>
  kjn (fun (m5 : zMem) =>
  kld m5 (s + 7) 192 a1 fun v6 =>
  kst m5 (s + 7) 192 a1 (v6 - 1) fun m7 =>
  some m7) fun K79 =>
  klp (sX3_removeAt_35 s v3 K79) N (v4, m)
  else
  some m
theorem FX3_removeAt_11 {g : zG} (hC : isC g) : zFl wsX3_removeAt RX3 (zcl g) 11 2 0 := ⟨RX3, TX3, 3, hC.2.2 ▸ rfl, by decide +kernel, by decide, by decide +kernel⟩
theorem FX3_removeAt_15 {g : zG} (hC : isC g) : zFl wsX3_removeAt RX3 (zcl g) 15 2 1 := ⟨RX3, TX3, 3, hC.2.2 ▸ rfl, by decide +kernel, by decide, by decide +kernel⟩
theorem FX3_removeAt_18 {g : zG} (hC : isC g) : zFl wsX3_removeAt RX3 (zcl g) 18 2 2 := ⟨RX3, TX3, 3, hC.2.2 ▸ rfl, by decide +kernel, by decide, by decide +kernel⟩
theorem hdX3_removeAt : yX3_removeAt.cls = RX3 ∧ yX3_removeAt.cls ≠ "java/lang/invoke/MethodHandle" ∧ yX3_removeAt.cls ≠ "java/lang/invoke/VarHandle" ∧ (parseMethodDescriptor yX3_removeAt.desc).map (fun d => d.parameters.length) = some 2 := by decide +kernel
set_option maxHeartbeats 4000000 in
set_option maxRecDepth 100000 in
theorem qX3_removeAt {l : Launch} {g : zG} (hC : isC g)  (N : Nat) (s : Nat) (a1 : Int32) (a2 : Int32) (m : zMem) (hs : isS s) (o : zMem) (hf : fX3_removeAt N s a1 a2 m = some o) : zMV l g yX3_removeAt wsX3_removeAt { frames := 0, cells := 0, slots := 0, locals := 0 } [.ref (zad g (s + 6)), .int a1, .int a2] m o := by
  refine z_met_v (cc := cX3_removeAt) (maxL := 5) (lo0 := [some (.ref (zad g (s + 6))), some (.int a1), some (.int a2), none, none]) (by decide +kernel) rfl rfl (Nat.le_of_ble_eq_true rfl) (fun x hx C hr => ?_)
  unfold fX3_removeAt at hf
  refine z_iload_n (i := 2) C dX3_removeAt_0 rfl rfl rfl ?_
  refine z_if_lt (tgt := 14) C dX3_removeAt_1 (by decide) rfl hf (fun hf => ?_) (fun hf => ?_)
  · skip
    exact hr _ _ _ (Option.some.inj hf) dX3_removeAt_14
  · skip
    refine z_iload_n (i := 2) C dX3_removeAt_4 rfl rfl rfl ?_
    refine z_aload_n (i := 0) C dX3_removeAt_5 rfl rfl rfl ?_
    refine z_gr C (FX3_removeAt_11 hC) (sn_6 hC hs) (sc_6 hC hs) rfl dX3_removeAt_6 rfl ?_
    refine z_iload_n (i := 1) C dX3_removeAt_9 rfl rfl rfl ?_
    refine z_iaload C (sn_7 hC hs) (sc_7 hC hs) dX3_removeAt_10 rfl hf (fun v1 hf => ?_)
    refine z_ic_lt (tgt := 15) C dX3_removeAt_11 (by decide) rfl hf (fun hf => ?_) (fun hf => ?_)
    · skip
      refine z_iload_n (i := 1) C dX3_removeAt_15 rfl rfl rfl ?_
      refine z_iconst C dX3_removeAt_16 zi_4 rfl ?_
      refine z_imul C dX3_removeAt_17 rfl ?_
      refine z_aload_n (i := 0) C dX3_removeAt_18 rfl rfl rfl ?_
      refine z_gr C (FX3_removeAt_11 hC) (sn_6 hC hs) (sc_6 hC hs) rfl dX3_removeAt_19 rfl ?_
      refine z_iload_n (i := 1) C dX3_removeAt_22 rfl rfl rfl ?_
      refine z_iaload C (sn_7 hC hs) (sc_7 hC hs) dX3_removeAt_23 rfl hf (fun v2 hf => ?_)
      refine z_iadd C dX3_removeAt_24 rfl ?_
      refine z_iconst C dX3_removeAt_25 zi_1 rfl ?_
      refine z_isub C dX3_removeAt_26 rfl ?_
      refine z_top _ hf (fun v3 hf => ?_)
      refine z_istore_n (i := 3) (lo' := [some (.ref (zad g (s + 6))), some (.int a1), some (.int a2), some (.int v3), none]) C dX3_removeAt_27 rfl (Nat.le_of_ble_eq_true rfl) rfl rfl rfl ?_
      refine z_iload_n (i := 1) C dX3_removeAt_28 rfl rfl rfl ?_
      refine z_iconst C dX3_removeAt_29 zi_4 rfl ?_
      refine z_imul C dX3_removeAt_30 rfl ?_
      refine z_iload_n (i := 2) C dX3_removeAt_31 rfl rfl rfl ?_
      refine z_iadd C dX3_removeAt_32 rfl ?_
      refine z_top _ hf (fun v4 hf => ?_)
      refine z_istore (lo' := [some (.ref (zad g (s + 6))), some (.int a1), some (.int a2), some (.int v3), some (.int v4)]) C dX3_removeAt_33 (Nat.le_of_ble_eq_true rfl) rfl rfl rfl ?_
      refine z_drop (lo' := [some (.ref (zad g (s + 6))), some (.int a1), none, some (.int v3), some (.int v4)]) 2 rfl ?_
      refine kjn_V (fun K79 => ∀ (m5 : zMem), K79 m5 = some o → zV x g 5 0 0 79 [some (.ref (zad g (s + 6))), some (.int a1), none, none, none] [] m5) hf (fun m5 hf => ?_) (fun K79 hK79 hf => ?_)
      · skip
        refine z_aload_n (i := 0) C dX3_removeAt_79 rfl rfl rfl ?_
        refine z_gr C (FX3_removeAt_11 hC) (sn_6 hC hs) (sc_6 hC hs) rfl dX3_removeAt_80 rfl ?_
        refine z_iload_n (i := 1) C dX3_removeAt_83 rfl rfl rfl ?_
        refine z_dup2 C dX3_removeAt_84 rfl rfl rfl ?_
        refine z_iaload C (sn_7 hC hs) (sc_7 hC hs) dX3_removeAt_85 rfl hf (fun v6 hf => ?_)
        refine z_iconst C dX3_removeAt_86 zi_1 rfl ?_
        refine z_isub C dX3_removeAt_87 rfl ?_
        refine z_iastore C (sn_7 hC hs) (sc_7 hC hs) dX3_removeAt_88 rfl hf (fun m7 hf => ?_)
        exact hr _ _ _ (Option.some.inj hf) dX3_removeAt_89
      · skip
        refine klp_V (fun z => zV x g 5 0 0 35 [some (.ref (zad g (s + 6))), some (.int a1), none, some (.int v3), some (.int z.1)] [] z.2) hf (fun rec z ih hf => ?_)
        obtain ⟨x8, m9⟩ := z
        unfold sX3_removeAt_35 at hf
        try dsimp only at hf
        try dsimp only
        refine z_iload C dX3_removeAt_35 rfl rfl ?_
        refine z_iload_n (i := 3) C dX3_removeAt_37 rfl rfl rfl ?_
        refine z_ic_ge (tgt := 79) C dX3_removeAt_38 (by decide) rfl hf (fun hf => ?_) (fun hf => ?_)
        · skip
          refine z_drop (lo' := [some (.ref (zad g (s + 6))), some (.int a1), none, none, some (.int x8)]) 3 rfl ?_
          refine z_drop (lo' := [some (.ref (zad g (s + 6))), some (.int a1), none, none, none]) 4 rfl ?_
          exact hK79 _ hf
        · skip
          refine z_aload_n (i := 0) C dX3_removeAt_41 rfl rfl rfl ?_
          refine z_gr C (FX3_removeAt_15 hC) (sn_6 hC hs) (sc_6 hC hs) rfl dX3_removeAt_42 rfl ?_
          refine z_iload C dX3_removeAt_45 rfl rfl ?_
          refine z_aload_n (i := 0) C dX3_removeAt_47 rfl rfl rfl ?_
          refine z_gr C (FX3_removeAt_15 hC) (sn_6 hC hs) (sc_6 hC hs) rfl dX3_removeAt_48 rfl ?_
          refine z_iload C dX3_removeAt_51 rfl rfl ?_
          refine z_iconst C dX3_removeAt_53 zi_1 rfl ?_
          refine z_iadd C dX3_removeAt_54 rfl ?_
          refine z_iaload C (sn_8 hC hs) (sc_8 hC hs) dX3_removeAt_55 rfl hf (fun v10 hf => ?_)
          refine z_iastore C (sn_8 hC hs) (sc_8 hC hs) dX3_removeAt_56 rfl hf (fun m11 hf => ?_)
          refine z_aload_n (i := 0) C dX3_removeAt_57 rfl rfl rfl ?_
          refine z_gr C (FX3_removeAt_18 hC) (sn_6 hC hs) (sc_6 hC hs) rfl dX3_removeAt_58 rfl ?_
          refine z_iload C dX3_removeAt_61 rfl rfl ?_
          refine z_aload_n (i := 0) C dX3_removeAt_63 rfl rfl rfl ?_
          refine z_gr C (FX3_removeAt_18 hC) (sn_6 hC hs) (sc_6 hC hs) rfl dX3_removeAt_64 rfl ?_
          refine z_iload C dX3_removeAt_67 rfl rfl ?_
          refine z_iconst C dX3_removeAt_69 zi_1 rfl ?_
          refine z_iadd C dX3_removeAt_70 rfl ?_
          refine z_iaload C (sn_9 hC hs) (sc_9 hC hs) dX3_removeAt_71 rfl hf (fun v12 hf => ?_)
          refine z_iastore C (sn_9 hC hs) (sc_9 hC hs) dX3_removeAt_72 rfl hf (fun m13 hf => ?_)
          refine z_iinc (v := x8 + 1) (lo' := [some (.ref (zad g (s + 6))), some (.int a1), none, some (.int v3), some (.int (x8 + 1))]) C dX3_removeAt_73 rfl (zinc zi_1) (Nat.le_of_ble_eq_true rfl) rfl rfl rfl ?_
          refine z_goto (pc' := 35) C dX3_removeAt_76 (by decide) ?_
          exact ih (x8 + 1, m13) hf
    · skip
      exact hr _ _ _ (Option.some.inj hf) dX3_removeAt_14

def fX3_append (N : Nat) (s : Nat) (a1 : Int32) (a2 : Int32) (a3 : Int32) (m : zMem) : Option (zMem) :=
  kld m (s + 7) 192 a1 fun v1 =>
  kjn (fun (m2 : zMem) =>
  kld m2 (s + 7) 192 a1 fun v3 =>
  klt ((a1 * 4) + v3 : Int32) fun v4 =>
  kst m2 (s + 8) 768 v4 a2 fun m5 =>
  kst m5 (s + 9) 768 v4 a3 fun m6 =>
  kld m6 (s + 7) 192 a1 fun v7 =>
  kst m6 (s + 7) 192 a1 (v7 + 1) fun m8 =>
  some m8) fun K16 =>
  if v1 < 4 then
  K16 m
  else
  kc1 (fX3_removeAt N s a1 0 m) fun m9 =>
  K16 m9
theorem FX3_append_11 {g : zG} (hC : isC g) : zFl wsX3_append RX3 (zcl g) 11 2 0 := ⟨RX3, TX3, 3, hC.2.2 ▸ rfl, by decide +kernel, by decide, by decide +kernel⟩
theorem FX3_append_15 {g : zG} (hC : isC g) : zFl wsX3_append RX3 (zcl g) 15 2 1 := ⟨RX3, TX3, 3, hC.2.2 ▸ rfl, by decide +kernel, by decide, by decide +kernel⟩
theorem FX3_append_18 {g : zG} (hC : isC g) : zFl wsX3_append RX3 (zcl g) 18 2 2 := ⟨RX3, TX3, 3, hC.2.2 ▸ rfl, by decide +kernel, by decide, by decide +kernel⟩
theorem hdX3_append : yX3_append.cls = RX3 ∧ yX3_append.cls ≠ "java/lang/invoke/MethodHandle" ∧ yX3_append.cls ≠ "java/lang/invoke/VarHandle" ∧ (parseMethodDescriptor yX3_append.desc).map (fun d => d.parameters.length) = some 3 := by decide +kernel
set_option maxHeartbeats 4000000 in
set_option maxRecDepth 100000 in
theorem qX3_append {l : Launch} {g : zG} (hC : isC g)  (N : Nat) (s : Nat) (a1 : Int32) (a2 : Int32) (a3 : Int32) (m : zMem) (hs : isS s) (o : zMem) (hf : fX3_append N s a1 a2 a3 m = some o) : zMV l g yX3_append wsX3_append { frames := 1, cells := 0, slots := 0, locals := 24 } [.ref (zad g (s + 6)), .int a1, .int a2, .int a3] m o := by
  refine z_met_v (cc := cX3_append) (maxL := 5) (lo0 := [some (.ref (zad g (s + 6))), some (.int a1), some (.int a2), some (.int a3), none]) (by decide +kernel) rfl rfl (Nat.le_of_ble_eq_true rfl) (fun x hx C hr => ?_)
  unfold fX3_append at hf
  refine z_aload_n (i := 0) C dX3_append_0 rfl rfl rfl ?_
  refine z_gr C (FX3_append_11 hC) (sn_6 hC hs) (sc_6 hC hs) rfl dX3_append_1 rfl ?_
  refine z_iload_n (i := 1) C dX3_append_4 rfl rfl rfl ?_
  refine z_iaload C (sn_7 hC hs) (sc_7 hC hs) dX3_append_5 rfl hf (fun v1 hf => ?_)
  refine z_iconst C dX3_append_6 zi_4 rfl ?_
  refine kjn_V (fun K16 => ∀ (m2 : zMem), K16 m2 = some o → zV x g 5 0 0 16 [some (.ref (zad g (s + 6))), some (.int a1), some (.int a2), some (.int a3), none] [] m2) hf (fun m2 hf => ?_) (fun K16 hK16 hf => ?_)
  · skip
    refine z_iload_n (i := 1) C dX3_append_16 rfl rfl rfl ?_
    refine z_iconst C dX3_append_17 zi_4 rfl ?_
    refine z_imul C dX3_append_18 rfl ?_
    refine z_aload_n (i := 0) C dX3_append_19 rfl rfl rfl ?_
    refine z_gr C (FX3_append_11 hC) (sn_6 hC hs) (sc_6 hC hs) rfl dX3_append_20 rfl ?_
    refine z_iload_n (i := 1) C dX3_append_23 rfl rfl rfl ?_
    refine z_iaload C (sn_7 hC hs) (sc_7 hC hs) dX3_append_24 rfl hf (fun v3 hf => ?_)
    refine z_iadd C dX3_append_25 rfl ?_
    refine z_top _ hf (fun v4 hf => ?_)
    refine z_istore (lo' := [some (.ref (zad g (s + 6))), some (.int a1), some (.int a2), some (.int a3), some (.int v4)]) C dX3_append_26 (Nat.le_of_ble_eq_true rfl) rfl rfl rfl ?_
    refine z_aload_n (i := 0) C dX3_append_28 rfl rfl rfl ?_
    refine z_gr C (FX3_append_15 hC) (sn_6 hC hs) (sc_6 hC hs) rfl dX3_append_29 rfl ?_
    refine z_iload C dX3_append_32 rfl rfl ?_
    refine z_iload_n (i := 2) C dX3_append_34 rfl rfl rfl ?_
    refine z_iastore C (sn_8 hC hs) (sc_8 hC hs) dX3_append_35 rfl hf (fun m5 hf => ?_)
    refine z_aload_n (i := 0) C dX3_append_36 rfl rfl rfl ?_
    refine z_gr C (FX3_append_18 hC) (sn_6 hC hs) (sc_6 hC hs) rfl dX3_append_37 rfl ?_
    refine z_iload C dX3_append_40 rfl rfl ?_
    refine z_iload_n (i := 3) C dX3_append_42 rfl rfl rfl ?_
    refine z_iastore C (sn_9 hC hs) (sc_9 hC hs) dX3_append_43 rfl hf (fun m6 hf => ?_)
    refine z_aload_n (i := 0) C dX3_append_44 rfl rfl rfl ?_
    refine z_gr C (FX3_append_11 hC) (sn_6 hC hs) (sc_6 hC hs) rfl dX3_append_45 rfl ?_
    refine z_iload_n (i := 1) C dX3_append_48 rfl rfl rfl ?_
    refine z_dup2 C dX3_append_49 rfl rfl rfl ?_
    refine z_iaload C (sn_7 hC hs) (sc_7 hC hs) dX3_append_50 rfl hf (fun v7 hf => ?_)
    refine z_iconst C dX3_append_51 zi_1 rfl ?_
    refine z_iadd C dX3_append_52 rfl ?_
    refine z_iastore C (sn_7 hC hs) (sc_7 hC hs) dX3_append_53 rfl hf (fun m8 hf => ?_)
    exact hr _ _ _ (Option.some.inj hf) dX3_append_54
  · skip
    refine z_ic_lt (tgt := 16) C dX3_append_7 (by decide) rfl hf (fun hf => ?_) (fun hf => ?_)
    · skip
      exact hK16 _ hf
    · skip
      refine z_aload_n (i := 0) C dX3_append_10 rfl rfl rfl ?_
      refine z_iload_n (i := 1) C dX3_append_11 rfl rfl rfl ?_
      refine z_iconst C dX3_append_12 zi_0 rfl ?_
      refine z_cvvW (As := [.int a1, .int 0]) (st := []) (m := m) C (cl_2 hC) (sn_6 hC hs) (sc_6 hC hs) gX3_append_X3_removeAt hdX3_removeAt rfl (fun z h => qX3_removeAt hC N s a1 0 m hs z h) rfl (Nat.le_of_ble_eq_true rfl) ⟨Nat.le_of_ble_eq_true rfl, Nat.le_of_ble_eq_true rfl⟩ ⟨Nat.le_refl _, Nat.le_refl _⟩ dX3_append_13 rfl rfl hf (fun m9 hf => ?_)
      exact hK16 _ hf

def sX3_entriesOfOrigin_23 (s : Nat) (a3 : Int32) (m : zMem) (x3 : Int32) (v4 : Int32) (K58 : Int32 → Option (Int32)) : (Int32 × Int32 → Option (Int32)) → Int32 × Int32 → Option (Int32) := fun rec (x6, x7) =>
  kld m (s + 7) 192 x3 fun v8 =>
  if v8 ≤ x7 then
  K58 x6
  else
  kld m (s + 9) 768 (v4 + x7) fun v9 =>
  if v9 = a3 then
  rec (x6 + 1, x7 + 1)
  else
  rec (x6, x7 + 1)
def sX3_entriesOfOrigin_6 (N : Nat) (s : Nat) (a1 : Int32) (a2 : Int32) (a3 : Int32) (m : zMem) (K64 : Int32 → Option (Int32)) : (Int32 × Int32 → Option (Int32)) → Int32 × Int32 → Option (Int32) := fun rec (x2, x3) =>
  if (a1 + a2) ≤ x3 then
  K64 x2
  else
  klt (x3 * 4 : Int32) fun v4 =>
  kjn (fun (w5 : Int32) =>
  rec (w5, x3 + 1)) fun K58 =>
  klp (sX3_entriesOfOrigin_23 s a3 m x3 v4 K58) N (x2, 0)
def fX3_entriesOfOrigin (N : Nat) (s : Nat) (a1 : Int32) (a2 : Int32) (a3 : Int32) (m : zMem) : Option (Int32) :=
  kjn (fun (w1 : Int32) =>
  some w1) fun K64 =>
  klp (sX3_entriesOfOrigin_6 N s a1 a2 a3 m K64) N (0, a1)
theorem FX3_entriesOfOrigin_11 {g : zG} (hC : isC g) : zFl wsX3_entriesOfOrigin RX3 (zcl g) 11 2 0 := ⟨RX3, TX3, 3, hC.2.2 ▸ rfl, by decide +kernel, by decide, by decide +kernel⟩
theorem FX3_entriesOfOrigin_18 {g : zG} (hC : isC g) : zFl wsX3_entriesOfOrigin RX3 (zcl g) 18 2 2 := ⟨RX3, TX3, 3, hC.2.2 ▸ rfl, by decide +kernel, by decide, by decide +kernel⟩
theorem hdX3_entriesOfOrigin : yX3_entriesOfOrigin.cls = RX3 ∧ yX3_entriesOfOrigin.cls ≠ "java/lang/invoke/MethodHandle" ∧ yX3_entriesOfOrigin.cls ≠ "java/lang/invoke/VarHandle" ∧ (parseMethodDescriptor yX3_entriesOfOrigin.desc).map (fun d => d.parameters.length) = some 3 := by decide +kernel
set_option maxHeartbeats 4000000 in
set_option maxRecDepth 100000 in
theorem qX3_entriesOfOrigin {l : Launch} {g : zG} (hC : isC g)  (N : Nat) (s : Nat) (a1 : Int32) (a2 : Int32) (a3 : Int32) (m : zMem) (hs : isS s) (o : Int32) (hf : fX3_entriesOfOrigin N s a1 a2 a3 m = some o) : zMI l g yX3_entriesOfOrigin wsX3_entriesOfOrigin { frames := 0, cells := 0, slots := 0, locals := 0 } [.ref (zad g (s + 6)), .int a1, .int a2, .int a3] m (o, m) := by
  refine z_met_i (cc := cX3_entriesOfOrigin) (maxL := 8) (lo0 := [some (.ref (zad g (s + 6))), some (.int a1), some (.int a2), some (.int a3), none, none, none, none]) (by decide +kernel) rfl rfl (Nat.le_of_ble_eq_true rfl) (fun x hx C hr => ?_)
  unfold fX3_entriesOfOrigin at hf
  refine z_iconst C dX3_entriesOfOrigin_0 zi_0 rfl ?_
  refine z_istore (lo' := [some (.ref (zad g (s + 6))), some (.int a1), some (.int a2), some (.int a3), some (.int 0), none, none, none]) C dX3_entriesOfOrigin_1 (Nat.le_of_ble_eq_true rfl) rfl rfl rfl ?_
  refine z_iload_n (i := 1) C dX3_entriesOfOrigin_3 rfl rfl rfl ?_
  refine z_istore (lo' := [some (.ref (zad g (s + 6))), some (.int a1), some (.int a2), some (.int a3), some (.int 0), some (.int a1), none, none]) C dX3_entriesOfOrigin_4 (Nat.le_of_ble_eq_true rfl) rfl rfl rfl ?_
  refine kjn_V (fun K64 => ∀ (w1 : Int32), K64 w1 = some o → zV x g 8 0 0 64 [none, none, none, none, some (.int w1), none, none, none] [] m) hf (fun w1 hf => ?_) (fun K64 hK64 hf => ?_)
  · skip
    refine z_iload C dX3_entriesOfOrigin_64 rfl rfl ?_
    exact hr _ _ _ _ (congrArg (fun z => (z, m)) (Option.some.inj hf)) dX3_entriesOfOrigin_66
  · skip
    refine klp_V (fun z => zV x g 8 0 0 6 [some (.ref (zad g (s + 6))), some (.int a1), some (.int a2), some (.int a3), some (.int z.1), some (.int z.2), none, none] [] m) hf (fun rec z ih hf => ?_)
    obtain ⟨x2, x3⟩ := z
    unfold sX3_entriesOfOrigin_6 at hf
    try dsimp only at hf
    try dsimp only
    refine z_iload C dX3_entriesOfOrigin_6 rfl rfl ?_
    refine z_iload_n (i := 1) C dX3_entriesOfOrigin_8 rfl rfl rfl ?_
    refine z_iload_n (i := 2) C dX3_entriesOfOrigin_9 rfl rfl rfl ?_
    refine z_iadd C dX3_entriesOfOrigin_10 rfl ?_
    refine z_ic_ge (tgt := 64) C dX3_entriesOfOrigin_11 (by decide) rfl hf (fun hf => ?_) (fun hf => ?_)
    · skip
      refine z_drop (lo' := [none, some (.int a1), some (.int a2), some (.int a3), some (.int x2), some (.int x3), none, none]) 0 rfl ?_
      refine z_drop (lo' := [none, none, some (.int a2), some (.int a3), some (.int x2), some (.int x3), none, none]) 1 rfl ?_
      refine z_drop (lo' := [none, none, none, some (.int a3), some (.int x2), some (.int x3), none, none]) 2 rfl ?_
      refine z_drop (lo' := [none, none, none, none, some (.int x2), some (.int x3), none, none]) 3 rfl ?_
      refine z_drop (lo' := [none, none, none, none, some (.int x2), none, none, none]) 5 rfl ?_
      exact hK64 _ hf
    · skip
      refine z_iload C dX3_entriesOfOrigin_14 rfl rfl ?_
      refine z_iconst C dX3_entriesOfOrigin_16 zi_4 rfl ?_
      refine z_imul C dX3_entriesOfOrigin_17 rfl ?_
      refine z_top _ hf (fun v4 hf => ?_)
      refine z_istore (lo' := [some (.ref (zad g (s + 6))), some (.int a1), some (.int a2), some (.int a3), some (.int x2), some (.int x3), some (.int v4), none]) C dX3_entriesOfOrigin_18 (Nat.le_of_ble_eq_true rfl) rfl rfl rfl ?_
      refine z_iconst C dX3_entriesOfOrigin_20 zi_0 rfl ?_
      refine z_istore (lo' := [some (.ref (zad g (s + 6))), some (.int a1), some (.int a2), some (.int a3), some (.int x2), some (.int x3), some (.int v4), some (.int 0)]) C dX3_entriesOfOrigin_21 (Nat.le_of_ble_eq_true rfl) rfl rfl rfl ?_
      refine kjn_V (fun K58 => ∀ (w5 : Int32), K58 w5 = some o → zV x g 8 0 0 58 [some (.ref (zad g (s + 6))), some (.int a1), some (.int a2), some (.int a3), some (.int w5), some (.int x3), none, none] [] m) hf (fun w5 hf => ?_) (fun K58 hK58 hf => ?_)
      · skip
        refine z_iinc (v := x3 + 1) (lo' := [some (.ref (zad g (s + 6))), some (.int a1), some (.int a2), some (.int a3), some (.int w5), some (.int (x3 + 1)), none, none]) C dX3_entriesOfOrigin_58 rfl (zinc zi_1) (Nat.le_of_ble_eq_true rfl) rfl rfl rfl ?_
        refine z_goto (pc' := 6) C dX3_entriesOfOrigin_61 (by decide) ?_
        exact ih (w5, x3 + 1) hf
      · skip
        refine klp_V (fun z => zV x g 8 0 0 23 [some (.ref (zad g (s + 6))), some (.int a1), some (.int a2), some (.int a3), some (.int z.1), some (.int x3), some (.int v4), some (.int z.2)] [] m) hf (fun rec z ih hf => ?_)
        obtain ⟨x6, x7⟩ := z
        unfold sX3_entriesOfOrigin_23 at hf
        try dsimp only at hf
        try dsimp only
        refine z_iload C dX3_entriesOfOrigin_23 rfl rfl ?_
        refine z_aload_n (i := 0) C dX3_entriesOfOrigin_25 rfl rfl rfl ?_
        refine z_gr C (FX3_entriesOfOrigin_11 hC) (sn_6 hC hs) (sc_6 hC hs) rfl dX3_entriesOfOrigin_26 rfl ?_
        refine z_iload C dX3_entriesOfOrigin_29 rfl rfl ?_
        refine z_iaload C (sn_7 hC hs) (sc_7 hC hs) dX3_entriesOfOrigin_31 rfl hf (fun v8 hf => ?_)
        refine z_ic_ge (tgt := 58) C dX3_entriesOfOrigin_32 (by decide) rfl hf (fun hf => ?_) (fun hf => ?_)
        · skip
          refine z_drop (lo' := [some (.ref (zad g (s + 6))), some (.int a1), some (.int a2), some (.int a3), some (.int x6), some (.int x3), none, some (.int x7)]) 6 rfl ?_
          refine z_drop (lo' := [some (.ref (zad g (s + 6))), some (.int a1), some (.int a2), some (.int a3), some (.int x6), some (.int x3), none, none]) 7 rfl ?_
          exact hK58 _ hf
        · skip
          refine z_aload_n (i := 0) C dX3_entriesOfOrigin_35 rfl rfl rfl ?_
          refine z_gr C (FX3_entriesOfOrigin_18 hC) (sn_6 hC hs) (sc_6 hC hs) rfl dX3_entriesOfOrigin_36 rfl ?_
          refine z_iload C dX3_entriesOfOrigin_39 rfl rfl ?_
          refine z_iload C dX3_entriesOfOrigin_41 rfl rfl ?_
          refine z_iadd C dX3_entriesOfOrigin_43 rfl ?_
          refine z_iaload C (sn_9 hC hs) (sc_9 hC hs) dX3_entriesOfOrigin_44 rfl hf (fun v9 hf => ?_)
          refine z_iload_n (i := 3) C dX3_entriesOfOrigin_45 rfl rfl rfl ?_
          refine z_ic_ne (tgt := 52) C dX3_entriesOfOrigin_46 (by decide) rfl hf (fun hf => ?_) (fun hf => ?_)
          · skip
            refine z_iinc (v := x7 + 1) (lo' := [some (.ref (zad g (s + 6))), some (.int a1), some (.int a2), some (.int a3), some (.int x6), some (.int x3), some (.int v4), some (.int (x7 + 1))]) C dX3_entriesOfOrigin_52 rfl (zinc zi_1) (Nat.le_of_ble_eq_true rfl) rfl rfl rfl ?_
            refine z_goto (pc' := 23) C dX3_entriesOfOrigin_55 (by decide) ?_
            exact ih (x6, x7 + 1) hf
          · skip
            refine z_iinc (v := x6 + 1) (lo' := [some (.ref (zad g (s + 6))), some (.int a1), some (.int a2), some (.int a3), some (.int (x6 + 1)), some (.int x3), some (.int v4), some (.int x7)]) C dX3_entriesOfOrigin_49 rfl (zinc zi_1) (Nat.le_of_ble_eq_true rfl) rfl rfl rfl ?_
            refine z_iinc (v := x7 + 1) (lo' := [some (.ref (zad g (s + 6))), some (.int a1), some (.int a2), some (.int a3), some (.int (x6 + 1)), some (.int x3), some (.int v4), some (.int (x7 + 1))]) C dX3_entriesOfOrigin_52 rfl (zinc zi_1) (Nat.le_of_ble_eq_true rfl) rfl rfl rfl ?_
            refine z_goto (pc' := 23) C dX3_entriesOfOrigin_55 (by decide) ?_
            exact ih (x6 + 1, x7 + 1) hf

def fX2_refusalOf (N : Nat) (s : Nat) (a1 : Int32) (a2 : Int32) (a3 : Int32) (m : zMem) : Option (Int32) :=
  kc1 (fX3_entriesOfOrigin N s a2 1 a3 m) fun v1 =>
  kgi m s 3 fun v2 =>
  if v1 < v2 then
  kc1 (fX3_bucketPlace a1 0) fun v3 =>
  kc1 (fX3_entriesOfOrigin N s v3 8 a3 m) fun v4 =>
  kgi m s 4 fun v5 =>
  if v4 < v5 then
  kld m (s + 7) 192 a2 fun v6 =>
  kjn (fun (w7 : Int32) =>
  if w7 = 0 then
  some (-1)
  else
  kld m (s + 8) 768 (a2 * 4) fun v8 =>
  kc1 (fX2_isMember s v8 m) fun v9 =>
  if v9 = 0 then
  some (-1)
  else
  some 7) fun K62 =>
  if v6 < 4 then
  K62 0
  else
  K62 1
  else
  some 6
  else
  some 5
theorem FX2_refusalOf_21 {g : zG} (hC : isC g) : zFl wsX2_refusalOf RX2 (zcl g) 21 1 3 := ⟨RX2, TX2, 14, hC.2.2 ▸ rfl, by decide +kernel, by decide, by decide +kernel⟩
theorem FX2_refusalOf_24 {g : zG} (hC : isC g) : zFl wsX2_refusalOf RX2 (zcl g) 24 1 4 := ⟨RX2, TX2, 14, hC.2.2 ▸ rfl, by decide +kernel, by decide, by decide +kernel⟩
theorem FX2_refusalOf_55 {g : zG} (hC : isC g) : zFl wsX2_refusalOf RX2 (zcl g) 55 1 13 := ⟨RX2, TX2, 14, hC.2.2 ▸ rfl, by decide +kernel, by decide, by decide +kernel⟩
theorem FX2_refusalOf_183 {g : zG} (hC : isC g) : zFl wsX2_refusalOf RX2 (zcl g) 183 2 1 := ⟨RX3, TX3, 3, hC.2.2 ▸ rfl, by decide +kernel, by decide, by decide +kernel⟩
theorem FX2_refusalOf_190 {g : zG} (hC : isC g) : zFl wsX2_refusalOf RX2 (zcl g) 190 2 0 := ⟨RX3, TX3, 3, hC.2.2 ▸ rfl, by decide +kernel, by decide, by decide +kernel⟩
theorem hdX2_refusalOf : yX2_refusalOf.cls = RX2 ∧ yX2_refusalOf.cls ≠ "java/lang/invoke/MethodHandle" ∧ yX2_refusalOf.cls ≠ "java/lang/invoke/VarHandle" ∧ (parseMethodDescriptor yX2_refusalOf.desc).map (fun d => d.parameters.length) = some 3 := by decide +kernel
set_option maxHeartbeats 4000000 in
set_option maxRecDepth 100000 in
theorem qX2_refusalOf {l : Launch} {g : zG} (hC : isC g)  (N : Nat) (s : Nat) (a1 : Int32) (a2 : Int32) (a3 : Int32) (m : zMem) (hs : isS s) (o : Int32) (hf : fX2_refusalOf N s a1 a2 a3 m = some o) : zMI l g yX2_refusalOf wsX2_refusalOf { frames := 1, cells := 0, slots := 0, locals := 27 } [.ref (zad g s), .int a1, .int a2, .int a3] m (o, m) := by
  refine z_met_i (cc := cX2_refusalOf) (maxL := 5) (lo0 := [some (.ref (zad g s)), some (.int a1), some (.int a2), some (.int a3), none]) (by decide +kernel) rfl rfl (Nat.le_of_ble_eq_true rfl) (fun x hx C hr => ?_)
  unfold fX2_refusalOf at hf
  refine z_aload_n (i := 0) C dX2_refusalOf_0 rfl rfl rfl ?_
  refine z_gr C (FX2_refusalOf_55 hC) (sn_0 hC hs) (sc_0 hC hs) rfl dX2_refusalOf_1 rfl ?_
  refine z_iload_n (i := 2) C dX2_refusalOf_4 rfl rfl rfl ?_
  refine z_iconst C dX2_refusalOf_5 zi_1 rfl ?_
  refine z_iload_n (i := 3) C dX2_refusalOf_6 rfl rfl rfl ?_
  refine z_cviR (As := [.int a2, .int 1, .int a3]) (st := []) (m := m) C (cl_2 hC) (sn_6 hC hs) (sc_6 hC hs) gX2_refusalOf_X3_entriesOfOrigin hdX3_entriesOfOrigin rfl (fun z h => qX3_entriesOfOrigin hC N s a2 1 a3 m hs z h) rfl (Nat.le_of_ble_eq_true rfl) ⟨Nat.le_of_ble_eq_true rfl, Nat.le_of_ble_eq_true rfl⟩ ⟨Nat.le_refl _, Nat.le_refl _⟩ dX2_refusalOf_7 rfl rfl hf (fun v1 hf => ?_)
  refine z_aload_n (i := 0) C dX2_refusalOf_10 rfl rfl rfl ?_
  refine z_gi C (FX2_refusalOf_21 hC) (sn_0 hC hs) (sc_0 hC hs) rfl dX2_refusalOf_11 rfl hf (fun v2 hf => ?_)
  refine z_ic_lt (tgt := 19) C dX2_refusalOf_14 (by decide) rfl hf (fun hf => ?_) (fun hf => ?_)
  · skip
    refine z_aload_n (i := 0) C dX2_refusalOf_19 rfl rfl rfl ?_
    refine z_gr C (FX2_refusalOf_55 hC) (sn_0 hC hs) (sc_0 hC hs) rfl dX2_refusalOf_20 rfl ?_
    refine z_iload_n (i := 1) C dX2_refusalOf_23 rfl rfl rfl ?_
    refine z_iconst C dX2_refusalOf_24 zi_0 rfl ?_
    refine z_csiR (As := [.int a1, .int 0]) (st := [.ref (zad g (s + 6))]) (m := m) C gX2_refusalOf_X3_bucketPlace hdX3_bucketPlace rfl (fun z h => qX3_bucketPlace a1 0 m z h) rfl (Nat.le_of_ble_eq_true rfl) ⟨Nat.le_of_ble_eq_true rfl, Nat.le_of_ble_eq_true rfl⟩ ⟨Nat.le_refl _, Nat.le_refl _⟩ dX2_refusalOf_25 rfl rfl hf (fun v3 hf => ?_)
    refine z_bipush C dX2_refusalOf_28 zb_8 rfl ?_
    refine z_iload_n (i := 3) C dX2_refusalOf_30 rfl rfl rfl ?_
    refine z_cviR (As := [.int v3, .int 8, .int a3]) (st := []) (m := m) C (cl_2 hC) (sn_6 hC hs) (sc_6 hC hs) gX2_refusalOf_X3_entriesOfOrigin hdX3_entriesOfOrigin rfl (fun z h => qX3_entriesOfOrigin hC N s v3 8 a3 m hs z h) rfl (Nat.le_of_ble_eq_true rfl) ⟨Nat.le_of_ble_eq_true rfl, Nat.le_of_ble_eq_true rfl⟩ ⟨Nat.le_refl _, Nat.le_refl _⟩ dX2_refusalOf_31 rfl rfl hf (fun v4 hf => ?_)
    refine z_aload_n (i := 0) C dX2_refusalOf_34 rfl rfl rfl ?_
    refine z_gi C (FX2_refusalOf_24 hC) (sn_0 hC hs) (sc_0 hC hs) rfl dX2_refusalOf_35 rfl hf (fun v5 hf => ?_)
    refine z_ic_lt (tgt := 44) C dX2_refusalOf_38 (by decide) rfl hf (fun hf => ?_) (fun hf => ?_)
    · skip
      refine z_aload_n (i := 0) C dX2_refusalOf_44 rfl rfl rfl ?_
      refine z_gr C (FX2_refusalOf_55 hC) (sn_0 hC hs) (sc_0 hC hs) rfl dX2_refusalOf_45 rfl ?_
      refine z_gr C (FX2_refusalOf_190 hC) (sn_6 hC hs) (sc_6 hC hs) rfl dX2_refusalOf_48 rfl ?_
      refine z_iload_n (i := 2) C dX2_refusalOf_51 rfl rfl rfl ?_
      refine z_iaload C (sn_7 hC hs) (sc_7 hC hs) dX2_refusalOf_52 rfl hf (fun v6 hf => ?_)
      refine z_iconst C dX2_refusalOf_53 zi_4 rfl ?_
      refine kjn_V (fun K62 => ∀ (w7 : Int32), K62 w7 = some o → zV x g 5 0 0 62 [some (.ref (zad g s)), none, some (.int a2), none, none] [.int w7] m) hf (fun w7 hf => ?_) (fun K62 hK62 hf => ?_)
      · skip
        refine z_istore (lo' := [some (.ref (zad g s)), none, some (.int a2), none, some (.int w7)]) C dX2_refusalOf_62 (Nat.le_of_ble_eq_true rfl) rfl rfl rfl ?_
        refine z_iload C dX2_refusalOf_64 rfl rfl ?_
        refine z_if_eq (tgt := 92) C dX2_refusalOf_66 (by decide) rfl hf (fun hf => ?_) (fun hf => ?_)
        · skip
          refine z_iconst C dX2_refusalOf_92 zi_m1 rfl ?_
          exact hr _ _ _ _ (congrArg (fun z => (z, m)) (Option.some.inj hf)) dX2_refusalOf_93
        · skip
          refine z_aload_n (i := 0) C dX2_refusalOf_69 rfl rfl rfl ?_
          refine z_aload_n (i := 0) C dX2_refusalOf_70 rfl rfl rfl ?_
          refine z_gr C (FX2_refusalOf_55 hC) (sn_0 hC hs) (sc_0 hC hs) rfl dX2_refusalOf_71 rfl ?_
          refine z_gr C (FX2_refusalOf_183 hC) (sn_6 hC hs) (sc_6 hC hs) rfl dX2_refusalOf_74 rfl ?_
          refine z_iload_n (i := 2) C dX2_refusalOf_77 rfl rfl rfl ?_
          refine z_iconst C dX2_refusalOf_78 zi_4 rfl ?_
          refine z_imul C dX2_refusalOf_79 rfl ?_
          refine z_iaload C (sn_8 hC hs) (sc_8 hC hs) dX2_refusalOf_80 rfl hf (fun v8 hf => ?_)
          refine z_cviR (As := [.int v8]) (st := []) (m := m) C (cl_1 hC) (sn_0 hC hs) (sc_0 hC hs) gX2_refusalOf_X2_isMember hdX2_isMember rfl (fun z h => qX2_isMember hC s v8 m hs z h) rfl (Nat.le_of_ble_eq_true rfl) ⟨Nat.le_of_ble_eq_true rfl, Nat.le_of_ble_eq_true rfl⟩ ⟨Nat.le_refl _, Nat.le_refl _⟩ dX2_refusalOf_81 rfl rfl hf (fun v9 hf => ?_)
          refine z_if_eq (tgt := 92) C dX2_refusalOf_84 (by decide) rfl hf (fun hf => ?_) (fun hf => ?_)
          · skip
            refine z_iconst C dX2_refusalOf_92 zi_m1 rfl ?_
            exact hr _ _ _ _ (congrArg (fun z => (z, m)) (Option.some.inj hf)) dX2_refusalOf_93
          · skip
            refine z_bipush C dX2_refusalOf_87 zb_7 rfl ?_
            refine z_goto (pc' := 93) C dX2_refusalOf_89 (by decide) ?_
            exact hr _ _ _ _ (congrArg (fun z => (z, m)) (Option.some.inj hf)) dX2_refusalOf_93
      · skip
        refine z_ic_lt (tgt := 61) C dX2_refusalOf_54 (by decide) rfl hf (fun hf => ?_) (fun hf => ?_)
        · skip
          refine z_iconst C dX2_refusalOf_61 zi_0 rfl ?_
          refine z_drop (lo' := [some (.ref (zad g s)), none, some (.int a2), some (.int a3), none]) 1 rfl ?_
          refine z_drop (lo' := [some (.ref (zad g s)), none, some (.int a2), none, none]) 3 rfl ?_
          exact hK62 _ hf
        · skip
          refine z_iconst C dX2_refusalOf_57 zi_1 rfl ?_
          refine z_goto (pc' := 62) C dX2_refusalOf_58 (by decide) ?_
          refine z_drop (lo' := [some (.ref (zad g s)), none, some (.int a2), some (.int a3), none]) 1 rfl ?_
          refine z_drop (lo' := [some (.ref (zad g s)), none, some (.int a2), none, none]) 3 rfl ?_
          exact hK62 _ hf
    · skip
      refine z_bipush C dX2_refusalOf_41 zb_6 rfl ?_
      exact hr _ _ _ _ (congrArg (fun z => (z, m)) (Option.some.inj hf)) dX2_refusalOf_43
  · skip
    refine z_iconst C dX2_refusalOf_17 zi_5 rfl ?_
    exact hr _ _ _ _ (congrArg (fun z => (z, m)) (Option.some.inj hf)) dX2_refusalOf_18
