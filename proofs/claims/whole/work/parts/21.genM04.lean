def sX6_reach_22 (N : Nat) (a1 : Int32) (K62 : Int32 → zMem → Option (Int32 × zMem)) : (Int32 × Int32 × zMem → Option (Int32 × zMem)) → Int32 × Int32 × zMem → Option (Int32 × zMem) := fun rec (x7, x8, m9) =>
  if 256 ≤ x8 then
  K62 x7 m9
  else
  kc2 (fX6_looks N a1 x8 m9) fun v10 m11 =>
  kgi m11 0 10 fun v12 =>
  kjn (fun (w13 : Int32) =>
  klt (x7 + w13 : Int32) fun v14 =>
  kc1 (fX6_takesBack N m11) fun m15 =>
  rec (v14, x8 + 1, m15)) fun K50 =>
  if v12 = 0 then
  K50 0
  else
  K50 1
def fX6_reach (N : Nat) (a1 : Int32) (m : zMem) : Option (Int32 × zMem) :=
  kc1 (fX6_badMember N a1 m) fun v1 =>
  kc2 (fX6_refused v1 m) fun v2 m3 =>
  if v2 = 0 then
  kc1 (fX6_keeps N m3) fun m4 =>
  kjn (fun (w5 : Int32) (m6 : zMem) =>
  some (w5, m6)) fun K62 =>
  klp (sX6_reach_22 N a1 K62) N (0, 0, m4)
  else
  some (0, m3)
theorem FX6_reach_101 {g : zG} (hM : isM g) : zFl wsX6_reach RX6 (zcl g) 101 5 10 := ⟨RX6, TX6, 15, hM.2.2 ▸ rfl, by decide +kernel, by decide, by decide +kernel⟩
theorem hdX6_reach : yX6_reach.cls = RX6 ∧ yX6_reach.cls ≠ "java/lang/invoke/MethodHandle" ∧ yX6_reach.cls ≠ "java/lang/invoke/VarHandle" ∧ (parseMethodDescriptor yX6_reach.desc).map (fun d => d.parameters.length) = some 1 := by decide +kernel
set_option maxHeartbeats 4000000 in
set_option maxRecDepth 100000 in
theorem qX6_reach {l : Launch} {g : zG} (hM : isM g)  (N : Nat) (a1 : Int32) (m : zMem)  (o : Int32 × zMem) (hf : fX6_reach N a1 m = some o) : zMI l g yX6_reach wsX6_reach { frames := 6, cells := 0, slots := 0, locals := 144 } [.ref (zad g 0), .int a1] m o := by
  refine z_met_i (cc := cX6_reach) (maxL := 5) (lo0 := [some (.ref (zad g 0)), some (.int a1), none, none, none]) (by decide +kernel) rfl rfl (Nat.le_of_ble_eq_true rfl) (fun x hx C hr => ?_)
  unfold fX6_reach at hf
  refine z_aload_n (i := 0) C dX6_reach_0 rfl rfl rfl ?_
  refine z_aload_n (i := 0) C dX6_reach_1 rfl rfl rfl ?_
  refine z_iload_n (i := 1) C dX6_reach_2 rfl rfl rfl ?_
  refine z_cviR (As := [.int a1]) (st := [.ref (zad g 0)]) (m := m) C (cl_5 hM) (mn_0 hM) (mc_0 hM) gX6_reach_X6_badMember hdX6_badMember rfl (fun z h => qX6_badMember hM N a1 m z h) rfl (Nat.le_of_ble_eq_true rfl) ⟨Nat.le_of_ble_eq_true rfl, Nat.le_of_ble_eq_true rfl⟩ ⟨Nat.le_refl _, Nat.le_refl _⟩ dX6_reach_3 rfl rfl hf (fun v1 hf => ?_)
  refine z_cviW (As := [.int v1]) (st := []) (m := m) C (cl_5 hM) (mn_0 hM) (mc_0 hM) gX6_reach_X6_refused hdX6_refused rfl (fun z h => qX6_refused hM v1 m z h) rfl (Nat.le_of_ble_eq_true rfl) ⟨Nat.le_of_ble_eq_true rfl, Nat.le_of_ble_eq_true rfl⟩ ⟨Nat.le_refl _, Nat.le_refl _⟩ dX6_reach_6 rfl rfl hf (fun v2 m3 hf => ?_)
  refine z_if_eq (tgt := 14) C dX6_reach_9 (by decide) rfl hf (fun hf => ?_) (fun hf => ?_)
  · skip
    refine z_aload_n (i := 0) C dX6_reach_14 rfl rfl rfl ?_
    refine z_cvvW (As := []) (st := []) (m := m3) C (cl_5 hM) (mn_0 hM) (mc_0 hM) gX6_reach_X6_keeps hdX6_keeps rfl (fun z h => qX6_keeps hM N m3 z h) rfl (Nat.le_of_ble_eq_true rfl) ⟨Nat.le_of_ble_eq_true rfl, Nat.le_of_ble_eq_true rfl⟩ ⟨Nat.le_refl _, Nat.le_refl _⟩ dX6_reach_15 rfl rfl hf (fun m4 hf => ?_)
    refine z_iconst C dX6_reach_18 zi_0 rfl ?_
    refine z_istore_n (i := 2) (lo' := [some (.ref (zad g 0)), some (.int a1), some (.int 0), none, none]) C dX6_reach_19 rfl (Nat.le_of_ble_eq_true rfl) rfl rfl rfl ?_
    refine z_iconst C dX6_reach_20 zi_0 rfl ?_
    refine z_istore_n (i := 3) (lo' := [some (.ref (zad g 0)), some (.int a1), some (.int 0), some (.int 0), none]) C dX6_reach_21 rfl (Nat.le_of_ble_eq_true rfl) rfl rfl rfl ?_
    refine kjn_V (fun K62 => ∀ (w5 : Int32) (m6 : zMem), K62 w5 m6 = some o → zV x g 5 0 0 62 [none, none, some (.int w5), none, none] [] m6) hf (fun w5 m6 hf => ?_) (fun K62 hK62 hf => ?_)
    · skip
      refine z_iload_n (i := 2) C dX6_reach_62 rfl rfl rfl ?_
      exact hr _ _ _ _ (Option.some.inj hf) dX6_reach_63
    · skip
      refine klp_V (fun z => zV x g 5 0 0 22 [some (.ref (zad g 0)), some (.int a1), some (.int z.1), some (.int z.2.1), none] [] z.2.2) hf (fun rec z ih hf => ?_)
      obtain ⟨x7, x8, m9⟩ := z
      unfold sX6_reach_22 at hf
      try dsimp only at hf
      try dsimp only
      refine z_iload_n (i := 3) C dX6_reach_22 rfl rfl rfl ?_
      refine z_sipush C dX6_reach_23 zs_256 rfl ?_
      refine z_ic_ge (tgt := 62) C dX6_reach_26 (by decide) rfl hf (fun hf => ?_) (fun hf => ?_)
      · skip
        refine z_drop (lo' := [none, some (.int a1), some (.int x7), some (.int x8), none]) 0 rfl ?_
        refine z_drop (lo' := [none, none, some (.int x7), some (.int x8), none]) 1 rfl ?_
        refine z_drop (lo' := [none, none, some (.int x7), none, none]) 3 rfl ?_
        exact hK62 _ _ hf
      · skip
        refine z_aload_n (i := 0) C dX6_reach_29 rfl rfl rfl ?_
        refine z_iload_n (i := 1) C dX6_reach_30 rfl rfl rfl ?_
        refine z_iload_n (i := 3) C dX6_reach_31 rfl rfl rfl ?_
        refine z_cviW (As := [.int a1, .int x8]) (st := []) (m := m9) C (cl_5 hM) (mn_0 hM) (mc_0 hM) gX6_reach_X6_looks hdX6_looks rfl (fun z h => qX6_looks hM N a1 x8 m9 z h) rfl (Nat.le_of_ble_eq_true rfl) ⟨Nat.le_of_ble_eq_true rfl, Nat.le_of_ble_eq_true rfl⟩ ⟨Nat.le_refl _, Nat.le_refl _⟩ dX6_reach_32 rfl rfl hf (fun v10 m11 hf => ?_)
        refine z_istore (lo' := [some (.ref (zad g 0)), some (.int a1), some (.int x7), some (.int x8), some (.int v10)]) C dX6_reach_35 (Nat.le_of_ble_eq_true rfl) rfl rfl rfl ?_
        refine z_iload_n (i := 2) C dX6_reach_37 rfl rfl rfl ?_
        refine z_aload_n (i := 0) C dX6_reach_38 rfl rfl rfl ?_
        refine z_gi C (FX6_reach_101 hM) (mn_0 hM) (mc_0 hM) rfl dX6_reach_39 rfl hf (fun v12 hf => ?_)
        refine kjn_V (fun K50 => ∀ (w13 : Int32), K50 w13 = some o → zV x g 5 0 0 50 [some (.ref (zad g 0)), some (.int a1), none, some (.int x8), none] [.int w13, .int x7] m11) hf (fun w13 hf => ?_) (fun K50 hK50 hf => ?_)
        · skip
          refine z_iadd C dX6_reach_50 rfl ?_
          refine z_top _ hf (fun v14 hf => ?_)
          refine z_istore_n (i := 2) (lo' := [some (.ref (zad g 0)), some (.int a1), some (.int v14), some (.int x8), none]) C dX6_reach_51 rfl (Nat.le_of_ble_eq_true rfl) rfl rfl rfl ?_
          refine z_aload_n (i := 0) C dX6_reach_52 rfl rfl rfl ?_
          refine z_cvvW (As := []) (st := []) (m := m11) C (cl_5 hM) (mn_0 hM) (mc_0 hM) gX6_reach_X6_takesBack hdX6_takesBack rfl (fun z h => qX6_takesBack hM N m11 z h) rfl (Nat.le_of_ble_eq_true rfl) ⟨Nat.le_of_ble_eq_true rfl, Nat.le_of_ble_eq_true rfl⟩ ⟨Nat.le_refl _, Nat.le_refl _⟩ dX6_reach_53 rfl rfl hf (fun m15 hf => ?_)
          refine z_iinc (v := x8 + 1) (lo' := [some (.ref (zad g 0)), some (.int a1), some (.int v14), some (.int (x8 + 1)), none]) C dX6_reach_56 rfl (zinc zi_1) (Nat.le_of_ble_eq_true rfl) rfl rfl rfl ?_
          refine z_goto (pc' := 22) C dX6_reach_59 (by decide) ?_
          exact ih (v14, x8 + 1, m15) hf
        · skip
          refine z_if_eq (tgt := 49) C dX6_reach_42 (by decide) rfl hf (fun hf => ?_) (fun hf => ?_)
          · skip
            refine z_iconst C dX6_reach_49 zi_0 rfl ?_
            refine z_drop (lo' := [some (.ref (zad g 0)), some (.int a1), none, some (.int x8), some (.int v10)]) 2 rfl ?_
            refine z_drop (lo' := [some (.ref (zad g 0)), some (.int a1), none, some (.int x8), none]) 4 rfl ?_
            exact hK50 _ hf
          · skip
            refine z_iconst C dX6_reach_45 zi_1 rfl ?_
            refine z_goto (pc' := 50) C dX6_reach_46 (by decide) ?_
            refine z_drop (lo' := [some (.ref (zad g 0)), some (.int a1), none, some (.int x8), some (.int v10)]) 2 rfl ?_
            refine z_drop (lo' := [some (.ref (zad g 0)), some (.int a1), none, some (.int x8), none]) 4 rfl ?_
            exact hK50 _ hf
  · skip
    refine z_iconst C dX6_reach_12 zi_0 rfl ?_
    exact hr _ _ _ _ (Option.some.inj hf) dX6_reach_13

def sX6_tablesWith_4 (N : Nat) (a1 : Int32) (m : zMem) (K67 : Int32 → Option (Int32)) : (Int32 × Int32 → Option (Int32)) → Int32 × Int32 → Option (Int32) := fun rec (x2, x3) =>
  if 24 ≤ x3 then
  K67 x2
  else
  kc1 (fX6_of x3) fun v4 =>
  kld m 1 1816 v4 fun v5 =>
  klt (v5 - 1 : Int32) fun v6 =>
  if v6 < 0 then
  klt (x2 + 0 : Int32) fun v7 =>
  rec (v7, x3 + 1)
  else
  if v6 = a1 then
  klt (x2 + 0 : Int32) fun v8 =>
  rec (v8, x3 + 1)
  else
  kc1 (fX6_of x3) fun v9 =>
  kc1 (fX6_bucketOf N v6 a1) fun v10 =>
  kc1 (fX6_placeIn N v9 v10 a1 m) fun v11 =>
  if v11 = (-1) then
  klt (x2 + 0 : Int32) fun v12 =>
  rec (v12, x3 + 1)
  else
  klt (x2 + 1 : Int32) fun v13 =>
  rec (v13, x3 + 1)
def fX6_tablesWith (N : Nat) (a1 : Int32) (m : zMem) : Option (Int32) :=
  kjn (fun (w1 : Int32) =>
  some w1) fun K67 =>
  klp (sX6_tablesWith_4 N a1 m K67) N (0, 0)
theorem FX6_tablesWith_7 {g : zG} (hM : isM g) : zFl wsX6_tablesWith RX6 (zcl g) 7 5 0 := ⟨RX6, TX6, 15, hM.2.2 ▸ rfl, by decide +kernel, by decide, by decide +kernel⟩
theorem hdX6_tablesWith : yX6_tablesWith.cls = RX6 ∧ yX6_tablesWith.cls ≠ "java/lang/invoke/MethodHandle" ∧ yX6_tablesWith.cls ≠ "java/lang/invoke/VarHandle" ∧ (parseMethodDescriptor yX6_tablesWith.desc).map (fun d => d.parameters.length) = some 1 := by decide +kernel
set_option maxHeartbeats 4000000 in
set_option maxRecDepth 100000 in
theorem qX6_tablesWith {l : Launch} {g : zG} (hM : isM g)  (N : Nat) (a1 : Int32) (m : zMem)  (o : Int32) (hf : fX6_tablesWith N a1 m = some o) : zMI l g yX6_tablesWith wsX6_tablesWith { frames := 1, cells := 0, slots := 0, locals := 24 } [.ref (zad g 0), .int a1] m (o, m) := by
  refine z_met_i (cc := cX6_tablesWith) (maxL := 5) (lo0 := [some (.ref (zad g 0)), some (.int a1), none, none, none]) (by decide +kernel) rfl rfl (Nat.le_of_ble_eq_true rfl) (fun x hx C hr => ?_)
  unfold fX6_tablesWith at hf
  refine z_iconst C dX6_tablesWith_0 zi_0 rfl ?_
  refine z_istore_n (i := 2) (lo' := [some (.ref (zad g 0)), some (.int a1), some (.int 0), none, none]) C dX6_tablesWith_1 rfl (Nat.le_of_ble_eq_true rfl) rfl rfl rfl ?_
  refine z_iconst C dX6_tablesWith_2 zi_0 rfl ?_
  refine z_istore_n (i := 3) (lo' := [some (.ref (zad g 0)), some (.int a1), some (.int 0), some (.int 0), none]) C dX6_tablesWith_3 rfl (Nat.le_of_ble_eq_true rfl) rfl rfl rfl ?_
  refine kjn_V (fun K67 => ∀ (w1 : Int32), K67 w1 = some o → zV x g 5 0 0 67 [none, none, some (.int w1), none, none] [] m) hf (fun w1 hf => ?_) (fun K67 hK67 hf => ?_)
  · skip
    refine z_iload_n (i := 2) C dX6_tablesWith_67 rfl rfl rfl ?_
    exact hr _ _ _ _ (congrArg (fun z => (z, m)) (Option.some.inj hf)) dX6_tablesWith_68
  · skip
    refine klp_V (fun z => zV x g 5 0 0 4 [some (.ref (zad g 0)), some (.int a1), some (.int z.1), some (.int z.2), none] [] m) hf (fun rec z ih hf => ?_)
    obtain ⟨x2, x3⟩ := z
    unfold sX6_tablesWith_4 at hf
    try dsimp only at hf
    try dsimp only
    refine z_iload_n (i := 3) C dX6_tablesWith_4 rfl rfl rfl ?_
    refine z_bipush C dX6_tablesWith_5 zb_24 rfl ?_
    refine z_ic_ge (tgt := 67) C dX6_tablesWith_7 (by decide) rfl hf (fun hf => ?_) (fun hf => ?_)
    · skip
      refine z_drop (lo' := [none, some (.int a1), some (.int x2), some (.int x3), none]) 0 rfl ?_
      refine z_drop (lo' := [none, none, some (.int x2), some (.int x3), none]) 1 rfl ?_
      refine z_drop (lo' := [none, none, some (.int x2), none, none]) 3 rfl ?_
      exact hK67 _ hf
    · skip
      refine z_aload_n (i := 0) C dX6_tablesWith_10 rfl rfl rfl ?_
      refine z_gr C (FX6_tablesWith_7 hM) (mn_0 hM) (mc_0 hM) rfl dX6_tablesWith_11 rfl ?_
      refine z_iload_n (i := 3) C dX6_tablesWith_14 rfl rfl rfl ?_
      refine z_csiR (As := [.int x3]) (st := [.ref (zad g 1)]) (m := m) C gX6_tablesWith_X6_of hdX6_of rfl (fun z h => qX6_of x3 m z h) rfl (Nat.le_of_ble_eq_true rfl) ⟨Nat.le_of_ble_eq_true rfl, Nat.le_of_ble_eq_true rfl⟩ ⟨Nat.le_refl _, Nat.le_refl _⟩ dX6_tablesWith_15 rfl rfl hf (fun v4 hf => ?_)
      refine z_iaload C (mn_1 hM) (mc_1 hM) dX6_tablesWith_18 rfl hf (fun v5 hf => ?_)
      refine z_iconst C dX6_tablesWith_19 zi_1 rfl ?_
      refine z_isub C dX6_tablesWith_20 rfl ?_
      refine z_top _ hf (fun v6 hf => ?_)
      refine z_istore (lo' := [some (.ref (zad g 0)), some (.int a1), some (.int x2), some (.int x3), some (.int v6)]) C dX6_tablesWith_21 (Nat.le_of_ble_eq_true rfl) rfl rfl rfl ?_
      refine z_iload_n (i := 2) C dX6_tablesWith_23 rfl rfl rfl ?_
      refine z_iload C dX6_tablesWith_24 rfl rfl ?_
      refine z_if_lt (tgt := 58) C dX6_tablesWith_26 (by decide) rfl hf (fun hf => ?_) (fun hf => ?_)
      · skip
        refine z_iconst C dX6_tablesWith_58 zi_0 rfl ?_
        refine z_iadd C dX6_tablesWith_59 rfl ?_
        refine z_top _ hf (fun v7 hf => ?_)
        refine z_istore_n (i := 2) (lo' := [some (.ref (zad g 0)), some (.int a1), some (.int v7), some (.int x3), some (.int v6)]) C dX6_tablesWith_60 rfl (Nat.le_of_ble_eq_true rfl) rfl rfl rfl ?_
        refine z_iinc (v := x3 + 1) (lo' := [some (.ref (zad g 0)), some (.int a1), some (.int v7), some (.int (x3 + 1)), some (.int v6)]) C dX6_tablesWith_61 rfl (zinc zi_1) (Nat.le_of_ble_eq_true rfl) rfl rfl rfl ?_
        refine z_goto (pc' := 4) C dX6_tablesWith_64 (by decide) ?_
        refine z_drop (lo' := [some (.ref (zad g 0)), some (.int a1), some (.int v7), some (.int (x3 + 1)), none]) 4 rfl ?_
        exact ih (v7, x3 + 1) hf
      · skip
        refine z_iload C dX6_tablesWith_29 rfl rfl ?_
        refine z_iload_n (i := 1) C dX6_tablesWith_31 rfl rfl rfl ?_
        refine z_ic_eq (tgt := 58) C dX6_tablesWith_32 (by decide) rfl hf (fun hf => ?_) (fun hf => ?_)
        · skip
          refine z_iconst C dX6_tablesWith_58 zi_0 rfl ?_
          refine z_iadd C dX6_tablesWith_59 rfl ?_
          refine z_top _ hf (fun v8 hf => ?_)
          refine z_istore_n (i := 2) (lo' := [some (.ref (zad g 0)), some (.int a1), some (.int v8), some (.int x3), some (.int v6)]) C dX6_tablesWith_60 rfl (Nat.le_of_ble_eq_true rfl) rfl rfl rfl ?_
          refine z_iinc (v := x3 + 1) (lo' := [some (.ref (zad g 0)), some (.int a1), some (.int v8), some (.int (x3 + 1)), some (.int v6)]) C dX6_tablesWith_61 rfl (zinc zi_1) (Nat.le_of_ble_eq_true rfl) rfl rfl rfl ?_
          refine z_goto (pc' := 4) C dX6_tablesWith_64 (by decide) ?_
          refine z_drop (lo' := [some (.ref (zad g 0)), some (.int a1), some (.int v8), some (.int (x3 + 1)), none]) 4 rfl ?_
          exact ih (v8, x3 + 1) hf
        · skip
          refine z_aload_n (i := 0) C dX6_tablesWith_35 rfl rfl rfl ?_
          refine z_iload_n (i := 3) C dX6_tablesWith_36 rfl rfl rfl ?_
          refine z_csiR (As := [.int x3]) (st := [.ref (zad g 0), .int x2]) (m := m) C gX6_tablesWith_X6_of hdX6_of rfl (fun z h => qX6_of x3 m z h) rfl (Nat.le_of_ble_eq_true rfl) ⟨Nat.le_of_ble_eq_true rfl, Nat.le_of_ble_eq_true rfl⟩ ⟨Nat.le_refl _, Nat.le_refl _⟩ dX6_tablesWith_37 rfl rfl hf (fun v9 hf => ?_)
          refine z_iload C dX6_tablesWith_40 rfl rfl ?_
          refine z_iload_n (i := 1) C dX6_tablesWith_42 rfl rfl rfl ?_
          refine z_csiR (As := [.int v6, .int a1]) (st := [.int v9, .ref (zad g 0), .int x2]) (m := m) C gX6_tablesWith_X6_bucketOf hdX6_bucketOf rfl (fun z h => qX6_bucketOf N v6 a1 m z h) rfl (Nat.le_of_ble_eq_true rfl) ⟨Nat.le_of_ble_eq_true rfl, Nat.le_of_ble_eq_true rfl⟩ ⟨Nat.le_refl _, Nat.le_refl _⟩ dX6_tablesWith_43 rfl rfl hf (fun v10 hf => ?_)
          refine z_iload_n (i := 1) C dX6_tablesWith_46 rfl rfl rfl ?_
          refine z_cviR (As := [.int v9, .int v10, .int a1]) (st := [.int x2]) (m := m) C (cl_5 hM) (mn_0 hM) (mc_0 hM) gX6_tablesWith_X6_placeIn hdX6_placeIn rfl (fun z h => qX6_placeIn hM N v9 v10 a1 m z h) rfl (Nat.le_of_ble_eq_true rfl) ⟨Nat.le_of_ble_eq_true rfl, Nat.le_of_ble_eq_true rfl⟩ ⟨Nat.le_refl _, Nat.le_refl _⟩ dX6_tablesWith_47 rfl rfl hf (fun v11 hf => ?_)
          refine z_iconst C dX6_tablesWith_50 zi_m1 rfl ?_
          refine z_ic_eq (tgt := 58) C dX6_tablesWith_51 (by decide) rfl hf (fun hf => ?_) (fun hf => ?_)
          · skip
            refine z_iconst C dX6_tablesWith_58 zi_0 rfl ?_
            refine z_iadd C dX6_tablesWith_59 rfl ?_
            refine z_top _ hf (fun v12 hf => ?_)
            refine z_istore_n (i := 2) (lo' := [some (.ref (zad g 0)), some (.int a1), some (.int v12), some (.int x3), some (.int v6)]) C dX6_tablesWith_60 rfl (Nat.le_of_ble_eq_true rfl) rfl rfl rfl ?_
            refine z_iinc (v := x3 + 1) (lo' := [some (.ref (zad g 0)), some (.int a1), some (.int v12), some (.int (x3 + 1)), some (.int v6)]) C dX6_tablesWith_61 rfl (zinc zi_1) (Nat.le_of_ble_eq_true rfl) rfl rfl rfl ?_
            refine z_goto (pc' := 4) C dX6_tablesWith_64 (by decide) ?_
            refine z_drop (lo' := [some (.ref (zad g 0)), some (.int a1), some (.int v12), some (.int (x3 + 1)), none]) 4 rfl ?_
            exact ih (v12, x3 + 1) hf
          · skip
            refine z_iconst C dX6_tablesWith_54 zi_1 rfl ?_
            refine z_goto (pc' := 59) C dX6_tablesWith_55 (by decide) ?_
            refine z_iadd C dX6_tablesWith_59 rfl ?_
            refine z_top _ hf (fun v13 hf => ?_)
            refine z_istore_n (i := 2) (lo' := [some (.ref (zad g 0)), some (.int a1), some (.int v13), some (.int x3), some (.int v6)]) C dX6_tablesWith_60 rfl (Nat.le_of_ble_eq_true rfl) rfl rfl rfl ?_
            refine z_iinc (v := x3 + 1) (lo' := [some (.ref (zad g 0)), some (.int a1), some (.int v13), some (.int (x3 + 1)), some (.int v6)]) C dX6_tablesWith_61 rfl (zinc zi_1) (Nat.le_of_ble_eq_true rfl) rfl rfl rfl ?_
            refine z_goto (pc' := 4) C dX6_tablesWith_64 (by decide) ?_
            refine z_drop (lo' := [some (.ref (zad g 0)), some (.int a1), some (.int v13), some (.int (x3 + 1)), none]) 4 rfl ?_
            exact ih (v13, x3 + 1) hf

def fX6_tellMember (N : Nat) (a1 : Int32) (a2 : Int32) (m : zMem) : Option (Int32) :=
  kc1 (fX6_placeOf N a1 m) fun v1 =>
  kjn (if a2 = 0 then
  if v1 = (-1) then
  some 0
  else
  some 1
  else
  some (-1)) fun K15 =>
  if a2 = 0 then
  K15
  else
  if v1 = (-1) then
  K15
  else
  if 3 ≤ a2 then
  if a2 = 3 then
  kc1 (fX6_entries N v1 m) fun v3 =>
  some v3
  else
  kc1 (fX6_tablesWith N a1 m) fun v2 =>
  some v2
  else
  kld m 1 1816 (v1 + a2) fun v4 =>
  some v4
theorem FX6_tellMember_7 {g : zG} (hM : isM g) : zFl wsX6_tellMember RX6 (zcl g) 7 5 0 := ⟨RX6, TX6, 15, hM.2.2 ▸ rfl, by decide +kernel, by decide, by decide +kernel⟩
theorem hdX6_tellMember : yX6_tellMember.cls = RX6 ∧ yX6_tellMember.cls ≠ "java/lang/invoke/MethodHandle" ∧ yX6_tellMember.cls ≠ "java/lang/invoke/VarHandle" ∧ (parseMethodDescriptor yX6_tellMember.desc).map (fun d => d.parameters.length) = some 2 := by decide +kernel
set_option maxHeartbeats 4000000 in
set_option maxRecDepth 100000 in
theorem qX6_tellMember {l : Launch} {g : zG} (hM : isM g)  (N : Nat) (a1 : Int32) (a2 : Int32) (m : zMem)  (o : Int32) (hf : fX6_tellMember N a1 a2 m = some o) : zMI l g yX6_tellMember wsX6_tellMember { frames := 2, cells := 0, slots := 0, locals := 48 } [.ref (zad g 0), .int a1, .int a2] m (o, m) := by
  refine z_met_i (cc := cX6_tellMember) (maxL := 4) (lo0 := [some (.ref (zad g 0)), some (.int a1), some (.int a2), none]) (by decide +kernel) rfl rfl (Nat.le_of_ble_eq_true rfl) (fun x hx C hr => ?_)
  unfold fX6_tellMember at hf
  refine z_aload_n (i := 0) C dX6_tellMember_0 rfl rfl rfl ?_
  refine z_iload_n (i := 1) C dX6_tellMember_1 rfl rfl rfl ?_
  refine z_cviR (As := [.int a1]) (st := []) (m := m) C (cl_5 hM) (mn_0 hM) (mc_0 hM) gX6_tellMember_X6_placeOf hdX6_placeOf rfl (fun z h => qX6_placeOf hM N a1 m z h) rfl (Nat.le_of_ble_eq_true rfl) ⟨Nat.le_of_ble_eq_true rfl, Nat.le_of_ble_eq_true rfl⟩ ⟨Nat.le_refl _, Nat.le_refl _⟩ dX6_tellMember_2 rfl rfl hf (fun v1 hf => ?_)
  refine z_istore_n (i := 3) (lo' := [some (.ref (zad g 0)), some (.int a1), some (.int a2), some (.int v1)]) C dX6_tellMember_5 rfl (Nat.le_of_ble_eq_true rfl) rfl rfl rfl ?_
  refine z_iload_n (i := 2) C dX6_tellMember_6 rfl rfl rfl ?_
  refine kjn_V (fun K15 => K15 = some o → zV x g 4 0 0 15 [none, none, some (.int a2), some (.int v1)] [] m) hf (fun  hf => ?_) (fun K15 hK15 hf => ?_)
  · skip
    refine z_iload_n (i := 2) C dX6_tellMember_15 rfl rfl rfl ?_
    refine z_if_ne (tgt := 32) C dX6_tellMember_16 (by decide) rfl hf (fun hf => ?_) (fun hf => ?_)
    · skip
      refine z_iconst C dX6_tellMember_32 zi_m1 rfl ?_
      exact hr _ _ _ _ (congrArg (fun z => (z, m)) (Option.some.inj hf)) dX6_tellMember_33
    · skip
      refine z_iload_n (i := 3) C dX6_tellMember_19 rfl rfl rfl ?_
      refine z_iconst C dX6_tellMember_20 zi_m1 rfl ?_
      refine z_ic_ne (tgt := 28) C dX6_tellMember_21 (by decide) rfl hf (fun hf => ?_) (fun hf => ?_)
      · skip
        refine z_iconst C dX6_tellMember_28 zi_1 rfl ?_
        refine z_goto (pc' := 33) C dX6_tellMember_29 (by decide) ?_
        exact hr _ _ _ _ (congrArg (fun z => (z, m)) (Option.some.inj hf)) dX6_tellMember_33
      · skip
        refine z_iconst C dX6_tellMember_24 zi_0 rfl ?_
        refine z_goto (pc' := 33) C dX6_tellMember_25 (by decide) ?_
        exact hr _ _ _ _ (congrArg (fun z => (z, m)) (Option.some.inj hf)) dX6_tellMember_33
  · skip
    refine z_if_eq (tgt := 15) C dX6_tellMember_7 (by decide) rfl hf (fun hf => ?_) (fun hf => ?_)
    · skip
      refine z_drop (lo' := [none, some (.int a1), some (.int a2), some (.int v1)]) 0 rfl ?_
      refine z_drop (lo' := [none, none, some (.int a2), some (.int v1)]) 1 rfl ?_
      exact hK15 hf
    · skip
      refine z_iload_n (i := 3) C dX6_tellMember_10 rfl rfl rfl ?_
      refine z_iconst C dX6_tellMember_11 zi_m1 rfl ?_
      refine z_ic_ne (tgt := 34) C dX6_tellMember_12 (by decide) rfl hf (fun hf => ?_) (fun hf => ?_)
      · skip
        refine z_iload_n (i := 2) C dX6_tellMember_34 rfl rfl rfl ?_
        refine z_iconst C dX6_tellMember_35 zi_3 rfl ?_
        refine z_ic_ge (tgt := 50) C dX6_tellMember_36 (by decide) rfl hf (fun hf => ?_) (fun hf => ?_)
        · skip
          refine z_iload_n (i := 2) C dX6_tellMember_50 rfl rfl rfl ?_
          refine z_iconst C dX6_tellMember_51 zi_3 rfl ?_
          refine z_ic_ne (tgt := 63) C dX6_tellMember_52 (by decide) rfl hf (fun hf => ?_) (fun hf => ?_)
          · skip
            refine z_aload_n (i := 0) C dX6_tellMember_63 rfl rfl rfl ?_
            refine z_iload_n (i := 1) C dX6_tellMember_64 rfl rfl rfl ?_
            refine z_cviR (As := [.int a1]) (st := []) (m := m) C (cl_5 hM) (mn_0 hM) (mc_0 hM) gX6_tellMember_X6_tablesWith hdX6_tablesWith rfl (fun z h => qX6_tablesWith hM N a1 m z h) rfl (Nat.le_of_ble_eq_true rfl) ⟨Nat.le_of_ble_eq_true rfl, Nat.le_of_ble_eq_true rfl⟩ ⟨Nat.le_refl _, Nat.le_refl _⟩ dX6_tellMember_65 rfl rfl hf (fun v2 hf => ?_)
            exact hr _ _ _ _ (congrArg (fun z => (z, m)) (Option.some.inj hf)) dX6_tellMember_68
          · skip
            refine z_aload_n (i := 0) C dX6_tellMember_55 rfl rfl rfl ?_
            refine z_iload_n (i := 3) C dX6_tellMember_56 rfl rfl rfl ?_
            refine z_cviR (As := [.int v1]) (st := []) (m := m) C (cl_5 hM) (mn_0 hM) (mc_0 hM) gX6_tellMember_X6_entries hdX6_entries rfl (fun z h => qX6_entries hM N v1 m z h) rfl (Nat.le_of_ble_eq_true rfl) ⟨Nat.le_of_ble_eq_true rfl, Nat.le_of_ble_eq_true rfl⟩ ⟨Nat.le_refl _, Nat.le_refl _⟩ dX6_tellMember_57 rfl rfl hf (fun v3 hf => ?_)
            refine z_goto (pc' := 68) C dX6_tellMember_60 (by decide) ?_
            exact hr _ _ _ _ (congrArg (fun z => (z, m)) (Option.some.inj hf)) dX6_tellMember_68
        · skip
          refine z_aload_n (i := 0) C dX6_tellMember_39 rfl rfl rfl ?_
          refine z_gr C (FX6_tellMember_7 hM) (mn_0 hM) (mc_0 hM) rfl dX6_tellMember_40 rfl ?_
          refine z_iload_n (i := 3) C dX6_tellMember_43 rfl rfl rfl ?_
          refine z_iload_n (i := 2) C dX6_tellMember_44 rfl rfl rfl ?_
          refine z_iadd C dX6_tellMember_45 rfl ?_
          refine z_iaload C (mn_1 hM) (mc_1 hM) dX6_tellMember_46 rfl hf (fun v4 hf => ?_)
          refine z_goto (pc' := 68) C dX6_tellMember_47 (by decide) ?_
          exact hr _ _ _ _ (congrArg (fun z => (z, m)) (Option.some.inj hf)) dX6_tellMember_68
      · skip
        refine z_drop (lo' := [none, some (.int a1), some (.int a2), some (.int v1)]) 0 rfl ?_
        refine z_drop (lo' := [none, none, some (.int a2), some (.int v1)]) 1 rfl ?_
        exact hK15 hf

def fX6_member (N : Nat) (a1 : Int32) (a2 : Int32) (m : zMem) : Option (Int32 × zMem) :=
  kc1 (fX6_isId a1) fun v1 =>
  kjn (fun (w2 : Int32) =>
  kc2 (fX6_refused w2 m) fun v3 m4 =>
  if v3 = 0 then
  kc1 (fX6_tellMember N a1 a2 m4) fun v5 =>
  some (v5, m4)
  else
  some (0, m4)) fun K22 =>
  if v1 = 0 then
  K22 1
  else
  kc1 (fX6_in a2 0 4) fun v6 =>
  if v6 = 0 then
  K22 1
  else
  K22 0
theorem hdX6_member : yX6_member.cls = RX6 ∧ yX6_member.cls ≠ "java/lang/invoke/MethodHandle" ∧ yX6_member.cls ≠ "java/lang/invoke/VarHandle" ∧ (parseMethodDescriptor yX6_member.desc).map (fun d => d.parameters.length) = some 2 := by decide +kernel
set_option maxHeartbeats 4000000 in
set_option maxRecDepth 100000 in
theorem qX6_member {l : Launch} {g : zG} (hM : isM g)  (N : Nat) (a1 : Int32) (a2 : Int32) (m : zMem)  (o : Int32 × zMem) (hf : fX6_member N a1 a2 m = some o) : zMI l g yX6_member wsX6_member { frames := 3, cells := 0, slots := 0, locals := 71 } [.ref (zad g 0), .int a1, .int a2] m o := by
  refine z_met_i (cc := cX6_member) (maxL := 3) (lo0 := [some (.ref (zad g 0)), some (.int a1), some (.int a2)]) (by decide +kernel) rfl rfl (Nat.le_of_ble_eq_true rfl) (fun x hx C hr => ?_)
  unfold fX6_member at hf
  refine z_aload_n (i := 0) C dX6_member_0 rfl rfl rfl ?_
  refine z_iload_n (i := 1) C dX6_member_1 rfl rfl rfl ?_
  refine z_csiR (As := [.int a1]) (st := [.ref (zad g 0)]) (m := m) C gX6_member_X6_isId hdX6_isId rfl (fun z h => qX6_isId a1 m z h) rfl (Nat.le_of_ble_eq_true rfl) ⟨Nat.le_of_ble_eq_true rfl, Nat.le_of_ble_eq_true rfl⟩ ⟨Nat.le_refl _, Nat.le_refl _⟩ dX6_member_2 rfl rfl hf (fun v1 hf => ?_)
  refine kjn_V (fun K22 => ∀ (w2 : Int32), K22 w2 = some o → zV x g 3 0 0 22 [some (.ref (zad g 0)), some (.int a1), some (.int a2)] [.int w2, .ref (zad g 0)] m) hf (fun w2 hf => ?_) (fun K22 hK22 hf => ?_)
  · skip
    refine z_cviW (As := [.int w2]) (st := []) (m := m) C (cl_5 hM) (mn_0 hM) (mc_0 hM) gX6_member_X6_refused hdX6_refused rfl (fun z h => qX6_refused hM w2 m z h) rfl (Nat.le_of_ble_eq_true rfl) ⟨Nat.le_of_ble_eq_true rfl, Nat.le_of_ble_eq_true rfl⟩ ⟨Nat.le_refl _, Nat.le_refl _⟩ dX6_member_22 rfl rfl hf (fun v3 m4 hf => ?_)
    refine z_if_eq (tgt := 32) C dX6_member_25 (by decide) rfl hf (fun hf => ?_) (fun hf => ?_)
    · skip
      refine z_aload_n (i := 0) C dX6_member_32 rfl rfl rfl ?_
      refine z_iload_n (i := 1) C dX6_member_33 rfl rfl rfl ?_
      refine z_iload_n (i := 2) C dX6_member_34 rfl rfl rfl ?_
      refine z_cviR (As := [.int a1, .int a2]) (st := []) (m := m4) C (cl_5 hM) (mn_0 hM) (mc_0 hM) gX6_member_X6_tellMember hdX6_tellMember rfl (fun z h => qX6_tellMember hM N a1 a2 m4 z h) rfl (Nat.le_of_ble_eq_true rfl) ⟨Nat.le_of_ble_eq_true rfl, Nat.le_of_ble_eq_true rfl⟩ ⟨Nat.le_refl _, Nat.le_refl _⟩ dX6_member_35 rfl rfl hf (fun v5 hf => ?_)
      exact hr _ _ _ _ (Option.some.inj hf) dX6_member_38
    · skip
      refine z_iconst C dX6_member_28 zi_0 rfl ?_
      refine z_goto (pc' := 38) C dX6_member_29 (by decide) ?_
      exact hr _ _ _ _ (Option.some.inj hf) dX6_member_38
  · skip
    refine z_if_eq (tgt := 21) C dX6_member_5 (by decide) rfl hf (fun hf => ?_) (fun hf => ?_)
    · skip
      refine z_iconst C dX6_member_21 zi_1 rfl ?_
      exact hK22 _ hf
    · skip
      refine z_iload_n (i := 2) C dX6_member_8 rfl rfl rfl ?_
      refine z_iconst C dX6_member_9 zi_0 rfl ?_
      refine z_iconst C dX6_member_10 zi_4 rfl ?_
      refine z_csiR (As := [.int a2, .int 0, .int 4]) (st := [.ref (zad g 0)]) (m := m) C gX6_member_X6_in hdX6_in rfl (fun z h => qX6_in a2 0 4 m z h) rfl (Nat.le_of_ble_eq_true rfl) ⟨Nat.le_of_ble_eq_true rfl, Nat.le_of_ble_eq_true rfl⟩ ⟨Nat.le_refl _, Nat.le_refl _⟩ dX6_member_11 rfl rfl hf (fun v6 hf => ?_)
      refine z_if_eq (tgt := 21) C dX6_member_14 (by decide) rfl hf (fun hf => ?_) (fun hf => ?_)
      · skip
        refine z_iconst C dX6_member_21 zi_1 rfl ?_
        exact hK22 _ hf
      · skip
        refine z_iconst C dX6_member_17 zi_0 rfl ?_
        refine z_goto (pc' := 22) C dX6_member_18 (by decide) ?_
        exact hK22 _ hf

def sX6_memberAt_22 (N : Nat) (m3 : zMem) (K52 : Option (Int32 × zMem)) : (Int32 × Int32 → Option (Int32 × zMem)) → Int32 × Int32 → Option (Int32 × zMem) := fun rec (x4, x5) =>
  if 256 ≤ x5 then
  K52
  else
  kc1 (fX6_isMember N x5 m3) fun v6 =>
  if v6 = 0 then
  rec (x4, x5 + 1)
  else
  if x4 = 0 then
  some (x5, m3)
  else
  rec (x4 + (-1), x5 + 1)
def fX6_memberAt (N : Nat) (a1 : Int32) (m : zMem) : Option (Int32 × zMem) :=
  kjn (fun (w1 : Int32) =>
  kc2 (fX6_refused w1 m) fun v2 m3 =>
  if v2 = 0 then
  kjn (some ((-1), m3)) fun K52 =>
  klp (sX6_memberAt_22 N m3 K52) N (a1, 0)
  else
  some (0, m3)) fun K10 =>
  if 0 ≤ a1 then
  K10 0
  else
  K10 1
theorem hdX6_memberAt : yX6_memberAt.cls = RX6 ∧ yX6_memberAt.cls ≠ "java/lang/invoke/MethodHandle" ∧ yX6_memberAt.cls ≠ "java/lang/invoke/VarHandle" ∧ (parseMethodDescriptor yX6_memberAt.desc).map (fun d => d.parameters.length) = some 1 := by decide +kernel
set_option maxHeartbeats 4000000 in
set_option maxRecDepth 100000 in
theorem qX6_memberAt {l : Launch} {g : zG} (hM : isM g)  (N : Nat) (a1 : Int32) (m : zMem)  (o : Int32 × zMem) (hf : fX6_memberAt N a1 m = some o) : zMI l g yX6_memberAt wsX6_memberAt { frames := 3, cells := 0, slots := 0, locals := 63 } [.ref (zad g 0), .int a1] m o := by
  refine z_met_i (cc := cX6_memberAt) (maxL := 4) (lo0 := [some (.ref (zad g 0)), some (.int a1), none, none]) (by decide +kernel) rfl rfl (Nat.le_of_ble_eq_true rfl) (fun x hx C hr => ?_)
  unfold fX6_memberAt at hf
  refine z_aload_n (i := 0) C dX6_memberAt_0 rfl rfl rfl ?_
  refine z_iload_n (i := 1) C dX6_memberAt_1 rfl rfl rfl ?_
  refine kjn_V (fun K10 => ∀ (w1 : Int32), K10 w1 = some o → zV x g 4 0 0 10 [some (.ref (zad g 0)), some (.int a1), none, none] [.int w1, .ref (zad g 0)] m) hf (fun w1 hf => ?_) (fun K10 hK10 hf => ?_)
  · skip
    refine z_cviW (As := [.int w1]) (st := []) (m := m) C (cl_5 hM) (mn_0 hM) (mc_0 hM) gX6_memberAt_X6_refused hdX6_refused rfl (fun z h => qX6_refused hM w1 m z h) rfl (Nat.le_of_ble_eq_true rfl) ⟨Nat.le_of_ble_eq_true rfl, Nat.le_of_ble_eq_true rfl⟩ ⟨Nat.le_refl _, Nat.le_refl _⟩ dX6_memberAt_10 rfl rfl hf (fun v2 m3 hf => ?_)
    refine z_if_eq (tgt := 18) C dX6_memberAt_13 (by decide) rfl hf (fun hf => ?_) (fun hf => ?_)
    · skip
      refine z_iload_n (i := 1) C dX6_memberAt_18 rfl rfl rfl ?_
      refine z_istore_n (i := 2) (lo' := [some (.ref (zad g 0)), some (.int a1), some (.int a1), none]) C dX6_memberAt_19 rfl (Nat.le_of_ble_eq_true rfl) rfl rfl rfl ?_
      refine z_iconst C dX6_memberAt_20 zi_0 rfl ?_
      refine z_istore_n (i := 3) (lo' := [some (.ref (zad g 0)), some (.int a1), some (.int a1), some (.int 0)]) C dX6_memberAt_21 rfl (Nat.le_of_ble_eq_true rfl) rfl rfl rfl ?_
      refine z_drop (lo' := [some (.ref (zad g 0)), none, some (.int a1), some (.int 0)]) 1 rfl ?_
      refine kjn_V (fun K52 => K52 = some o → zV x g 4 0 0 52 [none, none, none, none] [] m3) hf (fun  hf => ?_) (fun K52 hK52 hf => ?_)
      · skip
        refine z_iconst C dX6_memberAt_52 zi_m1 rfl ?_
        exact hr _ _ _ _ (Option.some.inj hf) dX6_memberAt_53
      · skip
        refine klp_V (fun z => zV x g 4 0 0 22 [some (.ref (zad g 0)), none, some (.int z.1), some (.int z.2)] [] m3) hf (fun rec z ih hf => ?_)
        obtain ⟨x4, x5⟩ := z
        unfold sX6_memberAt_22 at hf
        try dsimp only at hf
        try dsimp only
        refine z_iload_n (i := 3) C dX6_memberAt_22 rfl rfl rfl ?_
        refine z_sipush C dX6_memberAt_23 zs_256 rfl ?_
        refine z_ic_ge (tgt := 52) C dX6_memberAt_26 (by decide) rfl hf (fun hf => ?_) (fun hf => ?_)
        · skip
          refine z_drop (lo' := [none, none, some (.int x4), some (.int x5)]) 0 rfl ?_
          refine z_drop (lo' := [none, none, none, some (.int x5)]) 2 rfl ?_
          refine z_drop (lo' := [none, none, none, none]) 3 rfl ?_
          exact hK52 hf
        · skip
          refine z_aload_n (i := 0) C dX6_memberAt_29 rfl rfl rfl ?_
          refine z_iload_n (i := 3) C dX6_memberAt_30 rfl rfl rfl ?_
          refine z_cviR (As := [.int x5]) (st := []) (m := m3) C (cl_5 hM) (mn_0 hM) (mc_0 hM) gX6_memberAt_X6_isMember hdX6_isMember rfl (fun z h => qX6_isMember hM N x5 m3 z h) rfl (Nat.le_of_ble_eq_true rfl) ⟨Nat.le_of_ble_eq_true rfl, Nat.le_of_ble_eq_true rfl⟩ ⟨Nat.le_refl _, Nat.le_refl _⟩ dX6_memberAt_31 rfl rfl hf (fun v6 hf => ?_)
          refine z_if_eq (tgt := 46) C dX6_memberAt_34 (by decide) rfl hf (fun hf => ?_) (fun hf => ?_)
          · skip
            refine z_iinc (v := x5 + 1) (lo' := [some (.ref (zad g 0)), none, some (.int x4), some (.int (x5 + 1))]) C dX6_memberAt_46 rfl (zinc zi_1) (Nat.le_of_ble_eq_true rfl) rfl rfl rfl ?_
            refine z_goto (pc' := 22) C dX6_memberAt_49 (by decide) ?_
            exact ih (x4, x5 + 1) hf
          · skip
            refine z_iload_n (i := 2) C dX6_memberAt_37 rfl rfl rfl ?_
            refine z_if_ne (tgt := 43) C dX6_memberAt_38 (by decide) rfl hf (fun hf => ?_) (fun hf => ?_)
            · skip
              refine z_iinc (v := x4 + (-1)) (lo' := [some (.ref (zad g 0)), none, some (.int (x4 + (-1))), some (.int x5)]) C dX6_memberAt_43 rfl (zinc zi_m1) (Nat.le_of_ble_eq_true rfl) rfl rfl rfl ?_
              refine z_iinc (v := x5 + 1) (lo' := [some (.ref (zad g 0)), none, some (.int (x4 + (-1))), some (.int (x5 + 1))]) C dX6_memberAt_46 rfl (zinc zi_1) (Nat.le_of_ble_eq_true rfl) rfl rfl rfl ?_
              refine z_goto (pc' := 22) C dX6_memberAt_49 (by decide) ?_
              exact ih (x4 + (-1), x5 + 1) hf
            · skip
              refine z_iload_n (i := 3) C dX6_memberAt_41 rfl rfl rfl ?_
              exact hr _ _ _ _ (Option.some.inj hf) dX6_memberAt_42
    · skip
      refine z_iconst C dX6_memberAt_16 zi_0 rfl ?_
      exact hr _ _ _ _ (Option.some.inj hf) dX6_memberAt_17
  · skip
    refine z_if_ge (tgt := 9) C dX6_memberAt_2 (by decide) rfl hf (fun hf => ?_) (fun hf => ?_)
    · skip
      refine z_iconst C dX6_memberAt_9 zi_0 rfl ?_
      exact hK10 _ hf
    · skip
      refine z_iconst C dX6_memberAt_5 zi_1 rfl ?_
      refine z_goto (pc' := 10) C dX6_memberAt_6 (by decide) ?_
      exact hK10 _ hf

def fX6_entry (N : Nat) (a1 : Int32) (a2 : Int32) (a3 : Int32) (a4 : Int32) (m : zMem) : Option (Int32 × zMem) :=
  kc1 (fX6_in a2 0 7) fun v1 =>
  kjn (fun (w2 : Int32) =>
  kc2 (fX6_refused w2 m) fun v3 m4 =>
  if v3 = 0 then
  kc1 (fX6_placeOf N a1 m4) fun v5 =>
  kld m4 1 1816 ((v5 + 3) + a2) fun v6 =>
  if a3 < v6 then
  kjn (fun (w7 : Int32) =>
  kld m4 1 1816 (((v5 + w7) + (4 * a2)) + a3) fun v8 =>
  some (v8, m4)) fun K86 =>
  if a4 = 0 then
  K86 11
  else
  K86 43
  else
  some ((-1), m4)
  else
  some (0, m4)) fun K34 =>
  if v1 = 0 then
  K34 1
  else
  if a3 < 0 then
  K34 1
  else
  kc1 (fX6_in a4 0 1) fun v9 =>
  if v9 = 0 then
  K34 1
  else
  kc1 (fX6_badMember N a1 m) fun v10 =>
  K34 v10
theorem FX6_entry_7 {g : zG} (hM : isM g) : zFl wsX6_entry RX6 (zcl g) 7 5 0 := ⟨RX6, TX6, 15, hM.2.2 ▸ rfl, by decide +kernel, by decide, by decide +kernel⟩
theorem hdX6_entry : yX6_entry.cls = RX6 ∧ yX6_entry.cls ≠ "java/lang/invoke/MethodHandle" ∧ yX6_entry.cls ≠ "java/lang/invoke/VarHandle" ∧ (parseMethodDescriptor yX6_entry.desc).map (fun d => d.parameters.length) = some 4 := by decide +kernel
set_option maxHeartbeats 4000000 in
set_option maxRecDepth 100000 in
theorem qX6_entry {l : Launch} {g : zG} (hM : isM g)  (N : Nat) (a1 : Int32) (a2 : Int32) (a3 : Int32) (a4 : Int32) (m : zMem)  (o : Int32 × zMem) (hf : fX6_entry N a1 a2 a3 a4 m = some o) : zMI l g yX6_entry wsX6_entry { frames := 4, cells := 0, slots := 0, locals := 84 } [.ref (zad g 0), .int a1, .int a2, .int a3, .int a4] m o := by
  refine z_met_i (cc := cX6_entry) (maxL := 6) (lo0 := [some (.ref (zad g 0)), some (.int a1), some (.int a2), some (.int a3), some (.int a4), none]) (by decide +kernel) rfl rfl (Nat.le_of_ble_eq_true rfl) (fun x hx C hr => ?_)
  unfold fX6_entry at hf
  refine z_aload_n (i := 0) C dX6_entry_0 rfl rfl rfl ?_
  refine z_iload_n (i := 2) C dX6_entry_1 rfl rfl rfl ?_
  refine z_iconst C dX6_entry_2 zi_0 rfl ?_
  refine z_bipush C dX6_entry_3 zb_7 rfl ?_
  refine z_csiR (As := [.int a2, .int 0, .int 7]) (st := [.ref (zad g 0)]) (m := m) C gX6_entry_X6_in hdX6_in rfl (fun z h => qX6_in a2 0 7 m z h) rfl (Nat.le_of_ble_eq_true rfl) ⟨Nat.le_of_ble_eq_true rfl, Nat.le_of_ble_eq_true rfl⟩ ⟨Nat.le_refl _, Nat.le_refl _⟩ dX6_entry_5 rfl rfl hf (fun v1 hf => ?_)
  refine kjn_V (fun K34 => ∀ (w2 : Int32), K34 w2 = some o → zV x g 6 0 0 34 [some (.ref (zad g 0)), some (.int a1), some (.int a2), some (.int a3), some (.int a4), none] [.int w2, .ref (zad g 0)] m) hf (fun w2 hf => ?_) (fun K34 hK34 hf => ?_)
  · skip
    refine z_cviW (As := [.int w2]) (st := []) (m := m) C (cl_5 hM) (mn_0 hM) (mc_0 hM) gX6_entry_X6_refused hdX6_refused rfl (fun z h => qX6_refused hM w2 m z h) rfl (Nat.le_of_ble_eq_true rfl) ⟨Nat.le_of_ble_eq_true rfl, Nat.le_of_ble_eq_true rfl⟩ ⟨Nat.le_refl _, Nat.le_refl _⟩ dX6_entry_34 rfl rfl hf (fun v3 m4 hf => ?_)
    refine z_if_eq (tgt := 42) C dX6_entry_37 (by decide) rfl hf (fun hf => ?_) (fun hf => ?_)
    · skip
      refine z_aload_n (i := 0) C dX6_entry_42 rfl rfl rfl ?_
      refine z_iload_n (i := 1) C dX6_entry_43 rfl rfl rfl ?_
      refine z_cviR (As := [.int a1]) (st := []) (m := m4) C (cl_5 hM) (mn_0 hM) (mc_0 hM) gX6_entry_X6_placeOf hdX6_placeOf rfl (fun z h => qX6_placeOf hM N a1 m4 z h) rfl (Nat.le_of_ble_eq_true rfl) ⟨Nat.le_of_ble_eq_true rfl, Nat.le_of_ble_eq_true rfl⟩ ⟨Nat.le_refl _, Nat.le_refl _⟩ dX6_entry_44 rfl rfl hf (fun v5 hf => ?_)
      refine z_istore (lo' := [some (.ref (zad g 0)), some (.int a1), some (.int a2), some (.int a3), some (.int a4), some (.int v5)]) C dX6_entry_47 (Nat.le_of_ble_eq_true rfl) rfl rfl rfl ?_
      refine z_iload_n (i := 3) C dX6_entry_49 rfl rfl rfl ?_
      refine z_aload_n (i := 0) C dX6_entry_50 rfl rfl rfl ?_
      refine z_gr C (FX6_entry_7 hM) (mn_0 hM) (mc_0 hM) rfl dX6_entry_51 rfl ?_
      refine z_iload C dX6_entry_54 rfl rfl ?_
      refine z_iconst C dX6_entry_56 zi_3 rfl ?_
      refine z_iadd C dX6_entry_57 rfl ?_
      refine z_iload_n (i := 2) C dX6_entry_58 rfl rfl rfl ?_
      refine z_iadd C dX6_entry_59 rfl ?_
      refine z_iaload C (mn_1 hM) (mc_1 hM) dX6_entry_60 rfl hf (fun v6 hf => ?_)
      refine z_ic_lt (tgt := 68) C dX6_entry_61 (by decide) rfl hf (fun hf => ?_) (fun hf => ?_)
      · skip
        refine z_aload_n (i := 0) C dX6_entry_68 rfl rfl rfl ?_
        refine z_gr C (FX6_entry_7 hM) (mn_0 hM) (mc_0 hM) rfl dX6_entry_69 rfl ?_
        refine z_iload C dX6_entry_72 rfl rfl ?_
        refine z_iload C dX6_entry_74 rfl rfl ?_
        refine kjn_V (fun K86 => ∀ (w7 : Int32), K86 w7 = some o → zV x g 6 0 0 86 [none, none, some (.int a2), some (.int a3), none, none] [.int w7, .int v5, .ref (zad g 1)] m4) hf (fun w7 hf => ?_) (fun K86 hK86 hf => ?_)
        · skip
          refine z_iadd C dX6_entry_86 rfl ?_
          refine z_iconst C dX6_entry_87 zi_4 rfl ?_
          refine z_iload_n (i := 2) C dX6_entry_88 rfl rfl rfl ?_
          refine z_imul C dX6_entry_89 rfl ?_
          refine z_iadd C dX6_entry_90 rfl ?_
          refine z_iload_n (i := 3) C dX6_entry_91 rfl rfl rfl ?_
          refine z_iadd C dX6_entry_92 rfl ?_
          refine z_iaload C (mn_1 hM) (mc_1 hM) dX6_entry_93 rfl hf (fun v8 hf => ?_)
          exact hr _ _ _ _ (Option.some.inj hf) dX6_entry_94
        · skip
          refine z_if_ne (tgt := 84) C dX6_entry_76 (by decide) rfl hf (fun hf => ?_) (fun hf => ?_)
          · skip
            refine z_bipush C dX6_entry_84 zb_43 rfl ?_
            refine z_drop (lo' := [none, some (.int a1), some (.int a2), some (.int a3), some (.int a4), some (.int v5)]) 0 rfl ?_
            refine z_drop (lo' := [none, none, some (.int a2), some (.int a3), some (.int a4), some (.int v5)]) 1 rfl ?_
            refine z_drop (lo' := [none, none, some (.int a2), some (.int a3), none, some (.int v5)]) 4 rfl ?_
            refine z_drop (lo' := [none, none, some (.int a2), some (.int a3), none, none]) 5 rfl ?_
            exact hK86 _ hf
          · skip
            refine z_bipush C dX6_entry_79 zb_11 rfl ?_
            refine z_goto (pc' := 86) C dX6_entry_81 (by decide) ?_
            refine z_drop (lo' := [none, some (.int a1), some (.int a2), some (.int a3), some (.int a4), some (.int v5)]) 0 rfl ?_
            refine z_drop (lo' := [none, none, some (.int a2), some (.int a3), some (.int a4), some (.int v5)]) 1 rfl ?_
            refine z_drop (lo' := [none, none, some (.int a2), some (.int a3), none, some (.int v5)]) 4 rfl ?_
            refine z_drop (lo' := [none, none, some (.int a2), some (.int a3), none, none]) 5 rfl ?_
            exact hK86 _ hf
      · skip
        refine z_iconst C dX6_entry_64 zi_m1 rfl ?_
        refine z_goto (pc' := 94) C dX6_entry_65 (by decide) ?_
        exact hr _ _ _ _ (Option.some.inj hf) dX6_entry_94
    · skip
      refine z_iconst C dX6_entry_40 zi_0 rfl ?_
      exact hr _ _ _ _ (Option.some.inj hf) dX6_entry_41
  · skip
    refine z_if_eq (tgt := 33) C dX6_entry_8 (by decide) rfl hf (fun hf => ?_) (fun hf => ?_)
    · skip
      refine z_iconst C dX6_entry_33 zi_1 rfl ?_
      exact hK34 _ hf
    · skip
      refine z_iload_n (i := 3) C dX6_entry_11 rfl rfl rfl ?_
      refine z_if_lt (tgt := 33) C dX6_entry_12 (by decide) rfl hf (fun hf => ?_) (fun hf => ?_)
      · skip
        refine z_iconst C dX6_entry_33 zi_1 rfl ?_
        exact hK34 _ hf
      · skip
        refine z_iload C dX6_entry_15 rfl rfl ?_
        refine z_iconst C dX6_entry_17 zi_0 rfl ?_
        refine z_iconst C dX6_entry_18 zi_1 rfl ?_
        refine z_csiR (As := [.int a4, .int 0, .int 1]) (st := [.ref (zad g 0)]) (m := m) C gX6_entry_X6_in hdX6_in rfl (fun z h => qX6_in a4 0 1 m z h) rfl (Nat.le_of_ble_eq_true rfl) ⟨Nat.le_of_ble_eq_true rfl, Nat.le_of_ble_eq_true rfl⟩ ⟨Nat.le_refl _, Nat.le_refl _⟩ dX6_entry_19 rfl rfl hf (fun v9 hf => ?_)
        refine z_if_eq (tgt := 33) C dX6_entry_22 (by decide) rfl hf (fun hf => ?_) (fun hf => ?_)
        · skip
          refine z_iconst C dX6_entry_33 zi_1 rfl ?_
          exact hK34 _ hf
        · skip
          refine z_aload_n (i := 0) C dX6_entry_25 rfl rfl rfl ?_
          refine z_iload_n (i := 1) C dX6_entry_26 rfl rfl rfl ?_
          refine z_cviR (As := [.int a1]) (st := [.ref (zad g 0)]) (m := m) C (cl_5 hM) (mn_0 hM) (mc_0 hM) gX6_entry_X6_badMember hdX6_badMember rfl (fun z h => qX6_badMember hM N a1 m z h) rfl (Nat.le_of_ble_eq_true rfl) ⟨Nat.le_of_ble_eq_true rfl, Nat.le_of_ble_eq_true rfl⟩ ⟨Nat.le_refl _, Nat.le_refl _⟩ dX6_entry_27 rfl rfl hf (fun v10 hf => ?_)
          refine z_goto (pc' := 34) C dX6_entry_30 (by decide) ?_
          exact hK34 _ hf

def fX6_share (N : Nat) (a1 : Int32) (a2 : Int32) (m : zMem) : Option (Int32 × zMem) :=
  kc1 (fX6_in a2 0 7) fun v1 =>
  kjn (fun (w2 : Int32) =>
  kc2 (fX6_refused w2 m) fun v3 m4 =>
  if v3 = 0 then
  kc1 (fX6_placeOf N a1 m4) fun v5 =>
  kc1 (fX6_entries N v5 m4) fun v6 =>
  if v6 = 0 then
  some (0, m4)
  else
  kc1 (fX6_inTable N v5 a2 m4) fun v7 =>
  kc1 (fX6_entries N v5 m4) fun v8 =>
  kdv (1000 * v7) v8 fun v9 =>
  some (v9, m4)
  else
  some (0, m4)) fun K20 =>
  if v1 = 0 then
  K20 1
  else
  kc1 (fX6_badMember N a1 m) fun v10 =>
  K20 v10
theorem hdX6_share : yX6_share.cls = RX6 ∧ yX6_share.cls ≠ "java/lang/invoke/MethodHandle" ∧ yX6_share.cls ≠ "java/lang/invoke/VarHandle" ∧ (parseMethodDescriptor yX6_share.desc).map (fun d => d.parameters.length) = some 2 := by decide +kernel
set_option maxHeartbeats 4000000 in
set_option maxRecDepth 100000 in
theorem qX6_share {l : Launch} {g : zG} (hM : isM g)  (N : Nat) (a1 : Int32) (a2 : Int32) (m : zMem)  (o : Int32 × zMem) (hf : fX6_share N a1 a2 m = some o) : zMI l g yX6_share wsX6_share { frames := 4, cells := 0, slots := 0, locals := 84 } [.ref (zad g 0), .int a1, .int a2] m o := by
  refine z_met_i (cc := cX6_share) (maxL := 4) (lo0 := [some (.ref (zad g 0)), some (.int a1), some (.int a2), none]) (by decide +kernel) rfl rfl (Nat.le_of_ble_eq_true rfl) (fun x hx C hr => ?_)
  unfold fX6_share at hf
  refine z_aload_n (i := 0) C dX6_share_0 rfl rfl rfl ?_
  refine z_iload_n (i := 2) C dX6_share_1 rfl rfl rfl ?_
  refine z_iconst C dX6_share_2 zi_0 rfl ?_
  refine z_bipush C dX6_share_3 zb_7 rfl ?_
  refine z_csiR (As := [.int a2, .int 0, .int 7]) (st := [.ref (zad g 0)]) (m := m) C gX6_share_X6_in hdX6_in rfl (fun z h => qX6_in a2 0 7 m z h) rfl (Nat.le_of_ble_eq_true rfl) ⟨Nat.le_of_ble_eq_true rfl, Nat.le_of_ble_eq_true rfl⟩ ⟨Nat.le_refl _, Nat.le_refl _⟩ dX6_share_5 rfl rfl hf (fun v1 hf => ?_)
  refine kjn_V (fun K20 => ∀ (w2 : Int32), K20 w2 = some o → zV x g 4 0 0 20 [some (.ref (zad g 0)), some (.int a1), some (.int a2), none] [.int w2, .ref (zad g 0)] m) hf (fun w2 hf => ?_) (fun K20 hK20 hf => ?_)
  · skip
    refine z_cviW (As := [.int w2]) (st := []) (m := m) C (cl_5 hM) (mn_0 hM) (mc_0 hM) gX6_share_X6_refused hdX6_refused rfl (fun z h => qX6_refused hM w2 m z h) rfl (Nat.le_of_ble_eq_true rfl) ⟨Nat.le_of_ble_eq_true rfl, Nat.le_of_ble_eq_true rfl⟩ ⟨Nat.le_refl _, Nat.le_refl _⟩ dX6_share_20 rfl rfl hf (fun v3 m4 hf => ?_)
    refine z_if_eq (tgt := 28) C dX6_share_23 (by decide) rfl hf (fun hf => ?_) (fun hf => ?_)
    · skip
      refine z_aload_n (i := 0) C dX6_share_28 rfl rfl rfl ?_
      refine z_iload_n (i := 1) C dX6_share_29 rfl rfl rfl ?_
      refine z_cviR (As := [.int a1]) (st := []) (m := m4) C (cl_5 hM) (mn_0 hM) (mc_0 hM) gX6_share_X6_placeOf hdX6_placeOf rfl (fun z h => qX6_placeOf hM N a1 m4 z h) rfl (Nat.le_of_ble_eq_true rfl) ⟨Nat.le_of_ble_eq_true rfl, Nat.le_of_ble_eq_true rfl⟩ ⟨Nat.le_refl _, Nat.le_refl _⟩ dX6_share_30 rfl rfl hf (fun v5 hf => ?_)
      refine z_istore_n (i := 3) (lo' := [some (.ref (zad g 0)), some (.int a1), some (.int a2), some (.int v5)]) C dX6_share_33 rfl (Nat.le_of_ble_eq_true rfl) rfl rfl rfl ?_
      refine z_aload_n (i := 0) C dX6_share_34 rfl rfl rfl ?_
      refine z_iload_n (i := 3) C dX6_share_35 rfl rfl rfl ?_
      refine z_cviR (As := [.int v5]) (st := []) (m := m4) C (cl_5 hM) (mn_0 hM) (mc_0 hM) gX6_share_X6_entries hdX6_entries rfl (fun z h => qX6_entries hM N v5 m4 z h) rfl (Nat.le_of_ble_eq_true rfl) ⟨Nat.le_of_ble_eq_true rfl, Nat.le_of_ble_eq_true rfl⟩ ⟨Nat.le_refl _, Nat.le_refl _⟩ dX6_share_36 rfl rfl hf (fun v6 hf => ?_)
      refine z_if_ne (tgt := 46) C dX6_share_39 (by decide) rfl hf (fun hf => ?_) (fun hf => ?_)
      · skip
        refine z_sipush C dX6_share_46 zs_1000 rfl ?_
        refine z_aload_n (i := 0) C dX6_share_49 rfl rfl rfl ?_
        refine z_iload_n (i := 3) C dX6_share_50 rfl rfl rfl ?_
        refine z_iload_n (i := 2) C dX6_share_51 rfl rfl rfl ?_
        refine z_cviR (As := [.int v5, .int a2]) (st := [.int 1000]) (m := m4) C (cl_5 hM) (mn_0 hM) (mc_0 hM) gX6_share_X6_inTable hdX6_inTable rfl (fun z h => qX6_inTable hM N v5 a2 m4 z h) rfl (Nat.le_of_ble_eq_true rfl) ⟨Nat.le_of_ble_eq_true rfl, Nat.le_of_ble_eq_true rfl⟩ ⟨Nat.le_refl _, Nat.le_refl _⟩ dX6_share_52 rfl rfl hf (fun v7 hf => ?_)
        refine z_imul C dX6_share_55 rfl ?_
        refine z_aload_n (i := 0) C dX6_share_56 rfl rfl rfl ?_
        refine z_iload_n (i := 3) C dX6_share_57 rfl rfl rfl ?_
        refine z_cviR (As := [.int v5]) (st := [.int (1000 * v7)]) (m := m4) C (cl_5 hM) (mn_0 hM) (mc_0 hM) gX6_share_X6_entries hdX6_entries rfl (fun z h => qX6_entries hM N v5 m4 z h) rfl (Nat.le_of_ble_eq_true rfl) ⟨Nat.le_of_ble_eq_true rfl, Nat.le_of_ble_eq_true rfl⟩ ⟨Nat.le_refl _, Nat.le_refl _⟩ dX6_share_58 rfl rfl hf (fun v8 hf => ?_)
        refine z_idiv C dX6_share_61 rfl hf (fun v9 hf => ?_)
        exact hr _ _ _ _ (Option.some.inj hf) dX6_share_62
      · skip
        refine z_iconst C dX6_share_42 zi_0 rfl ?_
        refine z_goto (pc' := 62) C dX6_share_43 (by decide) ?_
        exact hr _ _ _ _ (Option.some.inj hf) dX6_share_62
    · skip
      refine z_iconst C dX6_share_26 zi_0 rfl ?_
      exact hr _ _ _ _ (Option.some.inj hf) dX6_share_27
  · skip
    refine z_if_eq (tgt := 19) C dX6_share_8 (by decide) rfl hf (fun hf => ?_) (fun hf => ?_)
    · skip
      refine z_iconst C dX6_share_19 zi_1 rfl ?_
      exact hK20 _ hf
    · skip
      refine z_aload_n (i := 0) C dX6_share_11 rfl rfl rfl ?_
      refine z_iload_n (i := 1) C dX6_share_12 rfl rfl rfl ?_
      refine z_cviR (As := [.int a1]) (st := [.ref (zad g 0)]) (m := m) C (cl_5 hM) (mn_0 hM) (mc_0 hM) gX6_share_X6_badMember hdX6_badMember rfl (fun z h => qX6_badMember hM N a1 m z h) rfl (Nat.le_of_ble_eq_true rfl) ⟨Nat.le_of_ble_eq_true rfl, Nat.le_of_ble_eq_true rfl⟩ ⟨Nat.le_refl _, Nat.le_refl _⟩ dX6_share_13 rfl rfl hf (fun v10 hf => ?_)
      refine z_goto (pc' := 20) C dX6_share_16 (by decide) ?_
      exact hK20 _ hf

def sX6_largest_15 (m : zMem) (x3 : Int32) (K65 : Int32 → Option (Int32)) : (Int32 × Int32 → Option (Int32)) → Int32 × Int32 → Option (Int32) := fun rec (x5, x6) =>
  if 24 ≤ x6 then
  K65 x5
  else
  kc1 (fX6_of x6) fun v7 =>
  kld m 1 1816 v7 fun v8 =>
  if v8 ≤ 0 then
  klt (x5 + 0 : Int32) fun v9 =>
  rec (v9, x6 + 1)
  else
  kc1 (fX6_of x6) fun v10 =>
  kld m 1 1816 (v10 + 1) fun v11 =>
  if v11 = x3 then
  klt (x5 + 1 : Int32) fun v13 =>
  rec (v13, x6 + 1)
  else
  klt (x5 + 0 : Int32) fun v12 =>
  rec (v12, x6 + 1)
def sX6_largest_4 (N : Nat) (m : zMem) (K82 : Int32 → Option (Int32)) : (Int32 × Int32 → Option (Int32)) → Int32 × Int32 → Option (Int32) := fun rec (x2, x3) =>
  if 8 ≤ x3 then
  K82 x2
  else
  kjn (fun (w4 : Int32) =>
  if w4 ≤ x2 then
  rec (x2, x3 + 1)
  else
  rec (w4, x3 + 1)) fun K65 =>
  klp (sX6_largest_15 m x3 K65) N (0, 0)
def fX6_largest (N : Nat) (m : zMem) : Option (Int32) :=
  kjn (fun (w1 : Int32) =>
  some w1) fun K82 =>
  klp (sX6_largest_4 N m K82) N (0, 0)
theorem FX6_largest_7 {g : zG} (hM : isM g) : zFl wsX6_largest RX6 (zcl g) 7 5 0 := ⟨RX6, TX6, 15, hM.2.2 ▸ rfl, by decide +kernel, by decide, by decide +kernel⟩
theorem hdX6_largest : yX6_largest.cls = RX6 ∧ yX6_largest.cls ≠ "java/lang/invoke/MethodHandle" ∧ yX6_largest.cls ≠ "java/lang/invoke/VarHandle" ∧ (parseMethodDescriptor yX6_largest.desc).map (fun d => d.parameters.length) = some 0 := by decide +kernel
set_option maxHeartbeats 4000000 in
set_option maxRecDepth 100000 in
theorem qX6_largest {l : Launch} {g : zG} (hM : isM g)  (N : Nat) (m : zMem)  (o : Int32) (hf : fX6_largest N m = some o) : zMI l g yX6_largest wsX6_largest { frames := 1, cells := 0, slots := 0, locals := 20 } [.ref (zad g 0)] m (o, m) := by
  refine z_met_i (cc := cX6_largest) (maxL := 5) (lo0 := [some (.ref (zad g 0)), none, none, none, none]) (by decide +kernel) rfl rfl (Nat.le_of_ble_eq_true rfl) (fun x hx C hr => ?_)
  unfold fX6_largest at hf
  refine z_iconst C dX6_largest_0 zi_0 rfl ?_
  refine z_istore_n (i := 1) (lo' := [some (.ref (zad g 0)), some (.int 0), none, none, none]) C dX6_largest_1 rfl (Nat.le_of_ble_eq_true rfl) rfl rfl rfl ?_
  refine z_iconst C dX6_largest_2 zi_0 rfl ?_
  refine z_istore_n (i := 2) (lo' := [some (.ref (zad g 0)), some (.int 0), some (.int 0), none, none]) C dX6_largest_3 rfl (Nat.le_of_ble_eq_true rfl) rfl rfl rfl ?_
  refine kjn_V (fun K82 => ∀ (w1 : Int32), K82 w1 = some o → zV x g 5 0 0 82 [none, some (.int w1), none, none, none] [] m) hf (fun w1 hf => ?_) (fun K82 hK82 hf => ?_)
  · skip
    refine z_iload_n (i := 1) C dX6_largest_82 rfl rfl rfl ?_
    exact hr _ _ _ _ (congrArg (fun z => (z, m)) (Option.some.inj hf)) dX6_largest_83
  · skip
    refine klp_V (fun z => zV x g 5 0 0 4 [some (.ref (zad g 0)), some (.int z.1), some (.int z.2), none, none] [] m) hf (fun rec z ih hf => ?_)
    obtain ⟨x2, x3⟩ := z
    unfold sX6_largest_4 at hf
    try dsimp only at hf
    try dsimp only
    refine z_iload_n (i := 2) C dX6_largest_4 rfl rfl rfl ?_
    refine z_bipush C dX6_largest_5 zb_8 rfl ?_
    refine z_ic_ge (tgt := 82) C dX6_largest_7 (by decide) rfl hf (fun hf => ?_) (fun hf => ?_)
    · skip
      refine z_drop (lo' := [none, some (.int x2), some (.int x3), none, none]) 0 rfl ?_
      refine z_drop (lo' := [none, some (.int x2), none, none, none]) 2 rfl ?_
      exact hK82 _ hf
    · skip
      refine z_iconst C dX6_largest_10 zi_0 rfl ?_
      refine z_istore_n (i := 3) (lo' := [some (.ref (zad g 0)), some (.int x2), some (.int x3), some (.int 0), none]) C dX6_largest_11 rfl (Nat.le_of_ble_eq_true rfl) rfl rfl rfl ?_
      refine z_iconst C dX6_largest_12 zi_0 rfl ?_
      refine z_istore (lo' := [some (.ref (zad g 0)), some (.int x2), some (.int x3), some (.int 0), some (.int 0)]) C dX6_largest_13 (Nat.le_of_ble_eq_true rfl) rfl rfl rfl ?_
      refine kjn_V (fun K65 => ∀ (w4 : Int32), K65 w4 = some o → zV x g 5 0 0 65 [some (.ref (zad g 0)), some (.int x2), some (.int x3), some (.int w4), none] [] m) hf (fun w4 hf => ?_) (fun K65 hK65 hf => ?_)
      · skip
        refine z_iload_n (i := 3) C dX6_largest_65 rfl rfl rfl ?_
        refine z_iload_n (i := 1) C dX6_largest_66 rfl rfl rfl ?_
        refine z_ic_le (tgt := 74) C dX6_largest_67 (by decide) rfl hf (fun hf => ?_) (fun hf => ?_)
        · skip
          refine z_iload_n (i := 1) C dX6_largest_74 rfl rfl rfl ?_
          refine z_istore_n (i := 1) (lo' := [some (.ref (zad g 0)), some (.int x2), some (.int x3), some (.int w4), none]) C dX6_largest_75 rfl (Nat.le_of_ble_eq_true rfl) rfl rfl rfl ?_
          refine z_iinc (v := x3 + 1) (lo' := [some (.ref (zad g 0)), some (.int x2), some (.int (x3 + 1)), some (.int w4), none]) C dX6_largest_76 rfl (zinc zi_1) (Nat.le_of_ble_eq_true rfl) rfl rfl rfl ?_
          refine z_goto (pc' := 4) C dX6_largest_79 (by decide) ?_
          refine z_drop (lo' := [some (.ref (zad g 0)), some (.int x2), some (.int (x3 + 1)), none, none]) 3 rfl ?_
          exact ih (x2, x3 + 1) hf
        · skip
          refine z_iload_n (i := 3) C dX6_largest_70 rfl rfl rfl ?_
          refine z_goto (pc' := 75) C dX6_largest_71 (by decide) ?_
          refine z_istore_n (i := 1) (lo' := [some (.ref (zad g 0)), some (.int w4), some (.int x3), some (.int w4), none]) C dX6_largest_75 rfl (Nat.le_of_ble_eq_true rfl) rfl rfl rfl ?_
          refine z_iinc (v := x3 + 1) (lo' := [some (.ref (zad g 0)), some (.int w4), some (.int (x3 + 1)), some (.int w4), none]) C dX6_largest_76 rfl (zinc zi_1) (Nat.le_of_ble_eq_true rfl) rfl rfl rfl ?_
          refine z_goto (pc' := 4) C dX6_largest_79 (by decide) ?_
          refine z_drop (lo' := [some (.ref (zad g 0)), some (.int w4), some (.int (x3 + 1)), none, none]) 3 rfl ?_
          exact ih (w4, x3 + 1) hf
      · skip
        refine klp_V (fun z => zV x g 5 0 0 15 [some (.ref (zad g 0)), some (.int x2), some (.int x3), some (.int z.1), some (.int z.2)] [] m) hf (fun rec z ih hf => ?_)
        obtain ⟨x5, x6⟩ := z
        unfold sX6_largest_15 at hf
        try dsimp only at hf
        try dsimp only
        refine z_iload C dX6_largest_15 rfl rfl ?_
        refine z_bipush C dX6_largest_17 zb_24 rfl ?_
        refine z_ic_ge (tgt := 65) C dX6_largest_19 (by decide) rfl hf (fun hf => ?_) (fun hf => ?_)
        · skip
          refine z_drop (lo' := [some (.ref (zad g 0)), some (.int x2), some (.int x3), some (.int x5), none]) 4 rfl ?_
          exact hK65 _ hf
        · skip
          refine z_iload_n (i := 3) C dX6_largest_22 rfl rfl rfl ?_
          refine z_aload_n (i := 0) C dX6_largest_23 rfl rfl rfl ?_
          refine z_gr C (FX6_largest_7 hM) (mn_0 hM) (mc_0 hM) rfl dX6_largest_24 rfl ?_
          refine z_iload C dX6_largest_27 rfl rfl ?_
          refine z_csiR (As := [.int x6]) (st := [.ref (zad g 1), .int x5]) (m := m) C gX6_largest_X6_of hdX6_of rfl (fun z h => qX6_of x6 m z h) rfl (Nat.le_of_ble_eq_true rfl) ⟨Nat.le_of_ble_eq_true rfl, Nat.le_of_ble_eq_true rfl⟩ ⟨Nat.le_refl _, Nat.le_refl _⟩ dX6_largest_29 rfl rfl hf (fun v7 hf => ?_)
          refine z_iaload C (mn_1 hM) (mc_1 hM) dX6_largest_32 rfl hf (fun v8 hf => ?_)
          refine z_if_le (tgt := 56) C dX6_largest_33 (by decide) rfl hf (fun hf => ?_) (fun hf => ?_)
          · skip
            refine z_iconst C dX6_largest_56 zi_0 rfl ?_
            refine z_iadd C dX6_largest_57 rfl ?_
            refine z_top _ hf (fun v9 hf => ?_)
            refine z_istore_n (i := 3) (lo' := [some (.ref (zad g 0)), some (.int x2), some (.int x3), some (.int v9), some (.int x6)]) C dX6_largest_58 rfl (Nat.le_of_ble_eq_true rfl) rfl rfl rfl ?_
            refine z_iinc (v := x6 + 1) (lo' := [some (.ref (zad g 0)), some (.int x2), some (.int x3), some (.int v9), some (.int (x6 + 1))]) C dX6_largest_59 rfl (zinc zi_1) (Nat.le_of_ble_eq_true rfl) rfl rfl rfl ?_
            refine z_goto (pc' := 15) C dX6_largest_62 (by decide) ?_
            exact ih (v9, x6 + 1) hf
          · skip
            refine z_aload_n (i := 0) C dX6_largest_36 rfl rfl rfl ?_
            refine z_gr C (FX6_largest_7 hM) (mn_0 hM) (mc_0 hM) rfl dX6_largest_37 rfl ?_
            refine z_iload C dX6_largest_40 rfl rfl ?_
            refine z_csiR (As := [.int x6]) (st := [.ref (zad g 1), .int x5]) (m := m) C gX6_largest_X6_of hdX6_of rfl (fun z h => qX6_of x6 m z h) rfl (Nat.le_of_ble_eq_true rfl) ⟨Nat.le_of_ble_eq_true rfl, Nat.le_of_ble_eq_true rfl⟩ ⟨Nat.le_refl _, Nat.le_refl _⟩ dX6_largest_42 rfl rfl hf (fun v10 hf => ?_)
            refine z_iconst C dX6_largest_45 zi_1 rfl ?_
            refine z_iadd C dX6_largest_46 rfl ?_
            refine z_iaload C (mn_1 hM) (mc_1 hM) dX6_largest_47 rfl hf (fun v11 hf => ?_)
            refine z_iload_n (i := 2) C dX6_largest_48 rfl rfl rfl ?_
            refine z_ic_ne (tgt := 56) C dX6_largest_49 (by decide) rfl hf (fun hf => ?_) (fun hf => ?_)
            · skip
              refine z_iconst C dX6_largest_56 zi_0 rfl ?_
              refine z_iadd C dX6_largest_57 rfl ?_
              refine z_top _ hf (fun v12 hf => ?_)
              refine z_istore_n (i := 3) (lo' := [some (.ref (zad g 0)), some (.int x2), some (.int x3), some (.int v12), some (.int x6)]) C dX6_largest_58 rfl (Nat.le_of_ble_eq_true rfl) rfl rfl rfl ?_
              refine z_iinc (v := x6 + 1) (lo' := [some (.ref (zad g 0)), some (.int x2), some (.int x3), some (.int v12), some (.int (x6 + 1))]) C dX6_largest_59 rfl (zinc zi_1) (Nat.le_of_ble_eq_true rfl) rfl rfl rfl ?_
              refine z_goto (pc' := 15) C dX6_largest_62 (by decide) ?_
              exact ih (v12, x6 + 1) hf
            · skip
              refine z_iconst C dX6_largest_52 zi_1 rfl ?_
              refine z_goto (pc' := 57) C dX6_largest_53 (by decide) ?_
              refine z_iadd C dX6_largest_57 rfl ?_
              refine z_top _ hf (fun v13 hf => ?_)
              refine z_istore_n (i := 3) (lo' := [some (.ref (zad g 0)), some (.int x2), some (.int x3), some (.int v13), some (.int x6)]) C dX6_largest_58 rfl (Nat.le_of_ble_eq_true rfl) rfl rfl rfl ?_
              refine z_iinc (v := x6 + 1) (lo' := [some (.ref (zad g 0)), some (.int x2), some (.int x3), some (.int v13), some (.int (x6 + 1))]) C dX6_largest_59 rfl (zinc zi_1) (Nat.le_of_ble_eq_true rfl) rfl rfl rfl ?_
              refine z_goto (pc' := 15) C dX6_largest_62 (by decide) ?_
              exact ih (v13, x6 + 1) hf

def fX6_tellOverlay (N : Nat) (a1 : Int32) (m : zMem) : Option (Int32) :=
  if a1 = 0 then
  kc1 (fX6_memberMany N m) fun v1 =>
  some v1
  else if a1 = 1 then
  kld m 1 1816 5 fun v2 =>
  some v2
  else if a1 = 2 then
  kc1 (fX6_epochNow m) fun v3 =>
  some v3
  else if a1 = 3 then
  kc1 (fX6_difficulty m) fun v4 =>
  some v4
  else if a1 = 4 then
  kld m 1 1816 6 fun v5 =>
  some v5
  else if a1 = 5 then
  kld m 1 1816 3 fun v6 =>
  some v6
  else if a1 = 6 then
  kld m 1 1816 4 fun v7 =>
  some v7
  else if a1 = 7 then
  kld m 1 1816 1 fun v8 =>
  some v8
  else kc1 (fX6_largest N m) fun v9 =>
  some v9
theorem FX6_tellOverlay_7 {g : zG} (hM : isM g) : zFl wsX6_tellOverlay RX6 (zcl g) 7 5 0 := ⟨RX6, TX6, 15, hM.2.2 ▸ rfl, by decide +kernel, by decide, by decide +kernel⟩
theorem hdX6_tellOverlay : yX6_tellOverlay.cls = RX6 ∧ yX6_tellOverlay.cls ≠ "java/lang/invoke/MethodHandle" ∧ yX6_tellOverlay.cls ≠ "java/lang/invoke/VarHandle" ∧ (parseMethodDescriptor yX6_tellOverlay.desc).map (fun d => d.parameters.length) = some 1 := by decide +kernel
set_option maxHeartbeats 4000000 in
set_option maxRecDepth 100000 in
theorem qX6_tellOverlay {l : Launch} {g : zG} (hM : isM g)  (N : Nat) (a1 : Int32) (m : zMem)  (o : Int32) (hf : fX6_tellOverlay N a1 m = some o) : zMI l g yX6_tellOverlay wsX6_tellOverlay { frames := 2, cells := 0, slots := 0, locals := 44 } [.ref (zad g 0), .int a1] m (o, m) := by
  refine z_met_i (cc := cX6_tellOverlay) (maxL := 2) (lo0 := [some (.ref (zad g 0)), some (.int a1)]) (by decide +kernel) rfl rfl (Nat.le_of_ble_eq_true rfl) (fun x hx C hr => ?_)
  unfold fX6_tellOverlay at hf
  refine z_iload_n (i := 1) C dX6_tellOverlay_0 rfl rfl rfl ?_
  refine ite_V hf (fun hn hf => ?_) (fun hn1_0 hf => ?_)
  · refine z_tsi (tgt := 48) C hn dX6_tellOverlay_1 (by decide) (by decide) rfl (by decide) ?_
    refine z_aload_n (i := 0) C dX6_tellOverlay_48 rfl rfl rfl ?_
    refine z_cviR (As := []) (st := []) (m := m) C (cl_5 hM) (mn_0 hM) (mc_0 hM) gX6_tellOverlay_X6_memberMany hdX6_memberMany rfl (fun z h => qX6_memberMany hM N m z h) rfl (Nat.le_of_ble_eq_true rfl) ⟨Nat.le_of_ble_eq_true rfl, Nat.le_of_ble_eq_true rfl⟩ ⟨Nat.le_refl _, Nat.le_refl _⟩ dX6_tellOverlay_49 rfl rfl hf (fun v1 hf => ?_)
    exact hr _ _ _ _ (congrArg (fun z => (z, m)) (Option.some.inj hf)) dX6_tellOverlay_52
  · skip
    refine ite_V hf (fun hn hf => ?_) (fun hn1_1 hf => ?_)
    · refine z_tsi (tgt := 53) C hn dX6_tellOverlay_1 (by decide) (by decide) rfl (by decide) ?_
      refine z_aload_n (i := 0) C dX6_tellOverlay_53 rfl rfl rfl ?_
      refine z_gr C (FX6_tellOverlay_7 hM) (mn_0 hM) (mc_0 hM) rfl dX6_tellOverlay_54 rfl ?_
      refine z_iconst C dX6_tellOverlay_57 zi_5 rfl ?_
      refine z_iaload C (mn_1 hM) (mc_1 hM) dX6_tellOverlay_58 rfl hf (fun v2 hf => ?_)
      exact hr _ _ _ _ (congrArg (fun z => (z, m)) (Option.some.inj hf)) dX6_tellOverlay_59
    · skip
      refine ite_V hf (fun hn hf => ?_) (fun hn1_2 hf => ?_)
      · refine z_tsi (tgt := 60) C hn dX6_tellOverlay_1 (by decide) (by decide) rfl (by decide) ?_
        refine z_aload_n (i := 0) C dX6_tellOverlay_60 rfl rfl rfl ?_
        refine z_cviR (As := []) (st := []) (m := m) C (cl_5 hM) (mn_0 hM) (mc_0 hM) gX6_tellOverlay_X6_epochNow hdX6_epochNow rfl (fun z h => qX6_epochNow hM m z h) rfl (Nat.le_of_ble_eq_true rfl) ⟨Nat.le_of_ble_eq_true rfl, Nat.le_of_ble_eq_true rfl⟩ ⟨Nat.le_refl _, Nat.le_refl _⟩ dX6_tellOverlay_61 rfl rfl hf (fun v3 hf => ?_)
        exact hr _ _ _ _ (congrArg (fun z => (z, m)) (Option.some.inj hf)) dX6_tellOverlay_64
      · skip
        refine ite_V hf (fun hn hf => ?_) (fun hn1_3 hf => ?_)
        · refine z_tsi (tgt := 65) C hn dX6_tellOverlay_1 (by decide) (by decide) rfl (by decide) ?_
          refine z_aload_n (i := 0) C dX6_tellOverlay_65 rfl rfl rfl ?_
          refine z_cviR (As := []) (st := []) (m := m) C (cl_5 hM) (mn_0 hM) (mc_0 hM) gX6_tellOverlay_X6_difficulty hdX6_difficulty rfl (fun z h => qX6_difficulty hM m z h) rfl (Nat.le_of_ble_eq_true rfl) ⟨Nat.le_of_ble_eq_true rfl, Nat.le_of_ble_eq_true rfl⟩ ⟨Nat.le_refl _, Nat.le_refl _⟩ dX6_tellOverlay_66 rfl rfl hf (fun v4 hf => ?_)
          exact hr _ _ _ _ (congrArg (fun z => (z, m)) (Option.some.inj hf)) dX6_tellOverlay_69
        · skip
          refine ite_V hf (fun hn hf => ?_) (fun hn1_4 hf => ?_)
          · refine z_tsi (tgt := 70) C hn dX6_tellOverlay_1 (by decide) (by decide) rfl (by decide) ?_
            refine z_aload_n (i := 0) C dX6_tellOverlay_70 rfl rfl rfl ?_
            refine z_gr C (FX6_tellOverlay_7 hM) (mn_0 hM) (mc_0 hM) rfl dX6_tellOverlay_71 rfl ?_
            refine z_bipush C dX6_tellOverlay_74 zb_6 rfl ?_
            refine z_iaload C (mn_1 hM) (mc_1 hM) dX6_tellOverlay_76 rfl hf (fun v5 hf => ?_)
            exact hr _ _ _ _ (congrArg (fun z => (z, m)) (Option.some.inj hf)) dX6_tellOverlay_77
          · skip
            refine ite_V hf (fun hn hf => ?_) (fun hn1_5 hf => ?_)
            · refine z_tsi (tgt := 78) C hn dX6_tellOverlay_1 (by decide) (by decide) rfl (by decide) ?_
              refine z_aload_n (i := 0) C dX6_tellOverlay_78 rfl rfl rfl ?_
              refine z_gr C (FX6_tellOverlay_7 hM) (mn_0 hM) (mc_0 hM) rfl dX6_tellOverlay_79 rfl ?_
              refine z_iconst C dX6_tellOverlay_82 zi_3 rfl ?_
              refine z_iaload C (mn_1 hM) (mc_1 hM) dX6_tellOverlay_83 rfl hf (fun v6 hf => ?_)
              exact hr _ _ _ _ (congrArg (fun z => (z, m)) (Option.some.inj hf)) dX6_tellOverlay_84
            · skip
              refine ite_V hf (fun hn hf => ?_) (fun hn1_6 hf => ?_)
              · refine z_tsi (tgt := 85) C hn dX6_tellOverlay_1 (by decide) (by decide) rfl (by decide) ?_
                refine z_aload_n (i := 0) C dX6_tellOverlay_85 rfl rfl rfl ?_
                refine z_gr C (FX6_tellOverlay_7 hM) (mn_0 hM) (mc_0 hM) rfl dX6_tellOverlay_86 rfl ?_
                refine z_iconst C dX6_tellOverlay_89 zi_4 rfl ?_
                refine z_iaload C (mn_1 hM) (mc_1 hM) dX6_tellOverlay_90 rfl hf (fun v7 hf => ?_)
                exact hr _ _ _ _ (congrArg (fun z => (z, m)) (Option.some.inj hf)) dX6_tellOverlay_91
              · skip
                refine ite_V hf (fun hn hf => ?_) (fun hn1_7 hf => ?_)
                · refine z_tsi (tgt := 92) C hn dX6_tellOverlay_1 (by decide) (by decide) rfl (by decide) ?_
                  refine z_aload_n (i := 0) C dX6_tellOverlay_92 rfl rfl rfl ?_
                  refine z_gr C (FX6_tellOverlay_7 hM) (mn_0 hM) (mc_0 hM) rfl dX6_tellOverlay_93 rfl ?_
                  refine z_iconst C dX6_tellOverlay_96 zi_1 rfl ?_
                  refine z_iaload C (mn_1 hM) (mc_1 hM) dX6_tellOverlay_97 rfl hf (fun v8 hf => ?_)
                  exact hr _ _ _ _ (congrArg (fun z => (z, m)) (Option.some.inj hf)) dX6_tellOverlay_98
                · skip
                  refine z_tso (tgt := 99) C dX6_tellOverlay_1 (z_tswd (fun c h1 h2 => ?_)) (by decide) ?_
                  · have hc : c = 0 ∨ c = 1 ∨ c = 2 ∨ c = 3 ∨ c = 4 ∨ c = 5 ∨ c = 6 ∨ c = 7 := by omega
                    rcases hc with rfl|rfl|rfl|rfl|rfl|rfl|rfl|rfl
                    · rw [zi_0]; exact hn1_0
                    · rw [zi_1]; exact hn1_1
                    · rw [zi_2]; exact hn1_2
                    · rw [zi_3]; exact hn1_3
                    · rw [zi_4]; exact hn1_4
                    · rw [zi_5]; exact hn1_5
                    · rw [zi_6]; exact hn1_6
                    · rw [zi_7]; exact hn1_7
                  · skip
                    refine z_aload_n (i := 0) C dX6_tellOverlay_99 rfl rfl rfl ?_
                    refine z_cviR (As := []) (st := []) (m := m) C (cl_5 hM) (mn_0 hM) (mc_0 hM) gX6_tellOverlay_X6_largest hdX6_largest rfl (fun z h => qX6_largest hM N m z h) rfl (Nat.le_of_ble_eq_true rfl) ⟨Nat.le_of_ble_eq_true rfl, Nat.le_of_ble_eq_true rfl⟩ ⟨Nat.le_refl _, Nat.le_refl _⟩ dX6_tellOverlay_100 rfl rfl hf (fun v9 hf => ?_)
                    exact hr _ _ _ _ (congrArg (fun z => (z, m)) (Option.some.inj hf)) dX6_tellOverlay_103
