def fX6_tick (N : Nat) (a1 : Int32) (m : zMem) : Option (Int32 × zMem) :=
  kc1 (fX6_areTicks a1) fun v1 =>
  kjn (fun (w2 : Int32) =>
  kc2 (fX6_refused w2 m) fun v3 m4 =>
  if v3 = 0 then
  kc1 (fX6_saves N m4) fun m5 =>
  kc2 (fX6_passes N a1 m5) fun v6 m7 =>
  some (v6, m7)
  else
  some (0, m4)) fun K13 =>
  if v1 = 0 then
  K13 1
  else
  K13 0
theorem hdX6_tick : yX6_tick.cls = RX6 ∧ yX6_tick.cls ≠ "java/lang/invoke/MethodHandle" ∧ yX6_tick.cls ≠ "java/lang/invoke/VarHandle" ∧ (parseMethodDescriptor yX6_tick.desc).map (fun d => d.parameters.length) = some 1 := by decide +kernel
set_option maxHeartbeats 4000000 in
set_option maxRecDepth 100000 in
theorem qX6_tick {l : Launch} {g : zG} (hM : isM g)  (N : Nat) (a1 : Int32) (m : zMem)  (o : Int32 × zMem) (hf : fX6_tick N a1 m = some o) : zMI l g yX6_tick wsX6_tick { frames := 3, cells := 0, slots := 0, locals := 66 } [.ref (zad g 0), .int a1] m o := by
  refine z_met_i (cc := cX6_tick) (maxL := 2) (lo0 := [some (.ref (zad g 0)), some (.int a1)]) (by decide +kernel) rfl rfl (Nat.le_of_ble_eq_true rfl) (fun x hx C hr => ?_)
  unfold fX6_tick at hf
  refine z_aload_n (i := 0) C dX6_tick_0 rfl rfl rfl ?_
  refine z_iload_n (i := 1) C dX6_tick_1 rfl rfl rfl ?_
  refine z_csiR (As := [.int a1]) (st := [.ref (zad g 0)]) (m := m) C gX6_tick_X6_areTicks hdX6_areTicks rfl (fun z h => qX6_areTicks a1 m z h) rfl (Nat.le_of_ble_eq_true rfl) ⟨Nat.le_of_ble_eq_true rfl, Nat.le_of_ble_eq_true rfl⟩ ⟨Nat.le_refl _, Nat.le_refl _⟩ dX6_tick_2 rfl rfl hf (fun v1 hf => ?_)
  refine kjn_V (fun K13 => ∀ (w2 : Int32), K13 w2 = some o → zV x g 2 0 0 13 [some (.ref (zad g 0)), some (.int a1)] [.int w2, .ref (zad g 0)] m) hf (fun w2 hf => ?_) (fun K13 hK13 hf => ?_)
  · skip
    refine z_cviW (As := [.int w2]) (st := []) (m := m) C (cl_5 hM) (mn_0 hM) (mc_0 hM) gX6_tick_X6_refused hdX6_refused rfl (fun z h => qX6_refused hM w2 m z h) rfl (Nat.le_of_ble_eq_true rfl) ⟨Nat.le_of_ble_eq_true rfl, Nat.le_of_ble_eq_true rfl⟩ ⟨Nat.le_refl _, Nat.le_refl _⟩ dX6_tick_13 rfl rfl hf (fun v3 m4 hf => ?_)
    refine z_if_eq (tgt := 21) C dX6_tick_16 (by decide) rfl hf (fun hf => ?_) (fun hf => ?_)
    · skip
      refine z_aload_n (i := 0) C dX6_tick_21 rfl rfl rfl ?_
      refine z_cvvW (As := []) (st := []) (m := m4) C (cl_5 hM) (mn_0 hM) (mc_0 hM) gX6_tick_X6_saves hdX6_saves rfl (fun z h => qX6_saves hM N m4 z h) rfl (Nat.le_of_ble_eq_true rfl) ⟨Nat.le_of_ble_eq_true rfl, Nat.le_of_ble_eq_true rfl⟩ ⟨Nat.le_refl _, Nat.le_refl _⟩ dX6_tick_22 rfl rfl hf (fun m5 hf => ?_)
      refine z_aload_n (i := 0) C dX6_tick_25 rfl rfl rfl ?_
      refine z_iload_n (i := 1) C dX6_tick_26 rfl rfl rfl ?_
      refine z_cviW (As := [.int a1]) (st := []) (m := m5) C (cl_5 hM) (mn_0 hM) (mc_0 hM) gX6_tick_X6_passes hdX6_passes rfl (fun z h => qX6_passes hM N a1 m5 z h) rfl (Nat.le_of_ble_eq_true rfl) ⟨Nat.le_of_ble_eq_true rfl, Nat.le_of_ble_eq_true rfl⟩ ⟨Nat.le_refl _, Nat.le_refl _⟩ dX6_tick_27 rfl rfl hf (fun v6 m7 hf => ?_)
      exact hr _ _ _ _ (Option.some.inj hf) dX6_tick_30
    · skip
      refine z_iconst C dX6_tick_19 zi_0 rfl ?_
      exact hr _ _ _ _ (Option.some.inj hf) dX6_tick_20
  · skip
    refine z_if_eq (tgt := 12) C dX6_tick_5 (by decide) rfl hf (fun hf => ?_) (fun hf => ?_)
    · skip
      refine z_iconst C dX6_tick_12 zi_1 rfl ?_
      exact hK13 _ hf
    · skip
      refine z_iconst C dX6_tick_8 zi_0 rfl ?_
      refine z_goto (pc' := 13) C dX6_tick_9 (by decide) ?_
      exact hK13 _ hf

def fX6_isSponsor (N : Nat) (a1 : Int32) (m : zMem) : Option (Int32) :=
  kc1 (fX6_memberMany N m) fun v1 =>
  if v1 = 0 then
  if a1 = (-1) then
  some 1
  else
  some 0
  else
  kc1 (fX6_isMember N a1 m) fun v2 =>
  kbz v2 (some v2)
theorem hdX6_isSponsor : yX6_isSponsor.cls = RX6 ∧ yX6_isSponsor.cls ≠ "java/lang/invoke/MethodHandle" ∧ yX6_isSponsor.cls ≠ "java/lang/invoke/VarHandle" ∧ (parseMethodDescriptor yX6_isSponsor.desc).map (fun d => d.parameters.length) = some 1 := by decide +kernel
set_option maxHeartbeats 4000000 in
set_option maxRecDepth 100000 in
theorem qX6_isSponsor {l : Launch} {g : zG} (hM : isM g)  (N : Nat) (a1 : Int32) (m : zMem)  (o : Int32) (hf : fX6_isSponsor N a1 m = some o) : zMI l g yX6_isSponsor wsX6_isSponsor { frames := 3, cells := 0, slots := 0, locals := 63 } [.ref (zad g 0), .int a1] m (o, m) := by
  refine z_met_z (cc := cX6_isSponsor) (maxL := 2) (lo0 := [some (.ref (zad g 0)), some (.int a1)]) (by decide +kernel) rfl rfl (Nat.le_of_ble_eq_true rfl) (fun x hx C hr => ?_)
  unfold fX6_isSponsor at hf
  refine z_aload_n (i := 0) C dX6_isSponsor_0 rfl rfl rfl ?_
  refine z_cviR (As := []) (st := []) (m := m) C (cl_5 hM) (mn_0 hM) (mc_0 hM) gX6_isSponsor_X6_memberMany hdX6_memberMany rfl (fun z h => qX6_memberMany hM N m z h) rfl (Nat.le_of_ble_eq_true rfl) ⟨Nat.le_of_ble_eq_true rfl, Nat.le_of_ble_eq_true rfl⟩ ⟨Nat.le_refl _, Nat.le_refl _⟩ dX6_isSponsor_1 rfl rfl hf (fun v1 hf => ?_)
  refine z_if_ne (tgt := 20) C dX6_isSponsor_4 (by decide) rfl hf (fun hf => ?_) (fun hf => ?_)
  · skip
    refine z_aload_n (i := 0) C dX6_isSponsor_20 rfl rfl rfl ?_
    refine z_iload_n (i := 1) C dX6_isSponsor_21 rfl rfl rfl ?_
    refine z_cviR (As := [.int a1]) (st := []) (m := m) C (cl_5 hM) (mn_0 hM) (mc_0 hM) gX6_isSponsor_X6_isMember hdX6_isMember rfl (fun z h => qX6_isMember hM N a1 m z h) rfl (Nat.le_of_ble_eq_true rfl) ⟨Nat.le_of_ble_eq_true rfl, Nat.le_of_ble_eq_true rfl⟩ ⟨Nat.le_refl _, Nat.le_refl _⟩ dX6_isSponsor_22 rfl rfl hf (fun v2 hf => ?_)
    exact kbz_V hf (fun hb hf => hr _ _ _ _ hb (congrArg (fun z => (z, m)) (Option.some.inj hf)) dX6_isSponsor_25)
  · skip
    refine z_iload_n (i := 1) C dX6_isSponsor_7 rfl rfl rfl ?_
    refine z_iconst C dX6_isSponsor_8 zi_m1 rfl ?_
    refine z_ic_ne (tgt := 16) C dX6_isSponsor_9 (by decide) rfl hf (fun hf => ?_) (fun hf => ?_)
    · skip
      refine z_iconst C dX6_isSponsor_16 zi_0 rfl ?_
      refine z_goto (pc' := 25) C dX6_isSponsor_17 (by decide) ?_
      exact hr _ _ _ _ (Or.inl rfl) (congrArg (fun z => (z, m)) (Option.some.inj hf)) dX6_isSponsor_25
    · skip
      refine z_iconst C dX6_isSponsor_12 zi_1 rfl ?_
      refine z_goto (pc' := 25) C dX6_isSponsor_13 (by decide) ?_
      exact hr _ _ _ _ (Or.inr rfl) (congrArg (fun z => (z, m)) (Option.some.inj hf)) dX6_isSponsor_25

def fX6_bad (N : Nat) (a1 : Int32) (a2 : Int32) (a3 : Int32) (m : zMem) : Option (Int32) :=
  kc1 (fX6_isId a1) fun v1 =>
  kjn (fun (w2 : Int32) =>
  if w2 = 0 then
  some 1
  else
  kc1 (fX6_isMember N a1 m) fun v3 =>
  if v3 = 0 then
  kc1 (fX6_memberMany N m) fun v4 =>
  if v4 = 24 then
  some 2
  else
  kc1 (fX6_isSponsor N a3 m) fun v5 =>
  if v5 = 0 then
  some 3
  else
  some 0
  else
  some 2) fun K33 =>
  if v1 = 0 then
  K33 0
  else
  kc1 (fX6_in a2 0 7) fun v6 =>
  if v6 = 0 then
  K33 0
  else
  kc1 (fX6_in a3 (-1) 255) fun v7 =>
  if v7 = 0 then
  K33 0
  else
  K33 1
theorem hdX6_bad : yX6_bad.cls = RX6 ∧ yX6_bad.cls ≠ "java/lang/invoke/MethodHandle" ∧ yX6_bad.cls ≠ "java/lang/invoke/VarHandle" ∧ (parseMethodDescriptor yX6_bad.desc).map (fun d => d.parameters.length) = some 3 := by decide +kernel
set_option maxHeartbeats 4000000 in
set_option maxRecDepth 100000 in
theorem qX6_bad {l : Launch} {g : zG} (hM : isM g)  (N : Nat) (a1 : Int32) (a2 : Int32) (a3 : Int32) (m : zMem)  (o : Int32) (hf : fX6_bad N a1 a2 a3 m = some o) : zMI l g yX6_bad wsX6_bad { frames := 4, cells := 0, slots := 0, locals := 84 } [.ref (zad g 0), .int a1, .int a2, .int a3] m (o, m) := by
  refine z_met_i (cc := cX6_bad) (maxL := 5) (lo0 := [some (.ref (zad g 0)), some (.int a1), some (.int a2), some (.int a3), none]) (by decide +kernel) rfl rfl (Nat.le_of_ble_eq_true rfl) (fun x hx C hr => ?_)
  unfold fX6_bad at hf
  refine z_iload_n (i := 1) C dX6_bad_0 rfl rfl rfl ?_
  refine z_csiR (As := [.int a1]) (st := []) (m := m) C gX6_bad_X6_isId hdX6_isId rfl (fun z h => qX6_isId a1 m z h) rfl (Nat.le_of_ble_eq_true rfl) ⟨Nat.le_of_ble_eq_true rfl, Nat.le_of_ble_eq_true rfl⟩ ⟨Nat.le_refl _, Nat.le_refl _⟩ dX6_bad_1 rfl rfl hf (fun v1 hf => ?_)
  refine kjn_V (fun K33 => ∀ (w2 : Int32), K33 w2 = some o → zV x g 5 0 0 33 [some (.ref (zad g 0)), some (.int a1), none, some (.int a3), none] [.int w2] m) hf (fun w2 hf => ?_) (fun K33 hK33 hf => ?_)
  · skip
    refine z_istore (lo' := [some (.ref (zad g 0)), some (.int a1), none, some (.int a3), some (.int w2)]) C dX6_bad_33 (Nat.le_of_ble_eq_true rfl) rfl rfl rfl ?_
    refine z_iload C dX6_bad_35 rfl rfl ?_
    refine z_if_ne (tgt := 44) C dX6_bad_37 (by decide) rfl hf (fun hf => ?_) (fun hf => ?_)
    · skip
      refine z_aload_n (i := 0) C dX6_bad_44 rfl rfl rfl ?_
      refine z_iload_n (i := 1) C dX6_bad_45 rfl rfl rfl ?_
      refine z_cviR (As := [.int a1]) (st := []) (m := m) C (cl_5 hM) (mn_0 hM) (mc_0 hM) gX6_bad_X6_isMember hdX6_isMember rfl (fun z h => qX6_isMember hM N a1 m z h) rfl (Nat.le_of_ble_eq_true rfl) ⟨Nat.le_of_ble_eq_true rfl, Nat.le_of_ble_eq_true rfl⟩ ⟨Nat.le_refl _, Nat.le_refl _⟩ dX6_bad_46 rfl rfl hf (fun v3 hf => ?_)
      refine z_if_ne (tgt := 61) C dX6_bad_49 (by decide) rfl hf (fun hf => ?_) (fun hf => ?_)
      · skip
        refine z_iconst C dX6_bad_61 zi_2 rfl ?_
        refine z_goto (pc' := 78) C dX6_bad_62 (by decide) ?_
        exact hr _ _ _ _ (congrArg (fun z => (z, m)) (Option.some.inj hf)) dX6_bad_78
      · skip
        refine z_aload_n (i := 0) C dX6_bad_52 rfl rfl rfl ?_
        refine z_cviR (As := []) (st := []) (m := m) C (cl_5 hM) (mn_0 hM) (mc_0 hM) gX6_bad_X6_memberMany hdX6_memberMany rfl (fun z h => qX6_memberMany hM N m z h) rfl (Nat.le_of_ble_eq_true rfl) ⟨Nat.le_of_ble_eq_true rfl, Nat.le_of_ble_eq_true rfl⟩ ⟨Nat.le_refl _, Nat.le_refl _⟩ dX6_bad_53 rfl rfl hf (fun v4 hf => ?_)
        refine z_bipush C dX6_bad_56 zb_24 rfl ?_
        refine z_ic_ne (tgt := 65) C dX6_bad_58 (by decide) rfl hf (fun hf => ?_) (fun hf => ?_)
        · skip
          refine z_aload_n (i := 0) C dX6_bad_65 rfl rfl rfl ?_
          refine z_iload_n (i := 3) C dX6_bad_66 rfl rfl rfl ?_
          refine z_cviR (As := [.int a3]) (st := []) (m := m) C (cl_5 hM) (mn_0 hM) (mc_0 hM) gX6_bad_X6_isSponsor hdX6_isSponsor rfl (fun z h => qX6_isSponsor hM N a3 m z h) rfl (Nat.le_of_ble_eq_true rfl) ⟨Nat.le_of_ble_eq_true rfl, Nat.le_of_ble_eq_true rfl⟩ ⟨Nat.le_refl _, Nat.le_refl _⟩ dX6_bad_67 rfl rfl hf (fun v5 hf => ?_)
          refine z_if_eq (tgt := 77) C dX6_bad_70 (by decide) rfl hf (fun hf => ?_) (fun hf => ?_)
          · skip
            refine z_iconst C dX6_bad_77 zi_3 rfl ?_
            exact hr _ _ _ _ (congrArg (fun z => (z, m)) (Option.some.inj hf)) dX6_bad_78
          · skip
            refine z_iconst C dX6_bad_73 zi_0 rfl ?_
            refine z_goto (pc' := 78) C dX6_bad_74 (by decide) ?_
            exact hr _ _ _ _ (congrArg (fun z => (z, m)) (Option.some.inj hf)) dX6_bad_78
        · skip
          refine z_iconst C dX6_bad_61 zi_2 rfl ?_
          refine z_goto (pc' := 78) C dX6_bad_62 (by decide) ?_
          exact hr _ _ _ _ (congrArg (fun z => (z, m)) (Option.some.inj hf)) dX6_bad_78
    · skip
      refine z_iconst C dX6_bad_40 zi_1 rfl ?_
      refine z_goto (pc' := 78) C dX6_bad_41 (by decide) ?_
      exact hr _ _ _ _ (congrArg (fun z => (z, m)) (Option.some.inj hf)) dX6_bad_78
  · skip
    refine z_if_eq (tgt := 32) C dX6_bad_4 (by decide) rfl hf (fun hf => ?_) (fun hf => ?_)
    · skip
      refine z_iconst C dX6_bad_32 zi_0 rfl ?_
      refine z_drop (lo' := [some (.ref (zad g 0)), some (.int a1), none, some (.int a3), none]) 2 rfl ?_
      exact hK33 _ hf
    · skip
      refine z_iload_n (i := 2) C dX6_bad_7 rfl rfl rfl ?_
      refine z_iconst C dX6_bad_8 zi_0 rfl ?_
      refine z_bipush C dX6_bad_9 zb_7 rfl ?_
      refine z_csiR (As := [.int a2, .int 0, .int 7]) (st := []) (m := m) C gX6_bad_X6_in hdX6_in rfl (fun z h => qX6_in a2 0 7 m z h) rfl (Nat.le_of_ble_eq_true rfl) ⟨Nat.le_of_ble_eq_true rfl, Nat.le_of_ble_eq_true rfl⟩ ⟨Nat.le_refl _, Nat.le_refl _⟩ dX6_bad_11 rfl rfl hf (fun v6 hf => ?_)
      refine z_if_eq (tgt := 32) C dX6_bad_14 (by decide) rfl hf (fun hf => ?_) (fun hf => ?_)
      · skip
        refine z_iconst C dX6_bad_32 zi_0 rfl ?_
        refine z_drop (lo' := [some (.ref (zad g 0)), some (.int a1), none, some (.int a3), none]) 2 rfl ?_
        exact hK33 _ hf
      · skip
        refine z_iload_n (i := 3) C dX6_bad_17 rfl rfl rfl ?_
        refine z_iconst C dX6_bad_18 zi_m1 rfl ?_
        refine z_sipush C dX6_bad_19 zs_255 rfl ?_
        refine z_csiR (As := [.int a3, .int (-1), .int 255]) (st := []) (m := m) C gX6_bad_X6_in hdX6_in rfl (fun z h => qX6_in a3 (-1) 255 m z h) rfl (Nat.le_of_ble_eq_true rfl) ⟨Nat.le_of_ble_eq_true rfl, Nat.le_of_ble_eq_true rfl⟩ ⟨Nat.le_refl _, Nat.le_refl _⟩ dX6_bad_22 rfl rfl hf (fun v7 hf => ?_)
        refine z_if_eq (tgt := 32) C dX6_bad_25 (by decide) rfl hf (fun hf => ?_) (fun hf => ?_)
        · skip
          refine z_iconst C dX6_bad_32 zi_0 rfl ?_
          refine z_drop (lo' := [some (.ref (zad g 0)), some (.int a1), none, some (.int a3), none]) 2 rfl ?_
          exact hK33 _ hf
        · skip
          refine z_iconst C dX6_bad_28 zi_1 rfl ?_
          refine z_goto (pc' := 33) C dX6_bad_29 (by decide) ?_
          refine z_drop (lo' := [some (.ref (zad g 0)), some (.int a1), none, some (.int a3), none]) 2 rfl ?_
          exact hK33 _ hf

def sX6_joins_3 (m : zMem) (K22 : Int32 → Option (Int32 × zMem)) : (Int32 → Option (Int32 × zMem)) → Int32 → Option (Int32 × zMem) := fun rec x17 =>
  kc1 (fX6_of x17) fun v18 =>
  kld m 1 1816 v18 fun v19 =>
  if v19 ≤ 0 then
  K22 x17
  else
  rec (x17 + 1)
def fX6_joins (N : Nat) (a1 : Int32) (a2 : Int32) (a3 : Int32) (m : zMem) : Option (Int32 × zMem) :=
  kjn (fun (w1 : Int32) =>
  kc1 (fX6_of w1) fun v2 =>
  kst m 1 1816 v2 (a1 + 1) fun m3 =>
  kst m3 1 1816 (v2 + 1) a2 fun m4 =>
  kld m4 1 1816 5 fun v5 =>
  kst m4 1 1816 (v2 + 2) v5 fun m6 =>
  kld m6 1 1816 6 fun v7 =>
  kst m6 1 1816 6 (v7 + 1) fun m8 =>
  kld m8 1 1816 7 fun v9 =>
  kst m8 1 1816 7 (v9 + 1) fun m10 =>
  kjn (fun (m11 : zMem) =>
  kc1 (fX6_entries N v2 m11) fun v12 =>
  some (v12, m11)) fun K111 =>
  if a3 = (-1) then
  K111 m10
  else
  kc1 (fX6_learns N a3 a1 m10) fun m13 =>
  kc1 (fX6_learns N a1 a3 m13) fun m14 =>
  kc2 (fX6_looks N a1 a1 m14) fun v15 m16 =>
  K111 m16) fun K22 =>
  klp (sX6_joins_3 m K22) N 0
theorem FX6_joins_7 {g : zG} (hM : isM g) : zFl wsX6_joins RX6 (zcl g) 7 5 0 := ⟨RX6, TX6, 15, hM.2.2 ▸ rfl, by decide +kernel, by decide, by decide +kernel⟩
theorem hdX6_joins : yX6_joins.cls = RX6 ∧ yX6_joins.cls ≠ "java/lang/invoke/MethodHandle" ∧ yX6_joins.cls ≠ "java/lang/invoke/VarHandle" ∧ (parseMethodDescriptor yX6_joins.desc).map (fun d => d.parameters.length) = some 3 := by decide +kernel
set_option maxHeartbeats 4000000 in
set_option maxRecDepth 100000 in
theorem qX6_joins {l : Launch} {g : zG} (hM : isM g)  (N : Nat) (a1 : Int32) (a2 : Int32) (a3 : Int32) (m : zMem)  (o : Int32 × zMem) (hf : fX6_joins N a1 a2 a3 m = some o) : zMI l g yX6_joins wsX6_joins { frames := 6, cells := 0, slots := 0, locals := 144 } [.ref (zad g 0), .int a1, .int a2, .int a3] m o := by
  refine z_met_i (cc := cX6_joins) (maxL := 7) (lo0 := [some (.ref (zad g 0)), some (.int a1), some (.int a2), some (.int a3), none, none, none]) (by decide +kernel) rfl rfl (Nat.le_of_ble_eq_true rfl) (fun x hx C hr => ?_)
  unfold fX6_joins at hf
  refine z_iconst C dX6_joins_0 zi_0 rfl ?_
  refine z_istore (lo' := [some (.ref (zad g 0)), some (.int a1), some (.int a2), some (.int a3), some (.int 0), none, none]) C dX6_joins_1 (Nat.le_of_ble_eq_true rfl) rfl rfl rfl ?_
  refine kjn_V (fun K22 => ∀ (w1 : Int32), K22 w1 = some o → zV x g 7 0 0 22 [some (.ref (zad g 0)), some (.int a1), some (.int a2), some (.int a3), some (.int w1), none, none] [] m) hf (fun w1 hf => ?_) (fun K22 hK22 hf => ?_)
  · skip
    refine z_iload C dX6_joins_22 rfl rfl ?_
    refine z_csiR (As := [.int w1]) (st := []) (m := m) C gX6_joins_X6_of hdX6_of rfl (fun z h => qX6_of w1 m z h) rfl (Nat.le_of_ble_eq_true rfl) ⟨Nat.le_of_ble_eq_true rfl, Nat.le_of_ble_eq_true rfl⟩ ⟨Nat.le_refl _, Nat.le_refl _⟩ dX6_joins_24 rfl rfl hf (fun v2 hf => ?_)
    refine z_istore (lo' := [some (.ref (zad g 0)), some (.int a1), some (.int a2), some (.int a3), some (.int w1), some (.int v2), none]) C dX6_joins_27 (Nat.le_of_ble_eq_true rfl) rfl rfl rfl ?_
    refine z_aload_n (i := 0) C dX6_joins_29 rfl rfl rfl ?_
    refine z_gr C (FX6_joins_7 hM) (mn_0 hM) (mc_0 hM) rfl dX6_joins_30 rfl ?_
    refine z_iload C dX6_joins_33 rfl rfl ?_
    refine z_iload_n (i := 1) C dX6_joins_35 rfl rfl rfl ?_
    refine z_iconst C dX6_joins_36 zi_1 rfl ?_
    refine z_iadd C dX6_joins_37 rfl ?_
    refine z_iastore C (mn_1 hM) (mc_1 hM) dX6_joins_38 rfl hf (fun m3 hf => ?_)
    refine z_aload_n (i := 0) C dX6_joins_39 rfl rfl rfl ?_
    refine z_gr C (FX6_joins_7 hM) (mn_0 hM) (mc_0 hM) rfl dX6_joins_40 rfl ?_
    refine z_iload C dX6_joins_43 rfl rfl ?_
    refine z_iconst C dX6_joins_45 zi_1 rfl ?_
    refine z_iadd C dX6_joins_46 rfl ?_
    refine z_iload_n (i := 2) C dX6_joins_47 rfl rfl rfl ?_
    refine z_iastore C (mn_1 hM) (mc_1 hM) dX6_joins_48 rfl hf (fun m4 hf => ?_)
    refine z_aload_n (i := 0) C dX6_joins_49 rfl rfl rfl ?_
    refine z_gr C (FX6_joins_7 hM) (mn_0 hM) (mc_0 hM) rfl dX6_joins_50 rfl ?_
    refine z_iload C dX6_joins_53 rfl rfl ?_
    refine z_iconst C dX6_joins_55 zi_2 rfl ?_
    refine z_iadd C dX6_joins_56 rfl ?_
    refine z_aload_n (i := 0) C dX6_joins_57 rfl rfl rfl ?_
    refine z_gr C (FX6_joins_7 hM) (mn_0 hM) (mc_0 hM) rfl dX6_joins_58 rfl ?_
    refine z_iconst C dX6_joins_61 zi_5 rfl ?_
    refine z_iaload C (mn_1 hM) (mc_1 hM) dX6_joins_62 rfl hf (fun v5 hf => ?_)
    refine z_iastore C (mn_1 hM) (mc_1 hM) dX6_joins_63 rfl hf (fun m6 hf => ?_)
    refine z_aload_n (i := 0) C dX6_joins_64 rfl rfl rfl ?_
    refine z_gr C (FX6_joins_7 hM) (mn_0 hM) (mc_0 hM) rfl dX6_joins_65 rfl ?_
    refine z_bipush C dX6_joins_68 zb_6 rfl ?_
    refine z_dup2 C dX6_joins_70 rfl rfl rfl ?_
    refine z_iaload C (mn_1 hM) (mc_1 hM) dX6_joins_71 rfl hf (fun v7 hf => ?_)
    refine z_iconst C dX6_joins_72 zi_1 rfl ?_
    refine z_iadd C dX6_joins_73 rfl ?_
    refine z_iastore C (mn_1 hM) (mc_1 hM) dX6_joins_74 rfl hf (fun m8 hf => ?_)
    refine z_aload_n (i := 0) C dX6_joins_75 rfl rfl rfl ?_
    refine z_gr C (FX6_joins_7 hM) (mn_0 hM) (mc_0 hM) rfl dX6_joins_76 rfl ?_
    refine z_bipush C dX6_joins_79 zb_7 rfl ?_
    refine z_dup2 C dX6_joins_81 rfl rfl rfl ?_
    refine z_iaload C (mn_1 hM) (mc_1 hM) dX6_joins_82 rfl hf (fun v9 hf => ?_)
    refine z_iconst C dX6_joins_83 zi_1 rfl ?_
    refine z_iadd C dX6_joins_84 rfl ?_
    refine z_iastore C (mn_1 hM) (mc_1 hM) dX6_joins_85 rfl hf (fun m10 hf => ?_)
    refine z_iload_n (i := 3) C dX6_joins_86 rfl rfl rfl ?_
    refine z_iconst C dX6_joins_87 zi_m1 rfl ?_
    refine kjn_V (fun K111 => ∀ (m11 : zMem), K111 m11 = some o → zV x g 7 0 0 111 [some (.ref (zad g 0)), none, none, none, none, some (.int v2), none] [] m11) hf (fun m11 hf => ?_) (fun K111 hK111 hf => ?_)
    · skip
      refine z_aload_n (i := 0) C dX6_joins_111 rfl rfl rfl ?_
      refine z_iload C dX6_joins_112 rfl rfl ?_
      refine z_cviR (As := [.int v2]) (st := []) (m := m11) C (cl_5 hM) (mn_0 hM) (mc_0 hM) gX6_joins_X6_entries hdX6_entries rfl (fun z h => qX6_entries hM N v2 m11 z h) rfl (Nat.le_of_ble_eq_true rfl) ⟨Nat.le_of_ble_eq_true rfl, Nat.le_of_ble_eq_true rfl⟩ ⟨Nat.le_refl _, Nat.le_refl _⟩ dX6_joins_114 rfl rfl hf (fun v12 hf => ?_)
      exact hr _ _ _ _ (Option.some.inj hf) dX6_joins_117
    · skip
      refine z_ic_eq (tgt := 111) C dX6_joins_88 (by decide) rfl hf (fun hf => ?_) (fun hf => ?_)
      · skip
        refine z_drop (lo' := [some (.ref (zad g 0)), none, some (.int a2), some (.int a3), some (.int w1), some (.int v2), none]) 1 rfl ?_
        refine z_drop (lo' := [some (.ref (zad g 0)), none, none, some (.int a3), some (.int w1), some (.int v2), none]) 2 rfl ?_
        refine z_drop (lo' := [some (.ref (zad g 0)), none, none, none, some (.int w1), some (.int v2), none]) 3 rfl ?_
        refine z_drop (lo' := [some (.ref (zad g 0)), none, none, none, none, some (.int v2), none]) 4 rfl ?_
        exact hK111 _ hf
      · skip
        refine z_aload_n (i := 0) C dX6_joins_91 rfl rfl rfl ?_
        refine z_iload_n (i := 3) C dX6_joins_92 rfl rfl rfl ?_
        refine z_iload_n (i := 1) C dX6_joins_93 rfl rfl rfl ?_
        refine z_cvvW (As := [.int a3, .int a1]) (st := []) (m := m10) C (cl_5 hM) (mn_0 hM) (mc_0 hM) gX6_joins_X6_learns hdX6_learns rfl (fun z h => qX6_learns hM N a3 a1 m10 z h) rfl (Nat.le_of_ble_eq_true rfl) ⟨Nat.le_of_ble_eq_true rfl, Nat.le_of_ble_eq_true rfl⟩ ⟨Nat.le_refl _, Nat.le_refl _⟩ dX6_joins_94 rfl rfl hf (fun m13 hf => ?_)
        refine z_aload_n (i := 0) C dX6_joins_97 rfl rfl rfl ?_
        refine z_iload_n (i := 1) C dX6_joins_98 rfl rfl rfl ?_
        refine z_iload_n (i := 3) C dX6_joins_99 rfl rfl rfl ?_
        refine z_cvvW (As := [.int a1, .int a3]) (st := []) (m := m13) C (cl_5 hM) (mn_0 hM) (mc_0 hM) gX6_joins_X6_learns hdX6_learns rfl (fun z h => qX6_learns hM N a1 a3 m13 z h) rfl (Nat.le_of_ble_eq_true rfl) ⟨Nat.le_of_ble_eq_true rfl, Nat.le_of_ble_eq_true rfl⟩ ⟨Nat.le_refl _, Nat.le_refl _⟩ dX6_joins_100 rfl rfl hf (fun m14 hf => ?_)
        refine z_aload_n (i := 0) C dX6_joins_103 rfl rfl rfl ?_
        refine z_iload_n (i := 1) C dX6_joins_104 rfl rfl rfl ?_
        refine z_iload_n (i := 1) C dX6_joins_105 rfl rfl rfl ?_
        refine z_cviW (As := [.int a1, .int a1]) (st := []) (m := m14) C (cl_5 hM) (mn_0 hM) (mc_0 hM) gX6_joins_X6_looks hdX6_looks rfl (fun z h => qX6_looks hM N a1 a1 m14 z h) rfl (Nat.le_of_ble_eq_true rfl) ⟨Nat.le_of_ble_eq_true rfl, Nat.le_of_ble_eq_true rfl⟩ ⟨Nat.le_refl _, Nat.le_refl _⟩ dX6_joins_106 rfl rfl hf (fun v15 m16 hf => ?_)
        refine z_istore (lo' := [some (.ref (zad g 0)), some (.int a1), some (.int a2), some (.int a3), some (.int w1), some (.int v2), some (.int v15)]) C dX6_joins_109 (Nat.le_of_ble_eq_true rfl) rfl rfl rfl ?_
        refine z_drop (lo' := [some (.ref (zad g 0)), none, some (.int a2), some (.int a3), some (.int w1), some (.int v2), some (.int v15)]) 1 rfl ?_
        refine z_drop (lo' := [some (.ref (zad g 0)), none, none, some (.int a3), some (.int w1), some (.int v2), some (.int v15)]) 2 rfl ?_
        refine z_drop (lo' := [some (.ref (zad g 0)), none, none, none, some (.int w1), some (.int v2), some (.int v15)]) 3 rfl ?_
        refine z_drop (lo' := [some (.ref (zad g 0)), none, none, none, none, some (.int v2), some (.int v15)]) 4 rfl ?_
        refine z_drop (lo' := [some (.ref (zad g 0)), none, none, none, none, some (.int v2), none]) 6 rfl ?_
        exact hK111 _ hf
  · skip
    refine klp_V (fun z => zV x g 7 0 0 3 [some (.ref (zad g 0)), some (.int a1), some (.int a2), some (.int a3), some (.int z), none, none] [] m) hf (fun rec z ih hf => ?_)
    generalize z = x17 at hf ⊢
    unfold sX6_joins_3 at hf
    try dsimp only at hf
    try dsimp only
    refine z_aload_n (i := 0) C dX6_joins_3 rfl rfl rfl ?_
    refine z_gr C (FX6_joins_7 hM) (mn_0 hM) (mc_0 hM) rfl dX6_joins_4 rfl ?_
    refine z_iload C dX6_joins_7 rfl rfl ?_
    refine z_csiR (As := [.int x17]) (st := [.ref (zad g 1)]) (m := m) C gX6_joins_X6_of hdX6_of rfl (fun z h => qX6_of x17 m z h) rfl (Nat.le_of_ble_eq_true rfl) ⟨Nat.le_of_ble_eq_true rfl, Nat.le_of_ble_eq_true rfl⟩ ⟨Nat.le_refl _, Nat.le_refl _⟩ dX6_joins_9 rfl rfl hf (fun v18 hf => ?_)
    refine z_iaload C (mn_1 hM) (mc_1 hM) dX6_joins_12 rfl hf (fun v19 hf => ?_)
    refine z_if_le (tgt := 22) C dX6_joins_13 (by decide) rfl hf (fun hf => ?_) (fun hf => ?_)
    · skip
      exact hK22 _ hf
    · skip
      refine z_iinc (v := x17 + 1) (lo' := [some (.ref (zad g 0)), some (.int a1), some (.int a2), some (.int a3), some (.int (x17 + 1)), none, none]) C dX6_joins_16 rfl (zinc zi_1) (Nat.le_of_ble_eq_true rfl) rfl rfl rfl ?_
      refine z_goto (pc' := 3) C dX6_joins_19 (by decide) ?_
      exact ih (x17 + 1) hf

def fX6_join (N : Nat) (a1 : Int32) (a2 : Int32) (a3 : Int32) (a4 : Int32) (m : zMem) : Option (Int32 × zMem) :=
  kc1 (fX6_isNonce a3) fun v1 =>
  kjn (fun (w2 : Int32) =>
  kjn (fun (w3 : Int32) =>
  kc2 (fX6_refused w3 m) fun v4 m5 =>
  if v4 = 0 then
  kc1 (fX6_saves N m5) fun m6 =>
  kc2 (fX6_joins N a1 a2 a4 m6) fun v7 m8 =>
  some (v7, m8)
  else
  some (0, m5)) fun K48 =>
  if w2 = 0 then
  kc1 (fX6_epochNow m) fun v9 =>
  kc1 (fX6_zerosOf N a1 a3 v9) fun v10 =>
  kc1 (fX6_difficulty m) fun v11 =>
  if v11 ≤ v10 then
  K48 w2
  else
  K48 3
  else
  K48 w2) fun K19 =>
  if v1 = 0 then
  K19 1
  else
  kc1 (fX6_bad N a1 a2 a4 m) fun v12 =>
  K19 v12
theorem hdX6_join : yX6_join.cls = RX6 ∧ yX6_join.cls ≠ "java/lang/invoke/MethodHandle" ∧ yX6_join.cls ≠ "java/lang/invoke/VarHandle" ∧ (parseMethodDescriptor yX6_join.desc).map (fun d => d.parameters.length) = some 4 := by decide +kernel
set_option maxHeartbeats 4000000 in
set_option maxRecDepth 100000 in
theorem qX6_join {l : Launch} {g : zG} (hM : isM g)  (N : Nat) (a1 : Int32) (a2 : Int32) (a3 : Int32) (a4 : Int32) (m : zMem)  (o : Int32 × zMem) (hf : fX6_join N a1 a2 a3 a4 m = some o) : zMI l g yX6_join wsX6_join { frames := 7, cells := 0, slots := 0, locals := 170 } [.ref (zad g 0), .int a1, .int a2, .int a3, .int a4] m o := by
  refine z_met_i (cc := cX6_join) (maxL := 6) (lo0 := [some (.ref (zad g 0)), some (.int a1), some (.int a2), some (.int a3), some (.int a4), none]) (by decide +kernel) rfl rfl (Nat.le_of_ble_eq_true rfl) (fun x hx C hr => ?_)
  unfold fX6_join at hf
  refine z_iload_n (i := 3) C dX6_join_0 rfl rfl rfl ?_
  refine z_csiR (As := [.int a3]) (st := []) (m := m) C gX6_join_X6_isNonce hdX6_isNonce rfl (fun z h => qX6_isNonce a3 m z h) rfl (Nat.le_of_ble_eq_true rfl) ⟨Nat.le_of_ble_eq_true rfl, Nat.le_of_ble_eq_true rfl⟩ ⟨Nat.le_refl _, Nat.le_refl _⟩ dX6_join_1 rfl rfl hf (fun v1 hf => ?_)
  refine kjn_V (fun K19 => ∀ (w2 : Int32), K19 w2 = some o → zV x g 6 0 0 19 [some (.ref (zad g 0)), some (.int a1), some (.int a2), some (.int a3), some (.int a4), none] [.int w2] m) hf (fun w2 hf => ?_) (fun K19 hK19 hf => ?_)
  · skip
    refine z_istore (lo' := [some (.ref (zad g 0)), some (.int a1), some (.int a2), some (.int a3), some (.int a4), some (.int w2)]) C dX6_join_19 (Nat.le_of_ble_eq_true rfl) rfl rfl rfl ?_
    refine z_iload C dX6_join_21 rfl rfl ?_
    refine kjn_V (fun K48 => ∀ (w3 : Int32), K48 w3 = some o → zV x g 6 0 0 48 [some (.ref (zad g 0)), some (.int a1), some (.int a2), none, some (.int a4), none] [.int w3] m) hf (fun w3 hf => ?_) (fun K48 hK48 hf => ?_)
    · skip
      refine z_istore (lo' := [some (.ref (zad g 0)), some (.int a1), some (.int a2), none, some (.int a4), some (.int w3)]) C dX6_join_48 (Nat.le_of_ble_eq_true rfl) rfl rfl rfl ?_
      refine z_aload_n (i := 0) C dX6_join_50 rfl rfl rfl ?_
      refine z_iload C dX6_join_51 rfl rfl ?_
      refine z_cviW (As := [.int w3]) (st := []) (m := m) C (cl_5 hM) (mn_0 hM) (mc_0 hM) gX6_join_X6_refused hdX6_refused rfl (fun z h => qX6_refused hM w3 m z h) rfl (Nat.le_of_ble_eq_true rfl) ⟨Nat.le_of_ble_eq_true rfl, Nat.le_of_ble_eq_true rfl⟩ ⟨Nat.le_refl _, Nat.le_refl _⟩ dX6_join_53 rfl rfl hf (fun v4 m5 hf => ?_)
      refine z_if_eq (tgt := 61) C dX6_join_56 (by decide) rfl hf (fun hf => ?_) (fun hf => ?_)
      · skip
        refine z_aload_n (i := 0) C dX6_join_61 rfl rfl rfl ?_
        refine z_cvvW (As := []) (st := []) (m := m5) C (cl_5 hM) (mn_0 hM) (mc_0 hM) gX6_join_X6_saves hdX6_saves rfl (fun z h => qX6_saves hM N m5 z h) rfl (Nat.le_of_ble_eq_true rfl) ⟨Nat.le_of_ble_eq_true rfl, Nat.le_of_ble_eq_true rfl⟩ ⟨Nat.le_refl _, Nat.le_refl _⟩ dX6_join_62 rfl rfl hf (fun m6 hf => ?_)
        refine z_aload_n (i := 0) C dX6_join_65 rfl rfl rfl ?_
        refine z_iload_n (i := 1) C dX6_join_66 rfl rfl rfl ?_
        refine z_iload_n (i := 2) C dX6_join_67 rfl rfl rfl ?_
        refine z_iload C dX6_join_68 rfl rfl ?_
        refine z_cviW (As := [.int a1, .int a2, .int a4]) (st := []) (m := m6) C (cl_5 hM) (mn_0 hM) (mc_0 hM) gX6_join_X6_joins hdX6_joins rfl (fun z h => qX6_joins hM N a1 a2 a4 m6 z h) rfl (Nat.le_of_ble_eq_true rfl) ⟨Nat.le_of_ble_eq_true rfl, Nat.le_of_ble_eq_true rfl⟩ ⟨Nat.le_refl _, Nat.le_refl _⟩ dX6_join_70 rfl rfl hf (fun v7 m8 hf => ?_)
        exact hr _ _ _ _ (Option.some.inj hf) dX6_join_73
      · skip
        refine z_iconst C dX6_join_59 zi_0 rfl ?_
        exact hr _ _ _ _ (Option.some.inj hf) dX6_join_60
    · skip
      refine z_if_ne (tgt := 46) C dX6_join_23 (by decide) rfl hf (fun hf => ?_) (fun hf => ?_)
      · skip
        refine z_iload C dX6_join_46 rfl rfl ?_
        refine z_drop (lo' := [some (.ref (zad g 0)), some (.int a1), some (.int a2), none, some (.int a4), some (.int w2)]) 3 rfl ?_
        refine z_drop (lo' := [some (.ref (zad g 0)), some (.int a1), some (.int a2), none, some (.int a4), none]) 5 rfl ?_
        exact hK48 _ hf
      · skip
        refine z_iload_n (i := 1) C dX6_join_26 rfl rfl rfl ?_
        refine z_iload_n (i := 3) C dX6_join_27 rfl rfl rfl ?_
        refine z_aload_n (i := 0) C dX6_join_28 rfl rfl rfl ?_
        refine z_cviR (As := []) (st := [.int a3, .int a1]) (m := m) C (cl_5 hM) (mn_0 hM) (mc_0 hM) gX6_join_X6_epochNow hdX6_epochNow rfl (fun z h => qX6_epochNow hM m z h) rfl (Nat.le_of_ble_eq_true rfl) ⟨Nat.le_of_ble_eq_true rfl, Nat.le_of_ble_eq_true rfl⟩ ⟨Nat.le_refl _, Nat.le_refl _⟩ dX6_join_29 rfl rfl hf (fun v9 hf => ?_)
        refine z_csiR (As := [.int a1, .int a3, .int v9]) (st := []) (m := m) C gX6_join_X6_zerosOf hdX6_zerosOf rfl (fun z h => qX6_zerosOf N a1 a3 v9 m z h) rfl (Nat.le_of_ble_eq_true rfl) ⟨Nat.le_of_ble_eq_true rfl, Nat.le_of_ble_eq_true rfl⟩ ⟨Nat.le_refl _, Nat.le_refl _⟩ dX6_join_32 rfl rfl hf (fun v10 hf => ?_)
        refine z_aload_n (i := 0) C dX6_join_35 rfl rfl rfl ?_
        refine z_cviR (As := []) (st := [.int v10]) (m := m) C (cl_5 hM) (mn_0 hM) (mc_0 hM) gX6_join_X6_difficulty hdX6_difficulty rfl (fun z h => qX6_difficulty hM m z h) rfl (Nat.le_of_ble_eq_true rfl) ⟨Nat.le_of_ble_eq_true rfl, Nat.le_of_ble_eq_true rfl⟩ ⟨Nat.le_refl _, Nat.le_refl _⟩ dX6_join_36 rfl rfl hf (fun v11 hf => ?_)
        refine z_ic_ge (tgt := 46) C dX6_join_39 (by decide) rfl hf (fun hf => ?_) (fun hf => ?_)
        · skip
          refine z_iload C dX6_join_46 rfl rfl ?_
          refine z_drop (lo' := [some (.ref (zad g 0)), some (.int a1), some (.int a2), none, some (.int a4), some (.int w2)]) 3 rfl ?_
          refine z_drop (lo' := [some (.ref (zad g 0)), some (.int a1), some (.int a2), none, some (.int a4), none]) 5 rfl ?_
          exact hK48 _ hf
        · skip
          refine z_iconst C dX6_join_42 zi_3 rfl ?_
          refine z_goto (pc' := 48) C dX6_join_43 (by decide) ?_
          refine z_drop (lo' := [some (.ref (zad g 0)), some (.int a1), some (.int a2), none, some (.int a4), some (.int w2)]) 3 rfl ?_
          refine z_drop (lo' := [some (.ref (zad g 0)), some (.int a1), some (.int a2), none, some (.int a4), none]) 5 rfl ?_
          exact hK48 _ hf
  · skip
    refine z_if_eq (tgt := 18) C dX6_join_4 (by decide) rfl hf (fun hf => ?_) (fun hf => ?_)
    · skip
      refine z_iconst C dX6_join_18 zi_1 rfl ?_
      exact hK19 _ hf
    · skip
      refine z_aload_n (i := 0) C dX6_join_7 rfl rfl rfl ?_
      refine z_iload_n (i := 1) C dX6_join_8 rfl rfl rfl ?_
      refine z_iload_n (i := 2) C dX6_join_9 rfl rfl rfl ?_
      refine z_iload C dX6_join_10 rfl rfl ?_
      refine z_cviR (As := [.int a1, .int a2, .int a4]) (st := []) (m := m) C (cl_5 hM) (mn_0 hM) (mc_0 hM) gX6_join_X6_bad hdX6_bad rfl (fun z h => qX6_bad hM N a1 a2 a4 m z h) rfl (Nat.le_of_ble_eq_true rfl) ⟨Nat.le_of_ble_eq_true rfl, Nat.le_of_ble_eq_true rfl⟩ ⟨Nat.le_refl _, Nat.le_refl _⟩ dX6_join_12 rfl rfl hf (fun v12 hf => ?_)
      refine z_goto (pc' := 19) C dX6_join_15 (by decide) ?_
      exact hK19 _ hf

def fX6_badAdmission (N : Nat) (a1 : Int32) (a2 : Int32) (a3 : Int32) (m : zMem) : Option (Int32) :=
  kc1 (fX6_bad N a1 a2 a3 m) fun v1 =>
  if v1 = 0 then
  kc1 (fX6_solution N a1 m) fun v2 =>
  if v2 = (-1) then
  some 3
  else
  some v1
  else
  some v1
theorem hdX6_badAdmission : yX6_badAdmission.cls = RX6 ∧ yX6_badAdmission.cls ≠ "java/lang/invoke/MethodHandle" ∧ yX6_badAdmission.cls ≠ "java/lang/invoke/VarHandle" ∧ (parseMethodDescriptor yX6_badAdmission.desc).map (fun d => d.parameters.length) = some 3 := by decide +kernel
set_option maxHeartbeats 4000000 in
set_option maxRecDepth 100000 in
theorem qX6_badAdmission {l : Launch} {g : zG} (hM : isM g)  (N : Nat) (a1 : Int32) (a2 : Int32) (a3 : Int32) (m : zMem)  (o : Int32) (hf : fX6_badAdmission N a1 a2 a3 m = some o) : zMI l g yX6_badAdmission wsX6_badAdmission { frames := 5, cells := 0, slots := 0, locals := 108 } [.ref (zad g 0), .int a1, .int a2, .int a3] m (o, m) := by
  refine z_met_i (cc := cX6_badAdmission) (maxL := 5) (lo0 := [some (.ref (zad g 0)), some (.int a1), some (.int a2), some (.int a3), none]) (by decide +kernel) rfl rfl (Nat.le_of_ble_eq_true rfl) (fun x hx C hr => ?_)
  unfold fX6_badAdmission at hf
  refine z_aload_n (i := 0) C dX6_badAdmission_0 rfl rfl rfl ?_
  refine z_iload_n (i := 1) C dX6_badAdmission_1 rfl rfl rfl ?_
  refine z_iload_n (i := 2) C dX6_badAdmission_2 rfl rfl rfl ?_
  refine z_iload_n (i := 3) C dX6_badAdmission_3 rfl rfl rfl ?_
  refine z_cviR (As := [.int a1, .int a2, .int a3]) (st := []) (m := m) C (cl_5 hM) (mn_0 hM) (mc_0 hM) gX6_badAdmission_X6_bad hdX6_bad rfl (fun z h => qX6_bad hM N a1 a2 a3 m z h) rfl (Nat.le_of_ble_eq_true rfl) ⟨Nat.le_of_ble_eq_true rfl, Nat.le_of_ble_eq_true rfl⟩ ⟨Nat.le_refl _, Nat.le_refl _⟩ dX6_badAdmission_4 rfl rfl hf (fun v1 hf => ?_)
  refine z_istore (lo' := [some (.ref (zad g 0)), some (.int a1), some (.int a2), some (.int a3), some (.int v1)]) C dX6_badAdmission_7 (Nat.le_of_ble_eq_true rfl) rfl rfl rfl ?_
  refine z_iload C dX6_badAdmission_9 rfl rfl ?_
  refine z_if_ne (tgt := 27) C dX6_badAdmission_11 (by decide) rfl hf (fun hf => ?_) (fun hf => ?_)
  · skip
    refine z_iload C dX6_badAdmission_27 rfl rfl ?_
    exact hr _ _ _ _ (congrArg (fun z => (z, m)) (Option.some.inj hf)) dX6_badAdmission_29
  · skip
    refine z_aload_n (i := 0) C dX6_badAdmission_14 rfl rfl rfl ?_
    refine z_iload_n (i := 1) C dX6_badAdmission_15 rfl rfl rfl ?_
    refine z_cviR (As := [.int a1]) (st := []) (m := m) C (cl_5 hM) (mn_0 hM) (mc_0 hM) gX6_badAdmission_X6_solution hdX6_solution rfl (fun z h => qX6_solution hM N a1 m z h) rfl (Nat.le_of_ble_eq_true rfl) ⟨Nat.le_of_ble_eq_true rfl, Nat.le_of_ble_eq_true rfl⟩ ⟨Nat.le_refl _, Nat.le_refl _⟩ dX6_badAdmission_16 rfl rfl hf (fun v2 hf => ?_)
    refine z_iconst C dX6_badAdmission_19 zi_m1 rfl ?_
    refine z_ic_ne (tgt := 27) C dX6_badAdmission_20 (by decide) rfl hf (fun hf => ?_) (fun hf => ?_)
    · skip
      refine z_iload C dX6_badAdmission_27 rfl rfl ?_
      exact hr _ _ _ _ (congrArg (fun z => (z, m)) (Option.some.inj hf)) dX6_badAdmission_29
    · skip
      refine z_iconst C dX6_badAdmission_23 zi_3 rfl ?_
      refine z_goto (pc' := 29) C dX6_badAdmission_24 (by decide) ?_
      exact hr _ _ _ _ (congrArg (fun z => (z, m)) (Option.some.inj hf)) dX6_badAdmission_29

def fX6_admit (N : Nat) (a1 : Int32) (a2 : Int32) (a3 : Int32) (m : zMem) : Option (Int32 × zMem) :=
  kc1 (fX6_badAdmission N a1 a2 a3 m) fun v1 =>
  kc2 (fX6_refused v1 m) fun v2 m3 =>
  if v2 = 0 then
  kc1 (fX6_saves N m3) fun m4 =>
  kc2 (fX6_joins N a1 a2 a3 m4) fun v5 m6 =>
  some (v5, m6)
  else
  some (0, m3)
theorem hdX6_admit : yX6_admit.cls = RX6 ∧ yX6_admit.cls ≠ "java/lang/invoke/MethodHandle" ∧ yX6_admit.cls ≠ "java/lang/invoke/VarHandle" ∧ (parseMethodDescriptor yX6_admit.desc).map (fun d => d.parameters.length) = some 3 := by decide +kernel
set_option maxHeartbeats 4000000 in
set_option maxRecDepth 100000 in
theorem qX6_admit {l : Launch} {g : zG} (hM : isM g)  (N : Nat) (a1 : Int32) (a2 : Int32) (a3 : Int32) (m : zMem)  (o : Int32 × zMem) (hf : fX6_admit N a1 a2 a3 m = some o) : zMI l g yX6_admit wsX6_admit { frames := 7, cells := 0, slots := 0, locals := 170 } [.ref (zad g 0), .int a1, .int a2, .int a3] m o := by
  refine z_met_i (cc := cX6_admit) (maxL := 4) (lo0 := [some (.ref (zad g 0)), some (.int a1), some (.int a2), some (.int a3)]) (by decide +kernel) rfl rfl (Nat.le_of_ble_eq_true rfl) (fun x hx C hr => ?_)
  unfold fX6_admit at hf
  refine z_aload_n (i := 0) C dX6_admit_0 rfl rfl rfl ?_
  refine z_aload_n (i := 0) C dX6_admit_1 rfl rfl rfl ?_
  refine z_iload_n (i := 1) C dX6_admit_2 rfl rfl rfl ?_
  refine z_iload_n (i := 2) C dX6_admit_3 rfl rfl rfl ?_
  refine z_iload_n (i := 3) C dX6_admit_4 rfl rfl rfl ?_
  refine z_cviR (As := [.int a1, .int a2, .int a3]) (st := [.ref (zad g 0)]) (m := m) C (cl_5 hM) (mn_0 hM) (mc_0 hM) gX6_admit_X6_badAdmission hdX6_badAdmission rfl (fun z h => qX6_badAdmission hM N a1 a2 a3 m z h) rfl (Nat.le_of_ble_eq_true rfl) ⟨Nat.le_of_ble_eq_true rfl, Nat.le_of_ble_eq_true rfl⟩ ⟨Nat.le_refl _, Nat.le_refl _⟩ dX6_admit_5 rfl rfl hf (fun v1 hf => ?_)
  refine z_cviW (As := [.int v1]) (st := []) (m := m) C (cl_5 hM) (mn_0 hM) (mc_0 hM) gX6_admit_X6_refused hdX6_refused rfl (fun z h => qX6_refused hM v1 m z h) rfl (Nat.le_of_ble_eq_true rfl) ⟨Nat.le_of_ble_eq_true rfl, Nat.le_of_ble_eq_true rfl⟩ ⟨Nat.le_refl _, Nat.le_refl _⟩ dX6_admit_8 rfl rfl hf (fun v2 m3 hf => ?_)
  refine z_if_eq (tgt := 16) C dX6_admit_11 (by decide) rfl hf (fun hf => ?_) (fun hf => ?_)
  · skip
    refine z_aload_n (i := 0) C dX6_admit_16 rfl rfl rfl ?_
    refine z_cvvW (As := []) (st := []) (m := m3) C (cl_5 hM) (mn_0 hM) (mc_0 hM) gX6_admit_X6_saves hdX6_saves rfl (fun z h => qX6_saves hM N m3 z h) rfl (Nat.le_of_ble_eq_true rfl) ⟨Nat.le_of_ble_eq_true rfl, Nat.le_of_ble_eq_true rfl⟩ ⟨Nat.le_refl _, Nat.le_refl _⟩ dX6_admit_17 rfl rfl hf (fun m4 hf => ?_)
    refine z_aload_n (i := 0) C dX6_admit_20 rfl rfl rfl ?_
    refine z_iload_n (i := 1) C dX6_admit_21 rfl rfl rfl ?_
    refine z_iload_n (i := 2) C dX6_admit_22 rfl rfl rfl ?_
    refine z_iload_n (i := 3) C dX6_admit_23 rfl rfl rfl ?_
    refine z_cviW (As := [.int a1, .int a2, .int a3]) (st := []) (m := m4) C (cl_5 hM) (mn_0 hM) (mc_0 hM) gX6_admit_X6_joins hdX6_joins rfl (fun z h => qX6_joins hM N a1 a2 a3 m4 z h) rfl (Nat.le_of_ble_eq_true rfl) ⟨Nat.le_of_ble_eq_true rfl, Nat.le_of_ble_eq_true rfl⟩ ⟨Nat.le_refl _, Nat.le_refl _⟩ dX6_admit_24 rfl rfl hf (fun v5 m6 hf => ?_)
    exact hr _ _ _ _ (Option.some.inj hf) dX6_admit_27
  · skip
    refine z_iconst C dX6_admit_14 zi_0 rfl ?_
    exact hr _ _ _ _ (Option.some.inj hf) dX6_admit_15

def fX6_badMember (N : Nat) (a1 : Int32) (m : zMem) : Option (Int32) :=
  kc1 (fX6_isId a1) fun v1 =>
  if v1 = 0 then
  some 1
  else
  kc1 (fX6_isMember N a1 m) fun v2 =>
  if v2 = 0 then
  some 2
  else
  some 0
theorem hdX6_badMember : yX6_badMember.cls = RX6 ∧ yX6_badMember.cls ≠ "java/lang/invoke/MethodHandle" ∧ yX6_badMember.cls ≠ "java/lang/invoke/VarHandle" ∧ (parseMethodDescriptor yX6_badMember.desc).map (fun d => d.parameters.length) = some 1 := by decide +kernel
set_option maxHeartbeats 4000000 in
set_option maxRecDepth 100000 in
theorem qX6_badMember {l : Launch} {g : zG} (hM : isM g)  (N : Nat) (a1 : Int32) (m : zMem)  (o : Int32) (hf : fX6_badMember N a1 m = some o) : zMI l g yX6_badMember wsX6_badMember { frames := 3, cells := 0, slots := 0, locals := 63 } [.ref (zad g 0), .int a1] m (o, m) := by
  refine z_met_i (cc := cX6_badMember) (maxL := 2) (lo0 := [some (.ref (zad g 0)), some (.int a1)]) (by decide +kernel) rfl rfl (Nat.le_of_ble_eq_true rfl) (fun x hx C hr => ?_)
  unfold fX6_badMember at hf
  refine z_iload_n (i := 1) C dX6_badMember_0 rfl rfl rfl ?_
  refine z_csiR (As := [.int a1]) (st := []) (m := m) C gX6_badMember_X6_isId hdX6_isId rfl (fun z h => qX6_isId a1 m z h) rfl (Nat.le_of_ble_eq_true rfl) ⟨Nat.le_of_ble_eq_true rfl, Nat.le_of_ble_eq_true rfl⟩ ⟨Nat.le_refl _, Nat.le_refl _⟩ dX6_badMember_1 rfl rfl hf (fun v1 hf => ?_)
  refine z_if_ne (tgt := 11) C dX6_badMember_4 (by decide) rfl hf (fun hf => ?_) (fun hf => ?_)
  · skip
    refine z_aload_n (i := 0) C dX6_badMember_11 rfl rfl rfl ?_
    refine z_iload_n (i := 1) C dX6_badMember_12 rfl rfl rfl ?_
    refine z_cviR (As := [.int a1]) (st := []) (m := m) C (cl_5 hM) (mn_0 hM) (mc_0 hM) gX6_badMember_X6_isMember hdX6_isMember rfl (fun z h => qX6_isMember hM N a1 m z h) rfl (Nat.le_of_ble_eq_true rfl) ⟨Nat.le_of_ble_eq_true rfl, Nat.le_of_ble_eq_true rfl⟩ ⟨Nat.le_refl _, Nat.le_refl _⟩ dX6_badMember_13 rfl rfl hf (fun v2 hf => ?_)
    refine z_if_eq (tgt := 23) C dX6_badMember_16 (by decide) rfl hf (fun hf => ?_) (fun hf => ?_)
    · skip
      refine z_iconst C dX6_badMember_23 zi_2 rfl ?_
      exact hr _ _ _ _ (congrArg (fun z => (z, m)) (Option.some.inj hf)) dX6_badMember_24
    · skip
      refine z_iconst C dX6_badMember_19 zi_0 rfl ?_
      refine z_goto (pc' := 24) C dX6_badMember_20 (by decide) ?_
      exact hr _ _ _ _ (congrArg (fun z => (z, m)) (Option.some.inj hf)) dX6_badMember_24
  · skip
    refine z_iconst C dX6_badMember_7 zi_1 rfl ?_
    refine z_goto (pc' := 24) C dX6_badMember_8 (by decide) ?_
    exact hr _ _ _ _ (congrArg (fun z => (z, m)) (Option.some.inj hf)) dX6_badMember_24

def fX6_leave (N : Nat) (a1 : Int32) (m : zMem) : Option (Int32 × zMem) :=
  kc1 (fX6_badMember N a1 m) fun v1 =>
  kc2 (fX6_refused v1 m) fun v2 m3 =>
  if v2 = 0 then
  kc1 (fX6_saves N m3) fun m4 =>
  kc1 (fX6_placeOf N a1 m4) fun v5 =>
  kc1 (fX6_ends N v5 m4) fun m6 =>
  kc1 (fX6_memberMany N m6) fun v7 =>
  some (v7, m6)
  else
  some (0, m3)
theorem hdX6_leave : yX6_leave.cls = RX6 ∧ yX6_leave.cls ≠ "java/lang/invoke/MethodHandle" ∧ yX6_leave.cls ≠ "java/lang/invoke/VarHandle" ∧ (parseMethodDescriptor yX6_leave.desc).map (fun d => d.parameters.length) = some 1 := by decide +kernel
set_option maxHeartbeats 4000000 in
set_option maxRecDepth 100000 in
theorem qX6_leave {l : Launch} {g : zG} (hM : isM g)  (N : Nat) (a1 : Int32) (m : zMem)  (o : Int32 × zMem) (hf : fX6_leave N a1 m = some o) : zMI l g yX6_leave wsX6_leave { frames := 4, cells := 0, slots := 0, locals := 84 } [.ref (zad g 0), .int a1] m o := by
  refine z_met_i (cc := cX6_leave) (maxL := 2) (lo0 := [some (.ref (zad g 0)), some (.int a1)]) (by decide +kernel) rfl rfl (Nat.le_of_ble_eq_true rfl) (fun x hx C hr => ?_)
  unfold fX6_leave at hf
  refine z_aload_n (i := 0) C dX6_leave_0 rfl rfl rfl ?_
  refine z_aload_n (i := 0) C dX6_leave_1 rfl rfl rfl ?_
  refine z_iload_n (i := 1) C dX6_leave_2 rfl rfl rfl ?_
  refine z_cviR (As := [.int a1]) (st := [.ref (zad g 0)]) (m := m) C (cl_5 hM) (mn_0 hM) (mc_0 hM) gX6_leave_X6_badMember hdX6_badMember rfl (fun z h => qX6_badMember hM N a1 m z h) rfl (Nat.le_of_ble_eq_true rfl) ⟨Nat.le_of_ble_eq_true rfl, Nat.le_of_ble_eq_true rfl⟩ ⟨Nat.le_refl _, Nat.le_refl _⟩ dX6_leave_3 rfl rfl hf (fun v1 hf => ?_)
  refine z_cviW (As := [.int v1]) (st := []) (m := m) C (cl_5 hM) (mn_0 hM) (mc_0 hM) gX6_leave_X6_refused hdX6_refused rfl (fun z h => qX6_refused hM v1 m z h) rfl (Nat.le_of_ble_eq_true rfl) ⟨Nat.le_of_ble_eq_true rfl, Nat.le_of_ble_eq_true rfl⟩ ⟨Nat.le_refl _, Nat.le_refl _⟩ dX6_leave_6 rfl rfl hf (fun v2 m3 hf => ?_)
  refine z_if_eq (tgt := 14) C dX6_leave_9 (by decide) rfl hf (fun hf => ?_) (fun hf => ?_)
  · skip
    refine z_aload_n (i := 0) C dX6_leave_14 rfl rfl rfl ?_
    refine z_cvvW (As := []) (st := []) (m := m3) C (cl_5 hM) (mn_0 hM) (mc_0 hM) gX6_leave_X6_saves hdX6_saves rfl (fun z h => qX6_saves hM N m3 z h) rfl (Nat.le_of_ble_eq_true rfl) ⟨Nat.le_of_ble_eq_true rfl, Nat.le_of_ble_eq_true rfl⟩ ⟨Nat.le_refl _, Nat.le_refl _⟩ dX6_leave_15 rfl rfl hf (fun m4 hf => ?_)
    refine z_aload_n (i := 0) C dX6_leave_18 rfl rfl rfl ?_
    refine z_aload_n (i := 0) C dX6_leave_19 rfl rfl rfl ?_
    refine z_iload_n (i := 1) C dX6_leave_20 rfl rfl rfl ?_
    refine z_cviR (As := [.int a1]) (st := [.ref (zad g 0)]) (m := m4) C (cl_5 hM) (mn_0 hM) (mc_0 hM) gX6_leave_X6_placeOf hdX6_placeOf rfl (fun z h => qX6_placeOf hM N a1 m4 z h) rfl (Nat.le_of_ble_eq_true rfl) ⟨Nat.le_of_ble_eq_true rfl, Nat.le_of_ble_eq_true rfl⟩ ⟨Nat.le_refl _, Nat.le_refl _⟩ dX6_leave_21 rfl rfl hf (fun v5 hf => ?_)
    refine z_cvvW (As := [.int v5]) (st := []) (m := m4) C (cl_5 hM) (mn_0 hM) (mc_0 hM) gX6_leave_X6_ends hdX6_ends rfl (fun z h => qX6_ends hM N v5 m4 z h) rfl (Nat.le_of_ble_eq_true rfl) ⟨Nat.le_of_ble_eq_true rfl, Nat.le_of_ble_eq_true rfl⟩ ⟨Nat.le_refl _, Nat.le_refl _⟩ dX6_leave_24 rfl rfl hf (fun m6 hf => ?_)
    refine z_aload_n (i := 0) C dX6_leave_27 rfl rfl rfl ?_
    refine z_cviR (As := []) (st := []) (m := m6) C (cl_5 hM) (mn_0 hM) (mc_0 hM) gX6_leave_X6_memberMany hdX6_memberMany rfl (fun z h => qX6_memberMany hM N m6 z h) rfl (Nat.le_of_ble_eq_true rfl) ⟨Nat.le_of_ble_eq_true rfl, Nat.le_of_ble_eq_true rfl⟩ ⟨Nat.le_refl _, Nat.le_refl _⟩ dX6_leave_28 rfl rfl hf (fun v7 hf => ?_)
    exact hr _ _ _ _ (Option.some.inj hf) dX6_leave_31
  · skip
    refine z_iconst C dX6_leave_12 zi_0 rfl ?_
    exact hr _ _ _ _ (Option.some.inj hf) dX6_leave_13

def sX6_swarm_96 (N : Nat) (a1 : Int32) (a2 : Int32) (a3 : Int32) (a4 : Int32) (a5 : Int32) (K148 : Int32 → zMem → Option (Int32 × zMem)) : (Int32 × Int32 × zMem → Option (Int32 × zMem)) → Int32 × Int32 × zMem → Option (Int32 × zMem) := fun rec (x9, x10, m11) =>
  if a3 ≤ x10 then
  K148 x9 m11
  else
  krm (a1 + (x10 * a2)) 256 fun v12 =>
  kc1 (fX6_badAdmission N v12 a4 a5 m11) fun v13 =>
  if v13 = 0 then
  kc2 (fX6_joins N v12 a4 a5 m11) fun v14 m15 =>
  rec (x9 + 1, x10 + 1, m15)
  else
  rec (x9, x10 + 1, m11)
def fX6_swarm (N : Nat) (a1 : Int32) (a2 : Int32) (a3 : Int32) (a4 : Int32) (a5 : Int32) (m : zMem) : Option (Int32 × zMem) :=
  kc1 (fX6_isId a1) fun v1 =>
  kjn (fun (w2 : Int32) =>
  kjn (fun (w3 : Int32) =>
  kc2 (fX6_refused w3 m) fun v4 m5 =>
  if v4 = 0 then
  kc1 (fX6_saves N m5) fun m6 =>
  kjn (fun (w7 : Int32) (m8 : zMem) =>
  some (w7, m8)) fun K148 =>
  klp (sX6_swarm_96 N a1 a2 a3 a4 a5 K148) N (0, 0, m6)
  else
  some (0, m5)) fun K78 =>
  if w2 = 0 then
  K78 1
  else
  kc1 (fX6_isMember N a5 m) fun v16 =>
  if v16 = 0 then
  K78 2
  else
  K78 0) fun K52 =>
  if v1 = 0 then
  K52 0
  else
  kc1 (fX6_in a2 1 255) fun v17 =>
  if v17 = 0 then
  K52 0
  else
  kc1 (fX6_in a3 1 16) fun v18 =>
  if v18 = 0 then
  K52 0
  else
  kc1 (fX6_in a4 0 7) fun v19 =>
  if v19 = 0 then
  K52 0
  else
  kc1 (fX6_isId a5) fun v20 =>
  if v20 = 0 then
  K52 0
  else
  K52 1
theorem hdX6_swarm : yX6_swarm.cls = RX6 ∧ yX6_swarm.cls ≠ "java/lang/invoke/MethodHandle" ∧ yX6_swarm.cls ≠ "java/lang/invoke/VarHandle" ∧ (parseMethodDescriptor yX6_swarm.desc).map (fun d => d.parameters.length) = some 5 := by decide +kernel
set_option maxHeartbeats 4000000 in
set_option maxRecDepth 100000 in
theorem qX6_swarm {l : Launch} {g : zG} (hM : isM g)  (N : Nat) (a1 : Int32) (a2 : Int32) (a3 : Int32) (a4 : Int32) (a5 : Int32) (m : zMem)  (o : Int32 × zMem) (hf : fX6_swarm N a1 a2 a3 a4 a5 m = some o) : zMI l g yX6_swarm wsX6_swarm { frames := 7, cells := 0, slots := 0, locals := 170 } [.ref (zad g 0), .int a1, .int a2, .int a3, .int a4, .int a5] m o := by
  refine z_met_i (cc := cX6_swarm) (maxL := 11) (lo0 := [some (.ref (zad g 0)), some (.int a1), some (.int a2), some (.int a3), some (.int a4), some (.int a5), none, none, none, none, none]) (by decide +kernel) rfl rfl (Nat.le_of_ble_eq_true rfl) (fun x hx C hr => ?_)
  unfold fX6_swarm at hf
  refine z_iload_n (i := 1) C dX6_swarm_0 rfl rfl rfl ?_
  refine z_csiR (As := [.int a1]) (st := []) (m := m) C gX6_swarm_X6_isId hdX6_isId rfl (fun z h => qX6_isId a1 m z h) rfl (Nat.le_of_ble_eq_true rfl) ⟨Nat.le_of_ble_eq_true rfl, Nat.le_of_ble_eq_true rfl⟩ ⟨Nat.le_refl _, Nat.le_refl _⟩ dX6_swarm_1 rfl rfl hf (fun v1 hf => ?_)
  refine kjn_V (fun K52 => ∀ (w2 : Int32), K52 w2 = some o → zV x g 11 0 0 52 [some (.ref (zad g 0)), some (.int a1), some (.int a2), some (.int a3), some (.int a4), some (.int a5), none, none, none, none, none] [.int w2] m) hf (fun w2 hf => ?_) (fun K52 hK52 hf => ?_)
  · skip
    refine z_istore (lo' := [some (.ref (zad g 0)), some (.int a1), some (.int a2), some (.int a3), some (.int a4), some (.int a5), some (.int w2), none, none, none, none]) C dX6_swarm_52 (Nat.le_of_ble_eq_true rfl) rfl rfl rfl ?_
    refine z_aload_n (i := 0) C dX6_swarm_54 rfl rfl rfl ?_
    refine z_iload C dX6_swarm_55 rfl rfl ?_
    refine kjn_V (fun K78 => ∀ (w3 : Int32), K78 w3 = some o → zV x g 11 0 0 78 [some (.ref (zad g 0)), some (.int a1), some (.int a2), some (.int a3), some (.int a4), some (.int a5), none, none, none, none, none] [.int w3, .ref (zad g 0)] m) hf (fun w3 hf => ?_) (fun K78 hK78 hf => ?_)
    · skip
      refine z_cviW (As := [.int w3]) (st := []) (m := m) C (cl_5 hM) (mn_0 hM) (mc_0 hM) gX6_swarm_X6_refused hdX6_refused rfl (fun z h => qX6_refused hM w3 m z h) rfl (Nat.le_of_ble_eq_true rfl) ⟨Nat.le_of_ble_eq_true rfl, Nat.le_of_ble_eq_true rfl⟩ ⟨Nat.le_refl _, Nat.le_refl _⟩ dX6_swarm_78 rfl rfl hf (fun v4 m5 hf => ?_)
      refine z_if_eq (tgt := 86) C dX6_swarm_81 (by decide) rfl hf (fun hf => ?_) (fun hf => ?_)
      · skip
        refine z_aload_n (i := 0) C dX6_swarm_86 rfl rfl rfl ?_
        refine z_cvvW (As := []) (st := []) (m := m5) C (cl_5 hM) (mn_0 hM) (mc_0 hM) gX6_swarm_X6_saves hdX6_saves rfl (fun z h => qX6_saves hM N m5 z h) rfl (Nat.le_of_ble_eq_true rfl) ⟨Nat.le_of_ble_eq_true rfl, Nat.le_of_ble_eq_true rfl⟩ ⟨Nat.le_refl _, Nat.le_refl _⟩ dX6_swarm_87 rfl rfl hf (fun m6 hf => ?_)
        refine z_iconst C dX6_swarm_90 zi_0 rfl ?_
        refine z_istore (lo' := [some (.ref (zad g 0)), some (.int a1), some (.int a2), some (.int a3), some (.int a4), some (.int a5), none, some (.int 0), none, none, none]) C dX6_swarm_91 (Nat.le_of_ble_eq_true rfl) rfl rfl rfl ?_
        refine z_iconst C dX6_swarm_93 zi_0 rfl ?_
        refine z_istore (lo' := [some (.ref (zad g 0)), some (.int a1), some (.int a2), some (.int a3), some (.int a4), some (.int a5), none, some (.int 0), some (.int 0), none, none]) C dX6_swarm_94 (Nat.le_of_ble_eq_true rfl) rfl rfl rfl ?_
        refine kjn_V (fun K148 => ∀ (w7 : Int32) (m8 : zMem), K148 w7 m8 = some o → zV x g 11 0 0 148 [none, none, none, none, none, none, none, some (.int w7), none, none, none] [] m8) hf (fun w7 m8 hf => ?_) (fun K148 hK148 hf => ?_)
        · skip
          refine z_iload C dX6_swarm_148 rfl rfl ?_
          exact hr _ _ _ _ (Option.some.inj hf) dX6_swarm_150
        · skip
          refine klp_V (fun z => zV x g 11 0 0 96 [some (.ref (zad g 0)), some (.int a1), some (.int a2), some (.int a3), some (.int a4), some (.int a5), none, some (.int z.1), some (.int z.2.1), none, none] [] z.2.2) hf (fun rec z ih hf => ?_)
          obtain ⟨x9, x10, m11⟩ := z
          unfold sX6_swarm_96 at hf
          try dsimp only at hf
          try dsimp only
          refine z_iload C dX6_swarm_96 rfl rfl ?_
          refine z_iload_n (i := 3) C dX6_swarm_98 rfl rfl rfl ?_
          refine z_ic_ge (tgt := 148) C dX6_swarm_99 (by decide) rfl hf (fun hf => ?_) (fun hf => ?_)
          · skip
            refine z_drop (lo' := [none, some (.int a1), some (.int a2), some (.int a3), some (.int a4), some (.int a5), none, some (.int x9), some (.int x10), none, none]) 0 rfl ?_
            refine z_drop (lo' := [none, none, some (.int a2), some (.int a3), some (.int a4), some (.int a5), none, some (.int x9), some (.int x10), none, none]) 1 rfl ?_
            refine z_drop (lo' := [none, none, none, some (.int a3), some (.int a4), some (.int a5), none, some (.int x9), some (.int x10), none, none]) 2 rfl ?_
            refine z_drop (lo' := [none, none, none, none, some (.int a4), some (.int a5), none, some (.int x9), some (.int x10), none, none]) 3 rfl ?_
            refine z_drop (lo' := [none, none, none, none, none, some (.int a5), none, some (.int x9), some (.int x10), none, none]) 4 rfl ?_
            refine z_drop (lo' := [none, none, none, none, none, none, none, some (.int x9), some (.int x10), none, none]) 5 rfl ?_
            refine z_drop (lo' := [none, none, none, none, none, none, none, some (.int x9), none, none, none]) 8 rfl ?_
            exact hK148 _ _ hf
          · skip
            refine z_iload_n (i := 1) C dX6_swarm_102 rfl rfl rfl ?_
            refine z_iload C dX6_swarm_103 rfl rfl ?_
            refine z_iload_n (i := 2) C dX6_swarm_105 rfl rfl rfl ?_
            refine z_imul C dX6_swarm_106 rfl ?_
            refine z_iadd C dX6_swarm_107 rfl ?_
            refine z_sipush C dX6_swarm_108 zs_256 rfl ?_
            refine z_irem C dX6_swarm_111 rfl hf (fun v12 hf => ?_)
            refine z_istore (lo' := [some (.ref (zad g 0)), some (.int a1), some (.int a2), some (.int a3), some (.int a4), some (.int a5), none, some (.int x9), some (.int x10), some (.int v12), none]) C dX6_swarm_112 (Nat.le_of_ble_eq_true rfl) rfl rfl rfl ?_
            refine z_aload_n (i := 0) C dX6_swarm_114 rfl rfl rfl ?_
            refine z_iload C dX6_swarm_115 rfl rfl ?_
            refine z_iload C dX6_swarm_117 rfl rfl ?_
            refine z_iload C dX6_swarm_119 rfl rfl ?_
            refine z_cviR (As := [.int v12, .int a4, .int a5]) (st := []) (m := m11) C (cl_5 hM) (mn_0 hM) (mc_0 hM) gX6_swarm_X6_badAdmission hdX6_badAdmission rfl (fun z h => qX6_badAdmission hM N v12 a4 a5 m11 z h) rfl (Nat.le_of_ble_eq_true rfl) ⟨Nat.le_of_ble_eq_true rfl, Nat.le_of_ble_eq_true rfl⟩ ⟨Nat.le_refl _, Nat.le_refl _⟩ dX6_swarm_121 rfl rfl hf (fun v13 hf => ?_)
            refine z_if_ne (tgt := 142) C dX6_swarm_124 (by decide) rfl hf (fun hf => ?_) (fun hf => ?_)
            · skip
              refine z_iinc (v := x10 + 1) (lo' := [some (.ref (zad g 0)), some (.int a1), some (.int a2), some (.int a3), some (.int a4), some (.int a5), none, some (.int x9), some (.int (x10 + 1)), some (.int v12), none]) C dX6_swarm_142 rfl (zinc zi_1) (Nat.le_of_ble_eq_true rfl) rfl rfl rfl ?_
              refine z_goto (pc' := 96) C dX6_swarm_145 (by decide) ?_
              refine z_drop (lo' := [some (.ref (zad g 0)), some (.int a1), some (.int a2), some (.int a3), some (.int a4), some (.int a5), none, some (.int x9), some (.int (x10 + 1)), none, none]) 9 rfl ?_
              exact ih (x9, x10 + 1, m11) hf
            · skip
              refine z_aload_n (i := 0) C dX6_swarm_127 rfl rfl rfl ?_
              refine z_iload C dX6_swarm_128 rfl rfl ?_
              refine z_iload C dX6_swarm_130 rfl rfl ?_
              refine z_iload C dX6_swarm_132 rfl rfl ?_
              refine z_cviW (As := [.int v12, .int a4, .int a5]) (st := []) (m := m11) C (cl_5 hM) (mn_0 hM) (mc_0 hM) gX6_swarm_X6_joins hdX6_joins rfl (fun z h => qX6_joins hM N v12 a4 a5 m11 z h) rfl (Nat.le_of_ble_eq_true rfl) ⟨Nat.le_of_ble_eq_true rfl, Nat.le_of_ble_eq_true rfl⟩ ⟨Nat.le_refl _, Nat.le_refl _⟩ dX6_swarm_134 rfl rfl hf (fun v14 m15 hf => ?_)
              refine z_istore (lo' := [some (.ref (zad g 0)), some (.int a1), some (.int a2), some (.int a3), some (.int a4), some (.int a5), none, some (.int x9), some (.int x10), some (.int v12), some (.int v14)]) C dX6_swarm_137 (Nat.le_of_ble_eq_true rfl) rfl rfl rfl ?_
              refine z_iinc (v := x9 + 1) (lo' := [some (.ref (zad g 0)), some (.int a1), some (.int a2), some (.int a3), some (.int a4), some (.int a5), none, some (.int (x9 + 1)), some (.int x10), some (.int v12), some (.int v14)]) C dX6_swarm_139 rfl (zinc zi_1) (Nat.le_of_ble_eq_true rfl) rfl rfl rfl ?_
              refine z_iinc (v := x10 + 1) (lo' := [some (.ref (zad g 0)), some (.int a1), some (.int a2), some (.int a3), some (.int a4), some (.int a5), none, some (.int (x9 + 1)), some (.int (x10 + 1)), some (.int v12), some (.int v14)]) C dX6_swarm_142 rfl (zinc zi_1) (Nat.le_of_ble_eq_true rfl) rfl rfl rfl ?_
              refine z_goto (pc' := 96) C dX6_swarm_145 (by decide) ?_
              refine z_drop (lo' := [some (.ref (zad g 0)), some (.int a1), some (.int a2), some (.int a3), some (.int a4), some (.int a5), none, some (.int (x9 + 1)), some (.int (x10 + 1)), none, some (.int v14)]) 9 rfl ?_
              refine z_drop (lo' := [some (.ref (zad g 0)), some (.int a1), some (.int a2), some (.int a3), some (.int a4), some (.int a5), none, some (.int (x9 + 1)), some (.int (x10 + 1)), none, none]) 10 rfl ?_
              exact ih (x9 + 1, x10 + 1, m15) hf
      · skip
        refine z_iconst C dX6_swarm_84 zi_0 rfl ?_
        exact hr _ _ _ _ (Option.some.inj hf) dX6_swarm_85
    · skip
      refine z_if_ne (tgt := 64) C dX6_swarm_57 (by decide) rfl hf (fun hf => ?_) (fun hf => ?_)
      · skip
        refine z_aload_n (i := 0) C dX6_swarm_64 rfl rfl rfl ?_
        refine z_iload C dX6_swarm_65 rfl rfl ?_
        refine z_cviR (As := [.int a5]) (st := [.ref (zad g 0)]) (m := m) C (cl_5 hM) (mn_0 hM) (mc_0 hM) gX6_swarm_X6_isMember hdX6_isMember rfl (fun z h => qX6_isMember hM N a5 m z h) rfl (Nat.le_of_ble_eq_true rfl) ⟨Nat.le_of_ble_eq_true rfl, Nat.le_of_ble_eq_true rfl⟩ ⟨Nat.le_refl _, Nat.le_refl _⟩ dX6_swarm_67 rfl rfl hf (fun v16 hf => ?_)
        refine z_if_eq (tgt := 77) C dX6_swarm_70 (by decide) rfl hf (fun hf => ?_) (fun hf => ?_)
        · skip
          refine z_iconst C dX6_swarm_77 zi_2 rfl ?_
          refine z_drop (lo' := [some (.ref (zad g 0)), some (.int a1), some (.int a2), some (.int a3), some (.int a4), some (.int a5), none, none, none, none, none]) 6 rfl ?_
          exact hK78 _ hf
        · skip
          refine z_iconst C dX6_swarm_73 zi_0 rfl ?_
          refine z_goto (pc' := 78) C dX6_swarm_74 (by decide) ?_
          refine z_drop (lo' := [some (.ref (zad g 0)), some (.int a1), some (.int a2), some (.int a3), some (.int a4), some (.int a5), none, none, none, none, none]) 6 rfl ?_
          exact hK78 _ hf
      · skip
        refine z_iconst C dX6_swarm_60 zi_1 rfl ?_
        refine z_goto (pc' := 78) C dX6_swarm_61 (by decide) ?_
        refine z_drop (lo' := [some (.ref (zad g 0)), some (.int a1), some (.int a2), some (.int a3), some (.int a4), some (.int a5), none, none, none, none, none]) 6 rfl ?_
        exact hK78 _ hf
  · skip
    refine z_if_eq (tgt := 51) C dX6_swarm_4 (by decide) rfl hf (fun hf => ?_) (fun hf => ?_)
    · skip
      refine z_iconst C dX6_swarm_51 zi_0 rfl ?_
      exact hK52 _ hf
    · skip
      refine z_iload_n (i := 2) C dX6_swarm_7 rfl rfl rfl ?_
      refine z_iconst C dX6_swarm_8 zi_1 rfl ?_
      refine z_sipush C dX6_swarm_9 zs_255 rfl ?_
      refine z_csiR (As := [.int a2, .int 1, .int 255]) (st := []) (m := m) C gX6_swarm_X6_in hdX6_in rfl (fun z h => qX6_in a2 1 255 m z h) rfl (Nat.le_of_ble_eq_true rfl) ⟨Nat.le_of_ble_eq_true rfl, Nat.le_of_ble_eq_true rfl⟩ ⟨Nat.le_refl _, Nat.le_refl _⟩ dX6_swarm_12 rfl rfl hf (fun v17 hf => ?_)
      refine z_if_eq (tgt := 51) C dX6_swarm_15 (by decide) rfl hf (fun hf => ?_) (fun hf => ?_)
      · skip
        refine z_iconst C dX6_swarm_51 zi_0 rfl ?_
        exact hK52 _ hf
      · skip
        refine z_iload_n (i := 3) C dX6_swarm_18 rfl rfl rfl ?_
        refine z_iconst C dX6_swarm_19 zi_1 rfl ?_
        refine z_bipush C dX6_swarm_20 zb_16 rfl ?_
        refine z_csiR (As := [.int a3, .int 1, .int 16]) (st := []) (m := m) C gX6_swarm_X6_in hdX6_in rfl (fun z h => qX6_in a3 1 16 m z h) rfl (Nat.le_of_ble_eq_true rfl) ⟨Nat.le_of_ble_eq_true rfl, Nat.le_of_ble_eq_true rfl⟩ ⟨Nat.le_refl _, Nat.le_refl _⟩ dX6_swarm_22 rfl rfl hf (fun v18 hf => ?_)
        refine z_if_eq (tgt := 51) C dX6_swarm_25 (by decide) rfl hf (fun hf => ?_) (fun hf => ?_)
        · skip
          refine z_iconst C dX6_swarm_51 zi_0 rfl ?_
          exact hK52 _ hf
        · skip
          refine z_iload C dX6_swarm_28 rfl rfl ?_
          refine z_iconst C dX6_swarm_30 zi_0 rfl ?_
          refine z_bipush C dX6_swarm_31 zb_7 rfl ?_
          refine z_csiR (As := [.int a4, .int 0, .int 7]) (st := []) (m := m) C gX6_swarm_X6_in hdX6_in rfl (fun z h => qX6_in a4 0 7 m z h) rfl (Nat.le_of_ble_eq_true rfl) ⟨Nat.le_of_ble_eq_true rfl, Nat.le_of_ble_eq_true rfl⟩ ⟨Nat.le_refl _, Nat.le_refl _⟩ dX6_swarm_33 rfl rfl hf (fun v19 hf => ?_)
          refine z_if_eq (tgt := 51) C dX6_swarm_36 (by decide) rfl hf (fun hf => ?_) (fun hf => ?_)
          · skip
            refine z_iconst C dX6_swarm_51 zi_0 rfl ?_
            exact hK52 _ hf
          · skip
            refine z_iload C dX6_swarm_39 rfl rfl ?_
            refine z_csiR (As := [.int a5]) (st := []) (m := m) C gX6_swarm_X6_isId hdX6_isId rfl (fun z h => qX6_isId a5 m z h) rfl (Nat.le_of_ble_eq_true rfl) ⟨Nat.le_of_ble_eq_true rfl, Nat.le_of_ble_eq_true rfl⟩ ⟨Nat.le_refl _, Nat.le_refl _⟩ dX6_swarm_41 rfl rfl hf (fun v20 hf => ?_)
            refine z_if_eq (tgt := 51) C dX6_swarm_44 (by decide) rfl hf (fun hf => ?_) (fun hf => ?_)
            · skip
              refine z_iconst C dX6_swarm_51 zi_0 rfl ?_
              exact hK52 _ hf
            · skip
              refine z_iconst C dX6_swarm_47 zi_1 rfl ?_
              refine z_goto (pc' := 52) C dX6_swarm_48 (by decide) ?_
              exact hK52 _ hf

def fX6_badLook (N : Nat) (a1 : Int32) (a2 : Int32) (m : zMem) : Option (Int32) :=
  kc1 (fX6_isId a1) fun v1 =>
  if v1 = 0 then
  some 1
  else
  kc1 (fX6_isId a2) fun v2 =>
  if v2 = 0 then
  some 1
  else
  kc1 (fX6_isMember N a1 m) fun v3 =>
  if v3 = 0 then
  some 2
  else
  some 0
theorem hdX6_badLook : yX6_badLook.cls = RX6 ∧ yX6_badLook.cls ≠ "java/lang/invoke/MethodHandle" ∧ yX6_badLook.cls ≠ "java/lang/invoke/VarHandle" ∧ (parseMethodDescriptor yX6_badLook.desc).map (fun d => d.parameters.length) = some 2 := by decide +kernel
set_option maxHeartbeats 4000000 in
set_option maxRecDepth 100000 in
theorem qX6_badLook {l : Launch} {g : zG} (hM : isM g)  (N : Nat) (a1 : Int32) (a2 : Int32) (m : zMem)  (o : Int32) (hf : fX6_badLook N a1 a2 m = some o) : zMI l g yX6_badLook wsX6_badLook { frames := 3, cells := 0, slots := 0, locals := 63 } [.ref (zad g 0), .int a1, .int a2] m (o, m) := by
  refine z_met_i (cc := cX6_badLook) (maxL := 3) (lo0 := [some (.ref (zad g 0)), some (.int a1), some (.int a2)]) (by decide +kernel) rfl rfl (Nat.le_of_ble_eq_true rfl) (fun x hx C hr => ?_)
  unfold fX6_badLook at hf
  refine z_iload_n (i := 1) C dX6_badLook_0 rfl rfl rfl ?_
  refine z_csiR (As := [.int a1]) (st := []) (m := m) C gX6_badLook_X6_isId hdX6_isId rfl (fun z h => qX6_isId a1 m z h) rfl (Nat.le_of_ble_eq_true rfl) ⟨Nat.le_of_ble_eq_true rfl, Nat.le_of_ble_eq_true rfl⟩ ⟨Nat.le_refl _, Nat.le_refl _⟩ dX6_badLook_1 rfl rfl hf (fun v1 hf => ?_)
  refine z_if_eq (tgt := 14) C dX6_badLook_4 (by decide) rfl hf (fun hf => ?_) (fun hf => ?_)
  · skip
    refine z_iconst C dX6_badLook_14 zi_1 rfl ?_
    refine z_goto (pc' := 31) C dX6_badLook_15 (by decide) ?_
    exact hr _ _ _ _ (congrArg (fun z => (z, m)) (Option.some.inj hf)) dX6_badLook_31
  · skip
    refine z_iload_n (i := 2) C dX6_badLook_7 rfl rfl rfl ?_
    refine z_csiR (As := [.int a2]) (st := []) (m := m) C gX6_badLook_X6_isId hdX6_isId rfl (fun z h => qX6_isId a2 m z h) rfl (Nat.le_of_ble_eq_true rfl) ⟨Nat.le_of_ble_eq_true rfl, Nat.le_of_ble_eq_true rfl⟩ ⟨Nat.le_refl _, Nat.le_refl _⟩ dX6_badLook_8 rfl rfl hf (fun v2 hf => ?_)
    refine z_if_ne (tgt := 18) C dX6_badLook_11 (by decide) rfl hf (fun hf => ?_) (fun hf => ?_)
    · skip
      refine z_aload_n (i := 0) C dX6_badLook_18 rfl rfl rfl ?_
      refine z_iload_n (i := 1) C dX6_badLook_19 rfl rfl rfl ?_
      refine z_cviR (As := [.int a1]) (st := []) (m := m) C (cl_5 hM) (mn_0 hM) (mc_0 hM) gX6_badLook_X6_isMember hdX6_isMember rfl (fun z h => qX6_isMember hM N a1 m z h) rfl (Nat.le_of_ble_eq_true rfl) ⟨Nat.le_of_ble_eq_true rfl, Nat.le_of_ble_eq_true rfl⟩ ⟨Nat.le_refl _, Nat.le_refl _⟩ dX6_badLook_20 rfl rfl hf (fun v3 hf => ?_)
      refine z_if_eq (tgt := 30) C dX6_badLook_23 (by decide) rfl hf (fun hf => ?_) (fun hf => ?_)
      · skip
        refine z_iconst C dX6_badLook_30 zi_2 rfl ?_
        exact hr _ _ _ _ (congrArg (fun z => (z, m)) (Option.some.inj hf)) dX6_badLook_31
      · skip
        refine z_iconst C dX6_badLook_26 zi_0 rfl ?_
        refine z_goto (pc' := 31) C dX6_badLook_27 (by decide) ?_
        exact hr _ _ _ _ (congrArg (fun z => (z, m)) (Option.some.inj hf)) dX6_badLook_31
    · skip
      refine z_iconst C dX6_badLook_14 zi_1 rfl ?_
      refine z_goto (pc' := 31) C dX6_badLook_15 (by decide) ?_
      exact hr _ _ _ _ (congrArg (fun z => (z, m)) (Option.some.inj hf)) dX6_badLook_31

def fX6_lookup (N : Nat) (a1 : Int32) (a2 : Int32) (m : zMem) : Option (Int32 × zMem) :=
  kc1 (fX6_badLook N a1 a2 m) fun v1 =>
  kc2 (fX6_refused v1 m) fun v2 m3 =>
  if v2 = 0 then
  kc1 (fX6_saves N m3) fun m4 =>
  kc2 (fX6_looks N a1 a2 m4) fun v5 m6 =>
  some (v5, m6)
  else
  some (0, m3)
theorem hdX6_lookup : yX6_lookup.cls = RX6 ∧ yX6_lookup.cls ≠ "java/lang/invoke/MethodHandle" ∧ yX6_lookup.cls ≠ "java/lang/invoke/VarHandle" ∧ (parseMethodDescriptor yX6_lookup.desc).map (fun d => d.parameters.length) = some 2 := by decide +kernel
set_option maxHeartbeats 4000000 in
set_option maxRecDepth 100000 in
theorem qX6_lookup {l : Launch} {g : zG} (hM : isM g)  (N : Nat) (a1 : Int32) (a2 : Int32) (m : zMem)  (o : Int32 × zMem) (hf : fX6_lookup N a1 a2 m = some o) : zMI l g yX6_lookup wsX6_lookup { frames := 6, cells := 0, slots := 0, locals := 144 } [.ref (zad g 0), .int a1, .int a2] m o := by
  refine z_met_i (cc := cX6_lookup) (maxL := 3) (lo0 := [some (.ref (zad g 0)), some (.int a1), some (.int a2)]) (by decide +kernel) rfl rfl (Nat.le_of_ble_eq_true rfl) (fun x hx C hr => ?_)
  unfold fX6_lookup at hf
  refine z_aload_n (i := 0) C dX6_lookup_0 rfl rfl rfl ?_
  refine z_aload_n (i := 0) C dX6_lookup_1 rfl rfl rfl ?_
  refine z_iload_n (i := 1) C dX6_lookup_2 rfl rfl rfl ?_
  refine z_iload_n (i := 2) C dX6_lookup_3 rfl rfl rfl ?_
  refine z_cviR (As := [.int a1, .int a2]) (st := [.ref (zad g 0)]) (m := m) C (cl_5 hM) (mn_0 hM) (mc_0 hM) gX6_lookup_X6_badLook hdX6_badLook rfl (fun z h => qX6_badLook hM N a1 a2 m z h) rfl (Nat.le_of_ble_eq_true rfl) ⟨Nat.le_of_ble_eq_true rfl, Nat.le_of_ble_eq_true rfl⟩ ⟨Nat.le_refl _, Nat.le_refl _⟩ dX6_lookup_4 rfl rfl hf (fun v1 hf => ?_)
  refine z_cviW (As := [.int v1]) (st := []) (m := m) C (cl_5 hM) (mn_0 hM) (mc_0 hM) gX6_lookup_X6_refused hdX6_refused rfl (fun z h => qX6_refused hM v1 m z h) rfl (Nat.le_of_ble_eq_true rfl) ⟨Nat.le_of_ble_eq_true rfl, Nat.le_of_ble_eq_true rfl⟩ ⟨Nat.le_refl _, Nat.le_refl _⟩ dX6_lookup_7 rfl rfl hf (fun v2 m3 hf => ?_)
  refine z_if_eq (tgt := 15) C dX6_lookup_10 (by decide) rfl hf (fun hf => ?_) (fun hf => ?_)
  · skip
    refine z_aload_n (i := 0) C dX6_lookup_15 rfl rfl rfl ?_
    refine z_cvvW (As := []) (st := []) (m := m3) C (cl_5 hM) (mn_0 hM) (mc_0 hM) gX6_lookup_X6_saves hdX6_saves rfl (fun z h => qX6_saves hM N m3 z h) rfl (Nat.le_of_ble_eq_true rfl) ⟨Nat.le_of_ble_eq_true rfl, Nat.le_of_ble_eq_true rfl⟩ ⟨Nat.le_refl _, Nat.le_refl _⟩ dX6_lookup_16 rfl rfl hf (fun m4 hf => ?_)
    refine z_aload_n (i := 0) C dX6_lookup_19 rfl rfl rfl ?_
    refine z_iload_n (i := 1) C dX6_lookup_20 rfl rfl rfl ?_
    refine z_iload_n (i := 2) C dX6_lookup_21 rfl rfl rfl ?_
    refine z_cviW (As := [.int a1, .int a2]) (st := []) (m := m4) C (cl_5 hM) (mn_0 hM) (mc_0 hM) gX6_lookup_X6_looks hdX6_looks rfl (fun z h => qX6_looks hM N a1 a2 m4 z h) rfl (Nat.le_of_ble_eq_true rfl) ⟨Nat.le_of_ble_eq_true rfl, Nat.le_of_ble_eq_true rfl⟩ ⟨Nat.le_refl _, Nat.le_refl _⟩ dX6_lookup_22 rfl rfl hf (fun v5 m6 hf => ?_)
    exact hr _ _ _ _ (Option.some.inj hf) dX6_lookup_25
  · skip
    refine z_iconst C dX6_lookup_13 zi_0 rfl ?_
    exact hr _ _ _ _ (Option.some.inj hf) dX6_lookup_14

def fX6_probe (N : Nat) (a1 : Int32) (a2 : Int32) (a3 : Int32) (m : zMem) : Option (Int32 × zMem) :=
  kc1 (fX6_in a3 0 3) fun v1 =>
  kjn (fun (w2 : Int32) =>
  kc2 (fX6_refused w2 m) fun v3 m4 =>
  if v3 = 0 then
  kc1 (fX6_keeps N m4) fun m5 =>
  kc2 (fX6_looks N a1 a2 m5) fun v6 m7 =>
  kc1 (fX6_takesBack N m7) fun m8 =>
  if a3 = 0 then
  some (v6, m8)
  else
  if a3 = 1 then
  kgi m8 0 8 fun v11 =>
  some (v11, m8)
  else
  if a3 = 2 then
  kgi m8 0 9 fun v10 =>
  some (v10, m8)
  else
  kgi m8 0 10 fun v9 =>
  if v9 = 0 then
  some (0, m8)
  else
  some (1, m8)
  else
  some (0, m4)) fun K20 =>
  if v1 = 0 then
  K20 1
  else
  kc1 (fX6_badLook N a1 a2 m) fun v12 =>
  K20 v12
theorem FX6_probe_82 {g : zG} (hM : isM g) : zFl wsX6_probe RX6 (zcl g) 82 5 8 := ⟨RX6, TX6, 15, hM.2.2 ▸ rfl, by decide +kernel, by decide, by decide +kernel⟩
theorem FX6_probe_85 {g : zG} (hM : isM g) : zFl wsX6_probe RX6 (zcl g) 85 5 9 := ⟨RX6, TX6, 15, hM.2.2 ▸ rfl, by decide +kernel, by decide, by decide +kernel⟩
theorem FX6_probe_101 {g : zG} (hM : isM g) : zFl wsX6_probe RX6 (zcl g) 101 5 10 := ⟨RX6, TX6, 15, hM.2.2 ▸ rfl, by decide +kernel, by decide, by decide +kernel⟩
theorem hdX6_probe : yX6_probe.cls = RX6 ∧ yX6_probe.cls ≠ "java/lang/invoke/MethodHandle" ∧ yX6_probe.cls ≠ "java/lang/invoke/VarHandle" ∧ (parseMethodDescriptor yX6_probe.desc).map (fun d => d.parameters.length) = some 3 := by decide +kernel
set_option maxHeartbeats 4000000 in
set_option maxRecDepth 100000 in
theorem qX6_probe {l : Launch} {g : zG} (hM : isM g)  (N : Nat) (a1 : Int32) (a2 : Int32) (a3 : Int32) (m : zMem)  (o : Int32 × zMem) (hf : fX6_probe N a1 a2 a3 m = some o) : zMI l g yX6_probe wsX6_probe { frames := 6, cells := 0, slots := 0, locals := 144 } [.ref (zad g 0), .int a1, .int a2, .int a3] m o := by
  refine z_met_i (cc := cX6_probe) (maxL := 5) (lo0 := [some (.ref (zad g 0)), some (.int a1), some (.int a2), some (.int a3), none]) (by decide +kernel) rfl rfl (Nat.le_of_ble_eq_true rfl) (fun x hx C hr => ?_)
  unfold fX6_probe at hf
  refine z_aload_n (i := 0) C dX6_probe_0 rfl rfl rfl ?_
  refine z_iload_n (i := 3) C dX6_probe_1 rfl rfl rfl ?_
  refine z_iconst C dX6_probe_2 zi_0 rfl ?_
  refine z_iconst C dX6_probe_3 zi_3 rfl ?_
  refine z_csiR (As := [.int a3, .int 0, .int 3]) (st := [.ref (zad g 0)]) (m := m) C gX6_probe_X6_in hdX6_in rfl (fun z h => qX6_in a3 0 3 m z h) rfl (Nat.le_of_ble_eq_true rfl) ⟨Nat.le_of_ble_eq_true rfl, Nat.le_of_ble_eq_true rfl⟩ ⟨Nat.le_refl _, Nat.le_refl _⟩ dX6_probe_4 rfl rfl hf (fun v1 hf => ?_)
  refine kjn_V (fun K20 => ∀ (w2 : Int32), K20 w2 = some o → zV x g 5 0 0 20 [some (.ref (zad g 0)), some (.int a1), some (.int a2), some (.int a3), none] [.int w2, .ref (zad g 0)] m) hf (fun w2 hf => ?_) (fun K20 hK20 hf => ?_)
  · skip
    refine z_cviW (As := [.int w2]) (st := []) (m := m) C (cl_5 hM) (mn_0 hM) (mc_0 hM) gX6_probe_X6_refused hdX6_refused rfl (fun z h => qX6_refused hM w2 m z h) rfl (Nat.le_of_ble_eq_true rfl) ⟨Nat.le_of_ble_eq_true rfl, Nat.le_of_ble_eq_true rfl⟩ ⟨Nat.le_refl _, Nat.le_refl _⟩ dX6_probe_20 rfl rfl hf (fun v3 m4 hf => ?_)
    refine z_if_eq (tgt := 28) C dX6_probe_23 (by decide) rfl hf (fun hf => ?_) (fun hf => ?_)
    · skip
      refine z_aload_n (i := 0) C dX6_probe_28 rfl rfl rfl ?_
      refine z_cvvW (As := []) (st := []) (m := m4) C (cl_5 hM) (mn_0 hM) (mc_0 hM) gX6_probe_X6_keeps hdX6_keeps rfl (fun z h => qX6_keeps hM N m4 z h) rfl (Nat.le_of_ble_eq_true rfl) ⟨Nat.le_of_ble_eq_true rfl, Nat.le_of_ble_eq_true rfl⟩ ⟨Nat.le_refl _, Nat.le_refl _⟩ dX6_probe_29 rfl rfl hf (fun m5 hf => ?_)
      refine z_aload_n (i := 0) C dX6_probe_32 rfl rfl rfl ?_
      refine z_iload_n (i := 1) C dX6_probe_33 rfl rfl rfl ?_
      refine z_iload_n (i := 2) C dX6_probe_34 rfl rfl rfl ?_
      refine z_cviW (As := [.int a1, .int a2]) (st := []) (m := m5) C (cl_5 hM) (mn_0 hM) (mc_0 hM) gX6_probe_X6_looks hdX6_looks rfl (fun z h => qX6_looks hM N a1 a2 m5 z h) rfl (Nat.le_of_ble_eq_true rfl) ⟨Nat.le_of_ble_eq_true rfl, Nat.le_of_ble_eq_true rfl⟩ ⟨Nat.le_refl _, Nat.le_refl _⟩ dX6_probe_35 rfl rfl hf (fun v6 m7 hf => ?_)
      refine z_istore (lo' := [some (.ref (zad g 0)), some (.int a1), some (.int a2), some (.int a3), some (.int v6)]) C dX6_probe_38 (Nat.le_of_ble_eq_true rfl) rfl rfl rfl ?_
      refine z_aload_n (i := 0) C dX6_probe_40 rfl rfl rfl ?_
      refine z_cvvW (As := []) (st := []) (m := m7) C (cl_5 hM) (mn_0 hM) (mc_0 hM) gX6_probe_X6_takesBack hdX6_takesBack rfl (fun z h => qX6_takesBack hM N m7 z h) rfl (Nat.le_of_ble_eq_true rfl) ⟨Nat.le_of_ble_eq_true rfl, Nat.le_of_ble_eq_true rfl⟩ ⟨Nat.le_refl _, Nat.le_refl _⟩ dX6_probe_41 rfl rfl hf (fun m8 hf => ?_)
      refine z_iload_n (i := 3) C dX6_probe_44 rfl rfl rfl ?_
      refine z_if_ne (tgt := 53) C dX6_probe_45 (by decide) rfl hf (fun hf => ?_) (fun hf => ?_)
      · skip
        refine z_iload_n (i := 3) C dX6_probe_53 rfl rfl rfl ?_
        refine z_iconst C dX6_probe_54 zi_1 rfl ?_
        refine z_ic_ne (tgt := 65) C dX6_probe_55 (by decide) rfl hf (fun hf => ?_) (fun hf => ?_)
        · skip
          refine z_iload_n (i := 3) C dX6_probe_65 rfl rfl rfl ?_
          refine z_iconst C dX6_probe_66 zi_2 rfl ?_
          refine z_ic_ne (tgt := 77) C dX6_probe_67 (by decide) rfl hf (fun hf => ?_) (fun hf => ?_)
          · skip
            refine z_aload_n (i := 0) C dX6_probe_77 rfl rfl rfl ?_
            refine z_gi C (FX6_probe_101 hM) (mn_0 hM) (mc_0 hM) rfl dX6_probe_78 rfl hf (fun v9 hf => ?_)
            refine z_if_eq (tgt := 88) C dX6_probe_81 (by decide) rfl hf (fun hf => ?_) (fun hf => ?_)
            · skip
              refine z_iconst C dX6_probe_88 zi_0 rfl ?_
              exact hr _ _ _ _ (Option.some.inj hf) dX6_probe_89
            · skip
              refine z_iconst C dX6_probe_84 zi_1 rfl ?_
              refine z_goto (pc' := 89) C dX6_probe_85 (by decide) ?_
              exact hr _ _ _ _ (Option.some.inj hf) dX6_probe_89
          · skip
            refine z_aload_n (i := 0) C dX6_probe_70 rfl rfl rfl ?_
            refine z_gi C (FX6_probe_85 hM) (mn_0 hM) (mc_0 hM) rfl dX6_probe_71 rfl hf (fun v10 hf => ?_)
            refine z_goto (pc' := 89) C dX6_probe_74 (by decide) ?_
            exact hr _ _ _ _ (Option.some.inj hf) dX6_probe_89
        · skip
          refine z_aload_n (i := 0) C dX6_probe_58 rfl rfl rfl ?_
          refine z_gi C (FX6_probe_82 hM) (mn_0 hM) (mc_0 hM) rfl dX6_probe_59 rfl hf (fun v11 hf => ?_)
          refine z_goto (pc' := 89) C dX6_probe_62 (by decide) ?_
          exact hr _ _ _ _ (Option.some.inj hf) dX6_probe_89
      · skip
        refine z_iload C dX6_probe_48 rfl rfl ?_
        refine z_goto (pc' := 89) C dX6_probe_50 (by decide) ?_
        exact hr _ _ _ _ (Option.some.inj hf) dX6_probe_89
    · skip
      refine z_iconst C dX6_probe_26 zi_0 rfl ?_
      exact hr _ _ _ _ (Option.some.inj hf) dX6_probe_27
  · skip
    refine z_if_eq (tgt := 19) C dX6_probe_7 (by decide) rfl hf (fun hf => ?_) (fun hf => ?_)
    · skip
      refine z_iconst C dX6_probe_19 zi_1 rfl ?_
      exact hK20 _ hf
    · skip
      refine z_aload_n (i := 0) C dX6_probe_10 rfl rfl rfl ?_
      refine z_iload_n (i := 1) C dX6_probe_11 rfl rfl rfl ?_
      refine z_iload_n (i := 2) C dX6_probe_12 rfl rfl rfl ?_
      refine z_cviR (As := [.int a1, .int a2]) (st := [.ref (zad g 0)]) (m := m) C (cl_5 hM) (mn_0 hM) (mc_0 hM) gX6_probe_X6_badLook hdX6_badLook rfl (fun z h => qX6_badLook hM N a1 a2 m z h) rfl (Nat.le_of_ble_eq_true rfl) ⟨Nat.le_of_ble_eq_true rfl, Nat.le_of_ble_eq_true rfl⟩ ⟨Nat.le_refl _, Nat.le_refl _⟩ dX6_probe_13 rfl rfl hf (fun v12 hf => ?_)
      refine z_goto (pc' := 20) C dX6_probe_16 (by decide) ?_
      exact hK20 _ hf
