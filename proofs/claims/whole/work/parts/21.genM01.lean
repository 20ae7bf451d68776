def sX6_inBucket_6 (a1 : Int32) (a2 : Int32) (a3 : Int32) (m : zMem) (K57 : Int32 → Option (Int32)) : (Int32 × Int32 → Option (Int32)) → Int32 × Int32 → Option (Int32) := fun rec (x2, x3) =>
  kld m 1 1816 ((a1 + 3) + a2) fun v4 =>
  if v4 ≤ x3 then
  K57 x2
  else
  kld m 1 1816 (((a1 + 43) + (4 * a2)) + x3) fun v5 =>
  if v5 = a3 then
  klt (x2 + 1 : Int32) fun v7 =>
  rec (v7, x3 + 1)
  else
  klt (x2 + 0 : Int32) fun v6 =>
  rec (v6, x3 + 1)
def fX6_inBucket (N : Nat) (a1 : Int32) (a2 : Int32) (a3 : Int32) (m : zMem) : Option (Int32) :=
  kjn (fun (w1 : Int32) =>
  some w1) fun K57 =>
  klp (sX6_inBucket_6 a1 a2 a3 m K57) N (0, 0)
theorem FX6_inBucket_7 {g : zG} (hM : isM g) : zFl wsX6_inBucket RX6 (zcl g) 7 5 0 := ⟨RX6, TX6, 15, hM.2.2 ▸ rfl, by decide +kernel, by decide, by decide +kernel⟩
theorem hdX6_inBucket : yX6_inBucket.cls = RX6 ∧ yX6_inBucket.cls ≠ "java/lang/invoke/MethodHandle" ∧ yX6_inBucket.cls ≠ "java/lang/invoke/VarHandle" ∧ (parseMethodDescriptor yX6_inBucket.desc).map (fun d => d.parameters.length) = some 3 := by decide +kernel
set_option maxHeartbeats 4000000 in
set_option maxRecDepth 100000 in
theorem qX6_inBucket {l : Launch} {g : zG} (hM : isM g)  (N : Nat) (a1 : Int32) (a2 : Int32) (a3 : Int32) (m : zMem)  (o : Int32) (hf : fX6_inBucket N a1 a2 a3 m = some o) : zMI l g yX6_inBucket wsX6_inBucket { frames := 0, cells := 0, slots := 0, locals := 0 } [.ref (zad g 0), .int a1, .int a2, .int a3] m (o, m) := by
  refine z_met_i (cc := cX6_inBucket) (maxL := 6) (lo0 := [some (.ref (zad g 0)), some (.int a1), some (.int a2), some (.int a3), none, none]) (by decide +kernel) rfl rfl (Nat.le_of_ble_eq_true rfl) (fun x hx C hr => ?_)
  unfold fX6_inBucket at hf
  refine z_iconst C dX6_inBucket_0 zi_0 rfl ?_
  refine z_istore (lo' := [some (.ref (zad g 0)), some (.int a1), some (.int a2), some (.int a3), some (.int 0), none]) C dX6_inBucket_1 (Nat.le_of_ble_eq_true rfl) rfl rfl rfl ?_
  refine z_iconst C dX6_inBucket_3 zi_0 rfl ?_
  refine z_istore (lo' := [some (.ref (zad g 0)), some (.int a1), some (.int a2), some (.int a3), some (.int 0), some (.int 0)]) C dX6_inBucket_4 (Nat.le_of_ble_eq_true rfl) rfl rfl rfl ?_
  refine kjn_V (fun K57 => ∀ (w1 : Int32), K57 w1 = some o → zV x g 6 0 0 57 [none, none, none, none, some (.int w1), none] [] m) hf (fun w1 hf => ?_) (fun K57 hK57 hf => ?_)
  · skip
    refine z_iload C dX6_inBucket_57 rfl rfl ?_
    exact hr _ _ _ _ (congrArg (fun z => (z, m)) (Option.some.inj hf)) dX6_inBucket_59
  · skip
    refine klp_V (fun z => zV x g 6 0 0 6 [some (.ref (zad g 0)), some (.int a1), some (.int a2), some (.int a3), some (.int z.1), some (.int z.2)] [] m) hf (fun rec z ih hf => ?_)
    obtain ⟨x2, x3⟩ := z
    unfold sX6_inBucket_6 at hf
    try dsimp only at hf
    try dsimp only
    refine z_iload C dX6_inBucket_6 rfl rfl ?_
    refine z_aload_n (i := 0) C dX6_inBucket_8 rfl rfl rfl ?_
    refine z_gr C (FX6_inBucket_7 hM) (mn_0 hM) (mc_0 hM) rfl dX6_inBucket_9 rfl ?_
    refine z_iload_n (i := 1) C dX6_inBucket_12 rfl rfl rfl ?_
    refine z_iconst C dX6_inBucket_13 zi_3 rfl ?_
    refine z_iadd C dX6_inBucket_14 rfl ?_
    refine z_iload_n (i := 2) C dX6_inBucket_15 rfl rfl rfl ?_
    refine z_iadd C dX6_inBucket_16 rfl ?_
    refine z_iaload C (mn_1 hM) (mc_1 hM) dX6_inBucket_17 rfl hf (fun v4 hf => ?_)
    refine z_ic_ge (tgt := 57) C dX6_inBucket_18 (by decide) rfl hf (fun hf => ?_) (fun hf => ?_)
    · skip
      refine z_drop (lo' := [none, some (.int a1), some (.int a2), some (.int a3), some (.int x2), some (.int x3)]) 0 rfl ?_
      refine z_drop (lo' := [none, none, some (.int a2), some (.int a3), some (.int x2), some (.int x3)]) 1 rfl ?_
      refine z_drop (lo' := [none, none, none, some (.int a3), some (.int x2), some (.int x3)]) 2 rfl ?_
      refine z_drop (lo' := [none, none, none, none, some (.int x2), some (.int x3)]) 3 rfl ?_
      refine z_drop (lo' := [none, none, none, none, some (.int x2), none]) 5 rfl ?_
      exact hK57 _ hf
    · skip
      refine z_iload C dX6_inBucket_21 rfl rfl ?_
      refine z_aload_n (i := 0) C dX6_inBucket_23 rfl rfl rfl ?_
      refine z_gr C (FX6_inBucket_7 hM) (mn_0 hM) (mc_0 hM) rfl dX6_inBucket_24 rfl ?_
      refine z_iload_n (i := 1) C dX6_inBucket_27 rfl rfl rfl ?_
      refine z_bipush C dX6_inBucket_28 zb_43 rfl ?_
      refine z_iadd C dX6_inBucket_30 rfl ?_
      refine z_iconst C dX6_inBucket_31 zi_4 rfl ?_
      refine z_iload_n (i := 2) C dX6_inBucket_32 rfl rfl rfl ?_
      refine z_imul C dX6_inBucket_33 rfl ?_
      refine z_iadd C dX6_inBucket_34 rfl ?_
      refine z_iload C dX6_inBucket_35 rfl rfl ?_
      refine z_iadd C dX6_inBucket_37 rfl ?_
      refine z_iaload C (mn_1 hM) (mc_1 hM) dX6_inBucket_38 rfl hf (fun v5 hf => ?_)
      refine z_iload_n (i := 3) C dX6_inBucket_39 rfl rfl rfl ?_
      refine z_ic_ne (tgt := 47) C dX6_inBucket_40 (by decide) rfl hf (fun hf => ?_) (fun hf => ?_)
      · skip
        refine z_iconst C dX6_inBucket_47 zi_0 rfl ?_
        refine z_iadd C dX6_inBucket_48 rfl ?_
        refine z_top _ hf (fun v6 hf => ?_)
        refine z_istore (lo' := [some (.ref (zad g 0)), some (.int a1), some (.int a2), some (.int a3), some (.int v6), some (.int x3)]) C dX6_inBucket_49 (Nat.le_of_ble_eq_true rfl) rfl rfl rfl ?_
        refine z_iinc (v := x3 + 1) (lo' := [some (.ref (zad g 0)), some (.int a1), some (.int a2), some (.int a3), some (.int v6), some (.int (x3 + 1))]) C dX6_inBucket_51 rfl (zinc zi_1) (Nat.le_of_ble_eq_true rfl) rfl rfl rfl ?_
        refine z_goto (pc' := 6) C dX6_inBucket_54 (by decide) ?_
        exact ih (v6, x3 + 1) hf
      · skip
        refine z_iconst C dX6_inBucket_43 zi_1 rfl ?_
        refine z_goto (pc' := 48) C dX6_inBucket_44 (by decide) ?_
        refine z_iadd C dX6_inBucket_48 rfl ?_
        refine z_top _ hf (fun v7 hf => ?_)
        refine z_istore (lo' := [some (.ref (zad g 0)), some (.int a1), some (.int a2), some (.int a3), some (.int v7), some (.int x3)]) C dX6_inBucket_49 (Nat.le_of_ble_eq_true rfl) rfl rfl rfl ?_
        refine z_iinc (v := x3 + 1) (lo' := [some (.ref (zad g 0)), some (.int a1), some (.int a2), some (.int a3), some (.int v7), some (.int (x3 + 1))]) C dX6_inBucket_51 rfl (zinc zi_1) (Nat.le_of_ble_eq_true rfl) rfl rfl rfl ?_
        refine z_goto (pc' := 6) C dX6_inBucket_54 (by decide) ?_
        exact ih (v7, x3 + 1) hf

def sX6_inTable_5 (N : Nat) (a1 : Int32) (a2 : Int32) (m : zMem) (K29 : Int32 → Option (Int32)) : (Int32 × Int32 → Option (Int32)) → Int32 × Int32 → Option (Int32) := fun rec (x2, x3) =>
  if 8 ≤ x3 then
  K29 x2
  else
  kc1 (fX6_inBucket N a1 x3 a2 m) fun v4 =>
  klt (x2 + v4 : Int32) fun v5 =>
  rec (v5, x3 + 1)
def fX6_inTable (N : Nat) (a1 : Int32) (a2 : Int32) (m : zMem) : Option (Int32) :=
  kjn (fun (w1 : Int32) =>
  some w1) fun K29 =>
  klp (sX6_inTable_5 N a1 a2 m K29) N (0, 0)
theorem hdX6_inTable : yX6_inTable.cls = RX6 ∧ yX6_inTable.cls ≠ "java/lang/invoke/MethodHandle" ∧ yX6_inTable.cls ≠ "java/lang/invoke/VarHandle" ∧ (parseMethodDescriptor yX6_inTable.desc).map (fun d => d.parameters.length) = some 2 := by decide +kernel
set_option maxHeartbeats 4000000 in
set_option maxRecDepth 100000 in
theorem qX6_inTable {l : Launch} {g : zG} (hM : isM g)  (N : Nat) (a1 : Int32) (a2 : Int32) (m : zMem)  (o : Int32) (hf : fX6_inTable N a1 a2 m = some o) : zMI l g yX6_inTable wsX6_inTable { frames := 1, cells := 0, slots := 0, locals := 25 } [.ref (zad g 0), .int a1, .int a2] m (o, m) := by
  refine z_met_i (cc := cX6_inTable) (maxL := 5) (lo0 := [some (.ref (zad g 0)), some (.int a1), some (.int a2), none, none]) (by decide +kernel) rfl rfl (Nat.le_of_ble_eq_true rfl) (fun x hx C hr => ?_)
  unfold fX6_inTable at hf
  refine z_iconst C dX6_inTable_0 zi_0 rfl ?_
  refine z_istore_n (i := 3) (lo' := [some (.ref (zad g 0)), some (.int a1), some (.int a2), some (.int 0), none]) C dX6_inTable_1 rfl (Nat.le_of_ble_eq_true rfl) rfl rfl rfl ?_
  refine z_iconst C dX6_inTable_2 zi_0 rfl ?_
  refine z_istore (lo' := [some (.ref (zad g 0)), some (.int a1), some (.int a2), some (.int 0), some (.int 0)]) C dX6_inTable_3 (Nat.le_of_ble_eq_true rfl) rfl rfl rfl ?_
  refine kjn_V (fun K29 => ∀ (w1 : Int32), K29 w1 = some o → zV x g 5 0 0 29 [none, none, none, some (.int w1), none] [] m) hf (fun w1 hf => ?_) (fun K29 hK29 hf => ?_)
  · skip
    refine z_iload_n (i := 3) C dX6_inTable_29 rfl rfl rfl ?_
    exact hr _ _ _ _ (congrArg (fun z => (z, m)) (Option.some.inj hf)) dX6_inTable_30
  · skip
    refine klp_V (fun z => zV x g 5 0 0 5 [some (.ref (zad g 0)), some (.int a1), some (.int a2), some (.int z.1), some (.int z.2)] [] m) hf (fun rec z ih hf => ?_)
    obtain ⟨x2, x3⟩ := z
    unfold sX6_inTable_5 at hf
    try dsimp only at hf
    try dsimp only
    refine z_iload C dX6_inTable_5 rfl rfl ?_
    refine z_bipush C dX6_inTable_7 zb_8 rfl ?_
    refine z_ic_ge (tgt := 29) C dX6_inTable_9 (by decide) rfl hf (fun hf => ?_) (fun hf => ?_)
    · skip
      refine z_drop (lo' := [none, some (.int a1), some (.int a2), some (.int x2), some (.int x3)]) 0 rfl ?_
      refine z_drop (lo' := [none, none, some (.int a2), some (.int x2), some (.int x3)]) 1 rfl ?_
      refine z_drop (lo' := [none, none, none, some (.int x2), some (.int x3)]) 2 rfl ?_
      refine z_drop (lo' := [none, none, none, some (.int x2), none]) 4 rfl ?_
      exact hK29 _ hf
    · skip
      refine z_iload_n (i := 3) C dX6_inTable_12 rfl rfl rfl ?_
      refine z_aload_n (i := 0) C dX6_inTable_13 rfl rfl rfl ?_
      refine z_iload_n (i := 1) C dX6_inTable_14 rfl rfl rfl ?_
      refine z_iload C dX6_inTable_15 rfl rfl ?_
      refine z_iload_n (i := 2) C dX6_inTable_17 rfl rfl rfl ?_
      refine z_cviR (As := [.int a1, .int x3, .int a2]) (st := [.int x2]) (m := m) C (cl_5 hM) (mn_0 hM) (mc_0 hM) gX6_inTable_X6_inBucket hdX6_inBucket rfl (fun z h => qX6_inBucket hM N a1 x3 a2 m z h) rfl (Nat.le_of_ble_eq_true rfl) ⟨Nat.le_of_ble_eq_true rfl, Nat.le_of_ble_eq_true rfl⟩ ⟨Nat.le_refl _, Nat.le_refl _⟩ dX6_inTable_18 rfl rfl hf (fun v4 hf => ?_)
      refine z_iadd C dX6_inTable_21 rfl ?_
      refine z_top _ hf (fun v5 hf => ?_)
      refine z_istore_n (i := 3) (lo' := [some (.ref (zad g 0)), some (.int a1), some (.int a2), some (.int v5), some (.int x3)]) C dX6_inTable_22 rfl (Nat.le_of_ble_eq_true rfl) rfl rfl rfl ?_
      refine z_iinc (v := x3 + 1) (lo' := [some (.ref (zad g 0)), some (.int a1), some (.int a2), some (.int v5), some (.int (x3 + 1))]) C dX6_inTable_23 rfl (zinc zi_1) (Nat.le_of_ble_eq_true rfl) rfl rfl rfl ?_
      refine z_goto (pc' := 5) C dX6_inTable_26 (by decide) ?_
      exact ih (v5, x3 + 1) hf

def sX6_entries_4 (a1 : Int32) (m : zMem) (K29 : Int32 → Option (Int32)) : (Int32 × Int32 → Option (Int32)) → Int32 × Int32 → Option (Int32) := fun rec (x2, x3) =>
  if 8 ≤ x3 then
  K29 x2
  else
  kld m 1 1816 ((a1 + 3) + x3) fun v4 =>
  klt (x2 + v4 : Int32) fun v5 =>
  rec (v5, x3 + 1)
def fX6_entries (N : Nat) (a1 : Int32) (m : zMem) : Option (Int32) :=
  kjn (fun (w1 : Int32) =>
  some w1) fun K29 =>
  klp (sX6_entries_4 a1 m K29) N (0, 0)
theorem FX6_entries_7 {g : zG} (hM : isM g) : zFl wsX6_entries RX6 (zcl g) 7 5 0 := ⟨RX6, TX6, 15, hM.2.2 ▸ rfl, by decide +kernel, by decide, by decide +kernel⟩
theorem hdX6_entries : yX6_entries.cls = RX6 ∧ yX6_entries.cls ≠ "java/lang/invoke/MethodHandle" ∧ yX6_entries.cls ≠ "java/lang/invoke/VarHandle" ∧ (parseMethodDescriptor yX6_entries.desc).map (fun d => d.parameters.length) = some 1 := by decide +kernel
set_option maxHeartbeats 4000000 in
set_option maxRecDepth 100000 in
theorem qX6_entries {l : Launch} {g : zG} (hM : isM g)  (N : Nat) (a1 : Int32) (m : zMem)  (o : Int32) (hf : fX6_entries N a1 m = some o) : zMI l g yX6_entries wsX6_entries { frames := 0, cells := 0, slots := 0, locals := 0 } [.ref (zad g 0), .int a1] m (o, m) := by
  refine z_met_i (cc := cX6_entries) (maxL := 4) (lo0 := [some (.ref (zad g 0)), some (.int a1), none, none]) (by decide +kernel) rfl rfl (Nat.le_of_ble_eq_true rfl) (fun x hx C hr => ?_)
  unfold fX6_entries at hf
  refine z_iconst C dX6_entries_0 zi_0 rfl ?_
  refine z_istore_n (i := 2) (lo' := [some (.ref (zad g 0)), some (.int a1), some (.int 0), none]) C dX6_entries_1 rfl (Nat.le_of_ble_eq_true rfl) rfl rfl rfl ?_
  refine z_iconst C dX6_entries_2 zi_0 rfl ?_
  refine z_istore_n (i := 3) (lo' := [some (.ref (zad g 0)), some (.int a1), some (.int 0), some (.int 0)]) C dX6_entries_3 rfl (Nat.le_of_ble_eq_true rfl) rfl rfl rfl ?_
  refine kjn_V (fun K29 => ∀ (w1 : Int32), K29 w1 = some o → zV x g 4 0 0 29 [none, none, some (.int w1), none] [] m) hf (fun w1 hf => ?_) (fun K29 hK29 hf => ?_)
  · skip
    refine z_iload_n (i := 2) C dX6_entries_29 rfl rfl rfl ?_
    exact hr _ _ _ _ (congrArg (fun z => (z, m)) (Option.some.inj hf)) dX6_entries_30
  · skip
    refine klp_V (fun z => zV x g 4 0 0 4 [some (.ref (zad g 0)), some (.int a1), some (.int z.1), some (.int z.2)] [] m) hf (fun rec z ih hf => ?_)
    obtain ⟨x2, x3⟩ := z
    unfold sX6_entries_4 at hf
    try dsimp only at hf
    try dsimp only
    refine z_iload_n (i := 3) C dX6_entries_4 rfl rfl rfl ?_
    refine z_bipush C dX6_entries_5 zb_8 rfl ?_
    refine z_ic_ge (tgt := 29) C dX6_entries_7 (by decide) rfl hf (fun hf => ?_) (fun hf => ?_)
    · skip
      refine z_drop (lo' := [none, some (.int a1), some (.int x2), some (.int x3)]) 0 rfl ?_
      refine z_drop (lo' := [none, none, some (.int x2), some (.int x3)]) 1 rfl ?_
      refine z_drop (lo' := [none, none, some (.int x2), none]) 3 rfl ?_
      exact hK29 _ hf
    · skip
      refine z_iload_n (i := 2) C dX6_entries_10 rfl rfl rfl ?_
      refine z_aload_n (i := 0) C dX6_entries_11 rfl rfl rfl ?_
      refine z_gr C (FX6_entries_7 hM) (mn_0 hM) (mc_0 hM) rfl dX6_entries_12 rfl ?_
      refine z_iload_n (i := 1) C dX6_entries_15 rfl rfl rfl ?_
      refine z_iconst C dX6_entries_16 zi_3 rfl ?_
      refine z_iadd C dX6_entries_17 rfl ?_
      refine z_iload_n (i := 3) C dX6_entries_18 rfl rfl rfl ?_
      refine z_iadd C dX6_entries_19 rfl ?_
      refine z_iaload C (mn_1 hM) (mc_1 hM) dX6_entries_20 rfl hf (fun v4 hf => ?_)
      refine z_iadd C dX6_entries_21 rfl ?_
      refine z_top _ hf (fun v5 hf => ?_)
      refine z_istore_n (i := 2) (lo' := [some (.ref (zad g 0)), some (.int a1), some (.int v5), some (.int x3)]) C dX6_entries_22 rfl (Nat.le_of_ble_eq_true rfl) rfl rfl rfl ?_
      refine z_iinc (v := x3 + 1) (lo' := [some (.ref (zad g 0)), some (.int a1), some (.int v5), some (.int (x3 + 1))]) C dX6_entries_23 rfl (zinc zi_1) (Nat.le_of_ble_eq_true rfl) rfl rfl rfl ?_
      refine z_goto (pc' := 4) C dX6_entries_26 (by decide) ?_
      exact ih (v5, x3 + 1) hf

def fX6_learns (N : Nat) (a1 : Int32) (a2 : Int32) (m : zMem) : Option (zMem) :=
  kc1 (fX6_placeOf N a1 m) fun v1 =>
  kc1 (fX6_bucketOf N a1 a2) fun v2 =>
  kc1 (fX6_placeOf N a2 m) fun v3 =>
  kld m 1 1816 (v3 + 1) fun v4 =>
  kc1 (fX6_placeIn N v1 v2 a2 m) fun v5 =>
  if v5 = (-1) then
  kld m 1 1816 ((v1 + 3) + v2) fun v6 =>
  kjn (fun (w7 : Int32) =>
  kld m 1 1816 ((v1 + 11) + (4 * v2)) fun v8 =>
  kc1 (fX6_inBucket N v1 v2 v4 m) fun v9 =>
  kld m 1 1816 3 fun v10 =>
  kjn (fun (w11 : Int32) =>
  kjn (fun (m12 : zMem) =>
  kjn (fun (m13 : zMem) =>
  if w11 = (-1) then
  kc1 (fX6_adds v1 v2 a2 v4 m13) fun m14 =>
  some m14
  else
  some m13) fun K241 =>
  if w7 = 0 then
  K241 m12
  else
  if w11 = 0 then
  K241 m12
  else
  if w11 = 1 then
  K241 m12
  else
  kld m12 1 1816 ((v1 + 43) + (4 * v2)) fun v15 =>
  kc1 (fX6_drops N v1 v2 0 m12) fun m16 =>
  if w11 = 2 then
  kc1 (fX6_adds v1 v2 v8 v15 m16) fun m17 =>
  K241 m17
  else
  K241 m16) fun K184 =>
  if w11 = (-1) then
  K184 m
  else
  kld m 1 1816 (12 + w11) fun v18 =>
  kst m 1 1816 (12 + w11) (v18 + 1) fun m19 =>
  K184 m19) fun K162 =>
  if v9 < v10 then
  kc1 (fX6_inTable N v1 v4 m) fun v20 =>
  kld m 1 1816 4 fun v21 =>
  if v20 < v21 then
  if w7 = 0 then
  K162 (-1)
  else
  kc1 (fX6_isMember N v8 m) fun v22 =>
  if v22 = 0 then
  K162 (-1)
  else
  K162 2
  else
  K162 1
  else
  K162 0) fun K83 =>
  if v6 = 4 then
  K83 1
  else
  K83 0
  else
  kc1 (fX6_drops N v1 v2 v5 m) fun m23 =>
  kc1 (fX6_adds v1 v2 a2 v4 m23) fun m24 =>
  some m24
theorem FX6_learns_7 {g : zG} (hM : isM g) : zFl wsX6_learns RX6 (zcl g) 7 5 0 := ⟨RX6, TX6, 15, hM.2.2 ▸ rfl, by decide +kernel, by decide, by decide +kernel⟩
theorem hdX6_learns : yX6_learns.cls = RX6 ∧ yX6_learns.cls ≠ "java/lang/invoke/MethodHandle" ∧ yX6_learns.cls ≠ "java/lang/invoke/VarHandle" ∧ (parseMethodDescriptor yX6_learns.desc).map (fun d => d.parameters.length) = some 2 := by decide +kernel
set_option maxHeartbeats 4000000 in
set_option maxRecDepth 100000 in
theorem qX6_learns {l : Launch} {g : zG} (hM : isM g)  (N : Nat) (a1 : Int32) (a2 : Int32) (m : zMem)  (o : zMem) (hf : fX6_learns N a1 a2 m = some o) : zMV l g yX6_learns wsX6_learns { frames := 3, cells := 0, slots := 0, locals := 63 } [.ref (zad g 0), .int a1, .int a2] m o := by
  refine z_met_v (cc := cX6_learns) (maxL := 11) (lo0 := [some (.ref (zad g 0)), some (.int a1), some (.int a2), none, none, none, none, none, none, none, none]) (by decide +kernel) rfl rfl (Nat.le_of_ble_eq_true rfl) (fun x hx C hr => ?_)
  unfold fX6_learns at hf
  refine z_aload_n (i := 0) C dX6_learns_0 rfl rfl rfl ?_
  refine z_iload_n (i := 1) C dX6_learns_1 rfl rfl rfl ?_
  refine z_cviR (As := [.int a1]) (st := []) (m := m) C (cl_5 hM) (mn_0 hM) (mc_0 hM) gX6_learns_X6_placeOf hdX6_placeOf rfl (fun z h => qX6_placeOf hM N a1 m z h) rfl (Nat.le_of_ble_eq_true rfl) ⟨Nat.le_of_ble_eq_true rfl, Nat.le_of_ble_eq_true rfl⟩ ⟨Nat.le_refl _, Nat.le_refl _⟩ dX6_learns_2 rfl rfl hf (fun v1 hf => ?_)
  refine z_istore_n (i := 3) (lo' := [some (.ref (zad g 0)), some (.int a1), some (.int a2), some (.int v1), none, none, none, none, none, none, none]) C dX6_learns_5 rfl (Nat.le_of_ble_eq_true rfl) rfl rfl rfl ?_
  refine z_iload_n (i := 1) C dX6_learns_6 rfl rfl rfl ?_
  refine z_iload_n (i := 2) C dX6_learns_7 rfl rfl rfl ?_
  refine z_csiR (As := [.int a1, .int a2]) (st := []) (m := m) C gX6_learns_X6_bucketOf hdX6_bucketOf rfl (fun z h => qX6_bucketOf N a1 a2 m z h) rfl (Nat.le_of_ble_eq_true rfl) ⟨Nat.le_of_ble_eq_true rfl, Nat.le_of_ble_eq_true rfl⟩ ⟨Nat.le_refl _, Nat.le_refl _⟩ dX6_learns_8 rfl rfl hf (fun v2 hf => ?_)
  refine z_istore (lo' := [some (.ref (zad g 0)), some (.int a1), some (.int a2), some (.int v1), some (.int v2), none, none, none, none, none, none]) C dX6_learns_11 (Nat.le_of_ble_eq_true rfl) rfl rfl rfl ?_
  refine z_aload_n (i := 0) C dX6_learns_13 rfl rfl rfl ?_
  refine z_gr C (FX6_learns_7 hM) (mn_0 hM) (mc_0 hM) rfl dX6_learns_14 rfl ?_
  refine z_aload_n (i := 0) C dX6_learns_17 rfl rfl rfl ?_
  refine z_iload_n (i := 2) C dX6_learns_18 rfl rfl rfl ?_
  refine z_cviR (As := [.int a2]) (st := [.ref (zad g 1)]) (m := m) C (cl_5 hM) (mn_0 hM) (mc_0 hM) gX6_learns_X6_placeOf hdX6_placeOf rfl (fun z h => qX6_placeOf hM N a2 m z h) rfl (Nat.le_of_ble_eq_true rfl) ⟨Nat.le_of_ble_eq_true rfl, Nat.le_of_ble_eq_true rfl⟩ ⟨Nat.le_refl _, Nat.le_refl _⟩ dX6_learns_19 rfl rfl hf (fun v3 hf => ?_)
  refine z_iconst C dX6_learns_22 zi_1 rfl ?_
  refine z_iadd C dX6_learns_23 rfl ?_
  refine z_iaload C (mn_1 hM) (mc_1 hM) dX6_learns_24 rfl hf (fun v4 hf => ?_)
  refine z_istore (lo' := [some (.ref (zad g 0)), some (.int a1), some (.int a2), some (.int v1), some (.int v2), some (.int v4), none, none, none, none, none]) C dX6_learns_25 (Nat.le_of_ble_eq_true rfl) rfl rfl rfl ?_
  refine z_aload_n (i := 0) C dX6_learns_27 rfl rfl rfl ?_
  refine z_iload_n (i := 3) C dX6_learns_28 rfl rfl rfl ?_
  refine z_iload C dX6_learns_29 rfl rfl ?_
  refine z_iload_n (i := 2) C dX6_learns_31 rfl rfl rfl ?_
  refine z_cviR (As := [.int v1, .int v2, .int a2]) (st := []) (m := m) C (cl_5 hM) (mn_0 hM) (mc_0 hM) gX6_learns_X6_placeIn hdX6_placeIn rfl (fun z h => qX6_placeIn hM N v1 v2 a2 m z h) rfl (Nat.le_of_ble_eq_true rfl) ⟨Nat.le_of_ble_eq_true rfl, Nat.le_of_ble_eq_true rfl⟩ ⟨Nat.le_refl _, Nat.le_refl _⟩ dX6_learns_32 rfl rfl hf (fun v5 hf => ?_)
  refine z_istore (lo' := [some (.ref (zad g 0)), some (.int a1), some (.int a2), some (.int v1), some (.int v2), some (.int v4), some (.int v5), none, none, none, none]) C dX6_learns_35 (Nat.le_of_ble_eq_true rfl) rfl rfl rfl ?_
  refine z_iload C dX6_learns_37 rfl rfl ?_
  refine z_iconst C dX6_learns_39 zi_m1 rfl ?_
  refine z_ic_eq (tgt := 63) C dX6_learns_40 (by decide) rfl hf (fun hf => ?_) (fun hf => ?_)
  · skip
    refine z_aload_n (i := 0) C dX6_learns_63 rfl rfl rfl ?_
    refine z_gr C (FX6_learns_7 hM) (mn_0 hM) (mc_0 hM) rfl dX6_learns_64 rfl ?_
    refine z_iload_n (i := 3) C dX6_learns_67 rfl rfl rfl ?_
    refine z_iconst C dX6_learns_68 zi_3 rfl ?_
    refine z_iadd C dX6_learns_69 rfl ?_
    refine z_iload C dX6_learns_70 rfl rfl ?_
    refine z_iadd C dX6_learns_72 rfl ?_
    refine z_iaload C (mn_1 hM) (mc_1 hM) dX6_learns_73 rfl hf (fun v6 hf => ?_)
    refine z_iconst C dX6_learns_74 zi_4 rfl ?_
    refine kjn_V (fun K83 => ∀ (w7 : Int32), K83 w7 = some o → zV x g 11 0 0 83 [some (.ref (zad g 0)), none, some (.int a2), some (.int v1), some (.int v2), some (.int v4), none, none, none, none, none] [.int w7] m) hf (fun w7 hf => ?_) (fun K83 hK83 hf => ?_)
    · skip
      refine z_istore (lo' := [some (.ref (zad g 0)), none, some (.int a2), some (.int v1), some (.int v2), some (.int v4), none, some (.int w7), none, none, none]) C dX6_learns_83 (Nat.le_of_ble_eq_true rfl) rfl rfl rfl ?_
      refine z_aload_n (i := 0) C dX6_learns_85 rfl rfl rfl ?_
      refine z_gr C (FX6_learns_7 hM) (mn_0 hM) (mc_0 hM) rfl dX6_learns_86 rfl ?_
      refine z_iload_n (i := 3) C dX6_learns_89 rfl rfl rfl ?_
      refine z_bipush C dX6_learns_90 zb_11 rfl ?_
      refine z_iadd C dX6_learns_92 rfl ?_
      refine z_iconst C dX6_learns_93 zi_4 rfl ?_
      refine z_iload C dX6_learns_94 rfl rfl ?_
      refine z_imul C dX6_learns_96 rfl ?_
      refine z_iadd C dX6_learns_97 rfl ?_
      refine z_iaload C (mn_1 hM) (mc_1 hM) dX6_learns_98 rfl hf (fun v8 hf => ?_)
      refine z_istore (lo' := [some (.ref (zad g 0)), none, some (.int a2), some (.int v1), some (.int v2), some (.int v4), none, some (.int w7), some (.int v8), none, none]) C dX6_learns_99 (Nat.le_of_ble_eq_true rfl) rfl rfl rfl ?_
      refine z_aload_n (i := 0) C dX6_learns_101 rfl rfl rfl ?_
      refine z_iload_n (i := 3) C dX6_learns_102 rfl rfl rfl ?_
      refine z_iload C dX6_learns_103 rfl rfl ?_
      refine z_iload C dX6_learns_105 rfl rfl ?_
      refine z_cviR (As := [.int v1, .int v2, .int v4]) (st := []) (m := m) C (cl_5 hM) (mn_0 hM) (mc_0 hM) gX6_learns_X6_inBucket hdX6_inBucket rfl (fun z h => qX6_inBucket hM N v1 v2 v4 m z h) rfl (Nat.le_of_ble_eq_true rfl) ⟨Nat.le_of_ble_eq_true rfl, Nat.le_of_ble_eq_true rfl⟩ ⟨Nat.le_refl _, Nat.le_refl _⟩ dX6_learns_107 rfl rfl hf (fun v9 hf => ?_)
      refine z_aload_n (i := 0) C dX6_learns_110 rfl rfl rfl ?_
      refine z_gr C (FX6_learns_7 hM) (mn_0 hM) (mc_0 hM) rfl dX6_learns_111 rfl ?_
      refine z_iconst C dX6_learns_114 zi_3 rfl ?_
      refine z_iaload C (mn_1 hM) (mc_1 hM) dX6_learns_115 rfl hf (fun v10 hf => ?_)
      refine kjn_V (fun K162 => ∀ (w11 : Int32), K162 w11 = some o → zV x g 11 0 0 162 [some (.ref (zad g 0)), none, some (.int a2), some (.int v1), some (.int v2), some (.int v4), none, some (.int w7), some (.int v8), none, none] [.int w11] m) hf (fun w11 hf => ?_) (fun K162 hK162 hf => ?_)
      · skip
        refine z_istore (lo' := [some (.ref (zad g 0)), none, some (.int a2), some (.int v1), some (.int v2), some (.int v4), none, some (.int w7), some (.int v8), some (.int w11), none]) C dX6_learns_162 (Nat.le_of_ble_eq_true rfl) rfl rfl rfl ?_
        refine z_iload C dX6_learns_164 rfl rfl ?_
        refine z_iconst C dX6_learns_166 zi_m1 rfl ?_
        refine kjn_V (fun K184 => ∀ (m12 : zMem), K184 m12 = some o → zV x g 11 0 0 184 [some (.ref (zad g 0)), none, some (.int a2), some (.int v1), some (.int v2), some (.int v4), none, some (.int w7), some (.int v8), some (.int w11), none] [] m12) hf (fun m12 hf => ?_) (fun K184 hK184 hf => ?_)
        · skip
          refine z_iload C dX6_learns_184 rfl rfl ?_
          refine kjn_V (fun K241 => ∀ (m13 : zMem), K241 m13 = some o → zV x g 11 0 0 241 [some (.ref (zad g 0)), none, some (.int a2), some (.int v1), some (.int v2), some (.int v4), none, none, none, some (.int w11), none] [] m13) hf (fun m13 hf => ?_) (fun K241 hK241 hf => ?_)
          · skip
            refine z_iload C dX6_learns_241 rfl rfl ?_
            refine z_iconst C dX6_learns_243 zi_m1 rfl ?_
            refine z_ic_ne (tgt := 257) C dX6_learns_244 (by decide) rfl hf (fun hf => ?_) (fun hf => ?_)
            · skip
              exact hr _ _ _ (Option.some.inj hf) dX6_learns_257
            · skip
              refine z_aload_n (i := 0) C dX6_learns_247 rfl rfl rfl ?_
              refine z_iload_n (i := 3) C dX6_learns_248 rfl rfl rfl ?_
              refine z_iload C dX6_learns_249 rfl rfl ?_
              refine z_iload_n (i := 2) C dX6_learns_251 rfl rfl rfl ?_
              refine z_iload C dX6_learns_252 rfl rfl ?_
              refine z_cvvW (As := [.int v1, .int v2, .int a2, .int v4]) (st := []) (m := m13) C (cl_5 hM) (mn_0 hM) (mc_0 hM) gX6_learns_X6_adds hdX6_adds rfl (fun z h => qX6_adds hM v1 v2 a2 v4 m13 z h) rfl (Nat.le_of_ble_eq_true rfl) ⟨Nat.le_of_ble_eq_true rfl, Nat.le_of_ble_eq_true rfl⟩ ⟨Nat.le_refl _, Nat.le_refl _⟩ dX6_learns_254 rfl rfl hf (fun m14 hf => ?_)
              exact hr _ _ _ (Option.some.inj hf) dX6_learns_257
          · skip
            refine z_if_eq (tgt := 241) C dX6_learns_186 (by decide) rfl hf (fun hf => ?_) (fun hf => ?_)
            · skip
              refine z_drop (lo' := [some (.ref (zad g 0)), none, some (.int a2), some (.int v1), some (.int v2), some (.int v4), none, none, some (.int v8), some (.int w11), none]) 7 rfl ?_
              refine z_drop (lo' := [some (.ref (zad g 0)), none, some (.int a2), some (.int v1), some (.int v2), some (.int v4), none, none, none, some (.int w11), none]) 8 rfl ?_
              exact hK241 _ hf
            · skip
              refine z_iload C dX6_learns_189 rfl rfl ?_
              refine z_if_eq (tgt := 241) C dX6_learns_191 (by decide) rfl hf (fun hf => ?_) (fun hf => ?_)
              · skip
                refine z_drop (lo' := [some (.ref (zad g 0)), none, some (.int a2), some (.int v1), some (.int v2), some (.int v4), none, none, some (.int v8), some (.int w11), none]) 7 rfl ?_
                refine z_drop (lo' := [some (.ref (zad g 0)), none, some (.int a2), some (.int v1), some (.int v2), some (.int v4), none, none, none, some (.int w11), none]) 8 rfl ?_
                exact hK241 _ hf
              · skip
                refine z_iload C dX6_learns_194 rfl rfl ?_
                refine z_iconst C dX6_learns_196 zi_1 rfl ?_
                refine z_ic_eq (tgt := 241) C dX6_learns_197 (by decide) rfl hf (fun hf => ?_) (fun hf => ?_)
                · skip
                  refine z_drop (lo' := [some (.ref (zad g 0)), none, some (.int a2), some (.int v1), some (.int v2), some (.int v4), none, none, some (.int v8), some (.int w11), none]) 7 rfl ?_
                  refine z_drop (lo' := [some (.ref (zad g 0)), none, some (.int a2), some (.int v1), some (.int v2), some (.int v4), none, none, none, some (.int w11), none]) 8 rfl ?_
                  exact hK241 _ hf
                · skip
                  refine z_aload_n (i := 0) C dX6_learns_200 rfl rfl rfl ?_
                  refine z_gr C (FX6_learns_7 hM) (mn_0 hM) (mc_0 hM) rfl dX6_learns_201 rfl ?_
                  refine z_iload_n (i := 3) C dX6_learns_204 rfl rfl rfl ?_
                  refine z_bipush C dX6_learns_205 zb_43 rfl ?_
                  refine z_iadd C dX6_learns_207 rfl ?_
                  refine z_iconst C dX6_learns_208 zi_4 rfl ?_
                  refine z_iload C dX6_learns_209 rfl rfl ?_
                  refine z_imul C dX6_learns_211 rfl ?_
                  refine z_iadd C dX6_learns_212 rfl ?_
                  refine z_iaload C (mn_1 hM) (mc_1 hM) dX6_learns_213 rfl hf (fun v15 hf => ?_)
                  refine z_istore (lo' := [some (.ref (zad g 0)), none, some (.int a2), some (.int v1), some (.int v2), some (.int v4), none, some (.int w7), some (.int v8), some (.int w11), some (.int v15)]) C dX6_learns_214 (Nat.le_of_ble_eq_true rfl) rfl rfl rfl ?_
                  refine z_aload_n (i := 0) C dX6_learns_216 rfl rfl rfl ?_
                  refine z_iload_n (i := 3) C dX6_learns_217 rfl rfl rfl ?_
                  refine z_iload C dX6_learns_218 rfl rfl ?_
                  refine z_iconst C dX6_learns_220 zi_0 rfl ?_
                  refine z_cvvW (As := [.int v1, .int v2, .int 0]) (st := []) (m := m12) C (cl_5 hM) (mn_0 hM) (mc_0 hM) gX6_learns_X6_drops hdX6_drops rfl (fun z h => qX6_drops hM N v1 v2 0 m12 z h) rfl (Nat.le_of_ble_eq_true rfl) ⟨Nat.le_of_ble_eq_true rfl, Nat.le_of_ble_eq_true rfl⟩ ⟨Nat.le_refl _, Nat.le_refl _⟩ dX6_learns_221 rfl rfl hf (fun m16 hf => ?_)
                  refine z_iload C dX6_learns_224 rfl rfl ?_
                  refine z_iconst C dX6_learns_226 zi_2 rfl ?_
                  refine z_ic_ne (tgt := 241) C dX6_learns_227 (by decide) rfl hf (fun hf => ?_) (fun hf => ?_)
                  · skip
                    refine z_drop (lo' := [some (.ref (zad g 0)), none, some (.int a2), some (.int v1), some (.int v2), some (.int v4), none, none, some (.int v8), some (.int w11), some (.int v15)]) 7 rfl ?_
                    refine z_drop (lo' := [some (.ref (zad g 0)), none, some (.int a2), some (.int v1), some (.int v2), some (.int v4), none, none, none, some (.int w11), some (.int v15)]) 8 rfl ?_
                    refine z_drop (lo' := [some (.ref (zad g 0)), none, some (.int a2), some (.int v1), some (.int v2), some (.int v4), none, none, none, some (.int w11), none]) 10 rfl ?_
                    exact hK241 _ hf
                  · skip
                    refine z_aload_n (i := 0) C dX6_learns_230 rfl rfl rfl ?_
                    refine z_iload_n (i := 3) C dX6_learns_231 rfl rfl rfl ?_
                    refine z_iload C dX6_learns_232 rfl rfl ?_
                    refine z_iload C dX6_learns_234 rfl rfl ?_
                    refine z_iload C dX6_learns_236 rfl rfl ?_
                    refine z_cvvW (As := [.int v1, .int v2, .int v8, .int v15]) (st := []) (m := m16) C (cl_5 hM) (mn_0 hM) (mc_0 hM) gX6_learns_X6_adds hdX6_adds rfl (fun z h => qX6_adds hM v1 v2 v8 v15 m16 z h) rfl (Nat.le_of_ble_eq_true rfl) ⟨Nat.le_of_ble_eq_true rfl, Nat.le_of_ble_eq_true rfl⟩ ⟨Nat.le_refl _, Nat.le_refl _⟩ dX6_learns_238 rfl rfl hf (fun m17 hf => ?_)
                    refine z_drop (lo' := [some (.ref (zad g 0)), none, some (.int a2), some (.int v1), some (.int v2), some (.int v4), none, none, some (.int v8), some (.int w11), some (.int v15)]) 7 rfl ?_
                    refine z_drop (lo' := [some (.ref (zad g 0)), none, some (.int a2), some (.int v1), some (.int v2), some (.int v4), none, none, none, some (.int w11), some (.int v15)]) 8 rfl ?_
                    refine z_drop (lo' := [some (.ref (zad g 0)), none, some (.int a2), some (.int v1), some (.int v2), some (.int v4), none, none, none, some (.int w11), none]) 10 rfl ?_
                    exact hK241 _ hf
        · skip
          refine z_ic_eq (tgt := 184) C dX6_learns_167 (by decide) rfl hf (fun hf => ?_) (fun hf => ?_)
          · skip
            exact hK184 _ hf
          · skip
            refine z_aload_n (i := 0) C dX6_learns_170 rfl rfl rfl ?_
            refine z_gr C (FX6_learns_7 hM) (mn_0 hM) (mc_0 hM) rfl dX6_learns_171 rfl ?_
            refine z_bipush C dX6_learns_174 zb_12 rfl ?_
            refine z_iload C dX6_learns_176 rfl rfl ?_
            refine z_iadd C dX6_learns_178 rfl ?_
            refine z_dup2 C dX6_learns_179 rfl rfl rfl ?_
            refine z_iaload C (mn_1 hM) (mc_1 hM) dX6_learns_180 rfl hf (fun v18 hf => ?_)
            refine z_iconst C dX6_learns_181 zi_1 rfl ?_
            refine z_iadd C dX6_learns_182 rfl ?_
            refine z_iastore C (mn_1 hM) (mc_1 hM) dX6_learns_183 rfl hf (fun m19 hf => ?_)
            exact hK184 _ hf
      · skip
        refine z_ic_lt (tgt := 123) C dX6_learns_116 (by decide) rfl hf (fun hf => ?_) (fun hf => ?_)
        · skip
          refine z_aload_n (i := 0) C dX6_learns_123 rfl rfl rfl ?_
          refine z_iload_n (i := 3) C dX6_learns_124 rfl rfl rfl ?_
          refine z_iload C dX6_learns_125 rfl rfl ?_
          refine z_cviR (As := [.int v1, .int v4]) (st := []) (m := m) C (cl_5 hM) (mn_0 hM) (mc_0 hM) gX6_learns_X6_inTable hdX6_inTable rfl (fun z h => qX6_inTable hM N v1 v4 m z h) rfl (Nat.le_of_ble_eq_true rfl) ⟨Nat.le_of_ble_eq_true rfl, Nat.le_of_ble_eq_true rfl⟩ ⟨Nat.le_refl _, Nat.le_refl _⟩ dX6_learns_127 rfl rfl hf (fun v20 hf => ?_)
          refine z_aload_n (i := 0) C dX6_learns_130 rfl rfl rfl ?_
          refine z_gr C (FX6_learns_7 hM) (mn_0 hM) (mc_0 hM) rfl dX6_learns_131 rfl ?_
          refine z_iconst C dX6_learns_134 zi_4 rfl ?_
          refine z_iaload C (mn_1 hM) (mc_1 hM) dX6_learns_135 rfl hf (fun v21 hf => ?_)
          refine z_ic_lt (tgt := 143) C dX6_learns_136 (by decide) rfl hf (fun hf => ?_) (fun hf => ?_)
          · skip
            refine z_iload C dX6_learns_143 rfl rfl ?_
            refine z_if_eq (tgt := 161) C dX6_learns_145 (by decide) rfl hf (fun hf => ?_) (fun hf => ?_)
            · skip
              refine z_iconst C dX6_learns_161 zi_m1 rfl ?_
              exact hK162 _ hf
            · skip
              refine z_aload_n (i := 0) C dX6_learns_148 rfl rfl rfl ?_
              refine z_iload C dX6_learns_149 rfl rfl ?_
              refine z_cviR (As := [.int v8]) (st := []) (m := m) C (cl_5 hM) (mn_0 hM) (mc_0 hM) gX6_learns_X6_isMember hdX6_isMember rfl (fun z h => qX6_isMember hM N v8 m z h) rfl (Nat.le_of_ble_eq_true rfl) ⟨Nat.le_of_ble_eq_true rfl, Nat.le_of_ble_eq_true rfl⟩ ⟨Nat.le_refl _, Nat.le_refl _⟩ dX6_learns_151 rfl rfl hf (fun v22 hf => ?_)
              refine z_if_eq (tgt := 161) C dX6_learns_154 (by decide) rfl hf (fun hf => ?_) (fun hf => ?_)
              · skip
                refine z_iconst C dX6_learns_161 zi_m1 rfl ?_
                exact hK162 _ hf
              · skip
                refine z_iconst C dX6_learns_157 zi_2 rfl ?_
                refine z_goto (pc' := 162) C dX6_learns_158 (by decide) ?_
                exact hK162 _ hf
          · skip
            refine z_iconst C dX6_learns_139 zi_1 rfl ?_
            refine z_goto (pc' := 162) C dX6_learns_140 (by decide) ?_
            exact hK162 _ hf
        · skip
          refine z_iconst C dX6_learns_119 zi_0 rfl ?_
          refine z_goto (pc' := 162) C dX6_learns_120 (by decide) ?_
          exact hK162 _ hf
    · skip
      refine z_ic_ne (tgt := 82) C dX6_learns_75 (by decide) rfl hf (fun hf => ?_) (fun hf => ?_)
      · skip
        refine z_iconst C dX6_learns_82 zi_0 rfl ?_
        refine z_drop (lo' := [some (.ref (zad g 0)), none, some (.int a2), some (.int v1), some (.int v2), some (.int v4), some (.int v5), none, none, none, none]) 1 rfl ?_
        refine z_drop (lo' := [some (.ref (zad g 0)), none, some (.int a2), some (.int v1), some (.int v2), some (.int v4), none, none, none, none, none]) 6 rfl ?_
        exact hK83 _ hf
      · skip
        refine z_iconst C dX6_learns_78 zi_1 rfl ?_
        refine z_goto (pc' := 83) C dX6_learns_79 (by decide) ?_
        refine z_drop (lo' := [some (.ref (zad g 0)), none, some (.int a2), some (.int v1), some (.int v2), some (.int v4), some (.int v5), none, none, none, none]) 1 rfl ?_
        refine z_drop (lo' := [some (.ref (zad g 0)), none, some (.int a2), some (.int v1), some (.int v2), some (.int v4), none, none, none, none, none]) 6 rfl ?_
        exact hK83 _ hf
  · skip
    refine z_aload_n (i := 0) C dX6_learns_43 rfl rfl rfl ?_
    refine z_iload_n (i := 3) C dX6_learns_44 rfl rfl rfl ?_
    refine z_iload C dX6_learns_45 rfl rfl ?_
    refine z_iload C dX6_learns_47 rfl rfl ?_
    refine z_cvvW (As := [.int v1, .int v2, .int v5]) (st := []) (m := m) C (cl_5 hM) (mn_0 hM) (mc_0 hM) gX6_learns_X6_drops hdX6_drops rfl (fun z h => qX6_drops hM N v1 v2 v5 m z h) rfl (Nat.le_of_ble_eq_true rfl) ⟨Nat.le_of_ble_eq_true rfl, Nat.le_of_ble_eq_true rfl⟩ ⟨Nat.le_refl _, Nat.le_refl _⟩ dX6_learns_49 rfl rfl hf (fun m23 hf => ?_)
    refine z_aload_n (i := 0) C dX6_learns_52 rfl rfl rfl ?_
    refine z_iload_n (i := 3) C dX6_learns_53 rfl rfl rfl ?_
    refine z_iload C dX6_learns_54 rfl rfl ?_
    refine z_iload_n (i := 2) C dX6_learns_56 rfl rfl rfl ?_
    refine z_iload C dX6_learns_57 rfl rfl ?_
    refine z_cvvW (As := [.int v1, .int v2, .int a2, .int v4]) (st := []) (m := m23) C (cl_5 hM) (mn_0 hM) (mc_0 hM) gX6_learns_X6_adds hdX6_adds rfl (fun z h => qX6_adds hM v1 v2 a2 v4 m23 z h) rfl (Nat.le_of_ble_eq_true rfl) ⟨Nat.le_of_ble_eq_true rfl, Nat.le_of_ble_eq_true rfl⟩ ⟨Nat.le_refl _, Nat.le_refl _⟩ dX6_learns_59 rfl rfl hf (fun m24 hf => ?_)
    exact hr _ _ _ (Option.some.inj hf) dX6_learns_62

def fX6_knows (a1 : Int32) (m : zMem) : Option (zMem) :=
  kld m 5 256 a1 fun v1 =>
  kjn (fun (w2 : Int32) =>
  kst m 5 256 a1 w2 fun m3 =>
  some m3) fun K24 =>
  if v1 = 0 then
  K24 1
  else
  kld m 5 256 a1 fun v4 =>
  K24 v4
theorem FX6_knows_22 {g : zG} (hM : isM g) : zFl wsX6_knows RX6 (zcl g) 22 5 7 := ⟨RX6, TX6, 15, hM.2.2 ▸ rfl, by decide +kernel, by decide, by decide +kernel⟩
theorem hdX6_knows : yX6_knows.cls = RX6 ∧ yX6_knows.cls ≠ "java/lang/invoke/MethodHandle" ∧ yX6_knows.cls ≠ "java/lang/invoke/VarHandle" ∧ (parseMethodDescriptor yX6_knows.desc).map (fun d => d.parameters.length) = some 1 := by decide +kernel
set_option maxHeartbeats 4000000 in
set_option maxRecDepth 100000 in
theorem qX6_knows {l : Launch} {g : zG} (hM : isM g)  (a1 : Int32) (m : zMem)  (o : zMem) (hf : fX6_knows a1 m = some o) : zMV l g yX6_knows wsX6_knows { frames := 0, cells := 0, slots := 0, locals := 0 } [.ref (zad g 0), .int a1] m o := by
  refine z_met_v (cc := cX6_knows) (maxL := 2) (lo0 := [some (.ref (zad g 0)), some (.int a1)]) (by decide +kernel) rfl rfl (Nat.le_of_ble_eq_true rfl) (fun x hx C hr => ?_)
  unfold fX6_knows at hf
  refine z_aload_n (i := 0) C dX6_knows_0 rfl rfl rfl ?_
  refine z_gr C (FX6_knows_22 hM) (mn_0 hM) (mc_0 hM) rfl dX6_knows_1 rfl ?_
  refine z_iload_n (i := 1) C dX6_knows_4 rfl rfl rfl ?_
  refine z_aload_n (i := 0) C dX6_knows_5 rfl rfl rfl ?_
  refine z_gr C (FX6_knows_22 hM) (mn_0 hM) (mc_0 hM) rfl dX6_knows_6 rfl ?_
  refine z_iload_n (i := 1) C dX6_knows_9 rfl rfl rfl ?_
  refine z_iaload C (mn_5 hM) (mc_5 hM) dX6_knows_10 rfl hf (fun v1 hf => ?_)
  refine kjn_V (fun K24 => ∀ (w2 : Int32), K24 w2 = some o → zV x g 2 0 0 24 [none, none] [.int w2, .int a1, .ref (zad g 5)] m) hf (fun w2 hf => ?_) (fun K24 hK24 hf => ?_)
  · skip
    refine z_iastore C (mn_5 hM) (mc_5 hM) dX6_knows_24 rfl hf (fun m3 hf => ?_)
    exact hr _ _ _ (Option.some.inj hf) dX6_knows_25
  · skip
    refine z_if_ne (tgt := 18) C dX6_knows_11 (by decide) rfl hf (fun hf => ?_) (fun hf => ?_)
    · skip
      refine z_aload_n (i := 0) C dX6_knows_18 rfl rfl rfl ?_
      refine z_gr C (FX6_knows_22 hM) (mn_0 hM) (mc_0 hM) rfl dX6_knows_19 rfl ?_
      refine z_iload_n (i := 1) C dX6_knows_22 rfl rfl rfl ?_
      refine z_iaload C (mn_5 hM) (mc_5 hM) dX6_knows_23 rfl hf (fun v4 hf => ?_)
      refine z_drop (lo' := [none, some (.int a1)]) 0 rfl ?_
      refine z_drop (lo' := [none, none]) 1 rfl ?_
      exact hK24 _ hf
    · skip
      refine z_iconst C dX6_knows_14 zi_1 rfl ?_
      refine z_goto (pc' := 24) C dX6_knows_15 (by decide) ?_
      refine z_drop (lo' := [none, some (.int a1)]) 0 rfl ?_
      refine z_drop (lo' := [none, none]) 1 rfl ?_
      exact hK24 _ hf

def sX6_shows_6 (N : Nat) (a1 : Int32) (a2 : Int32) (a3 : Int32) (K107 : zMem → Option (zMem)) : (Int32 × Int32 × zMem → Option (zMem)) → Int32 × Int32 × zMem → Option (zMem) := fun rec (x2, x3, m4) =>
  if 256 ≤ x3 then
  K107 m4
  else
  if x2 ≤ 0 then
  K107 m4
  else
  klt (a2 ^^^ x3 : Int32) fun v5 =>
  kld m4 1 1816 a1 fun v6 =>
  kjn (fun (w7 : Int32) =>
  kjn (fun (w8 : Int32) =>
  klt (x2 - w8 : Int32) fun v9 =>
  if w7 = 0 then
  rec (v9, x3 + 1, m4)
  else
  if v5 = a3 then
  rec (v9, x3 + 1, m4)
  else
  kc1 (fX6_knows v5 m4) fun m10 =>
  rec (v9, x3 + 1, m10)) fun K81 =>
  if w7 = 0 then
  K81 0
  else
  K81 1) fun K67 =>
  if v5 = (v6 - 1) then
  K67 0
  else
  kld m4 1 1816 a1 fun v11 =>
  kc1 (fX6_bucketOf N (v11 - 1) v5) fun v12 =>
  kc1 (fX6_placeIn N a1 v12 v5 m4) fun v13 =>
  if v13 = (-1) then
  K67 0
  else
  K67 1
def fX6_shows (N : Nat) (a1 : Int32) (a2 : Int32) (a3 : Int32) (m : zMem) : Option (zMem) :=
  kjn (fun (m1 : zMem) =>
  some m1) fun K107 =>
  klp (sX6_shows_6 N a1 a2 a3 K107) N (3, 0, m)
theorem FX6_shows_7 {g : zG} (hM : isM g) : zFl wsX6_shows RX6 (zcl g) 7 5 0 := ⟨RX6, TX6, 15, hM.2.2 ▸ rfl, by decide +kernel, by decide, by decide +kernel⟩
theorem hdX6_shows : yX6_shows.cls = RX6 ∧ yX6_shows.cls ≠ "java/lang/invoke/MethodHandle" ∧ yX6_shows.cls ≠ "java/lang/invoke/VarHandle" ∧ (parseMethodDescriptor yX6_shows.desc).map (fun d => d.parameters.length) = some 3 := by decide +kernel
set_option maxHeartbeats 4000000 in
set_option maxRecDepth 100000 in
theorem qX6_shows {l : Launch} {g : zG} (hM : isM g)  (N : Nat) (a1 : Int32) (a2 : Int32) (a3 : Int32) (m : zMem)  (o : zMem) (hf : fX6_shows N a1 a2 a3 m = some o) : zMV l g yX6_shows wsX6_shows { frames := 1, cells := 0, slots := 0, locals := 24 } [.ref (zad g 0), .int a1, .int a2, .int a3] m o := by
  refine z_met_v (cc := cX6_shows) (maxL := 8) (lo0 := [some (.ref (zad g 0)), some (.int a1), some (.int a2), some (.int a3), none, none, none, none]) (by decide +kernel) rfl rfl (Nat.le_of_ble_eq_true rfl) (fun x hx C hr => ?_)
  unfold fX6_shows at hf
  refine z_iconst C dX6_shows_0 zi_3 rfl ?_
  refine z_istore (lo' := [some (.ref (zad g 0)), some (.int a1), some (.int a2), some (.int a3), some (.int 3), none, none, none]) C dX6_shows_1 (Nat.le_of_ble_eq_true rfl) rfl rfl rfl ?_
  refine z_iconst C dX6_shows_3 zi_0 rfl ?_
  refine z_istore (lo' := [some (.ref (zad g 0)), some (.int a1), some (.int a2), some (.int a3), some (.int 3), some (.int 0), none, none]) C dX6_shows_4 (Nat.le_of_ble_eq_true rfl) rfl rfl rfl ?_
  refine kjn_V (fun K107 => ∀ (m1 : zMem), K107 m1 = some o → zV x g 8 0 0 107 [none, none, none, none, none, none, none, none] [] m1) hf (fun m1 hf => ?_) (fun K107 hK107 hf => ?_)
  · skip
    exact hr _ _ _ (Option.some.inj hf) dX6_shows_107
  · skip
    refine klp_V (fun z => zV x g 8 0 0 6 [some (.ref (zad g 0)), some (.int a1), some (.int a2), some (.int a3), some (.int z.1), some (.int z.2.1), none, none] [] z.2.2) hf (fun rec z ih hf => ?_)
    obtain ⟨x2, x3, m4⟩ := z
    unfold sX6_shows_6 at hf
    try dsimp only at hf
    try dsimp only
    refine z_iload C dX6_shows_6 rfl rfl ?_
    refine z_sipush C dX6_shows_8 zs_256 rfl ?_
    refine z_ic_ge (tgt := 107) C dX6_shows_11 (by decide) rfl hf (fun hf => ?_) (fun hf => ?_)
    · skip
      refine z_drop (lo' := [none, some (.int a1), some (.int a2), some (.int a3), some (.int x2), some (.int x3), none, none]) 0 rfl ?_
      refine z_drop (lo' := [none, none, some (.int a2), some (.int a3), some (.int x2), some (.int x3), none, none]) 1 rfl ?_
      refine z_drop (lo' := [none, none, none, some (.int a3), some (.int x2), some (.int x3), none, none]) 2 rfl ?_
      refine z_drop (lo' := [none, none, none, none, some (.int x2), some (.int x3), none, none]) 3 rfl ?_
      refine z_drop (lo' := [none, none, none, none, none, some (.int x3), none, none]) 4 rfl ?_
      refine z_drop (lo' := [none, none, none, none, none, none, none, none]) 5 rfl ?_
      exact hK107 _ hf
    · skip
      refine z_iload C dX6_shows_14 rfl rfl ?_
      refine z_if_le (tgt := 107) C dX6_shows_16 (by decide) rfl hf (fun hf => ?_) (fun hf => ?_)
      · skip
        refine z_drop (lo' := [none, some (.int a1), some (.int a2), some (.int a3), some (.int x2), some (.int x3), none, none]) 0 rfl ?_
        refine z_drop (lo' := [none, none, some (.int a2), some (.int a3), some (.int x2), some (.int x3), none, none]) 1 rfl ?_
        refine z_drop (lo' := [none, none, none, some (.int a3), some (.int x2), some (.int x3), none, none]) 2 rfl ?_
        refine z_drop (lo' := [none, none, none, none, some (.int x2), some (.int x3), none, none]) 3 rfl ?_
        refine z_drop (lo' := [none, none, none, none, none, some (.int x3), none, none]) 4 rfl ?_
        refine z_drop (lo' := [none, none, none, none, none, none, none, none]) 5 rfl ?_
        exact hK107 _ hf
      · skip
        refine z_iload_n (i := 2) C dX6_shows_19 rfl rfl rfl ?_
        refine z_iload C dX6_shows_20 rfl rfl ?_
        refine z_ixor C dX6_shows_22 rfl ?_
        refine z_top _ hf (fun v5 hf => ?_)
        refine z_istore (lo' := [some (.ref (zad g 0)), some (.int a1), some (.int a2), some (.int a3), some (.int x2), some (.int x3), some (.int v5), none]) C dX6_shows_23 (Nat.le_of_ble_eq_true rfl) rfl rfl rfl ?_
        refine z_iload C dX6_shows_25 rfl rfl ?_
        refine z_aload_n (i := 0) C dX6_shows_27 rfl rfl rfl ?_
        refine z_gr C (FX6_shows_7 hM) (mn_0 hM) (mc_0 hM) rfl dX6_shows_28 rfl ?_
        refine z_iload_n (i := 1) C dX6_shows_31 rfl rfl rfl ?_
        refine z_iaload C (mn_1 hM) (mc_1 hM) dX6_shows_32 rfl hf (fun v6 hf => ?_)
        refine z_iconst C dX6_shows_33 zi_1 rfl ?_
        refine z_isub C dX6_shows_34 rfl ?_
        refine kjn_V (fun K67 => ∀ (w7 : Int32), K67 w7 = some o → zV x g 8 0 0 67 [some (.ref (zad g 0)), some (.int a1), some (.int a2), some (.int a3), some (.int x2), some (.int x3), some (.int v5), none] [.int w7] m4) hf (fun w7 hf => ?_) (fun K67 hK67 hf => ?_)
        · skip
          refine z_istore (lo' := [some (.ref (zad g 0)), some (.int a1), some (.int a2), some (.int a3), some (.int x2), some (.int x3), some (.int v5), some (.int w7)]) C dX6_shows_67 (Nat.le_of_ble_eq_true rfl) rfl rfl rfl ?_
          refine z_iload C dX6_shows_69 rfl rfl ?_
          refine z_iload C dX6_shows_71 rfl rfl ?_
          refine kjn_V (fun K81 => ∀ (w8 : Int32), K81 w8 = some o → zV x g 8 0 0 81 [some (.ref (zad g 0)), some (.int a1), some (.int a2), some (.int a3), none, some (.int x3), some (.int v5), some (.int w7)] [.int w8, .int x2] m4) hf (fun w8 hf => ?_) (fun K81 hK81 hf => ?_)
          · skip
            refine z_isub C dX6_shows_81 rfl ?_
            refine z_top _ hf (fun v9 hf => ?_)
            refine z_istore (lo' := [some (.ref (zad g 0)), some (.int a1), some (.int a2), some (.int a3), some (.int v9), some (.int x3), some (.int v5), some (.int w7)]) C dX6_shows_82 (Nat.le_of_ble_eq_true rfl) rfl rfl rfl ?_
            refine z_iload C dX6_shows_84 rfl rfl ?_
            refine z_if_eq (tgt := 101) C dX6_shows_86 (by decide) rfl hf (fun hf => ?_) (fun hf => ?_)
            · skip
              refine z_iinc (v := x3 + 1) (lo' := [some (.ref (zad g 0)), some (.int a1), some (.int a2), some (.int a3), some (.int v9), some (.int (x3 + 1)), some (.int v5), some (.int w7)]) C dX6_shows_101 rfl (zinc zi_1) (Nat.le_of_ble_eq_true rfl) rfl rfl rfl ?_
              refine z_goto (pc' := 6) C dX6_shows_104 (by decide) ?_
              refine z_drop (lo' := [some (.ref (zad g 0)), some (.int a1), some (.int a2), some (.int a3), some (.int v9), some (.int (x3 + 1)), none, some (.int w7)]) 6 rfl ?_
              refine z_drop (lo' := [some (.ref (zad g 0)), some (.int a1), some (.int a2), some (.int a3), some (.int v9), some (.int (x3 + 1)), none, none]) 7 rfl ?_
              exact ih (v9, x3 + 1, m4) hf
            · skip
              refine z_iload C dX6_shows_89 rfl rfl ?_
              refine z_iload_n (i := 3) C dX6_shows_91 rfl rfl rfl ?_
              refine z_ic_eq (tgt := 101) C dX6_shows_92 (by decide) rfl hf (fun hf => ?_) (fun hf => ?_)
              · skip
                refine z_iinc (v := x3 + 1) (lo' := [some (.ref (zad g 0)), some (.int a1), some (.int a2), some (.int a3), some (.int v9), some (.int (x3 + 1)), some (.int v5), some (.int w7)]) C dX6_shows_101 rfl (zinc zi_1) (Nat.le_of_ble_eq_true rfl) rfl rfl rfl ?_
                refine z_goto (pc' := 6) C dX6_shows_104 (by decide) ?_
                refine z_drop (lo' := [some (.ref (zad g 0)), some (.int a1), some (.int a2), some (.int a3), some (.int v9), some (.int (x3 + 1)), none, some (.int w7)]) 6 rfl ?_
                refine z_drop (lo' := [some (.ref (zad g 0)), some (.int a1), some (.int a2), some (.int a3), some (.int v9), some (.int (x3 + 1)), none, none]) 7 rfl ?_
                exact ih (v9, x3 + 1, m4) hf
              · skip
                refine z_aload_n (i := 0) C dX6_shows_95 rfl rfl rfl ?_
                refine z_iload C dX6_shows_96 rfl rfl ?_
                refine z_cvvW (As := [.int v5]) (st := []) (m := m4) C (cl_5 hM) (mn_0 hM) (mc_0 hM) gX6_shows_X6_knows hdX6_knows rfl (fun z h => qX6_knows hM v5 m4 z h) rfl (Nat.le_of_ble_eq_true rfl) ⟨Nat.le_of_ble_eq_true rfl, Nat.le_of_ble_eq_true rfl⟩ ⟨Nat.le_refl _, Nat.le_refl _⟩ dX6_shows_98 rfl rfl hf (fun m10 hf => ?_)
                refine z_iinc (v := x3 + 1) (lo' := [some (.ref (zad g 0)), some (.int a1), some (.int a2), some (.int a3), some (.int v9), some (.int (x3 + 1)), some (.int v5), some (.int w7)]) C dX6_shows_101 rfl (zinc zi_1) (Nat.le_of_ble_eq_true rfl) rfl rfl rfl ?_
                refine z_goto (pc' := 6) C dX6_shows_104 (by decide) ?_
                refine z_drop (lo' := [some (.ref (zad g 0)), some (.int a1), some (.int a2), some (.int a3), some (.int v9), some (.int (x3 + 1)), none, some (.int w7)]) 6 rfl ?_
                refine z_drop (lo' := [some (.ref (zad g 0)), some (.int a1), some (.int a2), some (.int a3), some (.int v9), some (.int (x3 + 1)), none, none]) 7 rfl ?_
                exact ih (v9, x3 + 1, m10) hf
          · skip
            refine z_if_eq (tgt := 80) C dX6_shows_73 (by decide) rfl hf (fun hf => ?_) (fun hf => ?_)
            · skip
              refine z_iconst C dX6_shows_80 zi_0 rfl ?_
              refine z_drop (lo' := [some (.ref (zad g 0)), some (.int a1), some (.int a2), some (.int a3), none, some (.int x3), some (.int v5), some (.int w7)]) 4 rfl ?_
              exact hK81 _ hf
            · skip
              refine z_iconst C dX6_shows_76 zi_1 rfl ?_
              refine z_goto (pc' := 81) C dX6_shows_77 (by decide) ?_
              refine z_drop (lo' := [some (.ref (zad g 0)), some (.int a1), some (.int a2), some (.int a3), none, some (.int x3), some (.int v5), some (.int w7)]) 4 rfl ?_
              exact hK81 _ hf
        · skip
          refine z_ic_eq (tgt := 66) C dX6_shows_35 (by decide) rfl hf (fun hf => ?_) (fun hf => ?_)
          · skip
            refine z_iconst C dX6_shows_66 zi_0 rfl ?_
            exact hK67 _ hf
          · skip
            refine z_aload_n (i := 0) C dX6_shows_38 rfl rfl rfl ?_
            refine z_iload_n (i := 1) C dX6_shows_39 rfl rfl rfl ?_
            refine z_aload_n (i := 0) C dX6_shows_40 rfl rfl rfl ?_
            refine z_gr C (FX6_shows_7 hM) (mn_0 hM) (mc_0 hM) rfl dX6_shows_41 rfl ?_
            refine z_iload_n (i := 1) C dX6_shows_44 rfl rfl rfl ?_
            refine z_iaload C (mn_1 hM) (mc_1 hM) dX6_shows_45 rfl hf (fun v11 hf => ?_)
            refine z_iconst C dX6_shows_46 zi_1 rfl ?_
            refine z_isub C dX6_shows_47 rfl ?_
            refine z_iload C dX6_shows_48 rfl rfl ?_
            refine z_csiR (As := [.int (v11 - 1), .int v5]) (st := [.int a1, .ref (zad g 0)]) (m := m4) C gX6_shows_X6_bucketOf hdX6_bucketOf rfl (fun z h => qX6_bucketOf N (v11 - 1) v5 m4 z h) rfl (Nat.le_of_ble_eq_true rfl) ⟨Nat.le_of_ble_eq_true rfl, Nat.le_of_ble_eq_true rfl⟩ ⟨Nat.le_refl _, Nat.le_refl _⟩ dX6_shows_50 rfl rfl hf (fun v12 hf => ?_)
            refine z_iload C dX6_shows_53 rfl rfl ?_
            refine z_cviR (As := [.int a1, .int v12, .int v5]) (st := []) (m := m4) C (cl_5 hM) (mn_0 hM) (mc_0 hM) gX6_shows_X6_placeIn hdX6_placeIn rfl (fun z h => qX6_placeIn hM N a1 v12 v5 m4 z h) rfl (Nat.le_of_ble_eq_true rfl) ⟨Nat.le_of_ble_eq_true rfl, Nat.le_of_ble_eq_true rfl⟩ ⟨Nat.le_refl _, Nat.le_refl _⟩ dX6_shows_55 rfl rfl hf (fun v13 hf => ?_)
            refine z_iconst C dX6_shows_58 zi_m1 rfl ?_
            refine z_ic_eq (tgt := 66) C dX6_shows_59 (by decide) rfl hf (fun hf => ?_) (fun hf => ?_)
            · skip
              refine z_iconst C dX6_shows_66 zi_0 rfl ?_
              exact hK67 _ hf
            · skip
              refine z_iconst C dX6_shows_62 zi_1 rfl ?_
              refine z_goto (pc' := 67) C dX6_shows_63 (by decide) ?_
              exact hK67 _ hf

def sX6_nextFor_4 (a1 : Int32) (m : zMem) (K55 : Option (Int32)) : (Int32 × Int32 → Option (Int32)) → Int32 × Int32 → Option (Int32) := fun rec (x1, x2) =>
  if 256 ≤ x2 then
  K55
  else
  if x1 ≤ 0 then
  K55
  else
  kld m 5 256 (a1 ^^^ x2) fun v3 =>
  if v3 = 1 then
  some (a1 ^^^ x2)
  else
  if v3 = 2 then
  klt (x1 - 1 : Int32) fun v5 =>
  rec (v5, x2 + 1)
  else
  klt (x1 - 0 : Int32) fun v4 =>
  rec (v4, x2 + 1)
def fX6_nextFor (N : Nat) (a1 : Int32) (m : zMem) : Option (Int32) :=
  kjn (some (-1)) fun K55 =>
  klp (sX6_nextFor_4 a1 m K55) N (3, 0)
theorem FX6_nextFor_22 {g : zG} (hM : isM g) : zFl wsX6_nextFor RX6 (zcl g) 22 5 7 := ⟨RX6, TX6, 15, hM.2.2 ▸ rfl, by decide +kernel, by decide, by decide +kernel⟩
theorem hdX6_nextFor : yX6_nextFor.cls = RX6 ∧ yX6_nextFor.cls ≠ "java/lang/invoke/MethodHandle" ∧ yX6_nextFor.cls ≠ "java/lang/invoke/VarHandle" ∧ (parseMethodDescriptor yX6_nextFor.desc).map (fun d => d.parameters.length) = some 1 := by decide +kernel
set_option maxHeartbeats 4000000 in
set_option maxRecDepth 100000 in
theorem qX6_nextFor {l : Launch} {g : zG} (hM : isM g)  (N : Nat) (a1 : Int32) (m : zMem)  (o : Int32) (hf : fX6_nextFor N a1 m = some o) : zMI l g yX6_nextFor wsX6_nextFor { frames := 0, cells := 0, slots := 0, locals := 0 } [.ref (zad g 0), .int a1] m (o, m) := by
  refine z_met_i (cc := cX6_nextFor) (maxL := 5) (lo0 := [some (.ref (zad g 0)), some (.int a1), none, none, none]) (by decide +kernel) rfl rfl (Nat.le_of_ble_eq_true rfl) (fun x hx C hr => ?_)
  unfold fX6_nextFor at hf
  refine z_iconst C dX6_nextFor_0 zi_3 rfl ?_
  refine z_istore_n (i := 2) (lo' := [some (.ref (zad g 0)), some (.int a1), some (.int 3), none, none]) C dX6_nextFor_1 rfl (Nat.le_of_ble_eq_true rfl) rfl rfl rfl ?_
  refine z_iconst C dX6_nextFor_2 zi_0 rfl ?_
  refine z_istore_n (i := 3) (lo' := [some (.ref (zad g 0)), some (.int a1), some (.int 3), some (.int 0), none]) C dX6_nextFor_3 rfl (Nat.le_of_ble_eq_true rfl) rfl rfl rfl ?_
  refine kjn_V (fun K55 => K55 = some o → zV x g 5 0 0 55 [none, none, none, none, none] [] m) hf (fun  hf => ?_) (fun K55 hK55 hf => ?_)
  · skip
    refine z_iconst C dX6_nextFor_55 zi_m1 rfl ?_
    exact hr _ _ _ _ (congrArg (fun z => (z, m)) (Option.some.inj hf)) dX6_nextFor_56
  · skip
    refine klp_V (fun z => zV x g 5 0 0 4 [some (.ref (zad g 0)), some (.int a1), some (.int z.1), some (.int z.2), none] [] m) hf (fun rec z ih hf => ?_)
    obtain ⟨x1, x2⟩ := z
    unfold sX6_nextFor_4 at hf
    try dsimp only at hf
    try dsimp only
    refine z_iload_n (i := 3) C dX6_nextFor_4 rfl rfl rfl ?_
    refine z_sipush C dX6_nextFor_5 zs_256 rfl ?_
    refine z_ic_ge (tgt := 55) C dX6_nextFor_8 (by decide) rfl hf (fun hf => ?_) (fun hf => ?_)
    · skip
      refine z_drop (lo' := [none, some (.int a1), some (.int x1), some (.int x2), none]) 0 rfl ?_
      refine z_drop (lo' := [none, none, some (.int x1), some (.int x2), none]) 1 rfl ?_
      refine z_drop (lo' := [none, none, none, some (.int x2), none]) 2 rfl ?_
      refine z_drop (lo' := [none, none, none, none, none]) 3 rfl ?_
      exact hK55 hf
    · skip
      refine z_iload_n (i := 2) C dX6_nextFor_11 rfl rfl rfl ?_
      refine z_if_le (tgt := 55) C dX6_nextFor_12 (by decide) rfl hf (fun hf => ?_) (fun hf => ?_)
      · skip
        refine z_drop (lo' := [none, some (.int a1), some (.int x1), some (.int x2), none]) 0 rfl ?_
        refine z_drop (lo' := [none, none, some (.int x1), some (.int x2), none]) 1 rfl ?_
        refine z_drop (lo' := [none, none, none, some (.int x2), none]) 2 rfl ?_
        refine z_drop (lo' := [none, none, none, none, none]) 3 rfl ?_
        exact hK55 hf
      · skip
        refine z_aload_n (i := 0) C dX6_nextFor_15 rfl rfl rfl ?_
        refine z_gr C (FX6_nextFor_22 hM) (mn_0 hM) (mc_0 hM) rfl dX6_nextFor_16 rfl ?_
        refine z_iload_n (i := 1) C dX6_nextFor_19 rfl rfl rfl ?_
        refine z_iload_n (i := 3) C dX6_nextFor_20 rfl rfl rfl ?_
        refine z_ixor C dX6_nextFor_21 rfl ?_
        refine z_iaload C (mn_5 hM) (mc_5 hM) dX6_nextFor_22 rfl hf (fun v3 hf => ?_)
        refine z_istore (lo' := [some (.ref (zad g 0)), some (.int a1), some (.int x1), some (.int x2), some (.int v3)]) C dX6_nextFor_23 (Nat.le_of_ble_eq_true rfl) rfl rfl rfl ?_
        refine z_iload C dX6_nextFor_25 rfl rfl ?_
        refine z_iconst C dX6_nextFor_27 zi_1 rfl ?_
        refine z_ic_ne (tgt := 35) C dX6_nextFor_28 (by decide) rfl hf (fun hf => ?_) (fun hf => ?_)
        · skip
          refine z_iload_n (i := 2) C dX6_nextFor_35 rfl rfl rfl ?_
          refine z_iload C dX6_nextFor_36 rfl rfl ?_
          refine z_iconst C dX6_nextFor_38 zi_2 rfl ?_
          refine z_ic_ne (tgt := 46) C dX6_nextFor_39 (by decide) rfl hf (fun hf => ?_) (fun hf => ?_)
          · skip
            refine z_iconst C dX6_nextFor_46 zi_0 rfl ?_
            refine z_isub C dX6_nextFor_47 rfl ?_
            refine z_top _ hf (fun v4 hf => ?_)
            refine z_istore_n (i := 2) (lo' := [some (.ref (zad g 0)), some (.int a1), some (.int v4), some (.int x2), some (.int v3)]) C dX6_nextFor_48 rfl (Nat.le_of_ble_eq_true rfl) rfl rfl rfl ?_
            refine z_iinc (v := x2 + 1) (lo' := [some (.ref (zad g 0)), some (.int a1), some (.int v4), some (.int (x2 + 1)), some (.int v3)]) C dX6_nextFor_49 rfl (zinc zi_1) (Nat.le_of_ble_eq_true rfl) rfl rfl rfl ?_
            refine z_goto (pc' := 4) C dX6_nextFor_52 (by decide) ?_
            refine z_drop (lo' := [some (.ref (zad g 0)), some (.int a1), some (.int v4), some (.int (x2 + 1)), none]) 4 rfl ?_
            exact ih (v4, x2 + 1) hf
          · skip
            refine z_iconst C dX6_nextFor_42 zi_1 rfl ?_
            refine z_goto (pc' := 47) C dX6_nextFor_43 (by decide) ?_
            refine z_isub C dX6_nextFor_47 rfl ?_
            refine z_top _ hf (fun v5 hf => ?_)
            refine z_istore_n (i := 2) (lo' := [some (.ref (zad g 0)), some (.int a1), some (.int v5), some (.int x2), some (.int v3)]) C dX6_nextFor_48 rfl (Nat.le_of_ble_eq_true rfl) rfl rfl rfl ?_
            refine z_iinc (v := x2 + 1) (lo' := [some (.ref (zad g 0)), some (.int a1), some (.int v5), some (.int (x2 + 1)), some (.int v3)]) C dX6_nextFor_49 rfl (zinc zi_1) (Nat.le_of_ble_eq_true rfl) rfl rfl rfl ?_
            refine z_goto (pc' := 4) C dX6_nextFor_52 (by decide) ?_
            refine z_drop (lo' := [some (.ref (zad g 0)), some (.int a1), some (.int v5), some (.int (x2 + 1)), none]) 4 rfl ?_
            exact ih (v5, x2 + 1) hf
        · skip
          refine z_iload_n (i := 1) C dX6_nextFor_31 rfl rfl rfl ?_
          refine z_iload_n (i := 3) C dX6_nextFor_32 rfl rfl rfl ?_
          refine z_ixor C dX6_nextFor_33 rfl ?_
          exact hr _ _ _ _ (congrArg (fun z => (z, m)) (Option.some.inj hf)) dX6_nextFor_34

def fX6_contacts (N : Nat) (a1 : Int32) (a2 : Int32) (a3 : Int32) (m : zMem) : Option (zMem) :=
  kgi m 0 8 fun v1 =>
  kpi m 0 8 (v1 + 1) fun m2 =>
  kld m2 1 1816 10 fun v3 =>
  kst m2 1 1816 10 (v3 + 1) fun m4 =>
  kc1 (fX6_placeOf N a3 m4) fun v5 =>
  if v5 = (-1) then
  kst m4 5 256 a3 3 fun m10 =>
  kgi m10 0 9 fun v11 =>
  kpi m10 0 9 (v11 + 1) fun m12 =>
  kld m12 1 1816 11 fun v13 =>
  kst m12 1 1816 11 (v13 + 1) fun m14 =>
  kc1 (fX6_bucketOf N a1 a3) fun v15 =>
  kc1 (fX6_placeOf N a1 m14) fun v16 =>
  kc1 (fX6_placeIn N v16 v15 a3 m14) fun v17 =>
  if v17 = (-1) then
  some m14
  else
  kc1 (fX6_placeOf N a1 m14) fun v18 =>
  kc1 (fX6_drops N v18 v15 v17 m14) fun m19 =>
  some m19
  else
  kst m4 5 256 a3 2 fun m6 =>
  kc1 (fX6_shows N v5 a2 a1 m6) fun m7 =>
  kc1 (fX6_learns N a3 a1 m7) fun m8 =>
  kc1 (fX6_learns N a1 a3 m8) fun m9 =>
  some m9
theorem FX6_contacts_7 {g : zG} (hM : isM g) : zFl wsX6_contacts RX6 (zcl g) 7 5 0 := ⟨RX6, TX6, 15, hM.2.2 ▸ rfl, by decide +kernel, by decide, by decide +kernel⟩
theorem FX6_contacts_22 {g : zG} (hM : isM g) : zFl wsX6_contacts RX6 (zcl g) 22 5 7 := ⟨RX6, TX6, 15, hM.2.2 ▸ rfl, by decide +kernel, by decide, by decide +kernel⟩
theorem FX6_contacts_82 {g : zG} (hM : isM g) : zFl wsX6_contacts RX6 (zcl g) 82 5 8 := ⟨RX6, TX6, 15, hM.2.2 ▸ rfl, by decide +kernel, by decide, by decide +kernel⟩
theorem PX6_contacts_82 {g : zG} (hM : isM g) : zFp wsX6_contacts RX6 (zcl g) 82 5 8 .int := ⟨RX6, TX6, 15, tyX6, hM.2.2 ▸ rfl, by decide +kernel, by decide, by decide +kernel, tyX6_ok, nmX6, rfl, by decide +kernel⟩
theorem FX6_contacts_85 {g : zG} (hM : isM g) : zFl wsX6_contacts RX6 (zcl g) 85 5 9 := ⟨RX6, TX6, 15, hM.2.2 ▸ rfl, by decide +kernel, by decide, by decide +kernel⟩
theorem PX6_contacts_85 {g : zG} (hM : isM g) : zFp wsX6_contacts RX6 (zcl g) 85 5 9 .int := ⟨RX6, TX6, 15, tyX6, hM.2.2 ▸ rfl, by decide +kernel, by decide, by decide +kernel, tyX6_ok, nmX6, rfl, by decide +kernel⟩
theorem hdX6_contacts : yX6_contacts.cls = RX6 ∧ yX6_contacts.cls ≠ "java/lang/invoke/MethodHandle" ∧ yX6_contacts.cls ≠ "java/lang/invoke/VarHandle" ∧ (parseMethodDescriptor yX6_contacts.desc).map (fun d => d.parameters.length) = some 3 := by decide +kernel
set_option maxHeartbeats 4000000 in
set_option maxRecDepth 100000 in
theorem qX6_contacts {l : Launch} {g : zG} (hM : isM g)  (N : Nat) (a1 : Int32) (a2 : Int32) (a3 : Int32) (m : zMem)  (o : zMem) (hf : fX6_contacts N a1 a2 a3 m = some o) : zMV l g yX6_contacts wsX6_contacts { frames := 4, cells := 0, slots := 0, locals := 93 } [.ref (zad g 0), .int a1, .int a2, .int a3] m o := by
  refine z_met_v (cc := cX6_contacts) (maxL := 7) (lo0 := [some (.ref (zad g 0)), some (.int a1), some (.int a2), some (.int a3), none, none, none]) (by decide +kernel) rfl rfl (Nat.le_of_ble_eq_true rfl) (fun x hx C hr => ?_)
  unfold fX6_contacts at hf
  refine z_aload_n (i := 0) C dX6_contacts_0 rfl rfl rfl ?_
  refine z_dup C dX6_contacts_1 rfl rfl ?_
  refine z_gi C (FX6_contacts_82 hM) (mn_0 hM) (mc_0 hM) rfl dX6_contacts_2 rfl hf (fun v1 hf => ?_)
  refine z_iconst C dX6_contacts_5 zi_1 rfl ?_
  refine z_iadd C dX6_contacts_6 rfl ?_
  refine z_pi C (PX6_contacts_82 hM) (mn_0 hM) (mc_0 hM) rfl dX6_contacts_7 rfl hf (fun m2 hf => ?_)
  refine z_aload_n (i := 0) C dX6_contacts_10 rfl rfl rfl ?_
  refine z_gr C (FX6_contacts_7 hM) (mn_0 hM) (mc_0 hM) rfl dX6_contacts_11 rfl ?_
  refine z_bipush C dX6_contacts_14 zb_10 rfl ?_
  refine z_dup2 C dX6_contacts_16 rfl rfl rfl ?_
  refine z_iaload C (mn_1 hM) (mc_1 hM) dX6_contacts_17 rfl hf (fun v3 hf => ?_)
  refine z_iconst C dX6_contacts_18 zi_1 rfl ?_
  refine z_iadd C dX6_contacts_19 rfl ?_
  refine z_iastore C (mn_1 hM) (mc_1 hM) dX6_contacts_20 rfl hf (fun m4 hf => ?_)
  refine z_aload_n (i := 0) C dX6_contacts_21 rfl rfl rfl ?_
  refine z_iload_n (i := 3) C dX6_contacts_22 rfl rfl rfl ?_
  refine z_cviR (As := [.int a3]) (st := []) (m := m4) C (cl_5 hM) (mn_0 hM) (mc_0 hM) gX6_contacts_X6_placeOf hdX6_placeOf rfl (fun z h => qX6_placeOf hM N a3 m4 z h) rfl (Nat.le_of_ble_eq_true rfl) ⟨Nat.le_of_ble_eq_true rfl, Nat.le_of_ble_eq_true rfl⟩ ⟨Nat.le_refl _, Nat.le_refl _⟩ dX6_contacts_23 rfl rfl hf (fun v5 hf => ?_)
  refine z_istore (lo' := [some (.ref (zad g 0)), some (.int a1), some (.int a2), some (.int a3), some (.int v5), none, none]) C dX6_contacts_26 (Nat.le_of_ble_eq_true rfl) rfl rfl rfl ?_
  refine z_iload C dX6_contacts_28 rfl rfl ?_
  refine z_iconst C dX6_contacts_30 zi_m1 rfl ?_
  refine z_ic_ne (tgt := 105) C dX6_contacts_31 (by decide) rfl hf (fun hf => ?_) (fun hf => ?_)
  · skip
    refine z_aload_n (i := 0) C dX6_contacts_105 rfl rfl rfl ?_
    refine z_gr C (FX6_contacts_22 hM) (mn_0 hM) (mc_0 hM) rfl dX6_contacts_106 rfl ?_
    refine z_iload_n (i := 3) C dX6_contacts_109 rfl rfl rfl ?_
    refine z_iconst C dX6_contacts_110 zi_2 rfl ?_
    refine z_iastore C (mn_5 hM) (mc_5 hM) dX6_contacts_111 rfl hf (fun m6 hf => ?_)
    refine z_aload_n (i := 0) C dX6_contacts_112 rfl rfl rfl ?_
    refine z_iload C dX6_contacts_113 rfl rfl ?_
    refine z_iload_n (i := 2) C dX6_contacts_115 rfl rfl rfl ?_
    refine z_iload_n (i := 1) C dX6_contacts_116 rfl rfl rfl ?_
    refine z_cvvW (As := [.int v5, .int a2, .int a1]) (st := []) (m := m6) C (cl_5 hM) (mn_0 hM) (mc_0 hM) gX6_contacts_X6_shows hdX6_shows rfl (fun z h => qX6_shows hM N v5 a2 a1 m6 z h) rfl (Nat.le_of_ble_eq_true rfl) ⟨Nat.le_of_ble_eq_true rfl, Nat.le_of_ble_eq_true rfl⟩ ⟨Nat.le_refl _, Nat.le_refl _⟩ dX6_contacts_117 rfl rfl hf (fun m7 hf => ?_)
    refine z_aload_n (i := 0) C dX6_contacts_120 rfl rfl rfl ?_
    refine z_iload_n (i := 3) C dX6_contacts_121 rfl rfl rfl ?_
    refine z_iload_n (i := 1) C dX6_contacts_122 rfl rfl rfl ?_
    refine z_cvvW (As := [.int a3, .int a1]) (st := []) (m := m7) C (cl_5 hM) (mn_0 hM) (mc_0 hM) gX6_contacts_X6_learns hdX6_learns rfl (fun z h => qX6_learns hM N a3 a1 m7 z h) rfl (Nat.le_of_ble_eq_true rfl) ⟨Nat.le_of_ble_eq_true rfl, Nat.le_of_ble_eq_true rfl⟩ ⟨Nat.le_refl _, Nat.le_refl _⟩ dX6_contacts_123 rfl rfl hf (fun m8 hf => ?_)
    refine z_aload_n (i := 0) C dX6_contacts_126 rfl rfl rfl ?_
    refine z_iload_n (i := 1) C dX6_contacts_127 rfl rfl rfl ?_
    refine z_iload_n (i := 3) C dX6_contacts_128 rfl rfl rfl ?_
    refine z_cvvW (As := [.int a1, .int a3]) (st := []) (m := m8) C (cl_5 hM) (mn_0 hM) (mc_0 hM) gX6_contacts_X6_learns hdX6_learns rfl (fun z h => qX6_learns hM N a1 a3 m8 z h) rfl (Nat.le_of_ble_eq_true rfl) ⟨Nat.le_of_ble_eq_true rfl, Nat.le_of_ble_eq_true rfl⟩ ⟨Nat.le_refl _, Nat.le_refl _⟩ dX6_contacts_129 rfl rfl hf (fun m9 hf => ?_)
    exact hr _ _ _ (Option.some.inj hf) dX6_contacts_132
  · skip
    refine z_aload_n (i := 0) C dX6_contacts_34 rfl rfl rfl ?_
    refine z_gr C (FX6_contacts_22 hM) (mn_0 hM) (mc_0 hM) rfl dX6_contacts_35 rfl ?_
    refine z_iload_n (i := 3) C dX6_contacts_38 rfl rfl rfl ?_
    refine z_iconst C dX6_contacts_39 zi_3 rfl ?_
    refine z_iastore C (mn_5 hM) (mc_5 hM) dX6_contacts_40 rfl hf (fun m10 hf => ?_)
    refine z_aload_n (i := 0) C dX6_contacts_41 rfl rfl rfl ?_
    refine z_dup C dX6_contacts_42 rfl rfl ?_
    refine z_gi C (FX6_contacts_85 hM) (mn_0 hM) (mc_0 hM) rfl dX6_contacts_43 rfl hf (fun v11 hf => ?_)
    refine z_iconst C dX6_contacts_46 zi_1 rfl ?_
    refine z_iadd C dX6_contacts_47 rfl ?_
    refine z_pi C (PX6_contacts_85 hM) (mn_0 hM) (mc_0 hM) rfl dX6_contacts_48 rfl hf (fun m12 hf => ?_)
    refine z_aload_n (i := 0) C dX6_contacts_51 rfl rfl rfl ?_
    refine z_gr C (FX6_contacts_7 hM) (mn_0 hM) (mc_0 hM) rfl dX6_contacts_52 rfl ?_
    refine z_bipush C dX6_contacts_55 zb_11 rfl ?_
    refine z_dup2 C dX6_contacts_57 rfl rfl rfl ?_
    refine z_iaload C (mn_1 hM) (mc_1 hM) dX6_contacts_58 rfl hf (fun v13 hf => ?_)
    refine z_iconst C dX6_contacts_59 zi_1 rfl ?_
    refine z_iadd C dX6_contacts_60 rfl ?_
    refine z_iastore C (mn_1 hM) (mc_1 hM) dX6_contacts_61 rfl hf (fun m14 hf => ?_)
    refine z_iload_n (i := 1) C dX6_contacts_62 rfl rfl rfl ?_
    refine z_iload_n (i := 3) C dX6_contacts_63 rfl rfl rfl ?_
    refine z_csiR (As := [.int a1, .int a3]) (st := []) (m := m14) C gX6_contacts_X6_bucketOf hdX6_bucketOf rfl (fun z h => qX6_bucketOf N a1 a3 m14 z h) rfl (Nat.le_of_ble_eq_true rfl) ⟨Nat.le_of_ble_eq_true rfl, Nat.le_of_ble_eq_true rfl⟩ ⟨Nat.le_refl _, Nat.le_refl _⟩ dX6_contacts_64 rfl rfl hf (fun v15 hf => ?_)
    refine z_istore (lo' := [some (.ref (zad g 0)), some (.int a1), some (.int a2), some (.int a3), some (.int v5), some (.int v15), none]) C dX6_contacts_67 (Nat.le_of_ble_eq_true rfl) rfl rfl rfl ?_
    refine z_aload_n (i := 0) C dX6_contacts_69 rfl rfl rfl ?_
    refine z_aload_n (i := 0) C dX6_contacts_70 rfl rfl rfl ?_
    refine z_iload_n (i := 1) C dX6_contacts_71 rfl rfl rfl ?_
    refine z_cviR (As := [.int a1]) (st := [.ref (zad g 0)]) (m := m14) C (cl_5 hM) (mn_0 hM) (mc_0 hM) gX6_contacts_X6_placeOf hdX6_placeOf rfl (fun z h => qX6_placeOf hM N a1 m14 z h) rfl (Nat.le_of_ble_eq_true rfl) ⟨Nat.le_of_ble_eq_true rfl, Nat.le_of_ble_eq_true rfl⟩ ⟨Nat.le_refl _, Nat.le_refl _⟩ dX6_contacts_72 rfl rfl hf (fun v16 hf => ?_)
    refine z_iload C dX6_contacts_75 rfl rfl ?_
    refine z_iload_n (i := 3) C dX6_contacts_77 rfl rfl rfl ?_
    refine z_cviR (As := [.int v16, .int v15, .int a3]) (st := []) (m := m14) C (cl_5 hM) (mn_0 hM) (mc_0 hM) gX6_contacts_X6_placeIn hdX6_placeIn rfl (fun z h => qX6_placeIn hM N v16 v15 a3 m14 z h) rfl (Nat.le_of_ble_eq_true rfl) ⟨Nat.le_of_ble_eq_true rfl, Nat.le_of_ble_eq_true rfl⟩ ⟨Nat.le_refl _, Nat.le_refl _⟩ dX6_contacts_78 rfl rfl hf (fun v17 hf => ?_)
    refine z_istore (lo' := [some (.ref (zad g 0)), some (.int a1), some (.int a2), some (.int a3), some (.int v5), some (.int v15), some (.int v17)]) C dX6_contacts_81 (Nat.le_of_ble_eq_true rfl) rfl rfl rfl ?_
    refine z_iload C dX6_contacts_83 rfl rfl ?_
    refine z_iconst C dX6_contacts_85 zi_m1 rfl ?_
    refine z_ic_eq (tgt := 102) C dX6_contacts_86 (by decide) rfl hf (fun hf => ?_) (fun hf => ?_)
    · skip
      refine z_goto (pc' := 132) C dX6_contacts_102 (by decide) ?_
      exact hr _ _ _ (Option.some.inj hf) dX6_contacts_132
    · skip
      refine z_aload_n (i := 0) C dX6_contacts_89 rfl rfl rfl ?_
      refine z_aload_n (i := 0) C dX6_contacts_90 rfl rfl rfl ?_
      refine z_iload_n (i := 1) C dX6_contacts_91 rfl rfl rfl ?_
      refine z_cviR (As := [.int a1]) (st := [.ref (zad g 0)]) (m := m14) C (cl_5 hM) (mn_0 hM) (mc_0 hM) gX6_contacts_X6_placeOf hdX6_placeOf rfl (fun z h => qX6_placeOf hM N a1 m14 z h) rfl (Nat.le_of_ble_eq_true rfl) ⟨Nat.le_of_ble_eq_true rfl, Nat.le_of_ble_eq_true rfl⟩ ⟨Nat.le_refl _, Nat.le_refl _⟩ dX6_contacts_92 rfl rfl hf (fun v18 hf => ?_)
      refine z_iload C dX6_contacts_95 rfl rfl ?_
      refine z_iload C dX6_contacts_97 rfl rfl ?_
      refine z_cvvW (As := [.int v18, .int v15, .int v17]) (st := []) (m := m14) C (cl_5 hM) (mn_0 hM) (mc_0 hM) gX6_contacts_X6_drops hdX6_drops rfl (fun z h => qX6_drops hM N v18 v15 v17 m14 z h) rfl (Nat.le_of_ble_eq_true rfl) ⟨Nat.le_of_ble_eq_true rfl, Nat.le_of_ble_eq_true rfl⟩ ⟨Nat.le_refl _, Nat.le_refl _⟩ dX6_contacts_99 rfl rfl hf (fun m19 hf => ?_)
      refine z_goto (pc' := 132) C dX6_contacts_102 (by decide) ?_
      exact hr _ _ _ (Option.some.inj hf) dX6_contacts_132
