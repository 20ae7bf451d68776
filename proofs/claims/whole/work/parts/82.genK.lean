theorem zb_20 : (Int8.ofInt (20)).toInt32 = 20 := by decide
def sX1_spells_17 (a1 : Int32) (i : Nat) (m : zMem) (K49 : Option (Int32)) : (Int32 → Option (Int32)) → Int32 → Option (Int32) := fun rec x3 =>
  if (sLn i >>> ((0 : Int32) &&& 31)) ≤ x3 then
  K49
  else
  kld m 7 120 (a1 + x3) fun v5 =>
  kc1 (fJ1_charAt i x3) fun v6 =>
  if v5 = v6 then
  rec (x3 + 1)
  else
  some 0
def fX1_spells (N : Nat) (a1 : Int32) (i : Nat) (m : zMem) : Option (Int32) :=
  kgi m 6 5 fun v1 =>
  if (v1 - a1) = (sLn i >>> ((0 : Int32) &&& 31)) then
  kjn (some 1) fun K49 =>
  klp (sX1_spells_17 a1 i m K49) N 0
  else
  some 0
theorem FX1_spells_11 {g : zG} (hC : isC g) : zFl wsX1_spells RX1 (zcl g) 11 0 0 := ⟨RX1, TX1, 6, hC.2.2 ▸ rfl, by decide +kernel, by decide, by decide +kernel⟩
theorem FX1_spells_28 {g : zG} (hC : isC g) : zFl wsX1_spells RX1 (zcl g) 28 0 5 := ⟨RX1, TX1, 6, hC.2.2 ▸ rfl, by decide +kernel, by decide, by decide +kernel⟩
theorem hdX1_spells : yX1_spells.cls = RX1 ∧ yX1_spells.cls ≠ "java/lang/invoke/MethodHandle" ∧ yX1_spells.cls ≠ "java/lang/invoke/VarHandle" ∧ (parseMethodDescriptor yX1_spells.desc).map (fun d => d.parameters.length) = some 2 := by decide +kernel
set_option maxHeartbeats 4000000 in
set_option maxRecDepth 100000 in
theorem qX1_spells {l : Launch} {g : zG} {kk : zKK} (hC : isC g) (N : Nat) (a1 : Int32) (i : Nat) (m : zMem) (hi : i < 4) (o : Int32) (hf : fX1_spells N a1 i m = some o) : zKI l g kk yX1_spells wsX1_spells { frames := 4, cells := 0, slots := 0, locals := 85 } [.ref (zad g 6), .int a1, .ref (kk.1 i)] m (o, m) := by
  refine zk_met_z (cc := cX1_spells) (maxL := 4) (lo0 := [some (.ref (zad g 6)), some (.int a1), some (.ref (kk.1 i)), none]) (by decide +kernel) rfl rfl (Nat.le_of_ble_eq_true rfl) (fun x hx C hE hr => ?_)
  unfold fX1_spells at hf
  refine z_aload_n (i := 0) C dX1_spells_0 rfl rfl rfl ?_
  refine z_gi C (FX1_spells_28 hC) (tn_6 hC) (tc_6 hC) rfl dX1_spells_1 rfl hf (fun v1 hf => ?_)
  refine z_iload_n (i := 1) C dX1_spells_4 rfl rfl rfl ?_
  refine z_isub C dX1_spells_5 rfl ?_
  refine z_aload_n (i := 2) C dX1_spells_6 rfl rfl rfl ?_
  refine z_kti (As := []) (st := [.int (v1 - a1)]) (m := m) C hE hi gX1_spells_J0_length_8abf5 hdJ0_length rfl (qJ0_length i hi m) rfl (Nat.le_of_ble_eq_true rfl) ⟨Nat.le_of_ble_eq_true rfl, Nat.le_of_ble_eq_true rfl⟩ ⟨Nat.le_refl _, Nat.le_refl _⟩ dX1_spells_7 rfl rfl ?_
  refine z_ic_eq (tgt := 15) C dX1_spells_10 (by decide) rfl hf (fun hf => ?_) (fun hf => ?_)
  · skip
    refine z_iconst C dX1_spells_15 zi_0 rfl ?_
    refine z_istore_n (i := 3) (lo' := [some (.ref (zad g 6)), some (.int a1), some (.ref (kk.1 i)), some (.int 0)]) C dX1_spells_16 rfl (Nat.le_of_ble_eq_true rfl) rfl rfl rfl ?_
    refine kjn_V (fun K49 => K49 = some o → zV x g 4 0 0 49 [none, none, none, none] [] m) hf (fun  hf => ?_) (fun K49 hK49 hf => ?_)
    · skip
      refine z_iconst C dX1_spells_49 zi_1 rfl ?_
      exact hr _ _ _ _ (Or.inr rfl) (congrArg (fun z => (z, m)) (Option.some.inj hf)) dX1_spells_50
    · skip
      refine klp_V (fun z => zV x g 4 0 0 17 [some (.ref (zad g 6)), some (.int a1), some (.ref (kk.1 i)), some (.int z)] [] m) hf (fun rec z ih hf => ?_)
      generalize z = x3 at hf ⊢
      unfold sX1_spells_17 at hf
      try dsimp only at hf
      try dsimp only
      refine z_iload_n (i := 3) C dX1_spells_17 rfl rfl rfl ?_
      refine z_aload_n (i := 2) C dX1_spells_18 rfl rfl rfl ?_
      refine z_kti (As := []) (st := [.int x3]) (m := m) C hE hi gX1_spells_J0_length_8abf5 hdJ0_length rfl (qJ0_length i hi m) rfl (Nat.le_of_ble_eq_true rfl) ⟨Nat.le_of_ble_eq_true rfl, Nat.le_of_ble_eq_true rfl⟩ ⟨Nat.le_refl _, Nat.le_refl _⟩ dX1_spells_19 rfl rfl ?_
      refine z_ic_ge (tgt := 49) C dX1_spells_22 (by decide) rfl hf (fun hf => ?_) (fun hf => ?_)
      · skip
        refine z_drop (lo' := [none, some (.int a1), some (.ref (kk.1 i)), some (.int x3)]) 0 rfl ?_
        refine z_drop (lo' := [none, none, some (.ref (kk.1 i)), some (.int x3)]) 1 rfl ?_
        refine z_drop (lo' := [none, none, none, some (.int x3)]) 2 rfl ?_
        refine z_drop (lo' := [none, none, none, none]) 3 rfl ?_
        exact hK49 hf
      · skip
        refine z_aload_n (i := 0) C dX1_spells_25 rfl rfl rfl ?_
        refine z_gr C (FX1_spells_11 hC) (tn_6 hC) (tc_6 hC) rfl dX1_spells_26 rfl ?_
        refine z_iload_n (i := 1) C dX1_spells_29 rfl rfl rfl ?_
        refine z_iload_n (i := 3) C dX1_spells_30 rfl rfl rfl ?_
        refine z_iadd C dX1_spells_31 rfl ?_
        refine z_iaload C (tn_7 hC) (tc_7 hC) dX1_spells_32 rfl hf (fun v5 hf => ?_)
        refine z_aload_n (i := 2) C dX1_spells_33 rfl rfl rfl ?_
        refine z_iload_n (i := 3) C dX1_spells_34 rfl rfl rfl ?_
        refine kc1_V hf (fun v6 hz hf => ?_)
        refine z_kti (As := [.int x3]) (st := [.int v5]) (m := m) C hE hi gX1_spells_J0_charAt_5068e hdJ0_charAt rfl (qJ0_charAt i hi _ m _ hz) rfl (Nat.le_of_ble_eq_true rfl) ⟨Nat.le_of_ble_eq_true rfl, Nat.le_of_ble_eq_true rfl⟩ ⟨Nat.le_refl _, Nat.le_refl _⟩ dX1_spells_35 rfl rfl ?_
        refine z_ic_eq (tgt := 43) C dX1_spells_38 (by decide) rfl hf (fun hf => ?_) (fun hf => ?_)
        · skip
          refine z_iinc (v := x3 + 1) (lo' := [some (.ref (zad g 6)), some (.int a1), some (.ref (kk.1 i)), some (.int (x3 + 1))]) C dX1_spells_43 rfl (zinc zi_1) (Nat.le_of_ble_eq_true rfl) rfl rfl rfl ?_
          refine z_goto (pc' := 17) C dX1_spells_46 (by decide) ?_
          exact ih (x3 + 1) hf
        · skip
          refine z_iconst C dX1_spells_41 zi_0 rfl ?_
          exact hr _ _ _ _ (Or.inl rfl) (congrArg (fun z => (z, m)) (Option.some.inj hf)) dX1_spells_42
  · skip
    refine z_iconst C dX1_spells_13 zi_0 rfl ?_
    exact hr _ _ _ _ (Or.inl rfl) (congrArg (fun z => (z, m)) (Option.some.inj hf)) dX1_spells_14

def fX1_wordFrom (N : Nat) (a1 : Int32) (m : zMem) : Option (Int32) :=
  kc1 (fX1_spells N a1 0 m) fun v1 =>
  if v1 = 0 then
  kc1 (fX1_spells N a1 1 m) fun v2 =>
  if v2 = 0 then
  kc1 (fX1_spells N a1 2 m) fun v3 =>
  if v3 = 0 then
  kc1 (fX1_spells N a1 3 m) fun v4 =>
  if v4 = 0 then
  some (-1)
  else
  some 3
  else
  some 2
  else
  some 1
  else
  some 0
theorem hdX1_wordFrom : yX1_wordFrom.cls = RX1 ∧ yX1_wordFrom.cls ≠ "java/lang/invoke/MethodHandle" ∧ yX1_wordFrom.cls ≠ "java/lang/invoke/VarHandle" ∧ (parseMethodDescriptor yX1_wordFrom.desc).map (fun d => d.parameters.length) = some 1 := by decide +kernel
set_option maxHeartbeats 4000000 in
set_option maxRecDepth 100000 in
theorem qX1_wordFrom {l : Launch} {g : zG} {kk : zKK} (hC : isC g) (N : Nat) (a1 : Int32) (m : zMem)  (o : Int32) (hf : fX1_wordFrom N a1 m = some o) : zKI l g kk yX1_wordFrom wsX1_wordFrom { frames := 5, cells := 0, slots := 0, locals := 108 } [.ref (zad g 6), .int a1] m (o, m) := by
  refine zk_met_i (cc := cX1_wordFrom) (maxL := 2) (lo0 := [some (.ref (zad g 6)), some (.int a1)]) (by decide +kernel) rfl rfl (Nat.le_of_ble_eq_true rfl) (fun x hx C hE hr => ?_)
  unfold fX1_wordFrom at hf
  refine z_aload_n (i := 0) C dX1_wordFrom_0 rfl rfl rfl ?_
  refine z_iload_n (i := 1) C dX1_wordFrom_1 rfl rfl rfl ?_
  refine z_lds (i := 0) C hE (by decide) rfl dX1_wordFrom_2 rfl ?_
  refine kc1_V hf (fun v1 hz hf => ?_)
  refine z_kvi (As := [.int a1, .ref (kk.1 0)]) (st := []) (m := m) C hE (cl_0 hC) (tn_6 hC) (tc_6 hC) gX1_wordFrom_X1_spells hdX1_spells rfl (qX1_spells hC N a1 0 m (by decide) _ hz) rfl (Nat.le_of_ble_eq_true rfl) ⟨Nat.le_of_ble_eq_true rfl, Nat.le_of_ble_eq_true rfl⟩ ⟨Nat.le_refl _, Nat.le_refl _⟩ dX1_wordFrom_4 rfl rfl ?_
  refine z_if_eq (tgt := 12) C dX1_wordFrom_7 (by decide) rfl hf (fun hf => ?_) (fun hf => ?_)
  · skip
    refine z_aload_n (i := 0) C dX1_wordFrom_12 rfl rfl rfl ?_
    refine z_iload_n (i := 1) C dX1_wordFrom_13 rfl rfl rfl ?_
    refine z_lds (i := 1) C hE (by decide) rfl dX1_wordFrom_14 rfl ?_
    refine kc1_V hf (fun v2 hz hf => ?_)
    refine z_kvi (As := [.int a1, .ref (kk.1 1)]) (st := []) (m := m) C hE (cl_0 hC) (tn_6 hC) (tc_6 hC) gX1_wordFrom_X1_spells hdX1_spells rfl (qX1_spells hC N a1 1 m (by decide) _ hz) rfl (Nat.le_of_ble_eq_true rfl) ⟨Nat.le_of_ble_eq_true rfl, Nat.le_of_ble_eq_true rfl⟩ ⟨Nat.le_refl _, Nat.le_refl _⟩ dX1_wordFrom_16 rfl rfl ?_
    refine z_if_eq (tgt := 24) C dX1_wordFrom_19 (by decide) rfl hf (fun hf => ?_) (fun hf => ?_)
    · skip
      refine z_aload_n (i := 0) C dX1_wordFrom_24 rfl rfl rfl ?_
      refine z_iload_n (i := 1) C dX1_wordFrom_25 rfl rfl rfl ?_
      refine z_lds (i := 2) C hE (by decide) rfl dX1_wordFrom_26 rfl ?_
      refine kc1_V hf (fun v3 hz hf => ?_)
      refine z_kvi (As := [.int a1, .ref (kk.1 2)]) (st := []) (m := m) C hE (cl_0 hC) (tn_6 hC) (tc_6 hC) gX1_wordFrom_X1_spells hdX1_spells rfl (qX1_spells hC N a1 2 m (by decide) _ hz) rfl (Nat.le_of_ble_eq_true rfl) ⟨Nat.le_of_ble_eq_true rfl, Nat.le_of_ble_eq_true rfl⟩ ⟨Nat.le_refl _, Nat.le_refl _⟩ dX1_wordFrom_28 rfl rfl ?_
      refine z_if_eq (tgt := 36) C dX1_wordFrom_31 (by decide) rfl hf (fun hf => ?_) (fun hf => ?_)
      · skip
        refine z_aload_n (i := 0) C dX1_wordFrom_36 rfl rfl rfl ?_
        refine z_iload_n (i := 1) C dX1_wordFrom_37 rfl rfl rfl ?_
        refine z_lds (i := 3) C hE (by decide) rfl dX1_wordFrom_38 rfl ?_
        refine kc1_V hf (fun v4 hz hf => ?_)
        refine z_kvi (As := [.int a1, .ref (kk.1 3)]) (st := []) (m := m) C hE (cl_0 hC) (tn_6 hC) (tc_6 hC) gX1_wordFrom_X1_spells hdX1_spells rfl (qX1_spells hC N a1 3 m (by decide) _ hz) rfl (Nat.le_of_ble_eq_true rfl) ⟨Nat.le_of_ble_eq_true rfl, Nat.le_of_ble_eq_true rfl⟩ ⟨Nat.le_refl _, Nat.le_refl _⟩ dX1_wordFrom_40 rfl rfl ?_
        refine z_if_eq (tgt := 50) C dX1_wordFrom_43 (by decide) rfl hf (fun hf => ?_) (fun hf => ?_)
        · skip
          refine z_iconst C dX1_wordFrom_50 zi_m1 rfl ?_
          exact hr _ _ _ _ (congrArg (fun z => (z, m)) (Option.some.inj hf)) dX1_wordFrom_51
        · skip
          refine z_iconst C dX1_wordFrom_46 zi_3 rfl ?_
          refine z_goto (pc' := 51) C dX1_wordFrom_47 (by decide) ?_
          exact hr _ _ _ _ (congrArg (fun z => (z, m)) (Option.some.inj hf)) dX1_wordFrom_51
      · skip
        refine z_iconst C dX1_wordFrom_34 zi_2 rfl ?_
        exact hr _ _ _ _ (congrArg (fun z => (z, m)) (Option.some.inj hf)) dX1_wordFrom_35
    · skip
      refine z_iconst C dX1_wordFrom_22 zi_1 rfl ?_
      exact hr _ _ _ _ (congrArg (fun z => (z, m)) (Option.some.inj hf)) dX1_wordFrom_23
  · skip
    refine z_iconst C dX1_wordFrom_10 zi_0 rfl ?_
    exact hr _ _ _ _ (congrArg (fun z => (z, m)) (Option.some.inj hf)) dX1_wordFrom_11

def sX1_readCommand_34 (N : Nat) (v3 : Int32) (K68 : zMem → Option (Int32 × zMem)) : (Int32 × zMem → Option (Int32 × zMem)) → Int32 × zMem → Option (Int32 × zMem) := fun rec (x12, m13) =>
  kc1 (fX1_numbersOf v3) fun v14 =>
  if v14 ≤ x12 then
  K68 m13
  else
  kgi m13 6 3 fun v15 =>
  kc2 (fX1_readNumber N ((v15 * 3) + x12) m13) fun v16 m17 =>
  if v16 = 0 then
  kgi m17 6 5 fun v18 =>
  some (v18, m17)
  else
  rec (x12 + 1, m17)
def fX1_readCommand (N : Nat) (m : zMem) : Option (Int32 × zMem) :=
  kgi m 6 5 fun v1 =>
  kc1 (fX1_skipLetters N m) fun m2 =>
  kc1 (fX1_wordFrom N v1 m2) fun v3 =>
  if v3 = (-1) then
  some (v1, m2)
  else
  kgi m2 6 3 fun v4 =>
  kst m2 8 20 v4 v3 fun m5 =>
  kjn (fun (m6 : zMem) =>
  kc1 (fX1_skipSpaces N m6) fun m7 =>
  kc1 (fX1_peek m7) fun v8 =>
  if v8 = 59 then
  kgi m7 6 5 fun v9 =>
  kpi m7 6 5 (v9 + 1) fun m10 =>
  some ((-1), m10)
  else
  kgi m7 6 5 fun v11 =>
  some (v11, m7)) fun K68 =>
  klp (sX1_readCommand_34 N v3 K68) N (0, m5)
theorem FX1_readCommand_19 {g : zG} (hC : isC g) : zFl wsX1_readCommand RX1 (zcl g) 19 0 2 := ⟨RX1, TX1, 6, hC.2.2 ▸ rfl, by decide +kernel, by decide, by decide +kernel⟩
theorem FX1_readCommand_22 {g : zG} (hC : isC g) : zFl wsX1_readCommand RX1 (zcl g) 22 0 3 := ⟨RX1, TX1, 6, hC.2.2 ▸ rfl, by decide +kernel, by decide, by decide +kernel⟩
theorem FX1_readCommand_28 {g : zG} (hC : isC g) : zFl wsX1_readCommand RX1 (zcl g) 28 0 5 := ⟨RX1, TX1, 6, hC.2.2 ▸ rfl, by decide +kernel, by decide, by decide +kernel⟩
theorem PX1_readCommand_28 {g : zG} (hC : isC g) : zFp wsX1_readCommand RX1 (zcl g) 28 0 5 .int := ⟨RX1, TX1, 6, tyX1, hC.2.2 ▸ rfl, by decide +kernel, by decide, by decide +kernel, tyX1_ok, nmX1, rfl, by decide +kernel⟩
theorem hdX1_readCommand : yX1_readCommand.cls = RX1 ∧ yX1_readCommand.cls ≠ "java/lang/invoke/MethodHandle" ∧ yX1_readCommand.cls ≠ "java/lang/invoke/VarHandle" ∧ (parseMethodDescriptor yX1_readCommand.desc).map (fun d => d.parameters.length) = some 0 := by decide +kernel
set_option maxHeartbeats 4000000 in
set_option maxRecDepth 100000 in
theorem qX1_readCommand {l : Launch} {g : zG} {kk : zKK} (hC : isC g) (N : Nat) (m : zMem)  (o : Int32 × zMem) (hf : fX1_readCommand N m = some o) : zKI l g kk yX1_readCommand wsX1_readCommand { frames := 6, cells := 0, slots := 0, locals := 129 } [.ref (zad g 6)] m o := by
  refine zk_met_i (cc := cX1_readCommand) (maxL := 4) (lo0 := [some (.ref (zad g 6)), none, none, none]) (by decide +kernel) rfl rfl (Nat.le_of_ble_eq_true rfl) (fun x hx C hE hr => ?_)
  unfold fX1_readCommand at hf
  refine z_aload_n (i := 0) C dX1_readCommand_0 rfl rfl rfl ?_
  refine z_gi C (FX1_readCommand_28 hC) (tn_6 hC) (tc_6 hC) rfl dX1_readCommand_1 rfl hf (fun v1 hf => ?_)
  refine z_istore_n (i := 1) (lo' := [some (.ref (zad g 6)), some (.int v1), none, none]) C dX1_readCommand_4 rfl (Nat.le_of_ble_eq_true rfl) rfl rfl rfl ?_
  refine z_aload_n (i := 0) C dX1_readCommand_5 rfl rfl rfl ?_
  refine z_cvvW (As := []) (st := []) (m := m) C (cl_0 hC) (tn_6 hC) (tc_6 hC) gX1_readCommand_X1_skipLetters hdX1_skipLetters rfl (fun z h => qX1_skipLetters hC N m z h) rfl (Nat.le_of_ble_eq_true rfl) ⟨Nat.le_of_ble_eq_true rfl, Nat.le_of_ble_eq_true rfl⟩ ⟨Nat.le_refl _, Nat.le_refl _⟩ dX1_readCommand_6 rfl rfl hf (fun m2 hf => ?_)
  refine z_aload_n (i := 0) C dX1_readCommand_9 rfl rfl rfl ?_
  refine z_iload_n (i := 1) C dX1_readCommand_10 rfl rfl rfl ?_
  refine kc1_V hf (fun v3 hz hf => ?_)
  refine z_kvi (As := [.int v1]) (st := []) (m := m2) C hE (cl_0 hC) (tn_6 hC) (tc_6 hC) gX1_readCommand_X1_wordFrom hdX1_wordFrom rfl (qX1_wordFrom hC N v1 m2  _ hz) rfl (Nat.le_of_ble_eq_true rfl) ⟨Nat.le_of_ble_eq_true rfl, Nat.le_of_ble_eq_true rfl⟩ ⟨Nat.le_refl _, Nat.le_refl _⟩ dX1_readCommand_11 rfl rfl ?_
  refine z_istore_n (i := 2) (lo' := [some (.ref (zad g 6)), some (.int v1), some (.int v3), none]) C dX1_readCommand_14 rfl (Nat.le_of_ble_eq_true rfl) rfl rfl rfl ?_
  refine z_iload_n (i := 2) C dX1_readCommand_15 rfl rfl rfl ?_
  refine z_iconst C dX1_readCommand_16 zi_m1 rfl ?_
  refine z_ic_ne (tgt := 22) C dX1_readCommand_17 (by decide) rfl hf (fun hf => ?_) (fun hf => ?_)
  · skip
    refine z_aload_n (i := 0) C dX1_readCommand_22 rfl rfl rfl ?_
    refine z_gr C (FX1_readCommand_19 hC) (tn_6 hC) (tc_6 hC) rfl dX1_readCommand_23 rfl ?_
    refine z_aload_n (i := 0) C dX1_readCommand_26 rfl rfl rfl ?_
    refine z_gi C (FX1_readCommand_22 hC) (tn_6 hC) (tc_6 hC) rfl dX1_readCommand_27 rfl hf (fun v4 hf => ?_)
    refine z_iload_n (i := 2) C dX1_readCommand_30 rfl rfl rfl ?_
    refine z_iastore C (tn_8 hC) (tc_8 hC) dX1_readCommand_31 rfl hf (fun m5 hf => ?_)
    refine z_iconst C dX1_readCommand_32 zi_0 rfl ?_
    refine z_istore_n (i := 3) (lo' := [some (.ref (zad g 6)), some (.int v1), some (.int v3), some (.int 0)]) C dX1_readCommand_33 rfl (Nat.le_of_ble_eq_true rfl) rfl rfl rfl ?_
    refine z_drop (lo' := [some (.ref (zad g 6)), none, some (.int v3), some (.int 0)]) 1 rfl ?_
    refine kjn_V (fun K68 => ∀ (m6 : zMem), K68 m6 = some o → zV x g 4 0 0 68 [some (.ref (zad g 6)), none, none, none] [] m6) hf (fun m6 hf => ?_) (fun K68 hK68 hf => ?_)
    · skip
      refine z_aload_n (i := 0) C dX1_readCommand_68 rfl rfl rfl ?_
      refine z_cvvW (As := []) (st := []) (m := m6) C (cl_0 hC) (tn_6 hC) (tc_6 hC) gX1_readCommand_X1_skipSpaces hdX1_skipSpaces rfl (fun z h => qX1_skipSpaces hC N m6 z h) rfl (Nat.le_of_ble_eq_true rfl) ⟨Nat.le_of_ble_eq_true rfl, Nat.le_of_ble_eq_true rfl⟩ ⟨Nat.le_refl _, Nat.le_refl _⟩ dX1_readCommand_69 rfl rfl hf (fun m7 hf => ?_)
      refine z_aload_n (i := 0) C dX1_readCommand_72 rfl rfl rfl ?_
      refine z_cviR (As := []) (st := []) (m := m7) C (cl_0 hC) (tn_6 hC) (tc_6 hC) gX1_readCommand_X1_peek hdX1_peek rfl (fun z h => qX1_peek hC m7 z h) rfl (Nat.le_of_ble_eq_true rfl) ⟨Nat.le_of_ble_eq_true rfl, Nat.le_of_ble_eq_true rfl⟩ ⟨Nat.le_refl _, Nat.le_refl _⟩ dX1_readCommand_73 rfl rfl hf (fun v8 hf => ?_)
      refine z_bipush C dX1_readCommand_76 zb_59 rfl ?_
      refine z_ic_eq (tgt := 86) C dX1_readCommand_78 (by decide) rfl hf (fun hf => ?_) (fun hf => ?_)
      · skip
        refine z_aload_n (i := 0) C dX1_readCommand_86 rfl rfl rfl ?_
        refine z_dup C dX1_readCommand_87 rfl rfl ?_
        refine z_gi C (FX1_readCommand_28 hC) (tn_6 hC) (tc_6 hC) rfl dX1_readCommand_88 rfl hf (fun v9 hf => ?_)
        refine z_iconst C dX1_readCommand_91 zi_1 rfl ?_
        refine z_iadd C dX1_readCommand_92 rfl ?_
        refine z_pi C (PX1_readCommand_28 hC) (tn_6 hC) (tc_6 hC) rfl dX1_readCommand_93 rfl hf (fun m10 hf => ?_)
        refine z_iconst C dX1_readCommand_96 zi_m1 rfl ?_
        exact hr _ _ _ _ (Option.some.inj hf) dX1_readCommand_97
      · skip
        refine z_aload_n (i := 0) C dX1_readCommand_81 rfl rfl rfl ?_
        refine z_gi C (FX1_readCommand_28 hC) (tn_6 hC) (tc_6 hC) rfl dX1_readCommand_82 rfl hf (fun v11 hf => ?_)
        exact hr _ _ _ _ (Option.some.inj hf) dX1_readCommand_85
    · skip
      refine klp_V (fun z => zV x g 4 0 0 34 [some (.ref (zad g 6)), none, some (.int v3), some (.int z.1)] [] z.2) hf (fun rec z ih hf => ?_)
      obtain ⟨x12, m13⟩ := z
      unfold sX1_readCommand_34 at hf
      try dsimp only at hf
      try dsimp only
      refine z_iload_n (i := 3) C dX1_readCommand_34 rfl rfl rfl ?_
      refine z_iload_n (i := 2) C dX1_readCommand_35 rfl rfl rfl ?_
      refine z_csiR (As := [.int v3]) (st := [.int x12]) (m := m13) C gX1_readCommand_X1_numbersOf hdX1_numbersOf rfl (fun z h => qX1_numbersOf v3 m13 z h) rfl (Nat.le_of_ble_eq_true rfl) ⟨Nat.le_of_ble_eq_true rfl, Nat.le_of_ble_eq_true rfl⟩ ⟨Nat.le_refl _, Nat.le_refl _⟩ dX1_readCommand_36 rfl rfl hf (fun v14 hf => ?_)
      refine z_ic_ge (tgt := 68) C dX1_readCommand_39 (by decide) rfl hf (fun hf => ?_) (fun hf => ?_)
      · skip
        refine z_drop (lo' := [some (.ref (zad g 6)), none, none, some (.int x12)]) 2 rfl ?_
        refine z_drop (lo' := [some (.ref (zad g 6)), none, none, none]) 3 rfl ?_
        exact hK68 _ hf
      · skip
        refine z_aload_n (i := 0) C dX1_readCommand_42 rfl rfl rfl ?_
        refine z_aload_n (i := 0) C dX1_readCommand_43 rfl rfl rfl ?_
        refine z_gi C (FX1_readCommand_22 hC) (tn_6 hC) (tc_6 hC) rfl dX1_readCommand_44 rfl hf (fun v15 hf => ?_)
        refine z_iconst C dX1_readCommand_47 zi_3 rfl ?_
        refine z_imul C dX1_readCommand_48 rfl ?_
        refine z_iload_n (i := 3) C dX1_readCommand_49 rfl rfl rfl ?_
        refine z_iadd C dX1_readCommand_50 rfl ?_
        refine z_cviW (As := [.int ((v15 * 3) + x12)]) (st := []) (m := m13) C (cl_0 hC) (tn_6 hC) (tc_6 hC) gX1_readCommand_X1_readNumber hdX1_readNumber rfl (fun z h => qX1_readNumber hC N ((v15 * 3) + x12) m13 z h) rfl (Nat.le_of_ble_eq_true rfl) ⟨Nat.le_of_ble_eq_true rfl, Nat.le_of_ble_eq_true rfl⟩ ⟨Nat.le_refl _, Nat.le_refl _⟩ dX1_readCommand_51 rfl rfl hf (fun v16 m17 hf => ?_)
        refine z_if_ne (tgt := 62) C dX1_readCommand_54 (by decide) rfl hf (fun hf => ?_) (fun hf => ?_)
        · skip
          refine z_iinc (v := x12 + 1) (lo' := [some (.ref (zad g 6)), none, some (.int v3), some (.int (x12 + 1))]) C dX1_readCommand_62 rfl (zinc zi_1) (Nat.le_of_ble_eq_true rfl) rfl rfl rfl ?_
          refine z_goto (pc' := 34) C dX1_readCommand_65 (by decide) ?_
          exact ih (x12 + 1, m17) hf
        · skip
          refine z_aload_n (i := 0) C dX1_readCommand_57 rfl rfl rfl ?_
          refine z_gi C (FX1_readCommand_28 hC) (tn_6 hC) (tc_6 hC) rfl dX1_readCommand_58 rfl hf (fun v18 hf => ?_)
          exact hr _ _ _ _ (Option.some.inj hf) dX1_readCommand_61
  · skip
    refine z_iload_n (i := 1) C dX1_readCommand_20 rfl rfl rfl ?_
    exact hr _ _ _ _ (Option.some.inj hf) dX1_readCommand_21

def sX1_parse_12 (N : Nat) (K63 : zMem → Option (Int32 × zMem)) : (Int32 × zMem → Option (Int32 × zMem)) → Int32 × zMem → Option (Int32 × zMem) := fun rec (x4, m5) =>
  if 20 ≤ x4 then
  K63 m5
  else
  kc1 (fX1_skipSpaces N m5) fun m6 =>
  kgi m6 6 5 fun v7 =>
  kgi m6 6 1 fun v8 =>
  if v7 < v8 then
  kc2 (fX1_readCommand N m6) fun v9 m10 =>
  if v9 = (-1) then
  kgi m10 6 3 fun v11 =>
  kpi m10 6 3 (v11 + 1) fun m12 =>
  rec (x4 + 1, m12)
  else
  some (v9, m10)
  else
  some ((-1), m6)
def fX1_parse (N : Nat) (m : zMem) : Option (Int32 × zMem) :=
  kpi m 6 5 0 fun m1 =>
  kpi m1 6 3 0 fun m2 =>
  kjn (fun (m3 : zMem) =>
  some ((-1), m3)) fun K63 =>
  klp (sX1_parse_12 N K63) N (0, m2)
theorem FX1_parse_15 {g : zG} (hC : isC g) : zFl wsX1_parse RX1 (zcl g) 15 0 1 := ⟨RX1, TX1, 6, hC.2.2 ▸ rfl, by decide +kernel, by decide, by decide +kernel⟩
theorem FX1_parse_22 {g : zG} (hC : isC g) : zFl wsX1_parse RX1 (zcl g) 22 0 3 := ⟨RX1, TX1, 6, hC.2.2 ▸ rfl, by decide +kernel, by decide, by decide +kernel⟩
theorem PX1_parse_22 {g : zG} (hC : isC g) : zFp wsX1_parse RX1 (zcl g) 22 0 3 .int := ⟨RX1, TX1, 6, tyX1, hC.2.2 ▸ rfl, by decide +kernel, by decide, by decide +kernel, tyX1_ok, nmX1, rfl, by decide +kernel⟩
theorem FX1_parse_28 {g : zG} (hC : isC g) : zFl wsX1_parse RX1 (zcl g) 28 0 5 := ⟨RX1, TX1, 6, hC.2.2 ▸ rfl, by decide +kernel, by decide, by decide +kernel⟩
theorem PX1_parse_28 {g : zG} (hC : isC g) : zFp wsX1_parse RX1 (zcl g) 28 0 5 .int := ⟨RX1, TX1, 6, tyX1, hC.2.2 ▸ rfl, by decide +kernel, by decide, by decide +kernel, tyX1_ok, nmX1, rfl, by decide +kernel⟩
theorem hdX1_parse : yX1_parse.cls = RX1 ∧ yX1_parse.cls ≠ "java/lang/invoke/MethodHandle" ∧ yX1_parse.cls ≠ "java/lang/invoke/VarHandle" ∧ (parseMethodDescriptor yX1_parse.desc).map (fun d => d.parameters.length) = some 0 := by decide +kernel
set_option maxHeartbeats 4000000 in
set_option maxRecDepth 100000 in
theorem qX1_parse {l : Launch} {g : zG} {kk : zKK} (hC : isC g) (N : Nat) (m : zMem)  (o : Int32 × zMem) (hf : fX1_parse N m = some o) : zKI l g kk yX1_parse wsX1_parse { frames := 7, cells := 0, slots := 0, locals := 152 } [.ref (zad g 6)] m o := by
  refine zk_met_i (cc := cX1_parse) (maxL := 3) (lo0 := [some (.ref (zad g 6)), none, none]) (by decide +kernel) rfl rfl (Nat.le_of_ble_eq_true rfl) (fun x hx C hE hr => ?_)
  unfold fX1_parse at hf
  refine z_aload_n (i := 0) C dX1_parse_0 rfl rfl rfl ?_
  refine z_iconst C dX1_parse_1 zi_0 rfl ?_
  refine z_pi C (PX1_parse_28 hC) (tn_6 hC) (tc_6 hC) rfl dX1_parse_2 rfl hf (fun m1 hf => ?_)
  refine z_aload_n (i := 0) C dX1_parse_5 rfl rfl rfl ?_
  refine z_iconst C dX1_parse_6 zi_0 rfl ?_
  refine z_pi C (PX1_parse_22 hC) (tn_6 hC) (tc_6 hC) rfl dX1_parse_7 rfl hf (fun m2 hf => ?_)
  refine z_iconst C dX1_parse_10 zi_0 rfl ?_
  refine z_istore_n (i := 1) (lo' := [some (.ref (zad g 6)), some (.int 0), none]) C dX1_parse_11 rfl (Nat.le_of_ble_eq_true rfl) rfl rfl rfl ?_
  refine kjn_V (fun K63 => ∀ (m3 : zMem), K63 m3 = some o → zV x g 3 0 0 63 [none, none, none] [] m3) hf (fun m3 hf => ?_) (fun K63 hK63 hf => ?_)
  · skip
    refine z_iconst C dX1_parse_63 zi_m1 rfl ?_
    exact hr _ _ _ _ (Option.some.inj hf) dX1_parse_64
  · skip
    refine klp_V (fun z => zV x g 3 0 0 12 [some (.ref (zad g 6)), some (.int z.1), none] [] z.2) hf (fun rec z ih hf => ?_)
    obtain ⟨x4, m5⟩ := z
    unfold sX1_parse_12 at hf
    try dsimp only at hf
    try dsimp only
    refine z_iload_n (i := 1) C dX1_parse_12 rfl rfl rfl ?_
    refine z_bipush C dX1_parse_13 zb_20 rfl ?_
    refine z_ic_ge (tgt := 63) C dX1_parse_15 (by decide) rfl hf (fun hf => ?_) (fun hf => ?_)
    · skip
      refine z_drop (lo' := [none, some (.int x4), none]) 0 rfl ?_
      refine z_drop (lo' := [none, none, none]) 1 rfl ?_
      exact hK63 _ hf
    · skip
      refine z_aload_n (i := 0) C dX1_parse_18 rfl rfl rfl ?_
      refine z_cvvW (As := []) (st := []) (m := m5) C (cl_0 hC) (tn_6 hC) (tc_6 hC) gX1_parse_X1_skipSpaces hdX1_skipSpaces rfl (fun z h => qX1_skipSpaces hC N m5 z h) rfl (Nat.le_of_ble_eq_true rfl) ⟨Nat.le_of_ble_eq_true rfl, Nat.le_of_ble_eq_true rfl⟩ ⟨Nat.le_refl _, Nat.le_refl _⟩ dX1_parse_19 rfl rfl hf (fun m6 hf => ?_)
      refine z_aload_n (i := 0) C dX1_parse_22 rfl rfl rfl ?_
      refine z_gi C (FX1_parse_28 hC) (tn_6 hC) (tc_6 hC) rfl dX1_parse_23 rfl hf (fun v7 hf => ?_)
      refine z_aload_n (i := 0) C dX1_parse_26 rfl rfl rfl ?_
      refine z_gi C (FX1_parse_15 hC) (tn_6 hC) (tc_6 hC) rfl dX1_parse_27 rfl hf (fun v8 hf => ?_)
      refine z_ic_lt (tgt := 35) C dX1_parse_30 (by decide) rfl hf (fun hf => ?_) (fun hf => ?_)
      · skip
        refine z_aload_n (i := 0) C dX1_parse_35 rfl rfl rfl ?_
        refine kc2_V hf (fun z hz hf => ?_)
        refine z_kvi (As := []) (st := []) (m := m6) C hE (cl_0 hC) (tn_6 hC) (tc_6 hC) gX1_parse_X1_readCommand hdX1_readCommand rfl (qX1_readCommand hC N m6  _ hz) rfl (Nat.le_of_ble_eq_true rfl) ⟨Nat.le_of_ble_eq_true rfl, Nat.le_of_ble_eq_true rfl⟩ ⟨Nat.le_refl _, Nat.le_refl _⟩ dX1_parse_36 rfl rfl ?_
        obtain ⟨v9, m10⟩ := z
        dsimp only at hf ⊢
        refine z_istore_n (i := 2) (lo' := [some (.ref (zad g 6)), some (.int x4), some (.int v9)]) C dX1_parse_39 rfl (Nat.le_of_ble_eq_true rfl) rfl rfl rfl ?_
        refine z_iload_n (i := 2) C dX1_parse_40 rfl rfl rfl ?_
        refine z_iconst C dX1_parse_41 zi_m1 rfl ?_
        refine z_ic_eq (tgt := 47) C dX1_parse_42 (by decide) rfl hf (fun hf => ?_) (fun hf => ?_)
        · skip
          refine z_aload_n (i := 0) C dX1_parse_47 rfl rfl rfl ?_
          refine z_dup C dX1_parse_48 rfl rfl ?_
          refine z_gi C (FX1_parse_22 hC) (tn_6 hC) (tc_6 hC) rfl dX1_parse_49 rfl hf (fun v11 hf => ?_)
          refine z_iconst C dX1_parse_52 zi_1 rfl ?_
          refine z_iadd C dX1_parse_53 rfl ?_
          refine z_pi C (PX1_parse_22 hC) (tn_6 hC) (tc_6 hC) rfl dX1_parse_54 rfl hf (fun m12 hf => ?_)
          refine z_iinc (v := x4 + 1) (lo' := [some (.ref (zad g 6)), some (.int (x4 + 1)), some (.int v9)]) C dX1_parse_57 rfl (zinc zi_1) (Nat.le_of_ble_eq_true rfl) rfl rfl rfl ?_
          refine z_goto (pc' := 12) C dX1_parse_60 (by decide) ?_
          refine z_drop (lo' := [some (.ref (zad g 6)), some (.int (x4 + 1)), none]) 2 rfl ?_
          exact ih (x4 + 1, m12) hf
        · skip
          refine z_iload_n (i := 2) C dX1_parse_45 rfl rfl rfl ?_
          exact hr _ _ _ _ (Option.some.inj hf) dX1_parse_46
      · skip
        refine z_iconst C dX1_parse_33 zi_m1 rfl ?_
        exact hr _ _ _ _ (Option.some.inj hf) dX1_parse_34

def sX5_run_24 (N : Nat) (K49 : Int32 → zMem → Option (Int32 × zMem)) : (Int32 × zMem → Option (Int32 × zMem)) → Int32 × zMem → Option (Int32 × zMem) := fun rec (x6, m7) =>
  kgi m7 6 3 fun v8 =>
  if v8 ≤ x6 then
  K49 x6 m7
  else
  kc2 (fX5_carryOut N x6 m7) fun v9 m10 =>
  if v9 = 0 then
  K49 x6 m10
  else
  rec (x6 + 1, m10)
def fX5_run (N : Nat) (m : zMem) : Option (Int32 × zMem) :=
  kc2 (fX1_parse N m) fun v1 m2 =>
  if v1 = (-1) then
  kc1 (fX5_save m2) fun m3 =>
  kjn (fun (w4 : Int32) (m5 : zMem) =>
  some (w4, m5)) fun K49 =>
  klp (sX5_run_24 N K49) N (0, m3)
  else
  some ((-10) - v1, m2)
theorem FX5_run_19 {g : zG} (hC : isC g) : zFl wsX5_run RX5 (zcl g) 19 4 1 := ⟨RX5, TX5, 7, hC.2.2 ▸ rfl, by decide +kernel, by decide, by decide +kernel⟩
theorem FX5_run_197 {g : zG} (hC : isC g) : zFl wsX5_run RX5 (zcl g) 197 0 3 := ⟨RX1, TX1, 6, hC.2.2 ▸ rfl, by decide +kernel, by decide, by decide +kernel⟩
theorem hdX5_run : yX5_run.cls = RX5 ∧ yX5_run.cls ≠ "java/lang/invoke/MethodHandle" ∧ yX5_run.cls ≠ "java/lang/invoke/VarHandle" ∧ (parseMethodDescriptor yX5_run.desc).map (fun d => d.parameters.length) = some 0 := by decide +kernel
set_option maxHeartbeats 4000000 in
set_option maxRecDepth 100000 in
theorem qX5_run {l : Launch} {g : zG} {kk : zKK} (hC : isC g) (N : Nat) (m : zMem)  (o : Int32 × zMem) (hf : fX5_run N m = some o) : zKI l g kk yX5_run wsX5_run { frames := 8, cells := 0, slots := 0, locals := 174 } [.ref (zad g 0)] m o := by
  refine zk_met_i (cc := cX5_run) (maxL := 3) (lo0 := [some (.ref (zad g 0)), none, none]) (by decide +kernel) rfl rfl (Nat.le_of_ble_eq_true rfl) (fun x hx C hE hr => ?_)
  unfold fX5_run at hf
  refine z_aload_n (i := 0) C dX5_run_0 rfl rfl rfl ?_
  refine z_gr C (FX5_run_19 hC) (tn_0 hC) (tc_0 hC) rfl dX5_run_1 rfl ?_
  refine kc2_V hf (fun z hz hf => ?_)
  refine z_kvi (As := []) (st := []) (m := m) C hE (cl_0 hC) (tn_6 hC) (tc_6 hC) gX5_run_X1_parse hdX1_parse rfl (qX1_parse hC N m  _ hz) rfl (Nat.le_of_ble_eq_true rfl) ⟨Nat.le_of_ble_eq_true rfl, Nat.le_of_ble_eq_true rfl⟩ ⟨Nat.le_refl _, Nat.le_refl _⟩ dX5_run_4 rfl rfl ?_
  obtain ⟨v1, m2⟩ := z
  dsimp only at hf ⊢
  refine z_istore_n (i := 1) (lo' := [some (.ref (zad g 0)), some (.int v1), none]) C dX5_run_7 rfl (Nat.le_of_ble_eq_true rfl) rfl rfl rfl ?_
  refine z_iload_n (i := 1) C dX5_run_8 rfl rfl rfl ?_
  refine z_iconst C dX5_run_9 zi_m1 rfl ?_
  refine z_ic_eq (tgt := 18) C dX5_run_10 (by decide) rfl hf (fun hf => ?_) (fun hf => ?_)
  · skip
    refine z_aload_n (i := 0) C dX5_run_18 rfl rfl rfl ?_
    refine z_cvvW (As := []) (st := []) (m := m2) C (cl_4 hC) (tn_0 hC) (tc_0 hC) gX5_run_X5_save hdX5_save rfl (fun z h => qX5_save hC m2 z h) rfl (Nat.le_of_ble_eq_true rfl) ⟨Nat.le_of_ble_eq_true rfl, Nat.le_of_ble_eq_true rfl⟩ ⟨Nat.le_refl _, Nat.le_refl _⟩ dX5_run_19 rfl rfl hf (fun m3 hf => ?_)
    refine z_iconst C dX5_run_22 zi_0 rfl ?_
    refine z_istore_n (i := 2) (lo' := [some (.ref (zad g 0)), some (.int v1), some (.int 0)]) C dX5_run_23 rfl (Nat.le_of_ble_eq_true rfl) rfl rfl rfl ?_
    refine z_drop (lo' := [some (.ref (zad g 0)), none, some (.int 0)]) 1 rfl ?_
    refine kjn_V (fun K49 => ∀ (w4 : Int32) (m5 : zMem), K49 w4 m5 = some o → zV x g 3 0 0 49 [none, none, some (.int w4)] [] m5) hf (fun w4 m5 hf => ?_) (fun K49 hK49 hf => ?_)
    · skip
      refine z_iload_n (i := 2) C dX5_run_49 rfl rfl rfl ?_
      exact hr _ _ _ _ (Option.some.inj hf) dX5_run_50
    · skip
      refine klp_V (fun z => zV x g 3 0 0 24 [some (.ref (zad g 0)), none, some (.int z.1)] [] z.2) hf (fun rec z ih hf => ?_)
      obtain ⟨x6, m7⟩ := z
      unfold sX5_run_24 at hf
      try dsimp only at hf
      try dsimp only
      refine z_iload_n (i := 2) C dX5_run_24 rfl rfl rfl ?_
      refine z_aload_n (i := 0) C dX5_run_25 rfl rfl rfl ?_
      refine z_gr C (FX5_run_19 hC) (tn_0 hC) (tc_0 hC) rfl dX5_run_26 rfl ?_
      refine z_gi C (FX5_run_197 hC) (tn_6 hC) (tc_6 hC) rfl dX5_run_29 rfl hf (fun v8 hf => ?_)
      refine z_ic_ge (tgt := 49) C dX5_run_32 (by decide) rfl hf (fun hf => ?_) (fun hf => ?_)
      · skip
        refine z_drop (lo' := [none, none, some (.int x6)]) 0 rfl ?_
        exact hK49 _ _ hf
      · skip
        refine z_aload_n (i := 0) C dX5_run_35 rfl rfl rfl ?_
        refine z_iload_n (i := 2) C dX5_run_36 rfl rfl rfl ?_
        refine z_cviW (As := [.int x6]) (st := []) (m := m7) C (cl_4 hC) (tn_0 hC) (tc_0 hC) gX5_run_X5_carryOut hdX5_carryOut rfl (fun z h => qX5_carryOut hC N x6 m7 z h) rfl (Nat.le_of_ble_eq_true rfl) ⟨Nat.le_of_ble_eq_true rfl, Nat.le_of_ble_eq_true rfl⟩ ⟨Nat.le_refl _, Nat.le_refl _⟩ dX5_run_37 rfl rfl hf (fun v9 m10 hf => ?_)
        refine z_if_eq (tgt := 49) C dX5_run_40 (by decide) rfl hf (fun hf => ?_) (fun hf => ?_)
        · skip
          refine z_drop (lo' := [none, none, some (.int x6)]) 0 rfl ?_
          exact hK49 _ _ hf
        · skip
          refine z_iinc (v := x6 + 1) (lo' := [some (.ref (zad g 0)), none, some (.int (x6 + 1))]) C dX5_run_43 rfl (zinc zi_1) (Nat.le_of_ble_eq_true rfl) rfl rfl rfl ?_
          refine z_goto (pc' := 24) C dX5_run_46 (by decide) ?_
          exact ih (x6 + 1, m10) hf
  · skip
    refine z_bipush C dX5_run_13 zb_m10 rfl ?_
    refine z_iload_n (i := 1) C dX5_run_15 rfl rfl rfl ?_
    refine z_isub C dX5_run_16 rfl ?_
    exact hr _ _ _ _ (Option.some.inj hf) dX5_run_17
