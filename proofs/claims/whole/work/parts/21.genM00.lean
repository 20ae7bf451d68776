def fX6_thrown (m : zMem) : Option (Int32) :=
  kgi m 0 4 fun v1 =>
  some v1
theorem FX6_thrown_28 {g : zG} (hM : isM g) : zFl wsX6_thrown RX6 (zcl g) 28 5 4 := ⟨RX6, TX6, 15, hM.2.2 ▸ rfl, by decide +kernel, by decide, by decide +kernel⟩
theorem hdX6_thrown : yX6_thrown.cls = RX6 ∧ yX6_thrown.cls ≠ "java/lang/invoke/MethodHandle" ∧ yX6_thrown.cls ≠ "java/lang/invoke/VarHandle" ∧ (parseMethodDescriptor yX6_thrown.desc).map (fun d => d.parameters.length) = some 0 := by decide +kernel
set_option maxHeartbeats 4000000 in
set_option maxRecDepth 100000 in
theorem qX6_thrown {l : Launch} {g : zG} (hM : isM g)  (m : zMem)  (o : Int32) (hf : fX6_thrown m = some o) : zMI l g yX6_thrown wsX6_thrown { frames := 0, cells := 0, slots := 0, locals := 0 } [.ref (zad g 0)] m (o, m) := by
  refine z_met_i (cc := cX6_thrown) (maxL := 1) (lo0 := [some (.ref (zad g 0))]) (by decide +kernel) rfl rfl (Nat.le_of_ble_eq_true rfl) (fun x hx C hr => ?_)
  unfold fX6_thrown at hf
  refine z_aload_n (i := 0) C dX6_thrown_0 rfl rfl rfl ?_
  refine z_gi C (FX6_thrown_28 hM) (mn_0 hM) (mc_0 hM) rfl dX6_thrown_1 rfl hf (fun v1 hf => ?_)
  exact hr _ _ _ _ (congrArg (fun z => (z, m)) (Option.some.inj hf)) dX6_thrown_4

def fX6_refused (a1 : Int32) (m : zMem) : Option (Int32 × zMem) :=
  kpi m 0 4 a1 fun m1 =>
  if a1 ≤ 0 then
  some (0, m1)
  else
  some (1, m1)
theorem PX6_refused_28 {g : zG} (hM : isM g) : zFp wsX6_refused RX6 (zcl g) 28 5 4 .int := ⟨RX6, TX6, 15, tyX6, hM.2.2 ▸ rfl, by decide +kernel, by decide, by decide +kernel, tyX6_ok, nmX6, rfl, by decide +kernel⟩
theorem hdX6_refused : yX6_refused.cls = RX6 ∧ yX6_refused.cls ≠ "java/lang/invoke/MethodHandle" ∧ yX6_refused.cls ≠ "java/lang/invoke/VarHandle" ∧ (parseMethodDescriptor yX6_refused.desc).map (fun d => d.parameters.length) = some 1 := by decide +kernel
set_option maxHeartbeats 4000000 in
set_option maxRecDepth 100000 in
theorem qX6_refused {l : Launch} {g : zG} (hM : isM g)  (a1 : Int32) (m : zMem)  (o : Int32 × zMem) (hf : fX6_refused a1 m = some o) : zMI l g yX6_refused wsX6_refused { frames := 0, cells := 0, slots := 0, locals := 0 } [.ref (zad g 0), .int a1] m o := by
  refine z_met_z (cc := cX6_refused) (maxL := 2) (lo0 := [some (.ref (zad g 0)), some (.int a1)]) (by decide +kernel) rfl rfl (Nat.le_of_ble_eq_true rfl) (fun x hx C hr => ?_)
  unfold fX6_refused at hf
  refine z_aload_n (i := 0) C dX6_refused_0 rfl rfl rfl ?_
  refine z_iload_n (i := 1) C dX6_refused_1 rfl rfl rfl ?_
  refine z_pi C (PX6_refused_28 hM) (mn_0 hM) (mc_0 hM) rfl dX6_refused_2 rfl hf (fun m1 hf => ?_)
  refine z_iload_n (i := 1) C dX6_refused_5 rfl rfl rfl ?_
  refine z_if_le (tgt := 13) C dX6_refused_6 (by decide) rfl hf (fun hf => ?_) (fun hf => ?_)
  · skip
    refine z_iconst C dX6_refused_13 zi_0 rfl ?_
    exact hr _ _ _ _ (Or.inl rfl) (Option.some.inj hf) dX6_refused_14
  · skip
    refine z_iconst C dX6_refused_9 zi_1 rfl ?_
    refine z_goto (pc' := 14) C dX6_refused_10 (by decide) ?_
    exact hr _ _ _ _ (Or.inr rfl) (Option.some.inj hf) dX6_refused_14

def fX6_in (a1 : Int32) (a2 : Int32) (a3 : Int32) : Option (Int32) :=
  if a1 < a2 then
  some 0
  else
  if a3 < a1 then
  some 0
  else
  some 1
theorem hdX6_in : yX6_in.cls ≠ "java/lang/invoke/MethodHandle" ∧ yX6_in.cls ≠ "java/lang/invoke/VarHandle" ∧ (parseMethodDescriptor yX6_in.desc).map (fun d => d.parameters.length) = some 3 := by decide +kernel
set_option maxHeartbeats 4000000 in
set_option maxRecDepth 100000 in
theorem qX6_in {l : Launch} {g : zG}  (a1 : Int32) (a2 : Int32) (a3 : Int32) (m : zMem)  (o : Int32) (hf : fX6_in a1 a2 a3 = some o) : zMI l g yX6_in wsX6_in { frames := 0, cells := 0, slots := 0, locals := 0 } [.int a1, .int a2, .int a3] m (o, m) := by
  refine z_met_z (cc := cX6_in) (maxL := 3) (lo0 := [some (.int a1), some (.int a2), some (.int a3)]) (by decide +kernel) rfl rfl (Nat.le_of_ble_eq_true rfl) (fun x hx C hr => ?_)
  unfold fX6_in at hf
  refine z_iload_n (i := 0) C dX6_in_0 rfl rfl rfl ?_
  refine z_iload_n (i := 1) C dX6_in_1 rfl rfl rfl ?_
  refine z_ic_lt (tgt := 14) C dX6_in_2 (by decide) rfl hf (fun hf => ?_) (fun hf => ?_)
  · skip
    refine z_iconst C dX6_in_14 zi_0 rfl ?_
    exact hr _ _ _ _ (Or.inl rfl) (congrArg (fun z => (z, m)) (Option.some.inj hf)) dX6_in_15
  · skip
    refine z_iload_n (i := 0) C dX6_in_5 rfl rfl rfl ?_
    refine z_iload_n (i := 2) C dX6_in_6 rfl rfl rfl ?_
    refine z_ic_gt (tgt := 14) C dX6_in_7 (by decide) rfl hf (fun hf => ?_) (fun hf => ?_)
    · skip
      refine z_iconst C dX6_in_14 zi_0 rfl ?_
      exact hr _ _ _ _ (Or.inl rfl) (congrArg (fun z => (z, m)) (Option.some.inj hf)) dX6_in_15
    · skip
      refine z_iconst C dX6_in_10 zi_1 rfl ?_
      refine z_goto (pc' := 15) C dX6_in_11 (by decide) ?_
      exact hr _ _ _ _ (Or.inr rfl) (congrArg (fun z => (z, m)) (Option.some.inj hf)) dX6_in_15

def fX6_isId (a1 : Int32) : Option (Int32) :=
  kc1 (fX6_in a1 0 255) fun v1 =>
  kbz v1 (some v1)
theorem hdX6_isId : yX6_isId.cls ≠ "java/lang/invoke/MethodHandle" ∧ yX6_isId.cls ≠ "java/lang/invoke/VarHandle" ∧ (parseMethodDescriptor yX6_isId.desc).map (fun d => d.parameters.length) = some 1 := by decide +kernel
set_option maxHeartbeats 4000000 in
set_option maxRecDepth 100000 in
theorem qX6_isId {l : Launch} {g : zG}  (a1 : Int32) (m : zMem)  (o : Int32) (hf : fX6_isId a1 = some o) : zMI l g yX6_isId wsX6_isId { frames := 1, cells := 0, slots := 0, locals := 22 } [.int a1] m (o, m) := by
  refine z_met_z (cc := cX6_isId) (maxL := 1) (lo0 := [some (.int a1)]) (by decide +kernel) rfl rfl (Nat.le_of_ble_eq_true rfl) (fun x hx C hr => ?_)
  unfold fX6_isId at hf
  refine z_iload_n (i := 0) C dX6_isId_0 rfl rfl rfl ?_
  refine z_iconst C dX6_isId_1 zi_0 rfl ?_
  refine z_sipush C dX6_isId_2 zs_255 rfl ?_
  refine z_csiR (As := [.int a1, .int 0, .int 255]) (st := []) (m := m) C gX6_isId_X6_in hdX6_in rfl (fun z h => qX6_in a1 0 255 m z h) rfl (Nat.le_of_ble_eq_true rfl) ⟨Nat.le_of_ble_eq_true rfl, Nat.le_of_ble_eq_true rfl⟩ ⟨Nat.le_refl _, Nat.le_refl _⟩ dX6_isId_5 rfl rfl hf (fun v1 hf => ?_)
  exact kbz_V hf (fun hb hf => hr _ _ _ _ hb (congrArg (fun z => (z, m)) (Option.some.inj hf)) dX6_isId_8)

def sX6_saves_51 (K85 : zMem → Option (zMem)) : (Int32 × zMem → Option (zMem)) → Int32 × zMem → Option (zMem) := fun rec (x6, m7) =>
  if 1816 ≤ x6 then
  K85 m7
  else
  kgi m7 0 3 fun v8 =>
  kld m7 1 1816 x6 fun v9 =>
  kst m7 2 5448 ((1816 * v8) + x6) v9 fun m10 =>
  rec (x6 + 1, m10)
def sX6_saves_10 (K39 : zMem → Option (zMem)) : (Int32 × zMem → Option (zMem)) → Int32 × zMem → Option (zMem) := fun rec (x14, m15) =>
  if 3632 ≤ x14 then
  K39 m15
  else
  kld m15 2 5448 (x14 + 1816) fun v16 =>
  kst m15 2 5448 x14 v16 fun m17 =>
  rec (x14 + 1, m17)
def fX6_saves (N : Nat) (m : zMem) : Option (zMem) :=
  kgi m 0 3 fun v1 =>
  kjn (fun (m2 : zMem) =>
  kjn (fun (m3 : zMem) =>
  kgi m3 0 3 fun v4 =>
  kpi m3 0 3 (v4 + 1) fun m5 =>
  some m5) fun K85 =>
  klp (sX6_saves_51 K85) N (0, m2)) fun K49 =>
  if v1 = 3 then
  kjn (fun (m11 : zMem) =>
  kgi m11 0 3 fun v12 =>
  kpi m11 0 3 (v12 - 1) fun m13 =>
  K49 m13) fun K39 =>
  klp (sX6_saves_10 K39) N (0, m)
  else
  K49 m
theorem FX6_saves_7 {g : zG} (hM : isM g) : zFl wsX6_saves RX6 (zcl g) 7 5 0 := ⟨RX6, TX6, 15, hM.2.2 ▸ rfl, by decide +kernel, by decide, by decide +kernel⟩
theorem FX6_saves_13 {g : zG} (hM : isM g) : zFl wsX6_saves RX6 (zcl g) 13 5 1 := ⟨RX6, TX6, 15, hM.2.2 ▸ rfl, by decide +kernel, by decide, by decide +kernel⟩
theorem FX6_saves_36 {g : zG} (hM : isM g) : zFl wsX6_saves RX6 (zcl g) 36 5 3 := ⟨RX6, TX6, 15, hM.2.2 ▸ rfl, by decide +kernel, by decide, by decide +kernel⟩
theorem PX6_saves_36 {g : zG} (hM : isM g) : zFp wsX6_saves RX6 (zcl g) 36 5 3 .int := ⟨RX6, TX6, 15, tyX6, hM.2.2 ▸ rfl, by decide +kernel, by decide, by decide +kernel, tyX6_ok, nmX6, rfl, by decide +kernel⟩
theorem hdX6_saves : yX6_saves.cls = RX6 ∧ yX6_saves.cls ≠ "java/lang/invoke/MethodHandle" ∧ yX6_saves.cls ≠ "java/lang/invoke/VarHandle" ∧ (parseMethodDescriptor yX6_saves.desc).map (fun d => d.parameters.length) = some 0 := by decide +kernel
set_option maxHeartbeats 4000000 in
set_option maxRecDepth 100000 in
theorem qX6_saves {l : Launch} {g : zG} (hM : isM g)  (N : Nat) (m : zMem)  (o : zMem) (hf : fX6_saves N m = some o) : zMV l g yX6_saves wsX6_saves { frames := 0, cells := 0, slots := 0, locals := 0 } [.ref (zad g 0)] m o := by
  refine z_met_v (cc := cX6_saves) (maxL := 2) (lo0 := [some (.ref (zad g 0)), none]) (by decide +kernel) rfl rfl (Nat.le_of_ble_eq_true rfl) (fun x hx C hr => ?_)
  unfold fX6_saves at hf
  refine z_aload_n (i := 0) C dX6_saves_0 rfl rfl rfl ?_
  refine z_gi C (FX6_saves_36 hM) (mn_0 hM) (mc_0 hM) rfl dX6_saves_1 rfl hf (fun v1 hf => ?_)
  refine z_iconst C dX6_saves_4 zi_3 rfl ?_
  refine kjn_V (fun K49 => ∀ (m2 : zMem), K49 m2 = some o → zV x g 2 0 0 49 [some (.ref (zad g 0)), none] [] m2) hf (fun m2 hf => ?_) (fun K49 hK49 hf => ?_)
  · skip
    refine z_iconst C dX6_saves_49 zi_0 rfl ?_
    refine z_istore_n (i := 1) (lo' := [some (.ref (zad g 0)), some (.int 0)]) C dX6_saves_50 rfl (Nat.le_of_ble_eq_true rfl) rfl rfl rfl ?_
    refine kjn_V (fun K85 => ∀ (m3 : zMem), K85 m3 = some o → zV x g 2 0 0 85 [some (.ref (zad g 0)), none] [] m3) hf (fun m3 hf => ?_) (fun K85 hK85 hf => ?_)
    · skip
      refine z_aload_n (i := 0) C dX6_saves_85 rfl rfl rfl ?_
      refine z_dup C dX6_saves_86 rfl rfl ?_
      refine z_gi C (FX6_saves_36 hM) (mn_0 hM) (mc_0 hM) rfl dX6_saves_87 rfl hf (fun v4 hf => ?_)
      refine z_iconst C dX6_saves_90 zi_1 rfl ?_
      refine z_iadd C dX6_saves_91 rfl ?_
      refine z_pi C (PX6_saves_36 hM) (mn_0 hM) (mc_0 hM) rfl dX6_saves_92 rfl hf (fun m5 hf => ?_)
      exact hr _ _ _ (Option.some.inj hf) dX6_saves_95
    · skip
      refine klp_V (fun z => zV x g 2 0 0 51 [some (.ref (zad g 0)), some (.int z.1)] [] z.2) hf (fun rec z ih hf => ?_)
      obtain ⟨x6, m7⟩ := z
      unfold sX6_saves_51 at hf
      try dsimp only at hf
      try dsimp only
      refine z_iload_n (i := 1) C dX6_saves_51 rfl rfl rfl ?_
      refine z_sipush C dX6_saves_52 zs_1816 rfl ?_
      refine z_ic_ge (tgt := 85) C dX6_saves_55 (by decide) rfl hf (fun hf => ?_) (fun hf => ?_)
      · skip
        refine z_drop (lo' := [some (.ref (zad g 0)), none]) 1 rfl ?_
        exact hK85 _ hf
      · skip
        refine z_aload_n (i := 0) C dX6_saves_58 rfl rfl rfl ?_
        refine z_gr C (FX6_saves_13 hM) (mn_0 hM) (mc_0 hM) rfl dX6_saves_59 rfl ?_
        refine z_sipush C dX6_saves_62 zs_1816 rfl ?_
        refine z_aload_n (i := 0) C dX6_saves_65 rfl rfl rfl ?_
        refine z_gi C (FX6_saves_36 hM) (mn_0 hM) (mc_0 hM) rfl dX6_saves_66 rfl hf (fun v8 hf => ?_)
        refine z_imul C dX6_saves_69 rfl ?_
        refine z_iload_n (i := 1) C dX6_saves_70 rfl rfl rfl ?_
        refine z_iadd C dX6_saves_71 rfl ?_
        refine z_aload_n (i := 0) C dX6_saves_72 rfl rfl rfl ?_
        refine z_gr C (FX6_saves_7 hM) (mn_0 hM) (mc_0 hM) rfl dX6_saves_73 rfl ?_
        refine z_iload_n (i := 1) C dX6_saves_76 rfl rfl rfl ?_
        refine z_iaload C (mn_1 hM) (mc_1 hM) dX6_saves_77 rfl hf (fun v9 hf => ?_)
        refine z_iastore C (mn_2 hM) (mc_2 hM) dX6_saves_78 rfl hf (fun m10 hf => ?_)
        refine z_iinc (v := x6 + 1) (lo' := [some (.ref (zad g 0)), some (.int (x6 + 1))]) C dX6_saves_79 rfl (zinc zi_1) (Nat.le_of_ble_eq_true rfl) rfl rfl rfl ?_
        refine z_goto (pc' := 51) C dX6_saves_82 (by decide) ?_
        exact ih (x6 + 1, m10) hf
  · skip
    refine z_ic_ne (tgt := 49) C dX6_saves_5 (by decide) rfl hf (fun hf => ?_) (fun hf => ?_)
    · skip
      exact hK49 _ hf
    · skip
      refine z_iconst C dX6_saves_8 zi_0 rfl ?_
      refine z_istore_n (i := 1) (lo' := [some (.ref (zad g 0)), some (.int 0)]) C dX6_saves_9 rfl (Nat.le_of_ble_eq_true rfl) rfl rfl rfl ?_
      refine kjn_V (fun K39 => ∀ (m11 : zMem), K39 m11 = some o → zV x g 2 0 0 39 [some (.ref (zad g 0)), none] [] m11) hf (fun m11 hf => ?_) (fun K39 hK39 hf => ?_)
      · skip
        refine z_aload_n (i := 0) C dX6_saves_39 rfl rfl rfl ?_
        refine z_dup C dX6_saves_40 rfl rfl ?_
        refine z_gi C (FX6_saves_36 hM) (mn_0 hM) (mc_0 hM) rfl dX6_saves_41 rfl hf (fun v12 hf => ?_)
        refine z_iconst C dX6_saves_44 zi_1 rfl ?_
        refine z_isub C dX6_saves_45 rfl ?_
        refine z_pi C (PX6_saves_36 hM) (mn_0 hM) (mc_0 hM) rfl dX6_saves_46 rfl hf (fun m13 hf => ?_)
        exact hK49 _ hf
      · skip
        refine klp_V (fun z => zV x g 2 0 0 10 [some (.ref (zad g 0)), some (.int z.1)] [] z.2) hf (fun rec z ih hf => ?_)
        obtain ⟨x14, m15⟩ := z
        unfold sX6_saves_10 at hf
        try dsimp only at hf
        try dsimp only
        refine z_iload_n (i := 1) C dX6_saves_10 rfl rfl rfl ?_
        refine z_sipush C dX6_saves_11 zs_3632 rfl ?_
        refine z_ic_ge (tgt := 39) C dX6_saves_14 (by decide) rfl hf (fun hf => ?_) (fun hf => ?_)
        · skip
          refine z_drop (lo' := [some (.ref (zad g 0)), none]) 1 rfl ?_
          exact hK39 _ hf
        · skip
          refine z_aload_n (i := 0) C dX6_saves_17 rfl rfl rfl ?_
          refine z_gr C (FX6_saves_13 hM) (mn_0 hM) (mc_0 hM) rfl dX6_saves_18 rfl ?_
          refine z_iload_n (i := 1) C dX6_saves_21 rfl rfl rfl ?_
          refine z_aload_n (i := 0) C dX6_saves_22 rfl rfl rfl ?_
          refine z_gr C (FX6_saves_13 hM) (mn_0 hM) (mc_0 hM) rfl dX6_saves_23 rfl ?_
          refine z_iload_n (i := 1) C dX6_saves_26 rfl rfl rfl ?_
          refine z_sipush C dX6_saves_27 zs_1816 rfl ?_
          refine z_iadd C dX6_saves_30 rfl ?_
          refine z_iaload C (mn_2 hM) (mc_2 hM) dX6_saves_31 rfl hf (fun v16 hf => ?_)
          refine z_iastore C (mn_2 hM) (mc_2 hM) dX6_saves_32 rfl hf (fun m17 hf => ?_)
          refine z_iinc (v := x14 + 1) (lo' := [some (.ref (zad g 0)), some (.int (x14 + 1))]) C dX6_saves_33 rfl (zinc zi_1) (Nat.le_of_ble_eq_true rfl) rfl rfl rfl ?_
          refine z_goto (pc' := 10) C dX6_saves_36 (by decide) ?_
          exact ih (x14 + 1, m17) hf

def sX6_undo_33 (K67 : zMem → Option (Int32 × zMem)) : (Int32 × zMem → Option (Int32 × zMem)) → Int32 × zMem → Option (Int32 × zMem) := fun rec (x9, m10) =>
  if 1816 ≤ x9 then
  K67 m10
  else
  kgi m10 0 3 fun v11 =>
  kld m10 2 5448 ((1816 * v11) + x9) fun v12 =>
  kst m10 1 1816 x9 v12 fun m13 =>
  rec (x9 + 1, m13)
def fX6_undo (N : Nat) (m : zMem) : Option (Int32 × zMem) :=
  kgi m 0 3 fun v1 =>
  kjn (fun (w2 : Int32) =>
  kc2 (fX6_refused w2 m) fun v3 m4 =>
  if v3 = 0 then
  kgi m4 0 3 fun v5 =>
  kpi m4 0 3 (v5 - 1) fun m6 =>
  kjn (fun (m7 : zMem) =>
  kgi m7 0 3 fun v8 =>
  some (v8, m7)) fun K67 =>
  klp (sX6_undo_33 K67) N (0, m6)
  else
  some (0, m4)) fun K13 =>
  if v1 = 0 then
  K13 1
  else
  K13 0
theorem FX6_undo_7 {g : zG} (hM : isM g) : zFl wsX6_undo RX6 (zcl g) 7 5 0 := ⟨RX6, TX6, 15, hM.2.2 ▸ rfl, by decide +kernel, by decide, by decide +kernel⟩
theorem FX6_undo_13 {g : zG} (hM : isM g) : zFl wsX6_undo RX6 (zcl g) 13 5 1 := ⟨RX6, TX6, 15, hM.2.2 ▸ rfl, by decide +kernel, by decide, by decide +kernel⟩
theorem FX6_undo_36 {g : zG} (hM : isM g) : zFl wsX6_undo RX6 (zcl g) 36 5 3 := ⟨RX6, TX6, 15, hM.2.2 ▸ rfl, by decide +kernel, by decide, by decide +kernel⟩
theorem PX6_undo_36 {g : zG} (hM : isM g) : zFp wsX6_undo RX6 (zcl g) 36 5 3 .int := ⟨RX6, TX6, 15, tyX6, hM.2.2 ▸ rfl, by decide +kernel, by decide, by decide +kernel, tyX6_ok, nmX6, rfl, by decide +kernel⟩
theorem hdX6_undo : yX6_undo.cls = RX6 ∧ yX6_undo.cls ≠ "java/lang/invoke/MethodHandle" ∧ yX6_undo.cls ≠ "java/lang/invoke/VarHandle" ∧ (parseMethodDescriptor yX6_undo.desc).map (fun d => d.parameters.length) = some 0 := by decide +kernel
set_option maxHeartbeats 4000000 in
set_option maxRecDepth 100000 in
theorem qX6_undo {l : Launch} {g : zG} (hM : isM g)  (N : Nat) (m : zMem)  (o : Int32 × zMem) (hf : fX6_undo N m = some o) : zMI l g yX6_undo wsX6_undo { frames := 1, cells := 0, slots := 0, locals := 21 } [.ref (zad g 0)] m o := by
  refine z_met_i (cc := cX6_undo) (maxL := 2) (lo0 := [some (.ref (zad g 0)), none]) (by decide +kernel) rfl rfl (Nat.le_of_ble_eq_true rfl) (fun x hx C hr => ?_)
  unfold fX6_undo at hf
  refine z_aload_n (i := 0) C dX6_undo_0 rfl rfl rfl ?_
  refine z_aload_n (i := 0) C dX6_undo_1 rfl rfl rfl ?_
  refine z_gi C (FX6_undo_36 hM) (mn_0 hM) (mc_0 hM) rfl dX6_undo_2 rfl hf (fun v1 hf => ?_)
  refine kjn_V (fun K13 => ∀ (w2 : Int32), K13 w2 = some o → zV x g 2 0 0 13 [some (.ref (zad g 0)), none] [.int w2, .ref (zad g 0)] m) hf (fun w2 hf => ?_) (fun K13 hK13 hf => ?_)
  · skip
    refine z_cviW (As := [.int w2]) (st := []) (m := m) C (cl_5 hM) (mn_0 hM) (mc_0 hM) gX6_undo_X6_refused hdX6_refused rfl (fun z h => qX6_refused hM w2 m z h) rfl (Nat.le_of_ble_eq_true rfl) ⟨Nat.le_of_ble_eq_true rfl, Nat.le_of_ble_eq_true rfl⟩ ⟨Nat.le_refl _, Nat.le_refl _⟩ dX6_undo_13 rfl rfl hf (fun v3 m4 hf => ?_)
    refine z_if_eq (tgt := 21) C dX6_undo_16 (by decide) rfl hf (fun hf => ?_) (fun hf => ?_)
    · skip
      refine z_aload_n (i := 0) C dX6_undo_21 rfl rfl rfl ?_
      refine z_dup C dX6_undo_22 rfl rfl ?_
      refine z_gi C (FX6_undo_36 hM) (mn_0 hM) (mc_0 hM) rfl dX6_undo_23 rfl hf (fun v5 hf => ?_)
      refine z_iconst C dX6_undo_26 zi_1 rfl ?_
      refine z_isub C dX6_undo_27 rfl ?_
      refine z_pi C (PX6_undo_36 hM) (mn_0 hM) (mc_0 hM) rfl dX6_undo_28 rfl hf (fun m6 hf => ?_)
      refine z_iconst C dX6_undo_31 zi_0 rfl ?_
      refine z_istore_n (i := 1) (lo' := [some (.ref (zad g 0)), some (.int 0)]) C dX6_undo_32 rfl (Nat.le_of_ble_eq_true rfl) rfl rfl rfl ?_
      refine kjn_V (fun K67 => ∀ (m7 : zMem), K67 m7 = some o → zV x g 2 0 0 67 [some (.ref (zad g 0)), none] [] m7) hf (fun m7 hf => ?_) (fun K67 hK67 hf => ?_)
      · skip
        refine z_aload_n (i := 0) C dX6_undo_67 rfl rfl rfl ?_
        refine z_gi C (FX6_undo_36 hM) (mn_0 hM) (mc_0 hM) rfl dX6_undo_68 rfl hf (fun v8 hf => ?_)
        exact hr _ _ _ _ (Option.some.inj hf) dX6_undo_71
      · skip
        refine klp_V (fun z => zV x g 2 0 0 33 [some (.ref (zad g 0)), some (.int z.1)] [] z.2) hf (fun rec z ih hf => ?_)
        obtain ⟨x9, m10⟩ := z
        unfold sX6_undo_33 at hf
        try dsimp only at hf
        try dsimp only
        refine z_iload_n (i := 1) C dX6_undo_33 rfl rfl rfl ?_
        refine z_sipush C dX6_undo_34 zs_1816 rfl ?_
        refine z_ic_ge (tgt := 67) C dX6_undo_37 (by decide) rfl hf (fun hf => ?_) (fun hf => ?_)
        · skip
          refine z_drop (lo' := [some (.ref (zad g 0)), none]) 1 rfl ?_
          exact hK67 _ hf
        · skip
          refine z_aload_n (i := 0) C dX6_undo_40 rfl rfl rfl ?_
          refine z_gr C (FX6_undo_7 hM) (mn_0 hM) (mc_0 hM) rfl dX6_undo_41 rfl ?_
          refine z_iload_n (i := 1) C dX6_undo_44 rfl rfl rfl ?_
          refine z_aload_n (i := 0) C dX6_undo_45 rfl rfl rfl ?_
          refine z_gr C (FX6_undo_13 hM) (mn_0 hM) (mc_0 hM) rfl dX6_undo_46 rfl ?_
          refine z_sipush C dX6_undo_49 zs_1816 rfl ?_
          refine z_aload_n (i := 0) C dX6_undo_52 rfl rfl rfl ?_
          refine z_gi C (FX6_undo_36 hM) (mn_0 hM) (mc_0 hM) rfl dX6_undo_53 rfl hf (fun v11 hf => ?_)
          refine z_imul C dX6_undo_56 rfl ?_
          refine z_iload_n (i := 1) C dX6_undo_57 rfl rfl rfl ?_
          refine z_iadd C dX6_undo_58 rfl ?_
          refine z_iaload C (mn_2 hM) (mc_2 hM) dX6_undo_59 rfl hf (fun v12 hf => ?_)
          refine z_iastore C (mn_1 hM) (mc_1 hM) dX6_undo_60 rfl hf (fun m13 hf => ?_)
          refine z_iinc (v := x9 + 1) (lo' := [some (.ref (zad g 0)), some (.int (x9 + 1))]) C dX6_undo_61 rfl (zinc zi_1) (Nat.le_of_ble_eq_true rfl) rfl rfl rfl ?_
          refine z_goto (pc' := 33) C dX6_undo_64 (by decide) ?_
          exact ih (x9 + 1, m13) hf
    · skip
      refine z_iconst C dX6_undo_19 zi_0 rfl ?_
      exact hr _ _ _ _ (Option.some.inj hf) dX6_undo_20
  · skip
    refine z_if_ne (tgt := 12) C dX6_undo_5 (by decide) rfl hf (fun hf => ?_) (fun hf => ?_)
    · skip
      refine z_iconst C dX6_undo_12 zi_0 rfl ?_
      exact hK13 _ hf
    · skip
      refine z_iconst C dX6_undo_8 zi_1 rfl ?_
      refine z_goto (pc' := 13) C dX6_undo_9 (by decide) ?_
      exact hK13 _ hf

def sX6_keeps_2 (K27 : zMem → Option (zMem)) : (Int32 × zMem → Option (zMem)) → Int32 × zMem → Option (zMem) := fun rec (x2, m3) =>
  if 1816 ≤ x2 then
  K27 m3
  else
  kld m3 1 1816 x2 fun v4 =>
  kst m3 3 1816 x2 v4 fun m5 =>
  rec (x2 + 1, m5)
def fX6_keeps (N : Nat) (m : zMem) : Option (zMem) :=
  kjn (fun (m1 : zMem) =>
  some m1) fun K27 =>
  klp (sX6_keeps_2 K27) N (0, m)
theorem FX6_keeps_7 {g : zG} (hM : isM g) : zFl wsX6_keeps RX6 (zcl g) 7 5 0 := ⟨RX6, TX6, 15, hM.2.2 ▸ rfl, by decide +kernel, by decide, by decide +kernel⟩
theorem FX6_keeps_16 {g : zG} (hM : isM g) : zFl wsX6_keeps RX6 (zcl g) 16 5 2 := ⟨RX6, TX6, 15, hM.2.2 ▸ rfl, by decide +kernel, by decide, by decide +kernel⟩
theorem hdX6_keeps : yX6_keeps.cls = RX6 ∧ yX6_keeps.cls ≠ "java/lang/invoke/MethodHandle" ∧ yX6_keeps.cls ≠ "java/lang/invoke/VarHandle" ∧ (parseMethodDescriptor yX6_keeps.desc).map (fun d => d.parameters.length) = some 0 := by decide +kernel
set_option maxHeartbeats 4000000 in
set_option maxRecDepth 100000 in
theorem qX6_keeps {l : Launch} {g : zG} (hM : isM g)  (N : Nat) (m : zMem)  (o : zMem) (hf : fX6_keeps N m = some o) : zMV l g yX6_keeps wsX6_keeps { frames := 0, cells := 0, slots := 0, locals := 0 } [.ref (zad g 0)] m o := by
  refine z_met_v (cc := cX6_keeps) (maxL := 2) (lo0 := [some (.ref (zad g 0)), none]) (by decide +kernel) rfl rfl (Nat.le_of_ble_eq_true rfl) (fun x hx C hr => ?_)
  unfold fX6_keeps at hf
  refine z_iconst C dX6_keeps_0 zi_0 rfl ?_
  refine z_istore_n (i := 1) (lo' := [some (.ref (zad g 0)), some (.int 0)]) C dX6_keeps_1 rfl (Nat.le_of_ble_eq_true rfl) rfl rfl rfl ?_
  refine kjn_V (fun K27 => ∀ (m1 : zMem), K27 m1 = some o → zV x g 2 0 0 27 [none, none] [] m1) hf (fun m1 hf => ?_) (fun K27 hK27 hf => ?_)
  · skip
    exact hr _ _ _ (Option.some.inj hf) dX6_keeps_27
  · skip
    refine klp_V (fun z => zV x g 2 0 0 2 [some (.ref (zad g 0)), some (.int z.1)] [] z.2) hf (fun rec z ih hf => ?_)
    obtain ⟨x2, m3⟩ := z
    unfold sX6_keeps_2 at hf
    try dsimp only at hf
    try dsimp only
    refine z_iload_n (i := 1) C dX6_keeps_2 rfl rfl rfl ?_
    refine z_sipush C dX6_keeps_3 zs_1816 rfl ?_
    refine z_ic_ge (tgt := 27) C dX6_keeps_6 (by decide) rfl hf (fun hf => ?_) (fun hf => ?_)
    · skip
      refine z_drop (lo' := [none, some (.int x2)]) 0 rfl ?_
      refine z_drop (lo' := [none, none]) 1 rfl ?_
      exact hK27 _ hf
    · skip
      refine z_aload_n (i := 0) C dX6_keeps_9 rfl rfl rfl ?_
      refine z_gr C (FX6_keeps_16 hM) (mn_0 hM) (mc_0 hM) rfl dX6_keeps_10 rfl ?_
      refine z_iload_n (i := 1) C dX6_keeps_13 rfl rfl rfl ?_
      refine z_aload_n (i := 0) C dX6_keeps_14 rfl rfl rfl ?_
      refine z_gr C (FX6_keeps_7 hM) (mn_0 hM) (mc_0 hM) rfl dX6_keeps_15 rfl ?_
      refine z_iload_n (i := 1) C dX6_keeps_18 rfl rfl rfl ?_
      refine z_iaload C (mn_1 hM) (mc_1 hM) dX6_keeps_19 rfl hf (fun v4 hf => ?_)
      refine z_iastore C (mn_3 hM) (mc_3 hM) dX6_keeps_20 rfl hf (fun m5 hf => ?_)
      refine z_iinc (v := x2 + 1) (lo' := [some (.ref (zad g 0)), some (.int (x2 + 1))]) C dX6_keeps_21 rfl (zinc zi_1) (Nat.le_of_ble_eq_true rfl) rfl rfl rfl ?_
      refine z_goto (pc' := 2) C dX6_keeps_24 (by decide) ?_
      exact ih (x2 + 1, m5) hf

def sX6_takesBack_2 (K27 : zMem → Option (zMem)) : (Int32 × zMem → Option (zMem)) → Int32 × zMem → Option (zMem) := fun rec (x2, m3) =>
  if 1816 ≤ x2 then
  K27 m3
  else
  kld m3 3 1816 x2 fun v4 =>
  kst m3 1 1816 x2 v4 fun m5 =>
  rec (x2 + 1, m5)
def fX6_takesBack (N : Nat) (m : zMem) : Option (zMem) :=
  kjn (fun (m1 : zMem) =>
  some m1) fun K27 =>
  klp (sX6_takesBack_2 K27) N (0, m)
theorem FX6_takesBack_7 {g : zG} (hM : isM g) : zFl wsX6_takesBack RX6 (zcl g) 7 5 0 := ⟨RX6, TX6, 15, hM.2.2 ▸ rfl, by decide +kernel, by decide, by decide +kernel⟩
theorem FX6_takesBack_16 {g : zG} (hM : isM g) : zFl wsX6_takesBack RX6 (zcl g) 16 5 2 := ⟨RX6, TX6, 15, hM.2.2 ▸ rfl, by decide +kernel, by decide, by decide +kernel⟩
theorem hdX6_takesBack : yX6_takesBack.cls = RX6 ∧ yX6_takesBack.cls ≠ "java/lang/invoke/MethodHandle" ∧ yX6_takesBack.cls ≠ "java/lang/invoke/VarHandle" ∧ (parseMethodDescriptor yX6_takesBack.desc).map (fun d => d.parameters.length) = some 0 := by decide +kernel
set_option maxHeartbeats 4000000 in
set_option maxRecDepth 100000 in
theorem qX6_takesBack {l : Launch} {g : zG} (hM : isM g)  (N : Nat) (m : zMem)  (o : zMem) (hf : fX6_takesBack N m = some o) : zMV l g yX6_takesBack wsX6_takesBack { frames := 0, cells := 0, slots := 0, locals := 0 } [.ref (zad g 0)] m o := by
  refine z_met_v (cc := cX6_takesBack) (maxL := 2) (lo0 := [some (.ref (zad g 0)), none]) (by decide +kernel) rfl rfl (Nat.le_of_ble_eq_true rfl) (fun x hx C hr => ?_)
  unfold fX6_takesBack at hf
  refine z_iconst C dX6_takesBack_0 zi_0 rfl ?_
  refine z_istore_n (i := 1) (lo' := [some (.ref (zad g 0)), some (.int 0)]) C dX6_takesBack_1 rfl (Nat.le_of_ble_eq_true rfl) rfl rfl rfl ?_
  refine kjn_V (fun K27 => ∀ (m1 : zMem), K27 m1 = some o → zV x g 2 0 0 27 [none, none] [] m1) hf (fun m1 hf => ?_) (fun K27 hK27 hf => ?_)
  · skip
    exact hr _ _ _ (Option.some.inj hf) dX6_takesBack_27
  · skip
    refine klp_V (fun z => zV x g 2 0 0 2 [some (.ref (zad g 0)), some (.int z.1)] [] z.2) hf (fun rec z ih hf => ?_)
    obtain ⟨x2, m3⟩ := z
    unfold sX6_takesBack_2 at hf
    try dsimp only at hf
    try dsimp only
    refine z_iload_n (i := 1) C dX6_takesBack_2 rfl rfl rfl ?_
    refine z_sipush C dX6_takesBack_3 zs_1816 rfl ?_
    refine z_ic_ge (tgt := 27) C dX6_takesBack_6 (by decide) rfl hf (fun hf => ?_) (fun hf => ?_)
    · skip
      refine z_drop (lo' := [none, some (.int x2)]) 0 rfl ?_
      refine z_drop (lo' := [none, none]) 1 rfl ?_
      exact hK27 _ hf
    · skip
      refine z_aload_n (i := 0) C dX6_takesBack_9 rfl rfl rfl ?_
      refine z_gr C (FX6_takesBack_7 hM) (mn_0 hM) (mc_0 hM) rfl dX6_takesBack_10 rfl ?_
      refine z_iload_n (i := 1) C dX6_takesBack_13 rfl rfl rfl ?_
      refine z_aload_n (i := 0) C dX6_takesBack_14 rfl rfl rfl ?_
      refine z_gr C (FX6_takesBack_16 hM) (mn_0 hM) (mc_0 hM) rfl dX6_takesBack_15 rfl ?_
      refine z_iload_n (i := 1) C dX6_takesBack_18 rfl rfl rfl ?_
      refine z_iaload C (mn_3 hM) (mc_3 hM) dX6_takesBack_19 rfl hf (fun v4 hf => ?_)
      refine z_iastore C (mn_1 hM) (mc_1 hM) dX6_takesBack_20 rfl hf (fun m5 hf => ?_)
      refine z_iinc (v := x2 + 1) (lo' := [some (.ref (zad g 0)), some (.int (x2 + 1))]) C dX6_takesBack_21 rfl (zinc zi_1) (Nat.le_of_ble_eq_true rfl) rfl rfl rfl ?_
      refine z_goto (pc' := 2) C dX6_takesBack_24 (by decide) ?_
      exact ih (x2 + 1, m5) hf

def fX6_of (a1 : Int32) : Option (Int32) :=
  some (16 + (75 * a1))
theorem hdX6_of : yX6_of.cls ≠ "java/lang/invoke/MethodHandle" ∧ yX6_of.cls ≠ "java/lang/invoke/VarHandle" ∧ (parseMethodDescriptor yX6_of.desc).map (fun d => d.parameters.length) = some 1 := by decide +kernel
set_option maxHeartbeats 4000000 in
set_option maxRecDepth 100000 in
theorem qX6_of {l : Launch} {g : zG}  (a1 : Int32) (m : zMem)  (o : Int32) (hf : fX6_of a1 = some o) : zMI l g yX6_of wsX6_of { frames := 0, cells := 0, slots := 0, locals := 0 } [.int a1] m (o, m) := by
  refine z_met_i (cc := cX6_of) (maxL := 1) (lo0 := [some (.int a1)]) (by decide +kernel) rfl rfl (Nat.le_of_ble_eq_true rfl) (fun x hx C hr => ?_)
  unfold fX6_of at hf
  refine z_bipush C dX6_of_0 zb_16 rfl ?_
  refine z_bipush C dX6_of_2 zb_75 rfl ?_
  refine z_iload_n (i := 0) C dX6_of_4 rfl rfl rfl ?_
  refine z_imul C dX6_of_5 rfl ?_
  refine z_iadd C dX6_of_6 rfl ?_
  exact hr _ _ _ _ (congrArg (fun z => (z, m)) (Option.some.inj hf)) dX6_of_7

def sX6_placeOf_2 (a1 : Int32) (m : zMem) (K34 : Option (Int32)) : (Int32 → Option (Int32)) → Int32 → Option (Int32) := fun rec x1 =>
  if 24 ≤ x1 then
  K34
  else
  kc1 (fX6_of x1) fun v2 =>
  kld m 1 1816 v2 fun v3 =>
  if v3 = (a1 + 1) then
  kc1 (fX6_of x1) fun v4 =>
  some v4
  else
  rec (x1 + 1)
def fX6_placeOf (N : Nat) (a1 : Int32) (m : zMem) : Option (Int32) :=
  kjn (some (-1)) fun K34 =>
  klp (sX6_placeOf_2 a1 m K34) N 0
theorem FX6_placeOf_7 {g : zG} (hM : isM g) : zFl wsX6_placeOf RX6 (zcl g) 7 5 0 := ⟨RX6, TX6, 15, hM.2.2 ▸ rfl, by decide +kernel, by decide, by decide +kernel⟩
theorem hdX6_placeOf : yX6_placeOf.cls = RX6 ∧ yX6_placeOf.cls ≠ "java/lang/invoke/MethodHandle" ∧ yX6_placeOf.cls ≠ "java/lang/invoke/VarHandle" ∧ (parseMethodDescriptor yX6_placeOf.desc).map (fun d => d.parameters.length) = some 1 := by decide +kernel
set_option maxHeartbeats 4000000 in
set_option maxRecDepth 100000 in
theorem qX6_placeOf {l : Launch} {g : zG} (hM : isM g)  (N : Nat) (a1 : Int32) (m : zMem)  (o : Int32) (hf : fX6_placeOf N a1 m = some o) : zMI l g yX6_placeOf wsX6_placeOf { frames := 1, cells := 0, slots := 0, locals := 20 } [.ref (zad g 0), .int a1] m (o, m) := by
  refine z_met_i (cc := cX6_placeOf) (maxL := 3) (lo0 := [some (.ref (zad g 0)), some (.int a1), none]) (by decide +kernel) rfl rfl (Nat.le_of_ble_eq_true rfl) (fun x hx C hr => ?_)
  unfold fX6_placeOf at hf
  refine z_iconst C dX6_placeOf_0 zi_0 rfl ?_
  refine z_istore_n (i := 2) (lo' := [some (.ref (zad g 0)), some (.int a1), some (.int 0)]) C dX6_placeOf_1 rfl (Nat.le_of_ble_eq_true rfl) rfl rfl rfl ?_
  refine kjn_V (fun K34 => K34 = some o → zV x g 3 0 0 34 [none, none, none] [] m) hf (fun  hf => ?_) (fun K34 hK34 hf => ?_)
  · skip
    refine z_iconst C dX6_placeOf_34 zi_m1 rfl ?_
    exact hr _ _ _ _ (congrArg (fun z => (z, m)) (Option.some.inj hf)) dX6_placeOf_35
  · skip
    refine klp_V (fun z => zV x g 3 0 0 2 [some (.ref (zad g 0)), some (.int a1), some (.int z)] [] m) hf (fun rec z ih hf => ?_)
    generalize z = x1 at hf ⊢
    unfold sX6_placeOf_2 at hf
    try dsimp only at hf
    try dsimp only
    refine z_iload_n (i := 2) C dX6_placeOf_2 rfl rfl rfl ?_
    refine z_bipush C dX6_placeOf_3 zb_24 rfl ?_
    refine z_ic_ge (tgt := 34) C dX6_placeOf_5 (by decide) rfl hf (fun hf => ?_) (fun hf => ?_)
    · skip
      refine z_drop (lo' := [none, some (.int a1), some (.int x1)]) 0 rfl ?_
      refine z_drop (lo' := [none, none, some (.int x1)]) 1 rfl ?_
      refine z_drop (lo' := [none, none, none]) 2 rfl ?_
      exact hK34 hf
    · skip
      refine z_aload_n (i := 0) C dX6_placeOf_8 rfl rfl rfl ?_
      refine z_gr C (FX6_placeOf_7 hM) (mn_0 hM) (mc_0 hM) rfl dX6_placeOf_9 rfl ?_
      refine z_iload_n (i := 2) C dX6_placeOf_12 rfl rfl rfl ?_
      refine z_csiR (As := [.int x1]) (st := [.ref (zad g 1)]) (m := m) C gX6_placeOf_X6_of hdX6_of rfl (fun z h => qX6_of x1 m z h) rfl (Nat.le_of_ble_eq_true rfl) ⟨Nat.le_of_ble_eq_true rfl, Nat.le_of_ble_eq_true rfl⟩ ⟨Nat.le_refl _, Nat.le_refl _⟩ dX6_placeOf_13 rfl rfl hf (fun v2 hf => ?_)
      refine z_iaload C (mn_1 hM) (mc_1 hM) dX6_placeOf_16 rfl hf (fun v3 hf => ?_)
      refine z_iload_n (i := 1) C dX6_placeOf_17 rfl rfl rfl ?_
      refine z_iconst C dX6_placeOf_18 zi_1 rfl ?_
      refine z_iadd C dX6_placeOf_19 rfl ?_
      refine z_ic_ne (tgt := 28) C dX6_placeOf_20 (by decide) rfl hf (fun hf => ?_) (fun hf => ?_)
      · skip
        refine z_iinc (v := x1 + 1) (lo' := [some (.ref (zad g 0)), some (.int a1), some (.int (x1 + 1))]) C dX6_placeOf_28 rfl (zinc zi_1) (Nat.le_of_ble_eq_true rfl) rfl rfl rfl ?_
        refine z_goto (pc' := 2) C dX6_placeOf_31 (by decide) ?_
        exact ih (x1 + 1) hf
      · skip
        refine z_iload_n (i := 2) C dX6_placeOf_23 rfl rfl rfl ?_
        refine z_csiR (As := [.int x1]) (st := []) (m := m) C gX6_placeOf_X6_of hdX6_of rfl (fun z h => qX6_of x1 m z h) rfl (Nat.le_of_ble_eq_true rfl) ⟨Nat.le_of_ble_eq_true rfl, Nat.le_of_ble_eq_true rfl⟩ ⟨Nat.le_refl _, Nat.le_refl _⟩ dX6_placeOf_24 rfl rfl hf (fun v4 hf => ?_)
        exact hr _ _ _ _ (congrArg (fun z => (z, m)) (Option.some.inj hf)) dX6_placeOf_27

def fX6_isMember (N : Nat) (a1 : Int32) (m : zMem) : Option (Int32) :=
  kc1 (fX6_isId a1) fun v1 =>
  if v1 = 0 then
  some 0
  else
  kc1 (fX6_placeOf N a1 m) fun v2 =>
  if v2 = (-1) then
  some 0
  else
  some 1
theorem hdX6_isMember : yX6_isMember.cls = RX6 ∧ yX6_isMember.cls ≠ "java/lang/invoke/MethodHandle" ∧ yX6_isMember.cls ≠ "java/lang/invoke/VarHandle" ∧ (parseMethodDescriptor yX6_isMember.desc).map (fun d => d.parameters.length) = some 1 := by decide +kernel
set_option maxHeartbeats 4000000 in
set_option maxRecDepth 100000 in
theorem qX6_isMember {l : Launch} {g : zG} (hM : isM g)  (N : Nat) (a1 : Int32) (m : zMem)  (o : Int32) (hf : fX6_isMember N a1 m = some o) : zMI l g yX6_isMember wsX6_isMember { frames := 2, cells := 0, slots := 0, locals := 42 } [.ref (zad g 0), .int a1] m (o, m) := by
  refine z_met_z (cc := cX6_isMember) (maxL := 2) (lo0 := [some (.ref (zad g 0)), some (.int a1)]) (by decide +kernel) rfl rfl (Nat.le_of_ble_eq_true rfl) (fun x hx C hr => ?_)
  unfold fX6_isMember at hf
  refine z_iload_n (i := 1) C dX6_isMember_0 rfl rfl rfl ?_
  refine z_csiR (As := [.int a1]) (st := []) (m := m) C gX6_isMember_X6_isId hdX6_isId rfl (fun z h => qX6_isId a1 m z h) rfl (Nat.le_of_ble_eq_true rfl) ⟨Nat.le_of_ble_eq_true rfl, Nat.le_of_ble_eq_true rfl⟩ ⟨Nat.le_refl _, Nat.le_refl _⟩ dX6_isMember_1 rfl rfl hf (fun v1 hf => ?_)
  refine z_if_eq (tgt := 20) C dX6_isMember_4 (by decide) rfl hf (fun hf => ?_) (fun hf => ?_)
  · skip
    refine z_iconst C dX6_isMember_20 zi_0 rfl ?_
    exact hr _ _ _ _ (Or.inl rfl) (congrArg (fun z => (z, m)) (Option.some.inj hf)) dX6_isMember_21
  · skip
    refine z_aload_n (i := 0) C dX6_isMember_7 rfl rfl rfl ?_
    refine z_iload_n (i := 1) C dX6_isMember_8 rfl rfl rfl ?_
    refine z_cviR (As := [.int a1]) (st := []) (m := m) C (cl_5 hM) (mn_0 hM) (mc_0 hM) gX6_isMember_X6_placeOf hdX6_placeOf rfl (fun z h => qX6_placeOf hM N a1 m z h) rfl (Nat.le_of_ble_eq_true rfl) ⟨Nat.le_of_ble_eq_true rfl, Nat.le_of_ble_eq_true rfl⟩ ⟨Nat.le_refl _, Nat.le_refl _⟩ dX6_isMember_9 rfl rfl hf (fun v2 hf => ?_)
    refine z_iconst C dX6_isMember_12 zi_m1 rfl ?_
    refine z_ic_eq (tgt := 20) C dX6_isMember_13 (by decide) rfl hf (fun hf => ?_) (fun hf => ?_)
    · skip
      refine z_iconst C dX6_isMember_20 zi_0 rfl ?_
      exact hr _ _ _ _ (Or.inl rfl) (congrArg (fun z => (z, m)) (Option.some.inj hf)) dX6_isMember_21
    · skip
      refine z_iconst C dX6_isMember_16 zi_1 rfl ?_
      refine z_goto (pc' := 21) C dX6_isMember_17 (by decide) ?_
      exact hr _ _ _ _ (Or.inr rfl) (congrArg (fun z => (z, m)) (Option.some.inj hf)) dX6_isMember_21

def sX6_memberMany_4 (m : zMem) (K36 : Int32 → Option (Int32)) : (Int32 × Int32 → Option (Int32)) → Int32 × Int32 → Option (Int32) := fun rec (x2, x3) =>
  if 24 ≤ x3 then
  K36 x2
  else
  kc1 (fX6_of x3) fun v4 =>
  kld m 1 1816 v4 fun v5 =>
  if v5 ≤ 0 then
  klt (x2 + 0 : Int32) fun v6 =>
  rec (v6, x3 + 1)
  else
  klt (x2 + 1 : Int32) fun v7 =>
  rec (v7, x3 + 1)
def fX6_memberMany (N : Nat) (m : zMem) : Option (Int32) :=
  kjn (fun (w1 : Int32) =>
  some w1) fun K36 =>
  klp (sX6_memberMany_4 m K36) N (0, 0)
theorem FX6_memberMany_7 {g : zG} (hM : isM g) : zFl wsX6_memberMany RX6 (zcl g) 7 5 0 := ⟨RX6, TX6, 15, hM.2.2 ▸ rfl, by decide +kernel, by decide, by decide +kernel⟩
theorem hdX6_memberMany : yX6_memberMany.cls = RX6 ∧ yX6_memberMany.cls ≠ "java/lang/invoke/MethodHandle" ∧ yX6_memberMany.cls ≠ "java/lang/invoke/VarHandle" ∧ (parseMethodDescriptor yX6_memberMany.desc).map (fun d => d.parameters.length) = some 0 := by decide +kernel
set_option maxHeartbeats 4000000 in
set_option maxRecDepth 100000 in
theorem qX6_memberMany {l : Launch} {g : zG} (hM : isM g)  (N : Nat) (m : zMem)  (o : Int32) (hf : fX6_memberMany N m = some o) : zMI l g yX6_memberMany wsX6_memberMany { frames := 1, cells := 0, slots := 0, locals := 20 } [.ref (zad g 0)] m (o, m) := by
  refine z_met_i (cc := cX6_memberMany) (maxL := 3) (lo0 := [some (.ref (zad g 0)), none, none]) (by decide +kernel) rfl rfl (Nat.le_of_ble_eq_true rfl) (fun x hx C hr => ?_)
  unfold fX6_memberMany at hf
  refine z_iconst C dX6_memberMany_0 zi_0 rfl ?_
  refine z_istore_n (i := 1) (lo' := [some (.ref (zad g 0)), some (.int 0), none]) C dX6_memberMany_1 rfl (Nat.le_of_ble_eq_true rfl) rfl rfl rfl ?_
  refine z_iconst C dX6_memberMany_2 zi_0 rfl ?_
  refine z_istore_n (i := 2) (lo' := [some (.ref (zad g 0)), some (.int 0), some (.int 0)]) C dX6_memberMany_3 rfl (Nat.le_of_ble_eq_true rfl) rfl rfl rfl ?_
  refine kjn_V (fun K36 => ∀ (w1 : Int32), K36 w1 = some o → zV x g 3 0 0 36 [none, some (.int w1), none] [] m) hf (fun w1 hf => ?_) (fun K36 hK36 hf => ?_)
  · skip
    refine z_iload_n (i := 1) C dX6_memberMany_36 rfl rfl rfl ?_
    exact hr _ _ _ _ (congrArg (fun z => (z, m)) (Option.some.inj hf)) dX6_memberMany_37
  · skip
    refine klp_V (fun z => zV x g 3 0 0 4 [some (.ref (zad g 0)), some (.int z.1), some (.int z.2)] [] m) hf (fun rec z ih hf => ?_)
    obtain ⟨x2, x3⟩ := z
    unfold sX6_memberMany_4 at hf
    try dsimp only at hf
    try dsimp only
    refine z_iload_n (i := 2) C dX6_memberMany_4 rfl rfl rfl ?_
    refine z_bipush C dX6_memberMany_5 zb_24 rfl ?_
    refine z_ic_ge (tgt := 36) C dX6_memberMany_7 (by decide) rfl hf (fun hf => ?_) (fun hf => ?_)
    · skip
      refine z_drop (lo' := [none, some (.int x2), some (.int x3)]) 0 rfl ?_
      refine z_drop (lo' := [none, some (.int x2), none]) 2 rfl ?_
      exact hK36 _ hf
    · skip
      refine z_iload_n (i := 1) C dX6_memberMany_10 rfl rfl rfl ?_
      refine z_aload_n (i := 0) C dX6_memberMany_11 rfl rfl rfl ?_
      refine z_gr C (FX6_memberMany_7 hM) (mn_0 hM) (mc_0 hM) rfl dX6_memberMany_12 rfl ?_
      refine z_iload_n (i := 2) C dX6_memberMany_15 rfl rfl rfl ?_
      refine z_csiR (As := [.int x3]) (st := [.ref (zad g 1), .int x2]) (m := m) C gX6_memberMany_X6_of hdX6_of rfl (fun z h => qX6_of x3 m z h) rfl (Nat.le_of_ble_eq_true rfl) ⟨Nat.le_of_ble_eq_true rfl, Nat.le_of_ble_eq_true rfl⟩ ⟨Nat.le_refl _, Nat.le_refl _⟩ dX6_memberMany_16 rfl rfl hf (fun v4 hf => ?_)
      refine z_iaload C (mn_1 hM) (mc_1 hM) dX6_memberMany_19 rfl hf (fun v5 hf => ?_)
      refine z_if_le (tgt := 27) C dX6_memberMany_20 (by decide) rfl hf (fun hf => ?_) (fun hf => ?_)
      · skip
        refine z_iconst C dX6_memberMany_27 zi_0 rfl ?_
        refine z_iadd C dX6_memberMany_28 rfl ?_
        refine z_top _ hf (fun v6 hf => ?_)
        refine z_istore_n (i := 1) (lo' := [some (.ref (zad g 0)), some (.int v6), some (.int x3)]) C dX6_memberMany_29 rfl (Nat.le_of_ble_eq_true rfl) rfl rfl rfl ?_
        refine z_iinc (v := x3 + 1) (lo' := [some (.ref (zad g 0)), some (.int v6), some (.int (x3 + 1))]) C dX6_memberMany_30 rfl (zinc zi_1) (Nat.le_of_ble_eq_true rfl) rfl rfl rfl ?_
        refine z_goto (pc' := 4) C dX6_memberMany_33 (by decide) ?_
        exact ih (v6, x3 + 1) hf
      · skip
        refine z_iconst C dX6_memberMany_23 zi_1 rfl ?_
        refine z_goto (pc' := 28) C dX6_memberMany_24 (by decide) ?_
        refine z_iadd C dX6_memberMany_28 rfl ?_
        refine z_top _ hf (fun v7 hf => ?_)
        refine z_istore_n (i := 1) (lo' := [some (.ref (zad g 0)), some (.int v7), some (.int x3)]) C dX6_memberMany_29 rfl (Nat.le_of_ble_eq_true rfl) rfl rfl rfl ?_
        refine z_iinc (v := x3 + 1) (lo' := [some (.ref (zad g 0)), some (.int v7), some (.int (x3 + 1))]) C dX6_memberMany_30 rfl (zinc zi_1) (Nat.le_of_ble_eq_true rfl) rfl rfl rfl ?_
        refine z_goto (pc' := 4) C dX6_memberMany_33 (by decide) ?_
        exact ih (v7, x3 + 1) hf

def sX6_ends_2 (a1 : Int32) (K23 : zMem → Option (zMem)) : (Int32 × zMem → Option (zMem)) → Int32 × zMem → Option (zMem) := fun rec (x4, m5) =>
  if 75 ≤ x4 then
  K23 m5
  else
  kst m5 1 1816 (a1 + x4) 0 fun m6 =>
  rec (x4 + 1, m6)
def fX6_ends (N : Nat) (a1 : Int32) (m : zMem) : Option (zMem) :=
  kjn (fun (m1 : zMem) =>
  kld m1 1 1816 8 fun v2 =>
  kst m1 1 1816 8 (v2 + 1) fun m3 =>
  some m3) fun K23 =>
  klp (sX6_ends_2 a1 K23) N (0, m)
theorem FX6_ends_7 {g : zG} (hM : isM g) : zFl wsX6_ends RX6 (zcl g) 7 5 0 := ⟨RX6, TX6, 15, hM.2.2 ▸ rfl, by decide +kernel, by decide, by decide +kernel⟩
theorem hdX6_ends : yX6_ends.cls = RX6 ∧ yX6_ends.cls ≠ "java/lang/invoke/MethodHandle" ∧ yX6_ends.cls ≠ "java/lang/invoke/VarHandle" ∧ (parseMethodDescriptor yX6_ends.desc).map (fun d => d.parameters.length) = some 1 := by decide +kernel
set_option maxHeartbeats 4000000 in
set_option maxRecDepth 100000 in
theorem qX6_ends {l : Launch} {g : zG} (hM : isM g)  (N : Nat) (a1 : Int32) (m : zMem)  (o : zMem) (hf : fX6_ends N a1 m = some o) : zMV l g yX6_ends wsX6_ends { frames := 0, cells := 0, slots := 0, locals := 0 } [.ref (zad g 0), .int a1] m o := by
  refine z_met_v (cc := cX6_ends) (maxL := 3) (lo0 := [some (.ref (zad g 0)), some (.int a1), none]) (by decide +kernel) rfl rfl (Nat.le_of_ble_eq_true rfl) (fun x hx C hr => ?_)
  unfold fX6_ends at hf
  refine z_iconst C dX6_ends_0 zi_0 rfl ?_
  refine z_istore_n (i := 2) (lo' := [some (.ref (zad g 0)), some (.int a1), some (.int 0)]) C dX6_ends_1 rfl (Nat.le_of_ble_eq_true rfl) rfl rfl rfl ?_
  refine kjn_V (fun K23 => ∀ (m1 : zMem), K23 m1 = some o → zV x g 3 0 0 23 [some (.ref (zad g 0)), none, none] [] m1) hf (fun m1 hf => ?_) (fun K23 hK23 hf => ?_)
  · skip
    refine z_aload_n (i := 0) C dX6_ends_23 rfl rfl rfl ?_
    refine z_gr C (FX6_ends_7 hM) (mn_0 hM) (mc_0 hM) rfl dX6_ends_24 rfl ?_
    refine z_bipush C dX6_ends_27 zb_8 rfl ?_
    refine z_dup2 C dX6_ends_29 rfl rfl rfl ?_
    refine z_iaload C (mn_1 hM) (mc_1 hM) dX6_ends_30 rfl hf (fun v2 hf => ?_)
    refine z_iconst C dX6_ends_31 zi_1 rfl ?_
    refine z_iadd C dX6_ends_32 rfl ?_
    refine z_iastore C (mn_1 hM) (mc_1 hM) dX6_ends_33 rfl hf (fun m3 hf => ?_)
    exact hr _ _ _ (Option.some.inj hf) dX6_ends_34
  · skip
    refine klp_V (fun z => zV x g 3 0 0 2 [some (.ref (zad g 0)), some (.int a1), some (.int z.1)] [] z.2) hf (fun rec z ih hf => ?_)
    obtain ⟨x4, m5⟩ := z
    unfold sX6_ends_2 at hf
    try dsimp only at hf
    try dsimp only
    refine z_iload_n (i := 2) C dX6_ends_2 rfl rfl rfl ?_
    refine z_bipush C dX6_ends_3 zb_75 rfl ?_
    refine z_ic_ge (tgt := 23) C dX6_ends_5 (by decide) rfl hf (fun hf => ?_) (fun hf => ?_)
    · skip
      refine z_drop (lo' := [some (.ref (zad g 0)), none, some (.int x4)]) 1 rfl ?_
      refine z_drop (lo' := [some (.ref (zad g 0)), none, none]) 2 rfl ?_
      exact hK23 _ hf
    · skip
      refine z_aload_n (i := 0) C dX6_ends_8 rfl rfl rfl ?_
      refine z_gr C (FX6_ends_7 hM) (mn_0 hM) (mc_0 hM) rfl dX6_ends_9 rfl ?_
      refine z_iload_n (i := 1) C dX6_ends_12 rfl rfl rfl ?_
      refine z_iload_n (i := 2) C dX6_ends_13 rfl rfl rfl ?_
      refine z_iadd C dX6_ends_14 rfl ?_
      refine z_iconst C dX6_ends_15 zi_0 rfl ?_
      refine z_iastore C (mn_1 hM) (mc_1 hM) dX6_ends_16 rfl hf (fun m6 hf => ?_)
      refine z_iinc (v := x4 + 1) (lo' := [some (.ref (zad g 0)), some (.int a1), some (.int (x4 + 1))]) C dX6_ends_17 rfl (zinc zi_1) (Nat.le_of_ble_eq_true rfl) rfl rfl rfl ?_
      refine z_goto (pc' := 2) C dX6_ends_20 (by decide) ?_
      exact ih (x4 + 1, m6) hf

def sX6_bucketOf_2 (a1 : Int32) (a2 : Int32) (K27 : Int32 → Option (Int32)) : (Int32 → Option (Int32)) → Int32 → Option (Int32) := fun rec x2 =>
  if ((a1 >>> ((7 - x2) &&& 31)) &&& 1) = ((a2 >>> ((7 - x2) &&& 31)) &&& 1) then
  rec (x2 + 1)
  else
  K27 x2
def fX6_bucketOf (N : Nat) (a1 : Int32) (a2 : Int32) : Option (Int32) :=
  kjn (fun (w1 : Int32) =>
  some w1) fun K27 =>
  klp (sX6_bucketOf_2 a1 a2 K27) N 0
theorem hdX6_bucketOf : yX6_bucketOf.cls ≠ "java/lang/invoke/MethodHandle" ∧ yX6_bucketOf.cls ≠ "java/lang/invoke/VarHandle" ∧ (parseMethodDescriptor yX6_bucketOf.desc).map (fun d => d.parameters.length) = some 2 := by decide +kernel
set_option maxHeartbeats 4000000 in
set_option maxRecDepth 100000 in
theorem qX6_bucketOf {l : Launch} {g : zG}  (N : Nat) (a1 : Int32) (a2 : Int32) (m : zMem)  (o : Int32) (hf : fX6_bucketOf N a1 a2 = some o) : zMI l g yX6_bucketOf wsX6_bucketOf { frames := 0, cells := 0, slots := 0, locals := 0 } [.int a1, .int a2] m (o, m) := by
  refine z_met_i (cc := cX6_bucketOf) (maxL := 3) (lo0 := [some (.int a1), some (.int a2), none]) (by decide +kernel) rfl rfl (Nat.le_of_ble_eq_true rfl) (fun x hx C hr => ?_)
  unfold fX6_bucketOf at hf
  refine z_iconst C dX6_bucketOf_0 zi_0 rfl ?_
  refine z_istore_n (i := 2) (lo' := [some (.int a1), some (.int a2), some (.int 0)]) C dX6_bucketOf_1 rfl (Nat.le_of_ble_eq_true rfl) rfl rfl rfl ?_
  refine kjn_V (fun K27 => ∀ (w1 : Int32), K27 w1 = some o → zV x g 3 0 0 27 [none, none, some (.int w1)] [] m) hf (fun w1 hf => ?_) (fun K27 hK27 hf => ?_)
  · skip
    refine z_iload_n (i := 2) C dX6_bucketOf_27 rfl rfl rfl ?_
    exact hr _ _ _ _ (congrArg (fun z => (z, m)) (Option.some.inj hf)) dX6_bucketOf_28
  · skip
    refine klp_V (fun z => zV x g 3 0 0 2 [some (.int a1), some (.int a2), some (.int z)] [] m) hf (fun rec z ih hf => ?_)
    generalize z = x2 at hf ⊢
    unfold sX6_bucketOf_2 at hf
    try dsimp only at hf
    try dsimp only
    refine z_iload_n (i := 0) C dX6_bucketOf_2 rfl rfl rfl ?_
    refine z_bipush C dX6_bucketOf_3 zb_7 rfl ?_
    refine z_iload_n (i := 2) C dX6_bucketOf_5 rfl rfl rfl ?_
    refine z_isub C dX6_bucketOf_6 rfl ?_
    refine z_ishr C dX6_bucketOf_7 rfl ?_
    refine z_iconst C dX6_bucketOf_8 zi_1 rfl ?_
    refine z_iand C dX6_bucketOf_9 rfl ?_
    refine z_iload_n (i := 1) C dX6_bucketOf_10 rfl rfl rfl ?_
    refine z_bipush C dX6_bucketOf_11 zb_7 rfl ?_
    refine z_iload_n (i := 2) C dX6_bucketOf_13 rfl rfl rfl ?_
    refine z_isub C dX6_bucketOf_14 rfl ?_
    refine z_ishr C dX6_bucketOf_15 rfl ?_
    refine z_iconst C dX6_bucketOf_16 zi_1 rfl ?_
    refine z_iand C dX6_bucketOf_17 rfl ?_
    refine z_ic_ne (tgt := 27) C dX6_bucketOf_18 (by decide) rfl hf (fun hf => ?_) (fun hf => ?_)
    · skip
      refine z_drop (lo' := [none, some (.int a2), some (.int x2)]) 0 rfl ?_
      refine z_drop (lo' := [none, none, some (.int x2)]) 1 rfl ?_
      exact hK27 _ hf
    · skip
      refine z_iinc (v := x2 + 1) (lo' := [some (.int a1), some (.int a2), some (.int (x2 + 1))]) C dX6_bucketOf_21 rfl (zinc zi_1) (Nat.le_of_ble_eq_true rfl) rfl rfl rfl ?_
      refine z_goto (pc' := 2) C dX6_bucketOf_24 (by decide) ?_
      exact ih (x2 + 1) hf

def sX6_drops_21 (a1 : Int32) (a2 : Int32) (K98 : zMem → Option (zMem)) : (Int32 × zMem → Option (zMem)) → Int32 × zMem → Option (zMem) := fun rec (x5, m6) =>
  kld m6 1 1816 ((a1 + 3) + a2) fun v7 =>
  if ((4 * a2) + v7) ≤ x5 then
  K98 m6
  else
  kld m6 1 1816 (((a1 + 11) + x5) + 1) fun v8 =>
  kst m6 1 1816 ((a1 + 11) + x5) v8 fun m9 =>
  kld m9 1 1816 (((a1 + 43) + x5) + 1) fun v10 =>
  kst m9 1 1816 ((a1 + 43) + x5) v10 fun m11 =>
  rec (x5 + 1, m11)
def fX6_drops (N : Nat) (a1 : Int32) (a2 : Int32) (a3 : Int32) (m : zMem) : Option (zMem) :=
  kld m 1 1816 ((a1 + 3) + a2) fun v1 =>
  kst m 1 1816 ((a1 + 3) + a2) (v1 - 1) fun m2 =>
  klt ((4 * a2) + a3 : Int32) fun v3 =>
  kjn (fun (m4 : zMem) =>
  some m4) fun K98 =>
  klp (sX6_drops_21 a1 a2 K98) N (v3, m2)
theorem FX6_drops_7 {g : zG} (hM : isM g) : zFl wsX6_drops RX6 (zcl g) 7 5 0 := ⟨RX6, TX6, 15, hM.2.2 ▸ rfl, by decide +kernel, by decide, by decide +kernel⟩
theorem hdX6_drops : yX6_drops.cls = RX6 ∧ yX6_drops.cls ≠ "java/lang/invoke/MethodHandle" ∧ yX6_drops.cls ≠ "java/lang/invoke/VarHandle" ∧ (parseMethodDescriptor yX6_drops.desc).map (fun d => d.parameters.length) = some 3 := by decide +kernel
set_option maxHeartbeats 4000000 in
set_option maxRecDepth 100000 in
theorem qX6_drops {l : Launch} {g : zG} (hM : isM g)  (N : Nat) (a1 : Int32) (a2 : Int32) (a3 : Int32) (m : zMem)  (o : zMem) (hf : fX6_drops N a1 a2 a3 m = some o) : zMV l g yX6_drops wsX6_drops { frames := 0, cells := 0, slots := 0, locals := 0 } [.ref (zad g 0), .int a1, .int a2, .int a3] m o := by
  refine z_met_v (cc := cX6_drops) (maxL := 5) (lo0 := [some (.ref (zad g 0)), some (.int a1), some (.int a2), some (.int a3), none]) (by decide +kernel) rfl rfl (Nat.le_of_ble_eq_true rfl) (fun x hx C hr => ?_)
  unfold fX6_drops at hf
  refine z_aload_n (i := 0) C dX6_drops_0 rfl rfl rfl ?_
  refine z_gr C (FX6_drops_7 hM) (mn_0 hM) (mc_0 hM) rfl dX6_drops_1 rfl ?_
  refine z_iload_n (i := 1) C dX6_drops_4 rfl rfl rfl ?_
  refine z_iconst C dX6_drops_5 zi_3 rfl ?_
  refine z_iadd C dX6_drops_6 rfl ?_
  refine z_iload_n (i := 2) C dX6_drops_7 rfl rfl rfl ?_
  refine z_iadd C dX6_drops_8 rfl ?_
  refine z_dup2 C dX6_drops_9 rfl rfl rfl ?_
  refine z_iaload C (mn_1 hM) (mc_1 hM) dX6_drops_10 rfl hf (fun v1 hf => ?_)
  refine z_iconst C dX6_drops_11 zi_1 rfl ?_
  refine z_isub C dX6_drops_12 rfl ?_
  refine z_iastore C (mn_1 hM) (mc_1 hM) dX6_drops_13 rfl hf (fun m2 hf => ?_)
  refine z_iconst C dX6_drops_14 zi_4 rfl ?_
  refine z_iload_n (i := 2) C dX6_drops_15 rfl rfl rfl ?_
  refine z_imul C dX6_drops_16 rfl ?_
  refine z_iload_n (i := 3) C dX6_drops_17 rfl rfl rfl ?_
  refine z_iadd C dX6_drops_18 rfl ?_
  refine z_top _ hf (fun v3 hf => ?_)
  refine z_istore (lo' := [some (.ref (zad g 0)), some (.int a1), some (.int a2), some (.int a3), some (.int v3)]) C dX6_drops_19 (Nat.le_of_ble_eq_true rfl) rfl rfl rfl ?_
  refine z_drop (lo' := [some (.ref (zad g 0)), some (.int a1), some (.int a2), none, some (.int v3)]) 3 rfl ?_
  refine kjn_V (fun K98 => ∀ (m4 : zMem), K98 m4 = some o → zV x g 5 0 0 98 [none, none, none, none, none] [] m4) hf (fun m4 hf => ?_) (fun K98 hK98 hf => ?_)
  · skip
    exact hr _ _ _ (Option.some.inj hf) dX6_drops_98
  · skip
    refine klp_V (fun z => zV x g 5 0 0 21 [some (.ref (zad g 0)), some (.int a1), some (.int a2), none, some (.int z.1)] [] z.2) hf (fun rec z ih hf => ?_)
    obtain ⟨x5, m6⟩ := z
    unfold sX6_drops_21 at hf
    try dsimp only at hf
    try dsimp only
    refine z_iload C dX6_drops_21 rfl rfl ?_
    refine z_iconst C dX6_drops_23 zi_4 rfl ?_
    refine z_iload_n (i := 2) C dX6_drops_24 rfl rfl rfl ?_
    refine z_imul C dX6_drops_25 rfl ?_
    refine z_aload_n (i := 0) C dX6_drops_26 rfl rfl rfl ?_
    refine z_gr C (FX6_drops_7 hM) (mn_0 hM) (mc_0 hM) rfl dX6_drops_27 rfl ?_
    refine z_iload_n (i := 1) C dX6_drops_30 rfl rfl rfl ?_
    refine z_iconst C dX6_drops_31 zi_3 rfl ?_
    refine z_iadd C dX6_drops_32 rfl ?_
    refine z_iload_n (i := 2) C dX6_drops_33 rfl rfl rfl ?_
    refine z_iadd C dX6_drops_34 rfl ?_
    refine z_iaload C (mn_1 hM) (mc_1 hM) dX6_drops_35 rfl hf (fun v7 hf => ?_)
    refine z_iadd C dX6_drops_36 rfl ?_
    refine z_ic_ge (tgt := 98) C dX6_drops_37 (by decide) rfl hf (fun hf => ?_) (fun hf => ?_)
    · skip
      refine z_drop (lo' := [none, some (.int a1), some (.int a2), none, some (.int x5)]) 0 rfl ?_
      refine z_drop (lo' := [none, none, some (.int a2), none, some (.int x5)]) 1 rfl ?_
      refine z_drop (lo' := [none, none, none, none, some (.int x5)]) 2 rfl ?_
      refine z_drop (lo' := [none, none, none, none, none]) 4 rfl ?_
      exact hK98 _ hf
    · skip
      refine z_aload_n (i := 0) C dX6_drops_40 rfl rfl rfl ?_
      refine z_gr C (FX6_drops_7 hM) (mn_0 hM) (mc_0 hM) rfl dX6_drops_41 rfl ?_
      refine z_iload_n (i := 1) C dX6_drops_44 rfl rfl rfl ?_
      refine z_bipush C dX6_drops_45 zb_11 rfl ?_
      refine z_iadd C dX6_drops_47 rfl ?_
      refine z_iload C dX6_drops_48 rfl rfl ?_
      refine z_iadd C dX6_drops_50 rfl ?_
      refine z_aload_n (i := 0) C dX6_drops_51 rfl rfl rfl ?_
      refine z_gr C (FX6_drops_7 hM) (mn_0 hM) (mc_0 hM) rfl dX6_drops_52 rfl ?_
      refine z_iload_n (i := 1) C dX6_drops_55 rfl rfl rfl ?_
      refine z_bipush C dX6_drops_56 zb_11 rfl ?_
      refine z_iadd C dX6_drops_58 rfl ?_
      refine z_iload C dX6_drops_59 rfl rfl ?_
      refine z_iadd C dX6_drops_61 rfl ?_
      refine z_iconst C dX6_drops_62 zi_1 rfl ?_
      refine z_iadd C dX6_drops_63 rfl ?_
      refine z_iaload C (mn_1 hM) (mc_1 hM) dX6_drops_64 rfl hf (fun v8 hf => ?_)
      refine z_iastore C (mn_1 hM) (mc_1 hM) dX6_drops_65 rfl hf (fun m9 hf => ?_)
      refine z_aload_n (i := 0) C dX6_drops_66 rfl rfl rfl ?_
      refine z_gr C (FX6_drops_7 hM) (mn_0 hM) (mc_0 hM) rfl dX6_drops_67 rfl ?_
      refine z_iload_n (i := 1) C dX6_drops_70 rfl rfl rfl ?_
      refine z_bipush C dX6_drops_71 zb_43 rfl ?_
      refine z_iadd C dX6_drops_73 rfl ?_
      refine z_iload C dX6_drops_74 rfl rfl ?_
      refine z_iadd C dX6_drops_76 rfl ?_
      refine z_aload_n (i := 0) C dX6_drops_77 rfl rfl rfl ?_
      refine z_gr C (FX6_drops_7 hM) (mn_0 hM) (mc_0 hM) rfl dX6_drops_78 rfl ?_
      refine z_iload_n (i := 1) C dX6_drops_81 rfl rfl rfl ?_
      refine z_bipush C dX6_drops_82 zb_43 rfl ?_
      refine z_iadd C dX6_drops_84 rfl ?_
      refine z_iload C dX6_drops_85 rfl rfl ?_
      refine z_iadd C dX6_drops_87 rfl ?_
      refine z_iconst C dX6_drops_88 zi_1 rfl ?_
      refine z_iadd C dX6_drops_89 rfl ?_
      refine z_iaload C (mn_1 hM) (mc_1 hM) dX6_drops_90 rfl hf (fun v10 hf => ?_)
      refine z_iastore C (mn_1 hM) (mc_1 hM) dX6_drops_91 rfl hf (fun m11 hf => ?_)
      refine z_iinc (v := x5 + 1) (lo' := [some (.ref (zad g 0)), some (.int a1), some (.int a2), none, some (.int (x5 + 1))]) C dX6_drops_92 rfl (zinc zi_1) (Nat.le_of_ble_eq_true rfl) rfl rfl rfl ?_
      refine z_goto (pc' := 21) C dX6_drops_95 (by decide) ?_
      exact ih (x5 + 1, m11) hf

def fX6_adds (a1 : Int32) (a2 : Int32) (a3 : Int32) (a4 : Int32) (m : zMem) : Option (zMem) :=
  kld m 1 1816 ((a1 + 3) + a2) fun v1 =>
  klt ((4 * a2) + v1 : Int32) fun v2 =>
  kst m 1 1816 ((a1 + 11) + v2) a3 fun m3 =>
  kst m3 1 1816 ((a1 + 43) + v2) a4 fun m4 =>
  kld m4 1 1816 ((a1 + 3) + a2) fun v5 =>
  kst m4 1 1816 ((a1 + 3) + a2) (v5 + 1) fun m6 =>
  some m6
theorem FX6_adds_7 {g : zG} (hM : isM g) : zFl wsX6_adds RX6 (zcl g) 7 5 0 := ⟨RX6, TX6, 15, hM.2.2 ▸ rfl, by decide +kernel, by decide, by decide +kernel⟩
theorem hdX6_adds : yX6_adds.cls = RX6 ∧ yX6_adds.cls ≠ "java/lang/invoke/MethodHandle" ∧ yX6_adds.cls ≠ "java/lang/invoke/VarHandle" ∧ (parseMethodDescriptor yX6_adds.desc).map (fun d => d.parameters.length) = some 4 := by decide +kernel
set_option maxHeartbeats 4000000 in
set_option maxRecDepth 100000 in
theorem qX6_adds {l : Launch} {g : zG} (hM : isM g)  (a1 : Int32) (a2 : Int32) (a3 : Int32) (a4 : Int32) (m : zMem)  (o : zMem) (hf : fX6_adds a1 a2 a3 a4 m = some o) : zMV l g yX6_adds wsX6_adds { frames := 0, cells := 0, slots := 0, locals := 0 } [.ref (zad g 0), .int a1, .int a2, .int a3, .int a4] m o := by
  refine z_met_v (cc := cX6_adds) (maxL := 6) (lo0 := [some (.ref (zad g 0)), some (.int a1), some (.int a2), some (.int a3), some (.int a4), none]) (by decide +kernel) rfl rfl (Nat.le_of_ble_eq_true rfl) (fun x hx C hr => ?_)
  unfold fX6_adds at hf
  refine z_iconst C dX6_adds_0 zi_4 rfl ?_
  refine z_iload_n (i := 2) C dX6_adds_1 rfl rfl rfl ?_
  refine z_imul C dX6_adds_2 rfl ?_
  refine z_aload_n (i := 0) C dX6_adds_3 rfl rfl rfl ?_
  refine z_gr C (FX6_adds_7 hM) (mn_0 hM) (mc_0 hM) rfl dX6_adds_4 rfl ?_
  refine z_iload_n (i := 1) C dX6_adds_7 rfl rfl rfl ?_
  refine z_iconst C dX6_adds_8 zi_3 rfl ?_
  refine z_iadd C dX6_adds_9 rfl ?_
  refine z_iload_n (i := 2) C dX6_adds_10 rfl rfl rfl ?_
  refine z_iadd C dX6_adds_11 rfl ?_
  refine z_iaload C (mn_1 hM) (mc_1 hM) dX6_adds_12 rfl hf (fun v1 hf => ?_)
  refine z_iadd C dX6_adds_13 rfl ?_
  refine z_top _ hf (fun v2 hf => ?_)
  refine z_istore (lo' := [some (.ref (zad g 0)), some (.int a1), some (.int a2), some (.int a3), some (.int a4), some (.int v2)]) C dX6_adds_14 (Nat.le_of_ble_eq_true rfl) rfl rfl rfl ?_
  refine z_aload_n (i := 0) C dX6_adds_16 rfl rfl rfl ?_
  refine z_gr C (FX6_adds_7 hM) (mn_0 hM) (mc_0 hM) rfl dX6_adds_17 rfl ?_
  refine z_iload_n (i := 1) C dX6_adds_20 rfl rfl rfl ?_
  refine z_bipush C dX6_adds_21 zb_11 rfl ?_
  refine z_iadd C dX6_adds_23 rfl ?_
  refine z_iload C dX6_adds_24 rfl rfl ?_
  refine z_iadd C dX6_adds_26 rfl ?_
  refine z_iload_n (i := 3) C dX6_adds_27 rfl rfl rfl ?_
  refine z_iastore C (mn_1 hM) (mc_1 hM) dX6_adds_28 rfl hf (fun m3 hf => ?_)
  refine z_aload_n (i := 0) C dX6_adds_29 rfl rfl rfl ?_
  refine z_gr C (FX6_adds_7 hM) (mn_0 hM) (mc_0 hM) rfl dX6_adds_30 rfl ?_
  refine z_iload_n (i := 1) C dX6_adds_33 rfl rfl rfl ?_
  refine z_bipush C dX6_adds_34 zb_43 rfl ?_
  refine z_iadd C dX6_adds_36 rfl ?_
  refine z_iload C dX6_adds_37 rfl rfl ?_
  refine z_iadd C dX6_adds_39 rfl ?_
  refine z_iload C dX6_adds_40 rfl rfl ?_
  refine z_iastore C (mn_1 hM) (mc_1 hM) dX6_adds_42 rfl hf (fun m4 hf => ?_)
  refine z_aload_n (i := 0) C dX6_adds_43 rfl rfl rfl ?_
  refine z_gr C (FX6_adds_7 hM) (mn_0 hM) (mc_0 hM) rfl dX6_adds_44 rfl ?_
  refine z_iload_n (i := 1) C dX6_adds_47 rfl rfl rfl ?_
  refine z_iconst C dX6_adds_48 zi_3 rfl ?_
  refine z_iadd C dX6_adds_49 rfl ?_
  refine z_iload_n (i := 2) C dX6_adds_50 rfl rfl rfl ?_
  refine z_iadd C dX6_adds_51 rfl ?_
  refine z_dup2 C dX6_adds_52 rfl rfl rfl ?_
  refine z_iaload C (mn_1 hM) (mc_1 hM) dX6_adds_53 rfl hf (fun v5 hf => ?_)
  refine z_iconst C dX6_adds_54 zi_1 rfl ?_
  refine z_iadd C dX6_adds_55 rfl ?_
  refine z_iastore C (mn_1 hM) (mc_1 hM) dX6_adds_56 rfl hf (fun m6 hf => ?_)
  exact hr _ _ _ (Option.some.inj hf) dX6_adds_57

def sX6_placeIn_3 (a1 : Int32) (a2 : Int32) (a3 : Int32) (m : zMem) (K47 : Option (Int32)) : (Int32 → Option (Int32)) → Int32 → Option (Int32) := fun rec x1 =>
  kld m 1 1816 ((a1 + 3) + a2) fun v2 =>
  if v2 ≤ x1 then
  K47
  else
  kld m 1 1816 (((a1 + 11) + (4 * a2)) + x1) fun v3 =>
  if v3 = a3 then
  some x1
  else
  rec (x1 + 1)
def fX6_placeIn (N : Nat) (a1 : Int32) (a2 : Int32) (a3 : Int32) (m : zMem) : Option (Int32) :=
  kjn (some (-1)) fun K47 =>
  klp (sX6_placeIn_3 a1 a2 a3 m K47) N 0
theorem FX6_placeIn_7 {g : zG} (hM : isM g) : zFl wsX6_placeIn RX6 (zcl g) 7 5 0 := ⟨RX6, TX6, 15, hM.2.2 ▸ rfl, by decide +kernel, by decide, by decide +kernel⟩
theorem hdX6_placeIn : yX6_placeIn.cls = RX6 ∧ yX6_placeIn.cls ≠ "java/lang/invoke/MethodHandle" ∧ yX6_placeIn.cls ≠ "java/lang/invoke/VarHandle" ∧ (parseMethodDescriptor yX6_placeIn.desc).map (fun d => d.parameters.length) = some 3 := by decide +kernel
set_option maxHeartbeats 4000000 in
set_option maxRecDepth 100000 in
theorem qX6_placeIn {l : Launch} {g : zG} (hM : isM g)  (N : Nat) (a1 : Int32) (a2 : Int32) (a3 : Int32) (m : zMem)  (o : Int32) (hf : fX6_placeIn N a1 a2 a3 m = some o) : zMI l g yX6_placeIn wsX6_placeIn { frames := 0, cells := 0, slots := 0, locals := 0 } [.ref (zad g 0), .int a1, .int a2, .int a3] m (o, m) := by
  refine z_met_i (cc := cX6_placeIn) (maxL := 5) (lo0 := [some (.ref (zad g 0)), some (.int a1), some (.int a2), some (.int a3), none]) (by decide +kernel) rfl rfl (Nat.le_of_ble_eq_true rfl) (fun x hx C hr => ?_)
  unfold fX6_placeIn at hf
  refine z_iconst C dX6_placeIn_0 zi_0 rfl ?_
  refine z_istore (lo' := [some (.ref (zad g 0)), some (.int a1), some (.int a2), some (.int a3), some (.int 0)]) C dX6_placeIn_1 (Nat.le_of_ble_eq_true rfl) rfl rfl rfl ?_
  refine kjn_V (fun K47 => K47 = some o → zV x g 5 0 0 47 [none, none, none, none, none] [] m) hf (fun  hf => ?_) (fun K47 hK47 hf => ?_)
  · skip
    refine z_iconst C dX6_placeIn_47 zi_m1 rfl ?_
    exact hr _ _ _ _ (congrArg (fun z => (z, m)) (Option.some.inj hf)) dX6_placeIn_48
  · skip
    refine klp_V (fun z => zV x g 5 0 0 3 [some (.ref (zad g 0)), some (.int a1), some (.int a2), some (.int a3), some (.int z)] [] m) hf (fun rec z ih hf => ?_)
    generalize z = x1 at hf ⊢
    unfold sX6_placeIn_3 at hf
    try dsimp only at hf
    try dsimp only
    refine z_iload C dX6_placeIn_3 rfl rfl ?_
    refine z_aload_n (i := 0) C dX6_placeIn_5 rfl rfl rfl ?_
    refine z_gr C (FX6_placeIn_7 hM) (mn_0 hM) (mc_0 hM) rfl dX6_placeIn_6 rfl ?_
    refine z_iload_n (i := 1) C dX6_placeIn_9 rfl rfl rfl ?_
    refine z_iconst C dX6_placeIn_10 zi_3 rfl ?_
    refine z_iadd C dX6_placeIn_11 rfl ?_
    refine z_iload_n (i := 2) C dX6_placeIn_12 rfl rfl rfl ?_
    refine z_iadd C dX6_placeIn_13 rfl ?_
    refine z_iaload C (mn_1 hM) (mc_1 hM) dX6_placeIn_14 rfl hf (fun v2 hf => ?_)
    refine z_ic_ge (tgt := 47) C dX6_placeIn_15 (by decide) rfl hf (fun hf => ?_) (fun hf => ?_)
    · skip
      refine z_drop (lo' := [none, some (.int a1), some (.int a2), some (.int a3), some (.int x1)]) 0 rfl ?_
      refine z_drop (lo' := [none, none, some (.int a2), some (.int a3), some (.int x1)]) 1 rfl ?_
      refine z_drop (lo' := [none, none, none, some (.int a3), some (.int x1)]) 2 rfl ?_
      refine z_drop (lo' := [none, none, none, none, some (.int x1)]) 3 rfl ?_
      refine z_drop (lo' := [none, none, none, none, none]) 4 rfl ?_
      exact hK47 hf
    · skip
      refine z_aload_n (i := 0) C dX6_placeIn_18 rfl rfl rfl ?_
      refine z_gr C (FX6_placeIn_7 hM) (mn_0 hM) (mc_0 hM) rfl dX6_placeIn_19 rfl ?_
      refine z_iload_n (i := 1) C dX6_placeIn_22 rfl rfl rfl ?_
      refine z_bipush C dX6_placeIn_23 zb_11 rfl ?_
      refine z_iadd C dX6_placeIn_25 rfl ?_
      refine z_iconst C dX6_placeIn_26 zi_4 rfl ?_
      refine z_iload_n (i := 2) C dX6_placeIn_27 rfl rfl rfl ?_
      refine z_imul C dX6_placeIn_28 rfl ?_
      refine z_iadd C dX6_placeIn_29 rfl ?_
      refine z_iload C dX6_placeIn_30 rfl rfl ?_
      refine z_iadd C dX6_placeIn_32 rfl ?_
      refine z_iaload C (mn_1 hM) (mc_1 hM) dX6_placeIn_33 rfl hf (fun v3 hf => ?_)
      refine z_iload_n (i := 3) C dX6_placeIn_34 rfl rfl rfl ?_
      refine z_ic_ne (tgt := 41) C dX6_placeIn_35 (by decide) rfl hf (fun hf => ?_) (fun hf => ?_)
      · skip
        refine z_iinc (v := x1 + 1) (lo' := [some (.ref (zad g 0)), some (.int a1), some (.int a2), some (.int a3), some (.int (x1 + 1))]) C dX6_placeIn_41 rfl (zinc zi_1) (Nat.le_of_ble_eq_true rfl) rfl rfl rfl ?_
        refine z_goto (pc' := 3) C dX6_placeIn_44 (by decide) ?_
        exact ih (x1 + 1) hf
      · skip
        refine z_iload C dX6_placeIn_38 rfl rfl ?_
        exact hr _ _ _ _ (congrArg (fun z => (z, m)) (Option.some.inj hf)) dX6_placeIn_40
