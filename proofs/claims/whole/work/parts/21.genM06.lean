def sX6_run_67 (N : Nat) (K122 : Int32 → zMem → Option (Int32 × zMem)) : (Int32 × Int32 × zMem → Option (Int32 × zMem)) → Int32 × Int32 × zMem → Option (Int32 × zMem) := fun rec (x12, x13, m14) =>
  kgi m14 0 11 fun v15 =>
  kgi m14 0 6 fun v16 =>
  if v16 ≤ v15 then
  K122 x12 m14
  else
  if x13 = 0 then
  K122 x12 m14
  else
  kc2 (fX6_reads N m14) fun v17 m18 =>
  kjn (fun (w19 : Int32) (m20 : zMem) =>
  kjn (fun (w21 : Int32) =>
  klt (x12 + w21 : Int32) fun v22 =>
  kc2 (fX6_skips N m20) fun v23 m24 =>
  rec (v22, w19, m24)) fun K112 =>
  if w19 = 0 then
  K112 0
  else
  K112 1) fun K101 =>
  if v17 = 0 then
  K101 0 m18
  else
  kc2 (fX6_does N m18) fun v25 m26 =>
  if v25 = 0 then
  K101 0 m26
  else
  K101 1 m26
def sX6_run_15 (N : Nat) (K49 : zMem → Option (Int32 × zMem)) : (zMem → Option (Int32 × zMem)) → zMem → Option (Int32 × zMem) := fun rec m27 =>
  kgi m27 0 11 fun v28 =>
  kgi m27 0 6 fun v29 =>
  if v29 ≤ v28 then
  K49 m27
  else
  kc2 (fX6_reads N m27) fun v30 m31 =>
  if v30 = 0 then
  kgi m31 0 11 fun v34 =>
  some ((-10) - v34, m31)
  else
  kc2 (fX6_skips N m31) fun v32 m33 =>
  rec m33
def fX6_run (N : Nat) (m : zMem) : Option (Int32 × zMem) :=
  kpi m 0 4 0 fun m1 =>
  kpi m1 0 11 0 fun m2 =>
  kc2 (fX6_skips N m2) fun v3 m4 =>
  kjn (fun (m5 : zMem) =>
  kc1 (fX6_saves N m5) fun m6 =>
  kpi m6 0 11 0 fun m7 =>
  kc2 (fX6_skips N m7) fun v8 m9 =>
  kjn (fun (w10 : Int32) (m11 : zMem) =>
  some (w10, m11)) fun K122 =>
  klp (sX6_run_67 N K122) N (0, 1, m9)) fun K49 =>
  klp (sX6_run_15 N K49) N m4
theorem PX6_run_28 {g : zG} (hM : isM g) : zFp wsX6_run RX6 (zcl g) 28 5 4 .int := ⟨RX6, TX6, 15, tyX6, hM.2.2 ▸ rfl, by decide +kernel, by decide, by decide +kernel, tyX6_ok, nmX6, rfl, by decide +kernel⟩
theorem FX6_run_187 {g : zG} (hM : isM g) : zFl wsX6_run RX6 (zcl g) 187 5 6 := ⟨RX6, TX6, 15, hM.2.2 ▸ rfl, by decide +kernel, by decide, by decide +kernel⟩
theorem FX6_run_190 {g : zG} (hM : isM g) : zFl wsX6_run RX6 (zcl g) 190 5 11 := ⟨RX6, TX6, 15, hM.2.2 ▸ rfl, by decide +kernel, by decide, by decide +kernel⟩
theorem PX6_run_190 {g : zG} (hM : isM g) : zFp wsX6_run RX6 (zcl g) 190 5 11 .int := ⟨RX6, TX6, 15, tyX6, hM.2.2 ▸ rfl, by decide +kernel, by decide, by decide +kernel, tyX6_ok, nmX6, rfl, by decide +kernel⟩
theorem hdX6_run : yX6_run.cls = RX6 ∧ yX6_run.cls ≠ "java/lang/invoke/MethodHandle" ∧ yX6_run.cls ≠ "java/lang/invoke/VarHandle" ∧ (parseMethodDescriptor yX6_run.desc).map (fun d => d.parameters.length) = some 0 := by decide +kernel
set_option maxHeartbeats 4000000 in
set_option maxRecDepth 100000 in
theorem qX6_run {l : Launch} {g : zG} (hM : isM g)  (N : Nat) (m : zMem)  (o : Int32 × zMem) (hf : fX6_run N m = some o) : zMI l g yX6_run wsX6_run { frames := 8, cells := 0, slots := 0, locals := 193 } [.ref (zad g 0)] m o := by
  refine z_met_i (cc := cX6_run) (maxL := 4) (lo0 := [some (.ref (zad g 0)), none, none, none]) (by decide +kernel) rfl rfl (Nat.le_of_ble_eq_true rfl) (fun x hx C hr => ?_)
  unfold fX6_run at hf
  refine z_aload_n (i := 0) C dX6_run_0 rfl rfl rfl ?_
  refine z_iconst C dX6_run_1 zi_0 rfl ?_
  refine z_pi C (PX6_run_28 hM) (mn_0 hM) (mc_0 hM) rfl dX6_run_2 rfl hf (fun m1 hf => ?_)
  refine z_aload_n (i := 0) C dX6_run_5 rfl rfl rfl ?_
  refine z_iconst C dX6_run_6 zi_0 rfl ?_
  refine z_pi C (PX6_run_190 hM) (mn_0 hM) (mc_0 hM) rfl dX6_run_7 rfl hf (fun m2 hf => ?_)
  refine z_aload_n (i := 0) C dX6_run_10 rfl rfl rfl ?_
  refine z_cviW (As := []) (st := []) (m := m2) C (cl_5 hM) (mn_0 hM) (mc_0 hM) gX6_run_X6_skips hdX6_skips rfl (fun z h => qX6_skips hM N m2 z h) rfl (Nat.le_of_ble_eq_true rfl) ⟨Nat.le_of_ble_eq_true rfl, Nat.le_of_ble_eq_true rfl⟩ ⟨Nat.le_refl _, Nat.le_refl _⟩ dX6_run_11 rfl rfl hf (fun v3 m4 hf => ?_)
  refine z_istore_n (i := 1) (lo' := [some (.ref (zad g 0)), some (.int v3), none, none]) C dX6_run_14 rfl (Nat.le_of_ble_eq_true rfl) rfl rfl rfl ?_
  refine z_drop (lo' := [some (.ref (zad g 0)), none, none, none]) 1 rfl ?_
  refine kjn_V (fun K49 => ∀ (m5 : zMem), K49 m5 = some o → zV x g 4 0 0 49 [some (.ref (zad g 0)), none, none, none] [] m5) hf (fun m5 hf => ?_) (fun K49 hK49 hf => ?_)
  · skip
    refine z_aload_n (i := 0) C dX6_run_49 rfl rfl rfl ?_
    refine z_cvvW (As := []) (st := []) (m := m5) C (cl_5 hM) (mn_0 hM) (mc_0 hM) gX6_run_X6_saves hdX6_saves rfl (fun z h => qX6_saves hM N m5 z h) rfl (Nat.le_of_ble_eq_true rfl) ⟨Nat.le_of_ble_eq_true rfl, Nat.le_of_ble_eq_true rfl⟩ ⟨Nat.le_refl _, Nat.le_refl _⟩ dX6_run_50 rfl rfl hf (fun m6 hf => ?_)
    refine z_aload_n (i := 0) C dX6_run_53 rfl rfl rfl ?_
    refine z_iconst C dX6_run_54 zi_0 rfl ?_
    refine z_pi C (PX6_run_190 hM) (mn_0 hM) (mc_0 hM) rfl dX6_run_55 rfl hf (fun m7 hf => ?_)
    refine z_iconst C dX6_run_58 zi_0 rfl ?_
    refine z_istore_n (i := 2) (lo' := [some (.ref (zad g 0)), none, some (.int 0), none]) C dX6_run_59 rfl (Nat.le_of_ble_eq_true rfl) rfl rfl rfl ?_
    refine z_iconst C dX6_run_60 zi_1 rfl ?_
    refine z_istore_n (i := 3) (lo' := [some (.ref (zad g 0)), none, some (.int 0), some (.int 1)]) C dX6_run_61 rfl (Nat.le_of_ble_eq_true rfl) rfl rfl rfl ?_
    refine z_aload_n (i := 0) C dX6_run_62 rfl rfl rfl ?_
    refine z_cviW (As := []) (st := []) (m := m7) C (cl_5 hM) (mn_0 hM) (mc_0 hM) gX6_run_X6_skips hdX6_skips rfl (fun z h => qX6_skips hM N m7 z h) rfl (Nat.le_of_ble_eq_true rfl) ⟨Nat.le_of_ble_eq_true rfl, Nat.le_of_ble_eq_true rfl⟩ ⟨Nat.le_refl _, Nat.le_refl _⟩ dX6_run_63 rfl rfl hf (fun v8 m9 hf => ?_)
    refine z_istore_n (i := 1) (lo' := [some (.ref (zad g 0)), some (.int v8), some (.int 0), some (.int 1)]) C dX6_run_66 rfl (Nat.le_of_ble_eq_true rfl) rfl rfl rfl ?_
    refine z_drop (lo' := [some (.ref (zad g 0)), none, some (.int 0), some (.int 1)]) 1 rfl ?_
    refine kjn_V (fun K122 => ∀ (w10 : Int32) (m11 : zMem), K122 w10 m11 = some o → zV x g 4 0 0 122 [none, none, some (.int w10), none] [] m11) hf (fun w10 m11 hf => ?_) (fun K122 hK122 hf => ?_)
    · skip
      refine z_iload_n (i := 2) C dX6_run_122 rfl rfl rfl ?_
      exact hr _ _ _ _ (Option.some.inj hf) dX6_run_123
    · skip
      refine klp_V (fun z => zV x g 4 0 0 67 [some (.ref (zad g 0)), none, some (.int z.1), some (.int z.2.1)] [] z.2.2) hf (fun rec z ih hf => ?_)
      obtain ⟨x12, x13, m14⟩ := z
      unfold sX6_run_67 at hf
      try dsimp only at hf
      try dsimp only
      refine z_aload_n (i := 0) C dX6_run_67 rfl rfl rfl ?_
      refine z_gi C (FX6_run_190 hM) (mn_0 hM) (mc_0 hM) rfl dX6_run_68 rfl hf (fun v15 hf => ?_)
      refine z_aload_n (i := 0) C dX6_run_71 rfl rfl rfl ?_
      refine z_gi C (FX6_run_187 hM) (mn_0 hM) (mc_0 hM) rfl dX6_run_72 rfl hf (fun v16 hf => ?_)
      refine z_ic_ge (tgt := 122) C dX6_run_75 (by decide) rfl hf (fun hf => ?_) (fun hf => ?_)
      · skip
        refine z_drop (lo' := [none, none, some (.int x12), some (.int x13)]) 0 rfl ?_
        refine z_drop (lo' := [none, none, some (.int x12), none]) 3 rfl ?_
        exact hK122 _ _ hf
      · skip
        refine z_iload_n (i := 3) C dX6_run_78 rfl rfl rfl ?_
        refine z_if_eq (tgt := 122) C dX6_run_79 (by decide) rfl hf (fun hf => ?_) (fun hf => ?_)
        · skip
          refine z_drop (lo' := [none, none, some (.int x12), some (.int x13)]) 0 rfl ?_
          refine z_drop (lo' := [none, none, some (.int x12), none]) 3 rfl ?_
          exact hK122 _ _ hf
        · skip
          refine z_aload_n (i := 0) C dX6_run_82 rfl rfl rfl ?_
          refine z_cviW (As := []) (st := []) (m := m14) C (cl_5 hM) (mn_0 hM) (mc_0 hM) gX6_run_X6_reads hdX6_reads rfl (fun z h => qX6_reads hM N m14 z h) rfl (Nat.le_of_ble_eq_true rfl) ⟨Nat.le_of_ble_eq_true rfl, Nat.le_of_ble_eq_true rfl⟩ ⟨Nat.le_refl _, Nat.le_refl _⟩ dX6_run_83 rfl rfl hf (fun v17 m18 hf => ?_)
          refine kjn_V (fun K101 => ∀ (w19 : Int32) (m20 : zMem), K101 w19 m20 = some o → zV x g 4 0 0 101 [some (.ref (zad g 0)), none, some (.int x12), none] [.int w19] m20) hf (fun w19 m20 hf => ?_) (fun K101 hK101 hf => ?_)
          · skip
            refine z_istore_n (i := 3) (lo' := [some (.ref (zad g 0)), none, some (.int x12), some (.int w19)]) C dX6_run_101 rfl (Nat.le_of_ble_eq_true rfl) rfl rfl rfl ?_
            refine z_iload_n (i := 2) C dX6_run_102 rfl rfl rfl ?_
            refine z_iload_n (i := 3) C dX6_run_103 rfl rfl rfl ?_
            refine kjn_V (fun K112 => ∀ (w21 : Int32), K112 w21 = some o → zV x g 4 0 0 112 [some (.ref (zad g 0)), none, none, some (.int w19)] [.int w21, .int x12] m20) hf (fun w21 hf => ?_) (fun K112 hK112 hf => ?_)
            · skip
              refine z_iadd C dX6_run_112 rfl ?_
              refine z_top _ hf (fun v22 hf => ?_)
              refine z_istore_n (i := 2) (lo' := [some (.ref (zad g 0)), none, some (.int v22), some (.int w19)]) C dX6_run_113 rfl (Nat.le_of_ble_eq_true rfl) rfl rfl rfl ?_
              refine z_aload_n (i := 0) C dX6_run_114 rfl rfl rfl ?_
              refine z_cviW (As := []) (st := []) (m := m20) C (cl_5 hM) (mn_0 hM) (mc_0 hM) gX6_run_X6_skips hdX6_skips rfl (fun z h => qX6_skips hM N m20 z h) rfl (Nat.le_of_ble_eq_true rfl) ⟨Nat.le_of_ble_eq_true rfl, Nat.le_of_ble_eq_true rfl⟩ ⟨Nat.le_refl _, Nat.le_refl _⟩ dX6_run_115 rfl rfl hf (fun v23 m24 hf => ?_)
              refine z_istore_n (i := 1) (lo' := [some (.ref (zad g 0)), some (.int v23), some (.int v22), some (.int w19)]) C dX6_run_118 rfl (Nat.le_of_ble_eq_true rfl) rfl rfl rfl ?_
              refine z_goto (pc' := 67) C dX6_run_119 (by decide) ?_
              refine z_drop (lo' := [some (.ref (zad g 0)), none, some (.int v22), some (.int w19)]) 1 rfl ?_
              exact ih (v22, w19, m24) hf
            · skip
              refine z_if_eq (tgt := 111) C dX6_run_104 (by decide) rfl hf (fun hf => ?_) (fun hf => ?_)
              · skip
                refine z_iconst C dX6_run_111 zi_0 rfl ?_
                refine z_drop (lo' := [some (.ref (zad g 0)), none, none, some (.int w19)]) 2 rfl ?_
                exact hK112 _ hf
              · skip
                refine z_iconst C dX6_run_107 zi_1 rfl ?_
                refine z_goto (pc' := 112) C dX6_run_108 (by decide) ?_
                refine z_drop (lo' := [some (.ref (zad g 0)), none, none, some (.int w19)]) 2 rfl ?_
                exact hK112 _ hf
          · skip
            refine z_if_eq (tgt := 100) C dX6_run_86 (by decide) rfl hf (fun hf => ?_) (fun hf => ?_)
            · skip
              refine z_iconst C dX6_run_100 zi_0 rfl ?_
              refine z_drop (lo' := [some (.ref (zad g 0)), none, some (.int x12), none]) 3 rfl ?_
              exact hK101 _ _ hf
            · skip
              refine z_aload_n (i := 0) C dX6_run_89 rfl rfl rfl ?_
              refine z_cviW (As := []) (st := []) (m := m18) C (cl_5 hM) (mn_0 hM) (mc_0 hM) gX6_run_X6_does hdX6_does rfl (fun z h => qX6_does hM N m18 z h) rfl (Nat.le_of_ble_eq_true rfl) ⟨Nat.le_of_ble_eq_true rfl, Nat.le_of_ble_eq_true rfl⟩ ⟨Nat.le_refl _, Nat.le_refl _⟩ dX6_run_90 rfl rfl hf (fun v25 m26 hf => ?_)
              refine z_if_eq (tgt := 100) C dX6_run_93 (by decide) rfl hf (fun hf => ?_) (fun hf => ?_)
              · skip
                refine z_iconst C dX6_run_100 zi_0 rfl ?_
                refine z_drop (lo' := [some (.ref (zad g 0)), none, some (.int x12), none]) 3 rfl ?_
                exact hK101 _ _ hf
              · skip
                refine z_iconst C dX6_run_96 zi_1 rfl ?_
                refine z_goto (pc' := 101) C dX6_run_97 (by decide) ?_
                refine z_drop (lo' := [some (.ref (zad g 0)), none, some (.int x12), none]) 3 rfl ?_
                exact hK101 _ _ hf
  · skip
    refine klp_V (fun z => zV x g 4 0 0 15 [some (.ref (zad g 0)), none, none, none] [] z) hf (fun rec z ih hf => ?_)
    generalize z = m27 at hf ⊢
    unfold sX6_run_15 at hf
    try dsimp only at hf
    try dsimp only
    refine z_aload_n (i := 0) C dX6_run_15 rfl rfl rfl ?_
    refine z_gi C (FX6_run_190 hM) (mn_0 hM) (mc_0 hM) rfl dX6_run_16 rfl hf (fun v28 hf => ?_)
    refine z_aload_n (i := 0) C dX6_run_19 rfl rfl rfl ?_
    refine z_gi C (FX6_run_187 hM) (mn_0 hM) (mc_0 hM) rfl dX6_run_20 rfl hf (fun v29 hf => ?_)
    refine z_ic_ge (tgt := 49) C dX6_run_23 (by decide) rfl hf (fun hf => ?_) (fun hf => ?_)
    · skip
      exact hK49 _ hf
    · skip
      refine z_aload_n (i := 0) C dX6_run_26 rfl rfl rfl ?_
      refine z_cviW (As := []) (st := []) (m := m27) C (cl_5 hM) (mn_0 hM) (mc_0 hM) gX6_run_X6_reads hdX6_reads rfl (fun z h => qX6_reads hM N m27 z h) rfl (Nat.le_of_ble_eq_true rfl) ⟨Nat.le_of_ble_eq_true rfl, Nat.le_of_ble_eq_true rfl⟩ ⟨Nat.le_refl _, Nat.le_refl _⟩ dX6_run_27 rfl rfl hf (fun v30 m31 hf => ?_)
      refine z_if_ne (tgt := 41) C dX6_run_30 (by decide) rfl hf (fun hf => ?_) (fun hf => ?_)
      · skip
        refine z_aload_n (i := 0) C dX6_run_41 rfl rfl rfl ?_
        refine z_cviW (As := []) (st := []) (m := m31) C (cl_5 hM) (mn_0 hM) (mc_0 hM) gX6_run_X6_skips hdX6_skips rfl (fun z h => qX6_skips hM N m31 z h) rfl (Nat.le_of_ble_eq_true rfl) ⟨Nat.le_of_ble_eq_true rfl, Nat.le_of_ble_eq_true rfl⟩ ⟨Nat.le_refl _, Nat.le_refl _⟩ dX6_run_42 rfl rfl hf (fun v32 m33 hf => ?_)
        refine z_istore_n (i := 1) (lo' := [some (.ref (zad g 0)), some (.int v32), none, none]) C dX6_run_45 rfl (Nat.le_of_ble_eq_true rfl) rfl rfl rfl ?_
        refine z_goto (pc' := 15) C dX6_run_46 (by decide) ?_
        refine z_drop (lo' := [some (.ref (zad g 0)), none, none, none]) 1 rfl ?_
        exact ih m33 hf
      · skip
        refine z_bipush C dX6_run_33 zb_m10 rfl ?_
        refine z_aload_n (i := 0) C dX6_run_35 rfl rfl rfl ?_
        refine z_gi C (FX6_run_190 hM) (mn_0 hM) (mc_0 hM) rfl dX6_run_36 rfl hf (fun v34 hf => ?_)
        refine z_isub C dX6_run_39 rfl ?_
        exact hr _ _ _ _ (Option.some.inj hf) dX6_run_40

def fX6_mix (a1 : Int32) (m : zMem) : Option (zMem) :=
  kgl m 0 fun v1 =>
  kpl m 0 ((31 * v1) + a1.toInt64) fun m2 =>
  some m2
theorem FX6_mix_219 {g : zG} (hM : isM g) : zFl wsX6_mix RX6 (zcl g) 219 5 14 := ⟨RX6, TX6, 15, hM.2.2 ▸ rfl, by decide +kernel, by decide, by decide +kernel⟩
theorem PX6_mix_219 {g : zG} (hM : isM g) : zFp wsX6_mix RX6 (zcl g) 219 5 14 .long := ⟨RX6, TX6, 15, tyX6, hM.2.2 ▸ rfl, by decide +kernel, by decide, by decide +kernel, tyX6_ok, nmX6, rfl, by decide +kernel⟩
theorem hdX6_mix : yX6_mix.cls = RX6 ∧ yX6_mix.cls ≠ "java/lang/invoke/MethodHandle" ∧ yX6_mix.cls ≠ "java/lang/invoke/VarHandle" ∧ (parseMethodDescriptor yX6_mix.desc).map (fun d => d.parameters.length) = some 1 := by decide +kernel
set_option maxHeartbeats 4000000 in
set_option maxRecDepth 100000 in
theorem qX6_mix {l : Launch} {g : zG} (hM : isM g)  (a1 : Int32) (m : zMem)  (o : zMem) (hf : fX6_mix a1 m = some o) : zMV l g yX6_mix wsX6_mix { frames := 0, cells := 0, slots := 0, locals := 0 } [.ref (zad g 0), .int a1] m o := by
  refine z_met_v (cc := cX6_mix) (maxL := 2) (lo0 := [some (.ref (zad g 0)), some (.int a1)]) (by decide +kernel) rfl rfl (Nat.le_of_ble_eq_true rfl) (fun x hx C hr => ?_)
  unfold fX6_mix at hf
  refine z_aload_n (i := 0) C dX6_mix_0 rfl rfl rfl ?_
  refine z_ldc2 (v := 31) C (by decide +kernel) dX6_mix_1 rfl ?_
  refine z_aload_n (i := 0) C dX6_mix_4 rfl rfl rfl ?_
  refine z_gl C (FX6_mix_219 hM) (mn_0 hM) (mc_0 hM) rfl dX6_mix_5 rfl hf (fun v1 hf => ?_)
  refine z_lmul C dX6_mix_8 rfl ?_
  refine z_iload_n (i := 1) C dX6_mix_9 rfl rfl rfl ?_
  refine z_i2l C dX6_mix_10 rfl ?_
  refine z_ladd C dX6_mix_11 rfl ?_
  refine z_pl C (PX6_mix_219 hM) (mn_0 hM) (mc_0 hM) rfl zhash_u dX6_mix_12 rfl hf (fun m2 hf => ?_)
  exact hr _ _ _ (Option.some.inj hf) dX6_mix_15

def sX6_mixMember_61 (v1 : Int32) (x5 : Int32) (K118 : zMem → Option (zMem)) : (Int32 × zMem → Option (zMem)) → Int32 × zMem → Option (zMem) := fun rec (x11, m12) =>
  kld m12 1 1816 ((v1 + 3) + x5) fun v13 =>
  if ((4 * x5) + v13) ≤ x11 then
  K118 m12
  else
  kld m12 1 1816 ((v1 + 11) + x11) fun v14 =>
  kc1 (fX6_mix v14 m12) fun m15 =>
  kld m15 1 1816 ((v1 + 43) + x11) fun v16 =>
  kc1 (fX6_mix v16 m15) fun m17 =>
  rec (x11 + 1, m17)
def sX6_mixMember_36 (N : Nat) (v1 : Int32) (K124 : zMem → Option (zMem)) : (Int32 × zMem → Option (zMem)) → Int32 × zMem → Option (zMem) := fun rec (x5, m6) =>
  if 8 ≤ x5 then
  K124 m6
  else
  kld m6 1 1816 ((v1 + 3) + x5) fun v7 =>
  kc1 (fX6_mix v7 m6) fun m8 =>
  klt (4 * x5 : Int32) fun v9 =>
  kjn (fun (m10 : zMem) =>
  rec (x5 + 1, m10)) fun K118 =>
  klp (sX6_mixMember_61 v1 x5 K118) N (v9, m8)
def sX6_mixMember_13 (N : Nat) (a1 : Int32) (K34 : zMem → Option (zMem)) : (Int32 × zMem → Option (zMem)) → Int32 × zMem → Option (zMem) := fun rec (x18, m19) =>
  if 5 ≤ x18 then
  K34 m19
  else
  kc1 (fX6_tellMember N a1 x18 m19) fun v20 =>
  kc1 (fX6_mix v20 m19) fun m21 =>
  rec (x18 + 1, m21)
def fX6_mixMember (N : Nat) (a1 : Int32) (m : zMem) : Option (zMem) :=
  kc1 (fX6_placeOf N a1 m) fun v1 =>
  kc1 (fX6_mix a1 m) fun m2 =>
  kjn (fun (m3 : zMem) =>
  kjn (fun (m4 : zMem) =>
  some m4) fun K124 =>
  klp (sX6_mixMember_36 N v1 K124) N (0, m3)) fun K34 =>
  klp (sX6_mixMember_13 N a1 K34) N (1, m2)
theorem FX6_mixMember_7 {g : zG} (hM : isM g) : zFl wsX6_mixMember RX6 (zcl g) 7 5 0 := ⟨RX6, TX6, 15, hM.2.2 ▸ rfl, by decide +kernel, by decide, by decide +kernel⟩
theorem hdX6_mixMember : yX6_mixMember.cls = RX6 ∧ yX6_mixMember.cls ≠ "java/lang/invoke/MethodHandle" ∧ yX6_mixMember.cls ≠ "java/lang/invoke/VarHandle" ∧ (parseMethodDescriptor yX6_mixMember.desc).map (fun d => d.parameters.length) = some 1 := by decide +kernel
set_option maxHeartbeats 4000000 in
set_option maxRecDepth 100000 in
theorem qX6_mixMember {l : Launch} {g : zG} (hM : isM g)  (N : Nat) (a1 : Int32) (m : zMem)  (o : zMem) (hf : fX6_mixMember N a1 m = some o) : zMV l g yX6_mixMember wsX6_mixMember { frames := 3, cells := 0, slots := 0, locals := 71 } [.ref (zad g 0), .int a1] m o := by
  refine z_met_v (cc := cX6_mixMember) (maxL := 5) (lo0 := [some (.ref (zad g 0)), some (.int a1), none, none, none]) (by decide +kernel) rfl rfl (Nat.le_of_ble_eq_true rfl) (fun x hx C hr => ?_)
  unfold fX6_mixMember at hf
  refine z_aload_n (i := 0) C dX6_mixMember_0 rfl rfl rfl ?_
  refine z_iload_n (i := 1) C dX6_mixMember_1 rfl rfl rfl ?_
  refine z_cviR (As := [.int a1]) (st := []) (m := m) C (cl_5 hM) (mn_0 hM) (mc_0 hM) gX6_mixMember_X6_placeOf hdX6_placeOf rfl (fun z h => qX6_placeOf hM N a1 m z h) rfl (Nat.le_of_ble_eq_true rfl) ⟨Nat.le_of_ble_eq_true rfl, Nat.le_of_ble_eq_true rfl⟩ ⟨Nat.le_refl _, Nat.le_refl _⟩ dX6_mixMember_2 rfl rfl hf (fun v1 hf => ?_)
  refine z_istore_n (i := 2) (lo' := [some (.ref (zad g 0)), some (.int a1), some (.int v1), none, none]) C dX6_mixMember_5 rfl (Nat.le_of_ble_eq_true rfl) rfl rfl rfl ?_
  refine z_aload_n (i := 0) C dX6_mixMember_6 rfl rfl rfl ?_
  refine z_iload_n (i := 1) C dX6_mixMember_7 rfl rfl rfl ?_
  refine z_cvvW (As := [.int a1]) (st := []) (m := m) C (cl_5 hM) (mn_0 hM) (mc_0 hM) gX6_mixMember_X6_mix hdX6_mix rfl (fun z h => qX6_mix hM a1 m z h) rfl (Nat.le_of_ble_eq_true rfl) ⟨Nat.le_of_ble_eq_true rfl, Nat.le_of_ble_eq_true rfl⟩ ⟨Nat.le_refl _, Nat.le_refl _⟩ dX6_mixMember_8 rfl rfl hf (fun m2 hf => ?_)
  refine z_iconst C dX6_mixMember_11 zi_1 rfl ?_
  refine z_istore_n (i := 3) (lo' := [some (.ref (zad g 0)), some (.int a1), some (.int v1), some (.int 1), none]) C dX6_mixMember_12 rfl (Nat.le_of_ble_eq_true rfl) rfl rfl rfl ?_
  refine kjn_V (fun K34 => ∀ (m3 : zMem), K34 m3 = some o → zV x g 5 0 0 34 [some (.ref (zad g 0)), none, some (.int v1), none, none] [] m3) hf (fun m3 hf => ?_) (fun K34 hK34 hf => ?_)
  · skip
    refine z_iconst C dX6_mixMember_34 zi_0 rfl ?_
    refine z_istore_n (i := 3) (lo' := [some (.ref (zad g 0)), none, some (.int v1), some (.int 0), none]) C dX6_mixMember_35 rfl (Nat.le_of_ble_eq_true rfl) rfl rfl rfl ?_
    refine kjn_V (fun K124 => ∀ (m4 : zMem), K124 m4 = some o → zV x g 5 0 0 124 [none, none, none, none, none] [] m4) hf (fun m4 hf => ?_) (fun K124 hK124 hf => ?_)
    · skip
      exact hr _ _ _ (Option.some.inj hf) dX6_mixMember_124
    · skip
      refine klp_V (fun z => zV x g 5 0 0 36 [some (.ref (zad g 0)), none, some (.int v1), some (.int z.1), none] [] z.2) hf (fun rec z ih hf => ?_)
      obtain ⟨x5, m6⟩ := z
      unfold sX6_mixMember_36 at hf
      try dsimp only at hf
      try dsimp only
      refine z_iload_n (i := 3) C dX6_mixMember_36 rfl rfl rfl ?_
      refine z_bipush C dX6_mixMember_37 zb_8 rfl ?_
      refine z_ic_ge (tgt := 124) C dX6_mixMember_39 (by decide) rfl hf (fun hf => ?_) (fun hf => ?_)
      · skip
        refine z_drop (lo' := [none, none, some (.int v1), some (.int x5), none]) 0 rfl ?_
        refine z_drop (lo' := [none, none, none, some (.int x5), none]) 2 rfl ?_
        refine z_drop (lo' := [none, none, none, none, none]) 3 rfl ?_
        exact hK124 _ hf
      · skip
        refine z_aload_n (i := 0) C dX6_mixMember_42 rfl rfl rfl ?_
        refine z_aload_n (i := 0) C dX6_mixMember_43 rfl rfl rfl ?_
        refine z_gr C (FX6_mixMember_7 hM) (mn_0 hM) (mc_0 hM) rfl dX6_mixMember_44 rfl ?_
        refine z_iload_n (i := 2) C dX6_mixMember_47 rfl rfl rfl ?_
        refine z_iconst C dX6_mixMember_48 zi_3 rfl ?_
        refine z_iadd C dX6_mixMember_49 rfl ?_
        refine z_iload_n (i := 3) C dX6_mixMember_50 rfl rfl rfl ?_
        refine z_iadd C dX6_mixMember_51 rfl ?_
        refine z_iaload C (mn_1 hM) (mc_1 hM) dX6_mixMember_52 rfl hf (fun v7 hf => ?_)
        refine z_cvvW (As := [.int v7]) (st := []) (m := m6) C (cl_5 hM) (mn_0 hM) (mc_0 hM) gX6_mixMember_X6_mix hdX6_mix rfl (fun z h => qX6_mix hM v7 m6 z h) rfl (Nat.le_of_ble_eq_true rfl) ⟨Nat.le_of_ble_eq_true rfl, Nat.le_of_ble_eq_true rfl⟩ ⟨Nat.le_refl _, Nat.le_refl _⟩ dX6_mixMember_53 rfl rfl hf (fun m8 hf => ?_)
        refine z_iconst C dX6_mixMember_56 zi_4 rfl ?_
        refine z_iload_n (i := 3) C dX6_mixMember_57 rfl rfl rfl ?_
        refine z_imul C dX6_mixMember_58 rfl ?_
        refine z_top _ hf (fun v9 hf => ?_)
        refine z_istore (lo' := [some (.ref (zad g 0)), none, some (.int v1), some (.int x5), some (.int v9)]) C dX6_mixMember_59 (Nat.le_of_ble_eq_true rfl) rfl rfl rfl ?_
        refine kjn_V (fun K118 => ∀ (m10 : zMem), K118 m10 = some o → zV x g 5 0 0 118 [some (.ref (zad g 0)), none, some (.int v1), some (.int x5), none] [] m10) hf (fun m10 hf => ?_) (fun K118 hK118 hf => ?_)
        · skip
          refine z_iinc (v := x5 + 1) (lo' := [some (.ref (zad g 0)), none, some (.int v1), some (.int (x5 + 1)), none]) C dX6_mixMember_118 rfl (zinc zi_1) (Nat.le_of_ble_eq_true rfl) rfl rfl rfl ?_
          refine z_goto (pc' := 36) C dX6_mixMember_121 (by decide) ?_
          exact ih (x5 + 1, m10) hf
        · skip
          refine klp_V (fun z => zV x g 5 0 0 61 [some (.ref (zad g 0)), none, some (.int v1), some (.int x5), some (.int z.1)] [] z.2) hf (fun rec z ih hf => ?_)
          obtain ⟨x11, m12⟩ := z
          unfold sX6_mixMember_61 at hf
          try dsimp only at hf
          try dsimp only
          refine z_iload C dX6_mixMember_61 rfl rfl ?_
          refine z_iconst C dX6_mixMember_63 zi_4 rfl ?_
          refine z_iload_n (i := 3) C dX6_mixMember_64 rfl rfl rfl ?_
          refine z_imul C dX6_mixMember_65 rfl ?_
          refine z_aload_n (i := 0) C dX6_mixMember_66 rfl rfl rfl ?_
          refine z_gr C (FX6_mixMember_7 hM) (mn_0 hM) (mc_0 hM) rfl dX6_mixMember_67 rfl ?_
          refine z_iload_n (i := 2) C dX6_mixMember_70 rfl rfl rfl ?_
          refine z_iconst C dX6_mixMember_71 zi_3 rfl ?_
          refine z_iadd C dX6_mixMember_72 rfl ?_
          refine z_iload_n (i := 3) C dX6_mixMember_73 rfl rfl rfl ?_
          refine z_iadd C dX6_mixMember_74 rfl ?_
          refine z_iaload C (mn_1 hM) (mc_1 hM) dX6_mixMember_75 rfl hf (fun v13 hf => ?_)
          refine z_iadd C dX6_mixMember_76 rfl ?_
          refine z_ic_ge (tgt := 118) C dX6_mixMember_77 (by decide) rfl hf (fun hf => ?_) (fun hf => ?_)
          · skip
            refine z_drop (lo' := [some (.ref (zad g 0)), none, some (.int v1), some (.int x5), none]) 4 rfl ?_
            exact hK118 _ hf
          · skip
            refine z_aload_n (i := 0) C dX6_mixMember_80 rfl rfl rfl ?_
            refine z_aload_n (i := 0) C dX6_mixMember_81 rfl rfl rfl ?_
            refine z_gr C (FX6_mixMember_7 hM) (mn_0 hM) (mc_0 hM) rfl dX6_mixMember_82 rfl ?_
            refine z_iload_n (i := 2) C dX6_mixMember_85 rfl rfl rfl ?_
            refine z_bipush C dX6_mixMember_86 zb_11 rfl ?_
            refine z_iadd C dX6_mixMember_88 rfl ?_
            refine z_iload C dX6_mixMember_89 rfl rfl ?_
            refine z_iadd C dX6_mixMember_91 rfl ?_
            refine z_iaload C (mn_1 hM) (mc_1 hM) dX6_mixMember_92 rfl hf (fun v14 hf => ?_)
            refine z_cvvW (As := [.int v14]) (st := []) (m := m12) C (cl_5 hM) (mn_0 hM) (mc_0 hM) gX6_mixMember_X6_mix hdX6_mix rfl (fun z h => qX6_mix hM v14 m12 z h) rfl (Nat.le_of_ble_eq_true rfl) ⟨Nat.le_of_ble_eq_true rfl, Nat.le_of_ble_eq_true rfl⟩ ⟨Nat.le_refl _, Nat.le_refl _⟩ dX6_mixMember_93 rfl rfl hf (fun m15 hf => ?_)
            refine z_aload_n (i := 0) C dX6_mixMember_96 rfl rfl rfl ?_
            refine z_aload_n (i := 0) C dX6_mixMember_97 rfl rfl rfl ?_
            refine z_gr C (FX6_mixMember_7 hM) (mn_0 hM) (mc_0 hM) rfl dX6_mixMember_98 rfl ?_
            refine z_iload_n (i := 2) C dX6_mixMember_101 rfl rfl rfl ?_
            refine z_bipush C dX6_mixMember_102 zb_43 rfl ?_
            refine z_iadd C dX6_mixMember_104 rfl ?_
            refine z_iload C dX6_mixMember_105 rfl rfl ?_
            refine z_iadd C dX6_mixMember_107 rfl ?_
            refine z_iaload C (mn_1 hM) (mc_1 hM) dX6_mixMember_108 rfl hf (fun v16 hf => ?_)
            refine z_cvvW (As := [.int v16]) (st := []) (m := m15) C (cl_5 hM) (mn_0 hM) (mc_0 hM) gX6_mixMember_X6_mix hdX6_mix rfl (fun z h => qX6_mix hM v16 m15 z h) rfl (Nat.le_of_ble_eq_true rfl) ⟨Nat.le_of_ble_eq_true rfl, Nat.le_of_ble_eq_true rfl⟩ ⟨Nat.le_refl _, Nat.le_refl _⟩ dX6_mixMember_109 rfl rfl hf (fun m17 hf => ?_)
            refine z_iinc (v := x11 + 1) (lo' := [some (.ref (zad g 0)), none, some (.int v1), some (.int x5), some (.int (x11 + 1))]) C dX6_mixMember_112 rfl (zinc zi_1) (Nat.le_of_ble_eq_true rfl) rfl rfl rfl ?_
            refine z_goto (pc' := 61) C dX6_mixMember_115 (by decide) ?_
            exact ih (x11 + 1, m17) hf
  · skip
    refine klp_V (fun z => zV x g 5 0 0 13 [some (.ref (zad g 0)), some (.int a1), some (.int v1), some (.int z.1), none] [] z.2) hf (fun rec z ih hf => ?_)
    obtain ⟨x18, m19⟩ := z
    unfold sX6_mixMember_13 at hf
    try dsimp only at hf
    try dsimp only
    refine z_iload_n (i := 3) C dX6_mixMember_13 rfl rfl rfl ?_
    refine z_iconst C dX6_mixMember_14 zi_5 rfl ?_
    refine z_ic_ge (tgt := 34) C dX6_mixMember_15 (by decide) rfl hf (fun hf => ?_) (fun hf => ?_)
    · skip
      refine z_drop (lo' := [some (.ref (zad g 0)), none, some (.int v1), some (.int x18), none]) 1 rfl ?_
      refine z_drop (lo' := [some (.ref (zad g 0)), none, some (.int v1), none, none]) 3 rfl ?_
      exact hK34 _ hf
    · skip
      refine z_aload_n (i := 0) C dX6_mixMember_18 rfl rfl rfl ?_
      refine z_aload_n (i := 0) C dX6_mixMember_19 rfl rfl rfl ?_
      refine z_iload_n (i := 1) C dX6_mixMember_20 rfl rfl rfl ?_
      refine z_iload_n (i := 3) C dX6_mixMember_21 rfl rfl rfl ?_
      refine z_cviR (As := [.int a1, .int x18]) (st := [.ref (zad g 0)]) (m := m19) C (cl_5 hM) (mn_0 hM) (mc_0 hM) gX6_mixMember_X6_tellMember hdX6_tellMember rfl (fun z h => qX6_tellMember hM N a1 x18 m19 z h) rfl (Nat.le_of_ble_eq_true rfl) ⟨Nat.le_of_ble_eq_true rfl, Nat.le_of_ble_eq_true rfl⟩ ⟨Nat.le_refl _, Nat.le_refl _⟩ dX6_mixMember_22 rfl rfl hf (fun v20 hf => ?_)
      refine z_cvvW (As := [.int v20]) (st := []) (m := m19) C (cl_5 hM) (mn_0 hM) (mc_0 hM) gX6_mixMember_X6_mix hdX6_mix rfl (fun z h => qX6_mix hM v20 m19 z h) rfl (Nat.le_of_ble_eq_true rfl) ⟨Nat.le_of_ble_eq_true rfl, Nat.le_of_ble_eq_true rfl⟩ ⟨Nat.le_refl _, Nat.le_refl _⟩ dX6_mixMember_25 rfl rfl hf (fun m21 hf => ?_)
      refine z_iinc (v := x18 + 1) (lo' := [some (.ref (zad g 0)), some (.int a1), some (.int v1), some (.int (x18 + 1)), none]) C dX6_mixMember_28 rfl (zinc zi_1) (Nat.le_of_ble_eq_true rfl) rfl rfl rfl ?_
      refine z_goto (pc' := 13) C dX6_mixMember_31 (by decide) ?_
      exact ih (x18 + 1, m21) hf

def sX6_digest_80 (N : Nat) (K106 : zMem → Option (Int64 × zMem)) : (Int32 × zMem → Option (Int64 × zMem)) → Int32 × zMem → Option (Int64 × zMem) := fun rec (x11, m12) =>
  if 256 ≤ x11 then
  K106 m12
  else
  kc1 (fX6_isMember N x11 m12) fun v13 =>
  if v13 = 0 then
  rec (x11 + 1, m12)
  else
  kc1 (fX6_mixMember N x11 m12) fun m14 =>
  rec (x11 + 1, m14)
def sX6_digest_53 (K78 : zMem → Option (Int64 × zMem)) : (Int32 × zMem → Option (Int64 × zMem)) → Int32 × zMem → Option (Int64 × zMem) := fun rec (x15, m16) =>
  if 9 ≤ x15 then
  K78 m16
  else
  kld m16 1 1816 (7 + x15) fun v17 =>
  kc1 (fX6_mix v17 m16) fun m18 =>
  rec (x15 + 1, m18)
def sX6_digest_30 (N : Nat) (K51 : zMem → Option (Int64 × zMem)) : (Int32 × zMem → Option (Int64 × zMem)) → Int32 × zMem → Option (Int64 × zMem) := fun rec (x19, m20) =>
  if 9 ≤ x19 then
  K51 m20
  else
  kc1 (fX6_tellOverlay N x19 m20) fun v21 =>
  kc1 (fX6_mix v21 m20) fun m22 =>
  rec (x19 + 1, m22)
def fX6_digest (N : Nat) (m : zMem) : Option (Int64 × zMem) :=
  kpi m 0 4 0 fun m1 =>
  kpl m1 0 18554 fun m2 =>
  kgi m2 0 3 fun v3 =>
  kc1 (fX6_mix v3 m2) fun m4 =>
  kgi m4 0 6 fun v5 =>
  kc1 (fX6_mix v5 m4) fun m6 =>
  kjn (fun (m7 : zMem) =>
  kjn (fun (m8 : zMem) =>
  kjn (fun (m9 : zMem) =>
  kgl m9 0 fun v10 =>
  some (v10, m9)) fun K106 =>
  klp (sX6_digest_80 N K106) N (0, m8)) fun K78 =>
  klp (sX6_digest_53 K78) N (0, m7)) fun K51 =>
  klp (sX6_digest_30 N K51) N (0, m6)
theorem FX6_digest_7 {g : zG} (hM : isM g) : zFl wsX6_digest RX6 (zcl g) 7 5 0 := ⟨RX6, TX6, 15, hM.2.2 ▸ rfl, by decide +kernel, by decide, by decide +kernel⟩
theorem PX6_digest_28 {g : zG} (hM : isM g) : zFp wsX6_digest RX6 (zcl g) 28 5 4 .int := ⟨RX6, TX6, 15, tyX6, hM.2.2 ▸ rfl, by decide +kernel, by decide, by decide +kernel, tyX6_ok, nmX6, rfl, by decide +kernel⟩
theorem FX6_digest_36 {g : zG} (hM : isM g) : zFl wsX6_digest RX6 (zcl g) 36 5 3 := ⟨RX6, TX6, 15, hM.2.2 ▸ rfl, by decide +kernel, by decide, by decide +kernel⟩
theorem FX6_digest_187 {g : zG} (hM : isM g) : zFl wsX6_digest RX6 (zcl g) 187 5 6 := ⟨RX6, TX6, 15, hM.2.2 ▸ rfl, by decide +kernel, by decide, by decide +kernel⟩
theorem FX6_digest_219 {g : zG} (hM : isM g) : zFl wsX6_digest RX6 (zcl g) 219 5 14 := ⟨RX6, TX6, 15, hM.2.2 ▸ rfl, by decide +kernel, by decide, by decide +kernel⟩
theorem PX6_digest_219 {g : zG} (hM : isM g) : zFp wsX6_digest RX6 (zcl g) 219 5 14 .long := ⟨RX6, TX6, 15, tyX6, hM.2.2 ▸ rfl, by decide +kernel, by decide, by decide +kernel, tyX6_ok, nmX6, rfl, by decide +kernel⟩
theorem hdX6_digest : yX6_digest.cls = RX6 ∧ yX6_digest.cls ≠ "java/lang/invoke/MethodHandle" ∧ yX6_digest.cls ≠ "java/lang/invoke/VarHandle" ∧ (parseMethodDescriptor yX6_digest.desc).map (fun d => d.parameters.length) = some 0 := by decide +kernel
set_option maxHeartbeats 4000000 in
set_option maxRecDepth 100000 in
theorem qX6_digest {l : Launch} {g : zG} (hM : isM g)  (N : Nat) (m : zMem)  (o : Int64 × zMem) (hf : fX6_digest N m = some o) : zML l g yX6_digest wsX6_digest { frames := 4, cells := 0, slots := 0, locals := 95 } [.ref (zad g 0)] m o := by
  refine z_met_l (cc := cX6_digest) (maxL := 2) (lo0 := [some (.ref (zad g 0)), none]) (by decide +kernel) rfl rfl (Nat.le_of_ble_eq_true rfl) (fun x hx C hr => ?_)
  unfold fX6_digest at hf
  refine z_aload_n (i := 0) C dX6_digest_0 rfl rfl rfl ?_
  refine z_iconst C dX6_digest_1 zi_0 rfl ?_
  refine z_pi C (PX6_digest_28 hM) (mn_0 hM) (mc_0 hM) rfl dX6_digest_2 rfl hf (fun m1 hf => ?_)
  refine z_aload_n (i := 0) C dX6_digest_5 rfl rfl rfl ?_
  refine z_ldc2 (v := 18554) C (by decide +kernel) dX6_digest_6 rfl ?_
  refine z_pl C (PX6_digest_219 hM) (mn_0 hM) (mc_0 hM) rfl zhash_u dX6_digest_9 rfl hf (fun m2 hf => ?_)
  refine z_aload_n (i := 0) C dX6_digest_12 rfl rfl rfl ?_
  refine z_aload_n (i := 0) C dX6_digest_13 rfl rfl rfl ?_
  refine z_gi C (FX6_digest_36 hM) (mn_0 hM) (mc_0 hM) rfl dX6_digest_14 rfl hf (fun v3 hf => ?_)
  refine z_cvvW (As := [.int v3]) (st := []) (m := m2) C (cl_5 hM) (mn_0 hM) (mc_0 hM) gX6_digest_X6_mix hdX6_mix rfl (fun z h => qX6_mix hM v3 m2 z h) rfl (Nat.le_of_ble_eq_true rfl) ⟨Nat.le_of_ble_eq_true rfl, Nat.le_of_ble_eq_true rfl⟩ ⟨Nat.le_refl _, Nat.le_refl _⟩ dX6_digest_17 rfl rfl hf (fun m4 hf => ?_)
  refine z_aload_n (i := 0) C dX6_digest_20 rfl rfl rfl ?_
  refine z_aload_n (i := 0) C dX6_digest_21 rfl rfl rfl ?_
  refine z_gi C (FX6_digest_187 hM) (mn_0 hM) (mc_0 hM) rfl dX6_digest_22 rfl hf (fun v5 hf => ?_)
  refine z_cvvW (As := [.int v5]) (st := []) (m := m4) C (cl_5 hM) (mn_0 hM) (mc_0 hM) gX6_digest_X6_mix hdX6_mix rfl (fun z h => qX6_mix hM v5 m4 z h) rfl (Nat.le_of_ble_eq_true rfl) ⟨Nat.le_of_ble_eq_true rfl, Nat.le_of_ble_eq_true rfl⟩ ⟨Nat.le_refl _, Nat.le_refl _⟩ dX6_digest_25 rfl rfl hf (fun m6 hf => ?_)
  refine z_iconst C dX6_digest_28 zi_0 rfl ?_
  refine z_istore_n (i := 1) (lo' := [some (.ref (zad g 0)), some (.int 0)]) C dX6_digest_29 rfl (Nat.le_of_ble_eq_true rfl) rfl rfl rfl ?_
  refine kjn_V (fun K51 => ∀ (m7 : zMem), K51 m7 = some o → zV x g 2 0 0 51 [some (.ref (zad g 0)), none] [] m7) hf (fun m7 hf => ?_) (fun K51 hK51 hf => ?_)
  · skip
    refine z_iconst C dX6_digest_51 zi_0 rfl ?_
    refine z_istore_n (i := 1) (lo' := [some (.ref (zad g 0)), some (.int 0)]) C dX6_digest_52 rfl (Nat.le_of_ble_eq_true rfl) rfl rfl rfl ?_
    refine kjn_V (fun K78 => ∀ (m8 : zMem), K78 m8 = some o → zV x g 2 0 0 78 [some (.ref (zad g 0)), none] [] m8) hf (fun m8 hf => ?_) (fun K78 hK78 hf => ?_)
    · skip
      refine z_iconst C dX6_digest_78 zi_0 rfl ?_
      refine z_istore_n (i := 1) (lo' := [some (.ref (zad g 0)), some (.int 0)]) C dX6_digest_79 rfl (Nat.le_of_ble_eq_true rfl) rfl rfl rfl ?_
      refine kjn_V (fun K106 => ∀ (m9 : zMem), K106 m9 = some o → zV x g 2 0 0 106 [some (.ref (zad g 0)), none] [] m9) hf (fun m9 hf => ?_) (fun K106 hK106 hf => ?_)
      · skip
        refine z_aload_n (i := 0) C dX6_digest_106 rfl rfl rfl ?_
        refine z_gl C (FX6_digest_219 hM) (mn_0 hM) (mc_0 hM) rfl dX6_digest_107 rfl hf (fun v10 hf => ?_)
        exact hr _ _ _ _ (Option.some.inj hf) dX6_digest_110
      · skip
        refine klp_V (fun z => zV x g 2 0 0 80 [some (.ref (zad g 0)), some (.int z.1)] [] z.2) hf (fun rec z ih hf => ?_)
        obtain ⟨x11, m12⟩ := z
        unfold sX6_digest_80 at hf
        try dsimp only at hf
        try dsimp only
        refine z_iload_n (i := 1) C dX6_digest_80 rfl rfl rfl ?_
        refine z_sipush C dX6_digest_81 zs_256 rfl ?_
        refine z_ic_ge (tgt := 106) C dX6_digest_84 (by decide) rfl hf (fun hf => ?_) (fun hf => ?_)
        · skip
          refine z_drop (lo' := [some (.ref (zad g 0)), none]) 1 rfl ?_
          exact hK106 _ hf
        · skip
          refine z_aload_n (i := 0) C dX6_digest_87 rfl rfl rfl ?_
          refine z_iload_n (i := 1) C dX6_digest_88 rfl rfl rfl ?_
          refine z_cviR (As := [.int x11]) (st := []) (m := m12) C (cl_5 hM) (mn_0 hM) (mc_0 hM) gX6_digest_X6_isMember hdX6_isMember rfl (fun z h => qX6_isMember hM N x11 m12 z h) rfl (Nat.le_of_ble_eq_true rfl) ⟨Nat.le_of_ble_eq_true rfl, Nat.le_of_ble_eq_true rfl⟩ ⟨Nat.le_refl _, Nat.le_refl _⟩ dX6_digest_89 rfl rfl hf (fun v13 hf => ?_)
          refine z_if_eq (tgt := 100) C dX6_digest_92 (by decide) rfl hf (fun hf => ?_) (fun hf => ?_)
          · skip
            refine z_iinc (v := x11 + 1) (lo' := [some (.ref (zad g 0)), some (.int (x11 + 1))]) C dX6_digest_100 rfl (zinc zi_1) (Nat.le_of_ble_eq_true rfl) rfl rfl rfl ?_
            refine z_goto (pc' := 80) C dX6_digest_103 (by decide) ?_
            exact ih (x11 + 1, m12) hf
          · skip
            refine z_aload_n (i := 0) C dX6_digest_95 rfl rfl rfl ?_
            refine z_iload_n (i := 1) C dX6_digest_96 rfl rfl rfl ?_
            refine z_cvvW (As := [.int x11]) (st := []) (m := m12) C (cl_5 hM) (mn_0 hM) (mc_0 hM) gX6_digest_X6_mixMember hdX6_mixMember rfl (fun z h => qX6_mixMember hM N x11 m12 z h) rfl (Nat.le_of_ble_eq_true rfl) ⟨Nat.le_of_ble_eq_true rfl, Nat.le_of_ble_eq_true rfl⟩ ⟨Nat.le_refl _, Nat.le_refl _⟩ dX6_digest_97 rfl rfl hf (fun m14 hf => ?_)
            refine z_iinc (v := x11 + 1) (lo' := [some (.ref (zad g 0)), some (.int (x11 + 1))]) C dX6_digest_100 rfl (zinc zi_1) (Nat.le_of_ble_eq_true rfl) rfl rfl rfl ?_
            refine z_goto (pc' := 80) C dX6_digest_103 (by decide) ?_
            exact ih (x11 + 1, m14) hf
    · skip
      refine klp_V (fun z => zV x g 2 0 0 53 [some (.ref (zad g 0)), some (.int z.1)] [] z.2) hf (fun rec z ih hf => ?_)
      obtain ⟨x15, m16⟩ := z
      unfold sX6_digest_53 at hf
      try dsimp only at hf
      try dsimp only
      refine z_iload_n (i := 1) C dX6_digest_53 rfl rfl rfl ?_
      refine z_bipush C dX6_digest_54 zb_9 rfl ?_
      refine z_ic_ge (tgt := 78) C dX6_digest_56 (by decide) rfl hf (fun hf => ?_) (fun hf => ?_)
      · skip
        refine z_drop (lo' := [some (.ref (zad g 0)), none]) 1 rfl ?_
        exact hK78 _ hf
      · skip
        refine z_aload_n (i := 0) C dX6_digest_59 rfl rfl rfl ?_
        refine z_aload_n (i := 0) C dX6_digest_60 rfl rfl rfl ?_
        refine z_gr C (FX6_digest_7 hM) (mn_0 hM) (mc_0 hM) rfl dX6_digest_61 rfl ?_
        refine z_bipush C dX6_digest_64 zb_7 rfl ?_
        refine z_iload_n (i := 1) C dX6_digest_66 rfl rfl rfl ?_
        refine z_iadd C dX6_digest_67 rfl ?_
        refine z_iaload C (mn_1 hM) (mc_1 hM) dX6_digest_68 rfl hf (fun v17 hf => ?_)
        refine z_cvvW (As := [.int v17]) (st := []) (m := m16) C (cl_5 hM) (mn_0 hM) (mc_0 hM) gX6_digest_X6_mix hdX6_mix rfl (fun z h => qX6_mix hM v17 m16 z h) rfl (Nat.le_of_ble_eq_true rfl) ⟨Nat.le_of_ble_eq_true rfl, Nat.le_of_ble_eq_true rfl⟩ ⟨Nat.le_refl _, Nat.le_refl _⟩ dX6_digest_69 rfl rfl hf (fun m18 hf => ?_)
        refine z_iinc (v := x15 + 1) (lo' := [some (.ref (zad g 0)), some (.int (x15 + 1))]) C dX6_digest_72 rfl (zinc zi_1) (Nat.le_of_ble_eq_true rfl) rfl rfl rfl ?_
        refine z_goto (pc' := 53) C dX6_digest_75 (by decide) ?_
        exact ih (x15 + 1, m18) hf
  · skip
    refine klp_V (fun z => zV x g 2 0 0 30 [some (.ref (zad g 0)), some (.int z.1)] [] z.2) hf (fun rec z ih hf => ?_)
    obtain ⟨x19, m20⟩ := z
    unfold sX6_digest_30 at hf
    try dsimp only at hf
    try dsimp only
    refine z_iload_n (i := 1) C dX6_digest_30 rfl rfl rfl ?_
    refine z_bipush C dX6_digest_31 zb_9 rfl ?_
    refine z_ic_ge (tgt := 51) C dX6_digest_33 (by decide) rfl hf (fun hf => ?_) (fun hf => ?_)
    · skip
      refine z_drop (lo' := [some (.ref (zad g 0)), none]) 1 rfl ?_
      exact hK51 _ hf
    · skip
      refine z_aload_n (i := 0) C dX6_digest_36 rfl rfl rfl ?_
      refine z_aload_n (i := 0) C dX6_digest_37 rfl rfl rfl ?_
      refine z_iload_n (i := 1) C dX6_digest_38 rfl rfl rfl ?_
      refine z_cviR (As := [.int x19]) (st := [.ref (zad g 0)]) (m := m20) C (cl_5 hM) (mn_0 hM) (mc_0 hM) gX6_digest_X6_tellOverlay hdX6_tellOverlay rfl (fun z h => qX6_tellOverlay hM N x19 m20 z h) rfl (Nat.le_of_ble_eq_true rfl) ⟨Nat.le_of_ble_eq_true rfl, Nat.le_of_ble_eq_true rfl⟩ ⟨Nat.le_refl _, Nat.le_refl _⟩ dX6_digest_39 rfl rfl hf (fun v21 hf => ?_)
      refine z_cvvW (As := [.int v21]) (st := []) (m := m20) C (cl_5 hM) (mn_0 hM) (mc_0 hM) gX6_digest_X6_mix hdX6_mix rfl (fun z h => qX6_mix hM v21 m20 z h) rfl (Nat.le_of_ble_eq_true rfl) ⟨Nat.le_of_ble_eq_true rfl, Nat.le_of_ble_eq_true rfl⟩ ⟨Nat.le_refl _, Nat.le_refl _⟩ dX6_digest_42 rfl rfl hf (fun m22 hf => ?_)
      refine z_iinc (v := x19 + 1) (lo' := [some (.ref (zad g 0)), some (.int (x19 + 1))]) C dX6_digest_45 rfl (zinc zi_1) (Nat.le_of_ble_eq_true rfl) rfl rfl rfl ?_
      refine z_goto (pc' := 30) C dX6_digest_48 (by decide) ?_
      exact ih (x19 + 1, m22) hf
