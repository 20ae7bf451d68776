def sX6_looks_132 (N : Nat) (a2 : Int32) (w9 : Int32) (K173 : zMem → Option (Int32 × zMem)) : (Int32 × zMem → Option (Int32 × zMem)) → Int32 × zMem → Option (Int32 × zMem) := fun rec (x17, m18) =>
  if (w9 ^^^ a2) ≤ x17 then
  K173 m18
  else
  kgi m18 0 10 fun v19 =>
  kjn (fun (w20 : Int32) =>
  kpz m18 0 10 w20 fun m21 =>
  rec (x17 + 1, m21)) fun K164 =>
  if v19 = 0 then
  K164 0
  else
  kc1 (fX6_isMember N (a2 ^^^ x17) m18) fun v22 =>
  if v22 = 0 then
  K164 1
  else
  K164 0
def sX6_looks_63 (N : Nat) (a1 : Int32) (a2 : Int32) (K124 : Int32 → zMem → Option (Int32 × zMem)) : (Int32 × Int32 × zMem → Option (Int32 × zMem)) → Int32 × Int32 × zMem → Option (Int32 × zMem) := fun rec (x23, x24, m25) =>
  if x24 = (-1) then
  K124 x23 m25
  else
  kgi m25 0 8 fun v26 =>
  if 12 ≤ v26 then
  K124 x23 m25
  else
  kc1 (fX6_contacts N a1 a2 x24 m25) fun m27 =>
  kld m27 5 256 x24 fun v28 =>
  kjn (fun (w29 : Int32) =>
  kc1 (fX6_nextFor N a2 m27) fun v30 =>
  rec (w29, v30, m27)) fun K113 =>
  if v28 = 2 then
  if (x23 ^^^ a2) ≤ (x24 ^^^ a2) then
  K113 x23
  else
  K113 x24
  else
  K113 x23
def sX6_looks_2 (K22 : zMem → Option (Int32 × zMem)) : (Int32 × zMem → Option (Int32 × zMem)) → Int32 × zMem → Option (Int32 × zMem) := fun rec (x31, m32) =>
  if 256 ≤ x31 then
  K22 m32
  else
  kst m32 5 256 x31 0 fun m33 =>
  rec (x31 + 1, m33)
def fX6_looks (N : Nat) (a1 : Int32) (a2 : Int32) (m : zMem) : Option (Int32 × zMem) :=
  kjn (fun (m1 : zMem) =>
  kpi m1 0 8 0 fun m2 =>
  kpi m2 0 9 0 fun m3 =>
  kld m3 1 1816 9 fun v4 =>
  kst m3 1 1816 9 (v4 + 1) fun m5 =>
  kc1 (fX6_placeOf N a1 m5) fun v6 =>
  kc1 (fX6_shows N v6 a2 (-1) m5) fun m7 =>
  kc1 (fX6_nextFor N a2 m7) fun v8 =>
  kjn (fun (w9 : Int32) (m10 : zMem) =>
  kpz m10 0 10 1 fun m11 =>
  kjn (fun (m12 : zMem) =>
  kld m12 1 1816 15 fun v13 =>
  kgi m12 0 10 fun v14 =>
  kjn (fun (w15 : Int32) =>
  kst m12 1 1816 15 (v13 + w15) fun m16 =>
  some (w9, m16)) fun K193 =>
  if v14 = 0 then
  K193 0
  else
  K193 1) fun K173 =>
  klp (sX6_looks_132 N a2 w9 K173) N (0, m11)) fun K124 =>
  klp (sX6_looks_63 N a1 a2 K124) N (a1, v8, m7)) fun K22 =>
  klp (sX6_looks_2 K22) N (0, m)
theorem FX6_looks_7 {g : zG} (hM : isM g) : zFl wsX6_looks RX6 (zcl g) 7 5 0 := ⟨RX6, TX6, 15, hM.2.2 ▸ rfl, by decide +kernel, by decide, by decide +kernel⟩
theorem FX6_looks_22 {g : zG} (hM : isM g) : zFl wsX6_looks RX6 (zcl g) 22 5 7 := ⟨RX6, TX6, 15, hM.2.2 ▸ rfl, by decide +kernel, by decide, by decide +kernel⟩
theorem FX6_looks_82 {g : zG} (hM : isM g) : zFl wsX6_looks RX6 (zcl g) 82 5 8 := ⟨RX6, TX6, 15, hM.2.2 ▸ rfl, by decide +kernel, by decide, by decide +kernel⟩
theorem PX6_looks_82 {g : zG} (hM : isM g) : zFp wsX6_looks RX6 (zcl g) 82 5 8 .int := ⟨RX6, TX6, 15, tyX6, hM.2.2 ▸ rfl, by decide +kernel, by decide, by decide +kernel, tyX6_ok, nmX6, rfl, by decide +kernel⟩
theorem PX6_looks_85 {g : zG} (hM : isM g) : zFp wsX6_looks RX6 (zcl g) 85 5 9 .int := ⟨RX6, TX6, 15, tyX6, hM.2.2 ▸ rfl, by decide +kernel, by decide, by decide +kernel, tyX6_ok, nmX6, rfl, by decide +kernel⟩
theorem FX6_looks_101 {g : zG} (hM : isM g) : zFl wsX6_looks RX6 (zcl g) 101 5 10 := ⟨RX6, TX6, 15, hM.2.2 ▸ rfl, by decide +kernel, by decide, by decide +kernel⟩
theorem PX6_looks_101 {g : zG} (hM : isM g) : zFp wsX6_looks RX6 (zcl g) 101 5 10 .boolean := ⟨RX6, TX6, 15, tyX6, hM.2.2 ▸ rfl, by decide +kernel, by decide, by decide +kernel, tyX6_ok, nmX6, rfl, by decide +kernel⟩
theorem hdX6_looks : yX6_looks.cls = RX6 ∧ yX6_looks.cls ≠ "java/lang/invoke/MethodHandle" ∧ yX6_looks.cls ≠ "java/lang/invoke/VarHandle" ∧ (parseMethodDescriptor yX6_looks.desc).map (fun d => d.parameters.length) = some 2 := by decide +kernel
set_option maxHeartbeats 4000000 in
set_option maxRecDepth 100000 in
theorem qX6_looks {l : Launch} {g : zG} (hM : isM g)  (N : Nat) (a1 : Int32) (a2 : Int32) (m : zMem)  (o : Int32 × zMem) (hf : fX6_looks N a1 a2 m = some o) : zMI l g yX6_looks wsX6_looks { frames := 5, cells := 0, slots := 0, locals := 119 } [.ref (zad g 0), .int a1, .int a2] m o := by
  refine z_met_i (cc := cX6_looks) (maxL := 6) (lo0 := [some (.ref (zad g 0)), some (.int a1), some (.int a2), none, none, none]) (by decide +kernel) rfl rfl (Nat.le_of_ble_eq_true rfl) (fun x hx C hr => ?_)
  unfold fX6_looks at hf
  refine z_iconst C dX6_looks_0 zi_0 rfl ?_
  refine z_istore_n (i := 3) (lo' := [some (.ref (zad g 0)), some (.int a1), some (.int a2), some (.int 0), none, none]) C dX6_looks_1 rfl (Nat.le_of_ble_eq_true rfl) rfl rfl rfl ?_
  refine kjn_V (fun K22 => ∀ (m1 : zMem), K22 m1 = some o → zV x g 6 0 0 22 [some (.ref (zad g 0)), some (.int a1), some (.int a2), none, none, none] [] m1) hf (fun m1 hf => ?_) (fun K22 hK22 hf => ?_)
  · skip
    refine z_aload_n (i := 0) C dX6_looks_22 rfl rfl rfl ?_
    refine z_iconst C dX6_looks_23 zi_0 rfl ?_
    refine z_pi C (PX6_looks_82 hM) (mn_0 hM) (mc_0 hM) rfl dX6_looks_24 rfl hf (fun m2 hf => ?_)
    refine z_aload_n (i := 0) C dX6_looks_27 rfl rfl rfl ?_
    refine z_iconst C dX6_looks_28 zi_0 rfl ?_
    refine z_pi C (PX6_looks_85 hM) (mn_0 hM) (mc_0 hM) rfl dX6_looks_29 rfl hf (fun m3 hf => ?_)
    refine z_aload_n (i := 0) C dX6_looks_32 rfl rfl rfl ?_
    refine z_gr C (FX6_looks_7 hM) (mn_0 hM) (mc_0 hM) rfl dX6_looks_33 rfl ?_
    refine z_bipush C dX6_looks_36 zb_9 rfl ?_
    refine z_dup2 C dX6_looks_38 rfl rfl rfl ?_
    refine z_iaload C (mn_1 hM) (mc_1 hM) dX6_looks_39 rfl hf (fun v4 hf => ?_)
    refine z_iconst C dX6_looks_40 zi_1 rfl ?_
    refine z_iadd C dX6_looks_41 rfl ?_
    refine z_iastore C (mn_1 hM) (mc_1 hM) dX6_looks_42 rfl hf (fun m5 hf => ?_)
    refine z_aload_n (i := 0) C dX6_looks_43 rfl rfl rfl ?_
    refine z_aload_n (i := 0) C dX6_looks_44 rfl rfl rfl ?_
    refine z_iload_n (i := 1) C dX6_looks_45 rfl rfl rfl ?_
    refine z_cviR (As := [.int a1]) (st := [.ref (zad g 0)]) (m := m5) C (cl_5 hM) (mn_0 hM) (mc_0 hM) gX6_looks_X6_placeOf hdX6_placeOf rfl (fun z h => qX6_placeOf hM N a1 m5 z h) rfl (Nat.le_of_ble_eq_true rfl) ⟨Nat.le_of_ble_eq_true rfl, Nat.le_of_ble_eq_true rfl⟩ ⟨Nat.le_refl _, Nat.le_refl _⟩ dX6_looks_46 rfl rfl hf (fun v6 hf => ?_)
    refine z_iload_n (i := 2) C dX6_looks_49 rfl rfl rfl ?_
    refine z_iconst C dX6_looks_50 zi_m1 rfl ?_
    refine z_cvvW (As := [.int v6, .int a2, .int (-1)]) (st := []) (m := m5) C (cl_5 hM) (mn_0 hM) (mc_0 hM) gX6_looks_X6_shows hdX6_shows rfl (fun z h => qX6_shows hM N v6 a2 (-1) m5 z h) rfl (Nat.le_of_ble_eq_true rfl) ⟨Nat.le_of_ble_eq_true rfl, Nat.le_of_ble_eq_true rfl⟩ ⟨Nat.le_refl _, Nat.le_refl _⟩ dX6_looks_51 rfl rfl hf (fun m7 hf => ?_)
    refine z_iload_n (i := 1) C dX6_looks_54 rfl rfl rfl ?_
    refine z_istore_n (i := 3) (lo' := [some (.ref (zad g 0)), some (.int a1), some (.int a2), some (.int a1), none, none]) C dX6_looks_55 rfl (Nat.le_of_ble_eq_true rfl) rfl rfl rfl ?_
    refine z_aload_n (i := 0) C dX6_looks_56 rfl rfl rfl ?_
    refine z_iload_n (i := 2) C dX6_looks_57 rfl rfl rfl ?_
    refine z_cviR (As := [.int a2]) (st := []) (m := m7) C (cl_5 hM) (mn_0 hM) (mc_0 hM) gX6_looks_X6_nextFor hdX6_nextFor rfl (fun z h => qX6_nextFor hM N a2 m7 z h) rfl (Nat.le_of_ble_eq_true rfl) ⟨Nat.le_of_ble_eq_true rfl, Nat.le_of_ble_eq_true rfl⟩ ⟨Nat.le_refl _, Nat.le_refl _⟩ dX6_looks_58 rfl rfl hf (fun v8 hf => ?_)
    refine z_istore (lo' := [some (.ref (zad g 0)), some (.int a1), some (.int a2), some (.int a1), some (.int v8), none]) C dX6_looks_61 (Nat.le_of_ble_eq_true rfl) rfl rfl rfl ?_
    refine kjn_V (fun K124 => ∀ (w9 : Int32) (m10 : zMem), K124 w9 m10 = some o → zV x g 6 0 0 124 [some (.ref (zad g 0)), none, some (.int a2), some (.int w9), none, none] [] m10) hf (fun w9 m10 hf => ?_) (fun K124 hK124 hf => ?_)
    · skip
      refine z_aload_n (i := 0) C dX6_looks_124 rfl rfl rfl ?_
      refine z_iconst C dX6_looks_125 zi_1 rfl ?_
      refine z_pz C (PX6_looks_101 hM) (mn_0 hM) (mc_0 hM) rfl dX6_looks_126 rfl hf (fun m11 hf => ?_)
      refine z_iconst C dX6_looks_129 zi_0 rfl ?_
      refine z_istore (lo' := [some (.ref (zad g 0)), none, some (.int a2), some (.int w9), none, some (.int 0)]) C dX6_looks_130 (Nat.le_of_ble_eq_true rfl) rfl rfl rfl ?_
      refine kjn_V (fun K173 => ∀ (m12 : zMem), K173 m12 = some o → zV x g 6 0 0 173 [some (.ref (zad g 0)), none, none, some (.int w9), none, none] [] m12) hf (fun m12 hf => ?_) (fun K173 hK173 hf => ?_)
      · skip
        refine z_aload_n (i := 0) C dX6_looks_173 rfl rfl rfl ?_
        refine z_gr C (FX6_looks_7 hM) (mn_0 hM) (mc_0 hM) rfl dX6_looks_174 rfl ?_
        refine z_bipush C dX6_looks_177 zb_15 rfl ?_
        refine z_dup2 C dX6_looks_179 rfl rfl rfl ?_
        refine z_iaload C (mn_1 hM) (mc_1 hM) dX6_looks_180 rfl hf (fun v13 hf => ?_)
        refine z_aload_n (i := 0) C dX6_looks_181 rfl rfl rfl ?_
        refine z_gi C (FX6_looks_101 hM) (mn_0 hM) (mc_0 hM) rfl dX6_looks_182 rfl hf (fun v14 hf => ?_)
        refine kjn_V (fun K193 => ∀ (w15 : Int32), K193 w15 = some o → zV x g 6 0 0 193 [none, none, none, some (.int w9), none, none] [.int w15, .int v13, .int 15, .ref (zad g 1)] m12) hf (fun w15 hf => ?_) (fun K193 hK193 hf => ?_)
        · skip
          refine z_iadd C dX6_looks_193 rfl ?_
          refine z_iastore C (mn_1 hM) (mc_1 hM) dX6_looks_194 rfl hf (fun m16 hf => ?_)
          refine z_iload_n (i := 3) C dX6_looks_195 rfl rfl rfl ?_
          exact hr _ _ _ _ (Option.some.inj hf) dX6_looks_196
        · skip
          refine z_if_eq (tgt := 192) C dX6_looks_185 (by decide) rfl hf (fun hf => ?_) (fun hf => ?_)
          · skip
            refine z_iconst C dX6_looks_192 zi_0 rfl ?_
            refine z_drop (lo' := [none, none, none, some (.int w9), none, none]) 0 rfl ?_
            exact hK193 _ hf
          · skip
            refine z_iconst C dX6_looks_188 zi_1 rfl ?_
            refine z_goto (pc' := 193) C dX6_looks_189 (by decide) ?_
            refine z_drop (lo' := [none, none, none, some (.int w9), none, none]) 0 rfl ?_
            exact hK193 _ hf
      · skip
        refine klp_V (fun z => zV x g 6 0 0 132 [some (.ref (zad g 0)), none, some (.int a2), some (.int w9), none, some (.int z.1)] [] z.2) hf (fun rec z ih hf => ?_)
        obtain ⟨x17, m18⟩ := z
        unfold sX6_looks_132 at hf
        try dsimp only at hf
        try dsimp only
        refine z_iload C dX6_looks_132 rfl rfl ?_
        refine z_iload_n (i := 3) C dX6_looks_134 rfl rfl rfl ?_
        refine z_iload_n (i := 2) C dX6_looks_135 rfl rfl rfl ?_
        refine z_ixor C dX6_looks_136 rfl ?_
        refine z_ic_ge (tgt := 173) C dX6_looks_137 (by decide) rfl hf (fun hf => ?_) (fun hf => ?_)
        · skip
          refine z_drop (lo' := [some (.ref (zad g 0)), none, none, some (.int w9), none, some (.int x17)]) 2 rfl ?_
          refine z_drop (lo' := [some (.ref (zad g 0)), none, none, some (.int w9), none, none]) 5 rfl ?_
          exact hK173 _ hf
        · skip
          refine z_aload_n (i := 0) C dX6_looks_140 rfl rfl rfl ?_
          refine z_aload_n (i := 0) C dX6_looks_141 rfl rfl rfl ?_
          refine z_gi C (FX6_looks_101 hM) (mn_0 hM) (mc_0 hM) rfl dX6_looks_142 rfl hf (fun v19 hf => ?_)
          refine kjn_V (fun K164 => ∀ (w20 : Int32), K164 w20 = some o → zV x g 6 0 0 164 [some (.ref (zad g 0)), none, some (.int a2), some (.int w9), none, some (.int x17)] [.int w20, .ref (zad g 0)] m18) hf (fun w20 hf => ?_) (fun K164 hK164 hf => ?_)
          · skip
            refine z_pz C (PX6_looks_101 hM) (mn_0 hM) (mc_0 hM) rfl dX6_looks_164 rfl hf (fun m21 hf => ?_)
            refine z_iinc (v := x17 + 1) (lo' := [some (.ref (zad g 0)), none, some (.int a2), some (.int w9), none, some (.int (x17 + 1))]) C dX6_looks_167 rfl (zinc zi_1) (Nat.le_of_ble_eq_true rfl) rfl rfl rfl ?_
            refine z_goto (pc' := 132) C dX6_looks_170 (by decide) ?_
            exact ih (x17 + 1, m21) hf
          · skip
            refine z_if_eq (tgt := 163) C dX6_looks_145 (by decide) rfl hf (fun hf => ?_) (fun hf => ?_)
            · skip
              refine z_iconst C dX6_looks_163 zi_0 rfl ?_
              exact hK164 _ hf
            · skip
              refine z_aload_n (i := 0) C dX6_looks_148 rfl rfl rfl ?_
              refine z_iload_n (i := 2) C dX6_looks_149 rfl rfl rfl ?_
              refine z_iload C dX6_looks_150 rfl rfl ?_
              refine z_ixor C dX6_looks_152 rfl ?_
              refine z_cviR (As := [.int (a2 ^^^ x17)]) (st := [.ref (zad g 0)]) (m := m18) C (cl_5 hM) (mn_0 hM) (mc_0 hM) gX6_looks_X6_isMember hdX6_isMember rfl (fun z h => qX6_isMember hM N (a2 ^^^ x17) m18 z h) rfl (Nat.le_of_ble_eq_true rfl) ⟨Nat.le_of_ble_eq_true rfl, Nat.le_of_ble_eq_true rfl⟩ ⟨Nat.le_refl _, Nat.le_refl _⟩ dX6_looks_153 rfl rfl hf (fun v22 hf => ?_)
              refine z_if_ne (tgt := 163) C dX6_looks_156 (by decide) rfl hf (fun hf => ?_) (fun hf => ?_)
              · skip
                refine z_iconst C dX6_looks_163 zi_0 rfl ?_
                exact hK164 _ hf
              · skip
                refine z_iconst C dX6_looks_159 zi_1 rfl ?_
                refine z_goto (pc' := 164) C dX6_looks_160 (by decide) ?_
                exact hK164 _ hf
    · skip
      refine klp_V (fun z => zV x g 6 0 0 63 [some (.ref (zad g 0)), some (.int a1), some (.int a2), some (.int z.1), some (.int z.2.1), none] [] z.2.2) hf (fun rec z ih hf => ?_)
      obtain ⟨x23, x24, m25⟩ := z
      unfold sX6_looks_63 at hf
      try dsimp only at hf
      try dsimp only
      refine z_iload C dX6_looks_63 rfl rfl ?_
      refine z_iconst C dX6_looks_65 zi_m1 rfl ?_
      refine z_ic_eq (tgt := 124) C dX6_looks_66 (by decide) rfl hf (fun hf => ?_) (fun hf => ?_)
      · skip
        refine z_drop (lo' := [some (.ref (zad g 0)), none, some (.int a2), some (.int x23), some (.int x24), none]) 1 rfl ?_
        refine z_drop (lo' := [some (.ref (zad g 0)), none, some (.int a2), some (.int x23), none, none]) 4 rfl ?_
        exact hK124 _ _ hf
      · skip
        refine z_aload_n (i := 0) C dX6_looks_69 rfl rfl rfl ?_
        refine z_gi C (FX6_looks_82 hM) (mn_0 hM) (mc_0 hM) rfl dX6_looks_70 rfl hf (fun v26 hf => ?_)
        refine z_bipush C dX6_looks_73 zb_12 rfl ?_
        refine z_ic_ge (tgt := 124) C dX6_looks_75 (by decide) rfl hf (fun hf => ?_) (fun hf => ?_)
        · skip
          refine z_drop (lo' := [some (.ref (zad g 0)), none, some (.int a2), some (.int x23), some (.int x24), none]) 1 rfl ?_
          refine z_drop (lo' := [some (.ref (zad g 0)), none, some (.int a2), some (.int x23), none, none]) 4 rfl ?_
          exact hK124 _ _ hf
        · skip
          refine z_aload_n (i := 0) C dX6_looks_78 rfl rfl rfl ?_
          refine z_iload_n (i := 1) C dX6_looks_79 rfl rfl rfl ?_
          refine z_iload_n (i := 2) C dX6_looks_80 rfl rfl rfl ?_
          refine z_iload C dX6_looks_81 rfl rfl ?_
          refine z_cvvW (As := [.int a1, .int a2, .int x24]) (st := []) (m := m25) C (cl_5 hM) (mn_0 hM) (mc_0 hM) gX6_looks_X6_contacts hdX6_contacts rfl (fun z h => qX6_contacts hM N a1 a2 x24 m25 z h) rfl (Nat.le_of_ble_eq_true rfl) ⟨Nat.le_of_ble_eq_true rfl, Nat.le_of_ble_eq_true rfl⟩ ⟨Nat.le_refl _, Nat.le_refl _⟩ dX6_looks_83 rfl rfl hf (fun m27 hf => ?_)
          refine z_aload_n (i := 0) C dX6_looks_86 rfl rfl rfl ?_
          refine z_gr C (FX6_looks_22 hM) (mn_0 hM) (mc_0 hM) rfl dX6_looks_87 rfl ?_
          refine z_iload C dX6_looks_90 rfl rfl ?_
          refine z_iaload C (mn_5 hM) (mc_5 hM) dX6_looks_92 rfl hf (fun v28 hf => ?_)
          refine z_iconst C dX6_looks_93 zi_2 rfl ?_
          refine kjn_V (fun K113 => ∀ (w29 : Int32), K113 w29 = some o → zV x g 6 0 0 113 [some (.ref (zad g 0)), some (.int a1), some (.int a2), none, none, none] [.int w29] m27) hf (fun w29 hf => ?_) (fun K113 hK113 hf => ?_)
          · skip
            refine z_istore_n (i := 3) (lo' := [some (.ref (zad g 0)), some (.int a1), some (.int a2), some (.int w29), none, none]) C dX6_looks_113 rfl (Nat.le_of_ble_eq_true rfl) rfl rfl rfl ?_
            refine z_aload_n (i := 0) C dX6_looks_114 rfl rfl rfl ?_
            refine z_iload_n (i := 2) C dX6_looks_115 rfl rfl rfl ?_
            refine z_cviR (As := [.int a2]) (st := []) (m := m27) C (cl_5 hM) (mn_0 hM) (mc_0 hM) gX6_looks_X6_nextFor hdX6_nextFor rfl (fun z h => qX6_nextFor hM N a2 m27 z h) rfl (Nat.le_of_ble_eq_true rfl) ⟨Nat.le_of_ble_eq_true rfl, Nat.le_of_ble_eq_true rfl⟩ ⟨Nat.le_refl _, Nat.le_refl _⟩ dX6_looks_116 rfl rfl hf (fun v30 hf => ?_)
            refine z_istore (lo' := [some (.ref (zad g 0)), some (.int a1), some (.int a2), some (.int w29), some (.int v30), none]) C dX6_looks_119 (Nat.le_of_ble_eq_true rfl) rfl rfl rfl ?_
            refine z_goto (pc' := 63) C dX6_looks_121 (by decide) ?_
            exact ih (w29, v30, m27) hf
          · skip
            refine z_ic_ne (tgt := 112) C dX6_looks_94 (by decide) rfl hf (fun hf => ?_) (fun hf => ?_)
            · skip
              refine z_iload_n (i := 3) C dX6_looks_112 rfl rfl rfl ?_
              refine z_drop (lo' := [some (.ref (zad g 0)), some (.int a1), some (.int a2), none, some (.int x24), none]) 3 rfl ?_
              refine z_drop (lo' := [some (.ref (zad g 0)), some (.int a1), some (.int a2), none, none, none]) 4 rfl ?_
              exact hK113 _ hf
            · skip
              refine z_iload C dX6_looks_97 rfl rfl ?_
              refine z_iload_n (i := 2) C dX6_looks_99 rfl rfl rfl ?_
              refine z_ixor C dX6_looks_100 rfl ?_
              refine z_iload_n (i := 3) C dX6_looks_101 rfl rfl rfl ?_
              refine z_iload_n (i := 2) C dX6_looks_102 rfl rfl rfl ?_
              refine z_ixor C dX6_looks_103 rfl ?_
              refine z_ic_ge (tgt := 112) C dX6_looks_104 (by decide) rfl hf (fun hf => ?_) (fun hf => ?_)
              · skip
                refine z_iload_n (i := 3) C dX6_looks_112 rfl rfl rfl ?_
                refine z_drop (lo' := [some (.ref (zad g 0)), some (.int a1), some (.int a2), none, some (.int x24), none]) 3 rfl ?_
                refine z_drop (lo' := [some (.ref (zad g 0)), some (.int a1), some (.int a2), none, none, none]) 4 rfl ?_
                exact hK113 _ hf
              · skip
                refine z_iload C dX6_looks_107 rfl rfl ?_
                refine z_goto (pc' := 113) C dX6_looks_109 (by decide) ?_
                refine z_drop (lo' := [some (.ref (zad g 0)), some (.int a1), some (.int a2), none, some (.int x24), none]) 3 rfl ?_
                refine z_drop (lo' := [some (.ref (zad g 0)), some (.int a1), some (.int a2), none, none, none]) 4 rfl ?_
                exact hK113 _ hf
  · skip
    refine klp_V (fun z => zV x g 6 0 0 2 [some (.ref (zad g 0)), some (.int a1), some (.int a2), some (.int z.1), none, none] [] z.2) hf (fun rec z ih hf => ?_)
    obtain ⟨x31, m32⟩ := z
    unfold sX6_looks_2 at hf
    try dsimp only at hf
    try dsimp only
    refine z_iload_n (i := 3) C dX6_looks_2 rfl rfl rfl ?_
    refine z_sipush C dX6_looks_3 zs_256 rfl ?_
    refine z_ic_ge (tgt := 22) C dX6_looks_6 (by decide) rfl hf (fun hf => ?_) (fun hf => ?_)
    · skip
      refine z_drop (lo' := [some (.ref (zad g 0)), some (.int a1), some (.int a2), none, none, none]) 3 rfl ?_
      exact hK22 _ hf
    · skip
      refine z_aload_n (i := 0) C dX6_looks_9 rfl rfl rfl ?_
      refine z_gr C (FX6_looks_22 hM) (mn_0 hM) (mc_0 hM) rfl dX6_looks_10 rfl ?_
      refine z_iload_n (i := 3) C dX6_looks_13 rfl rfl rfl ?_
      refine z_iconst C dX6_looks_14 zi_0 rfl ?_
      refine z_iastore C (mn_5 hM) (mc_5 hM) dX6_looks_15 rfl hf (fun m33 hf => ?_)
      refine z_iinc (v := x31 + 1) (lo' := [some (.ref (zad g 0)), some (.int a1), some (.int a2), some (.int (x31 + 1)), none, none]) C dX6_looks_16 rfl (zinc zi_1) (Nat.le_of_ble_eq_true rfl) rfl rfl rfl ?_
      refine z_goto (pc' := 2) C dX6_looks_19 (by decide) ?_
      exact ih (x31 + 1, m33) hf

def fX6_epochNow (m : zMem) : Option (Int32) :=
  kld m 1 1816 5 fun v1 =>
  kld m 1 1816 2 fun v2 =>
  kdv v1 v2 fun v3 =>
  some v3
theorem FX6_epochNow_7 {g : zG} (hM : isM g) : zFl wsX6_epochNow RX6 (zcl g) 7 5 0 := ⟨RX6, TX6, 15, hM.2.2 ▸ rfl, by decide +kernel, by decide, by decide +kernel⟩
theorem hdX6_epochNow : yX6_epochNow.cls = RX6 ∧ yX6_epochNow.cls ≠ "java/lang/invoke/MethodHandle" ∧ yX6_epochNow.cls ≠ "java/lang/invoke/VarHandle" ∧ (parseMethodDescriptor yX6_epochNow.desc).map (fun d => d.parameters.length) = some 0 := by decide +kernel
set_option maxHeartbeats 4000000 in
set_option maxRecDepth 100000 in
theorem qX6_epochNow {l : Launch} {g : zG} (hM : isM g)  (m : zMem)  (o : Int32) (hf : fX6_epochNow m = some o) : zMI l g yX6_epochNow wsX6_epochNow { frames := 0, cells := 0, slots := 0, locals := 0 } [.ref (zad g 0)] m (o, m) := by
  refine z_met_i (cc := cX6_epochNow) (maxL := 1) (lo0 := [some (.ref (zad g 0))]) (by decide +kernel) rfl rfl (Nat.le_of_ble_eq_true rfl) (fun x hx C hr => ?_)
  unfold fX6_epochNow at hf
  refine z_aload_n (i := 0) C dX6_epochNow_0 rfl rfl rfl ?_
  refine z_gr C (FX6_epochNow_7 hM) (mn_0 hM) (mc_0 hM) rfl dX6_epochNow_1 rfl ?_
  refine z_iconst C dX6_epochNow_4 zi_5 rfl ?_
  refine z_iaload C (mn_1 hM) (mc_1 hM) dX6_epochNow_5 rfl hf (fun v1 hf => ?_)
  refine z_aload_n (i := 0) C dX6_epochNow_6 rfl rfl rfl ?_
  refine z_gr C (FX6_epochNow_7 hM) (mn_0 hM) (mc_0 hM) rfl dX6_epochNow_7 rfl ?_
  refine z_iconst C dX6_epochNow_10 zi_2 rfl ?_
  refine z_iaload C (mn_1 hM) (mc_1 hM) dX6_epochNow_11 rfl hf (fun v2 hf => ?_)
  refine z_idiv C dX6_epochNow_12 rfl hf (fun v3 hf => ?_)
  exact hr _ _ _ _ (congrArg (fun z => (z, m)) (Option.some.inj hf)) dX6_epochNow_13

def fX6_difficulty (m : zMem) : Option (Int32) :=
  kld m 1 1816 0 fun v1 =>
  kld m 1 1816 6 fun v2 =>
  kdv v2 4 fun v3 =>
  klt (v1 + v3 : Int32) fun v4 =>
  if 12 ≤ v4 then
  some 12
  else
  some v4
theorem FX6_difficulty_7 {g : zG} (hM : isM g) : zFl wsX6_difficulty RX6 (zcl g) 7 5 0 := ⟨RX6, TX6, 15, hM.2.2 ▸ rfl, by decide +kernel, by decide, by decide +kernel⟩
theorem hdX6_difficulty : yX6_difficulty.cls = RX6 ∧ yX6_difficulty.cls ≠ "java/lang/invoke/MethodHandle" ∧ yX6_difficulty.cls ≠ "java/lang/invoke/VarHandle" ∧ (parseMethodDescriptor yX6_difficulty.desc).map (fun d => d.parameters.length) = some 0 := by decide +kernel
set_option maxHeartbeats 4000000 in
set_option maxRecDepth 100000 in
theorem qX6_difficulty {l : Launch} {g : zG} (hM : isM g)  (m : zMem)  (o : Int32) (hf : fX6_difficulty m = some o) : zMI l g yX6_difficulty wsX6_difficulty { frames := 0, cells := 0, slots := 0, locals := 0 } [.ref (zad g 0)] m (o, m) := by
  refine z_met_i (cc := cX6_difficulty) (maxL := 2) (lo0 := [some (.ref (zad g 0)), none]) (by decide +kernel) rfl rfl (Nat.le_of_ble_eq_true rfl) (fun x hx C hr => ?_)
  unfold fX6_difficulty at hf
  refine z_aload_n (i := 0) C dX6_difficulty_0 rfl rfl rfl ?_
  refine z_gr C (FX6_difficulty_7 hM) (mn_0 hM) (mc_0 hM) rfl dX6_difficulty_1 rfl ?_
  refine z_iconst C dX6_difficulty_4 zi_0 rfl ?_
  refine z_iaload C (mn_1 hM) (mc_1 hM) dX6_difficulty_5 rfl hf (fun v1 hf => ?_)
  refine z_aload_n (i := 0) C dX6_difficulty_6 rfl rfl rfl ?_
  refine z_gr C (FX6_difficulty_7 hM) (mn_0 hM) (mc_0 hM) rfl dX6_difficulty_7 rfl ?_
  refine z_bipush C dX6_difficulty_10 zb_6 rfl ?_
  refine z_iaload C (mn_1 hM) (mc_1 hM) dX6_difficulty_12 rfl hf (fun v2 hf => ?_)
  refine z_iconst C dX6_difficulty_13 zi_4 rfl ?_
  refine z_idiv C dX6_difficulty_14 rfl hf (fun v3 hf => ?_)
  refine z_iadd C dX6_difficulty_15 rfl ?_
  refine z_top _ hf (fun v4 hf => ?_)
  refine z_istore_n (i := 1) (lo' := [some (.ref (zad g 0)), some (.int v4)]) C dX6_difficulty_16 rfl (Nat.le_of_ble_eq_true rfl) rfl rfl rfl ?_
  refine z_iload_n (i := 1) C dX6_difficulty_17 rfl rfl rfl ?_
  refine z_bipush C dX6_difficulty_18 zb_12 rfl ?_
  refine z_ic_ge (tgt := 27) C dX6_difficulty_20 (by decide) rfl hf (fun hf => ?_) (fun hf => ?_)
  · skip
    refine z_bipush C dX6_difficulty_27 zb_12 rfl ?_
    exact hr _ _ _ _ (congrArg (fun z => (z, m)) (Option.some.inj hf)) dX6_difficulty_29
  · skip
    refine z_iload_n (i := 1) C dX6_difficulty_23 rfl rfl rfl ?_
    refine z_goto (pc' := 29) C dX6_difficulty_24 (by decide) ?_
    exact hr _ _ _ _ (congrArg (fun z => (z, m)) (Option.some.inj hf)) dX6_difficulty_29

def sX6_zerosOf_37 (v4 : Int32) (K62 : Int32 → Option (Int32)) : (Int32 → Option (Int32)) → Int32 → Option (Int32) := fun rec x6 =>
  if 32 ≤ x6 then
  K62 x6
  else
  if (((v4.toUInt32 >>> ((31 - x6 : Int32).toUInt32 &&& Int32.toUInt32 31)).toInt32) &&& 1) = 0 then
  rec (x6 + 1)
  else
  K62 x6
def fX6_zerosOf (N : Nat) (a1 : Int32) (a2 : Int32) (a3 : Int32) : Option (Int32) :=
  klt (((a1 * (-1640531535)) + (a2 * 40503)) + (a3 * 69069) : Int32) fun v1 =>
  klt (v1 ^^^ ((v1.toUInt32 >>> ((15 : Int32).toUInt32 &&& Int32.toUInt32 31)).toInt32) : Int32) fun v2 =>
  klt (v2 * (-2048144777) : Int32) fun v3 =>
  klt (v3 ^^^ ((v3.toUInt32 >>> ((13 : Int32).toUInt32 &&& Int32.toUInt32 31)).toInt32) : Int32) fun v4 =>
  kjn (fun (w5 : Int32) =>
  some w5) fun K62 =>
  klp (sX6_zerosOf_37 v4 K62) N 0
theorem hdX6_zerosOf : yX6_zerosOf.cls ≠ "java/lang/invoke/MethodHandle" ∧ yX6_zerosOf.cls ≠ "java/lang/invoke/VarHandle" ∧ (parseMethodDescriptor yX6_zerosOf.desc).map (fun d => d.parameters.length) = some 3 := by decide +kernel
set_option maxHeartbeats 4000000 in
set_option maxRecDepth 100000 in
theorem qX6_zerosOf {l : Launch} {g : zG}  (N : Nat) (a1 : Int32) (a2 : Int32) (a3 : Int32) (m : zMem)  (o : Int32) (hf : fX6_zerosOf N a1 a2 a3 = some o) : zMI l g yX6_zerosOf wsX6_zerosOf { frames := 0, cells := 0, slots := 0, locals := 0 } [.int a1, .int a2, .int a3] m (o, m) := by
  refine z_met_i (cc := cX6_zerosOf) (maxL := 5) (lo0 := [some (.int a1), some (.int a2), some (.int a3), none, none]) (by decide +kernel) rfl rfl (Nat.le_of_ble_eq_true rfl) (fun x hx C hr => ?_)
  unfold fX6_zerosOf at hf
  refine z_iload_n (i := 0) C dX6_zerosOf_0 rfl rfl rfl ?_
  refine z_ldc (v := (-1640531535)) C (by decide +kernel) dX6_zerosOf_1 rfl ?_
  refine z_imul C dX6_zerosOf_3 rfl ?_
  refine z_iload_n (i := 1) C dX6_zerosOf_4 rfl rfl rfl ?_
  refine z_ldc (v := 40503) C (by decide +kernel) dX6_zerosOf_5 rfl ?_
  refine z_imul C dX6_zerosOf_7 rfl ?_
  refine z_iadd C dX6_zerosOf_8 rfl ?_
  refine z_iload_n (i := 2) C dX6_zerosOf_9 rfl rfl rfl ?_
  refine z_ldc (v := 69069) C (by decide +kernel) dX6_zerosOf_10 rfl ?_
  refine z_imul C dX6_zerosOf_12 rfl ?_
  refine z_iadd C dX6_zerosOf_13 rfl ?_
  refine z_top _ hf (fun v1 hf => ?_)
  refine z_istore_n (i := 3) (lo' := [some (.int a1), some (.int a2), some (.int a3), some (.int v1), none]) C dX6_zerosOf_14 rfl (Nat.le_of_ble_eq_true rfl) rfl rfl rfl ?_
  refine z_iload_n (i := 3) C dX6_zerosOf_15 rfl rfl rfl ?_
  refine z_iload_n (i := 3) C dX6_zerosOf_16 rfl rfl rfl ?_
  refine z_bipush C dX6_zerosOf_17 zb_15 rfl ?_
  refine z_iushr C dX6_zerosOf_19 rfl ?_
  refine z_ixor C dX6_zerosOf_20 rfl ?_
  refine z_top _ hf (fun v2 hf => ?_)
  refine z_istore_n (i := 3) (lo' := [some (.int a1), some (.int a2), some (.int a3), some (.int v2), none]) C dX6_zerosOf_21 rfl (Nat.le_of_ble_eq_true rfl) rfl rfl rfl ?_
  refine z_iload_n (i := 3) C dX6_zerosOf_22 rfl rfl rfl ?_
  refine z_ldc (v := (-2048144777)) C (by decide +kernel) dX6_zerosOf_23 rfl ?_
  refine z_imul C dX6_zerosOf_25 rfl ?_
  refine z_top _ hf (fun v3 hf => ?_)
  refine z_istore_n (i := 3) (lo' := [some (.int a1), some (.int a2), some (.int a3), some (.int v3), none]) C dX6_zerosOf_26 rfl (Nat.le_of_ble_eq_true rfl) rfl rfl rfl ?_
  refine z_iload_n (i := 3) C dX6_zerosOf_27 rfl rfl rfl ?_
  refine z_iload_n (i := 3) C dX6_zerosOf_28 rfl rfl rfl ?_
  refine z_bipush C dX6_zerosOf_29 zb_13 rfl ?_
  refine z_iushr C dX6_zerosOf_31 rfl ?_
  refine z_ixor C dX6_zerosOf_32 rfl ?_
  refine z_top _ hf (fun v4 hf => ?_)
  refine z_istore_n (i := 3) (lo' := [some (.int a1), some (.int a2), some (.int a3), some (.int v4), none]) C dX6_zerosOf_33 rfl (Nat.le_of_ble_eq_true rfl) rfl rfl rfl ?_
  refine z_iconst C dX6_zerosOf_34 zi_0 rfl ?_
  refine z_istore (lo' := [some (.int a1), some (.int a2), some (.int a3), some (.int v4), some (.int 0)]) C dX6_zerosOf_35 (Nat.le_of_ble_eq_true rfl) rfl rfl rfl ?_
  refine z_drop (lo' := [none, some (.int a2), some (.int a3), some (.int v4), some (.int 0)]) 0 rfl ?_
  refine z_drop (lo' := [none, none, some (.int a3), some (.int v4), some (.int 0)]) 1 rfl ?_
  refine z_drop (lo' := [none, none, none, some (.int v4), some (.int 0)]) 2 rfl ?_
  refine kjn_V (fun K62 => ∀ (w5 : Int32), K62 w5 = some o → zV x g 5 0 0 62 [none, none, none, none, some (.int w5)] [] m) hf (fun w5 hf => ?_) (fun K62 hK62 hf => ?_)
  · skip
    refine z_iload C dX6_zerosOf_62 rfl rfl ?_
    exact hr _ _ _ _ (congrArg (fun z => (z, m)) (Option.some.inj hf)) dX6_zerosOf_64
  · skip
    refine klp_V (fun z => zV x g 5 0 0 37 [none, none, none, some (.int v4), some (.int z)] [] m) hf (fun rec z ih hf => ?_)
    generalize z = x6 at hf ⊢
    unfold sX6_zerosOf_37 at hf
    try dsimp only at hf
    try dsimp only
    refine z_iload C dX6_zerosOf_37 rfl rfl ?_
    refine z_bipush C dX6_zerosOf_39 zb_32 rfl ?_
    refine z_ic_ge (tgt := 62) C dX6_zerosOf_41 (by decide) rfl hf (fun hf => ?_) (fun hf => ?_)
    · skip
      refine z_drop (lo' := [none, none, none, none, some (.int x6)]) 3 rfl ?_
      exact hK62 _ hf
    · skip
      refine z_iload_n (i := 3) C dX6_zerosOf_44 rfl rfl rfl ?_
      refine z_bipush C dX6_zerosOf_45 zb_31 rfl ?_
      refine z_iload C dX6_zerosOf_47 rfl rfl ?_
      refine z_isub C dX6_zerosOf_49 rfl ?_
      refine z_iushr C dX6_zerosOf_50 rfl ?_
      refine z_iconst C dX6_zerosOf_51 zi_1 rfl ?_
      refine z_iand C dX6_zerosOf_52 rfl ?_
      refine z_if_ne (tgt := 62) C dX6_zerosOf_53 (by decide) rfl hf (fun hf => ?_) (fun hf => ?_)
      · skip
        refine z_drop (lo' := [none, none, none, none, some (.int x6)]) 3 rfl ?_
        exact hK62 _ hf
      · skip
        refine z_iinc (v := x6 + 1) (lo' := [none, none, none, some (.int v4), some (.int (x6 + 1))]) C dX6_zerosOf_56 rfl (zinc zi_1) (Nat.le_of_ble_eq_true rfl) rfl rfl rfl ?_
        refine z_goto (pc' := 37) C dX6_zerosOf_59 (by decide) ?_
        exact ih (x6 + 1) hf

def sX6_solution_7 (N : Nat) (a1 : Int32) (m : zMem) (v1 : Int32) (K34 : Option (Int32)) : (Int32 → Option (Int32)) → Int32 → Option (Int32) := fun rec x2 =>
  if 100000 ≤ x2 then
  K34
  else
  kc1 (fX6_epochNow m) fun v3 =>
  kc1 (fX6_zerosOf N a1 x2 v3) fun v4 =>
  if v4 < v1 then
  rec (x2 + 1)
  else
  some x2
def fX6_solution (N : Nat) (a1 : Int32) (m : zMem) : Option (Int32) :=
  kc1 (fX6_difficulty m) fun v1 =>
  kjn (some (-1)) fun K34 =>
  klp (sX6_solution_7 N a1 m v1 K34) N 0
theorem hdX6_solution : yX6_solution.cls = RX6 ∧ yX6_solution.cls ≠ "java/lang/invoke/MethodHandle" ∧ yX6_solution.cls ≠ "java/lang/invoke/VarHandle" ∧ (parseMethodDescriptor yX6_solution.desc).map (fun d => d.parameters.length) = some 1 := by decide +kernel
set_option maxHeartbeats 4000000 in
set_option maxRecDepth 100000 in
theorem qX6_solution {l : Launch} {g : zG} (hM : isM g)  (N : Nat) (a1 : Int32) (m : zMem)  (o : Int32) (hf : fX6_solution N a1 m = some o) : zMI l g yX6_solution wsX6_solution { frames := 1, cells := 0, slots := 0, locals := 24 } [.ref (zad g 0), .int a1] m (o, m) := by
  refine z_met_i (cc := cX6_solution) (maxL := 4) (lo0 := [some (.ref (zad g 0)), some (.int a1), none, none]) (by decide +kernel) rfl rfl (Nat.le_of_ble_eq_true rfl) (fun x hx C hr => ?_)
  unfold fX6_solution at hf
  refine z_aload_n (i := 0) C dX6_solution_0 rfl rfl rfl ?_
  refine z_cviR (As := []) (st := []) (m := m) C (cl_5 hM) (mn_0 hM) (mc_0 hM) gX6_solution_X6_difficulty hdX6_difficulty rfl (fun z h => qX6_difficulty hM m z h) rfl (Nat.le_of_ble_eq_true rfl) ⟨Nat.le_of_ble_eq_true rfl, Nat.le_of_ble_eq_true rfl⟩ ⟨Nat.le_refl _, Nat.le_refl _⟩ dX6_solution_1 rfl rfl hf (fun v1 hf => ?_)
  refine z_istore_n (i := 2) (lo' := [some (.ref (zad g 0)), some (.int a1), some (.int v1), none]) C dX6_solution_4 rfl (Nat.le_of_ble_eq_true rfl) rfl rfl rfl ?_
  refine z_iconst C dX6_solution_5 zi_0 rfl ?_
  refine z_istore_n (i := 3) (lo' := [some (.ref (zad g 0)), some (.int a1), some (.int v1), some (.int 0)]) C dX6_solution_6 rfl (Nat.le_of_ble_eq_true rfl) rfl rfl rfl ?_
  refine kjn_V (fun K34 => K34 = some o → zV x g 4 0 0 34 [none, none, none, none] [] m) hf (fun  hf => ?_) (fun K34 hK34 hf => ?_)
  · skip
    refine z_iconst C dX6_solution_34 zi_m1 rfl ?_
    exact hr _ _ _ _ (congrArg (fun z => (z, m)) (Option.some.inj hf)) dX6_solution_35
  · skip
    refine klp_V (fun z => zV x g 4 0 0 7 [some (.ref (zad g 0)), some (.int a1), some (.int v1), some (.int z)] [] m) hf (fun rec z ih hf => ?_)
    generalize z = x2 at hf ⊢
    unfold sX6_solution_7 at hf
    try dsimp only at hf
    try dsimp only
    refine z_iload_n (i := 3) C dX6_solution_7 rfl rfl rfl ?_
    refine z_ldc (v := 100000) C (by decide +kernel) dX6_solution_8 rfl ?_
    refine z_ic_ge (tgt := 34) C dX6_solution_10 (by decide) rfl hf (fun hf => ?_) (fun hf => ?_)
    · skip
      refine z_drop (lo' := [none, some (.int a1), some (.int v1), some (.int x2)]) 0 rfl ?_
      refine z_drop (lo' := [none, none, some (.int v1), some (.int x2)]) 1 rfl ?_
      refine z_drop (lo' := [none, none, none, some (.int x2)]) 2 rfl ?_
      refine z_drop (lo' := [none, none, none, none]) 3 rfl ?_
      exact hK34 hf
    · skip
      refine z_iload_n (i := 1) C dX6_solution_13 rfl rfl rfl ?_
      refine z_iload_n (i := 3) C dX6_solution_14 rfl rfl rfl ?_
      refine z_aload_n (i := 0) C dX6_solution_15 rfl rfl rfl ?_
      refine z_cviR (As := []) (st := [.int x2, .int a1]) (m := m) C (cl_5 hM) (mn_0 hM) (mc_0 hM) gX6_solution_X6_epochNow hdX6_epochNow rfl (fun z h => qX6_epochNow hM m z h) rfl (Nat.le_of_ble_eq_true rfl) ⟨Nat.le_of_ble_eq_true rfl, Nat.le_of_ble_eq_true rfl⟩ ⟨Nat.le_refl _, Nat.le_refl _⟩ dX6_solution_16 rfl rfl hf (fun v3 hf => ?_)
      refine z_csiR (As := [.int a1, .int x2, .int v3]) (st := []) (m := m) C gX6_solution_X6_zerosOf hdX6_zerosOf rfl (fun z h => qX6_zerosOf N a1 x2 v3 m z h) rfl (Nat.le_of_ble_eq_true rfl) ⟨Nat.le_of_ble_eq_true rfl, Nat.le_of_ble_eq_true rfl⟩ ⟨Nat.le_refl _, Nat.le_refl _⟩ dX6_solution_19 rfl rfl hf (fun v4 hf => ?_)
      refine z_iload_n (i := 2) C dX6_solution_22 rfl rfl rfl ?_
      refine z_ic_lt (tgt := 28) C dX6_solution_23 (by decide) rfl hf (fun hf => ?_) (fun hf => ?_)
      · skip
        refine z_iinc (v := x2 + 1) (lo' := [some (.ref (zad g 0)), some (.int a1), some (.int v1), some (.int (x2 + 1))]) C dX6_solution_28 rfl (zinc zi_1) (Nat.le_of_ble_eq_true rfl) rfl rfl rfl ?_
        refine z_goto (pc' := 7) C dX6_solution_31 (by decide) ?_
        exact ih (x2 + 1) hf
      · skip
        refine z_iload_n (i := 3) C dX6_solution_26 rfl rfl rfl ?_
        exact hr _ _ _ _ (congrArg (fun z => (z, m)) (Option.some.inj hf)) dX6_solution_27

def fX6_solve (N : Nat) (a1 : Int32) (m : zMem) : Option (Int32 × zMem) :=
  kc1 (fX6_isId a1) fun v1 =>
  kjn (fun (w2 : Int32) =>
  kc2 (fX6_refused w2 m) fun v3 m4 =>
  if v3 = 0 then
  kc1 (fX6_solution N a1 m4) fun v5 =>
  some (v5, m4)
  else
  some (0, m4)) fun K13 =>
  if v1 = 0 then
  K13 1
  else
  K13 0
theorem hdX6_solve : yX6_solve.cls = RX6 ∧ yX6_solve.cls ≠ "java/lang/invoke/MethodHandle" ∧ yX6_solve.cls ≠ "java/lang/invoke/VarHandle" ∧ (parseMethodDescriptor yX6_solve.desc).map (fun d => d.parameters.length) = some 1 := by decide +kernel
set_option maxHeartbeats 4000000 in
set_option maxRecDepth 100000 in
theorem qX6_solve {l : Launch} {g : zG} (hM : isM g)  (N : Nat) (a1 : Int32) (m : zMem)  (o : Int32 × zMem) (hf : fX6_solve N a1 m = some o) : zMI l g yX6_solve wsX6_solve { frames := 2, cells := 0, slots := 0, locals := 47 } [.ref (zad g 0), .int a1] m o := by
  refine z_met_i (cc := cX6_solve) (maxL := 2) (lo0 := [some (.ref (zad g 0)), some (.int a1)]) (by decide +kernel) rfl rfl (Nat.le_of_ble_eq_true rfl) (fun x hx C hr => ?_)
  unfold fX6_solve at hf
  refine z_aload_n (i := 0) C dX6_solve_0 rfl rfl rfl ?_
  refine z_iload_n (i := 1) C dX6_solve_1 rfl rfl rfl ?_
  refine z_csiR (As := [.int a1]) (st := [.ref (zad g 0)]) (m := m) C gX6_solve_X6_isId hdX6_isId rfl (fun z h => qX6_isId a1 m z h) rfl (Nat.le_of_ble_eq_true rfl) ⟨Nat.le_of_ble_eq_true rfl, Nat.le_of_ble_eq_true rfl⟩ ⟨Nat.le_refl _, Nat.le_refl _⟩ dX6_solve_2 rfl rfl hf (fun v1 hf => ?_)
  refine kjn_V (fun K13 => ∀ (w2 : Int32), K13 w2 = some o → zV x g 2 0 0 13 [some (.ref (zad g 0)), some (.int a1)] [.int w2, .ref (zad g 0)] m) hf (fun w2 hf => ?_) (fun K13 hK13 hf => ?_)
  · skip
    refine z_cviW (As := [.int w2]) (st := []) (m := m) C (cl_5 hM) (mn_0 hM) (mc_0 hM) gX6_solve_X6_refused hdX6_refused rfl (fun z h => qX6_refused hM w2 m z h) rfl (Nat.le_of_ble_eq_true rfl) ⟨Nat.le_of_ble_eq_true rfl, Nat.le_of_ble_eq_true rfl⟩ ⟨Nat.le_refl _, Nat.le_refl _⟩ dX6_solve_13 rfl rfl hf (fun v3 m4 hf => ?_)
    refine z_if_eq (tgt := 23) C dX6_solve_16 (by decide) rfl hf (fun hf => ?_) (fun hf => ?_)
    · skip
      refine z_aload_n (i := 0) C dX6_solve_23 rfl rfl rfl ?_
      refine z_iload_n (i := 1) C dX6_solve_24 rfl rfl rfl ?_
      refine z_cviR (As := [.int a1]) (st := []) (m := m4) C (cl_5 hM) (mn_0 hM) (mc_0 hM) gX6_solve_X6_solution hdX6_solution rfl (fun z h => qX6_solution hM N a1 m4 z h) rfl (Nat.le_of_ble_eq_true rfl) ⟨Nat.le_of_ble_eq_true rfl, Nat.le_of_ble_eq_true rfl⟩ ⟨Nat.le_refl _, Nat.le_refl _⟩ dX6_solve_25 rfl rfl hf (fun v5 hf => ?_)
      exact hr _ _ _ _ (Option.some.inj hf) dX6_solve_28
    · skip
      refine z_iconst C dX6_solve_19 zi_0 rfl ?_
      refine z_goto (pc' := 28) C dX6_solve_20 (by decide) ?_
      exact hr _ _ _ _ (Option.some.inj hf) dX6_solve_28
  · skip
    refine z_if_eq (tgt := 12) C dX6_solve_5 (by decide) rfl hf (fun hf => ?_) (fun hf => ?_)
    · skip
      refine z_iconst C dX6_solve_12 zi_1 rfl ?_
      exact hK13 _ hf
    · skip
      refine z_iconst C dX6_solve_8 zi_0 rfl ?_
      refine z_goto (pc' := 13) C dX6_solve_9 (by decide) ?_
      exact hK13 _ hf

def fX6_isNonce (a1 : Int32) : Option (Int32) :=
  kc1 (fX6_in a1 0 99999) fun v1 =>
  kbz v1 (some v1)
theorem hdX6_isNonce : yX6_isNonce.cls ≠ "java/lang/invoke/MethodHandle" ∧ yX6_isNonce.cls ≠ "java/lang/invoke/VarHandle" ∧ (parseMethodDescriptor yX6_isNonce.desc).map (fun d => d.parameters.length) = some 1 := by decide +kernel
set_option maxHeartbeats 4000000 in
set_option maxRecDepth 100000 in
theorem qX6_isNonce {l : Launch} {g : zG}  (a1 : Int32) (m : zMem)  (o : Int32) (hf : fX6_isNonce a1 = some o) : zMI l g yX6_isNonce wsX6_isNonce { frames := 1, cells := 0, slots := 0, locals := 22 } [.int a1] m (o, m) := by
  refine z_met_z (cc := cX6_isNonce) (maxL := 1) (lo0 := [some (.int a1)]) (by decide +kernel) rfl rfl (Nat.le_of_ble_eq_true rfl) (fun x hx C hr => ?_)
  unfold fX6_isNonce at hf
  refine z_iload_n (i := 0) C dX6_isNonce_0 rfl rfl rfl ?_
  refine z_iconst C dX6_isNonce_1 zi_0 rfl ?_
  refine z_ldc (v := 99999) C (by decide +kernel) dX6_isNonce_2 rfl ?_
  refine z_csiR (As := [.int a1, .int 0, .int 99999]) (st := []) (m := m) C gX6_isNonce_X6_in hdX6_in rfl (fun z h => qX6_in a1 0 99999 m z h) rfl (Nat.le_of_ble_eq_true rfl) ⟨Nat.le_of_ble_eq_true rfl, Nat.le_of_ble_eq_true rfl⟩ ⟨Nat.le_refl _, Nat.le_refl _⟩ dX6_isNonce_4 rfl rfl hf (fun v1 hf => ?_)
  exact kbz_V hf (fun hb hf => hr _ _ _ _ hb (congrArg (fun z => (z, m)) (Option.some.inj hf)) dX6_isNonce_7)

def fX6_zeros (N : Nat) (a1 : Int32) (a2 : Int32) (a3 : Int32) (m : zMem) : Option (Int32 × zMem) :=
  kc1 (fX6_isId a1) fun v1 =>
  kjn (fun (w2 : Int32) =>
  kc2 (fX6_refused w2 m) fun v3 m4 =>
  if v3 = 0 then
  kc1 (fX6_zerosOf N a1 a2 a3) fun v5 =>
  some (v5, m4)
  else
  some (0, m4)) fun K24 =>
  if v1 = 0 then
  K24 1
  else
  kc1 (fX6_isNonce a2) fun v6 =>
  if v6 = 0 then
  K24 1
  else
  if a3 < 0 then
  K24 1
  else
  K24 0
theorem hdX6_zeros : yX6_zeros.cls = RX6 ∧ yX6_zeros.cls ≠ "java/lang/invoke/MethodHandle" ∧ yX6_zeros.cls ≠ "java/lang/invoke/VarHandle" ∧ (parseMethodDescriptor yX6_zeros.desc).map (fun d => d.parameters.length) = some 3 := by decide +kernel
set_option maxHeartbeats 4000000 in
set_option maxRecDepth 100000 in
theorem qX6_zeros {l : Launch} {g : zG} (hM : isM g)  (N : Nat) (a1 : Int32) (a2 : Int32) (a3 : Int32) (m : zMem)  (o : Int32 × zMem) (hf : fX6_zeros N a1 a2 a3 m = some o) : zMI l g yX6_zeros wsX6_zeros { frames := 2, cells := 0, slots := 0, locals := 42 } [.ref (zad g 0), .int a1, .int a2, .int a3] m o := by
  refine z_met_i (cc := cX6_zeros) (maxL := 4) (lo0 := [some (.ref (zad g 0)), some (.int a1), some (.int a2), some (.int a3)]) (by decide +kernel) rfl rfl (Nat.le_of_ble_eq_true rfl) (fun x hx C hr => ?_)
  unfold fX6_zeros at hf
  refine z_aload_n (i := 0) C dX6_zeros_0 rfl rfl rfl ?_
  refine z_iload_n (i := 1) C dX6_zeros_1 rfl rfl rfl ?_
  refine z_csiR (As := [.int a1]) (st := [.ref (zad g 0)]) (m := m) C gX6_zeros_X6_isId hdX6_isId rfl (fun z h => qX6_isId a1 m z h) rfl (Nat.le_of_ble_eq_true rfl) ⟨Nat.le_of_ble_eq_true rfl, Nat.le_of_ble_eq_true rfl⟩ ⟨Nat.le_refl _, Nat.le_refl _⟩ dX6_zeros_2 rfl rfl hf (fun v1 hf => ?_)
  refine kjn_V (fun K24 => ∀ (w2 : Int32), K24 w2 = some o → zV x g 4 0 0 24 [none, some (.int a1), some (.int a2), some (.int a3)] [.int w2, .ref (zad g 0)] m) hf (fun w2 hf => ?_) (fun K24 hK24 hf => ?_)
  · skip
    refine z_cviW (As := [.int w2]) (st := []) (m := m) C (cl_5 hM) (mn_0 hM) (mc_0 hM) gX6_zeros_X6_refused hdX6_refused rfl (fun z h => qX6_refused hM w2 m z h) rfl (Nat.le_of_ble_eq_true rfl) ⟨Nat.le_of_ble_eq_true rfl, Nat.le_of_ble_eq_true rfl⟩ ⟨Nat.le_refl _, Nat.le_refl _⟩ dX6_zeros_24 rfl rfl hf (fun v3 m4 hf => ?_)
    refine z_if_eq (tgt := 34) C dX6_zeros_27 (by decide) rfl hf (fun hf => ?_) (fun hf => ?_)
    · skip
      refine z_iload_n (i := 1) C dX6_zeros_34 rfl rfl rfl ?_
      refine z_iload_n (i := 2) C dX6_zeros_35 rfl rfl rfl ?_
      refine z_iload_n (i := 3) C dX6_zeros_36 rfl rfl rfl ?_
      refine z_csiR (As := [.int a1, .int a2, .int a3]) (st := []) (m := m4) C gX6_zeros_X6_zerosOf hdX6_zerosOf rfl (fun z h => qX6_zerosOf N a1 a2 a3 m4 z h) rfl (Nat.le_of_ble_eq_true rfl) ⟨Nat.le_of_ble_eq_true rfl, Nat.le_of_ble_eq_true rfl⟩ ⟨Nat.le_refl _, Nat.le_refl _⟩ dX6_zeros_37 rfl rfl hf (fun v5 hf => ?_)
      exact hr _ _ _ _ (Option.some.inj hf) dX6_zeros_40
    · skip
      refine z_iconst C dX6_zeros_30 zi_0 rfl ?_
      refine z_goto (pc' := 40) C dX6_zeros_31 (by decide) ?_
      exact hr _ _ _ _ (Option.some.inj hf) dX6_zeros_40
  · skip
    refine z_if_eq (tgt := 23) C dX6_zeros_5 (by decide) rfl hf (fun hf => ?_) (fun hf => ?_)
    · skip
      refine z_iconst C dX6_zeros_23 zi_1 rfl ?_
      refine z_drop (lo' := [none, some (.int a1), some (.int a2), some (.int a3)]) 0 rfl ?_
      exact hK24 _ hf
    · skip
      refine z_iload_n (i := 2) C dX6_zeros_8 rfl rfl rfl ?_
      refine z_csiR (As := [.int a2]) (st := [.ref (zad g 0)]) (m := m) C gX6_zeros_X6_isNonce hdX6_isNonce rfl (fun z h => qX6_isNonce a2 m z h) rfl (Nat.le_of_ble_eq_true rfl) ⟨Nat.le_of_ble_eq_true rfl, Nat.le_of_ble_eq_true rfl⟩ ⟨Nat.le_refl _, Nat.le_refl _⟩ dX6_zeros_9 rfl rfl hf (fun v6 hf => ?_)
      refine z_if_eq (tgt := 23) C dX6_zeros_12 (by decide) rfl hf (fun hf => ?_) (fun hf => ?_)
      · skip
        refine z_iconst C dX6_zeros_23 zi_1 rfl ?_
        refine z_drop (lo' := [none, some (.int a1), some (.int a2), some (.int a3)]) 0 rfl ?_
        exact hK24 _ hf
      · skip
        refine z_iload_n (i := 3) C dX6_zeros_15 rfl rfl rfl ?_
        refine z_if_lt (tgt := 23) C dX6_zeros_16 (by decide) rfl hf (fun hf => ?_) (fun hf => ?_)
        · skip
          refine z_iconst C dX6_zeros_23 zi_1 rfl ?_
          refine z_drop (lo' := [none, some (.int a1), some (.int a2), some (.int a3)]) 0 rfl ?_
          exact hK24 _ hf
        · skip
          refine z_iconst C dX6_zeros_19 zi_0 rfl ?_
          refine z_goto (pc' := 24) C dX6_zeros_20 (by decide) ?_
          refine z_drop (lo' := [none, some (.int a1), some (.int a2), some (.int a3)]) 0 rfl ?_
          exact hK24 _ hf

def fX6_turnsTo (a1 : Int32) (m : zMem) : Option (zMem) :=
  kc1 (fX6_epochNow m) fun v1 =>
  kjn (fun (w2 : Int32) =>
  kst m 1 1816 6 w2 fun m3 =>
  some m3) fun K25 =>
  if v1 = a1 then
  kld m 1 1816 6 fun v4 =>
  K25 v4
  else
  K25 0
theorem FX6_turnsTo_7 {g : zG} (hM : isM g) : zFl wsX6_turnsTo RX6 (zcl g) 7 5 0 := ⟨RX6, TX6, 15, hM.2.2 ▸ rfl, by decide +kernel, by decide, by decide +kernel⟩
theorem hdX6_turnsTo : yX6_turnsTo.cls = RX6 ∧ yX6_turnsTo.cls ≠ "java/lang/invoke/MethodHandle" ∧ yX6_turnsTo.cls ≠ "java/lang/invoke/VarHandle" ∧ (parseMethodDescriptor yX6_turnsTo.desc).map (fun d => d.parameters.length) = some 1 := by decide +kernel
set_option maxHeartbeats 4000000 in
set_option maxRecDepth 100000 in
theorem qX6_turnsTo {l : Launch} {g : zG} (hM : isM g)  (a1 : Int32) (m : zMem)  (o : zMem) (hf : fX6_turnsTo a1 m = some o) : zMV l g yX6_turnsTo wsX6_turnsTo { frames := 1, cells := 0, slots := 0, locals := 20 } [.ref (zad g 0), .int a1] m o := by
  refine z_met_v (cc := cX6_turnsTo) (maxL := 2) (lo0 := [some (.ref (zad g 0)), some (.int a1)]) (by decide +kernel) rfl rfl (Nat.le_of_ble_eq_true rfl) (fun x hx C hr => ?_)
  unfold fX6_turnsTo at hf
  refine z_aload_n (i := 0) C dX6_turnsTo_0 rfl rfl rfl ?_
  refine z_gr C (FX6_turnsTo_7 hM) (mn_0 hM) (mc_0 hM) rfl dX6_turnsTo_1 rfl ?_
  refine z_bipush C dX6_turnsTo_4 zb_6 rfl ?_
  refine z_aload_n (i := 0) C dX6_turnsTo_6 rfl rfl rfl ?_
  refine z_cviR (As := []) (st := [.int 6, .ref (zad g 1)]) (m := m) C (cl_5 hM) (mn_0 hM) (mc_0 hM) gX6_turnsTo_X6_epochNow hdX6_epochNow rfl (fun z h => qX6_epochNow hM m z h) rfl (Nat.le_of_ble_eq_true rfl) ⟨Nat.le_of_ble_eq_true rfl, Nat.le_of_ble_eq_true rfl⟩ ⟨Nat.le_refl _, Nat.le_refl _⟩ dX6_turnsTo_7 rfl rfl hf (fun v1 hf => ?_)
  refine z_iload_n (i := 1) C dX6_turnsTo_10 rfl rfl rfl ?_
  refine kjn_V (fun K25 => ∀ (w2 : Int32), K25 w2 = some o → zV x g 2 0 0 25 [none, none] [.int w2, .int 6, .ref (zad g 1)] m) hf (fun w2 hf => ?_) (fun K25 hK25 hf => ?_)
  · skip
    refine z_iastore C (mn_1 hM) (mc_1 hM) dX6_turnsTo_25 rfl hf (fun m3 hf => ?_)
    exact hr _ _ _ (Option.some.inj hf) dX6_turnsTo_26
  · skip
    refine z_ic_ne (tgt := 24) C dX6_turnsTo_11 (by decide) rfl hf (fun hf => ?_) (fun hf => ?_)
    · skip
      refine z_iconst C dX6_turnsTo_24 zi_0 rfl ?_
      refine z_drop (lo' := [none, some (.int a1)]) 0 rfl ?_
      refine z_drop (lo' := [none, none]) 1 rfl ?_
      exact hK25 _ hf
    · skip
      refine z_aload_n (i := 0) C dX6_turnsTo_14 rfl rfl rfl ?_
      refine z_gr C (FX6_turnsTo_7 hM) (mn_0 hM) (mc_0 hM) rfl dX6_turnsTo_15 rfl ?_
      refine z_bipush C dX6_turnsTo_18 zb_6 rfl ?_
      refine z_iaload C (mn_1 hM) (mc_1 hM) dX6_turnsTo_20 rfl hf (fun v4 hf => ?_)
      refine z_goto (pc' := 25) C dX6_turnsTo_21 (by decide) ?_
      refine z_drop (lo' := [none, some (.int a1)]) 0 rfl ?_
      refine z_drop (lo' := [none, none]) 1 rfl ?_
      exact hK25 _ hf

def fX6_setPuzzles (N : Nat) (a1 : Int32) (a2 : Int32) (a3 : Int32) (m : zMem) : Option (Int32 × zMem) :=
  kc1 (fX6_in a1 0 6) fun v1 =>
  kjn (fun (w2 : Int32) =>
  kc2 (fX6_refused w2 m) fun v3 m4 =>
  if v3 = 0 then
  kc1 (fX6_saves N m4) fun m5 =>
  kld m5 1 1816 0 fun v6 =>
  kc1 (fX6_epochNow m5) fun v7 =>
  kst m5 1 1816 0 a1 fun m8 =>
  kst m8 1 1816 1 a2 fun m9 =>
  kst m9 1 1816 2 a3 fun m10 =>
  kc1 (fX6_turnsTo v7 m10) fun m11 =>
  some (v6, m11)
  else
  some (0, m4)) fun K38 =>
  if v1 = 0 then
  K38 1
  else
  kc1 (fX6_in a2 10 1000) fun v12 =>
  if v12 = 0 then
  K38 1
  else
  kc1 (fX6_in a3 5 100) fun v13 =>
  if v13 = 0 then
  K38 1
  else
  K38 0
theorem FX6_setPuzzles_7 {g : zG} (hM : isM g) : zFl wsX6_setPuzzles RX6 (zcl g) 7 5 0 := ⟨RX6, TX6, 15, hM.2.2 ▸ rfl, by decide +kernel, by decide, by decide +kernel⟩
theorem hdX6_setPuzzles : yX6_setPuzzles.cls = RX6 ∧ yX6_setPuzzles.cls ≠ "java/lang/invoke/MethodHandle" ∧ yX6_setPuzzles.cls ≠ "java/lang/invoke/VarHandle" ∧ (parseMethodDescriptor yX6_setPuzzles.desc).map (fun d => d.parameters.length) = some 3 := by decide +kernel
set_option maxHeartbeats 4000000 in
set_option maxRecDepth 100000 in
theorem qX6_setPuzzles {l : Launch} {g : zG} (hM : isM g)  (N : Nat) (a1 : Int32) (a2 : Int32) (a3 : Int32) (m : zMem)  (o : Int32 × zMem) (hf : fX6_setPuzzles N a1 a2 a3 m = some o) : zMI l g yX6_setPuzzles wsX6_setPuzzles { frames := 2, cells := 0, slots := 0, locals := 41 } [.ref (zad g 0), .int a1, .int a2, .int a3] m o := by
  refine z_met_i (cc := cX6_setPuzzles) (maxL := 6) (lo0 := [some (.ref (zad g 0)), some (.int a1), some (.int a2), some (.int a3), none, none]) (by decide +kernel) rfl rfl (Nat.le_of_ble_eq_true rfl) (fun x hx C hr => ?_)
  unfold fX6_setPuzzles at hf
  refine z_aload_n (i := 0) C dX6_setPuzzles_0 rfl rfl rfl ?_
  refine z_iload_n (i := 1) C dX6_setPuzzles_1 rfl rfl rfl ?_
  refine z_iconst C dX6_setPuzzles_2 zi_0 rfl ?_
  refine z_bipush C dX6_setPuzzles_3 zb_6 rfl ?_
  refine z_csiR (As := [.int a1, .int 0, .int 6]) (st := [.ref (zad g 0)]) (m := m) C gX6_setPuzzles_X6_in hdX6_in rfl (fun z h => qX6_in a1 0 6 m z h) rfl (Nat.le_of_ble_eq_true rfl) ⟨Nat.le_of_ble_eq_true rfl, Nat.le_of_ble_eq_true rfl⟩ ⟨Nat.le_refl _, Nat.le_refl _⟩ dX6_setPuzzles_5 rfl rfl hf (fun v1 hf => ?_)
  refine kjn_V (fun K38 => ∀ (w2 : Int32), K38 w2 = some o → zV x g 6 0 0 38 [some (.ref (zad g 0)), some (.int a1), some (.int a2), some (.int a3), none, none] [.int w2, .ref (zad g 0)] m) hf (fun w2 hf => ?_) (fun K38 hK38 hf => ?_)
  · skip
    refine z_cviW (As := [.int w2]) (st := []) (m := m) C (cl_5 hM) (mn_0 hM) (mc_0 hM) gX6_setPuzzles_X6_refused hdX6_refused rfl (fun z h => qX6_refused hM w2 m z h) rfl (Nat.le_of_ble_eq_true rfl) ⟨Nat.le_of_ble_eq_true rfl, Nat.le_of_ble_eq_true rfl⟩ ⟨Nat.le_refl _, Nat.le_refl _⟩ dX6_setPuzzles_38 rfl rfl hf (fun v3 m4 hf => ?_)
    refine z_if_eq (tgt := 46) C dX6_setPuzzles_41 (by decide) rfl hf (fun hf => ?_) (fun hf => ?_)
    · skip
      refine z_aload_n (i := 0) C dX6_setPuzzles_46 rfl rfl rfl ?_
      refine z_cvvW (As := []) (st := []) (m := m4) C (cl_5 hM) (mn_0 hM) (mc_0 hM) gX6_setPuzzles_X6_saves hdX6_saves rfl (fun z h => qX6_saves hM N m4 z h) rfl (Nat.le_of_ble_eq_true rfl) ⟨Nat.le_of_ble_eq_true rfl, Nat.le_of_ble_eq_true rfl⟩ ⟨Nat.le_refl _, Nat.le_refl _⟩ dX6_setPuzzles_47 rfl rfl hf (fun m5 hf => ?_)
      refine z_aload_n (i := 0) C dX6_setPuzzles_50 rfl rfl rfl ?_
      refine z_gr C (FX6_setPuzzles_7 hM) (mn_0 hM) (mc_0 hM) rfl dX6_setPuzzles_51 rfl ?_
      refine z_iconst C dX6_setPuzzles_54 zi_0 rfl ?_
      refine z_iaload C (mn_1 hM) (mc_1 hM) dX6_setPuzzles_55 rfl hf (fun v6 hf => ?_)
      refine z_istore (lo' := [some (.ref (zad g 0)), some (.int a1), some (.int a2), some (.int a3), some (.int v6), none]) C dX6_setPuzzles_56 (Nat.le_of_ble_eq_true rfl) rfl rfl rfl ?_
      refine z_aload_n (i := 0) C dX6_setPuzzles_58 rfl rfl rfl ?_
      refine z_cviR (As := []) (st := []) (m := m5) C (cl_5 hM) (mn_0 hM) (mc_0 hM) gX6_setPuzzles_X6_epochNow hdX6_epochNow rfl (fun z h => qX6_epochNow hM m5 z h) rfl (Nat.le_of_ble_eq_true rfl) ⟨Nat.le_of_ble_eq_true rfl, Nat.le_of_ble_eq_true rfl⟩ ⟨Nat.le_refl _, Nat.le_refl _⟩ dX6_setPuzzles_59 rfl rfl hf (fun v7 hf => ?_)
      refine z_istore (lo' := [some (.ref (zad g 0)), some (.int a1), some (.int a2), some (.int a3), some (.int v6), some (.int v7)]) C dX6_setPuzzles_62 (Nat.le_of_ble_eq_true rfl) rfl rfl rfl ?_
      refine z_aload_n (i := 0) C dX6_setPuzzles_64 rfl rfl rfl ?_
      refine z_gr C (FX6_setPuzzles_7 hM) (mn_0 hM) (mc_0 hM) rfl dX6_setPuzzles_65 rfl ?_
      refine z_iconst C dX6_setPuzzles_68 zi_0 rfl ?_
      refine z_iload_n (i := 1) C dX6_setPuzzles_69 rfl rfl rfl ?_
      refine z_iastore C (mn_1 hM) (mc_1 hM) dX6_setPuzzles_70 rfl hf (fun m8 hf => ?_)
      refine z_aload_n (i := 0) C dX6_setPuzzles_71 rfl rfl rfl ?_
      refine z_gr C (FX6_setPuzzles_7 hM) (mn_0 hM) (mc_0 hM) rfl dX6_setPuzzles_72 rfl ?_
      refine z_iconst C dX6_setPuzzles_75 zi_1 rfl ?_
      refine z_iload_n (i := 2) C dX6_setPuzzles_76 rfl rfl rfl ?_
      refine z_iastore C (mn_1 hM) (mc_1 hM) dX6_setPuzzles_77 rfl hf (fun m9 hf => ?_)
      refine z_aload_n (i := 0) C dX6_setPuzzles_78 rfl rfl rfl ?_
      refine z_gr C (FX6_setPuzzles_7 hM) (mn_0 hM) (mc_0 hM) rfl dX6_setPuzzles_79 rfl ?_
      refine z_iconst C dX6_setPuzzles_82 zi_2 rfl ?_
      refine z_iload_n (i := 3) C dX6_setPuzzles_83 rfl rfl rfl ?_
      refine z_iastore C (mn_1 hM) (mc_1 hM) dX6_setPuzzles_84 rfl hf (fun m10 hf => ?_)
      refine z_aload_n (i := 0) C dX6_setPuzzles_85 rfl rfl rfl ?_
      refine z_iload C dX6_setPuzzles_86 rfl rfl ?_
      refine z_cvvW (As := [.int v7]) (st := []) (m := m10) C (cl_5 hM) (mn_0 hM) (mc_0 hM) gX6_setPuzzles_X6_turnsTo hdX6_turnsTo rfl (fun z h => qX6_turnsTo hM v7 m10 z h) rfl (Nat.le_of_ble_eq_true rfl) ⟨Nat.le_of_ble_eq_true rfl, Nat.le_of_ble_eq_true rfl⟩ ⟨Nat.le_refl _, Nat.le_refl _⟩ dX6_setPuzzles_88 rfl rfl hf (fun m11 hf => ?_)
      refine z_iload C dX6_setPuzzles_91 rfl rfl ?_
      exact hr _ _ _ _ (Option.some.inj hf) dX6_setPuzzles_93
    · skip
      refine z_iconst C dX6_setPuzzles_44 zi_0 rfl ?_
      exact hr _ _ _ _ (Option.some.inj hf) dX6_setPuzzles_45
  · skip
    refine z_if_eq (tgt := 37) C dX6_setPuzzles_8 (by decide) rfl hf (fun hf => ?_) (fun hf => ?_)
    · skip
      refine z_iconst C dX6_setPuzzles_37 zi_1 rfl ?_
      exact hK38 _ hf
    · skip
      refine z_iload_n (i := 2) C dX6_setPuzzles_11 rfl rfl rfl ?_
      refine z_bipush C dX6_setPuzzles_12 zb_10 rfl ?_
      refine z_sipush C dX6_setPuzzles_14 zs_1000 rfl ?_
      refine z_csiR (As := [.int a2, .int 10, .int 1000]) (st := [.ref (zad g 0)]) (m := m) C gX6_setPuzzles_X6_in hdX6_in rfl (fun z h => qX6_in a2 10 1000 m z h) rfl (Nat.le_of_ble_eq_true rfl) ⟨Nat.le_of_ble_eq_true rfl, Nat.le_of_ble_eq_true rfl⟩ ⟨Nat.le_refl _, Nat.le_refl _⟩ dX6_setPuzzles_17 rfl rfl hf (fun v12 hf => ?_)
      refine z_if_eq (tgt := 37) C dX6_setPuzzles_20 (by decide) rfl hf (fun hf => ?_) (fun hf => ?_)
      · skip
        refine z_iconst C dX6_setPuzzles_37 zi_1 rfl ?_
        exact hK38 _ hf
      · skip
        refine z_iload_n (i := 3) C dX6_setPuzzles_23 rfl rfl rfl ?_
        refine z_iconst C dX6_setPuzzles_24 zi_5 rfl ?_
        refine z_bipush C dX6_setPuzzles_25 zb_100 rfl ?_
        refine z_csiR (As := [.int a3, .int 5, .int 100]) (st := [.ref (zad g 0)]) (m := m) C gX6_setPuzzles_X6_in hdX6_in rfl (fun z h => qX6_in a3 5 100 m z h) rfl (Nat.le_of_ble_eq_true rfl) ⟨Nat.le_of_ble_eq_true rfl, Nat.le_of_ble_eq_true rfl⟩ ⟨Nat.le_refl _, Nat.le_refl _⟩ dX6_setPuzzles_27 rfl rfl hf (fun v13 hf => ?_)
        refine z_if_eq (tgt := 37) C dX6_setPuzzles_30 (by decide) rfl hf (fun hf => ?_) (fun hf => ?_)
        · skip
          refine z_iconst C dX6_setPuzzles_37 zi_1 rfl ?_
          exact hK38 _ hf
        · skip
          refine z_iconst C dX6_setPuzzles_33 zi_0 rfl ?_
          refine z_goto (pc' := 38) C dX6_setPuzzles_34 (by decide) ?_
          exact hK38 _ hf

def fX6_setQuotas (N : Nat) (a1 : Int32) (a2 : Int32) (m : zMem) : Option (Int32 × zMem) :=
  kc1 (fX6_in a1 1 4) fun v1 =>
  kjn (fun (w2 : Int32) =>
  kc2 (fX6_refused w2 m) fun v3 m4 =>
  if v3 = 0 then
  kc1 (fX6_saves N m4) fun m5 =>
  kld m5 1 1816 4 fun v6 =>
  kld m5 1 1816 3 fun v7 =>
  klt ((10 * v6) + v7 : Int32) fun v8 =>
  kst m5 1 1816 3 a1 fun m9 =>
  kst m9 1 1816 4 a2 fun m10 =>
  some (v8, m10)
  else
  some (0, m4)) fun K25 =>
  if v1 = 0 then
  K25 1
  else
  kc1 (fX6_in a2 1 32) fun v11 =>
  if v11 = 0 then
  K25 1
  else
  K25 0
theorem FX6_setQuotas_7 {g : zG} (hM : isM g) : zFl wsX6_setQuotas RX6 (zcl g) 7 5 0 := ⟨RX6, TX6, 15, hM.2.2 ▸ rfl, by decide +kernel, by decide, by decide +kernel⟩
theorem hdX6_setQuotas : yX6_setQuotas.cls = RX6 ∧ yX6_setQuotas.cls ≠ "java/lang/invoke/MethodHandle" ∧ yX6_setQuotas.cls ≠ "java/lang/invoke/VarHandle" ∧ (parseMethodDescriptor yX6_setQuotas.desc).map (fun d => d.parameters.length) = some 2 := by decide +kernel
set_option maxHeartbeats 4000000 in
set_option maxRecDepth 100000 in
theorem qX6_setQuotas {l : Launch} {g : zG} (hM : isM g)  (N : Nat) (a1 : Int32) (a2 : Int32) (m : zMem)  (o : Int32 × zMem) (hf : fX6_setQuotas N a1 a2 m = some o) : zMI l g yX6_setQuotas wsX6_setQuotas { frames := 1, cells := 0, slots := 0, locals := 22 } [.ref (zad g 0), .int a1, .int a2] m o := by
  refine z_met_i (cc := cX6_setQuotas) (maxL := 4) (lo0 := [some (.ref (zad g 0)), some (.int a1), some (.int a2), none]) (by decide +kernel) rfl rfl (Nat.le_of_ble_eq_true rfl) (fun x hx C hr => ?_)
  unfold fX6_setQuotas at hf
  refine z_aload_n (i := 0) C dX6_setQuotas_0 rfl rfl rfl ?_
  refine z_iload_n (i := 1) C dX6_setQuotas_1 rfl rfl rfl ?_
  refine z_iconst C dX6_setQuotas_2 zi_1 rfl ?_
  refine z_iconst C dX6_setQuotas_3 zi_4 rfl ?_
  refine z_csiR (As := [.int a1, .int 1, .int 4]) (st := [.ref (zad g 0)]) (m := m) C gX6_setQuotas_X6_in hdX6_in rfl (fun z h => qX6_in a1 1 4 m z h) rfl (Nat.le_of_ble_eq_true rfl) ⟨Nat.le_of_ble_eq_true rfl, Nat.le_of_ble_eq_true rfl⟩ ⟨Nat.le_refl _, Nat.le_refl _⟩ dX6_setQuotas_4 rfl rfl hf (fun v1 hf => ?_)
  refine kjn_V (fun K25 => ∀ (w2 : Int32), K25 w2 = some o → zV x g 4 0 0 25 [some (.ref (zad g 0)), some (.int a1), some (.int a2), none] [.int w2, .ref (zad g 0)] m) hf (fun w2 hf => ?_) (fun K25 hK25 hf => ?_)
  · skip
    refine z_cviW (As := [.int w2]) (st := []) (m := m) C (cl_5 hM) (mn_0 hM) (mc_0 hM) gX6_setQuotas_X6_refused hdX6_refused rfl (fun z h => qX6_refused hM w2 m z h) rfl (Nat.le_of_ble_eq_true rfl) ⟨Nat.le_of_ble_eq_true rfl, Nat.le_of_ble_eq_true rfl⟩ ⟨Nat.le_refl _, Nat.le_refl _⟩ dX6_setQuotas_25 rfl rfl hf (fun v3 m4 hf => ?_)
    refine z_if_eq (tgt := 33) C dX6_setQuotas_28 (by decide) rfl hf (fun hf => ?_) (fun hf => ?_)
    · skip
      refine z_aload_n (i := 0) C dX6_setQuotas_33 rfl rfl rfl ?_
      refine z_cvvW (As := []) (st := []) (m := m4) C (cl_5 hM) (mn_0 hM) (mc_0 hM) gX6_setQuotas_X6_saves hdX6_saves rfl (fun z h => qX6_saves hM N m4 z h) rfl (Nat.le_of_ble_eq_true rfl) ⟨Nat.le_of_ble_eq_true rfl, Nat.le_of_ble_eq_true rfl⟩ ⟨Nat.le_refl _, Nat.le_refl _⟩ dX6_setQuotas_34 rfl rfl hf (fun m5 hf => ?_)
      refine z_bipush C dX6_setQuotas_37 zb_10 rfl ?_
      refine z_aload_n (i := 0) C dX6_setQuotas_39 rfl rfl rfl ?_
      refine z_gr C (FX6_setQuotas_7 hM) (mn_0 hM) (mc_0 hM) rfl dX6_setQuotas_40 rfl ?_
      refine z_iconst C dX6_setQuotas_43 zi_4 rfl ?_
      refine z_iaload C (mn_1 hM) (mc_1 hM) dX6_setQuotas_44 rfl hf (fun v6 hf => ?_)
      refine z_imul C dX6_setQuotas_45 rfl ?_
      refine z_aload_n (i := 0) C dX6_setQuotas_46 rfl rfl rfl ?_
      refine z_gr C (FX6_setQuotas_7 hM) (mn_0 hM) (mc_0 hM) rfl dX6_setQuotas_47 rfl ?_
      refine z_iconst C dX6_setQuotas_50 zi_3 rfl ?_
      refine z_iaload C (mn_1 hM) (mc_1 hM) dX6_setQuotas_51 rfl hf (fun v7 hf => ?_)
      refine z_iadd C dX6_setQuotas_52 rfl ?_
      refine z_top _ hf (fun v8 hf => ?_)
      refine z_istore_n (i := 3) (lo' := [some (.ref (zad g 0)), some (.int a1), some (.int a2), some (.int v8)]) C dX6_setQuotas_53 rfl (Nat.le_of_ble_eq_true rfl) rfl rfl rfl ?_
      refine z_aload_n (i := 0) C dX6_setQuotas_54 rfl rfl rfl ?_
      refine z_gr C (FX6_setQuotas_7 hM) (mn_0 hM) (mc_0 hM) rfl dX6_setQuotas_55 rfl ?_
      refine z_iconst C dX6_setQuotas_58 zi_3 rfl ?_
      refine z_iload_n (i := 1) C dX6_setQuotas_59 rfl rfl rfl ?_
      refine z_iastore C (mn_1 hM) (mc_1 hM) dX6_setQuotas_60 rfl hf (fun m9 hf => ?_)
      refine z_aload_n (i := 0) C dX6_setQuotas_61 rfl rfl rfl ?_
      refine z_gr C (FX6_setQuotas_7 hM) (mn_0 hM) (mc_0 hM) rfl dX6_setQuotas_62 rfl ?_
      refine z_iconst C dX6_setQuotas_65 zi_4 rfl ?_
      refine z_iload_n (i := 2) C dX6_setQuotas_66 rfl rfl rfl ?_
      refine z_iastore C (mn_1 hM) (mc_1 hM) dX6_setQuotas_67 rfl hf (fun m10 hf => ?_)
      refine z_iload_n (i := 3) C dX6_setQuotas_68 rfl rfl rfl ?_
      exact hr _ _ _ _ (Option.some.inj hf) dX6_setQuotas_69
    · skip
      refine z_iconst C dX6_setQuotas_31 zi_0 rfl ?_
      exact hr _ _ _ _ (Option.some.inj hf) dX6_setQuotas_32
  · skip
    refine z_if_eq (tgt := 24) C dX6_setQuotas_7 (by decide) rfl hf (fun hf => ?_) (fun hf => ?_)
    · skip
      refine z_iconst C dX6_setQuotas_24 zi_1 rfl ?_
      exact hK25 _ hf
    · skip
      refine z_iload_n (i := 2) C dX6_setQuotas_10 rfl rfl rfl ?_
      refine z_iconst C dX6_setQuotas_11 zi_1 rfl ?_
      refine z_bipush C dX6_setQuotas_12 zb_32 rfl ?_
      refine z_csiR (As := [.int a2, .int 1, .int 32]) (st := [.ref (zad g 0)]) (m := m) C gX6_setQuotas_X6_in hdX6_in rfl (fun z h => qX6_in a2 1 32 m z h) rfl (Nat.le_of_ble_eq_true rfl) ⟨Nat.le_of_ble_eq_true rfl, Nat.le_of_ble_eq_true rfl⟩ ⟨Nat.le_refl _, Nat.le_refl _⟩ dX6_setQuotas_14 rfl rfl hf (fun v11 hf => ?_)
      refine z_if_eq (tgt := 24) C dX6_setQuotas_17 (by decide) rfl hf (fun hf => ?_) (fun hf => ?_)
      · skip
        refine z_iconst C dX6_setQuotas_24 zi_1 rfl ?_
        exact hK25 _ hf
      · skip
        refine z_iconst C dX6_setQuotas_20 zi_0 rfl ?_
        refine z_goto (pc' := 25) C dX6_setQuotas_21 (by decide) ?_
        exact hK25 _ hf

def fX6_areTicks (a1 : Int32) : Option (Int32) :=
  kc1 (fX6_in a1 1 500) fun v1 =>
  kbz v1 (some v1)
theorem hdX6_areTicks : yX6_areTicks.cls ≠ "java/lang/invoke/MethodHandle" ∧ yX6_areTicks.cls ≠ "java/lang/invoke/VarHandle" ∧ (parseMethodDescriptor yX6_areTicks.desc).map (fun d => d.parameters.length) = some 1 := by decide +kernel
set_option maxHeartbeats 4000000 in
set_option maxRecDepth 100000 in
theorem qX6_areTicks {l : Launch} {g : zG}  (a1 : Int32) (m : zMem)  (o : Int32) (hf : fX6_areTicks a1 = some o) : zMI l g yX6_areTicks wsX6_areTicks { frames := 1, cells := 0, slots := 0, locals := 22 } [.int a1] m (o, m) := by
  refine z_met_z (cc := cX6_areTicks) (maxL := 1) (lo0 := [some (.int a1)]) (by decide +kernel) rfl rfl (Nat.le_of_ble_eq_true rfl) (fun x hx C hr => ?_)
  unfold fX6_areTicks at hf
  refine z_iload_n (i := 0) C dX6_areTicks_0 rfl rfl rfl ?_
  refine z_iconst C dX6_areTicks_1 zi_1 rfl ?_
  refine z_sipush C dX6_areTicks_2 zs_500 rfl ?_
  refine z_csiR (As := [.int a1, .int 1, .int 500]) (st := []) (m := m) C gX6_areTicks_X6_in hdX6_in rfl (fun z h => qX6_in a1 1 500 m z h) rfl (Nat.le_of_ble_eq_true rfl) ⟨Nat.le_of_ble_eq_true rfl, Nat.le_of_ble_eq_true rfl⟩ ⟨Nat.le_refl _, Nat.le_refl _⟩ dX6_areTicks_5 rfl rfl hf (fun v1 hf => ?_)
  exact kbz_V hf (fun hb hf => hr _ _ _ _ hb (congrArg (fun z => (z, m)) (Option.some.inj hf)) dX6_areTicks_8)

def sX6_passes_25 (N : Nat) (K89 : Int32 → zMem → Option (Int32 × zMem)) : (Int32 × Int32 × zMem → Option (Int32 × zMem)) → Int32 × Int32 × zMem → Option (Int32 × zMem) := fun rec (x7, x8, m9) =>
  if 24 ≤ x8 then
  K89 x7 m9
  else
  kc1 (fX6_of x8) fun v10 =>
  kld m9 1 1816 v10 fun v11 =>
  if v11 ≤ 0 then
  rec (x7, x8 + 1, m9)
  else
  kld m9 1 1816 (v10 + 2) fun v12 =>
  kld m9 1 1816 1 fun v13 =>
  kld m9 1 1816 5 fun v14 =>
  if v14 < (v12 + v13) then
  rec (x7, x8 + 1, m9)
  else
  kc1 (fX6_ends N v10 m9) fun m15 =>
  rec (x7 + 1, x8 + 1, m15)
def fX6_passes (N : Nat) (a1 : Int32) (m : zMem) : Option (Int32 × zMem) :=
  kc1 (fX6_epochNow m) fun v1 =>
  kld m 1 1816 5 fun v2 =>
  kst m 1 1816 5 (v2 + a1) fun m3 =>
  kc1 (fX6_turnsTo v1 m3) fun m4 =>
  kjn (fun (w5 : Int32) (m6 : zMem) =>
  some (w5, m6)) fun K89 =>
  klp (sX6_passes_25 N K89) N (0, 0, m4)
theorem FX6_passes_7 {g : zG} (hM : isM g) : zFl wsX6_passes RX6 (zcl g) 7 5 0 := ⟨RX6, TX6, 15, hM.2.2 ▸ rfl, by decide +kernel, by decide, by decide +kernel⟩
theorem hdX6_passes : yX6_passes.cls = RX6 ∧ yX6_passes.cls ≠ "java/lang/invoke/MethodHandle" ∧ yX6_passes.cls ≠ "java/lang/invoke/VarHandle" ∧ (parseMethodDescriptor yX6_passes.desc).map (fun d => d.parameters.length) = some 1 := by decide +kernel
set_option maxHeartbeats 4000000 in
set_option maxRecDepth 100000 in
theorem qX6_passes {l : Launch} {g : zG} (hM : isM g)  (N : Nat) (a1 : Int32) (m : zMem)  (o : Int32 × zMem) (hf : fX6_passes N a1 m = some o) : zMI l g yX6_passes wsX6_passes { frames := 2, cells := 0, slots := 0, locals := 41 } [.ref (zad g 0), .int a1] m o := by
  refine z_met_i (cc := cX6_passes) (maxL := 6) (lo0 := [some (.ref (zad g 0)), some (.int a1), none, none, none, none]) (by decide +kernel) rfl rfl (Nat.le_of_ble_eq_true rfl) (fun x hx C hr => ?_)
  unfold fX6_passes at hf
  refine z_aload_n (i := 0) C dX6_passes_0 rfl rfl rfl ?_
  refine z_cviR (As := []) (st := []) (m := m) C (cl_5 hM) (mn_0 hM) (mc_0 hM) gX6_passes_X6_epochNow hdX6_epochNow rfl (fun z h => qX6_epochNow hM m z h) rfl (Nat.le_of_ble_eq_true rfl) ⟨Nat.le_of_ble_eq_true rfl, Nat.le_of_ble_eq_true rfl⟩ ⟨Nat.le_refl _, Nat.le_refl _⟩ dX6_passes_1 rfl rfl hf (fun v1 hf => ?_)
  refine z_istore_n (i := 2) (lo' := [some (.ref (zad g 0)), some (.int a1), some (.int v1), none, none, none]) C dX6_passes_4 rfl (Nat.le_of_ble_eq_true rfl) rfl rfl rfl ?_
  refine z_aload_n (i := 0) C dX6_passes_5 rfl rfl rfl ?_
  refine z_gr C (FX6_passes_7 hM) (mn_0 hM) (mc_0 hM) rfl dX6_passes_6 rfl ?_
  refine z_iconst C dX6_passes_9 zi_5 rfl ?_
  refine z_dup2 C dX6_passes_10 rfl rfl rfl ?_
  refine z_iaload C (mn_1 hM) (mc_1 hM) dX6_passes_11 rfl hf (fun v2 hf => ?_)
  refine z_iload_n (i := 1) C dX6_passes_12 rfl rfl rfl ?_
  refine z_iadd C dX6_passes_13 rfl ?_
  refine z_iastore C (mn_1 hM) (mc_1 hM) dX6_passes_14 rfl hf (fun m3 hf => ?_)
  refine z_aload_n (i := 0) C dX6_passes_15 rfl rfl rfl ?_
  refine z_iload_n (i := 2) C dX6_passes_16 rfl rfl rfl ?_
  refine z_cvvW (As := [.int v1]) (st := []) (m := m3) C (cl_5 hM) (mn_0 hM) (mc_0 hM) gX6_passes_X6_turnsTo hdX6_turnsTo rfl (fun z h => qX6_turnsTo hM v1 m3 z h) rfl (Nat.le_of_ble_eq_true rfl) ⟨Nat.le_of_ble_eq_true rfl, Nat.le_of_ble_eq_true rfl⟩ ⟨Nat.le_refl _, Nat.le_refl _⟩ dX6_passes_17 rfl rfl hf (fun m4 hf => ?_)
  refine z_iconst C dX6_passes_20 zi_0 rfl ?_
  refine z_istore_n (i := 3) (lo' := [some (.ref (zad g 0)), some (.int a1), some (.int v1), some (.int 0), none, none]) C dX6_passes_21 rfl (Nat.le_of_ble_eq_true rfl) rfl rfl rfl ?_
  refine z_iconst C dX6_passes_22 zi_0 rfl ?_
  refine z_istore (lo' := [some (.ref (zad g 0)), some (.int a1), some (.int v1), some (.int 0), some (.int 0), none]) C dX6_passes_23 (Nat.le_of_ble_eq_true rfl) rfl rfl rfl ?_
  refine z_drop (lo' := [some (.ref (zad g 0)), none, some (.int v1), some (.int 0), some (.int 0), none]) 1 rfl ?_
  refine z_drop (lo' := [some (.ref (zad g 0)), none, none, some (.int 0), some (.int 0), none]) 2 rfl ?_
  refine kjn_V (fun K89 => ∀ (w5 : Int32) (m6 : zMem), K89 w5 m6 = some o → zV x g 6 0 0 89 [none, none, none, some (.int w5), none, none] [] m6) hf (fun w5 m6 hf => ?_) (fun K89 hK89 hf => ?_)
  · skip
    refine z_iload_n (i := 3) C dX6_passes_89 rfl rfl rfl ?_
    exact hr _ _ _ _ (Option.some.inj hf) dX6_passes_90
  · skip
    refine klp_V (fun z => zV x g 6 0 0 25 [some (.ref (zad g 0)), none, none, some (.int z.1), some (.int z.2.1), none] [] z.2.2) hf (fun rec z ih hf => ?_)
    obtain ⟨x7, x8, m9⟩ := z
    unfold sX6_passes_25 at hf
    try dsimp only at hf
    try dsimp only
    refine z_iload C dX6_passes_25 rfl rfl ?_
    refine z_bipush C dX6_passes_27 zb_24 rfl ?_
    refine z_ic_ge (tgt := 89) C dX6_passes_29 (by decide) rfl hf (fun hf => ?_) (fun hf => ?_)
    · skip
      refine z_drop (lo' := [none, none, none, some (.int x7), some (.int x8), none]) 0 rfl ?_
      refine z_drop (lo' := [none, none, none, some (.int x7), none, none]) 4 rfl ?_
      exact hK89 _ _ hf
    · skip
      refine z_iload C dX6_passes_32 rfl rfl ?_
      refine z_csiR (As := [.int x8]) (st := []) (m := m9) C gX6_passes_X6_of hdX6_of rfl (fun z h => qX6_of x8 m9 z h) rfl (Nat.le_of_ble_eq_true rfl) ⟨Nat.le_of_ble_eq_true rfl, Nat.le_of_ble_eq_true rfl⟩ ⟨Nat.le_refl _, Nat.le_refl _⟩ dX6_passes_34 rfl rfl hf (fun v10 hf => ?_)
      refine z_istore (lo' := [some (.ref (zad g 0)), none, none, some (.int x7), some (.int x8), some (.int v10)]) C dX6_passes_37 (Nat.le_of_ble_eq_true rfl) rfl rfl rfl ?_
      refine z_aload_n (i := 0) C dX6_passes_39 rfl rfl rfl ?_
      refine z_gr C (FX6_passes_7 hM) (mn_0 hM) (mc_0 hM) rfl dX6_passes_40 rfl ?_
      refine z_iload C dX6_passes_43 rfl rfl ?_
      refine z_iaload C (mn_1 hM) (mc_1 hM) dX6_passes_45 rfl hf (fun v11 hf => ?_)
      refine z_if_le (tgt := 83) C dX6_passes_46 (by decide) rfl hf (fun hf => ?_) (fun hf => ?_)
      · skip
        refine z_iinc (v := x8 + 1) (lo' := [some (.ref (zad g 0)), none, none, some (.int x7), some (.int (x8 + 1)), some (.int v10)]) C dX6_passes_83 rfl (zinc zi_1) (Nat.le_of_ble_eq_true rfl) rfl rfl rfl ?_
        refine z_goto (pc' := 25) C dX6_passes_86 (by decide) ?_
        refine z_drop (lo' := [some (.ref (zad g 0)), none, none, some (.int x7), some (.int (x8 + 1)), none]) 5 rfl ?_
        exact ih (x7, x8 + 1, m9) hf
      · skip
        refine z_aload_n (i := 0) C dX6_passes_49 rfl rfl rfl ?_
        refine z_gr C (FX6_passes_7 hM) (mn_0 hM) (mc_0 hM) rfl dX6_passes_50 rfl ?_
        refine z_iload C dX6_passes_53 rfl rfl ?_
        refine z_iconst C dX6_passes_55 zi_2 rfl ?_
        refine z_iadd C dX6_passes_56 rfl ?_
        refine z_iaload C (mn_1 hM) (mc_1 hM) dX6_passes_57 rfl hf (fun v12 hf => ?_)
        refine z_aload_n (i := 0) C dX6_passes_58 rfl rfl rfl ?_
        refine z_gr C (FX6_passes_7 hM) (mn_0 hM) (mc_0 hM) rfl dX6_passes_59 rfl ?_
        refine z_iconst C dX6_passes_62 zi_1 rfl ?_
        refine z_iaload C (mn_1 hM) (mc_1 hM) dX6_passes_63 rfl hf (fun v13 hf => ?_)
        refine z_iadd C dX6_passes_64 rfl ?_
        refine z_aload_n (i := 0) C dX6_passes_65 rfl rfl rfl ?_
        refine z_gr C (FX6_passes_7 hM) (mn_0 hM) (mc_0 hM) rfl dX6_passes_66 rfl ?_
        refine z_iconst C dX6_passes_69 zi_5 rfl ?_
        refine z_iaload C (mn_1 hM) (mc_1 hM) dX6_passes_70 rfl hf (fun v14 hf => ?_)
        refine z_ic_gt (tgt := 83) C dX6_passes_71 (by decide) rfl hf (fun hf => ?_) (fun hf => ?_)
        · skip
          refine z_iinc (v := x8 + 1) (lo' := [some (.ref (zad g 0)), none, none, some (.int x7), some (.int (x8 + 1)), some (.int v10)]) C dX6_passes_83 rfl (zinc zi_1) (Nat.le_of_ble_eq_true rfl) rfl rfl rfl ?_
          refine z_goto (pc' := 25) C dX6_passes_86 (by decide) ?_
          refine z_drop (lo' := [some (.ref (zad g 0)), none, none, some (.int x7), some (.int (x8 + 1)), none]) 5 rfl ?_
          exact ih (x7, x8 + 1, m9) hf
        · skip
          refine z_aload_n (i := 0) C dX6_passes_74 rfl rfl rfl ?_
          refine z_iload C dX6_passes_75 rfl rfl ?_
          refine z_cvvW (As := [.int v10]) (st := []) (m := m9) C (cl_5 hM) (mn_0 hM) (mc_0 hM) gX6_passes_X6_ends hdX6_ends rfl (fun z h => qX6_ends hM N v10 m9 z h) rfl (Nat.le_of_ble_eq_true rfl) ⟨Nat.le_of_ble_eq_true rfl, Nat.le_of_ble_eq_true rfl⟩ ⟨Nat.le_refl _, Nat.le_refl _⟩ dX6_passes_77 rfl rfl hf (fun m15 hf => ?_)
          refine z_iinc (v := x7 + 1) (lo' := [some (.ref (zad g 0)), none, none, some (.int (x7 + 1)), some (.int x8), some (.int v10)]) C dX6_passes_80 rfl (zinc zi_1) (Nat.le_of_ble_eq_true rfl) rfl rfl rfl ?_
          refine z_iinc (v := x8 + 1) (lo' := [some (.ref (zad g 0)), none, none, some (.int (x7 + 1)), some (.int (x8 + 1)), some (.int v10)]) C dX6_passes_83 rfl (zinc zi_1) (Nat.le_of_ble_eq_true rfl) rfl rfl rfl ?_
          refine z_goto (pc' := 25) C dX6_passes_86 (by decide) ?_
          refine z_drop (lo' := [some (.ref (zad g 0)), none, none, some (.int (x7 + 1)), some (.int (x8 + 1)), none]) 5 rfl ?_
          exact ih (x7 + 1, x8 + 1, m15) hf
