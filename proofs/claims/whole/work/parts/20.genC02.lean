def fX2_learn (N : Nat) (s : Nat) (a1 : Int32) (a2 : Int32) (m : zMem) : Option (zMem) :=
  if a1 = a2 then
  some m
  else
  kc1 (fX2_isMember s a1 m) fun v1 =>
  if v1 = 0 then
  some m
  else
  kc1 (fX2_isMember s a2 m) fun v2 =>
  if v2 = 0 then
  some m
  else
  kld m (s + 2) 256 a1 fun v3 =>
  kld m (s + 2) 256 a2 fun v4 =>
  kld m (s + 4) 24 v4 fun v5 =>
  kc1 (fX3_bucketFor a1 a2) fun v6 =>
  kc1 (fX3_bucketPlace v3 v6) fun v7 =>
  kc1 (fX3_indexOf N s v7 a2 m) fun v8 =>
  if v8 = (-1) then
  kc1 (fX2_refusalOf N s v3 v7 v5 m) fun v9 =>
  if v9 = (-1) then
  kc1 (fX3_append N s v7 a2 v5 m) fun m16 =>
  some m16
  else
  kld m (s + 1) 9 v9 fun v10 =>
  kst m (s + 1) 9 v9 (v10 + 1) fun m11 =>
  if v9 = 7 then
  klt (v7 * 4 : Int32) fun v12 =>
  kld m11 (s + 8) 768 v12 fun v13 =>
  kld m11 (s + 9) 768 v12 fun v14 =>
  kc1 (fX3_append N s v7 v13 v14 m11) fun m15 =>
  some m15
  else
  some m11
  else
  kc1 (fX3_removeAt N s v7 v8 m) fun m17 =>
  kc1 (fX3_append N s v7 a2 v5 m17) fun m18 =>
  some m18
theorem FX2_learn_36 {g : zG} (hC : isC g) : zFl wsX2_learn RX2 (zcl g) 36 1 8 := ⟨RX2, TX2, 14, hC.2.2 ▸ rfl, by decide +kernel, by decide, by decide +kernel⟩
theorem FX2_learn_40 {g : zG} (hC : isC g) : zFl wsX2_learn RX2 (zcl g) 40 1 9 := ⟨RX2, TX2, 14, hC.2.2 ▸ rfl, by decide +kernel, by decide, by decide +kernel⟩
theorem FX2_learn_46 {g : zG} (hC : isC g) : zFl wsX2_learn RX2 (zcl g) 46 1 11 := ⟨RX2, TX2, 14, hC.2.2 ▸ rfl, by decide +kernel, by decide, by decide +kernel⟩
theorem FX2_learn_55 {g : zG} (hC : isC g) : zFl wsX2_learn RX2 (zcl g) 55 1 13 := ⟨RX2, TX2, 14, hC.2.2 ▸ rfl, by decide +kernel, by decide, by decide +kernel⟩
theorem FX2_learn_183 {g : zG} (hC : isC g) : zFl wsX2_learn RX2 (zcl g) 183 2 1 := ⟨RX3, TX3, 3, hC.2.2 ▸ rfl, by decide +kernel, by decide, by decide +kernel⟩
theorem FX2_learn_186 {g : zG} (hC : isC g) : zFl wsX2_learn RX2 (zcl g) 186 2 2 := ⟨RX3, TX3, 3, hC.2.2 ▸ rfl, by decide +kernel, by decide, by decide +kernel⟩
theorem hdX2_learn : yX2_learn.cls = RX2 ∧ yX2_learn.cls ≠ "java/lang/invoke/MethodHandle" ∧ yX2_learn.cls ≠ "java/lang/invoke/VarHandle" ∧ (parseMethodDescriptor yX2_learn.desc).map (fun d => d.parameters.length) = some 2 := by decide +kernel
set_option maxHeartbeats 4000000 in
set_option maxRecDepth 100000 in
theorem qX2_learn {l : Launch} {g : zG} (hC : isC g)  (N : Nat) (s : Nat) (a1 : Int32) (a2 : Int32) (m : zMem) (hs : isS s) (o : zMem) (hf : fX2_learn N s a1 a2 m = some o) : zMV l g yX2_learn wsX2_learn { frames := 2, cells := 0, slots := 0, locals := 51 } [.ref (zad g s), .int a1, .int a2] m o := by
  refine z_met_v (cc := cX2_learn) (maxL := 9) (lo0 := [some (.ref (zad g s)), some (.int a1), some (.int a2), none, none, none, none, none, none]) (by decide +kernel) rfl rfl (Nat.le_of_ble_eq_true rfl) (fun x hx C hr => ?_)
  unfold fX2_learn at hf
  refine z_iload_n (i := 1) C dX2_learn_0 rfl rfl rfl ?_
  refine z_iload_n (i := 2) C dX2_learn_1 rfl rfl rfl ?_
  refine z_ic_eq (tgt := 21) C dX2_learn_2 (by decide) rfl hf (fun hf => ?_) (fun hf => ?_)
  · skip
    exact hr _ _ _ (Option.some.inj hf) dX2_learn_21
  · skip
    refine z_aload_n (i := 0) C dX2_learn_5 rfl rfl rfl ?_
    refine z_iload_n (i := 1) C dX2_learn_6 rfl rfl rfl ?_
    refine z_cviR (As := [.int a1]) (st := []) (m := m) C (cl_1 hC) (sn_0 hC hs) (sc_0 hC hs) gX2_learn_X2_isMember hdX2_isMember rfl (fun z h => qX2_isMember hC s a1 m hs z h) rfl (Nat.le_of_ble_eq_true rfl) ⟨Nat.le_of_ble_eq_true rfl, Nat.le_of_ble_eq_true rfl⟩ ⟨Nat.le_refl _, Nat.le_refl _⟩ dX2_learn_7 rfl rfl hf (fun v1 hf => ?_)
    refine z_if_eq (tgt := 21) C dX2_learn_10 (by decide) rfl hf (fun hf => ?_) (fun hf => ?_)
    · skip
      exact hr _ _ _ (Option.some.inj hf) dX2_learn_21
    · skip
      refine z_aload_n (i := 0) C dX2_learn_13 rfl rfl rfl ?_
      refine z_iload_n (i := 2) C dX2_learn_14 rfl rfl rfl ?_
      refine z_cviR (As := [.int a2]) (st := []) (m := m) C (cl_1 hC) (sn_0 hC hs) (sc_0 hC hs) gX2_learn_X2_isMember hdX2_isMember rfl (fun z h => qX2_isMember hC s a2 m hs z h) rfl (Nat.le_of_ble_eq_true rfl) ⟨Nat.le_of_ble_eq_true rfl, Nat.le_of_ble_eq_true rfl⟩ ⟨Nat.le_refl _, Nat.le_refl _⟩ dX2_learn_15 rfl rfl hf (fun v2 hf => ?_)
      refine z_if_ne (tgt := 22) C dX2_learn_18 (by decide) rfl hf (fun hf => ?_) (fun hf => ?_)
      · skip
        refine z_aload_n (i := 0) C dX2_learn_22 rfl rfl rfl ?_
        refine z_gr C (FX2_learn_40 hC) (sn_0 hC hs) (sc_0 hC hs) rfl dX2_learn_23 rfl ?_
        refine z_iload_n (i := 1) C dX2_learn_26 rfl rfl rfl ?_
        refine z_iaload C (sn_2 hC hs) (sc_2 hC hs) dX2_learn_27 rfl hf (fun v3 hf => ?_)
        refine z_istore_n (i := 3) (lo' := [some (.ref (zad g s)), some (.int a1), some (.int a2), some (.int v3), none, none, none, none, none]) C dX2_learn_28 rfl (Nat.le_of_ble_eq_true rfl) rfl rfl rfl ?_
        refine z_aload_n (i := 0) C dX2_learn_29 rfl rfl rfl ?_
        refine z_gr C (FX2_learn_46 hC) (sn_0 hC hs) (sc_0 hC hs) rfl dX2_learn_30 rfl ?_
        refine z_aload_n (i := 0) C dX2_learn_33 rfl rfl rfl ?_
        refine z_gr C (FX2_learn_40 hC) (sn_0 hC hs) (sc_0 hC hs) rfl dX2_learn_34 rfl ?_
        refine z_iload_n (i := 2) C dX2_learn_37 rfl rfl rfl ?_
        refine z_iaload C (sn_2 hC hs) (sc_2 hC hs) dX2_learn_38 rfl hf (fun v4 hf => ?_)
        refine z_iaload C (sn_4 hC hs) (sc_4 hC hs) dX2_learn_39 rfl hf (fun v5 hf => ?_)
        refine z_istore (lo' := [some (.ref (zad g s)), some (.int a1), some (.int a2), some (.int v3), some (.int v5), none, none, none, none]) C dX2_learn_40 (Nat.le_of_ble_eq_true rfl) rfl rfl rfl ?_
        refine z_iload_n (i := 3) C dX2_learn_42 rfl rfl rfl ?_
        refine z_iload_n (i := 1) C dX2_learn_43 rfl rfl rfl ?_
        refine z_iload_n (i := 2) C dX2_learn_44 rfl rfl rfl ?_
        refine z_csiR (As := [.int a1, .int a2]) (st := [.int v3]) (m := m) C gX2_learn_X3_bucketFor hdX3_bucketFor rfl (fun z h => qX3_bucketFor a1 a2 m z h) rfl (Nat.le_of_ble_eq_true rfl) ⟨Nat.le_of_ble_eq_true rfl, Nat.le_of_ble_eq_true rfl⟩ ⟨Nat.le_refl _, Nat.le_refl _⟩ dX2_learn_45 rfl rfl hf (fun v6 hf => ?_)
        refine z_csiR (As := [.int v3, .int v6]) (st := []) (m := m) C gX2_learn_X3_bucketPlace hdX3_bucketPlace rfl (fun z h => qX3_bucketPlace v3 v6 m z h) rfl (Nat.le_of_ble_eq_true rfl) ⟨Nat.le_of_ble_eq_true rfl, Nat.le_of_ble_eq_true rfl⟩ ⟨Nat.le_refl _, Nat.le_refl _⟩ dX2_learn_48 rfl rfl hf (fun v7 hf => ?_)
        refine z_istore (lo' := [some (.ref (zad g s)), some (.int a1), some (.int a2), some (.int v3), some (.int v5), some (.int v7), none, none, none]) C dX2_learn_51 (Nat.le_of_ble_eq_true rfl) rfl rfl rfl ?_
        refine z_aload_n (i := 0) C dX2_learn_53 rfl rfl rfl ?_
        refine z_gr C (FX2_learn_55 hC) (sn_0 hC hs) (sc_0 hC hs) rfl dX2_learn_54 rfl ?_
        refine z_iload C dX2_learn_57 rfl rfl ?_
        refine z_iload_n (i := 2) C dX2_learn_59 rfl rfl rfl ?_
        refine z_cviR (As := [.int v7, .int a2]) (st := []) (m := m) C (cl_2 hC) (sn_6 hC hs) (sc_6 hC hs) gX2_learn_X3_indexOf hdX3_indexOf rfl (fun z h => qX3_indexOf hC N s v7 a2 m hs z h) rfl (Nat.le_of_ble_eq_true rfl) ⟨Nat.le_of_ble_eq_true rfl, Nat.le_of_ble_eq_true rfl⟩ ⟨Nat.le_refl _, Nat.le_refl _⟩ dX2_learn_60 rfl rfl hf (fun v8 hf => ?_)
        refine z_istore (lo' := [some (.ref (zad g s)), some (.int a1), some (.int a2), some (.int v3), some (.int v5), some (.int v7), some (.int v8), none, none]) C dX2_learn_63 (Nat.le_of_ble_eq_true rfl) rfl rfl rfl ?_
        refine z_iload C dX2_learn_65 rfl rfl ?_
        refine z_iconst C dX2_learn_67 zi_m1 rfl ?_
        refine z_ic_eq (tgt := 95) C dX2_learn_68 (by decide) rfl hf (fun hf => ?_) (fun hf => ?_)
        · skip
          refine z_aload_n (i := 0) C dX2_learn_95 rfl rfl rfl ?_
          refine z_iload_n (i := 3) C dX2_learn_96 rfl rfl rfl ?_
          refine z_iload C dX2_learn_97 rfl rfl ?_
          refine z_iload C dX2_learn_99 rfl rfl ?_
          refine z_cviR (As := [.int v3, .int v7, .int v5]) (st := []) (m := m) C (cl_1 hC) (sn_0 hC hs) (sc_0 hC hs) gX2_learn_X2_refusalOf hdX2_refusalOf rfl (fun z h => qX2_refusalOf hC N s v3 v7 v5 m hs z h) rfl (Nat.le_of_ble_eq_true rfl) ⟨Nat.le_of_ble_eq_true rfl, Nat.le_of_ble_eq_true rfl⟩ ⟨Nat.le_refl _, Nat.le_refl _⟩ dX2_learn_101 rfl rfl hf (fun v9 hf => ?_)
          refine z_istore (lo' := [some (.ref (zad g s)), some (.int a1), some (.int a2), some (.int v3), some (.int v5), some (.int v7), some (.int v8), some (.int v9), none]) C dX2_learn_104 (Nat.le_of_ble_eq_true rfl) rfl rfl rfl ?_
          refine z_iload C dX2_learn_106 rfl rfl ?_
          refine z_iconst C dX2_learn_108 zi_m1 rfl ?_
          refine z_ic_ne (tgt := 125) C dX2_learn_109 (by decide) rfl hf (fun hf => ?_) (fun hf => ?_)
          · skip
            refine z_aload_n (i := 0) C dX2_learn_125 rfl rfl rfl ?_
            refine z_gr C (FX2_learn_36 hC) (sn_0 hC hs) (sc_0 hC hs) rfl dX2_learn_126 rfl ?_
            refine z_iload C dX2_learn_129 rfl rfl ?_
            refine z_dup2 C dX2_learn_131 rfl rfl rfl ?_
            refine z_iaload C (sn_1 hC hs) (sc_1 hC hs) dX2_learn_132 rfl hf (fun v10 hf => ?_)
            refine z_iconst C dX2_learn_133 zi_1 rfl ?_
            refine z_iadd C dX2_learn_134 rfl ?_
            refine z_iastore C (sn_1 hC hs) (sc_1 hC hs) dX2_learn_135 rfl hf (fun m11 hf => ?_)
            refine z_iload C dX2_learn_136 rfl rfl ?_
            refine z_bipush C dX2_learn_138 zb_7 rfl ?_
            refine z_ic_ne (tgt := 178) C dX2_learn_140 (by decide) rfl hf (fun hf => ?_) (fun hf => ?_)
            · skip
              exact hr _ _ _ (Option.some.inj hf) dX2_learn_178
            · skip
              refine z_iload C dX2_learn_143 rfl rfl ?_
              refine z_iconst C dX2_learn_145 zi_4 rfl ?_
              refine z_imul C dX2_learn_146 rfl ?_
              refine z_top _ hf (fun v12 hf => ?_)
              refine z_istore (lo' := [some (.ref (zad g s)), some (.int a1), some (.int a2), some (.int v3), some (.int v5), some (.int v7), some (.int v8), some (.int v9), some (.int v12)]) C dX2_learn_147 (Nat.le_of_ble_eq_true rfl) rfl rfl rfl ?_
              refine z_aload_n (i := 0) C dX2_learn_149 rfl rfl rfl ?_
              refine z_gr C (FX2_learn_55 hC) (sn_0 hC hs) (sc_0 hC hs) rfl dX2_learn_150 rfl ?_
              refine z_iload C dX2_learn_153 rfl rfl ?_
              refine z_aload_n (i := 0) C dX2_learn_155 rfl rfl rfl ?_
              refine z_gr C (FX2_learn_55 hC) (sn_0 hC hs) (sc_0 hC hs) rfl dX2_learn_156 rfl ?_
              refine z_gr C (FX2_learn_183 hC) (sn_6 hC hs) (sc_6 hC hs) rfl dX2_learn_159 rfl ?_
              refine z_iload C dX2_learn_162 rfl rfl ?_
              refine z_iaload C (sn_8 hC hs) (sc_8 hC hs) dX2_learn_164 rfl hf (fun v13 hf => ?_)
              refine z_aload_n (i := 0) C dX2_learn_165 rfl rfl rfl ?_
              refine z_gr C (FX2_learn_55 hC) (sn_0 hC hs) (sc_0 hC hs) rfl dX2_learn_166 rfl ?_
              refine z_gr C (FX2_learn_186 hC) (sn_6 hC hs) (sc_6 hC hs) rfl dX2_learn_169 rfl ?_
              refine z_iload C dX2_learn_172 rfl rfl ?_
              refine z_iaload C (sn_9 hC hs) (sc_9 hC hs) dX2_learn_174 rfl hf (fun v14 hf => ?_)
              refine z_cvvW (As := [.int v7, .int v13, .int v14]) (st := []) (m := m11) C (cl_2 hC) (sn_6 hC hs) (sc_6 hC hs) gX2_learn_X3_append hdX3_append rfl (fun z h => qX3_append hC N s v7 v13 v14 m11 hs z h) rfl (Nat.le_of_ble_eq_true rfl) ⟨Nat.le_of_ble_eq_true rfl, Nat.le_of_ble_eq_true rfl⟩ ⟨Nat.le_refl _, Nat.le_refl _⟩ dX2_learn_175 rfl rfl hf (fun m15 hf => ?_)
              exact hr _ _ _ (Option.some.inj hf) dX2_learn_178
          · skip
            refine z_aload_n (i := 0) C dX2_learn_112 rfl rfl rfl ?_
            refine z_gr C (FX2_learn_55 hC) (sn_0 hC hs) (sc_0 hC hs) rfl dX2_learn_113 rfl ?_
            refine z_iload C dX2_learn_116 rfl rfl ?_
            refine z_iload_n (i := 2) C dX2_learn_118 rfl rfl rfl ?_
            refine z_iload C dX2_learn_119 rfl rfl ?_
            refine z_cvvW (As := [.int v7, .int a2, .int v5]) (st := []) (m := m) C (cl_2 hC) (sn_6 hC hs) (sc_6 hC hs) gX2_learn_X3_append hdX3_append rfl (fun z h => qX3_append hC N s v7 a2 v5 m hs z h) rfl (Nat.le_of_ble_eq_true rfl) ⟨Nat.le_of_ble_eq_true rfl, Nat.le_of_ble_eq_true rfl⟩ ⟨Nat.le_refl _, Nat.le_refl _⟩ dX2_learn_121 rfl rfl hf (fun m16 hf => ?_)
            exact hr _ _ _ (Option.some.inj hf) dX2_learn_124
        · skip
          refine z_aload_n (i := 0) C dX2_learn_71 rfl rfl rfl ?_
          refine z_gr C (FX2_learn_55 hC) (sn_0 hC hs) (sc_0 hC hs) rfl dX2_learn_72 rfl ?_
          refine z_iload C dX2_learn_75 rfl rfl ?_
          refine z_iload C dX2_learn_77 rfl rfl ?_
          refine z_cvvW (As := [.int v7, .int v8]) (st := []) (m := m) C (cl_2 hC) (sn_6 hC hs) (sc_6 hC hs) gX2_learn_X3_removeAt hdX3_removeAt rfl (fun z h => qX3_removeAt hC N s v7 v8 m hs z h) rfl (Nat.le_of_ble_eq_true rfl) ⟨Nat.le_of_ble_eq_true rfl, Nat.le_of_ble_eq_true rfl⟩ ⟨Nat.le_refl _, Nat.le_refl _⟩ dX2_learn_79 rfl rfl hf (fun m17 hf => ?_)
          refine z_aload_n (i := 0) C dX2_learn_82 rfl rfl rfl ?_
          refine z_gr C (FX2_learn_55 hC) (sn_0 hC hs) (sc_0 hC hs) rfl dX2_learn_83 rfl ?_
          refine z_iload C dX2_learn_86 rfl rfl ?_
          refine z_iload_n (i := 2) C dX2_learn_88 rfl rfl rfl ?_
          refine z_iload C dX2_learn_89 rfl rfl ?_
          refine z_cvvW (As := [.int v7, .int a2, .int v5]) (st := []) (m := m17) C (cl_2 hC) (sn_6 hC hs) (sc_6 hC hs) gX2_learn_X3_append hdX3_append rfl (fun z h => qX3_append hC N s v7 a2 v5 m17 hs z h) rfl (Nat.le_of_ble_eq_true rfl) ⟨Nat.le_of_ble_eq_true rfl, Nat.le_of_ble_eq_true rfl⟩ ⟨Nat.le_refl _, Nat.le_refl _⟩ dX2_learn_91 rfl rfl hf (fun m18 hf => ?_)
          exact hr _ _ _ (Option.some.inj hf) dX2_learn_94
      · skip
        exact hr _ _ _ (Option.some.inj hf) dX2_learn_21

def sX4_offerNearest_42 (a1 : Int32) (K78 : Int32 → zMem → Option (zMem)) : (Int32 × zMem → Option (zMem)) → Int32 × zMem → Option (zMem) := fun rec (x8, m9) =>
  if x8 ≤ 0 then
  K78 x8 m9
  else
  kld m9 3 3 (x8 - 1) fun v10 =>
  if v10 ≤ a1 then
  K78 x8 m9
  else
  kld m9 3 3 (x8 - 1) fun v11 =>
  kst m9 3 3 x8 v11 fun m12 =>
  rec (x8 + (-1), m12)
def fX4_offerNearest (N : Nat) (a1 : Int32) (m : zMem) : Option (zMem) :=
  kgi m 1 6 fun v1 =>
  kgi m 1 6 fun v2 =>
  kjn (fun (w3 : Int32) (m4 : zMem) =>
  kjn (fun (w5 : Int32) (m6 : zMem) =>
  kst m6 3 3 w5 a1 fun m7 =>
  some m7) fun K78 =>
  klp (sX4_offerNearest_42 a1 K78) N (w3, m4)) fun K42 =>
  if 3 ≤ v2 then
  kld m 3 3 2 fun v13 =>
  if v13 ≤ a1 then
  some m
  else
  K42 2 m
  else
  kgi m 1 6 fun v14 =>
  kpi m 1 6 (v14 + 1) fun m15 =>
  K42 v1 m15
theorem FX4_offerNearest_29 {g : zG} (hC : isC g) : zFl wsX4_offerNearest RX4 (zcl g) 29 3 5 := ⟨RX4, TX4, 10, hC.2.2 ▸ rfl, by decide +kernel, by decide, by decide +kernel⟩
theorem FX4_offerNearest_32 {g : zG} (hC : isC g) : zFl wsX4_offerNearest RX4 (zcl g) 32 3 6 := ⟨RX4, TX4, 10, hC.2.2 ▸ rfl, by decide +kernel, by decide, by decide +kernel⟩
theorem PX4_offerNearest_32 {g : zG} (hC : isC g) : zFp wsX4_offerNearest RX4 (zcl g) 32 3 6 .int := ⟨RX4, TX4, 10, tyX4, hC.2.2 ▸ rfl, by decide +kernel, by decide, by decide +kernel, tyX4_ok, nmX4, rfl, by decide +kernel⟩
theorem hdX4_offerNearest : yX4_offerNearest.cls = RX4 ∧ yX4_offerNearest.cls ≠ "java/lang/invoke/MethodHandle" ∧ yX4_offerNearest.cls ≠ "java/lang/invoke/VarHandle" ∧ (parseMethodDescriptor yX4_offerNearest.desc).map (fun d => d.parameters.length) = some 1 := by decide +kernel
set_option maxHeartbeats 4000000 in
set_option maxRecDepth 100000 in
theorem qX4_offerNearest {l : Launch} {g : zG} (hC : isC g)  (N : Nat) (a1 : Int32) (m : zMem)  (o : zMem) (hf : fX4_offerNearest N a1 m = some o) : zMV l g yX4_offerNearest wsX4_offerNearest { frames := 0, cells := 0, slots := 0, locals := 0 } [.ref (zad g 1), .int a1] m o := by
  refine z_met_v (cc := cX4_offerNearest) (maxL := 3) (lo0 := [some (.ref (zad g 1)), some (.int a1), none]) (by decide +kernel) rfl rfl (Nat.le_of_ble_eq_true rfl) (fun x hx C hr => ?_)
  unfold fX4_offerNearest at hf
  refine z_aload_n (i := 0) C dX4_offerNearest_0 rfl rfl rfl ?_
  refine z_gi C (FX4_offerNearest_32 hC) (tn_1 hC) (tc_1 hC) rfl dX4_offerNearest_1 rfl hf (fun v1 hf => ?_)
  refine z_istore_n (i := 2) (lo' := [some (.ref (zad g 1)), some (.int a1), some (.int v1)]) C dX4_offerNearest_4 rfl (Nat.le_of_ble_eq_true rfl) rfl rfl rfl ?_
  refine z_aload_n (i := 0) C dX4_offerNearest_5 rfl rfl rfl ?_
  refine z_gi C (FX4_offerNearest_32 hC) (tn_1 hC) (tc_1 hC) rfl dX4_offerNearest_6 rfl hf (fun v2 hf => ?_)
  refine z_iconst C dX4_offerNearest_9 zi_3 rfl ?_
  refine kjn_V (fun K42 => ∀ (w3 : Int32) (m4 : zMem), K42 w3 m4 = some o → zV x g 3 0 0 42 [some (.ref (zad g 1)), some (.int a1), some (.int w3)] [] m4) hf (fun w3 m4 hf => ?_) (fun K42 hK42 hf => ?_)
  · skip
    refine kjn_V (fun K78 => ∀ (w5 : Int32) (m6 : zMem), K78 w5 m6 = some o → zV x g 3 0 0 78 [some (.ref (zad g 1)), some (.int a1), some (.int w5)] [] m6) hf (fun w5 m6 hf => ?_) (fun K78 hK78 hf => ?_)
    · skip
      refine z_aload_n (i := 0) C dX4_offerNearest_78 rfl rfl rfl ?_
      refine z_gr C (FX4_offerNearest_29 hC) (tn_1 hC) (tc_1 hC) rfl dX4_offerNearest_79 rfl ?_
      refine z_iload_n (i := 2) C dX4_offerNearest_82 rfl rfl rfl ?_
      refine z_iload_n (i := 1) C dX4_offerNearest_83 rfl rfl rfl ?_
      refine z_iastore C (tn_3 hC) (tc_3 hC) dX4_offerNearest_84 rfl hf (fun m7 hf => ?_)
      exact hr _ _ _ (Option.some.inj hf) dX4_offerNearest_85
    · skip
      refine klp_V (fun z => zV x g 3 0 0 42 [some (.ref (zad g 1)), some (.int a1), some (.int z.1)] [] z.2) hf (fun rec z ih hf => ?_)
      obtain ⟨x8, m9⟩ := z
      unfold sX4_offerNearest_42 at hf
      try dsimp only at hf
      try dsimp only
      refine z_iload_n (i := 2) C dX4_offerNearest_42 rfl rfl rfl ?_
      refine z_if_le (tgt := 78) C dX4_offerNearest_43 (by decide) rfl hf (fun hf => ?_) (fun hf => ?_)
      · skip
        exact hK78 _ _ hf
      · skip
        refine z_aload_n (i := 0) C dX4_offerNearest_46 rfl rfl rfl ?_
        refine z_gr C (FX4_offerNearest_29 hC) (tn_1 hC) (tc_1 hC) rfl dX4_offerNearest_47 rfl ?_
        refine z_iload_n (i := 2) C dX4_offerNearest_50 rfl rfl rfl ?_
        refine z_iconst C dX4_offerNearest_51 zi_1 rfl ?_
        refine z_isub C dX4_offerNearest_52 rfl ?_
        refine z_iaload C (tn_3 hC) (tc_3 hC) dX4_offerNearest_53 rfl hf (fun v10 hf => ?_)
        refine z_iload_n (i := 1) C dX4_offerNearest_54 rfl rfl rfl ?_
        refine z_ic_le (tgt := 78) C dX4_offerNearest_55 (by decide) rfl hf (fun hf => ?_) (fun hf => ?_)
        · skip
          exact hK78 _ _ hf
        · skip
          refine z_aload_n (i := 0) C dX4_offerNearest_58 rfl rfl rfl ?_
          refine z_gr C (FX4_offerNearest_29 hC) (tn_1 hC) (tc_1 hC) rfl dX4_offerNearest_59 rfl ?_
          refine z_iload_n (i := 2) C dX4_offerNearest_62 rfl rfl rfl ?_
          refine z_aload_n (i := 0) C dX4_offerNearest_63 rfl rfl rfl ?_
          refine z_gr C (FX4_offerNearest_29 hC) (tn_1 hC) (tc_1 hC) rfl dX4_offerNearest_64 rfl ?_
          refine z_iload_n (i := 2) C dX4_offerNearest_67 rfl rfl rfl ?_
          refine z_iconst C dX4_offerNearest_68 zi_1 rfl ?_
          refine z_isub C dX4_offerNearest_69 rfl ?_
          refine z_iaload C (tn_3 hC) (tc_3 hC) dX4_offerNearest_70 rfl hf (fun v11 hf => ?_)
          refine z_iastore C (tn_3 hC) (tc_3 hC) dX4_offerNearest_71 rfl hf (fun m12 hf => ?_)
          refine z_iinc (v := x8 + (-1)) (lo' := [some (.ref (zad g 1)), some (.int a1), some (.int (x8 + (-1)))]) C dX4_offerNearest_72 rfl (zinc zi_m1) (Nat.le_of_ble_eq_true rfl) rfl rfl rfl ?_
          refine z_goto (pc' := 42) C dX4_offerNearest_75 (by decide) ?_
          exact ih (x8 + (-1), m12) hf
  · skip
    refine z_ic_ge (tgt := 26) C dX4_offerNearest_10 (by decide) rfl hf (fun hf => ?_) (fun hf => ?_)
    · skip
      refine z_iload_n (i := 1) C dX4_offerNearest_26 rfl rfl rfl ?_
      refine z_aload_n (i := 0) C dX4_offerNearest_27 rfl rfl rfl ?_
      refine z_gr C (FX4_offerNearest_29 hC) (tn_1 hC) (tc_1 hC) rfl dX4_offerNearest_28 rfl ?_
      refine z_iconst C dX4_offerNearest_31 zi_2 rfl ?_
      refine z_iaload C (tn_3 hC) (tc_3 hC) dX4_offerNearest_32 rfl hf (fun v13 hf => ?_)
      refine z_ic_ge (tgt := 41) C dX4_offerNearest_33 (by decide) rfl hf (fun hf => ?_) (fun hf => ?_)
      · skip
        exact hr _ _ _ (Option.some.inj hf) dX4_offerNearest_41
      · skip
        refine z_iconst C dX4_offerNearest_36 zi_2 rfl ?_
        refine z_istore_n (i := 2) (lo' := [some (.ref (zad g 1)), some (.int a1), some (.int 2)]) C dX4_offerNearest_37 rfl (Nat.le_of_ble_eq_true rfl) rfl rfl rfl ?_
        refine z_goto (pc' := 42) C dX4_offerNearest_38 (by decide) ?_
        exact hK42 _ _ hf
    · skip
      refine z_aload_n (i := 0) C dX4_offerNearest_13 rfl rfl rfl ?_
      refine z_dup C dX4_offerNearest_14 rfl rfl ?_
      refine z_gi C (FX4_offerNearest_32 hC) (tn_1 hC) (tc_1 hC) rfl dX4_offerNearest_15 rfl hf (fun v14 hf => ?_)
      refine z_iconst C dX4_offerNearest_18 zi_1 rfl ?_
      refine z_iadd C dX4_offerNearest_19 rfl ?_
      refine z_pi C (PX4_offerNearest_32 hC) (tn_1 hC) (tc_1 hC) rfl dX4_offerNearest_20 rfl hf (fun m15 hf => ?_)
      refine z_goto (pc' := 42) C dX4_offerNearest_23 (by decide) ?_
      exact hK42 _ _ hf

def sX4_addKnown_69 (w2 : Int32) (K113 : zMem → Option (zMem)) : (Int32 × zMem → Option (zMem)) → Int32 × zMem → Option (zMem) := fun rec (x11, m12) =>
  if x11 ≤ w2 then
  K113 m12
  else
  kld m12 4 39 (x11 - 1) fun v13 =>
  kst m12 4 39 x11 v13 fun m14 =>
  kld m14 5 39 (x11 - 1) fun v15 =>
  kst m14 5 39 x11 v15 fun m16 =>
  rec (x11 + (-1), m16)
def sX4_addKnown_5 (a1 : Int32) (m : zMem) (K27 : Int32 → Option (zMem)) : (Int32 → Option (zMem)) → Int32 → Option (zMem) := fun rec x18 =>
  if x18 ≤ 0 then
  K27 x18
  else
  kld m 4 39 (x18 - 1) fun v19 =>
  if v19 ≤ a1 then
  K27 x18
  else
  rec (x18 + (-1))
def fX4_addKnown (N : Nat) (a1 : Int32) (m : zMem) : Option (zMem) :=
  kgi m 1 9 fun v1 =>
  kjn (fun (w2 : Int32) =>
  kjn (fun (w3 : Int32) =>
  if w3 = 0 then
  kgi m 1 9 fun v4 =>
  if v4 < 39 then
  kgi m 1 9 fun v5 =>
  kjn (fun (m6 : zMem) =>
  kst m6 4 39 w2 a1 fun m7 =>
  kst m7 5 39 w2 0 fun m8 =>
  kgi m8 1 9 fun v9 =>
  kpi m8 1 9 (v9 + 1) fun m10 =>
  some m10) fun K113 =>
  klp (sX4_addKnown_69 w2 K113) N (v5, m)
  else
  some m
  else
  some m) fun K48 =>
  if w2 ≤ 0 then
  K48 0
  else
  kld m 4 39 (w2 - 1) fun v17 =>
  if v17 = a1 then
  K48 1
  else
  K48 0) fun K27 =>
  klp (sX4_addKnown_5 a1 m K27) N v1
theorem FX4_addKnown_35 {g : zG} (hC : isC g) : zFl wsX4_addKnown RX4 (zcl g) 35 3 7 := ⟨RX4, TX4, 10, hC.2.2 ▸ rfl, by decide +kernel, by decide, by decide +kernel⟩
theorem FX4_addKnown_38 {g : zG} (hC : isC g) : zFl wsX4_addKnown RX4 (zcl g) 38 3 8 := ⟨RX4, TX4, 10, hC.2.2 ▸ rfl, by decide +kernel, by decide, by decide +kernel⟩
theorem FX4_addKnown_41 {g : zG} (hC : isC g) : zFl wsX4_addKnown RX4 (zcl g) 41 3 9 := ⟨RX4, TX4, 10, hC.2.2 ▸ rfl, by decide +kernel, by decide, by decide +kernel⟩
theorem PX4_addKnown_41 {g : zG} (hC : isC g) : zFp wsX4_addKnown RX4 (zcl g) 41 3 9 .int := ⟨RX4, TX4, 10, tyX4, hC.2.2 ▸ rfl, by decide +kernel, by decide, by decide +kernel, tyX4_ok, nmX4, rfl, by decide +kernel⟩
theorem hdX4_addKnown : yX4_addKnown.cls = RX4 ∧ yX4_addKnown.cls ≠ "java/lang/invoke/MethodHandle" ∧ yX4_addKnown.cls ≠ "java/lang/invoke/VarHandle" ∧ (parseMethodDescriptor yX4_addKnown.desc).map (fun d => d.parameters.length) = some 1 := by decide +kernel
set_option maxHeartbeats 4000000 in
set_option maxRecDepth 100000 in
theorem qX4_addKnown {l : Launch} {g : zG} (hC : isC g)  (N : Nat) (a1 : Int32) (m : zMem)  (o : zMem) (hf : fX4_addKnown N a1 m = some o) : zMV l g yX4_addKnown wsX4_addKnown { frames := 0, cells := 0, slots := 0, locals := 0 } [.ref (zad g 1), .int a1] m o := by
  refine z_met_v (cc := cX4_addKnown) (maxL := 5) (lo0 := [some (.ref (zad g 1)), some (.int a1), none, none, none]) (by decide +kernel) rfl rfl (Nat.le_of_ble_eq_true rfl) (fun x hx C hr => ?_)
  unfold fX4_addKnown at hf
  refine z_aload_n (i := 0) C dX4_addKnown_0 rfl rfl rfl ?_
  refine z_gi C (FX4_addKnown_41 hC) (tn_1 hC) (tc_1 hC) rfl dX4_addKnown_1 rfl hf (fun v1 hf => ?_)
  refine z_istore_n (i := 2) (lo' := [some (.ref (zad g 1)), some (.int a1), some (.int v1), none, none]) C dX4_addKnown_4 rfl (Nat.le_of_ble_eq_true rfl) rfl rfl rfl ?_
  refine kjn_V (fun K27 => ∀ (w2 : Int32), K27 w2 = some o → zV x g 5 0 0 27 [some (.ref (zad g 1)), some (.int a1), some (.int w2), none, none] [] m) hf (fun w2 hf => ?_) (fun K27 hK27 hf => ?_)
  · skip
    refine z_iload_n (i := 2) C dX4_addKnown_27 rfl rfl rfl ?_
    refine kjn_V (fun K48 => ∀ (w3 : Int32), K48 w3 = some o → zV x g 5 0 0 48 [some (.ref (zad g 1)), some (.int a1), some (.int w2), none, none] [.int w3] m) hf (fun w3 hf => ?_) (fun K48 hK48 hf => ?_)
    · skip
      refine z_istore_n (i := 3) (lo' := [some (.ref (zad g 1)), some (.int a1), some (.int w2), some (.int w3), none]) C dX4_addKnown_48 rfl (Nat.le_of_ble_eq_true rfl) rfl rfl rfl ?_
      refine z_iload_n (i := 3) C dX4_addKnown_49 rfl rfl rfl ?_
      refine z_if_ne (tgt := 62) C dX4_addKnown_50 (by decide) rfl hf (fun hf => ?_) (fun hf => ?_)
      · skip
        exact hr _ _ _ (Option.some.inj hf) dX4_addKnown_62
      · skip
        refine z_aload_n (i := 0) C dX4_addKnown_53 rfl rfl rfl ?_
        refine z_gi C (FX4_addKnown_41 hC) (tn_1 hC) (tc_1 hC) rfl dX4_addKnown_54 rfl hf (fun v4 hf => ?_)
        refine z_bipush C dX4_addKnown_57 zb_39 rfl ?_
        refine z_ic_lt (tgt := 63) C dX4_addKnown_59 (by decide) rfl hf (fun hf => ?_) (fun hf => ?_)
        · skip
          refine z_aload_n (i := 0) C dX4_addKnown_63 rfl rfl rfl ?_
          refine z_gi C (FX4_addKnown_41 hC) (tn_1 hC) (tc_1 hC) rfl dX4_addKnown_64 rfl hf (fun v5 hf => ?_)
          refine z_istore (lo' := [some (.ref (zad g 1)), some (.int a1), some (.int w2), some (.int w3), some (.int v5)]) C dX4_addKnown_67 (Nat.le_of_ble_eq_true rfl) rfl rfl rfl ?_
          refine z_drop (lo' := [some (.ref (zad g 1)), some (.int a1), some (.int w2), none, some (.int v5)]) 3 rfl ?_
          refine kjn_V (fun K113 => ∀ (m6 : zMem), K113 m6 = some o → zV x g 5 0 0 113 [some (.ref (zad g 1)), some (.int a1), some (.int w2), none, none] [] m6) hf (fun m6 hf => ?_) (fun K113 hK113 hf => ?_)
          · skip
            refine z_aload_n (i := 0) C dX4_addKnown_113 rfl rfl rfl ?_
            refine z_gr C (FX4_addKnown_35 hC) (tn_1 hC) (tc_1 hC) rfl dX4_addKnown_114 rfl ?_
            refine z_iload_n (i := 2) C dX4_addKnown_117 rfl rfl rfl ?_
            refine z_iload_n (i := 1) C dX4_addKnown_118 rfl rfl rfl ?_
            refine z_iastore C (tn_4 hC) (tc_4 hC) dX4_addKnown_119 rfl hf (fun m7 hf => ?_)
            refine z_aload_n (i := 0) C dX4_addKnown_120 rfl rfl rfl ?_
            refine z_gr C (FX4_addKnown_38 hC) (tn_1 hC) (tc_1 hC) rfl dX4_addKnown_121 rfl ?_
            refine z_iload_n (i := 2) C dX4_addKnown_124 rfl rfl rfl ?_
            refine z_iconst C dX4_addKnown_125 zi_0 rfl ?_
            refine z_iastore C (tn_5 hC) (tc_5 hC) dX4_addKnown_126 rfl hf (fun m8 hf => ?_)
            refine z_aload_n (i := 0) C dX4_addKnown_127 rfl rfl rfl ?_
            refine z_dup C dX4_addKnown_128 rfl rfl ?_
            refine z_gi C (FX4_addKnown_41 hC) (tn_1 hC) (tc_1 hC) rfl dX4_addKnown_129 rfl hf (fun v9 hf => ?_)
            refine z_iconst C dX4_addKnown_132 zi_1 rfl ?_
            refine z_iadd C dX4_addKnown_133 rfl ?_
            refine z_pi C (PX4_addKnown_41 hC) (tn_1 hC) (tc_1 hC) rfl dX4_addKnown_134 rfl hf (fun m10 hf => ?_)
            exact hr _ _ _ (Option.some.inj hf) dX4_addKnown_137
          · skip
            refine klp_V (fun z => zV x g 5 0 0 69 [some (.ref (zad g 1)), some (.int a1), some (.int w2), none, some (.int z.1)] [] z.2) hf (fun rec z ih hf => ?_)
            obtain ⟨x11, m12⟩ := z
            unfold sX4_addKnown_69 at hf
            try dsimp only at hf
            try dsimp only
            refine z_iload C dX4_addKnown_69 rfl rfl ?_
            refine z_iload_n (i := 2) C dX4_addKnown_71 rfl rfl rfl ?_
            refine z_ic_le (tgt := 113) C dX4_addKnown_72 (by decide) rfl hf (fun hf => ?_) (fun hf => ?_)
            · skip
              refine z_drop (lo' := [some (.ref (zad g 1)), some (.int a1), some (.int w2), none, none]) 4 rfl ?_
              exact hK113 _ hf
            · skip
              refine z_aload_n (i := 0) C dX4_addKnown_75 rfl rfl rfl ?_
              refine z_gr C (FX4_addKnown_35 hC) (tn_1 hC) (tc_1 hC) rfl dX4_addKnown_76 rfl ?_
              refine z_iload C dX4_addKnown_79 rfl rfl ?_
              refine z_aload_n (i := 0) C dX4_addKnown_81 rfl rfl rfl ?_
              refine z_gr C (FX4_addKnown_35 hC) (tn_1 hC) (tc_1 hC) rfl dX4_addKnown_82 rfl ?_
              refine z_iload C dX4_addKnown_85 rfl rfl ?_
              refine z_iconst C dX4_addKnown_87 zi_1 rfl ?_
              refine z_isub C dX4_addKnown_88 rfl ?_
              refine z_iaload C (tn_4 hC) (tc_4 hC) dX4_addKnown_89 rfl hf (fun v13 hf => ?_)
              refine z_iastore C (tn_4 hC) (tc_4 hC) dX4_addKnown_90 rfl hf (fun m14 hf => ?_)
              refine z_aload_n (i := 0) C dX4_addKnown_91 rfl rfl rfl ?_
              refine z_gr C (FX4_addKnown_38 hC) (tn_1 hC) (tc_1 hC) rfl dX4_addKnown_92 rfl ?_
              refine z_iload C dX4_addKnown_95 rfl rfl ?_
              refine z_aload_n (i := 0) C dX4_addKnown_97 rfl rfl rfl ?_
              refine z_gr C (FX4_addKnown_38 hC) (tn_1 hC) (tc_1 hC) rfl dX4_addKnown_98 rfl ?_
              refine z_iload C dX4_addKnown_101 rfl rfl ?_
              refine z_iconst C dX4_addKnown_103 zi_1 rfl ?_
              refine z_isub C dX4_addKnown_104 rfl ?_
              refine z_iaload C (tn_5 hC) (tc_5 hC) dX4_addKnown_105 rfl hf (fun v15 hf => ?_)
              refine z_iastore C (tn_5 hC) (tc_5 hC) dX4_addKnown_106 rfl hf (fun m16 hf => ?_)
              refine z_iinc (v := x11 + (-1)) (lo' := [some (.ref (zad g 1)), some (.int a1), some (.int w2), none, some (.int (x11 + (-1)))]) C dX4_addKnown_107 rfl (zinc zi_m1) (Nat.le_of_ble_eq_true rfl) rfl rfl rfl ?_
              refine z_goto (pc' := 69) C dX4_addKnown_110 (by decide) ?_
              exact ih (x11 + (-1), m16) hf
        · skip
          exact hr _ _ _ (Option.some.inj hf) dX4_addKnown_62
    · skip
      refine z_if_le (tgt := 47) C dX4_addKnown_28 (by decide) rfl hf (fun hf => ?_) (fun hf => ?_)
      · skip
        refine z_iconst C dX4_addKnown_47 zi_0 rfl ?_
        exact hK48 _ hf
      · skip
        refine z_aload_n (i := 0) C dX4_addKnown_31 rfl rfl rfl ?_
        refine z_gr C (FX4_addKnown_35 hC) (tn_1 hC) (tc_1 hC) rfl dX4_addKnown_32 rfl ?_
        refine z_iload_n (i := 2) C dX4_addKnown_35 rfl rfl rfl ?_
        refine z_iconst C dX4_addKnown_36 zi_1 rfl ?_
        refine z_isub C dX4_addKnown_37 rfl ?_
        refine z_iaload C (tn_4 hC) (tc_4 hC) dX4_addKnown_38 rfl hf (fun v17 hf => ?_)
        refine z_iload_n (i := 1) C dX4_addKnown_39 rfl rfl rfl ?_
        refine z_ic_ne (tgt := 47) C dX4_addKnown_40 (by decide) rfl hf (fun hf => ?_) (fun hf => ?_)
        · skip
          refine z_iconst C dX4_addKnown_47 zi_0 rfl ?_
          exact hK48 _ hf
        · skip
          refine z_iconst C dX4_addKnown_43 zi_1 rfl ?_
          refine z_goto (pc' := 48) C dX4_addKnown_44 (by decide) ?_
          exact hK48 _ hf
  · skip
    refine klp_V (fun z => zV x g 5 0 0 5 [some (.ref (zad g 1)), some (.int a1), some (.int z), none, none] [] m) hf (fun rec z ih hf => ?_)
    generalize z = x18 at hf ⊢
    unfold sX4_addKnown_5 at hf
    try dsimp only at hf
    try dsimp only
    refine z_iload_n (i := 2) C dX4_addKnown_5 rfl rfl rfl ?_
    refine z_if_le (tgt := 27) C dX4_addKnown_6 (by decide) rfl hf (fun hf => ?_) (fun hf => ?_)
    · skip
      exact hK27 _ hf
    · skip
      refine z_aload_n (i := 0) C dX4_addKnown_9 rfl rfl rfl ?_
      refine z_gr C (FX4_addKnown_35 hC) (tn_1 hC) (tc_1 hC) rfl dX4_addKnown_10 rfl ?_
      refine z_iload_n (i := 2) C dX4_addKnown_13 rfl rfl rfl ?_
      refine z_iconst C dX4_addKnown_14 zi_1 rfl ?_
      refine z_isub C dX4_addKnown_15 rfl ?_
      refine z_iaload C (tn_4 hC) (tc_4 hC) dX4_addKnown_16 rfl hf (fun v19 hf => ?_)
      refine z_iload_n (i := 1) C dX4_addKnown_17 rfl rfl rfl ?_
      refine z_ic_le (tgt := 27) C dX4_addKnown_18 (by decide) rfl hf (fun hf => ?_) (fun hf => ?_)
      · skip
        exact hK27 _ hf
      · skip
        refine z_iinc (v := x18 + (-1)) (lo' := [some (.ref (zad g 1)), some (.int a1), some (.int (x18 + (-1))), none, none]) C dX4_addKnown_21 rfl (zinc zi_m1) (Nat.le_of_ble_eq_true rfl) rfl rfl rfl ?_
        refine z_goto (pc' := 5) C dX4_addKnown_24 (by decide) ?_
        exact ih (x18 + (-1)) hf

def sX4_hear_101 (N : Nat) (a2 : Int32) (a3 : Int32) (K141 : zMem → Option (zMem)) : (Int32 × zMem → Option (zMem)) → Int32 × zMem → Option (zMem) := fun rec (x7, m8) =>
  kgi m8 1 6 fun v9 =>
  if v9 ≤ x7 then
  K141 m8
  else
  kld m8 3 3 x7 fun v10 =>
  if v10 = (a2 ^^^ a3) then
  rec (x7 + 1, m8)
  else
  kld m8 3 3 x7 fun v11 =>
  kc1 (fX4_addKnown N v11 m8) fun m12 =>
  rec (x7 + 1, m12)
def sX4_hear_55 (N : Nat) (s : Nat) (a3 : Int32) (x13 : Int32) (v15 : Int32) (K92 : zMem → Option (zMem)) : (Int32 × zMem → Option (zMem)) → Int32 × zMem → Option (zMem) := fun rec (x17, m18) =>
  kld m18 (s + 7) 192 x13 fun v19 =>
  if v19 ≤ x17 then
  K92 m18
  else
  kld m18 (s + 8) 768 (v15 + x17) fun v20 =>
  kc1 (fX4_offerNearest N (v20 ^^^ a3) m18) fun m21 =>
  rec (x17 + 1, m21)
def sX4_hear_36 (N : Nat) (s : Nat) (a3 : Int32) (v3 : Int32) (K98 : zMem → Option (zMem)) : (Int32 × zMem → Option (zMem)) → Int32 × zMem → Option (zMem) := fun rec (x13, m14) =>
  if (v3 + 8) ≤ x13 then
  K98 m14
  else
  klt (x13 * 4 : Int32) fun v15 =>
  kjn (fun (m16 : zMem) =>
  rec (x13 + 1, m16)) fun K92 =>
  klp (sX4_hear_55 N s a3 x13 v15 K92) N (0, m14)
def fX4_hear (N : Nat) (s : Nat) (a1 : Int32) (a2 : Int32) (a3 : Int32) (m : zMem) : Option (zMem) :=
  kc1 (fX2_isMember s a1 m) fun v1 =>
  if v1 = 0 then
  some m
  else
  kld m (s + 2) 256 a1 fun v2 =>
  kc1 (fX3_bucketPlace v2 0) fun v3 =>
  kpi m 1 6 0 fun m4 =>
  kjn (fun (m5 : zMem) =>
  kjn (fun (m6 : zMem) =>
  some m6) fun K141 =>
  klp (sX4_hear_101 N a2 a3 K141) N (0, m5)) fun K98 =>
  klp (sX4_hear_36 N s a3 v3 K98) N (v3, m4)
theorem FX4_hear_29 {g : zG} (hC : isC g) : zFl wsX4_hear RX4 (zcl g) 29 3 5 := ⟨RX4, TX4, 10, hC.2.2 ▸ rfl, by decide +kernel, by decide, by decide +kernel⟩
theorem FX4_hear_32 {g : zG} (hC : isC g) : zFl wsX4_hear RX4 (zcl g) 32 3 6 := ⟨RX4, TX4, 10, hC.2.2 ▸ rfl, by decide +kernel, by decide, by decide +kernel⟩
theorem PX4_hear_32 {g : zG} (hC : isC g) : zFp wsX4_hear RX4 (zcl g) 32 3 6 .int := ⟨RX4, TX4, 10, tyX4, hC.2.2 ▸ rfl, by decide +kernel, by decide, by decide +kernel, tyX4_ok, nmX4, rfl, by decide +kernel⟩
theorem FX4_hear_68 {g : zG} (hC : isC g) : zFl wsX4_hear RX4 (zcl g) 68 1 13 := ⟨RX2, TX2, 14, hC.2.2 ▸ rfl, by decide +kernel, by decide, by decide +kernel⟩
theorem FX4_hear_72 {g : zG} (hC : isC g) : zFl wsX4_hear RX4 (zcl g) 72 1 9 := ⟨RX2, TX2, 14, hC.2.2 ▸ rfl, by decide +kernel, by decide, by decide +kernel⟩
theorem FX4_hear_80 {g : zG} (hC : isC g) : zFl wsX4_hear RX4 (zcl g) 80 2 0 := ⟨RX3, TX3, 3, hC.2.2 ▸ rfl, by decide +kernel, by decide, by decide +kernel⟩
theorem FX4_hear_83 {g : zG} (hC : isC g) : zFl wsX4_hear RX4 (zcl g) 83 2 1 := ⟨RX3, TX3, 3, hC.2.2 ▸ rfl, by decide +kernel, by decide, by decide +kernel⟩
theorem hdX4_hear : yX4_hear.cls = RX4 ∧ yX4_hear.cls ≠ "java/lang/invoke/MethodHandle" ∧ yX4_hear.cls ≠ "java/lang/invoke/VarHandle" ∧ (parseMethodDescriptor yX4_hear.desc).map (fun d => d.parameters.length) = some 4 := by decide +kernel
set_option maxHeartbeats 4000000 in
set_option maxRecDepth 100000 in
theorem qX4_hear {l : Launch} {g : zG} (hC : isC g)  (N : Nat) (s : Nat) (a1 : Int32) (a2 : Int32) (a3 : Int32) (m : zMem) (hs : isS s) (o : zMem) (hf : fX4_hear N s a1 a2 a3 m = some o) : zMV l g yX4_hear wsX4_hear { frames := 1, cells := 0, slots := 0, locals := 24 } [.ref (zad g 1), .ref (zad g s), .int a1, .int a2, .int a3] m o := by
  refine z_met_v (cc := cX4_hear) (maxL := 10) (lo0 := [some (.ref (zad g 1)), some (.ref (zad g s)), some (.int a1), some (.int a2), some (.int a3), none, none, none, none, none]) (by decide +kernel) rfl rfl (Nat.le_of_ble_eq_true rfl) (fun x hx C hr => ?_)
  unfold fX4_hear at hf
  refine z_aload_n (i := 1) C dX4_hear_0 rfl rfl rfl ?_
  refine z_iload_n (i := 2) C dX4_hear_1 rfl rfl rfl ?_
  refine z_cviR (As := [.int a1]) (st := []) (m := m) C (cl_1 hC) (sn_0 hC hs) (sc_0 hC hs) gX4_hear_X2_isMember hdX2_isMember rfl (fun z h => qX2_isMember hC s a1 m hs z h) rfl (Nat.le_of_ble_eq_true rfl) ⟨Nat.le_of_ble_eq_true rfl, Nat.le_of_ble_eq_true rfl⟩ ⟨Nat.le_refl _, Nat.le_refl _⟩ dX4_hear_2 rfl rfl hf (fun v1 hf => ?_)
  refine z_if_ne (tgt := 9) C dX4_hear_5 (by decide) rfl hf (fun hf => ?_) (fun hf => ?_)
  · skip
    refine z_aload_n (i := 1) C dX4_hear_9 rfl rfl rfl ?_
    refine z_gr C (FX4_hear_68 hC) (sn_0 hC hs) (sc_0 hC hs) rfl dX4_hear_10 rfl ?_
    refine z_astore (lo' := [some (.ref (zad g 1)), some (.ref (zad g s)), some (.int a1), some (.int a2), some (.int a3), some (.ref (zad g (s + 6))), none, none, none, none]) C dX4_hear_13 (Nat.le_of_ble_eq_true rfl) rfl rfl rfl ?_
    refine z_aload_n (i := 1) C dX4_hear_15 rfl rfl rfl ?_
    refine z_gr C (FX4_hear_72 hC) (sn_0 hC hs) (sc_0 hC hs) rfl dX4_hear_16 rfl ?_
    refine z_iload_n (i := 2) C dX4_hear_19 rfl rfl rfl ?_
    refine z_iaload C (sn_2 hC hs) (sc_2 hC hs) dX4_hear_20 rfl hf (fun v2 hf => ?_)
    refine z_iconst C dX4_hear_21 zi_0 rfl ?_
    refine z_csiR (As := [.int v2, .int 0]) (st := []) (m := m) C gX4_hear_X3_bucketPlace hdX3_bucketPlace rfl (fun z h => qX3_bucketPlace v2 0 m z h) rfl (Nat.le_of_ble_eq_true rfl) ⟨Nat.le_of_ble_eq_true rfl, Nat.le_of_ble_eq_true rfl⟩ ⟨Nat.le_refl _, Nat.le_refl _⟩ dX4_hear_22 rfl rfl hf (fun v3 hf => ?_)
    refine z_istore (lo' := [some (.ref (zad g 1)), some (.ref (zad g s)), some (.int a1), some (.int a2), some (.int a3), some (.ref (zad g (s + 6))), some (.int v3), none, none, none]) C dX4_hear_25 (Nat.le_of_ble_eq_true rfl) rfl rfl rfl ?_
    refine z_aload_n (i := 0) C dX4_hear_27 rfl rfl rfl ?_
    refine z_iconst C dX4_hear_28 zi_0 rfl ?_
    refine z_pi C (PX4_hear_32 hC) (tn_1 hC) (tc_1 hC) rfl dX4_hear_29 rfl hf (fun m4 hf => ?_)
    refine z_iload C dX4_hear_32 rfl rfl ?_
    refine z_istore (lo' := [some (.ref (zad g 1)), some (.ref (zad g s)), some (.int a1), some (.int a2), some (.int a3), some (.ref (zad g (s + 6))), some (.int v3), some (.int v3), none, none]) C dX4_hear_34 (Nat.le_of_ble_eq_true rfl) rfl rfl rfl ?_
    refine z_drop (lo' := [some (.ref (zad g 1)), none, some (.int a1), some (.int a2), some (.int a3), some (.ref (zad g (s + 6))), some (.int v3), some (.int v3), none, none]) 1 rfl ?_
    refine z_drop (lo' := [some (.ref (zad g 1)), none, none, some (.int a2), some (.int a3), some (.ref (zad g (s + 6))), some (.int v3), some (.int v3), none, none]) 2 rfl ?_
    refine kjn_V (fun K98 => ∀ (m5 : zMem), K98 m5 = some o → zV x g 10 0 0 98 [some (.ref (zad g 1)), none, none, some (.int a2), some (.int a3), none, none, none, none, none] [] m5) hf (fun m5 hf => ?_) (fun K98 hK98 hf => ?_)
    · skip
      refine z_iconst C dX4_hear_98 zi_0 rfl ?_
      refine z_istore (lo' := [some (.ref (zad g 1)), none, none, some (.int a2), some (.int a3), none, none, some (.int 0), none, none]) C dX4_hear_99 (Nat.le_of_ble_eq_true rfl) rfl rfl rfl ?_
      refine kjn_V (fun K141 => ∀ (m6 : zMem), K141 m6 = some o → zV x g 10 0 0 141 [none, none, none, none, none, none, none, none, none, none] [] m6) hf (fun m6 hf => ?_) (fun K141 hK141 hf => ?_)
      · skip
        exact hr _ _ _ (Option.some.inj hf) dX4_hear_141
      · skip
        refine klp_V (fun z => zV x g 10 0 0 101 [some (.ref (zad g 1)), none, none, some (.int a2), some (.int a3), none, none, some (.int z.1), none, none] [] z.2) hf (fun rec z ih hf => ?_)
        obtain ⟨x7, m8⟩ := z
        unfold sX4_hear_101 at hf
        try dsimp only at hf
        try dsimp only
        refine z_iload C dX4_hear_101 rfl rfl ?_
        refine z_aload_n (i := 0) C dX4_hear_103 rfl rfl rfl ?_
        refine z_gi C (FX4_hear_32 hC) (tn_1 hC) (tc_1 hC) rfl dX4_hear_104 rfl hf (fun v9 hf => ?_)
        refine z_ic_ge (tgt := 141) C dX4_hear_107 (by decide) rfl hf (fun hf => ?_) (fun hf => ?_)
        · skip
          refine z_drop (lo' := [none, none, none, some (.int a2), some (.int a3), none, none, some (.int x7), none, none]) 0 rfl ?_
          refine z_drop (lo' := [none, none, none, none, some (.int a3), none, none, some (.int x7), none, none]) 3 rfl ?_
          refine z_drop (lo' := [none, none, none, none, none, none, none, some (.int x7), none, none]) 4 rfl ?_
          refine z_drop (lo' := [none, none, none, none, none, none, none, none, none, none]) 7 rfl ?_
          exact hK141 _ hf
        · skip
          refine z_aload_n (i := 0) C dX4_hear_110 rfl rfl rfl ?_
          refine z_gr C (FX4_hear_29 hC) (tn_1 hC) (tc_1 hC) rfl dX4_hear_111 rfl ?_
          refine z_iload C dX4_hear_114 rfl rfl ?_
          refine z_iaload C (tn_3 hC) (tc_3 hC) dX4_hear_116 rfl hf (fun v10 hf => ?_)
          refine z_iload_n (i := 3) C dX4_hear_117 rfl rfl rfl ?_
          refine z_iload C dX4_hear_118 rfl rfl ?_
          refine z_ixor C dX4_hear_120 rfl ?_
          refine z_ic_eq (tgt := 135) C dX4_hear_121 (by decide) rfl hf (fun hf => ?_) (fun hf => ?_)
          · skip
            refine z_iinc (v := x7 + 1) (lo' := [some (.ref (zad g 1)), none, none, some (.int a2), some (.int a3), none, none, some (.int (x7 + 1)), none, none]) C dX4_hear_135 rfl (zinc zi_1) (Nat.le_of_ble_eq_true rfl) rfl rfl rfl ?_
            refine z_goto (pc' := 101) C dX4_hear_138 (by decide) ?_
            exact ih (x7 + 1, m8) hf
          · skip
            refine z_aload_n (i := 0) C dX4_hear_124 rfl rfl rfl ?_
            refine z_aload_n (i := 0) C dX4_hear_125 rfl rfl rfl ?_
            refine z_gr C (FX4_hear_29 hC) (tn_1 hC) (tc_1 hC) rfl dX4_hear_126 rfl ?_
            refine z_iload C dX4_hear_129 rfl rfl ?_
            refine z_iaload C (tn_3 hC) (tc_3 hC) dX4_hear_131 rfl hf (fun v11 hf => ?_)
            refine z_cvvW (As := [.int v11]) (st := []) (m := m8) C (cl_3 hC) (tn_1 hC) (tc_1 hC) gX4_hear_X4_addKnown hdX4_addKnown rfl (fun z h => qX4_addKnown hC N v11 m8 z h) rfl (Nat.le_of_ble_eq_true rfl) ⟨Nat.le_of_ble_eq_true rfl, Nat.le_of_ble_eq_true rfl⟩ ⟨Nat.le_refl _, Nat.le_refl _⟩ dX4_hear_132 rfl rfl hf (fun m12 hf => ?_)
            refine z_iinc (v := x7 + 1) (lo' := [some (.ref (zad g 1)), none, none, some (.int a2), some (.int a3), none, none, some (.int (x7 + 1)), none, none]) C dX4_hear_135 rfl (zinc zi_1) (Nat.le_of_ble_eq_true rfl) rfl rfl rfl ?_
            refine z_goto (pc' := 101) C dX4_hear_138 (by decide) ?_
            exact ih (x7 + 1, m12) hf
    · skip
      refine klp_V (fun z => zV x g 10 0 0 36 [some (.ref (zad g 1)), none, none, some (.int a2), some (.int a3), some (.ref (zad g (s + 6))), some (.int v3), some (.int z.1), none, none] [] z.2) hf (fun rec z ih hf => ?_)
      obtain ⟨x13, m14⟩ := z
      unfold sX4_hear_36 at hf
      try dsimp only at hf
      try dsimp only
      refine z_iload C dX4_hear_36 rfl rfl ?_
      refine z_iload C dX4_hear_38 rfl rfl ?_
      refine z_bipush C dX4_hear_40 zb_8 rfl ?_
      refine z_iadd C dX4_hear_42 rfl ?_
      refine z_ic_ge (tgt := 98) C dX4_hear_43 (by decide) rfl hf (fun hf => ?_) (fun hf => ?_)
      · skip
        refine z_drop (lo' := [some (.ref (zad g 1)), none, none, some (.int a2), some (.int a3), none, some (.int v3), some (.int x13), none, none]) 5 rfl ?_
        refine z_drop (lo' := [some (.ref (zad g 1)), none, none, some (.int a2), some (.int a3), none, none, some (.int x13), none, none]) 6 rfl ?_
        refine z_drop (lo' := [some (.ref (zad g 1)), none, none, some (.int a2), some (.int a3), none, none, none, none, none]) 7 rfl ?_
        exact hK98 _ hf
      · skip
        refine z_iload C dX4_hear_46 rfl rfl ?_
        refine z_iconst C dX4_hear_48 zi_4 rfl ?_
        refine z_imul C dX4_hear_49 rfl ?_
        refine z_top _ hf (fun v15 hf => ?_)
        refine z_istore (lo' := [some (.ref (zad g 1)), none, none, some (.int a2), some (.int a3), some (.ref (zad g (s + 6))), some (.int v3), some (.int x13), some (.int v15), none]) C dX4_hear_50 (Nat.le_of_ble_eq_true rfl) rfl rfl rfl ?_
        refine z_iconst C dX4_hear_52 zi_0 rfl ?_
        refine z_istore (lo' := [some (.ref (zad g 1)), none, none, some (.int a2), some (.int a3), some (.ref (zad g (s + 6))), some (.int v3), some (.int x13), some (.int v15), some (.int 0)]) C dX4_hear_53 (Nat.le_of_ble_eq_true rfl) rfl rfl rfl ?_
        refine kjn_V (fun K92 => ∀ (m16 : zMem), K92 m16 = some o → zV x g 10 0 0 92 [some (.ref (zad g 1)), none, none, some (.int a2), some (.int a3), some (.ref (zad g (s + 6))), some (.int v3), some (.int x13), none, none] [] m16) hf (fun m16 hf => ?_) (fun K92 hK92 hf => ?_)
        · skip
          refine z_iinc (v := x13 + 1) (lo' := [some (.ref (zad g 1)), none, none, some (.int a2), some (.int a3), some (.ref (zad g (s + 6))), some (.int v3), some (.int (x13 + 1)), none, none]) C dX4_hear_92 rfl (zinc zi_1) (Nat.le_of_ble_eq_true rfl) rfl rfl rfl ?_
          refine z_goto (pc' := 36) C dX4_hear_95 (by decide) ?_
          exact ih (x13 + 1, m16) hf
        · skip
          refine klp_V (fun z => zV x g 10 0 0 55 [some (.ref (zad g 1)), none, none, some (.int a2), some (.int a3), some (.ref (zad g (s + 6))), some (.int v3), some (.int x13), some (.int v15), some (.int z.1)] [] z.2) hf (fun rec z ih hf => ?_)
          obtain ⟨x17, m18⟩ := z
          unfold sX4_hear_55 at hf
          try dsimp only at hf
          try dsimp only
          refine z_iload C dX4_hear_55 rfl rfl ?_
          refine z_aload C dX4_hear_57 rfl rfl ?_
          refine z_gr C (FX4_hear_80 hC) (sn_6 hC hs) (sc_6 hC hs) rfl dX4_hear_59 rfl ?_
          refine z_iload C dX4_hear_62 rfl rfl ?_
          refine z_iaload C (sn_7 hC hs) (sc_7 hC hs) dX4_hear_64 rfl hf (fun v19 hf => ?_)
          refine z_ic_ge (tgt := 92) C dX4_hear_65 (by decide) rfl hf (fun hf => ?_) (fun hf => ?_)
          · skip
            refine z_drop (lo' := [some (.ref (zad g 1)), none, none, some (.int a2), some (.int a3), some (.ref (zad g (s + 6))), some (.int v3), some (.int x13), none, some (.int x17)]) 8 rfl ?_
            refine z_drop (lo' := [some (.ref (zad g 1)), none, none, some (.int a2), some (.int a3), some (.ref (zad g (s + 6))), some (.int v3), some (.int x13), none, none]) 9 rfl ?_
            exact hK92 _ hf
          · skip
            refine z_aload_n (i := 0) C dX4_hear_68 rfl rfl rfl ?_
            refine z_aload C dX4_hear_69 rfl rfl ?_
            refine z_gr C (FX4_hear_83 hC) (sn_6 hC hs) (sc_6 hC hs) rfl dX4_hear_71 rfl ?_
            refine z_iload C dX4_hear_74 rfl rfl ?_
            refine z_iload C dX4_hear_76 rfl rfl ?_
            refine z_iadd C dX4_hear_78 rfl ?_
            refine z_iaload C (sn_8 hC hs) (sc_8 hC hs) dX4_hear_79 rfl hf (fun v20 hf => ?_)
            refine z_iload C dX4_hear_80 rfl rfl ?_
            refine z_ixor C dX4_hear_82 rfl ?_
            refine z_cvvW (As := [.int (v20 ^^^ a3)]) (st := []) (m := m18) C (cl_3 hC) (tn_1 hC) (tc_1 hC) gX4_hear_X4_offerNearest hdX4_offerNearest rfl (fun z h => qX4_offerNearest hC N (v20 ^^^ a3) m18 z h) rfl (Nat.le_of_ble_eq_true rfl) ⟨Nat.le_of_ble_eq_true rfl, Nat.le_of_ble_eq_true rfl⟩ ⟨Nat.le_refl _, Nat.le_refl _⟩ dX4_hear_83 rfl rfl hf (fun m21 hf => ?_)
            refine z_iinc (v := x17 + 1) (lo' := [some (.ref (zad g 1)), none, none, some (.int a2), some (.int a3), some (.ref (zad g (s + 6))), some (.int v3), some (.int x13), some (.int v15), some (.int (x17 + 1))]) C dX4_hear_86 rfl (zinc zi_1) (Nat.le_of_ble_eq_true rfl) rfl rfl rfl ?_
            refine z_goto (pc' := 55) C dX4_hear_89 (by decide) ?_
            exact ih (x17 + 1, m21) hf
  · skip
    exact hr _ _ _ (Option.some.inj hf) dX4_hear_8

def sX4_nextSpot_4 (m : zMem) (K47 : Option (Int32)) : (Int32 × Int32 → Option (Int32)) → Int32 × Int32 → Option (Int32) := fun rec (x1, x2) =>
  kgi m 1 9 fun v3 =>
  if v3 ≤ x2 then
  K47
  else
  if 3 ≤ x1 then
  K47
  else
  kld m 5 39 x2 fun v4 =>
  if v4 = 0 then
  some x2
  else
  kld m 5 39 x2 fun v5 =>
  if v5 = 1 then
  rec (x1 + 1, x2 + 1)
  else
  rec (x1, x2 + 1)
def fX4_nextSpot (N : Nat) (m : zMem) : Option (Int32) :=
  kjn (some (-1)) fun K47 =>
  klp (sX4_nextSpot_4 m K47) N (0, 0)
theorem FX4_nextSpot_38 {g : zG} (hC : isC g) : zFl wsX4_nextSpot RX4 (zcl g) 38 3 8 := ⟨RX4, TX4, 10, hC.2.2 ▸ rfl, by decide +kernel, by decide, by decide +kernel⟩
theorem FX4_nextSpot_41 {g : zG} (hC : isC g) : zFl wsX4_nextSpot RX4 (zcl g) 41 3 9 := ⟨RX4, TX4, 10, hC.2.2 ▸ rfl, by decide +kernel, by decide, by decide +kernel⟩
theorem hdX4_nextSpot : yX4_nextSpot.cls = RX4 ∧ yX4_nextSpot.cls ≠ "java/lang/invoke/MethodHandle" ∧ yX4_nextSpot.cls ≠ "java/lang/invoke/VarHandle" ∧ (parseMethodDescriptor yX4_nextSpot.desc).map (fun d => d.parameters.length) = some 0 := by decide +kernel
set_option maxHeartbeats 4000000 in
set_option maxRecDepth 100000 in
theorem qX4_nextSpot {l : Launch} {g : zG} (hC : isC g)  (N : Nat) (m : zMem)  (o : Int32) (hf : fX4_nextSpot N m = some o) : zMI l g yX4_nextSpot wsX4_nextSpot { frames := 0, cells := 0, slots := 0, locals := 0 } [.ref (zad g 1)] m (o, m) := by
  refine z_met_i (cc := cX4_nextSpot) (maxL := 3) (lo0 := [some (.ref (zad g 1)), none, none]) (by decide +kernel) rfl rfl (Nat.le_of_ble_eq_true rfl) (fun x hx C hr => ?_)
  unfold fX4_nextSpot at hf
  refine z_iconst C dX4_nextSpot_0 zi_0 rfl ?_
  refine z_istore_n (i := 1) (lo' := [some (.ref (zad g 1)), some (.int 0), none]) C dX4_nextSpot_1 rfl (Nat.le_of_ble_eq_true rfl) rfl rfl rfl ?_
  refine z_iconst C dX4_nextSpot_2 zi_0 rfl ?_
  refine z_istore_n (i := 2) (lo' := [some (.ref (zad g 1)), some (.int 0), some (.int 0)]) C dX4_nextSpot_3 rfl (Nat.le_of_ble_eq_true rfl) rfl rfl rfl ?_
  refine kjn_V (fun K47 => K47 = some o → zV x g 3 0 0 47 [none, none, none] [] m) hf (fun  hf => ?_) (fun K47 hK47 hf => ?_)
  · skip
    refine z_iconst C dX4_nextSpot_47 zi_m1 rfl ?_
    exact hr _ _ _ _ (congrArg (fun z => (z, m)) (Option.some.inj hf)) dX4_nextSpot_48
  · skip
    refine klp_V (fun z => zV x g 3 0 0 4 [some (.ref (zad g 1)), some (.int z.1), some (.int z.2)] [] m) hf (fun rec z ih hf => ?_)
    obtain ⟨x1, x2⟩ := z
    unfold sX4_nextSpot_4 at hf
    try dsimp only at hf
    try dsimp only
    refine z_iload_n (i := 2) C dX4_nextSpot_4 rfl rfl rfl ?_
    refine z_aload_n (i := 0) C dX4_nextSpot_5 rfl rfl rfl ?_
    refine z_gi C (FX4_nextSpot_41 hC) (tn_1 hC) (tc_1 hC) rfl dX4_nextSpot_6 rfl hf (fun v3 hf => ?_)
    refine z_ic_ge (tgt := 47) C dX4_nextSpot_9 (by decide) rfl hf (fun hf => ?_) (fun hf => ?_)
    · skip
      refine z_drop (lo' := [none, some (.int x1), some (.int x2)]) 0 rfl ?_
      refine z_drop (lo' := [none, none, some (.int x2)]) 1 rfl ?_
      refine z_drop (lo' := [none, none, none]) 2 rfl ?_
      exact hK47 hf
    · skip
      refine z_iload_n (i := 1) C dX4_nextSpot_12 rfl rfl rfl ?_
      refine z_iconst C dX4_nextSpot_13 zi_3 rfl ?_
      refine z_ic_ge (tgt := 47) C dX4_nextSpot_14 (by decide) rfl hf (fun hf => ?_) (fun hf => ?_)
      · skip
        refine z_drop (lo' := [none, some (.int x1), some (.int x2)]) 0 rfl ?_
        refine z_drop (lo' := [none, none, some (.int x2)]) 1 rfl ?_
        refine z_drop (lo' := [none, none, none]) 2 rfl ?_
        exact hK47 hf
      · skip
        refine z_aload_n (i := 0) C dX4_nextSpot_17 rfl rfl rfl ?_
        refine z_gr C (FX4_nextSpot_38 hC) (tn_1 hC) (tc_1 hC) rfl dX4_nextSpot_18 rfl ?_
        refine z_iload_n (i := 2) C dX4_nextSpot_21 rfl rfl rfl ?_
        refine z_iaload C (tn_5 hC) (tc_5 hC) dX4_nextSpot_22 rfl hf (fun v4 hf => ?_)
        refine z_if_ne (tgt := 28) C dX4_nextSpot_23 (by decide) rfl hf (fun hf => ?_) (fun hf => ?_)
        · skip
          refine z_aload_n (i := 0) C dX4_nextSpot_28 rfl rfl rfl ?_
          refine z_gr C (FX4_nextSpot_38 hC) (tn_1 hC) (tc_1 hC) rfl dX4_nextSpot_29 rfl ?_
          refine z_iload_n (i := 2) C dX4_nextSpot_32 rfl rfl rfl ?_
          refine z_iaload C (tn_5 hC) (tc_5 hC) dX4_nextSpot_33 rfl hf (fun v5 hf => ?_)
          refine z_iconst C dX4_nextSpot_34 zi_1 rfl ?_
          refine z_ic_ne (tgt := 41) C dX4_nextSpot_35 (by decide) rfl hf (fun hf => ?_) (fun hf => ?_)
          · skip
            refine z_iinc (v := x2 + 1) (lo' := [some (.ref (zad g 1)), some (.int x1), some (.int (x2 + 1))]) C dX4_nextSpot_41 rfl (zinc zi_1) (Nat.le_of_ble_eq_true rfl) rfl rfl rfl ?_
            refine z_goto (pc' := 4) C dX4_nextSpot_44 (by decide) ?_
            exact ih (x1, x2 + 1) hf
          · skip
            refine z_iinc (v := x1 + 1) (lo' := [some (.ref (zad g 1)), some (.int (x1 + 1)), some (.int x2)]) C dX4_nextSpot_38 rfl (zinc zi_1) (Nat.le_of_ble_eq_true rfl) rfl rfl rfl ?_
            refine z_iinc (v := x2 + 1) (lo' := [some (.ref (zad g 1)), some (.int (x1 + 1)), some (.int (x2 + 1))]) C dX4_nextSpot_41 rfl (zinc zi_1) (Nat.le_of_ble_eq_true rfl) rfl rfl rfl ?_
            refine z_goto (pc' := 4) C dX4_nextSpot_44 (by decide) ?_
            exact ih (x1 + 1, x2 + 1) hf
        · skip
          refine z_iload_n (i := 2) C dX4_nextSpot_26 rfl rfl rfl ?_
          exact hr _ _ _ _ (congrArg (fun z => (z, m)) (Option.some.inj hf)) dX4_nextSpot_27

def sX2_hasMemberNearer_2 (s : Nat) (a1 : Int32) (a2 : Int32) (m : zMem) (K38 : Option (Int32)) : (Int32 → Option (Int32)) → Int32 → Option (Int32) := fun rec x1 =>
  if 24 ≤ x1 then
  K38
  else
  kld m (s + 3) 24 x1 fun v2 =>
  if v2 = (-1) then
  rec (x1 + 1)
  else
  kld m (s + 3) 24 x1 fun v3 =>
  if a2 ≤ (v3 ^^^ a1) then
  rec (x1 + 1)
  else
  some 1
def fX2_hasMemberNearer (N : Nat) (s : Nat) (a1 : Int32) (a2 : Int32) (m : zMem) : Option (Int32) :=
  kjn (some 0) fun K38 =>
  klp (sX2_hasMemberNearer_2 s a1 a2 m K38) N 0
theorem FX2_hasMemberNearer_43 {g : zG} (hC : isC g) : zFl wsX2_hasMemberNearer RX2 (zcl g) 43 1 10 := ⟨RX2, TX2, 14, hC.2.2 ▸ rfl, by decide +kernel, by decide, by decide +kernel⟩
theorem hdX2_hasMemberNearer : yX2_hasMemberNearer.cls = RX2 ∧ yX2_hasMemberNearer.cls ≠ "java/lang/invoke/MethodHandle" ∧ yX2_hasMemberNearer.cls ≠ "java/lang/invoke/VarHandle" ∧ (parseMethodDescriptor yX2_hasMemberNearer.desc).map (fun d => d.parameters.length) = some 2 := by decide +kernel
set_option maxHeartbeats 4000000 in
set_option maxRecDepth 100000 in
theorem qX2_hasMemberNearer {l : Launch} {g : zG} (hC : isC g)  (N : Nat) (s : Nat) (a1 : Int32) (a2 : Int32) (m : zMem) (hs : isS s) (o : Int32) (hf : fX2_hasMemberNearer N s a1 a2 m = some o) : zMI l g yX2_hasMemberNearer wsX2_hasMemberNearer { frames := 0, cells := 0, slots := 0, locals := 0 } [.ref (zad g s), .int a1, .int a2] m (o, m) := by
  refine z_met_z (cc := cX2_hasMemberNearer) (maxL := 4) (lo0 := [some (.ref (zad g s)), some (.int a1), some (.int a2), none]) (by decide +kernel) rfl rfl (Nat.le_of_ble_eq_true rfl) (fun x hx C hr => ?_)
  unfold fX2_hasMemberNearer at hf
  refine z_iconst C dX2_hasMemberNearer_0 zi_0 rfl ?_
  refine z_istore_n (i := 3) (lo' := [some (.ref (zad g s)), some (.int a1), some (.int a2), some (.int 0)]) C dX2_hasMemberNearer_1 rfl (Nat.le_of_ble_eq_true rfl) rfl rfl rfl ?_
  refine kjn_V (fun K38 => K38 = some o → zV x g 4 0 0 38 [none, none, none, none] [] m) hf (fun  hf => ?_) (fun K38 hK38 hf => ?_)
  · skip
    refine z_iconst C dX2_hasMemberNearer_38 zi_0 rfl ?_
    exact hr _ _ _ _ (Or.inl rfl) (congrArg (fun z => (z, m)) (Option.some.inj hf)) dX2_hasMemberNearer_39
  · skip
    refine klp_V (fun z => zV x g 4 0 0 2 [some (.ref (zad g s)), some (.int a1), some (.int a2), some (.int z)] [] m) hf (fun rec z ih hf => ?_)
    generalize z = x1 at hf ⊢
    unfold sX2_hasMemberNearer_2 at hf
    try dsimp only at hf
    try dsimp only
    refine z_iload_n (i := 3) C dX2_hasMemberNearer_2 rfl rfl rfl ?_
    refine z_bipush C dX2_hasMemberNearer_3 zb_24 rfl ?_
    refine z_ic_ge (tgt := 38) C dX2_hasMemberNearer_5 (by decide) rfl hf (fun hf => ?_) (fun hf => ?_)
    · skip
      refine z_drop (lo' := [none, some (.int a1), some (.int a2), some (.int x1)]) 0 rfl ?_
      refine z_drop (lo' := [none, none, some (.int a2), some (.int x1)]) 1 rfl ?_
      refine z_drop (lo' := [none, none, none, some (.int x1)]) 2 rfl ?_
      refine z_drop (lo' := [none, none, none, none]) 3 rfl ?_
      exact hK38 hf
    · skip
      refine z_aload_n (i := 0) C dX2_hasMemberNearer_8 rfl rfl rfl ?_
      refine z_gr C (FX2_hasMemberNearer_43 hC) (sn_0 hC hs) (sc_0 hC hs) rfl dX2_hasMemberNearer_9 rfl ?_
      refine z_iload_n (i := 3) C dX2_hasMemberNearer_12 rfl rfl rfl ?_
      refine z_iaload C (sn_3 hC hs) (sc_3 hC hs) dX2_hasMemberNearer_13 rfl hf (fun v2 hf => ?_)
      refine z_iconst C dX2_hasMemberNearer_14 zi_m1 rfl ?_
      refine z_ic_eq (tgt := 32) C dX2_hasMemberNearer_15 (by decide) rfl hf (fun hf => ?_) (fun hf => ?_)
      · skip
        refine z_iinc (v := x1 + 1) (lo' := [some (.ref (zad g s)), some (.int a1), some (.int a2), some (.int (x1 + 1))]) C dX2_hasMemberNearer_32 rfl (zinc zi_1) (Nat.le_of_ble_eq_true rfl) rfl rfl rfl ?_
        refine z_goto (pc' := 2) C dX2_hasMemberNearer_35 (by decide) ?_
        exact ih (x1 + 1) hf
      · skip
        refine z_aload_n (i := 0) C dX2_hasMemberNearer_18 rfl rfl rfl ?_
        refine z_gr C (FX2_hasMemberNearer_43 hC) (sn_0 hC hs) (sc_0 hC hs) rfl dX2_hasMemberNearer_19 rfl ?_
        refine z_iload_n (i := 3) C dX2_hasMemberNearer_22 rfl rfl rfl ?_
        refine z_iaload C (sn_3 hC hs) (sc_3 hC hs) dX2_hasMemberNearer_23 rfl hf (fun v3 hf => ?_)
        refine z_iload_n (i := 1) C dX2_hasMemberNearer_24 rfl rfl rfl ?_
        refine z_ixor C dX2_hasMemberNearer_25 rfl ?_
        refine z_iload_n (i := 2) C dX2_hasMemberNearer_26 rfl rfl rfl ?_
        refine z_ic_ge (tgt := 32) C dX2_hasMemberNearer_27 (by decide) rfl hf (fun hf => ?_) (fun hf => ?_)
        · skip
          refine z_iinc (v := x1 + 1) (lo' := [some (.ref (zad g s)), some (.int a1), some (.int a2), some (.int (x1 + 1))]) C dX2_hasMemberNearer_32 rfl (zinc zi_1) (Nat.le_of_ble_eq_true rfl) rfl rfl rfl ?_
          refine z_goto (pc' := 2) C dX2_hasMemberNearer_35 (by decide) ?_
          exact ih (x1 + 1) hf
        · skip
          refine z_iconst C dX2_hasMemberNearer_30 zi_1 rfl ?_
          exact hr _ _ _ _ (Or.inr rfl) (congrArg (fun z => (z, m)) (Option.some.inj hf)) dX2_hasMemberNearer_31

def sX4_trace_31 (N : Nat) (s : Nat) (a1 : Int32) (a2 : Int32) (K149 : Int32 → zMem → Option (zMem)) : (Int32 × Int32 × zMem → Option (zMem)) → Int32 × Int32 × zMem → Option (zMem) := fun rec (x12, x13, m14) =>
  if 12 ≤ x13 then
  K149 x12 m14
  else
  kc1 (fX4_nextSpot N m14) fun v15 =>
  if v15 = (-1) then
  K149 x12 m14
  else
  kld m14 4 39 v15 fun v16 =>
  klt (v16 ^^^ a2 : Int32) fun v17 =>
  kst m14 2 12 x13 v17 fun m18 =>
  kgi m18 1 1 fun v19 =>
  kpi m18 1 1 (v19 + 1) fun m20 =>
  kc1 (fX2_isMember s v17 m20) fun v21 =>
  if v21 = 0 then
  kst m20 5 39 v15 2 fun m22 =>
  kgi m22 1 2 fun v23 =>
  kpi m22 1 2 (v23 + 1) fun m24 =>
  rec (x12, x13 + 1, m24)
  else
  kst m20 5 39 v15 1 fun m25 =>
  kmin x12 v16 fun v26 =>
  kc1 (fX4_hear N s v17 a1 a2 m25) fun m27 =>
  rec (v26, x13 + 1, m27)
def fX4_trace (N : Nat) (s : Nat) (a1 : Int32) (a2 : Int32) (m : zMem) : Option (zMem) :=
  kpi m 1 1 0 fun m1 =>
  kpi m1 1 2 0 fun m2 =>
  kpi m2 1 9 0 fun m3 =>
  klt (a1 ^^^ a2 : Int32) fun v4 =>
  kc1 (fX4_hear N s a1 a1 a2 m3) fun m5 =>
  kjn (fun (w6 : Int32) (m7 : zMem) =>
  kpi m7 1 3 (w6 ^^^ a2) fun m8 =>
  kc1 (fX2_hasMemberNearer N s a2 w6 m8) fun v9 =>
  kjn (fun (w10 : Int32) =>
  kpz m8 1 4 w10 fun m11 =>
  some m11) fun K173 =>
  if v9 = 0 then
  K173 1
  else
  K173 0) fun K149 =>
  klp (sX4_trace_31 N s a1 a2 K149) N (v4, 0, m5)
theorem FX4_trace_11 {g : zG} (hC : isC g) : zFl wsX4_trace RX4 (zcl g) 11 3 0 := ⟨RX4, TX4, 10, hC.2.2 ▸ rfl, by decide +kernel, by decide, by decide +kernel⟩
theorem FX4_trace_15 {g : zG} (hC : isC g) : zFl wsX4_trace RX4 (zcl g) 15 3 1 := ⟨RX4, TX4, 10, hC.2.2 ▸ rfl, by decide +kernel, by decide, by decide +kernel⟩
theorem PX4_trace_15 {g : zG} (hC : isC g) : zFp wsX4_trace RX4 (zcl g) 15 3 1 .int := ⟨RX4, TX4, 10, tyX4, hC.2.2 ▸ rfl, by decide +kernel, by decide, by decide +kernel, tyX4_ok, nmX4, rfl, by decide +kernel⟩
theorem FX4_trace_19 {g : zG} (hC : isC g) : zFl wsX4_trace RX4 (zcl g) 19 3 2 := ⟨RX4, TX4, 10, hC.2.2 ▸ rfl, by decide +kernel, by decide, by decide +kernel⟩
theorem PX4_trace_19 {g : zG} (hC : isC g) : zFp wsX4_trace RX4 (zcl g) 19 3 2 .int := ⟨RX4, TX4, 10, tyX4, hC.2.2 ▸ rfl, by decide +kernel, by decide, by decide +kernel, tyX4_ok, nmX4, rfl, by decide +kernel⟩
theorem PX4_trace_22 {g : zG} (hC : isC g) : zFp wsX4_trace RX4 (zcl g) 22 3 3 .int := ⟨RX4, TX4, 10, tyX4, hC.2.2 ▸ rfl, by decide +kernel, by decide, by decide +kernel, tyX4_ok, nmX4, rfl, by decide +kernel⟩
theorem PX4_trace_25 {g : zG} (hC : isC g) : zFp wsX4_trace RX4 (zcl g) 25 3 4 .boolean := ⟨RX4, TX4, 10, tyX4, hC.2.2 ▸ rfl, by decide +kernel, by decide, by decide +kernel, tyX4_ok, nmX4, rfl, by decide +kernel⟩
theorem FX4_trace_35 {g : zG} (hC : isC g) : zFl wsX4_trace RX4 (zcl g) 35 3 7 := ⟨RX4, TX4, 10, hC.2.2 ▸ rfl, by decide +kernel, by decide, by decide +kernel⟩
theorem FX4_trace_38 {g : zG} (hC : isC g) : zFl wsX4_trace RX4 (zcl g) 38 3 8 := ⟨RX4, TX4, 10, hC.2.2 ▸ rfl, by decide +kernel, by decide, by decide +kernel⟩
theorem PX4_trace_41 {g : zG} (hC : isC g) : zFp wsX4_trace RX4 (zcl g) 41 3 9 .int := ⟨RX4, TX4, 10, tyX4, hC.2.2 ▸ rfl, by decide +kernel, by decide, by decide +kernel, tyX4_ok, nmX4, rfl, by decide +kernel⟩
theorem hdX4_trace : yX4_trace.cls = RX4 ∧ yX4_trace.cls ≠ "java/lang/invoke/MethodHandle" ∧ yX4_trace.cls ≠ "java/lang/invoke/VarHandle" ∧ (parseMethodDescriptor yX4_trace.desc).map (fun d => d.parameters.length) = some 3 := by decide +kernel
set_option maxHeartbeats 4000000 in
set_option maxRecDepth 100000 in
theorem qX4_trace {l : Launch} {g : zG} (hC : isC g)  (N : Nat) (s : Nat) (a1 : Int32) (a2 : Int32) (m : zMem) (hs : isS s) (o : zMem) (hf : fX4_trace N s a1 a2 m = some o) : zMV l g yX4_trace wsX4_trace { frames := 2, cells := 0, slots := 0, locals := 53 } [.ref (zad g 1), .ref (zad g s), .int a1, .int a2] m o := by
  refine z_met_v (cc := cX4_trace) (maxL := 9) (lo0 := [some (.ref (zad g 1)), some (.ref (zad g s)), some (.int a1), some (.int a2), none, none, none, none, none]) (by decide +kernel) rfl rfl (Nat.le_of_ble_eq_true rfl) (fun x hx C hr => ?_)
  unfold fX4_trace at hf
  refine z_aload_n (i := 0) C dX4_trace_0 rfl rfl rfl ?_
  refine z_iconst C dX4_trace_1 zi_0 rfl ?_
  refine z_pi C (PX4_trace_15 hC) (tn_1 hC) (tc_1 hC) rfl dX4_trace_2 rfl hf (fun m1 hf => ?_)
  refine z_aload_n (i := 0) C dX4_trace_5 rfl rfl rfl ?_
  refine z_iconst C dX4_trace_6 zi_0 rfl ?_
  refine z_pi C (PX4_trace_19 hC) (tn_1 hC) (tc_1 hC) rfl dX4_trace_7 rfl hf (fun m2 hf => ?_)
  refine z_aload_n (i := 0) C dX4_trace_10 rfl rfl rfl ?_
  refine z_iconst C dX4_trace_11 zi_0 rfl ?_
  refine z_pi C (PX4_trace_41 hC) (tn_1 hC) (tc_1 hC) rfl dX4_trace_12 rfl hf (fun m3 hf => ?_)
  refine z_iload_n (i := 2) C dX4_trace_15 rfl rfl rfl ?_
  refine z_iload_n (i := 3) C dX4_trace_16 rfl rfl rfl ?_
  refine z_ixor C dX4_trace_17 rfl ?_
  refine z_top _ hf (fun v4 hf => ?_)
  refine z_istore (lo' := [some (.ref (zad g 1)), some (.ref (zad g s)), some (.int a1), some (.int a2), some (.int v4), none, none, none, none]) C dX4_trace_18 (Nat.le_of_ble_eq_true rfl) rfl rfl rfl ?_
  refine z_aload_n (i := 0) C dX4_trace_20 rfl rfl rfl ?_
  refine z_aload_n (i := 1) C dX4_trace_21 rfl rfl rfl ?_
  refine z_iload_n (i := 2) C dX4_trace_22 rfl rfl rfl ?_
  refine z_iload_n (i := 2) C dX4_trace_23 rfl rfl rfl ?_
  refine z_iload_n (i := 3) C dX4_trace_24 rfl rfl rfl ?_
  refine z_cvvW (As := [.ref (zad g s), .int a1, .int a1, .int a2]) (st := []) (m := m3) C (cl_3 hC) (tn_1 hC) (tc_1 hC) gX4_trace_X4_hear hdX4_hear rfl (fun z h => qX4_hear hC N s a1 a1 a2 m3 hs z h) rfl (Nat.le_of_ble_eq_true rfl) ⟨Nat.le_of_ble_eq_true rfl, Nat.le_of_ble_eq_true rfl⟩ ⟨Nat.le_refl _, Nat.le_refl _⟩ dX4_trace_25 rfl rfl hf (fun m5 hf => ?_)
  refine z_iconst C dX4_trace_28 zi_0 rfl ?_
  refine z_istore (lo' := [some (.ref (zad g 1)), some (.ref (zad g s)), some (.int a1), some (.int a2), some (.int v4), some (.int 0), none, none, none]) C dX4_trace_29 (Nat.le_of_ble_eq_true rfl) rfl rfl rfl ?_
  refine kjn_V (fun K149 => ∀ (w6 : Int32) (m7 : zMem), K149 w6 m7 = some o → zV x g 9 0 0 149 [some (.ref (zad g 1)), some (.ref (zad g s)), none, some (.int a2), some (.int w6), none, none, none, none] [] m7) hf (fun w6 m7 hf => ?_) (fun K149 hK149 hf => ?_)
  · skip
    refine z_aload_n (i := 0) C dX4_trace_149 rfl rfl rfl ?_
    refine z_iload C dX4_trace_150 rfl rfl ?_
    refine z_iload_n (i := 3) C dX4_trace_152 rfl rfl rfl ?_
    refine z_ixor C dX4_trace_153 rfl ?_
    refine z_pi C (PX4_trace_22 hC) (tn_1 hC) (tc_1 hC) rfl dX4_trace_154 rfl hf (fun m8 hf => ?_)
    refine z_aload_n (i := 0) C dX4_trace_157 rfl rfl rfl ?_
    refine z_aload_n (i := 1) C dX4_trace_158 rfl rfl rfl ?_
    refine z_iload_n (i := 3) C dX4_trace_159 rfl rfl rfl ?_
    refine z_iload C dX4_trace_160 rfl rfl ?_
    refine z_cviR (As := [.int a2, .int w6]) (st := [.ref (zad g 1)]) (m := m8) C (cl_1 hC) (sn_0 hC hs) (sc_0 hC hs) gX4_trace_X2_hasMemberNearer hdX2_hasMemberNearer rfl (fun z h => qX2_hasMemberNearer hC N s a2 w6 m8 hs z h) rfl (Nat.le_of_ble_eq_true rfl) ⟨Nat.le_of_ble_eq_true rfl, Nat.le_of_ble_eq_true rfl⟩ ⟨Nat.le_refl _, Nat.le_refl _⟩ dX4_trace_162 rfl rfl hf (fun v9 hf => ?_)
    refine kjn_V (fun K173 => ∀ (w10 : Int32), K173 w10 = some o → zV x g 9 0 0 173 [none, none, none, none, none, none, none, none, none] [.int w10, .ref (zad g 1)] m8) hf (fun w10 hf => ?_) (fun K173 hK173 hf => ?_)
    · skip
      refine z_pz C (PX4_trace_25 hC) (tn_1 hC) (tc_1 hC) rfl dX4_trace_173 rfl hf (fun m11 hf => ?_)
      exact hr _ _ _ (Option.some.inj hf) dX4_trace_176
    · skip
      refine z_if_ne (tgt := 172) C dX4_trace_165 (by decide) rfl hf (fun hf => ?_) (fun hf => ?_)
      · skip
        refine z_iconst C dX4_trace_172 zi_0 rfl ?_
        refine z_drop (lo' := [none, some (.ref (zad g s)), none, some (.int a2), some (.int w6), none, none, none, none]) 0 rfl ?_
        refine z_drop (lo' := [none, none, none, some (.int a2), some (.int w6), none, none, none, none]) 1 rfl ?_
        refine z_drop (lo' := [none, none, none, none, some (.int w6), none, none, none, none]) 3 rfl ?_
        refine z_drop (lo' := [none, none, none, none, none, none, none, none, none]) 4 rfl ?_
        exact hK173 _ hf
      · skip
        refine z_iconst C dX4_trace_168 zi_1 rfl ?_
        refine z_goto (pc' := 173) C dX4_trace_169 (by decide) ?_
        refine z_drop (lo' := [none, some (.ref (zad g s)), none, some (.int a2), some (.int w6), none, none, none, none]) 0 rfl ?_
        refine z_drop (lo' := [none, none, none, some (.int a2), some (.int w6), none, none, none, none]) 1 rfl ?_
        refine z_drop (lo' := [none, none, none, none, some (.int w6), none, none, none, none]) 3 rfl ?_
        refine z_drop (lo' := [none, none, none, none, none, none, none, none, none]) 4 rfl ?_
        exact hK173 _ hf
  · skip
    refine klp_V (fun z => zV x g 9 0 0 31 [some (.ref (zad g 1)), some (.ref (zad g s)), some (.int a1), some (.int a2), some (.int z.1), some (.int z.2.1), none, none, none] [] z.2.2) hf (fun rec z ih hf => ?_)
    obtain ⟨x12, x13, m14⟩ := z
    unfold sX4_trace_31 at hf
    try dsimp only at hf
    try dsimp only
    refine z_iload C dX4_trace_31 rfl rfl ?_
    refine z_bipush C dX4_trace_33 zb_12 rfl ?_
    refine z_ic_ge (tgt := 149) C dX4_trace_35 (by decide) rfl hf (fun hf => ?_) (fun hf => ?_)
    · skip
      refine z_drop (lo' := [some (.ref (zad g 1)), some (.ref (zad g s)), none, some (.int a2), some (.int x12), some (.int x13), none, none, none]) 2 rfl ?_
      refine z_drop (lo' := [some (.ref (zad g 1)), some (.ref (zad g s)), none, some (.int a2), some (.int x12), none, none, none, none]) 5 rfl ?_
      exact hK149 _ _ hf
    · skip
      refine z_aload_n (i := 0) C dX4_trace_38 rfl rfl rfl ?_
      refine z_cviR (As := []) (st := []) (m := m14) C (cl_3 hC) (tn_1 hC) (tc_1 hC) gX4_trace_X4_nextSpot hdX4_nextSpot rfl (fun z h => qX4_nextSpot hC N m14 z h) rfl (Nat.le_of_ble_eq_true rfl) ⟨Nat.le_of_ble_eq_true rfl, Nat.le_of_ble_eq_true rfl⟩ ⟨Nat.le_refl _, Nat.le_refl _⟩ dX4_trace_39 rfl rfl hf (fun v15 hf => ?_)
      refine z_istore (lo' := [some (.ref (zad g 1)), some (.ref (zad g s)), some (.int a1), some (.int a2), some (.int x12), some (.int x13), some (.int v15), none, none]) C dX4_trace_42 (Nat.le_of_ble_eq_true rfl) rfl rfl rfl ?_
      refine z_iload C dX4_trace_44 rfl rfl ?_
      refine z_iconst C dX4_trace_46 zi_m1 rfl ?_
      refine z_ic_ne (tgt := 53) C dX4_trace_47 (by decide) rfl hf (fun hf => ?_) (fun hf => ?_)
      · skip
        refine z_aload_n (i := 0) C dX4_trace_53 rfl rfl rfl ?_
        refine z_gr C (FX4_trace_35 hC) (tn_1 hC) (tc_1 hC) rfl dX4_trace_54 rfl ?_
        refine z_iload C dX4_trace_57 rfl rfl ?_
        refine z_iaload C (tn_4 hC) (tc_4 hC) dX4_trace_59 rfl hf (fun v16 hf => ?_)
        refine z_istore (lo' := [some (.ref (zad g 1)), some (.ref (zad g s)), some (.int a1), some (.int a2), some (.int x12), some (.int x13), some (.int v15), some (.int v16), none]) C dX4_trace_60 (Nat.le_of_ble_eq_true rfl) rfl rfl rfl ?_
        refine z_iload C dX4_trace_62 rfl rfl ?_
        refine z_iload_n (i := 3) C dX4_trace_64 rfl rfl rfl ?_
        refine z_ixor C dX4_trace_65 rfl ?_
        refine z_top _ hf (fun v17 hf => ?_)
        refine z_istore (lo' := [some (.ref (zad g 1)), some (.ref (zad g s)), some (.int a1), some (.int a2), some (.int x12), some (.int x13), some (.int v15), some (.int v16), some (.int v17)]) C dX4_trace_66 (Nat.le_of_ble_eq_true rfl) rfl rfl rfl ?_
        refine z_aload_n (i := 0) C dX4_trace_68 rfl rfl rfl ?_
        refine z_gr C (FX4_trace_11 hC) (tn_1 hC) (tc_1 hC) rfl dX4_trace_69 rfl ?_
        refine z_iload C dX4_trace_72 rfl rfl ?_
        refine z_iload C dX4_trace_74 rfl rfl ?_
        refine z_iastore C (tn_2 hC) (tc_2 hC) dX4_trace_76 rfl hf (fun m18 hf => ?_)
        refine z_aload_n (i := 0) C dX4_trace_77 rfl rfl rfl ?_
        refine z_dup C dX4_trace_78 rfl rfl ?_
        refine z_gi C (FX4_trace_15 hC) (tn_1 hC) (tc_1 hC) rfl dX4_trace_79 rfl hf (fun v19 hf => ?_)
        refine z_iconst C dX4_trace_82 zi_1 rfl ?_
        refine z_iadd C dX4_trace_83 rfl ?_
        refine z_pi C (PX4_trace_15 hC) (tn_1 hC) (tc_1 hC) rfl dX4_trace_84 rfl hf (fun m20 hf => ?_)
        refine z_aload_n (i := 1) C dX4_trace_87 rfl rfl rfl ?_
        refine z_iload C dX4_trace_88 rfl rfl ?_
        refine z_cviR (As := [.int v17]) (st := []) (m := m20) C (cl_1 hC) (sn_0 hC hs) (sc_0 hC hs) gX4_trace_X2_isMember hdX2_isMember rfl (fun z h => qX2_isMember hC s v17 m20 hs z h) rfl (Nat.le_of_ble_eq_true rfl) ⟨Nat.le_of_ble_eq_true rfl, Nat.le_of_ble_eq_true rfl⟩ ⟨Nat.le_refl _, Nat.le_refl _⟩ dX4_trace_90 rfl rfl hf (fun v21 hf => ?_)
        refine z_if_eq (tgt := 125) C dX4_trace_93 (by decide) rfl hf (fun hf => ?_) (fun hf => ?_)
        · skip
          refine z_aload_n (i := 0) C dX4_trace_125 rfl rfl rfl ?_
          refine z_gr C (FX4_trace_38 hC) (tn_1 hC) (tc_1 hC) rfl dX4_trace_126 rfl ?_
          refine z_iload C dX4_trace_129 rfl rfl ?_
          refine z_iconst C dX4_trace_131 zi_2 rfl ?_
          refine z_iastore C (tn_5 hC) (tc_5 hC) dX4_trace_132 rfl hf (fun m22 hf => ?_)
          refine z_aload_n (i := 0) C dX4_trace_133 rfl rfl rfl ?_
          refine z_dup C dX4_trace_134 rfl rfl ?_
          refine z_gi C (FX4_trace_19 hC) (tn_1 hC) (tc_1 hC) rfl dX4_trace_135 rfl hf (fun v23 hf => ?_)
          refine z_iconst C dX4_trace_138 zi_1 rfl ?_
          refine z_iadd C dX4_trace_139 rfl ?_
          refine z_pi C (PX4_trace_19 hC) (tn_1 hC) (tc_1 hC) rfl dX4_trace_140 rfl hf (fun m24 hf => ?_)
          refine z_iinc (v := x13 + 1) (lo' := [some (.ref (zad g 1)), some (.ref (zad g s)), some (.int a1), some (.int a2), some (.int x12), some (.int (x13 + 1)), some (.int v15), some (.int v16), some (.int v17)]) C dX4_trace_143 rfl (zinc zi_1) (Nat.le_of_ble_eq_true rfl) rfl rfl rfl ?_
          refine z_goto (pc' := 31) C dX4_trace_146 (by decide) ?_
          refine z_drop (lo' := [some (.ref (zad g 1)), some (.ref (zad g s)), some (.int a1), some (.int a2), some (.int x12), some (.int (x13 + 1)), none, some (.int v16), some (.int v17)]) 6 rfl ?_
          refine z_drop (lo' := [some (.ref (zad g 1)), some (.ref (zad g s)), some (.int a1), some (.int a2), some (.int x12), some (.int (x13 + 1)), none, none, some (.int v17)]) 7 rfl ?_
          refine z_drop (lo' := [some (.ref (zad g 1)), some (.ref (zad g s)), some (.int a1), some (.int a2), some (.int x12), some (.int (x13 + 1)), none, none, none]) 8 rfl ?_
          exact ih (x12, x13 + 1, m24) hf
        · skip
          refine z_aload_n (i := 0) C dX4_trace_96 rfl rfl rfl ?_
          refine z_gr C (FX4_trace_38 hC) (tn_1 hC) (tc_1 hC) rfl dX4_trace_97 rfl ?_
          refine z_iload C dX4_trace_100 rfl rfl ?_
          refine z_iconst C dX4_trace_102 zi_1 rfl ?_
          refine z_iastore C (tn_5 hC) (tc_5 hC) dX4_trace_103 rfl hf (fun m25 hf => ?_)
          refine z_iload C dX4_trace_104 rfl rfl ?_
          refine z_iload C dX4_trace_106 rfl rfl ?_
          refine z_mmin (idx := 58) C (by decide +kernel) (by decide +kernel) (by decide +kernel) (by decide +kernel) ⟨Nat.le_of_ble_eq_true rfl, Nat.le_of_ble_eq_true rfl⟩ ⟨Nat.le_refl _, Nat.le_refl _⟩ dX4_trace_108 rfl hf (fun v26 hf => ?_)
          refine z_istore (lo' := [some (.ref (zad g 1)), some (.ref (zad g s)), some (.int a1), some (.int a2), some (.int v26), some (.int x13), some (.int v15), some (.int v16), some (.int v17)]) C dX4_trace_111 (Nat.le_of_ble_eq_true rfl) rfl rfl rfl ?_
          refine z_aload_n (i := 0) C dX4_trace_113 rfl rfl rfl ?_
          refine z_aload_n (i := 1) C dX4_trace_114 rfl rfl rfl ?_
          refine z_iload C dX4_trace_115 rfl rfl ?_
          refine z_iload_n (i := 2) C dX4_trace_117 rfl rfl rfl ?_
          refine z_iload_n (i := 3) C dX4_trace_118 rfl rfl rfl ?_
          refine z_cvvW (As := [.ref (zad g s), .int v17, .int a1, .int a2]) (st := []) (m := m25) C (cl_3 hC) (tn_1 hC) (tc_1 hC) gX4_trace_X4_hear hdX4_hear rfl (fun z h => qX4_hear hC N s v17 a1 a2 m25 hs z h) rfl (Nat.le_of_ble_eq_true rfl) ⟨Nat.le_of_ble_eq_true rfl, Nat.le_of_ble_eq_true rfl⟩ ⟨Nat.le_refl _, Nat.le_refl _⟩ dX4_trace_119 rfl rfl hf (fun m27 hf => ?_)
          refine z_goto (pc' := 143) C dX4_trace_122 (by decide) ?_
          refine z_iinc (v := x13 + 1) (lo' := [some (.ref (zad g 1)), some (.ref (zad g s)), some (.int a1), some (.int a2), some (.int v26), some (.int (x13 + 1)), some (.int v15), some (.int v16), some (.int v17)]) C dX4_trace_143 rfl (zinc zi_1) (Nat.le_of_ble_eq_true rfl) rfl rfl rfl ?_
          refine z_goto (pc' := 31) C dX4_trace_146 (by decide) ?_
          refine z_drop (lo' := [some (.ref (zad g 1)), some (.ref (zad g s)), some (.int a1), some (.int a2), some (.int v26), some (.int (x13 + 1)), none, some (.int v16), some (.int v17)]) 6 rfl ?_
          refine z_drop (lo' := [some (.ref (zad g 1)), some (.ref (zad g s)), some (.int a1), some (.int a2), some (.int v26), some (.int (x13 + 1)), none, none, some (.int v17)]) 7 rfl ?_
          refine z_drop (lo' := [some (.ref (zad g 1)), some (.ref (zad g s)), some (.int a1), some (.int a2), some (.int v26), some (.int (x13 + 1)), none, none, none]) 8 rfl ?_
          exact ih (v26, x13 + 1, m27) hf
      · skip
        refine z_goto (pc' := 149) C dX4_trace_50 (by decide) ?_
        refine z_drop (lo' := [some (.ref (zad g 1)), some (.ref (zad g s)), none, some (.int a2), some (.int x12), some (.int x13), some (.int v15), none, none]) 2 rfl ?_
        refine z_drop (lo' := [some (.ref (zad g 1)), some (.ref (zad g s)), none, some (.int a2), some (.int x12), none, some (.int v15), none, none]) 5 rfl ?_
        refine z_drop (lo' := [some (.ref (zad g 1)), some (.ref (zad g s)), none, some (.int a2), some (.int x12), none, none, none, none]) 6 rfl ?_
        exact hK149 _ _ hf
