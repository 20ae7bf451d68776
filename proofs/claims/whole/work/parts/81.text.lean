/-! the JDK's own methods of a text -/
theorem dk3_0 : decode cJ3_checkIndex_8e157 0 = .ok (.iload_n 0, 1) := by decide +kernel
theorem dk3_1 : decode cJ3_checkIndex_8e157 1 = .ok (.ifCond .lt 8, 3) := by decide +kernel
theorem dk3_4 : decode cJ3_checkIndex_8e157 4 = .ok (.iload_n 0, 1) := by decide +kernel
theorem dk3_5 : decode cJ3_checkIndex_8e157 5 = .ok (.iload_n 1, 1) := by decide +kernel
theorem dk3_6 : decode cJ3_checkIndex_8e157 6 = .ok (.if_icmp .lt 10, 3) := by decide +kernel
theorem dk3_16 : decode cJ3_checkIndex_8e157 16 = .ok (.iload_n 0, 1) := by decide +kernel
theorem dk3_17 : decode cJ3_checkIndex_8e157 17 = .ok (.ireturn, 1) := by decide +kernel
theorem hdJ0_coder : yJ0_coder_7d493.cls = RJ0 ∧ yJ0_coder_7d493.cls ≠ "java/lang/invoke/MethodHandle" ∧ yJ0_coder_7d493.cls ≠ "java/lang/invoke/VarHandle" ∧ (parseMethodDescriptor yJ0_coder_7d493.desc).map (fun d => d.parameters.length) = some 0 := by decide +kernel
theorem hdJ0_length : yJ0_length_8abf5.cls = RJ0 ∧ yJ0_length_8abf5.cls ≠ "java/lang/invoke/MethodHandle" ∧ yJ0_length_8abf5.cls ≠ "java/lang/invoke/VarHandle" ∧ (parseMethodDescriptor yJ0_length_8abf5.desc).map (fun d => d.parameters.length) = some 0 := by decide +kernel
theorem hdJ0_isLatin1 : yJ0_isLatin1_aae02.cls = RJ0 ∧ yJ0_isLatin1_aae02.cls ≠ "java/lang/invoke/MethodHandle" ∧ yJ0_isLatin1_aae02.cls ≠ "java/lang/invoke/VarHandle" ∧ (parseMethodDescriptor yJ0_isLatin1_aae02.desc).map (fun d => d.parameters.length) = some 0 := by decide +kernel
theorem hdJ0_charAt : yJ0_charAt_5068e.cls = RJ0 ∧ yJ0_charAt_5068e.cls ≠ "java/lang/invoke/MethodHandle" ∧ yJ0_charAt_5068e.cls ≠ "java/lang/invoke/VarHandle" ∧ (parseMethodDescriptor yJ0_charAt_5068e.desc).map (fun d => d.parameters.length) = some 1 := by decide +kernel
theorem hdJ1_charAt : yJ1_charAt_3b067.cls ≠ "java/lang/invoke/MethodHandle" ∧ yJ1_charAt_3b067.cls ≠ "java/lang/invoke/VarHandle" ∧ (parseMethodDescriptor yJ1_charAt_3b067.desc).map (fun d => d.parameters.length) = some 2 := by decide +kernel
theorem hdJ0_checkIndex : yJ0_checkIndex_df160.cls ≠ "java/lang/invoke/MethodHandle" ∧ yJ0_checkIndex_df160.cls ≠ "java/lang/invoke/VarHandle" ∧ (parseMethodDescriptor yJ0_checkIndex_df160.desc).map (fun d => d.parameters.length) = some 2 := by decide +kernel
theorem hdJ3_checkIndex : yJ3_checkIndex_8e157.cls ≠ "java/lang/invoke/MethodHandle" ∧ yJ3_checkIndex_8e157.cls ≠ "java/lang/invoke/VarHandle" ∧ (parseMethodDescriptor yJ3_checkIndex_8e157.desc).map (fun d => d.parameters.length) = some 3 := by decide +kernel
set_option maxRecDepth 100000 in
theorem qJ0_coder {l : Launch} {g : zG} {kk : zKK} (i : Nat) (hi : i < 4) (m : zMem) : zKI l g kk yJ0_coder_7d493 wsJ0_coder_7d493 { frames := 0, cells := 0, slots := 0, locals := 0 } [.ref (kk.1 i)] m (0, m) := by
  refine zk_met_b (cc := cJ0_coder_7d493) (maxL := 1) (lo0 := [some (.ref (kk.1 i))]) (by decide +kernel) rfl rfl (Nat.le_of_ble_eq_true rfl) (fun x hx C hE hr => ?_)
  refine z_gsc (idx := 38) C hE (by decide +kernel) dJ0_coder_7d493_0 rfl ?_
  refine z_if_eq (tgt := 13) (a := none) (b := some ()) (o := ()) C dJ0_coder_7d493_3 (by decide) rfl (if_neg (by decide)) (fun h => by cases h) (fun _ => ?_)
  refine z_aload_n (i := 0) C dJ0_coder_7d493_6 rfl rfl rfl ?_
  refine z_sco C hE hi (by decide +kernel) dJ0_coder_7d493_7 rfl ?_
  refine z_goto (pc' := 14) C dJ0_coder_7d493_10 (by decide) ?_
  exact hr _ _ _ _ (by decide) rfl dJ0_coder_7d493_14
set_option maxRecDepth 100000 in
theorem qJ0_isLatin1 {l : Launch} {g : zG} {kk : zKK} (i : Nat) (hi : i < 4) (m : zMem) : zKI l g kk yJ0_isLatin1_aae02 wsJ0_isLatin1_aae02 { frames := 0, cells := 0, slots := 0, locals := 0 } [.ref (kk.1 i)] m (1, m) := by
  refine zk_met_z (cc := cJ0_isLatin1_aae02) (maxL := 1) (lo0 := [some (.ref (kk.1 i))]) (by decide +kernel) rfl rfl (Nat.le_of_ble_eq_true rfl) (fun x hx C hE hr => ?_)
  refine z_gsc (idx := 38) C hE (by decide +kernel) dJ0_isLatin1_aae02_0 rfl ?_
  refine z_if_eq (tgt := 17) (a := none) (b := some ()) (o := ()) C dJ0_isLatin1_aae02_3 (by decide) rfl (if_neg (by decide)) (fun h => by cases h) (fun _ => ?_)
  refine z_aload_n (i := 0) C dJ0_isLatin1_aae02_6 rfl rfl rfl ?_
  refine z_sco C hE hi (by decide +kernel) dJ0_isLatin1_aae02_7 rfl ?_
  refine z_if_ne (tgt := 17) (a := none) (b := some ()) (o := ()) C dJ0_isLatin1_aae02_10 (by decide) rfl (if_pos rfl) (fun h => by cases h) (fun _ => ?_)
  refine z_iconst C dJ0_isLatin1_aae02_13 zi_1 rfl ?_
  refine z_goto (pc' := 18) C dJ0_isLatin1_aae02_14 (by decide) ?_
  exact hr _ _ _ _ (Or.inr rfl) rfl dJ0_isLatin1_aae02_18
set_option maxRecDepth 100000 in
theorem qJ0_length {l : Launch} {g : zG} {kk : zKK} (i : Nat) (hi : i < 4) (m : zMem) : zKI l g kk yJ0_length_8abf5 wsJ0_length_8abf5 { frames := 1, cells := 0, slots := 0, locals := 20 } [.ref (kk.1 i)] m (sLn i >>> ((0 : Int32) &&& 31), m) := by
  refine zk_met_i (cc := cJ0_length_8abf5) (maxL := 1) (lo0 := [some (.ref (kk.1 i))]) (by decide +kernel) rfl rfl (Nat.le_of_ble_eq_true rfl) (fun x hx C hE hr => ?_)
  refine z_aload_n (i := 0) C dJ0_length_8abf5_0 rfl rfl rfl ?_
  refine z_sva C hE hi (by decide +kernel) dJ0_length_8abf5_1 rfl ?_
  refine z_sln C hE hi dJ0_length_8abf5_4 rfl ?_
  refine z_aload_n (i := 0) C dJ0_length_8abf5_5 rfl rfl rfl ?_
  refine z_kti (As := []) (st := [.int (sLn i)]) (m := m) C hE hi gJ0_length_8abf5_J0_coder_7d493 hdJ0_coder rfl (qJ0_coder i hi m) rfl (Nat.le_of_ble_eq_true rfl) ⟨Nat.le_of_ble_eq_true rfl, Nat.le_of_ble_eq_true rfl⟩ ⟨Nat.le_refl _, Nat.le_refl _⟩ dJ0_length_8abf5_6 rfl rfl ?_
  refine z_ishr C dJ0_length_8abf5_9 rfl ?_
  exact hr _ _ _ _ rfl dJ0_length_8abf5_10
/-! an index in its range; the char there -/
def fJ3 (a b : Int32) : Option Unit := if a < 0 then none else if a < b then some () else none
def fJ1_charAt (i : Nat) (j : Int32) : Option Int32 := kc1 (fJ3 j (sLn i)) fun _ => ksb i j fun b => kbc (kic (b &&& 255)) (some (kic (b &&& 255)))
theorem fJ1_bd {i : Nat} {j o : Int32} (h : fJ1_charAt i j = some o) : 0 ≤ o ∧ o ≤ 127 := by
  unfold fJ1_charAt at h
  refine kc1_V h (fun _ _ h => ?_)
  unfold ksb at h
  split at h
  · cases h
  · refine kbc_V h (fun hb h => ?_)
    cases h
    exact hb
set_option maxRecDepth 100000 in
theorem qJ3_checkIndex {l : Launch} {g : zG} (a b : Int32) (v : Value) (hv : v = .null ∨ ∃ t, v = .ref t) (m : zMem) (hf : fJ3 a b = some ()) : zMI l g yJ3_checkIndex_8e157 wsJ3_checkIndex_8e157 { frames := 0, cells := 0, slots := 0, locals := 0 } [.int a, .int b, v] m (a, m) := by
  unfold fJ3 at hf
  have body : ∀ x : zF, zC x g cJ3_checkIndex_8e157 wsJ3_checkIndex_8e157 yJ3_checkIndex_8e157.cls 3 { frames := 0, cells := 0, slots := 0, locals := 0 } → zRi x g cJ3_checkIndex_8e157 3 (a, m) → zV x g 3 0 0 0 [some (.int a), some (.int b), some v] [] m := fun x C hr => by
    refine z_iload_n (i := 0) C dk3_0 rfl rfl rfl ?_
    refine z_if_lt (tgt := 9) C dk3_1 (by decide) rfl hf (fun h => by cases h) (fun hf => ?_)
    refine z_iload_n (i := 0) C dk3_4 rfl rfl rfl ?_
    refine z_iload_n (i := 1) C dk3_5 rfl rfl rfl ?_
    refine z_ic_lt (tgt := 16) C dk3_6 (by decide) rfl hf (fun hf => ?_) (fun h => by cases h)
    refine z_iload_n (i := 0) C dk3_16 rfl rfl rfl ?_
    exact hr _ _ _ _ rfl dk3_17
  rcases hv with rfl | ⟨t, rfl⟩
  · exact z_met_i (cc := cJ3_checkIndex_8e157) (maxL := 3) (lo0 := [some (.int a), some (.int b), some .null]) (by decide +kernel) rfl rfl (Nat.le_of_ble_eq_true rfl) (fun x hx C hr => body x C hr)
  · exact z_met_i (cc := cJ3_checkIndex_8e157) (maxL := 3) (lo0 := [some (.int a), some (.int b), some (.ref t)]) (by decide +kernel) rfl rfl (Nat.le_of_ble_eq_true rfl) (fun x hx C hr => body x C hr)
set_option maxRecDepth 100000 in
theorem qJ0_checkIndex {l : Launch} {g : zG} {kk : zKK} (a b : Int32) (m : zMem) (hf : fJ3 a b = some ()) : zKV l g kk yJ0_checkIndex_df160 wsJ0_checkIndex_df160 { frames := 1, cells := 0, slots := 0, locals := 22 } [.int a, .int b] m m := by
  refine zk_met_v (cc := cJ0_checkIndex_df160) (maxL := 2) (lo0 := [some (.int a), some (.int b)]) (by decide +kernel) rfl rfl (Nat.le_of_ble_eq_true rfl) (fun x hx C hE hr => ?_)
  refine z_iload_n (i := 0) C dJ0_checkIndex_df160_0 rfl rfl rfl ?_
  refine z_iload_n (i := 1) C dJ0_checkIndex_df160_1 rfl rfl rfl ?_
  refine z_gsf (idx := 1053) C hE (by decide +kernel) dJ0_checkIndex_df160_2 rfl (fun v hv => ?_)
  refine z_csi (As := [.int a, .int b, v]) (st := []) (m := m) C gJ0_checkIndex_df160_J3_checkIndex_8e157 hdJ3_checkIndex rfl (qJ3_checkIndex a b v hv m hf) rfl (Nat.le_of_ble_eq_true rfl) ⟨Nat.le_of_ble_eq_true rfl, Nat.le_of_ble_eq_true rfl⟩ ⟨Nat.le_refl _, Nat.le_refl _⟩ dJ0_checkIndex_df160_5 rfl rfl ?_
  refine z_pop C dJ0_checkIndex_df160_8 rfl rfl ?_
  exact hr _ _ _ rfl dJ0_checkIndex_df160_9
set_option maxRecDepth 100000 in
theorem qJ1_charAt {l : Launch} {g : zG} {kk : zKK} (i : Nat) (hi : i < 4) (j : Int32) (m : zMem) (o : Int32) (hf : fJ1_charAt i j = some o) : zKI l g kk yJ1_charAt_3b067 wsJ1_charAt_3b067 { frames := 2, cells := 0, slots := 0, locals := 43 } [.ref (kk.2 i), .int j] m (o, m) := by
  refine zk_met_c (cc := cJ1_charAt_3b067) (maxL := 2) (lo0 := [some (.ref (kk.2 i)), some (.int j)]) (by decide +kernel) rfl rfl (Nat.le_of_ble_eq_true rfl) (fun x hx C hE hr => ?_)
  unfold fJ1_charAt at hf
  refine kc1_V hf (fun u hc hf => ?_)
  refine z_iload_n (i := 1) C dJ1_charAt_3b067_0 rfl rfl rfl ?_
  refine z_aload_n (i := 0) C dJ1_charAt_3b067_1 rfl rfl rfl ?_
  refine z_sln C hE hi dJ1_charAt_3b067_2 rfl ?_
  refine z_ksv (As := [.int j, .int (sLn i)]) (st := []) (m := m) C hE gJ1_charAt_3b067_J0_checkIndex_df160 hdJ0_checkIndex rfl (qJ0_checkIndex j (sLn i) m hc) rfl (Nat.le_of_ble_eq_true rfl) ⟨Nat.le_of_ble_eq_true rfl, Nat.le_of_ble_eq_true rfl⟩ ⟨Nat.le_refl _, Nat.le_refl _⟩ dJ1_charAt_3b067_3 rfl rfl ?_
  refine z_aload_n (i := 0) C dJ1_charAt_3b067_6 rfl rfl rfl ?_
  refine z_iload_n (i := 1) C dJ1_charAt_3b067_7 rfl rfl rfl ?_
  refine z_sba C hE hi dJ1_charAt_3b067_8 rfl hf (fun b hf => ?_)
  refine z_sipush C dJ1_charAt_3b067_9 zs_255 rfl ?_
  refine z_iand C dJ1_charAt_3b067_12 rfl ?_
  refine z_i2c C dJ1_charAt_3b067_13 rfl ?_
  exact kbc_V hf (fun hb hf => hr _ _ _ _ hb (congrArg (fun z => (z, m)) (Option.some.inj hf)) dJ1_charAt_3b067_14)
set_option maxRecDepth 100000 in
theorem qJ0_charAt {l : Launch} {g : zG} {kk : zKK} (i : Nat) (hi : i < 4) (j : Int32) (m : zMem) (o : Int32) (hf : fJ1_charAt i j = some o) : zKI l g kk yJ0_charAt_5068e wsJ0_charAt_5068e { frames := 3, cells := 0, slots := 0, locals := 64 } [.ref (kk.1 i), .int j] m (o, m) := by
  refine zk_met_c (cc := cJ0_charAt_5068e) (maxL := 2) (lo0 := [some (.ref (kk.1 i)), some (.int j)]) (by decide +kernel) rfl rfl (Nat.le_of_ble_eq_true rfl) (fun x hx C hE hr => ?_)
  refine z_aload_n (i := 0) C dJ0_charAt_5068e_0 rfl rfl rfl ?_
  refine z_kti (As := []) (st := []) (m := m) C hE hi gJ0_charAt_5068e_J0_isLatin1_aae02 hdJ0_isLatin1 rfl (qJ0_isLatin1 i hi m) rfl (Nat.le_of_ble_eq_true rfl) ⟨Nat.le_of_ble_eq_true rfl, Nat.le_of_ble_eq_true rfl⟩ ⟨Nat.le_refl _, Nat.le_refl _⟩ dJ0_charAt_5068e_1 rfl rfl ?_
  refine z_if_eq (tgt := 16) (a := none) (b := some ()) (o := ()) C dJ0_charAt_5068e_4 (by decide) rfl (if_neg (show ¬ (1 : Int32) = 0 by decide)) (fun h => by cases h) (fun _ => ?_)
  refine z_aload_n (i := 0) C dJ0_charAt_5068e_7 rfl rfl rfl ?_
  refine z_sva C hE hi (by decide +kernel) dJ0_charAt_5068e_8 rfl ?_
  refine z_iload_n (i := 1) C dJ0_charAt_5068e_11 rfl rfl rfl ?_
  refine z_ksi (As := [.ref (kk.2 i), .int j]) (st := []) (m := m) C hE gJ0_charAt_5068e_J1_charAt_3b067 hdJ1_charAt rfl (qJ1_charAt i hi j m o hf) rfl (Nat.le_of_ble_eq_true rfl) ⟨Nat.le_of_ble_eq_true rfl, Nat.le_of_ble_eq_true rfl⟩ ⟨Nat.le_refl _, Nat.le_refl _⟩ dJ0_charAt_5068e_12 rfl rfl ?_
  exact hr _ _ _ _ (fJ1_bd hf) rfl dJ0_charAt_5068e_15
