/-- the cells that a new QuotaOverlay Tables is made of -/
abbrev wX3 (cI : ClassId) (h : Nat) (u : Nat × Nat × Nat) : va_W := [(h, .inr (2, [.ref u.1, .ref u.2.1, .ref u.2.2])), (u.1, .inl (cI, 192, .inl (fun _ => 0))), (u.2.1, .inl (cI, 768, .inl (fun _ => 0))), (u.2.2, .inl (cI, 768, .inl (fun _ => 0)))]
theorem hinX3 : ∀ w ∈ u_ws RX3 TX3 3, w ∈ wsX3_init := by decide +kernel
set_option maxHeartbeats 8000000 in
set_option maxRecDepth 100000 in
theorem qX3_init {l : Launch} {D : va_G} {cI : ClassId} (h : Nat) : cMet (S := Nat × Nat × Nat) l D cI yX3_init wsX3_init { frames := 1, cells := 3, slots := 1728, locals := 12 } h (.inr (2, [.null, .null, .null])) 3 1728 (wX3 cI h) := by
  refine c_met (cc := cX3_init) (by decide +kernel) rfl rfl (fun x hx C hr => ?_)
  have hin := hinX3
  refine c_aload (i := 0) C dX3_init_0 rfl rfl rfl ?_
  refine c_obj C (by decide +kernel) (by decide +kernel) (by decide +kernel) ⟨Nat.le_of_ble_eq_true rfl, Nat.le_of_ble_eq_true rfl⟩ dX3_init_1 rfl ?_
  refine c_aload (i := 0) C dX3_init_4 rfl rfl rfl ?_
  refine c_sipush C dX3_init_5 (v := 192) (by decide) rfl ?_
  refine c_newa (N := 192) C (by decide +kernel) (by decide +kernel) (by decide +kernel) (Nat.le_of_ble_eq_true rfl) (Nat.le_of_ble_eq_true rfl) (Nat.le_of_ble_eq_true rfl) dX3_init_8 rfl (fun q1 => ?_)
  show cV x D 1 1 192 10 [some (.ref h)] [.ref q1, .ref h] [(h, .inr (2, [.null, .null, .null])), (q1, .inl (cI, 192, .inl (fun _ => 0)))]
  refine c_put (q0 := 0) (j := 0) (ws1 := [(h, .inr (2, [.ref q1, .null, .null])), (q1, .inl (cI, 192, .inl (fun _ => 0)))]) C hin tyX3 tyX3_ok nmX3 rfl rfl (by decide) (by decide +kernel) rfl rfl (tyX3_ok 0 (by decide)) (by first | rfl | decide) (by first | rfl | decide) (Nat.le_of_ble_eq_true rfl) dX3_init_10 rfl rfl ?_
  refine c_aload (i := 0) C dX3_init_13 rfl rfl rfl ?_
  refine c_sipush C dX3_init_14 (v := 768) (by decide) rfl ?_
  refine c_newa (N := 768) C (by decide +kernel) (by decide +kernel) (by decide +kernel) (Nat.le_of_ble_eq_true rfl) (Nat.le_of_ble_eq_true rfl) (Nat.le_of_ble_eq_true rfl) dX3_init_17 rfl (fun q2 => ?_)
  show cV x D 1 2 960 19 [some (.ref h)] [.ref q2, .ref h] [(h, .inr (2, [.ref q1, .null, .null])), (q1, .inl (cI, 192, .inl (fun _ => 0))), (q2, .inl (cI, 768, .inl (fun _ => 0)))]
  refine c_put (q0 := 0) (j := 1) (ws1 := [(h, .inr (2, [.ref q1, .ref q2, .null])), (q1, .inl (cI, 192, .inl (fun _ => 0))), (q2, .inl (cI, 768, .inl (fun _ => 0)))]) C hin tyX3 tyX3_ok nmX3 rfl rfl (by decide) (by decide +kernel) rfl rfl (tyX3_ok 1 (by decide)) (by first | rfl | decide) (by first | rfl | decide) (Nat.le_of_ble_eq_true rfl) dX3_init_19 rfl rfl ?_
  refine c_aload (i := 0) C dX3_init_22 rfl rfl rfl ?_
  refine c_sipush C dX3_init_23 (v := 768) (by decide) rfl ?_
  refine c_newa (N := 768) C (by decide +kernel) (by decide +kernel) (by decide +kernel) (Nat.le_of_ble_eq_true rfl) (Nat.le_of_ble_eq_true rfl) (Nat.le_of_ble_eq_true rfl) dX3_init_26 rfl (fun q3 => ?_)
  show cV x D 1 3 1728 28 [some (.ref h)] [.ref q3, .ref h] [(h, .inr (2, [.ref q1, .ref q2, .null])), (q1, .inl (cI, 192, .inl (fun _ => 0))), (q2, .inl (cI, 768, .inl (fun _ => 0))), (q3, .inl (cI, 768, .inl (fun _ => 0)))]
  refine c_put (q0 := 0) (j := 2) (ws1 := [(h, .inr (2, [.ref q1, .ref q2, .ref q3])), (q1, .inl (cI, 192, .inl (fun _ => 0))), (q2, .inl (cI, 768, .inl (fun _ => 0))), (q3, .inl (cI, 768, .inl (fun _ => 0)))]) C hin tyX3 tyX3_ok nmX3 rfl rfl (by decide) (by decide +kernel) rfl rfl (tyX3_ok 2 (by decide)) (by first | rfl | decide) (by first | rfl | decide) (Nat.le_of_ble_eq_true rfl) dX3_init_28 rfl rfl ?_
  exact hr _ _ _ _ (q1, q2, q3) (Nat.le_of_ble_eq_true rfl) (Nat.le_of_ble_eq_true rfl) dX3_init_31
/-- the cells that a new QuotaOverlay Walk is made of -/
abbrev wX4 (cI : ClassId) (h : Nat) (u : Nat × Nat × Nat × Nat) : va_W := [(h, .inr (3, [.ref u.1, .int 0, .int 0, .int (-1), .int 0, .ref u.2.1, .int 0, .ref u.2.2.1, .ref u.2.2.2, .int 0])), (u.1, .inl (cI, 12, .inl (fun _ => 0))), (u.2.1, .inl (cI, 3, .inl (fun _ => 0))), (u.2.2.1, .inl (cI, 39, .inl (fun _ => 0))), (u.2.2.2, .inl (cI, 39, .inl (fun _ => 0)))]
theorem hinX4 : ∀ w ∈ u_ws RX4 TX4 10, w ∈ wsX4_init := by decide +kernel
set_option maxHeartbeats 8000000 in
set_option maxRecDepth 100000 in
theorem qX4_init {l : Launch} {D : va_G} {cI : ClassId} (h : Nat) : cMet (S := Nat × Nat × Nat × Nat) l D cI yX4_init wsX4_init { frames := 1, cells := 4, slots := 93, locals := 12 } h (.inr (3, [.null, .int 0, .int 0, .int 0, .int 0, .null, .int 0, .null, .null, .int 0])) 4 93 (wX4 cI h) := by
  refine c_met (cc := cX4_init) (by decide +kernel) rfl rfl (fun x hx C hr => ?_)
  have hin := hinX4
  refine c_aload (i := 0) C dX4_init_0 rfl rfl rfl ?_
  refine c_obj C (by decide +kernel) (by decide +kernel) (by decide +kernel) ⟨Nat.le_of_ble_eq_true rfl, Nat.le_of_ble_eq_true rfl⟩ dX4_init_1 rfl ?_
  refine c_aload (i := 0) C dX4_init_4 rfl rfl rfl ?_
  refine c_bipush C dX4_init_5 (v := 12) (by decide) rfl ?_
  refine c_newa (N := 12) C (by decide +kernel) (by decide +kernel) (by decide +kernel) (Nat.le_of_ble_eq_true rfl) (Nat.le_of_ble_eq_true rfl) (Nat.le_of_ble_eq_true rfl) dX4_init_7 rfl (fun q1 => ?_)
  show cV x D 1 1 12 9 [some (.ref h)] [.ref q1, .ref h] [(h, .inr (3, [.null, .int 0, .int 0, .int 0, .int 0, .null, .int 0, .null, .null, .int 0])), (q1, .inl (cI, 12, .inl (fun _ => 0)))]
  refine c_put (q0 := 0) (j := 0) (ws1 := [(h, .inr (3, [.ref q1, .int 0, .int 0, .int 0, .int 0, .null, .int 0, .null, .null, .int 0])), (q1, .inl (cI, 12, .inl (fun _ => 0)))]) C hin tyX4 tyX4_ok nmX4 rfl rfl (by decide) (by decide +kernel) rfl rfl (tyX4_ok 0 (by decide)) (by first | rfl | decide) (by first | rfl | decide) (Nat.le_of_ble_eq_true rfl) dX4_init_9 rfl rfl ?_
  refine c_aload (i := 0) C dX4_init_12 rfl rfl rfl ?_
  refine c_iconst C dX4_init_13 (v := 0) (by decide) rfl ?_
  refine c_put (q0 := 0) (j := 1) (ws1 := [(h, .inr (3, [.ref q1, .int 0, .int 0, .int 0, .int 0, .null, .int 0, .null, .null, .int 0])), (q1, .inl (cI, 12, .inl (fun _ => 0)))]) C hin tyX4 tyX4_ok nmX4 rfl rfl (by decide) (by decide +kernel) rfl rfl (tyX4_ok 1 (by decide)) (by first | rfl | decide) (by first | rfl | decide) (Nat.le_of_ble_eq_true rfl) dX4_init_14 rfl rfl ?_
  refine c_aload (i := 0) C dX4_init_17 rfl rfl rfl ?_
  refine c_iconst C dX4_init_18 (v := 0) (by decide) rfl ?_
  refine c_put (q0 := 0) (j := 2) (ws1 := [(h, .inr (3, [.ref q1, .int 0, .int 0, .int 0, .int 0, .null, .int 0, .null, .null, .int 0])), (q1, .inl (cI, 12, .inl (fun _ => 0)))]) C hin tyX4 tyX4_ok nmX4 rfl rfl (by decide) (by decide +kernel) rfl rfl (tyX4_ok 2 (by decide)) (by first | rfl | decide) (by first | rfl | decide) (Nat.le_of_ble_eq_true rfl) dX4_init_19 rfl rfl ?_
  refine c_aload (i := 0) C dX4_init_22 rfl rfl rfl ?_
  refine c_iconst C dX4_init_23 (v := (-1)) (by decide) rfl ?_
  refine c_put (q0 := 0) (j := 3) (ws1 := [(h, .inr (3, [.ref q1, .int 0, .int 0, .int (-1), .int 0, .null, .int 0, .null, .null, .int 0])), (q1, .inl (cI, 12, .inl (fun _ => 0)))]) C hin tyX4 tyX4_ok nmX4 rfl rfl (by decide) (by decide +kernel) rfl rfl (tyX4_ok 3 (by decide)) (by first | rfl | decide) (by first | rfl | decide) (Nat.le_of_ble_eq_true rfl) dX4_init_24 rfl rfl ?_
  refine c_aload (i := 0) C dX4_init_27 rfl rfl rfl ?_
  refine c_iconst C dX4_init_28 (v := 0) (by decide) rfl ?_
  refine c_put (q0 := 0) (j := 4) (ws1 := [(h, .inr (3, [.ref q1, .int 0, .int 0, .int (-1), .int 0, .null, .int 0, .null, .null, .int 0])), (q1, .inl (cI, 12, .inl (fun _ => 0)))]) C hin tyX4 tyX4_ok nmX4 rfl rfl (by decide) (by decide +kernel) rfl rfl (tyX4_ok 4 (by decide)) (by first | rfl | decide) (by first | rfl | decide) (Nat.le_of_ble_eq_true rfl) dX4_init_29 rfl rfl ?_
  refine c_aload (i := 0) C dX4_init_32 rfl rfl rfl ?_
  refine c_iconst C dX4_init_33 (v := 3) (by decide) rfl ?_
  refine c_newa (N := 3) C (by decide +kernel) (by decide +kernel) (by decide +kernel) (Nat.le_of_ble_eq_true rfl) (Nat.le_of_ble_eq_true rfl) (Nat.le_of_ble_eq_true rfl) dX4_init_34 rfl (fun q2 => ?_)
  show cV x D 1 2 15 36 [some (.ref h)] [.ref q2, .ref h] [(h, .inr (3, [.ref q1, .int 0, .int 0, .int (-1), .int 0, .null, .int 0, .null, .null, .int 0])), (q1, .inl (cI, 12, .inl (fun _ => 0))), (q2, .inl (cI, 3, .inl (fun _ => 0)))]
  refine c_put (q0 := 0) (j := 5) (ws1 := [(h, .inr (3, [.ref q1, .int 0, .int 0, .int (-1), .int 0, .ref q2, .int 0, .null, .null, .int 0])), (q1, .inl (cI, 12, .inl (fun _ => 0))), (q2, .inl (cI, 3, .inl (fun _ => 0)))]) C hin tyX4 tyX4_ok nmX4 rfl rfl (by decide) (by decide +kernel) rfl rfl (tyX4_ok 5 (by decide)) (by first | rfl | decide) (by first | rfl | decide) (Nat.le_of_ble_eq_true rfl) dX4_init_36 rfl rfl ?_
  refine c_aload (i := 0) C dX4_init_39 rfl rfl rfl ?_
  refine c_iconst C dX4_init_40 (v := 0) (by decide) rfl ?_
  refine c_put (q0 := 0) (j := 6) (ws1 := [(h, .inr (3, [.ref q1, .int 0, .int 0, .int (-1), .int 0, .ref q2, .int 0, .null, .null, .int 0])), (q1, .inl (cI, 12, .inl (fun _ => 0))), (q2, .inl (cI, 3, .inl (fun _ => 0)))]) C hin tyX4 tyX4_ok nmX4 rfl rfl (by decide) (by decide +kernel) rfl rfl (tyX4_ok 6 (by decide)) (by first | rfl | decide) (by first | rfl | decide) (Nat.le_of_ble_eq_true rfl) dX4_init_41 rfl rfl ?_
  refine c_aload (i := 0) C dX4_init_44 rfl rfl rfl ?_
  refine c_bipush C dX4_init_45 (v := 39) (by decide) rfl ?_
  refine c_newa (N := 39) C (by decide +kernel) (by decide +kernel) (by decide +kernel) (Nat.le_of_ble_eq_true rfl) (Nat.le_of_ble_eq_true rfl) (Nat.le_of_ble_eq_true rfl) dX4_init_47 rfl (fun q3 => ?_)
  show cV x D 1 3 54 49 [some (.ref h)] [.ref q3, .ref h] [(h, .inr (3, [.ref q1, .int 0, .int 0, .int (-1), .int 0, .ref q2, .int 0, .null, .null, .int 0])), (q1, .inl (cI, 12, .inl (fun _ => 0))), (q2, .inl (cI, 3, .inl (fun _ => 0))), (q3, .inl (cI, 39, .inl (fun _ => 0)))]
  refine c_put (q0 := 0) (j := 7) (ws1 := [(h, .inr (3, [.ref q1, .int 0, .int 0, .int (-1), .int 0, .ref q2, .int 0, .ref q3, .null, .int 0])), (q1, .inl (cI, 12, .inl (fun _ => 0))), (q2, .inl (cI, 3, .inl (fun _ => 0))), (q3, .inl (cI, 39, .inl (fun _ => 0)))]) C hin tyX4 tyX4_ok nmX4 rfl rfl (by decide) (by decide +kernel) rfl rfl (tyX4_ok 7 (by decide)) (by first | rfl | decide) (by first | rfl | decide) (Nat.le_of_ble_eq_true rfl) dX4_init_49 rfl rfl ?_
  refine c_aload (i := 0) C dX4_init_52 rfl rfl rfl ?_
  refine c_bipush C dX4_init_53 (v := 39) (by decide) rfl ?_
  refine c_newa (N := 39) C (by decide +kernel) (by decide +kernel) (by decide +kernel) (Nat.le_of_ble_eq_true rfl) (Nat.le_of_ble_eq_true rfl) (Nat.le_of_ble_eq_true rfl) dX4_init_55 rfl (fun q4 => ?_)
  show cV x D 1 4 93 57 [some (.ref h)] [.ref q4, .ref h] [(h, .inr (3, [.ref q1, .int 0, .int 0, .int (-1), .int 0, .ref q2, .int 0, .ref q3, .null, .int 0])), (q1, .inl (cI, 12, .inl (fun _ => 0))), (q2, .inl (cI, 3, .inl (fun _ => 0))), (q3, .inl (cI, 39, .inl (fun _ => 0))), (q4, .inl (cI, 39, .inl (fun _ => 0)))]
  refine c_put (q0 := 0) (j := 8) (ws1 := [(h, .inr (3, [.ref q1, .int 0, .int 0, .int (-1), .int 0, .ref q2, .int 0, .ref q3, .ref q4, .int 0])), (q1, .inl (cI, 12, .inl (fun _ => 0))), (q2, .inl (cI, 3, .inl (fun _ => 0))), (q3, .inl (cI, 39, .inl (fun _ => 0))), (q4, .inl (cI, 39, .inl (fun _ => 0)))]) C hin tyX4 tyX4_ok nmX4 rfl rfl (by decide) (by decide +kernel) rfl rfl (tyX4_ok 8 (by decide)) (by first | rfl | decide) (by first | rfl | decide) (Nat.le_of_ble_eq_true rfl) dX4_init_57 rfl rfl ?_
  refine c_aload (i := 0) C dX4_init_60 rfl rfl rfl ?_
  refine c_iconst C dX4_init_61 (v := 0) (by decide) rfl ?_
  refine c_put (q0 := 0) (j := 9) (ws1 := [(h, .inr (3, [.ref q1, .int 0, .int 0, .int (-1), .int 0, .ref q2, .int 0, .ref q3, .ref q4, .int 0])), (q1, .inl (cI, 12, .inl (fun _ => 0))), (q2, .inl (cI, 3, .inl (fun _ => 0))), (q3, .inl (cI, 39, .inl (fun _ => 0))), (q4, .inl (cI, 39, .inl (fun _ => 0)))]) C hin tyX4 tyX4_ok nmX4 rfl rfl (by decide) (by decide +kernel) rfl rfl (tyX4_ok 9 (by decide)) (by first | rfl | decide) (by first | rfl | decide) (Nat.le_of_ble_eq_true rfl) dX4_init_62 rfl rfl ?_
  exact hr _ _ _ _ (q1, q2, q3, q4) (Nat.le_of_ble_eq_true rfl) (Nat.le_of_ble_eq_true rfl) dX4_init_65
/-- the cells that a new QuotaOverlay Script is made of -/
abbrev wX1 (cI : ClassId) (h : Nat) (u : Nat × Nat × Nat) : va_W := [(h, .inr (0, [.ref u.1, .int 0, .ref u.2.1, .int 0, .ref u.2.2, .int 0])), (u.1, .inl (cI, 120, .inl (fun _ => 0))), (u.2.1, .inl (cI, 20, .inl (fun _ => 0))), (u.2.2, .inl (cI, 60, .inl (fun _ => 0)))]
theorem hinX1 : ∀ w ∈ u_ws RX1 TX1 6, w ∈ wsX1_init := by decide +kernel
set_option maxHeartbeats 8000000 in
set_option maxRecDepth 100000 in
theorem qX1_init {l : Launch} {D : va_G} {cI : ClassId} (h : Nat) : cMet (S := Nat × Nat × Nat) l D cI yX1_init wsX1_init { frames := 1, cells := 3, slots := 200, locals := 12 } h (.inr (0, [.null, .int 0, .null, .int 0, .null, .int 0])) 3 200 (wX1 cI h) := by
  refine c_met (cc := cX1_init) (by decide +kernel) rfl rfl (fun x hx C hr => ?_)
  have hin := hinX1
  refine c_aload (i := 0) C dX1_init_0 rfl rfl rfl ?_
  refine c_obj C (by decide +kernel) (by decide +kernel) (by decide +kernel) ⟨Nat.le_of_ble_eq_true rfl, Nat.le_of_ble_eq_true rfl⟩ dX1_init_1 rfl ?_
  refine c_aload (i := 0) C dX1_init_4 rfl rfl rfl ?_
  refine c_bipush C dX1_init_5 (v := 120) (by decide) rfl ?_
  refine c_newa (N := 120) C (by decide +kernel) (by decide +kernel) (by decide +kernel) (Nat.le_of_ble_eq_true rfl) (Nat.le_of_ble_eq_true rfl) (Nat.le_of_ble_eq_true rfl) dX1_init_7 rfl (fun q1 => ?_)
  show cV x D 1 1 120 9 [some (.ref h)] [.ref q1, .ref h] [(h, .inr (0, [.null, .int 0, .null, .int 0, .null, .int 0])), (q1, .inl (cI, 120, .inl (fun _ => 0)))]
  refine c_put (q0 := 0) (j := 0) (ws1 := [(h, .inr (0, [.ref q1, .int 0, .null, .int 0, .null, .int 0])), (q1, .inl (cI, 120, .inl (fun _ => 0)))]) C hin tyX1 tyX1_ok nmX1 rfl rfl (by decide) (by decide +kernel) rfl rfl (tyX1_ok 0 (by decide)) (by first | rfl | decide) (by first | rfl | decide) (Nat.le_of_ble_eq_true rfl) dX1_init_9 rfl rfl ?_
  refine c_aload (i := 0) C dX1_init_12 rfl rfl rfl ?_
  refine c_iconst C dX1_init_13 (v := 0) (by decide) rfl ?_
  refine c_put (q0 := 0) (j := 1) (ws1 := [(h, .inr (0, [.ref q1, .int 0, .null, .int 0, .null, .int 0])), (q1, .inl (cI, 120, .inl (fun _ => 0)))]) C hin tyX1 tyX1_ok nmX1 rfl rfl (by decide) (by decide +kernel) rfl rfl (tyX1_ok 1 (by decide)) (by first | rfl | decide) (by first | rfl | decide) (Nat.le_of_ble_eq_true rfl) dX1_init_14 rfl rfl ?_
  refine c_aload (i := 0) C dX1_init_17 rfl rfl rfl ?_
  refine c_bipush C dX1_init_18 (v := 20) (by decide) rfl ?_
  refine c_newa (N := 20) C (by decide +kernel) (by decide +kernel) (by decide +kernel) (Nat.le_of_ble_eq_true rfl) (Nat.le_of_ble_eq_true rfl) (Nat.le_of_ble_eq_true rfl) dX1_init_20 rfl (fun q2 => ?_)
  show cV x D 1 2 140 22 [some (.ref h)] [.ref q2, .ref h] [(h, .inr (0, [.ref q1, .int 0, .null, .int 0, .null, .int 0])), (q1, .inl (cI, 120, .inl (fun _ => 0))), (q2, .inl (cI, 20, .inl (fun _ => 0)))]
  refine c_put (q0 := 0) (j := 2) (ws1 := [(h, .inr (0, [.ref q1, .int 0, .ref q2, .int 0, .null, .int 0])), (q1, .inl (cI, 120, .inl (fun _ => 0))), (q2, .inl (cI, 20, .inl (fun _ => 0)))]) C hin tyX1 tyX1_ok nmX1 rfl rfl (by decide) (by decide +kernel) rfl rfl (tyX1_ok 2 (by decide)) (by first | rfl | decide) (by first | rfl | decide) (Nat.le_of_ble_eq_true rfl) dX1_init_22 rfl rfl ?_
  refine c_aload (i := 0) C dX1_init_25 rfl rfl rfl ?_
  refine c_iconst C dX1_init_26 (v := 0) (by decide) rfl ?_
  refine c_put (q0 := 0) (j := 3) (ws1 := [(h, .inr (0, [.ref q1, .int 0, .ref q2, .int 0, .null, .int 0])), (q1, .inl (cI, 120, .inl (fun _ => 0))), (q2, .inl (cI, 20, .inl (fun _ => 0)))]) C hin tyX1 tyX1_ok nmX1 rfl rfl (by decide) (by decide +kernel) rfl rfl (tyX1_ok 3 (by decide)) (by first | rfl | decide) (by first | rfl | decide) (Nat.le_of_ble_eq_true rfl) dX1_init_27 rfl rfl ?_
  refine c_aload (i := 0) C dX1_init_30 rfl rfl rfl ?_
  refine c_bipush C dX1_init_31 (v := 60) (by decide) rfl ?_
  refine c_newa (N := 60) C (by decide +kernel) (by decide +kernel) (by decide +kernel) (Nat.le_of_ble_eq_true rfl) (Nat.le_of_ble_eq_true rfl) (Nat.le_of_ble_eq_true rfl) dX1_init_33 rfl (fun q3 => ?_)
  show cV x D 1 3 200 35 [some (.ref h)] [.ref q3, .ref h] [(h, .inr (0, [.ref q1, .int 0, .ref q2, .int 0, .null, .int 0])), (q1, .inl (cI, 120, .inl (fun _ => 0))), (q2, .inl (cI, 20, .inl (fun _ => 0))), (q3, .inl (cI, 60, .inl (fun _ => 0)))]
  refine c_put (q0 := 0) (j := 4) (ws1 := [(h, .inr (0, [.ref q1, .int 0, .ref q2, .int 0, .ref q3, .int 0])), (q1, .inl (cI, 120, .inl (fun _ => 0))), (q2, .inl (cI, 20, .inl (fun _ => 0))), (q3, .inl (cI, 60, .inl (fun _ => 0)))]) C hin tyX1 tyX1_ok nmX1 rfl rfl (by decide) (by decide +kernel) rfl rfl (tyX1_ok 4 (by decide)) (by first | rfl | decide) (by first | rfl | decide) (Nat.le_of_ble_eq_true rfl) dX1_init_35 rfl rfl ?_
  refine c_aload (i := 0) C dX1_init_38 rfl rfl rfl ?_
  refine c_iconst C dX1_init_39 (v := 0) (by decide) rfl ?_
  refine c_put (q0 := 0) (j := 5) (ws1 := [(h, .inr (0, [.ref q1, .int 0, .ref q2, .int 0, .ref q3, .int 0])), (q1, .inl (cI, 120, .inl (fun _ => 0))), (q2, .inl (cI, 20, .inl (fun _ => 0))), (q3, .inl (cI, 60, .inl (fun _ => 0)))]) C hin tyX1 tyX1_ok nmX1 rfl rfl (by decide) (by decide +kernel) rfl rfl (tyX1_ok 5 (by decide)) (by first | rfl | decide) (by first | rfl | decide) (Nat.le_of_ble_eq_true rfl) dX1_init_40 rfl rfl ?_
  exact hr _ _ _ _ (q1, q2, q3) (Nat.le_of_ble_eq_true rfl) (Nat.le_of_ble_eq_true rfl) dX1_init_43
/-- the cells that a new QuotaOverlay State is made of -/
abbrev wX2 (cI : ClassId) (h : Nat) (u : Nat × Nat × Nat × Nat × Nat × Nat × Nat × Nat × Nat) : va_W := [(h, .inr (1, [.int 2, .int 100, .int 20, .int 2, .int 8, .int 0, .int 0, .int 0, .ref u.1, .ref u.2.1, .ref u.2.2.1, .ref u.2.2.2.1, .ref u.2.2.2.2.1, .ref u.2.2.2.2.2.1])), (u.1, .inl (cI, 9, .inl (fun _ => 0))), (u.2.1, .inl (cI, 256, .inl (flF (fun _ => 0) (-1) 256))), (u.2.2.1, .inl (cI, 24, .inl (flF (fun _ => 0) (-1) 24))), (u.2.2.2.1, .inl (cI, 24, .inl (fun _ => 0))), (u.2.2.2.2.1, .inl (cI, 24, .inl (fun _ => 0))), (u.2.2.2.2.2.1, .inr (2, [.ref u.2.2.2.2.2.2.1, .ref u.2.2.2.2.2.2.2.1, .ref u.2.2.2.2.2.2.2.2])), (u.2.2.2.2.2.2.1, .inl (cI, 192, .inl (fun _ => 0))), (u.2.2.2.2.2.2.2.1, .inl (cI, 768, .inl (fun _ => 0))), (u.2.2.2.2.2.2.2.2, .inl (cI, 768, .inl (fun _ => 0)))]
theorem hinX2 : ∀ w ∈ u_ws RX2 TX2 14, w ∈ wsX2_init := by decide +kernel
set_option maxHeartbeats 8000000 in
set_option maxRecDepth 100000 in
theorem qX2_init {l : Launch} {D : va_G} {cI : ClassId} (h : Nat) : cMet (S := Nat × Nat × Nat × Nat × Nat × Nat × Nat × Nat × Nat) l D cI yX2_init wsX2_init { frames := 2, cells := 9, slots := 2068, locals := 32 } h (.inr (1, [.int 0, .int 0, .int 0, .int 0, .int 0, .int 0, .int 0, .int 0, .null, .null, .null, .null, .null, .null])) 9 2068 (wX2 cI h) := by
  refine c_met (cc := cX2_init) (by decide +kernel) rfl rfl (fun x hx C hr => ?_)
  have hin := hinX2
  refine c_aload (i := 0) C dX2_init_0 rfl rfl rfl ?_
  refine c_obj C (by decide +kernel) (by decide +kernel) (by decide +kernel) ⟨Nat.le_of_ble_eq_true rfl, Nat.le_of_ble_eq_true rfl⟩ dX2_init_1 rfl ?_
  refine c_aload (i := 0) C dX2_init_4 rfl rfl rfl ?_
  refine c_iconst C dX2_init_5 (v := 2) (by decide) rfl ?_
  refine c_put (q0 := 0) (j := 0) (ws1 := [(h, .inr (1, [.int 2, .int 0, .int 0, .int 0, .int 0, .int 0, .int 0, .int 0, .null, .null, .null, .null, .null, .null]))]) C hin tyX2 tyX2_ok nmX2 rfl rfl (by decide) (by decide +kernel) rfl rfl (tyX2_ok 0 (by decide)) (by first | rfl | decide) (by first | rfl | decide) (Nat.le_of_ble_eq_true rfl) dX2_init_6 rfl rfl ?_
  refine c_aload (i := 0) C dX2_init_9 rfl rfl rfl ?_
  refine c_bipush C dX2_init_10 (v := 100) (by decide) rfl ?_
  refine c_put (q0 := 0) (j := 1) (ws1 := [(h, .inr (1, [.int 2, .int 100, .int 0, .int 0, .int 0, .int 0, .int 0, .int 0, .null, .null, .null, .null, .null, .null]))]) C hin tyX2 tyX2_ok nmX2 rfl rfl (by decide) (by decide +kernel) rfl rfl (tyX2_ok 1 (by decide)) (by first | rfl | decide) (by first | rfl | decide) (Nat.le_of_ble_eq_true rfl) dX2_init_12 rfl rfl ?_
  refine c_aload (i := 0) C dX2_init_15 rfl rfl rfl ?_
  refine c_bipush C dX2_init_16 (v := 20) (by decide) rfl ?_
  refine c_put (q0 := 0) (j := 2) (ws1 := [(h, .inr (1, [.int 2, .int 100, .int 20, .int 0, .int 0, .int 0, .int 0, .int 0, .null, .null, .null, .null, .null, .null]))]) C hin tyX2 tyX2_ok nmX2 rfl rfl (by decide) (by decide +kernel) rfl rfl (tyX2_ok 2 (by decide)) (by first | rfl | decide) (by first | rfl | decide) (Nat.le_of_ble_eq_true rfl) dX2_init_18 rfl rfl ?_
  refine c_aload (i := 0) C dX2_init_21 rfl rfl rfl ?_
  refine c_iconst C dX2_init_22 (v := 2) (by decide) rfl ?_
  refine c_put (q0 := 0) (j := 3) (ws1 := [(h, .inr (1, [.int 2, .int 100, .int 20, .int 2, .int 0, .int 0, .int 0, .int 0, .null, .null, .null, .null, .null, .null]))]) C hin tyX2 tyX2_ok nmX2 rfl rfl (by decide) (by decide +kernel) rfl rfl (tyX2_ok 3 (by decide)) (by first | rfl | decide) (by first | rfl | decide) (Nat.le_of_ble_eq_true rfl) dX2_init_23 rfl rfl ?_
  refine c_aload (i := 0) C dX2_init_26 rfl rfl rfl ?_
  refine c_bipush C dX2_init_27 (v := 8) (by decide) rfl ?_
  refine c_put (q0 := 0) (j := 4) (ws1 := [(h, .inr (1, [.int 2, .int 100, .int 20, .int 2, .int 8, .int 0, .int 0, .int 0, .null, .null, .null, .null, .null, .null]))]) C hin tyX2 tyX2_ok nmX2 rfl rfl (by decide) (by decide +kernel) rfl rfl (tyX2_ok 4 (by decide)) (by first | rfl | decide) (by first | rfl | decide) (Nat.le_of_ble_eq_true rfl) dX2_init_29 rfl rfl ?_
  refine c_aload (i := 0) C dX2_init_32 rfl rfl rfl ?_
  refine c_iconst C dX2_init_33 (v := 0) (by decide) rfl ?_
  refine c_put (q0 := 0) (j := 5) (ws1 := [(h, .inr (1, [.int 2, .int 100, .int 20, .int 2, .int 8, .int 0, .int 0, .int 0, .null, .null, .null, .null, .null, .null]))]) C hin tyX2 tyX2_ok nmX2 rfl rfl (by decide) (by decide +kernel) rfl rfl (tyX2_ok 5 (by decide)) (by first | rfl | decide) (by first | rfl | decide) (Nat.le_of_ble_eq_true rfl) dX2_init_34 rfl rfl ?_
  refine c_aload (i := 0) C dX2_init_37 rfl rfl rfl ?_
  refine c_iconst C dX2_init_38 (v := 0) (by decide) rfl ?_
  refine c_put (q0 := 0) (j := 6) (ws1 := [(h, .inr (1, [.int 2, .int 100, .int 20, .int 2, .int 8, .int 0, .int 0, .int 0, .null, .null, .null, .null, .null, .null]))]) C hin tyX2 tyX2_ok nmX2 rfl rfl (by decide) (by decide +kernel) rfl rfl (tyX2_ok 6 (by decide)) (by first | rfl | decide) (by first | rfl | decide) (Nat.le_of_ble_eq_true rfl) dX2_init_39 rfl rfl ?_
  refine c_aload (i := 0) C dX2_init_42 rfl rfl rfl ?_
  refine c_iconst C dX2_init_43 (v := 0) (by decide) rfl ?_
  refine c_put (q0 := 0) (j := 7) (ws1 := [(h, .inr (1, [.int 2, .int 100, .int 20, .int 2, .int 8, .int 0, .int 0, .int 0, .null, .null, .null, .null, .null, .null]))]) C hin tyX2 tyX2_ok nmX2 rfl rfl (by decide) (by decide +kernel) rfl rfl (tyX2_ok 7 (by decide)) (by first | rfl | decide) (by first | rfl | decide) (Nat.le_of_ble_eq_true rfl) dX2_init_44 rfl rfl ?_
  refine c_aload (i := 0) C dX2_init_47 rfl rfl rfl ?_
  refine c_bipush C dX2_init_48 (v := 9) (by decide) rfl ?_
  refine c_newa (N := 9) C (by decide +kernel) (by decide +kernel) (by decide +kernel) (Nat.le_of_ble_eq_true rfl) (Nat.le_of_ble_eq_true rfl) (Nat.le_of_ble_eq_true rfl) dX2_init_50 rfl (fun q1 => ?_)
  show cV x D 1 1 9 52 [some (.ref h)] [.ref q1, .ref h] [(h, .inr (1, [.int 2, .int 100, .int 20, .int 2, .int 8, .int 0, .int 0, .int 0, .null, .null, .null, .null, .null, .null])), (q1, .inl (cI, 9, .inl (fun _ => 0)))]
  refine c_put (q0 := 0) (j := 8) (ws1 := [(h, .inr (1, [.int 2, .int 100, .int 20, .int 2, .int 8, .int 0, .int 0, .int 0, .ref q1, .null, .null, .null, .null, .null])), (q1, .inl (cI, 9, .inl (fun _ => 0)))]) C hin tyX2 tyX2_ok nmX2 rfl rfl (by decide) (by decide +kernel) rfl rfl (tyX2_ok 8 (by decide)) (by first | rfl | decide) (by first | rfl | decide) (Nat.le_of_ble_eq_true rfl) dX2_init_52 rfl rfl ?_
  refine c_aload (i := 0) C dX2_init_55 rfl rfl rfl ?_
  refine c_sipush C dX2_init_56 (v := 256) (by decide) rfl ?_
  refine c_newa (N := 256) C (by decide +kernel) (by decide +kernel) (by decide +kernel) (Nat.le_of_ble_eq_true rfl) (Nat.le_of_ble_eq_true rfl) (Nat.le_of_ble_eq_true rfl) dX2_init_59 rfl (fun q2 => ?_)
  show cV x D 1 2 265 61 [some (.ref h)] [.ref q2, .ref h] [(h, .inr (1, [.int 2, .int 100, .int 20, .int 2, .int 8, .int 0, .int 0, .int 0, .ref q1, .null, .null, .null, .null, .null])), (q1, .inl (cI, 9, .inl (fun _ => 0))), (q2, .inl (cI, 256, .inl (fun _ => 0)))]
  refine c_put (q0 := 0) (j := 9) (ws1 := [(h, .inr (1, [.int 2, .int 100, .int 20, .int 2, .int 8, .int 0, .int 0, .int 0, .ref q1, .ref q2, .null, .null, .null, .null])), (q1, .inl (cI, 9, .inl (fun _ => 0))), (q2, .inl (cI, 256, .inl (fun _ => 0)))]) C hin tyX2 tyX2_ok nmX2 rfl rfl (by decide) (by decide +kernel) rfl rfl (tyX2_ok 9 (by decide)) (by first | rfl | decide) (by first | rfl | decide) (Nat.le_of_ble_eq_true rfl) dX2_init_61 rfl rfl ?_
  refine c_aload (i := 0) C dX2_init_64 rfl rfl rfl ?_
  refine c_bipush C dX2_init_65 (v := 24) (by decide) rfl ?_
  refine c_newa (N := 24) C (by decide +kernel) (by decide +kernel) (by decide +kernel) (Nat.le_of_ble_eq_true rfl) (Nat.le_of_ble_eq_true rfl) (Nat.le_of_ble_eq_true rfl) dX2_init_67 rfl (fun q3 => ?_)
  show cV x D 1 3 289 69 [some (.ref h)] [.ref q3, .ref h] [(h, .inr (1, [.int 2, .int 100, .int 20, .int 2, .int 8, .int 0, .int 0, .int 0, .ref q1, .ref q2, .null, .null, .null, .null])), (q1, .inl (cI, 9, .inl (fun _ => 0))), (q2, .inl (cI, 256, .inl (fun _ => 0))), (q3, .inl (cI, 24, .inl (fun _ => 0)))]
  refine c_put (q0 := 0) (j := 10) (ws1 := [(h, .inr (1, [.int 2, .int 100, .int 20, .int 2, .int 8, .int 0, .int 0, .int 0, .ref q1, .ref q2, .ref q3, .null, .null, .null])), (q1, .inl (cI, 9, .inl (fun _ => 0))), (q2, .inl (cI, 256, .inl (fun _ => 0))), (q3, .inl (cI, 24, .inl (fun _ => 0)))]) C hin tyX2 tyX2_ok nmX2 rfl rfl (by decide) (by decide +kernel) rfl rfl (tyX2_ok 10 (by decide)) (by first | rfl | decide) (by first | rfl | decide) (Nat.le_of_ble_eq_true rfl) dX2_init_69 rfl rfl ?_
  refine c_aload (i := 0) C dX2_init_72 rfl rfl rfl ?_
  refine c_bipush C dX2_init_73 (v := 24) (by decide) rfl ?_
  refine c_newa (N := 24) C (by decide +kernel) (by decide +kernel) (by decide +kernel) (Nat.le_of_ble_eq_true rfl) (Nat.le_of_ble_eq_true rfl) (Nat.le_of_ble_eq_true rfl) dX2_init_75 rfl (fun q4 => ?_)
  show cV x D 1 4 313 77 [some (.ref h)] [.ref q4, .ref h] [(h, .inr (1, [.int 2, .int 100, .int 20, .int 2, .int 8, .int 0, .int 0, .int 0, .ref q1, .ref q2, .ref q3, .null, .null, .null])), (q1, .inl (cI, 9, .inl (fun _ => 0))), (q2, .inl (cI, 256, .inl (fun _ => 0))), (q3, .inl (cI, 24, .inl (fun _ => 0))), (q4, .inl (cI, 24, .inl (fun _ => 0)))]
  refine c_put (q0 := 0) (j := 11) (ws1 := [(h, .inr (1, [.int 2, .int 100, .int 20, .int 2, .int 8, .int 0, .int 0, .int 0, .ref q1, .ref q2, .ref q3, .ref q4, .null, .null])), (q1, .inl (cI, 9, .inl (fun _ => 0))), (q2, .inl (cI, 256, .inl (fun _ => 0))), (q3, .inl (cI, 24, .inl (fun _ => 0))), (q4, .inl (cI, 24, .inl (fun _ => 0)))]) C hin tyX2 tyX2_ok nmX2 rfl rfl (by decide) (by decide +kernel) rfl rfl (tyX2_ok 11 (by decide)) (by first | rfl | decide) (by first | rfl | decide) (Nat.le_of_ble_eq_true rfl) dX2_init_77 rfl rfl ?_
  refine c_aload (i := 0) C dX2_init_80 rfl rfl rfl ?_
  refine c_bipush C dX2_init_81 (v := 24) (by decide) rfl ?_
  refine c_newa (N := 24) C (by decide +kernel) (by decide +kernel) (by decide +kernel) (Nat.le_of_ble_eq_true rfl) (Nat.le_of_ble_eq_true rfl) (Nat.le_of_ble_eq_true rfl) dX2_init_83 rfl (fun q5 => ?_)
  show cV x D 1 5 337 85 [some (.ref h)] [.ref q5, .ref h] [(h, .inr (1, [.int 2, .int 100, .int 20, .int 2, .int 8, .int 0, .int 0, .int 0, .ref q1, .ref q2, .ref q3, .ref q4, .null, .null])), (q1, .inl (cI, 9, .inl (fun _ => 0))), (q2, .inl (cI, 256, .inl (fun _ => 0))), (q3, .inl (cI, 24, .inl (fun _ => 0))), (q4, .inl (cI, 24, .inl (fun _ => 0))), (q5, .inl (cI, 24, .inl (fun _ => 0)))]
  refine c_put (q0 := 0) (j := 12) (ws1 := [(h, .inr (1, [.int 2, .int 100, .int 20, .int 2, .int 8, .int 0, .int 0, .int 0, .ref q1, .ref q2, .ref q3, .ref q4, .ref q5, .null])), (q1, .inl (cI, 9, .inl (fun _ => 0))), (q2, .inl (cI, 256, .inl (fun _ => 0))), (q3, .inl (cI, 24, .inl (fun _ => 0))), (q4, .inl (cI, 24, .inl (fun _ => 0))), (q5, .inl (cI, 24, .inl (fun _ => 0)))]) C hin tyX2 tyX2_ok nmX2 rfl rfl (by decide) (by decide +kernel) rfl rfl (tyX2_ok 12 (by decide)) (by first | rfl | decide) (by first | rfl | decide) (Nat.le_of_ble_eq_true rfl) dX2_init_85 rfl rfl ?_
  refine c_aload (i := 0) C dX2_init_88 rfl rfl rfl ?_
  refine c_new (Cn := RX3) (T := TX3) (N := 3) (ci := 2) (fs := [.null, .null, .null]) C (by decide +kernel) tyX3 tyX3_ok (by decide +kernel) (by decide +kernel) (by decide +kernel) rfl (fun j hj => match j, hj with | 0, _ => rfl | 1, _ => rfl | 2, _ => rfl | i + 3, hj => absurd hj (by omega)) (Nat.le_of_ble_eq_true rfl) (Nat.le_of_ble_eq_true rfl) dX2_init_89 rfl (fun q6 => ?_)
  show cV x D 1 6 340 92 [some (.ref h)] [.ref q6, .ref h] [(h, .inr (1, [.int 2, .int 100, .int 20, .int 2, .int 8, .int 0, .int 0, .int 0, .ref q1, .ref q2, .ref q3, .ref q4, .ref q5, .null])), (q1, .inl (cI, 9, .inl (fun _ => 0))), (q2, .inl (cI, 256, .inl (fun _ => 0))), (q3, .inl (cI, 24, .inl (fun _ => 0))), (q4, .inl (cI, 24, .inl (fun _ => 0))), (q5, .inl (cI, 24, .inl (fun _ => 0))), (q6, .inr (2, [.null, .null, .null]))]
  refine c_dup C dX2_init_92 rfl ?_
  refine c_callN (cs := 6) (sl := 340) (pc := 93) (st := [.ref q6, .ref h]) (wr := [(h, .inr (1, [.int 2, .int 100, .int 20, .int 2, .int 8, .int 0, .int 0, .int 0, .ref q1, .ref q2, .ref q3, .ref q4, .ref q5, .null])), (q1, .inl (cI, 9, .inl (fun _ => 0))), (q2, .inl (cI, 256, .inl (fun _ => 0))), (q3, .inl (cI, 24, .inl (fun _ => 0))), (q4, .inl (cI, 24, .inl (fun _ => 0))), (q5, .inl (cI, 24, .inl (fun _ => 0)))]) (q := q6) (e0 := .inr (2, [.null, .null, .null])) C (qX3_init q6) gX2_init_X3_init_n54 rfl (by decide +kernel) C.2.2.2.2.2.2.2 (by decide +kernel) rfl (by decide +kernel) ⟨Nat.le_of_ble_eq_true rfl, Nat.le_of_ble_eq_true rfl⟩ ⟨Nat.le_of_ble_eq_true rfl, Nat.le_of_ble_eq_true rfl⟩ (Nat.le_of_ble_eq_true rfl) dX2_init_93 rfl (fun u => ?_)
  obtain ⟨q7, q8, q9⟩ := u
  show cV x D 1 9 2068 96 [some (.ref h)] [.ref q6, .ref h] [(h, .inr (1, [.int 2, .int 100, .int 20, .int 2, .int 8, .int 0, .int 0, .int 0, .ref q1, .ref q2, .ref q3, .ref q4, .ref q5, .null])), (q1, .inl (cI, 9, .inl (fun _ => 0))), (q2, .inl (cI, 256, .inl (fun _ => 0))), (q3, .inl (cI, 24, .inl (fun _ => 0))), (q4, .inl (cI, 24, .inl (fun _ => 0))), (q5, .inl (cI, 24, .inl (fun _ => 0))), (q6, .inr (2, [.ref q7, .ref q8, .ref q9])), (q7, .inl (cI, 192, .inl (fun _ => 0))), (q8, .inl (cI, 768, .inl (fun _ => 0))), (q9, .inl (cI, 768, .inl (fun _ => 0)))]
  refine c_put (q0 := 0) (j := 13) (ws1 := [(h, .inr (1, [.int 2, .int 100, .int 20, .int 2, .int 8, .int 0, .int 0, .int 0, .ref q1, .ref q2, .ref q3, .ref q4, .ref q5, .ref q6])), (q1, .inl (cI, 9, .inl (fun _ => 0))), (q2, .inl (cI, 256, .inl (fun _ => 0))), (q3, .inl (cI, 24, .inl (fun _ => 0))), (q4, .inl (cI, 24, .inl (fun _ => 0))), (q5, .inl (cI, 24, .inl (fun _ => 0))), (q6, .inr (2, [.ref q7, .ref q8, .ref q9])), (q7, .inl (cI, 192, .inl (fun _ => 0))), (q8, .inl (cI, 768, .inl (fun _ => 0))), (q9, .inl (cI, 768, .inl (fun _ => 0)))]) C hin tyX2 tyX2_ok nmX2 rfl rfl (by decide) (by decide +kernel) rfl rfl (tyX2_ok 13 (by decide)) (by first | rfl | decide) (by first | rfl | decide) (Nat.le_of_ble_eq_true rfl) dX2_init_96 rfl rfl ?_
  refine c_aload (i := 0) C dX2_init_99 rfl rfl rfl ?_
  refine c_get (q0 := 0) (j := 9) C hin rfl rfl (by decide) (by decide +kernel) rfl rfl dX2_init_100 rfl ?_
  refine c_iconst C dX2_init_103 (v := (-1)) (by decide) rfl ?_
  refine c_fill (q0 := 2) (ws1 := [(h, .inr (1, [.int 2, .int 100, .int 20, .int 2, .int 8, .int 0, .int 0, .int 0, .ref q1, .ref q2, .ref q3, .ref q4, .ref q5, .ref q6])), (q1, .inl (cI, 9, .inl (fun _ => 0))), (q2, .inl (cI, 256, .inl (flF (fun _ => 0) (-1) 256))), (q3, .inl (cI, 24, .inl (fun _ => 0))), (q4, .inl (cI, 24, .inl (fun _ => 0))), (q5, .inl (cI, 24, .inl (fun _ => 0))), (q6, .inr (2, [.ref q7, .ref q8, .ref q9])), (q7, .inl (cI, 192, .inl (fun _ => 0))), (q8, .inl (cI, 768, .inl (fun _ => 0))), (q9, .inl (cI, 768, .inl (fun _ => 0)))]) C rfl (by decide) gX2_init_J7_fill_53178 ⟨Nat.le_of_ble_eq_true rfl, Nat.le_of_ble_eq_true rfl⟩ ⟨Nat.le_of_ble_eq_true rfl, Nat.le_of_ble_eq_true rfl⟩ (Nat.le_of_ble_eq_true rfl) dX2_init_104 rfl rfl ?_
  refine c_aload (i := 0) C dX2_init_107 rfl rfl rfl ?_
  refine c_get (q0 := 0) (j := 10) C hin rfl rfl (by decide) (by decide +kernel) rfl rfl dX2_init_108 rfl ?_
  refine c_iconst C dX2_init_111 (v := (-1)) (by decide) rfl ?_
  refine c_fill (q0 := 3) (ws1 := [(h, .inr (1, [.int 2, .int 100, .int 20, .int 2, .int 8, .int 0, .int 0, .int 0, .ref q1, .ref q2, .ref q3, .ref q4, .ref q5, .ref q6])), (q1, .inl (cI, 9, .inl (fun _ => 0))), (q2, .inl (cI, 256, .inl (flF (fun _ => 0) (-1) 256))), (q3, .inl (cI, 24, .inl (flF (fun _ => 0) (-1) 24))), (q4, .inl (cI, 24, .inl (fun _ => 0))), (q5, .inl (cI, 24, .inl (fun _ => 0))), (q6, .inr (2, [.ref q7, .ref q8, .ref q9])), (q7, .inl (cI, 192, .inl (fun _ => 0))), (q8, .inl (cI, 768, .inl (fun _ => 0))), (q9, .inl (cI, 768, .inl (fun _ => 0)))]) C rfl (by decide) gX2_init_J7_fill_53178 ⟨Nat.le_of_ble_eq_true rfl, Nat.le_of_ble_eq_true rfl⟩ ⟨Nat.le_of_ble_eq_true rfl, Nat.le_of_ble_eq_true rfl⟩ (Nat.le_of_ble_eq_true rfl) dX2_init_112 rfl rfl ?_
  exact hr _ _ _ _ (q1, q2, q3, q4, q5, q6, q7, q8, q9) (Nat.le_of_ble_eq_true rfl) (Nat.le_of_ble_eq_true rfl) dX2_init_115
/-- the cells that a new QuotaOverlayModel is made of -/
abbrev wX6 (cI : ClassId) (h : Nat) (u : Nat × Nat × Nat × Nat × Nat × Nat) : va_W := [(h, .inr (5, [.ref u.1, .ref u.2.1, .ref u.2.2.1, .int 0, .int 0, .ref u.2.2.2.1, .int 0, .ref u.2.2.2.2.1, .int 0, .int 0, .int 0, .int 0, .int 0, .ref u.2.2.2.2.2, .int 0])), (u.1, .inl (cI, 1816, .inl (upd (upd (upd (upd (upd (fun _ => 0) 0 2) 1 100) 2 20) 3 2) 4 8))), (u.2.1, .inl (cI, 5448, .inl (fun _ => 0))), (u.2.2.1, .inl (cI, 1816, .inl (fun _ => 0))), (u.2.2.2.1, .inl (cI, 120, .inl (fun _ => 0))), (u.2.2.2.2.1, .inl (cI, 256, .inl (fun _ => 0))), (u.2.2.2.2.2, .inl (cI, 3, .inl (fun _ => 0)))]
theorem hinX6 : ∀ w ∈ u_ws RX6 TX6 15, w ∈ wsX6_init := by decide +kernel
set_option maxHeartbeats 8000000 in
set_option maxRecDepth 100000 in
theorem qX6_init {l : Launch} {D : va_G} {cI : ClassId} (h : Nat) : cMet (S := Nat × Nat × Nat × Nat × Nat × Nat) l D cI yX6_init wsX6_init { frames := 1, cells := 6, slots := 9459, locals := 12 } h (.inr (5, [.null, .null, .null, .int 0, .int 0, .null, .int 0, .null, .int 0, .int 0, .int 0, .int 0, .int 0, .null, .int 0])) 6 9459 (wX6 cI h) := by
  refine c_met (cc := cX6_init) (by decide +kernel) rfl rfl (fun x hx C hr => ?_)
  have hin := hinX6
  refine c_aload (i := 0) C dX6_init_0 rfl rfl rfl ?_
  refine c_obj C (by decide +kernel) (by decide +kernel) (by decide +kernel) ⟨Nat.le_of_ble_eq_true rfl, Nat.le_of_ble_eq_true rfl⟩ dX6_init_1 rfl ?_
  refine c_aload (i := 0) C dX6_init_4 rfl rfl rfl ?_
  refine c_sipush C dX6_init_5 (v := 1816) (by decide) rfl ?_
  refine c_newa (N := 1816) C (by decide +kernel) (by decide +kernel) (by decide +kernel) (Nat.le_of_ble_eq_true rfl) (Nat.le_of_ble_eq_true rfl) (Nat.le_of_ble_eq_true rfl) dX6_init_8 rfl (fun q1 => ?_)
  show cV x D 1 1 1816 10 [some (.ref h)] [.ref q1, .ref h] [(h, .inr (5, [.null, .null, .null, .int 0, .int 0, .null, .int 0, .null, .int 0, .int 0, .int 0, .int 0, .int 0, .null, .int 0])), (q1, .inl (cI, 1816, .inl (fun _ => 0)))]
  refine c_put (q0 := 0) (j := 0) (ws1 := [(h, .inr (5, [.ref q1, .null, .null, .int 0, .int 0, .null, .int 0, .null, .int 0, .int 0, .int 0, .int 0, .int 0, .null, .int 0])), (q1, .inl (cI, 1816, .inl (fun _ => 0)))]) C hin tyX6 tyX6_ok nmX6 rfl rfl (by decide) (by decide +kernel) rfl rfl (tyX6_ok 0 (by decide)) (by first | rfl | decide) (by first | rfl | decide) (Nat.le_of_ble_eq_true rfl) dX6_init_10 rfl rfl ?_
  refine c_aload (i := 0) C dX6_init_13 rfl rfl rfl ?_
  refine c_sipush C dX6_init_14 (v := 5448) (by decide) rfl ?_
  refine c_newa (N := 5448) C (by decide +kernel) (by decide +kernel) (by decide +kernel) (Nat.le_of_ble_eq_true rfl) (Nat.le_of_ble_eq_true rfl) (Nat.le_of_ble_eq_true rfl) dX6_init_17 rfl (fun q2 => ?_)
  show cV x D 1 2 7264 19 [some (.ref h)] [.ref q2, .ref h] [(h, .inr (5, [.ref q1, .null, .null, .int 0, .int 0, .null, .int 0, .null, .int 0, .int 0, .int 0, .int 0, .int 0, .null, .int 0])), (q1, .inl (cI, 1816, .inl (fun _ => 0))), (q2, .inl (cI, 5448, .inl (fun _ => 0)))]
  refine c_put (q0 := 0) (j := 1) (ws1 := [(h, .inr (5, [.ref q1, .ref q2, .null, .int 0, .int 0, .null, .int 0, .null, .int 0, .int 0, .int 0, .int 0, .int 0, .null, .int 0])), (q1, .inl (cI, 1816, .inl (fun _ => 0))), (q2, .inl (cI, 5448, .inl (fun _ => 0)))]) C hin tyX6 tyX6_ok nmX6 rfl rfl (by decide) (by decide +kernel) rfl rfl (tyX6_ok 1 (by decide)) (by first | rfl | decide) (by first | rfl | decide) (Nat.le_of_ble_eq_true rfl) dX6_init_19 rfl rfl ?_
  refine c_aload (i := 0) C dX6_init_22 rfl rfl rfl ?_
  refine c_sipush C dX6_init_23 (v := 1816) (by decide) rfl ?_
  refine c_newa (N := 1816) C (by decide +kernel) (by decide +kernel) (by decide +kernel) (Nat.le_of_ble_eq_true rfl) (Nat.le_of_ble_eq_true rfl) (Nat.le_of_ble_eq_true rfl) dX6_init_26 rfl (fun q3 => ?_)
  show cV x D 1 3 9080 28 [some (.ref h)] [.ref q3, .ref h] [(h, .inr (5, [.ref q1, .ref q2, .null, .int 0, .int 0, .null, .int 0, .null, .int 0, .int 0, .int 0, .int 0, .int 0, .null, .int 0])), (q1, .inl (cI, 1816, .inl (fun _ => 0))), (q2, .inl (cI, 5448, .inl (fun _ => 0))), (q3, .inl (cI, 1816, .inl (fun _ => 0)))]
  refine c_put (q0 := 0) (j := 2) (ws1 := [(h, .inr (5, [.ref q1, .ref q2, .ref q3, .int 0, .int 0, .null, .int 0, .null, .int 0, .int 0, .int 0, .int 0, .int 0, .null, .int 0])), (q1, .inl (cI, 1816, .inl (fun _ => 0))), (q2, .inl (cI, 5448, .inl (fun _ => 0))), (q3, .inl (cI, 1816, .inl (fun _ => 0)))]) C hin tyX6 tyX6_ok nmX6 rfl rfl (by decide) (by decide +kernel) rfl rfl (tyX6_ok 2 (by decide)) (by first | rfl | decide) (by first | rfl | decide) (Nat.le_of_ble_eq_true rfl) dX6_init_28 rfl rfl ?_
  refine c_aload (i := 0) C dX6_init_31 rfl rfl rfl ?_
  refine c_bipush C dX6_init_32 (v := 120) (by decide) rfl ?_
  refine c_newa (N := 120) C (by decide +kernel) (by decide +kernel) (by decide +kernel) (Nat.le_of_ble_eq_true rfl) (Nat.le_of_ble_eq_true rfl) (Nat.le_of_ble_eq_true rfl) dX6_init_34 rfl (fun q4 => ?_)
  show cV x D 1 4 9200 36 [some (.ref h)] [.ref q4, .ref h] [(h, .inr (5, [.ref q1, .ref q2, .ref q3, .int 0, .int 0, .null, .int 0, .null, .int 0, .int 0, .int 0, .int 0, .int 0, .null, .int 0])), (q1, .inl (cI, 1816, .inl (fun _ => 0))), (q2, .inl (cI, 5448, .inl (fun _ => 0))), (q3, .inl (cI, 1816, .inl (fun _ => 0))), (q4, .inl (cI, 120, .inl (fun _ => 0)))]
  refine c_put (q0 := 0) (j := 5) (ws1 := [(h, .inr (5, [.ref q1, .ref q2, .ref q3, .int 0, .int 0, .ref q4, .int 0, .null, .int 0, .int 0, .int 0, .int 0, .int 0, .null, .int 0])), (q1, .inl (cI, 1816, .inl (fun _ => 0))), (q2, .inl (cI, 5448, .inl (fun _ => 0))), (q3, .inl (cI, 1816, .inl (fun _ => 0))), (q4, .inl (cI, 120, .inl (fun _ => 0)))]) C hin tyX6 tyX6_ok nmX6 rfl rfl (by decide) (by decide +kernel) rfl rfl (tyX6_ok 5 (by decide)) (by first | rfl | decide) (by first | rfl | decide) (Nat.le_of_ble_eq_true rfl) dX6_init_36 rfl rfl ?_
  refine c_aload (i := 0) C dX6_init_39 rfl rfl rfl ?_
  refine c_sipush C dX6_init_40 (v := 256) (by decide) rfl ?_
  refine c_newa (N := 256) C (by decide +kernel) (by decide +kernel) (by decide +kernel) (Nat.le_of_ble_eq_true rfl) (Nat.le_of_ble_eq_true rfl) (Nat.le_of_ble_eq_true rfl) dX6_init_43 rfl (fun q5 => ?_)
  show cV x D 1 5 9456 45 [some (.ref h)] [.ref q5, .ref h] [(h, .inr (5, [.ref q1, .ref q2, .ref q3, .int 0, .int 0, .ref q4, .int 0, .null, .int 0, .int 0, .int 0, .int 0, .int 0, .null, .int 0])), (q1, .inl (cI, 1816, .inl (fun _ => 0))), (q2, .inl (cI, 5448, .inl (fun _ => 0))), (q3, .inl (cI, 1816, .inl (fun _ => 0))), (q4, .inl (cI, 120, .inl (fun _ => 0))), (q5, .inl (cI, 256, .inl (fun _ => 0)))]
  refine c_put (q0 := 0) (j := 7) (ws1 := [(h, .inr (5, [.ref q1, .ref q2, .ref q3, .int 0, .int 0, .ref q4, .int 0, .ref q5, .int 0, .int 0, .int 0, .int 0, .int 0, .null, .int 0])), (q1, .inl (cI, 1816, .inl (fun _ => 0))), (q2, .inl (cI, 5448, .inl (fun _ => 0))), (q3, .inl (cI, 1816, .inl (fun _ => 0))), (q4, .inl (cI, 120, .inl (fun _ => 0))), (q5, .inl (cI, 256, .inl (fun _ => 0)))]) C hin tyX6 tyX6_ok nmX6 rfl rfl (by decide) (by decide +kernel) rfl rfl (tyX6_ok 7 (by decide)) (by first | rfl | decide) (by first | rfl | decide) (Nat.le_of_ble_eq_true rfl) dX6_init_45 rfl rfl ?_
  refine c_aload (i := 0) C dX6_init_48 rfl rfl rfl ?_
  refine c_iconst C dX6_init_49 (v := 3) (by decide) rfl ?_
  refine c_newa (N := 3) C (by decide +kernel) (by decide +kernel) (by decide +kernel) (Nat.le_of_ble_eq_true rfl) (Nat.le_of_ble_eq_true rfl) (Nat.le_of_ble_eq_true rfl) dX6_init_50 rfl (fun q6 => ?_)
  show cV x D 1 6 9459 52 [some (.ref h)] [.ref q6, .ref h] [(h, .inr (5, [.ref q1, .ref q2, .ref q3, .int 0, .int 0, .ref q4, .int 0, .ref q5, .int 0, .int 0, .int 0, .int 0, .int 0, .null, .int 0])), (q1, .inl (cI, 1816, .inl (fun _ => 0))), (q2, .inl (cI, 5448, .inl (fun _ => 0))), (q3, .inl (cI, 1816, .inl (fun _ => 0))), (q4, .inl (cI, 120, .inl (fun _ => 0))), (q5, .inl (cI, 256, .inl (fun _ => 0))), (q6, .inl (cI, 3, .inl (fun _ => 0)))]
  refine c_put (q0 := 0) (j := 13) (ws1 := [(h, .inr (5, [.ref q1, .ref q2, .ref q3, .int 0, .int 0, .ref q4, .int 0, .ref q5, .int 0, .int 0, .int 0, .int 0, .int 0, .ref q6, .int 0])), (q1, .inl (cI, 1816, .inl (fun _ => 0))), (q2, .inl (cI, 5448, .inl (fun _ => 0))), (q3, .inl (cI, 1816, .inl (fun _ => 0))), (q4, .inl (cI, 120, .inl (fun _ => 0))), (q5, .inl (cI, 256, .inl (fun _ => 0))), (q6, .inl (cI, 3, .inl (fun _ => 0)))]) C hin tyX6 tyX6_ok nmX6 rfl rfl (by decide) (by decide +kernel) rfl rfl (tyX6_ok 13 (by decide)) (by first | rfl | decide) (by first | rfl | decide) (Nat.le_of_ble_eq_true rfl) dX6_init_52 rfl rfl ?_
  refine c_aload (i := 0) C dX6_init_55 rfl rfl rfl ?_
  refine c_get (q0 := 0) (j := 0) C hin rfl rfl (by decide) (by decide +kernel) rfl rfl dX6_init_56 rfl ?_
  refine c_iconst C dX6_init_59 (v := 0) (by decide) rfl ?_
  refine c_iconst C dX6_init_60 (v := 2) (by decide) rfl ?_
  refine c_iast (q0 := 1) (j := 0) (ws1 := [(h, .inr (5, [.ref q1, .ref q2, .ref q3, .int 0, .int 0, .ref q4, .int 0, .ref q5, .int 0, .int 0, .int 0, .int 0, .int 0, .ref q6, .int 0])), (q1, .inl (cI, 1816, .inl (upd (fun _ => 0) 0 2))), (q2, .inl (cI, 5448, .inl (fun _ => 0))), (q3, .inl (cI, 1816, .inl (fun _ => 0))), (q4, .inl (cI, 120, .inl (fun _ => 0))), (q5, .inl (cI, 256, .inl (fun _ => 0))), (q6, .inl (cI, 3, .inl (fun _ => 0)))]) C rfl (by unfold vp_in; decide +kernel) (by decide +kernel) dX6_init_61 rfl rfl ?_
  refine c_aload (i := 0) C dX6_init_62 rfl rfl rfl ?_
  refine c_get (q0 := 0) (j := 0) C hin rfl rfl (by decide) (by decide +kernel) rfl rfl dX6_init_63 rfl ?_
  refine c_iconst C dX6_init_66 (v := 1) (by decide) rfl ?_
  refine c_bipush C dX6_init_67 (v := 100) (by decide) rfl ?_
  refine c_iast (q0 := 1) (j := 1) (ws1 := [(h, .inr (5, [.ref q1, .ref q2, .ref q3, .int 0, .int 0, .ref q4, .int 0, .ref q5, .int 0, .int 0, .int 0, .int 0, .int 0, .ref q6, .int 0])), (q1, .inl (cI, 1816, .inl (upd (upd (fun _ => 0) 0 2) 1 100))), (q2, .inl (cI, 5448, .inl (fun _ => 0))), (q3, .inl (cI, 1816, .inl (fun _ => 0))), (q4, .inl (cI, 120, .inl (fun _ => 0))), (q5, .inl (cI, 256, .inl (fun _ => 0))), (q6, .inl (cI, 3, .inl (fun _ => 0)))]) C rfl (by unfold vp_in; decide +kernel) (by decide +kernel) dX6_init_69 rfl rfl ?_
  refine c_aload (i := 0) C dX6_init_70 rfl rfl rfl ?_
  refine c_get (q0 := 0) (j := 0) C hin rfl rfl (by decide) (by decide +kernel) rfl rfl dX6_init_71 rfl ?_
  refine c_iconst C dX6_init_74 (v := 2) (by decide) rfl ?_
  refine c_bipush C dX6_init_75 (v := 20) (by decide) rfl ?_
  refine c_iast (q0 := 1) (j := 2) (ws1 := [(h, .inr (5, [.ref q1, .ref q2, .ref q3, .int 0, .int 0, .ref q4, .int 0, .ref q5, .int 0, .int 0, .int 0, .int 0, .int 0, .ref q6, .int 0])), (q1, .inl (cI, 1816, .inl (upd (upd (upd (fun _ => 0) 0 2) 1 100) 2 20))), (q2, .inl (cI, 5448, .inl (fun _ => 0))), (q3, .inl (cI, 1816, .inl (fun _ => 0))), (q4, .inl (cI, 120, .inl (fun _ => 0))), (q5, .inl (cI, 256, .inl (fun _ => 0))), (q6, .inl (cI, 3, .inl (fun _ => 0)))]) C rfl (by unfold vp_in; decide +kernel) (by decide +kernel) dX6_init_77 rfl rfl ?_
  refine c_aload (i := 0) C dX6_init_78 rfl rfl rfl ?_
  refine c_get (q0 := 0) (j := 0) C hin rfl rfl (by decide) (by decide +kernel) rfl rfl dX6_init_79 rfl ?_
  refine c_iconst C dX6_init_82 (v := 3) (by decide) rfl ?_
  refine c_iconst C dX6_init_83 (v := 2) (by decide) rfl ?_
  refine c_iast (q0 := 1) (j := 3) (ws1 := [(h, .inr (5, [.ref q1, .ref q2, .ref q3, .int 0, .int 0, .ref q4, .int 0, .ref q5, .int 0, .int 0, .int 0, .int 0, .int 0, .ref q6, .int 0])), (q1, .inl (cI, 1816, .inl (upd (upd (upd (upd (fun _ => 0) 0 2) 1 100) 2 20) 3 2))), (q2, .inl (cI, 5448, .inl (fun _ => 0))), (q3, .inl (cI, 1816, .inl (fun _ => 0))), (q4, .inl (cI, 120, .inl (fun _ => 0))), (q5, .inl (cI, 256, .inl (fun _ => 0))), (q6, .inl (cI, 3, .inl (fun _ => 0)))]) C rfl (by unfold vp_in; decide +kernel) (by decide +kernel) dX6_init_84 rfl rfl ?_
  refine c_aload (i := 0) C dX6_init_85 rfl rfl rfl ?_
  refine c_get (q0 := 0) (j := 0) C hin rfl rfl (by decide) (by decide +kernel) rfl rfl dX6_init_86 rfl ?_
  refine c_iconst C dX6_init_89 (v := 4) (by decide) rfl ?_
  refine c_bipush C dX6_init_90 (v := 8) (by decide) rfl ?_
  refine c_iast (q0 := 1) (j := 4) (ws1 := [(h, .inr (5, [.ref q1, .ref q2, .ref q3, .int 0, .int 0, .ref q4, .int 0, .ref q5, .int 0, .int 0, .int 0, .int 0, .int 0, .ref q6, .int 0])), (q1, .inl (cI, 1816, .inl (upd (upd (upd (upd (upd (fun _ => 0) 0 2) 1 100) 2 20) 3 2) 4 8))), (q2, .inl (cI, 5448, .inl (fun _ => 0))), (q3, .inl (cI, 1816, .inl (fun _ => 0))), (q4, .inl (cI, 120, .inl (fun _ => 0))), (q5, .inl (cI, 256, .inl (fun _ => 0))), (q6, .inl (cI, 3, .inl (fun _ => 0)))]) C rfl (by unfold vp_in; decide +kernel) (by decide +kernel) dX6_init_92 rfl rfl ?_
  exact hr _ _ _ _ (q1, q2, q3, q4, q5, q6) (Nat.le_of_ble_eq_true rfl) (Nat.le_of_ble_eq_true rfl) dX6_init_93
