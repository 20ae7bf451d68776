def tX5_refuseOutside (a1 : Int32) (a2 : Int32) (a3 : Int32) (m : zMem) : Option Nat :=
  kc1 (fX5_isOutside a1 a2 a3) fun v1 =>
  if v1 = 0 then
  none
  else
  some 1
set_option maxHeartbeats 4000000 in
set_option maxRecDepth 100000 in
theorem uX5_refuseOutside {l : Launch} {g : zG} {kk : zKK} (hst : l.stackTraces = false) (hC : isC g) (a1 : Int32) (a2 : Int32) (a3 : Int32) (m : zMem) (o : Nat) (hf : tX5_refuseOutside a1 a2 a3 m = some o) : zTV l g kk yX5_refuseOutside wsX5_refuseOutside { frames := 6, cells := 1, slots := 6, locals := 90 } [.int a1, .int a2, .int a3] m o := by
  refine zt_met_v hst (cc := cX5_refuseOutside) (maxL := 3) (lo0 := [some (.int a1), some (.int a2), some (.int a3)]) (by decide +kernel) rfl rfl (Nat.le_of_ble_eq_true rfl) (fun x hx C hx2 => ?_)
  unfold tX5_refuseOutside at hf
  refine z_iload_n (i := 0) C dX5_refuseOutside_0 rfl rfl rfl ?_
  refine z_iload_n (i := 1) C dX5_refuseOutside_1 rfl rfl rfl ?_
  refine z_iload_n (i := 2) C dX5_refuseOutside_2 rfl rfl rfl ?_
  refine z_csiR (As := [.int a1, .int a2, .int a3]) (st := []) (m := m) C gX5_refuseOutside_X5_isOutside hdX5_isOutside rfl (fun z h => qX5_isOutside a1 a2 a3 m z h) rfl (Nat.le_of_ble_eq_true rfl) ⟨Nat.le_of_ble_eq_true rfl, Nat.le_of_ble_eq_true rfl⟩ ⟨Nat.le_of_ble_eq_true rfl, Nat.le_of_ble_eq_true rfl⟩ dX5_refuseOutside_3 rfl rfl hf (fun v1 hf => ?_)
  refine z_if_eq (tgt := 20) C dX5_refuseOutside_6 (by decide) rfl hf (fun hf => ?_) (fun hf => ?_)
  · skip
    cases hf
  · skip
    cases hf
    refine z_thrW (E := 1) (ik := 257) (is := 259) (ic := 261) C hx2 (List.mem_of_getElem? (i := 2) rfl) (by decide +kernel) (by decide +kernel) (by decide +kernel) ex_g1 ex_b1 ex_f1 ex_fn ⟨Nat.le_of_ble_eq_true rfl, Nat.le_of_ble_eq_true rfl⟩ ⟨Nat.le_of_ble_eq_true rfl, Nat.le_of_ble_eq_true rfl⟩ dX5_refuseOutside_9 dX5_refuseOutside_12 dX5_refuseOutside_13 dX5_refuseOutside_16 dX5_refuseOutside_19

def tX5_refuseNegative (a1 : Int32) (m : zMem) : Option Nat :=
  if 0 ≤ a1 then
  none
  else
  some 1
set_option maxHeartbeats 4000000 in
set_option maxRecDepth 100000 in
theorem uX5_refuseNegative {l : Launch} {g : zG} {kk : zKK} (hst : l.stackTraces = false) (hC : isC g) (a1 : Int32) (m : zMem) (o : Nat) (hf : tX5_refuseNegative a1 m = some o) : zTV l g kk yX5_refuseNegative wsX5_refuseNegative { frames := 6, cells := 1, slots := 6, locals := 90 } [.int a1] m o := by
  refine zt_met_v hst (cc := cX5_refuseNegative) (maxL := 1) (lo0 := [some (.int a1)]) (by decide +kernel) rfl rfl (Nat.le_of_ble_eq_true rfl) (fun x hx C hx2 => ?_)
  unfold tX5_refuseNegative at hf
  refine z_iload_n (i := 0) C dX5_refuseNegative_0 rfl rfl rfl ?_
  refine z_if_ge (tgt := 15) C dX5_refuseNegative_1 (by decide) rfl hf (fun hf => ?_) (fun hf => ?_)
  · skip
    cases hf
  · skip
    cases hf
    refine z_thrW (E := 1) (ik := 257) (is := 262) (ic := 261) C hx2 (List.mem_of_getElem? (i := 3) rfl) (by decide +kernel) (by decide +kernel) (by decide +kernel) ex_g1 ex_b1 ex_f1 ex_fn ⟨Nat.le_of_ble_eq_true rfl, Nat.le_of_ble_eq_true rfl⟩ ⟨Nat.le_of_ble_eq_true rfl, Nat.le_of_ble_eq_true rfl⟩ dX5_refuseNegative_4 dX5_refuseNegative_7 dX5_refuseNegative_8 dX5_refuseNegative_11 dX5_refuseNegative_14

def tX5_raise (a1 : Int32) (m : zMem) : Option Nat :=
  if a1 = 1 then
  some 1
  else
  if a1 = 2 then
  some 2
  else
  if a1 = 3 then
  some 3
  else
  none
set_option maxHeartbeats 4000000 in
set_option maxRecDepth 100000 in
theorem uX5_raise {l : Launch} {g : zG} {kk : zKK} (hst : l.stackTraces = false) (hC : isC g) (a1 : Int32) (m : zMem) (o : Nat) (hf : tX5_raise a1 m = some o) : zTV l g kk yX5_raise wsX5_raise { frames := 6, cells := 1, slots := 6, locals := 90 } [.int a1] m o := by
  refine zt_met_v hst (cc := cX5_raise) (maxL := 1) (lo0 := [some (.int a1)]) (by decide +kernel) rfl rfl (Nat.le_of_ble_eq_true rfl) (fun x hx C hx2 => ?_)
  unfold tX5_raise at hf
  refine z_iload_n (i := 0) C dX5_raise_0 rfl rfl rfl ?_
  refine z_iconst C dX5_raise_1 zi_1 rfl ?_
  refine z_ic_ne (tgt := 16) C dX5_raise_2 (by decide) rfl hf (fun hf => ?_) (fun hf => ?_)
  · skip
    refine z_iload_n (i := 0) C dX5_raise_16 rfl rfl rfl ?_
    refine z_iconst C dX5_raise_17 zi_2 rfl ?_
    refine z_ic_ne (tgt := 32) C dX5_raise_18 (by decide) rfl hf (fun hf => ?_) (fun hf => ?_)
    · skip
      refine z_iload_n (i := 0) C dX5_raise_32 rfl rfl rfl ?_
      refine z_iconst C dX5_raise_33 zi_3 rfl ?_
      refine z_ic_ne (tgt := 48) C dX5_raise_34 (by decide) rfl hf (fun hf => ?_) (fun hf => ?_)
      · skip
        cases hf
      · skip
        cases hf
        refine z_thrW (E := 3) (ik := 93) (is := 266) (ic := 97) C hx2 (List.mem_of_getElem? (i := 5) rfl) (by decide +kernel) (by decide +kernel) (by decide +kernel) ex_g3 ex_b3 ex_f3 ex_fn ⟨Nat.le_of_ble_eq_true rfl, Nat.le_of_ble_eq_true rfl⟩ ⟨Nat.le_of_ble_eq_true rfl, Nat.le_of_ble_eq_true rfl⟩ dX5_raise_37 dX5_raise_40 dX5_raise_41 dX5_raise_44 dX5_raise_47
    · skip
      cases hf
      refine z_thrW (E := 2) (ik := 185) (is := 264) (ic := 189) C hx2 (List.mem_of_getElem? (i := 4) rfl) (by decide +kernel) (by decide +kernel) (by decide +kernel) ex_g2 ex_b2 ex_f2 ex_fn ⟨Nat.le_of_ble_eq_true rfl, Nat.le_of_ble_eq_true rfl⟩ ⟨Nat.le_of_ble_eq_true rfl, Nat.le_of_ble_eq_true rfl⟩ dX5_raise_21 dX5_raise_24 dX5_raise_25 dX5_raise_28 dX5_raise_31
  · skip
    cases hf
    refine z_thrW (E := 1) (ik := 257) (is := 259) (ic := 261) C hx2 (List.mem_of_getElem? (i := 2) rfl) (by decide +kernel) (by decide +kernel) (by decide +kernel) ex_g1 ex_b1 ex_f1 ex_fn ⟨Nat.le_of_ble_eq_true rfl, Nat.le_of_ble_eq_true rfl⟩ ⟨Nat.le_of_ble_eq_true rfl, Nat.le_of_ble_eq_true rfl⟩ dX5_raise_5 dX5_raise_8 dX5_raise_9 dX5_raise_12 dX5_raise_15

def tX5_setPuzzles (a1 : Int32) (a2 : Int32) (a3 : Int32) (m : zMem) : Option Nat :=
  kct (tX5_refuseOutside a1 0 6 m) <|
  kc1 (fX5_refuseOutside a1 0 6) fun u1 =>
  kct (tX5_refuseOutside a2 10 1000 m) <|
  kc1 (fX5_refuseOutside a2 10 1000) fun u2 =>
  kct (tX5_refuseOutside a3 5 100 m) <|
  none
set_option maxHeartbeats 4000000 in
set_option maxRecDepth 100000 in
theorem uX5_setPuzzles {l : Launch} {g : zG} {kk : zKK} (hst : l.stackTraces = false) (hC : isC g) (a1 : Int32) (a2 : Int32) (a3 : Int32) (m : zMem) (o : Nat) (hf : tX5_setPuzzles a1 a2 a3 m = some o) : zTI l g kk yX5_setPuzzles wsX5_setPuzzles { frames := 7, cells := 1, slots := 6, locals := 112 } [.ref (zad g 0), .int a1, .int a2, .int a3] m o := by
  refine zt_met_i hst (cc := cX5_setPuzzles) (maxL := 5) (lo0 := [some (.ref (zad g 0)), some (.int a1), some (.int a2), some (.int a3), none]) (by decide +kernel) rfl rfl (Nat.le_of_ble_eq_true rfl) (fun x hx C hx2 => ?_)
  unfold tX5_setPuzzles at hf
  refine z_iload_n (i := 1) C dX5_setPuzzles_0 rfl rfl rfl ?_
  refine z_iconst C dX5_setPuzzles_1 zi_0 rfl ?_
  refine z_bipush C dX5_setPuzzles_2 zb_6 rfl ?_
  refine kct_V hf (fun ht => ?_) (fun hf => ?_)
  · exact z_tcs (As := [.int a1, .int 0, .int 6]) (st := []) C hx2 gX5_setPuzzles_X5_refuseOutside hdX5_refuseOutside rfl (uX5_refuseOutside (hx ▸ hst) hC a1 0 6 m _ ht) rfl (Nat.le_of_ble_eq_true rfl) ⟨Nat.le_of_ble_eq_true rfl, Nat.le_of_ble_eq_true rfl⟩ ⟨Nat.le_of_ble_eq_true rfl, Nat.le_of_ble_eq_true rfl⟩ dX5_setPuzzles_4 rfl
  · skip
    refine z_csvR (As := [.int a1, .int 0, .int 6]) (st := []) (m := m) C gX5_setPuzzles_X5_refuseOutside hdX5_refuseOutside rfl (fun z h => qX5_refuseOutside a1 0 6 m z h) rfl (Nat.le_of_ble_eq_true rfl) ⟨Nat.le_of_ble_eq_true rfl, Nat.le_of_ble_eq_true rfl⟩ ⟨Nat.le_of_ble_eq_true rfl, Nat.le_of_ble_eq_true rfl⟩ dX5_setPuzzles_4 rfl rfl hf (fun u1 hf => ?_)
    refine z_iload_n (i := 2) C dX5_setPuzzles_7 rfl rfl rfl ?_
    refine z_bipush C dX5_setPuzzles_8 zb_10 rfl ?_
    refine z_sipush C dX5_setPuzzles_10 zs_1000 rfl ?_
    refine kct_V hf (fun ht => ?_) (fun hf => ?_)
    · exact z_tcs (As := [.int a2, .int 10, .int 1000]) (st := []) C hx2 gX5_setPuzzles_X5_refuseOutside hdX5_refuseOutside rfl (uX5_refuseOutside (hx ▸ hst) hC a2 10 1000 m _ ht) rfl (Nat.le_of_ble_eq_true rfl) ⟨Nat.le_of_ble_eq_true rfl, Nat.le_of_ble_eq_true rfl⟩ ⟨Nat.le_of_ble_eq_true rfl, Nat.le_of_ble_eq_true rfl⟩ dX5_setPuzzles_13 rfl
    · skip
      refine z_csvR (As := [.int a2, .int 10, .int 1000]) (st := []) (m := m) C gX5_setPuzzles_X5_refuseOutside hdX5_refuseOutside rfl (fun z h => qX5_refuseOutside a2 10 1000 m z h) rfl (Nat.le_of_ble_eq_true rfl) ⟨Nat.le_of_ble_eq_true rfl, Nat.le_of_ble_eq_true rfl⟩ ⟨Nat.le_of_ble_eq_true rfl, Nat.le_of_ble_eq_true rfl⟩ dX5_setPuzzles_13 rfl rfl hf (fun u2 hf => ?_)
      refine z_iload_n (i := 3) C dX5_setPuzzles_16 rfl rfl rfl ?_
      refine z_iconst C dX5_setPuzzles_17 zi_5 rfl ?_
      refine z_bipush C dX5_setPuzzles_18 zb_100 rfl ?_
      refine kct_V hf (fun ht => ?_) (fun hf => ?_)
      · exact z_tcs (As := [.int a3, .int 5, .int 100]) (st := []) C hx2 gX5_setPuzzles_X5_refuseOutside hdX5_refuseOutside rfl (uX5_refuseOutside (hx ▸ hst) hC a3 5 100 m _ ht) rfl (Nat.le_of_ble_eq_true rfl) ⟨Nat.le_of_ble_eq_true rfl, Nat.le_of_ble_eq_true rfl⟩ ⟨Nat.le_of_ble_eq_true rfl, Nat.le_of_ble_eq_true rfl⟩ dX5_setPuzzles_20 rfl
      · skip
        cases hf

def tX5_setQuotas (a1 : Int32) (a2 : Int32) (m : zMem) : Option Nat :=
  kct (tX5_refuseOutside a1 1 4 m) <|
  kc1 (fX5_refuseOutside a1 1 4) fun u1 =>
  kct (tX5_refuseOutside a2 1 32 m) <|
  none
set_option maxHeartbeats 4000000 in
set_option maxRecDepth 100000 in
theorem uX5_setQuotas {l : Launch} {g : zG} {kk : zKK} (hst : l.stackTraces = false) (hC : isC g) (a1 : Int32) (a2 : Int32) (m : zMem) (o : Nat) (hf : tX5_setQuotas a1 a2 m = some o) : zTI l g kk yX5_setQuotas wsX5_setQuotas { frames := 7, cells := 1, slots := 6, locals := 112 } [.ref (zad g 0), .int a1, .int a2] m o := by
  refine zt_met_i hst (cc := cX5_setQuotas) (maxL := 4) (lo0 := [some (.ref (zad g 0)), some (.int a1), some (.int a2), none]) (by decide +kernel) rfl rfl (Nat.le_of_ble_eq_true rfl) (fun x hx C hx2 => ?_)
  unfold tX5_setQuotas at hf
  refine z_iload_n (i := 1) C dX5_setQuotas_0 rfl rfl rfl ?_
  refine z_iconst C dX5_setQuotas_1 zi_1 rfl ?_
  refine z_iconst C dX5_setQuotas_2 zi_4 rfl ?_
  refine kct_V hf (fun ht => ?_) (fun hf => ?_)
  · exact z_tcs (As := [.int a1, .int 1, .int 4]) (st := []) C hx2 gX5_setQuotas_X5_refuseOutside hdX5_refuseOutside rfl (uX5_refuseOutside (hx ▸ hst) hC a1 1 4 m _ ht) rfl (Nat.le_of_ble_eq_true rfl) ⟨Nat.le_of_ble_eq_true rfl, Nat.le_of_ble_eq_true rfl⟩ ⟨Nat.le_of_ble_eq_true rfl, Nat.le_of_ble_eq_true rfl⟩ dX5_setQuotas_3 rfl
  · skip
    refine z_csvR (As := [.int a1, .int 1, .int 4]) (st := []) (m := m) C gX5_setQuotas_X5_refuseOutside hdX5_refuseOutside rfl (fun z h => qX5_refuseOutside a1 1 4 m z h) rfl (Nat.le_of_ble_eq_true rfl) ⟨Nat.le_of_ble_eq_true rfl, Nat.le_of_ble_eq_true rfl⟩ ⟨Nat.le_of_ble_eq_true rfl, Nat.le_of_ble_eq_true rfl⟩ dX5_setQuotas_3 rfl rfl hf (fun u1 hf => ?_)
    refine z_iload_n (i := 2) C dX5_setQuotas_6 rfl rfl rfl ?_
    refine z_iconst C dX5_setQuotas_7 zi_1 rfl ?_
    refine z_bipush C dX5_setQuotas_8 zb_32 rfl ?_
    refine kct_V hf (fun ht => ?_) (fun hf => ?_)
    · exact z_tcs (As := [.int a2, .int 1, .int 32]) (st := []) C hx2 gX5_setQuotas_X5_refuseOutside hdX5_refuseOutside rfl (uX5_refuseOutside (hx ▸ hst) hC a2 1 32 m _ ht) rfl (Nat.le_of_ble_eq_true rfl) ⟨Nat.le_of_ble_eq_true rfl, Nat.le_of_ble_eq_true rfl⟩ ⟨Nat.le_of_ble_eq_true rfl, Nat.le_of_ble_eq_true rfl⟩ dX5_setQuotas_10 rfl
    · skip
      cases hf

def tX5_tick (a1 : Int32) (m : zMem) : Option Nat :=
  kc1 (fX5_tickFault a1) fun v1 =>
  kct (tX5_raise v1 m) <|
  none
set_option maxHeartbeats 4000000 in
set_option maxRecDepth 100000 in
theorem uX5_tick {l : Launch} {g : zG} {kk : zKK} (hst : l.stackTraces = false) (hC : isC g) (a1 : Int32) (m : zMem) (o : Nat) (hf : tX5_tick a1 m = some o) : zTI l g kk yX5_tick wsX5_tick { frames := 7, cells := 1, slots := 6, locals := 110 } [.ref (zad g 0), .int a1] m o := by
  refine zt_met_i hst (cc := cX5_tick) (maxL := 2) (lo0 := [some (.ref (zad g 0)), some (.int a1)]) (by decide +kernel) rfl rfl (Nat.le_of_ble_eq_true rfl) (fun x hx C hx2 => ?_)
  unfold tX5_tick at hf
  refine z_iload_n (i := 1) C dX5_tick_0 rfl rfl rfl ?_
  refine z_csiR (As := [.int a1]) (st := []) (m := m) C gX5_tick_X5_tickFault hdX5_tickFault rfl (fun z h => qX5_tickFault a1 m z h) rfl (Nat.le_of_ble_eq_true rfl) ⟨Nat.le_of_ble_eq_true rfl, Nat.le_of_ble_eq_true rfl⟩ ⟨Nat.le_of_ble_eq_true rfl, Nat.le_of_ble_eq_true rfl⟩ dX5_tick_1 rfl rfl hf (fun v1 hf => ?_)
  refine kct_V hf (fun ht => ?_) (fun hf => ?_)
  · exact z_tcs (As := [.int v1]) (st := []) C hx2 gX5_tick_X5_raise hdX5_raise rfl (uX5_raise (hx ▸ hst) hC v1 m _ ht) rfl (Nat.le_of_ble_eq_true rfl) ⟨Nat.le_of_ble_eq_true rfl, Nat.le_of_ble_eq_true rfl⟩ ⟨Nat.le_of_ble_eq_true rfl, Nat.le_of_ble_eq_true rfl⟩ dX5_tick_4 rfl
  · skip
    cases hf

def tX5_solve (a1 : Int32) (m : zMem) : Option Nat :=
  kct (tX5_refuseOutside a1 0 255 m) <|
  none
set_option maxHeartbeats 4000000 in
set_option maxRecDepth 100000 in
theorem uX5_solve {l : Launch} {g : zG} {kk : zKK} (hst : l.stackTraces = false) (hC : isC g) (a1 : Int32) (m : zMem) (o : Nat) (hf : tX5_solve a1 m = some o) : zTI l g kk yX5_solve wsX5_solve { frames := 7, cells := 1, slots := 6, locals := 112 } [.ref (zad g 0), .int a1] m o := by
  refine zt_met_i hst (cc := cX5_solve) (maxL := 2) (lo0 := [some (.ref (zad g 0)), some (.int a1)]) (by decide +kernel) rfl rfl (Nat.le_of_ble_eq_true rfl) (fun x hx C hx2 => ?_)
  unfold tX5_solve at hf
  refine z_iload_n (i := 1) C dX5_solve_0 rfl rfl rfl ?_
  refine z_iconst C dX5_solve_1 zi_0 rfl ?_
  refine z_sipush C dX5_solve_2 zs_255 rfl ?_
  refine kct_V hf (fun ht => ?_) (fun hf => ?_)
  · exact z_tcs (As := [.int a1, .int 0, .int 255]) (st := []) C hx2 gX5_solve_X5_refuseOutside hdX5_refuseOutside rfl (uX5_refuseOutside (hx ▸ hst) hC a1 0 255 m _ ht) rfl (Nat.le_of_ble_eq_true rfl) ⟨Nat.le_of_ble_eq_true rfl, Nat.le_of_ble_eq_true rfl⟩ ⟨Nat.le_of_ble_eq_true rfl, Nat.le_of_ble_eq_true rfl⟩ dX5_solve_5 rfl
  · skip
    cases hf

def tX5_zeros (a1 : Int32) (a2 : Int32) (a3 : Int32) (m : zMem) : Option Nat :=
  kct (tX5_refuseOutside a1 0 255 m) <|
  kc1 (fX5_refuseOutside a1 0 255) fun u1 =>
  kct (tX5_refuseOutside a2 0 99999 m) <|
  kc1 (fX5_refuseOutside a2 0 99999) fun u2 =>
  kct (tX5_refuseNegative a3 m) <|
  none
set_option maxHeartbeats 4000000 in
set_option maxRecDepth 100000 in
theorem uX5_zeros {l : Launch} {g : zG} {kk : zKK} (hst : l.stackTraces = false) (hC : isC g) (a1 : Int32) (a2 : Int32) (a3 : Int32) (m : zMem) (o : Nat) (hf : tX5_zeros a1 a2 a3 m = some o) : zTI l g kk yX5_zeros wsX5_zeros { frames := 7, cells := 1, slots := 6, locals := 112 } [.ref (zad g 0), .int a1, .int a2, .int a3] m o := by
  refine zt_met_i hst (cc := cX5_zeros) (maxL := 4) (lo0 := [some (.ref (zad g 0)), some (.int a1), some (.int a2), some (.int a3)]) (by decide +kernel) rfl rfl (Nat.le_of_ble_eq_true rfl) (fun x hx C hx2 => ?_)
  unfold tX5_zeros at hf
  refine z_iload_n (i := 1) C dX5_zeros_0 rfl rfl rfl ?_
  refine z_iconst C dX5_zeros_1 zi_0 rfl ?_
  refine z_sipush C dX5_zeros_2 zs_255 rfl ?_
  refine kct_V hf (fun ht => ?_) (fun hf => ?_)
  · exact z_tcs (As := [.int a1, .int 0, .int 255]) (st := []) C hx2 gX5_zeros_X5_refuseOutside hdX5_refuseOutside rfl (uX5_refuseOutside (hx ▸ hst) hC a1 0 255 m _ ht) rfl (Nat.le_of_ble_eq_true rfl) ⟨Nat.le_of_ble_eq_true rfl, Nat.le_of_ble_eq_true rfl⟩ ⟨Nat.le_of_ble_eq_true rfl, Nat.le_of_ble_eq_true rfl⟩ dX5_zeros_5 rfl
  · skip
    refine z_csvR (As := [.int a1, .int 0, .int 255]) (st := []) (m := m) C gX5_zeros_X5_refuseOutside hdX5_refuseOutside rfl (fun z h => qX5_refuseOutside a1 0 255 m z h) rfl (Nat.le_of_ble_eq_true rfl) ⟨Nat.le_of_ble_eq_true rfl, Nat.le_of_ble_eq_true rfl⟩ ⟨Nat.le_of_ble_eq_true rfl, Nat.le_of_ble_eq_true rfl⟩ dX5_zeros_5 rfl rfl hf (fun u1 hf => ?_)
    refine z_iload_n (i := 2) C dX5_zeros_8 rfl rfl rfl ?_
    refine z_iconst C dX5_zeros_9 zi_0 rfl ?_
    refine z_ldc (v := 99999) C (by decide +kernel) dX5_zeros_10 rfl ?_
    refine kct_V hf (fun ht => ?_) (fun hf => ?_)
    · exact z_tcs (As := [.int a2, .int 0, .int 99999]) (st := []) C hx2 gX5_zeros_X5_refuseOutside hdX5_refuseOutside rfl (uX5_refuseOutside (hx ▸ hst) hC a2 0 99999 m _ ht) rfl (Nat.le_of_ble_eq_true rfl) ⟨Nat.le_of_ble_eq_true rfl, Nat.le_of_ble_eq_true rfl⟩ ⟨Nat.le_of_ble_eq_true rfl, Nat.le_of_ble_eq_true rfl⟩ dX5_zeros_12 rfl
    · skip
      refine z_csvR (As := [.int a2, .int 0, .int 99999]) (st := []) (m := m) C gX5_zeros_X5_refuseOutside hdX5_refuseOutside rfl (fun z h => qX5_refuseOutside a2 0 99999 m z h) rfl (Nat.le_of_ble_eq_true rfl) ⟨Nat.le_of_ble_eq_true rfl, Nat.le_of_ble_eq_true rfl⟩ ⟨Nat.le_of_ble_eq_true rfl, Nat.le_of_ble_eq_true rfl⟩ dX5_zeros_12 rfl rfl hf (fun u2 hf => ?_)
      refine z_iload_n (i := 3) C dX5_zeros_15 rfl rfl rfl ?_
      refine kct_V hf (fun ht => ?_) (fun hf => ?_)
      · exact z_tcs (As := [.int a3]) (st := []) C hx2 gX5_zeros_X5_refuseNegative hdX5_refuseNegative rfl (uX5_refuseNegative (hx ▸ hst) hC a3 m _ ht) rfl (Nat.le_of_ble_eq_true rfl) ⟨Nat.le_of_ble_eq_true rfl, Nat.le_of_ble_eq_true rfl⟩ ⟨Nat.le_of_ble_eq_true rfl, Nat.le_of_ble_eq_true rfl⟩ dX5_zeros_16 rfl
      · skip
        cases hf

def tX5_join (a1 : Int32) (a2 : Int32) (a3 : Int32) (a4 : Int32) (m : zMem) : Option Nat :=
  kct (tX5_refuseOutside a3 0 99999 m) <|
  kc1 (fX5_refuseOutside a3 0 99999) fun u1 =>
  kc1 (fX5_entryFault a1 a2 a4 m) fun v2 =>
  kct (tX5_raise v2 m) <|
  kc1 (fX5_raise v2) fun u3 =>
  kgr m 0 fun s4 => kis s4 <|
  kc1 (fX2_isSolvedBy s4 a1 a3 m) fun v5 =>
  if v5 = 0 then
  some 3
  else
  none
set_option maxHeartbeats 4000000 in
set_option maxRecDepth 100000 in
theorem uX5_join {l : Launch} {g : zG} {kk : zKK} (hst : l.stackTraces = false) (hC : isC g) (a1 : Int32) (a2 : Int32) (a3 : Int32) (a4 : Int32) (m : zMem) (o : Nat) (hf : tX5_join a1 a2 a3 a4 m = some o) : zTI l g kk yX5_join wsX5_join { frames := 7, cells := 1, slots := 6, locals := 131 } [.ref (zad g 0), .int a1, .int a2, .int a3, .int a4] m o := by
  refine zt_met_i hst (cc := cX5_join) (maxL := 5) (lo0 := [some (.ref (zad g 0)), some (.int a1), some (.int a2), some (.int a3), some (.int a4)]) (by decide +kernel) rfl rfl (Nat.le_of_ble_eq_true rfl) (fun x hx C hx2 => ?_)
  unfold tX5_join at hf
  refine z_iload_n (i := 3) C dX5_join_0 rfl rfl rfl ?_
  refine z_iconst C dX5_join_1 zi_0 rfl ?_
  refine z_ldc (v := 99999) C (by decide +kernel) dX5_join_2 rfl ?_
  refine kct_V hf (fun ht => ?_) (fun hf => ?_)
  · exact z_tcs (As := [.int a3, .int 0, .int 99999]) (st := []) C hx2 gX5_join_X5_refuseOutside hdX5_refuseOutside rfl (uX5_refuseOutside (hx ▸ hst) hC a3 0 99999 m _ ht) rfl (Nat.le_of_ble_eq_true rfl) ⟨Nat.le_of_ble_eq_true rfl, Nat.le_of_ble_eq_true rfl⟩ ⟨Nat.le_of_ble_eq_true rfl, Nat.le_of_ble_eq_true rfl⟩ dX5_join_4 rfl
  · skip
    refine z_csvR (As := [.int a3, .int 0, .int 99999]) (st := []) (m := m) C gX5_join_X5_refuseOutside hdX5_refuseOutside rfl (fun z h => qX5_refuseOutside a3 0 99999 m z h) rfl (Nat.le_of_ble_eq_true rfl) ⟨Nat.le_of_ble_eq_true rfl, Nat.le_of_ble_eq_true rfl⟩ ⟨Nat.le_of_ble_eq_true rfl, Nat.le_of_ble_eq_true rfl⟩ dX5_join_4 rfl rfl hf (fun u1 hf => ?_)
    refine z_aload_n (i := 0) C dX5_join_7 rfl rfl rfl ?_
    refine z_iload_n (i := 1) C dX5_join_8 rfl rfl rfl ?_
    refine z_iload_n (i := 2) C dX5_join_9 rfl rfl rfl ?_
    refine z_iload C dX5_join_10 rfl rfl ?_
    refine z_cviR (As := [.int a1, .int a2, .int a4]) (st := []) (m := m) C (cl_4 hC) (tn_0 hC) (tc_0 hC) gX5_join_X5_entryFault hdX5_entryFault rfl (fun z h => qX5_entryFault hC a1 a2 a4 m z h) rfl (Nat.le_of_ble_eq_true rfl) ⟨Nat.le_of_ble_eq_true rfl, Nat.le_of_ble_eq_true rfl⟩ ⟨Nat.le_of_ble_eq_true rfl, Nat.le_of_ble_eq_true rfl⟩ dX5_join_12 rfl rfl hf (fun v2 hf => ?_)
    refine kct_V hf (fun ht => ?_) (fun hf => ?_)
    · exact z_tcs (As := [.int v2]) (st := []) C hx2 gX5_join_X5_raise hdX5_raise rfl (uX5_raise (hx ▸ hst) hC v2 m _ ht) rfl (Nat.le_of_ble_eq_true rfl) ⟨Nat.le_of_ble_eq_true rfl, Nat.le_of_ble_eq_true rfl⟩ ⟨Nat.le_of_ble_eq_true rfl, Nat.le_of_ble_eq_true rfl⟩ dX5_join_15 rfl
    · skip
      refine z_csvR (As := [.int v2]) (st := []) (m := m) C gX5_join_X5_raise hdX5_raise rfl (fun z h => qX5_raise v2 m z h) rfl (Nat.le_of_ble_eq_true rfl) ⟨Nat.le_of_ble_eq_true rfl, Nat.le_of_ble_eq_true rfl⟩ ⟨Nat.le_of_ble_eq_true rfl, Nat.le_of_ble_eq_true rfl⟩ dX5_join_15 rfl rfl hf (fun u3 hf => ?_)
      refine z_aload_n (i := 0) C dX5_join_18 rfl rfl rfl ?_
      refine z_gv C (FX5_join_26 hC) (tn_0 hC) (tc_0 hC) rfl dX5_join_19 rfl hf (fun s4 hf => ?_)
      refine kis_V hf (fun hs4 hf => ?_)
      refine z_iload_n (i := 1) C dX5_join_22 rfl rfl rfl ?_
      refine z_iload_n (i := 3) C dX5_join_23 rfl rfl rfl ?_
      refine z_cviR (As := [.int a1, .int a3]) (st := []) (m := m) C (cl_1 hC) (sn_0 hC hs4) (sc_0 hC hs4) gX5_join_X2_isSolvedBy hdX2_isSolvedBy rfl (fun z h => qX2_isSolvedBy hC s4 a1 a3 m hs4 z h) rfl (Nat.le_of_ble_eq_true rfl) ⟨Nat.le_of_ble_eq_true rfl, Nat.le_of_ble_eq_true rfl⟩ ⟨Nat.le_of_ble_eq_true rfl, Nat.le_of_ble_eq_true rfl⟩ dX5_join_24 rfl rfl hf (fun v5 hf => ?_)
      refine z_if_ne (tgt := 40) C dX5_join_27 (by decide) rfl hf (fun hf => ?_) (fun hf => ?_)
      · skip
        cases hf
      · skip
        cases hf
        refine z_thr (E := 3) (ik := 93) (is := 95) (ic := 97) C hx2 (List.mem_of_getElem? (i := 6) rfl) (by decide +kernel) (by decide +kernel) (by decide +kernel) ex_g3 ex_b3 ex_f3 ex_fn ⟨Nat.le_of_ble_eq_true rfl, Nat.le_of_ble_eq_true rfl⟩ ⟨Nat.le_of_ble_eq_true rfl, Nat.le_of_ble_eq_true rfl⟩ dX5_join_30 dX5_join_33 dX5_join_34 dX5_join_36 dX5_join_39

def tX5_admit (N : Nat) (a1 : Int32) (a2 : Int32) (a3 : Int32) (m : zMem) : Option Nat :=
  kc1 (fX5_admissionFault N a1 a2 a3 m) fun v1 =>
  kct (tX5_raise v1 m) <|
  none
set_option maxHeartbeats 4000000 in
set_option maxRecDepth 100000 in
theorem uX5_admit {l : Launch} {g : zG} {kk : zKK} (hst : l.stackTraces = false) (hC : isC g) (N : Nat) (a1 : Int32) (a2 : Int32) (a3 : Int32) (m : zMem) (o : Nat) (hf : tX5_admit N a1 a2 a3 m = some o) : zTI l g kk yX5_admit wsX5_admit { frames := 7, cells := 1, slots := 6, locals := 131 } [.ref (zad g 0), .int a1, .int a2, .int a3] m o := by
  refine zt_met_i hst (cc := cX5_admit) (maxL := 4) (lo0 := [some (.ref (zad g 0)), some (.int a1), some (.int a2), some (.int a3)]) (by decide +kernel) rfl rfl (Nat.le_of_ble_eq_true rfl) (fun x hx C hx2 => ?_)
  unfold tX5_admit at hf
  refine z_aload_n (i := 0) C dX5_admit_0 rfl rfl rfl ?_
  refine z_iload_n (i := 1) C dX5_admit_1 rfl rfl rfl ?_
  refine z_iload_n (i := 2) C dX5_admit_2 rfl rfl rfl ?_
  refine z_iload_n (i := 3) C dX5_admit_3 rfl rfl rfl ?_
  refine z_cviR (As := [.int a1, .int a2, .int a3]) (st := []) (m := m) C (cl_4 hC) (tn_0 hC) (tc_0 hC) gX5_admit_X5_admissionFault hdX5_admissionFault rfl (fun z h => qX5_admissionFault hC N a1 a2 a3 m z h) rfl (Nat.le_of_ble_eq_true rfl) ⟨Nat.le_of_ble_eq_true rfl, Nat.le_of_ble_eq_true rfl⟩ ⟨Nat.le_of_ble_eq_true rfl, Nat.le_of_ble_eq_true rfl⟩ dX5_admit_4 rfl rfl hf (fun v1 hf => ?_)
  refine kct_V hf (fun ht => ?_) (fun hf => ?_)
  · exact z_tcs (As := [.int v1]) (st := []) C hx2 gX5_admit_X5_raise hdX5_raise rfl (uX5_raise (hx ▸ hst) hC v1 m _ ht) rfl (Nat.le_of_ble_eq_true rfl) ⟨Nat.le_of_ble_eq_true rfl, Nat.le_of_ble_eq_true rfl⟩ ⟨Nat.le_of_ble_eq_true rfl, Nat.le_of_ble_eq_true rfl⟩ dX5_admit_7 rfl
  · skip
    cases hf

def tX5_leave (a1 : Int32) (m : zMem) : Option Nat :=
  kc1 (fX5_memberFault a1 m) fun v1 =>
  kct (tX5_raise v1 m) <|
  none
set_option maxHeartbeats 4000000 in
set_option maxRecDepth 100000 in
theorem uX5_leave {l : Launch} {g : zG} {kk : zKK} (hst : l.stackTraces = false) (hC : isC g) (a1 : Int32) (m : zMem) (o : Nat) (hf : tX5_leave a1 m = some o) : zTI l g kk yX5_leave wsX5_leave { frames := 7, cells := 1, slots := 6, locals := 110 } [.ref (zad g 0), .int a1] m o := by
  refine zt_met_i hst (cc := cX5_leave) (maxL := 2) (lo0 := [some (.ref (zad g 0)), some (.int a1)]) (by decide +kernel) rfl rfl (Nat.le_of_ble_eq_true rfl) (fun x hx C hx2 => ?_)
  unfold tX5_leave at hf
  refine z_aload_n (i := 0) C dX5_leave_0 rfl rfl rfl ?_
  refine z_iload_n (i := 1) C dX5_leave_1 rfl rfl rfl ?_
  refine z_cviR (As := [.int a1]) (st := []) (m := m) C (cl_4 hC) (tn_0 hC) (tc_0 hC) gX5_leave_X5_memberFault hdX5_memberFault rfl (fun z h => qX5_memberFault hC a1 m z h) rfl (Nat.le_of_ble_eq_true rfl) ⟨Nat.le_of_ble_eq_true rfl, Nat.le_of_ble_eq_true rfl⟩ ⟨Nat.le_of_ble_eq_true rfl, Nat.le_of_ble_eq_true rfl⟩ dX5_leave_2 rfl rfl hf (fun v1 hf => ?_)
  refine kct_V hf (fun ht => ?_) (fun hf => ?_)
  · exact z_tcs (As := [.int v1]) (st := []) C hx2 gX5_leave_X5_raise hdX5_raise rfl (uX5_raise (hx ▸ hst) hC v1 m _ ht) rfl (Nat.le_of_ble_eq_true rfl) ⟨Nat.le_of_ble_eq_true rfl, Nat.le_of_ble_eq_true rfl⟩ ⟨Nat.le_of_ble_eq_true rfl, Nat.le_of_ble_eq_true rfl⟩ dX5_leave_5 rfl
  · skip
    cases hf
