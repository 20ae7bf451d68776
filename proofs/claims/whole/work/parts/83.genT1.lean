def tX5_swarm (a1 : Int32) (a2 : Int32) (a3 : Int32) (a4 : Int32) (a5 : Int32) (m : zMem) : Option Nat :=
  kct (tX5_refuseOutside a1 0 255 m) <|
  kc1 (fX5_refuseOutside a1 0 255) fun u1 =>
  kct (tX5_refuseOutside a2 1 255 m) <|
  kc1 (fX5_refuseOutside a2 1 255) fun u2 =>
  kct (tX5_refuseOutside a3 1 16 m) <|
  kc1 (fX5_refuseOutside a3 1 16) fun u3 =>
  kct (tX5_refuseOutside a4 0 7 m) <|
  kc1 (fX5_refuseOutside a4 0 7) fun u4 =>
  kc1 (fX5_memberFault a5 m) fun v5 =>
  kct (tX5_raise v5 m) <|
  none
set_option maxHeartbeats 4000000 in
set_option maxRecDepth 100000 in
theorem uX5_swarm {l : Launch} {g : zG} {kk : zKK} (hst : l.stackTraces = false) (hC : isC g) (a1 : Int32) (a2 : Int32) (a3 : Int32) (a4 : Int32) (a5 : Int32) (m : zMem) (o : Nat) (hf : tX5_swarm a1 a2 a3 a4 a5 m = some o) : zTI l g kk yX5_swarm wsX5_swarm { frames := 7, cells := 1, slots := 6, locals := 131 } [.ref (zad g 0), .int a1, .int a2, .int a3, .int a4, .int a5] m o := by
  refine zt_met_i hst (cc := cX5_swarm) (maxL := 9) (lo0 := [some (.ref (zad g 0)), some (.int a1), some (.int a2), some (.int a3), some (.int a4), some (.int a5), none, none, none]) (by decide +kernel) rfl rfl (Nat.le_of_ble_eq_true rfl) (fun x hx C hx2 => ?_)
  unfold tX5_swarm at hf
  refine z_iload_n (i := 1) C dX5_swarm_0 rfl rfl rfl ?_
  refine z_iconst C dX5_swarm_1 zi_0 rfl ?_
  refine z_sipush C dX5_swarm_2 zs_255 rfl ?_
  refine kct_V hf (fun ht => ?_) (fun hf => ?_)
  · exact z_tcs (As := [.int a1, .int 0, .int 255]) (st := []) C hx2 gX5_swarm_X5_refuseOutside hdX5_refuseOutside rfl (uX5_refuseOutside (hx ▸ hst) hC a1 0 255 m _ ht) rfl (Nat.le_of_ble_eq_true rfl) ⟨Nat.le_of_ble_eq_true rfl, Nat.le_of_ble_eq_true rfl⟩ ⟨Nat.le_of_ble_eq_true rfl, Nat.le_of_ble_eq_true rfl⟩ dX5_swarm_5 rfl
  · skip
    refine z_csvR (As := [.int a1, .int 0, .int 255]) (st := []) (m := m) C gX5_swarm_X5_refuseOutside hdX5_refuseOutside rfl (fun z h => qX5_refuseOutside a1 0 255 m z h) rfl (Nat.le_of_ble_eq_true rfl) ⟨Nat.le_of_ble_eq_true rfl, Nat.le_of_ble_eq_true rfl⟩ ⟨Nat.le_of_ble_eq_true rfl, Nat.le_of_ble_eq_true rfl⟩ dX5_swarm_5 rfl rfl hf (fun u1 hf => ?_)
    refine z_iload_n (i := 2) C dX5_swarm_8 rfl rfl rfl ?_
    refine z_iconst C dX5_swarm_9 zi_1 rfl ?_
    refine z_sipush C dX5_swarm_10 zs_255 rfl ?_
    refine kct_V hf (fun ht => ?_) (fun hf => ?_)
    · exact z_tcs (As := [.int a2, .int 1, .int 255]) (st := []) C hx2 gX5_swarm_X5_refuseOutside hdX5_refuseOutside rfl (uX5_refuseOutside (hx ▸ hst) hC a2 1 255 m _ ht) rfl (Nat.le_of_ble_eq_true rfl) ⟨Nat.le_of_ble_eq_true rfl, Nat.le_of_ble_eq_true rfl⟩ ⟨Nat.le_of_ble_eq_true rfl, Nat.le_of_ble_eq_true rfl⟩ dX5_swarm_13 rfl
    · skip
      refine z_csvR (As := [.int a2, .int 1, .int 255]) (st := []) (m := m) C gX5_swarm_X5_refuseOutside hdX5_refuseOutside rfl (fun z h => qX5_refuseOutside a2 1 255 m z h) rfl (Nat.le_of_ble_eq_true rfl) ⟨Nat.le_of_ble_eq_true rfl, Nat.le_of_ble_eq_true rfl⟩ ⟨Nat.le_of_ble_eq_true rfl, Nat.le_of_ble_eq_true rfl⟩ dX5_swarm_13 rfl rfl hf (fun u2 hf => ?_)
      refine z_iload_n (i := 3) C dX5_swarm_16 rfl rfl rfl ?_
      refine z_iconst C dX5_swarm_17 zi_1 rfl ?_
      refine z_bipush C dX5_swarm_18 zb_16 rfl ?_
      refine kct_V hf (fun ht => ?_) (fun hf => ?_)
      · exact z_tcs (As := [.int a3, .int 1, .int 16]) (st := []) C hx2 gX5_swarm_X5_refuseOutside hdX5_refuseOutside rfl (uX5_refuseOutside (hx ▸ hst) hC a3 1 16 m _ ht) rfl (Nat.le_of_ble_eq_true rfl) ⟨Nat.le_of_ble_eq_true rfl, Nat.le_of_ble_eq_true rfl⟩ ⟨Nat.le_of_ble_eq_true rfl, Nat.le_of_ble_eq_true rfl⟩ dX5_swarm_20 rfl
      · skip
        refine z_csvR (As := [.int a3, .int 1, .int 16]) (st := []) (m := m) C gX5_swarm_X5_refuseOutside hdX5_refuseOutside rfl (fun z h => qX5_refuseOutside a3 1 16 m z h) rfl (Nat.le_of_ble_eq_true rfl) ⟨Nat.le_of_ble_eq_true rfl, Nat.le_of_ble_eq_true rfl⟩ ⟨Nat.le_of_ble_eq_true rfl, Nat.le_of_ble_eq_true rfl⟩ dX5_swarm_20 rfl rfl hf (fun u3 hf => ?_)
        refine z_iload C dX5_swarm_23 rfl rfl ?_
        refine z_iconst C dX5_swarm_25 zi_0 rfl ?_
        refine z_bipush C dX5_swarm_26 zb_7 rfl ?_
        refine kct_V hf (fun ht => ?_) (fun hf => ?_)
        · exact z_tcs (As := [.int a4, .int 0, .int 7]) (st := []) C hx2 gX5_swarm_X5_refuseOutside hdX5_refuseOutside rfl (uX5_refuseOutside (hx ▸ hst) hC a4 0 7 m _ ht) rfl (Nat.le_of_ble_eq_true rfl) ⟨Nat.le_of_ble_eq_true rfl, Nat.le_of_ble_eq_true rfl⟩ ⟨Nat.le_of_ble_eq_true rfl, Nat.le_of_ble_eq_true rfl⟩ dX5_swarm_28 rfl
        · skip
          refine z_csvR (As := [.int a4, .int 0, .int 7]) (st := []) (m := m) C gX5_swarm_X5_refuseOutside hdX5_refuseOutside rfl (fun z h => qX5_refuseOutside a4 0 7 m z h) rfl (Nat.le_of_ble_eq_true rfl) ⟨Nat.le_of_ble_eq_true rfl, Nat.le_of_ble_eq_true rfl⟩ ⟨Nat.le_of_ble_eq_true rfl, Nat.le_of_ble_eq_true rfl⟩ dX5_swarm_28 rfl rfl hf (fun u4 hf => ?_)
          refine z_aload_n (i := 0) C dX5_swarm_31 rfl rfl rfl ?_
          refine z_iload C dX5_swarm_32 rfl rfl ?_
          refine z_cviR (As := [.int a5]) (st := []) (m := m) C (cl_4 hC) (tn_0 hC) (tc_0 hC) gX5_swarm_X5_memberFault hdX5_memberFault rfl (fun z h => qX5_memberFault hC a5 m z h) rfl (Nat.le_of_ble_eq_true rfl) ⟨Nat.le_of_ble_eq_true rfl, Nat.le_of_ble_eq_true rfl⟩ ⟨Nat.le_of_ble_eq_true rfl, Nat.le_of_ble_eq_true rfl⟩ dX5_swarm_34 rfl rfl hf (fun v5 hf => ?_)
          refine kct_V hf (fun ht => ?_) (fun hf => ?_)
          · exact z_tcs (As := [.int v5]) (st := []) C hx2 gX5_swarm_X5_raise hdX5_raise rfl (uX5_raise (hx ▸ hst) hC v5 m _ ht) rfl (Nat.le_of_ble_eq_true rfl) ⟨Nat.le_of_ble_eq_true rfl, Nat.le_of_ble_eq_true rfl⟩ ⟨Nat.le_of_ble_eq_true rfl, Nat.le_of_ble_eq_true rfl⟩ dX5_swarm_37 rfl
          · skip
            cases hf

def tX5_lookup (a1 : Int32) (a2 : Int32) (m : zMem) : Option Nat :=
  kc1 (fX5_lookupFault a1 a2 m) fun v1 =>
  kct (tX5_raise v1 m) <|
  none
set_option maxHeartbeats 4000000 in
set_option maxRecDepth 100000 in
theorem uX5_lookup {l : Launch} {g : zG} {kk : zKK} (hst : l.stackTraces = false) (hC : isC g) (a1 : Int32) (a2 : Int32) (m : zMem) (o : Nat) (hf : tX5_lookup a1 a2 m = some o) : zTI l g kk yX5_lookup wsX5_lookup { frames := 7, cells := 1, slots := 6, locals := 110 } [.ref (zad g 0), .int a1, .int a2] m o := by
  refine zt_met_i hst (cc := cX5_lookup) (maxL := 3) (lo0 := [some (.ref (zad g 0)), some (.int a1), some (.int a2)]) (by decide +kernel) rfl rfl (Nat.le_of_ble_eq_true rfl) (fun x hx C hx2 => ?_)
  unfold tX5_lookup at hf
  refine z_aload_n (i := 0) C dX5_lookup_0 rfl rfl rfl ?_
  refine z_iload_n (i := 1) C dX5_lookup_1 rfl rfl rfl ?_
  refine z_iload_n (i := 2) C dX5_lookup_2 rfl rfl rfl ?_
  refine z_cviR (As := [.int a1, .int a2]) (st := []) (m := m) C (cl_4 hC) (tn_0 hC) (tc_0 hC) gX5_lookup_X5_lookupFault hdX5_lookupFault rfl (fun z h => qX5_lookupFault hC a1 a2 m z h) rfl (Nat.le_of_ble_eq_true rfl) ⟨Nat.le_of_ble_eq_true rfl, Nat.le_of_ble_eq_true rfl⟩ ⟨Nat.le_of_ble_eq_true rfl, Nat.le_of_ble_eq_true rfl⟩ dX5_lookup_3 rfl rfl hf (fun v1 hf => ?_)
  refine kct_V hf (fun ht => ?_) (fun hf => ?_)
  · exact z_tcs (As := [.int v1]) (st := []) C hx2 gX5_lookup_X5_raise hdX5_raise rfl (uX5_raise (hx ▸ hst) hC v1 m _ ht) rfl (Nat.le_of_ble_eq_true rfl) ⟨Nat.le_of_ble_eq_true rfl, Nat.le_of_ble_eq_true rfl⟩ ⟨Nat.le_of_ble_eq_true rfl, Nat.le_of_ble_eq_true rfl⟩ dX5_lookup_6 rfl
  · skip
    cases hf

def tX5_probe (a1 : Int32) (a2 : Int32) (a3 : Int32) (m : zMem) : Option Nat :=
  kct (tX5_refuseOutside a3 0 3 m) <|
  kc1 (fX5_refuseOutside a3 0 3) fun u1 =>
  kc1 (fX5_lookupFault a1 a2 m) fun v2 =>
  kct (tX5_raise v2 m) <|
  none
set_option maxHeartbeats 4000000 in
set_option maxRecDepth 100000 in
theorem uX5_probe {l : Launch} {g : zG} {kk : zKK} (hst : l.stackTraces = false) (hC : isC g) (a1 : Int32) (a2 : Int32) (a3 : Int32) (m : zMem) (o : Nat) (hf : tX5_probe a1 a2 a3 m = some o) : zTI l g kk yX5_probe wsX5_probe { frames := 7, cells := 1, slots := 6, locals := 112 } [.ref (zad g 0), .int a1, .int a2, .int a3] m o := by
  refine zt_met_i hst (cc := cX5_probe) (maxL := 4) (lo0 := [some (.ref (zad g 0)), some (.int a1), some (.int a2), some (.int a3)]) (by decide +kernel) rfl rfl (Nat.le_of_ble_eq_true rfl) (fun x hx C hx2 => ?_)
  unfold tX5_probe at hf
  refine z_iload_n (i := 3) C dX5_probe_0 rfl rfl rfl ?_
  refine z_iconst C dX5_probe_1 zi_0 rfl ?_
  refine z_iconst C dX5_probe_2 zi_3 rfl ?_
  refine kct_V hf (fun ht => ?_) (fun hf => ?_)
  · exact z_tcs (As := [.int a3, .int 0, .int 3]) (st := []) C hx2 gX5_probe_X5_refuseOutside hdX5_refuseOutside rfl (uX5_refuseOutside (hx ▸ hst) hC a3 0 3 m _ ht) rfl (Nat.le_of_ble_eq_true rfl) ⟨Nat.le_of_ble_eq_true rfl, Nat.le_of_ble_eq_true rfl⟩ ⟨Nat.le_of_ble_eq_true rfl, Nat.le_of_ble_eq_true rfl⟩ dX5_probe_3 rfl
  · skip
    refine z_csvR (As := [.int a3, .int 0, .int 3]) (st := []) (m := m) C gX5_probe_X5_refuseOutside hdX5_refuseOutside rfl (fun z h => qX5_refuseOutside a3 0 3 m z h) rfl (Nat.le_of_ble_eq_true rfl) ⟨Nat.le_of_ble_eq_true rfl, Nat.le_of_ble_eq_true rfl⟩ ⟨Nat.le_of_ble_eq_true rfl, Nat.le_of_ble_eq_true rfl⟩ dX5_probe_3 rfl rfl hf (fun u1 hf => ?_)
    refine z_aload_n (i := 0) C dX5_probe_6 rfl rfl rfl ?_
    refine z_iload_n (i := 1) C dX5_probe_7 rfl rfl rfl ?_
    refine z_iload_n (i := 2) C dX5_probe_8 rfl rfl rfl ?_
    refine z_cviR (As := [.int a1, .int a2]) (st := []) (m := m) C (cl_4 hC) (tn_0 hC) (tc_0 hC) gX5_probe_X5_lookupFault hdX5_lookupFault rfl (fun z h => qX5_lookupFault hC a1 a2 m z h) rfl (Nat.le_of_ble_eq_true rfl) ⟨Nat.le_of_ble_eq_true rfl, Nat.le_of_ble_eq_true rfl⟩ ⟨Nat.le_of_ble_eq_true rfl, Nat.le_of_ble_eq_true rfl⟩ dX5_probe_9 rfl rfl hf (fun v2 hf => ?_)
    refine kct_V hf (fun ht => ?_) (fun hf => ?_)
    · exact z_tcs (As := [.int v2]) (st := []) C hx2 gX5_probe_X5_raise hdX5_raise rfl (uX5_raise (hx ▸ hst) hC v2 m _ ht) rfl (Nat.le_of_ble_eq_true rfl) ⟨Nat.le_of_ble_eq_true rfl, Nat.le_of_ble_eq_true rfl⟩ ⟨Nat.le_of_ble_eq_true rfl, Nat.le_of_ble_eq_true rfl⟩ dX5_probe_12 rfl
    · skip
      cases hf

def tX5_reach (a1 : Int32) (m : zMem) : Option Nat :=
  kc1 (fX5_memberFault a1 m) fun v1 =>
  kct (tX5_raise v1 m) <|
  none
set_option maxHeartbeats 4000000 in
set_option maxRecDepth 100000 in
theorem uX5_reach {l : Launch} {g : zG} {kk : zKK} (hst : l.stackTraces = false) (hC : isC g) (a1 : Int32) (m : zMem) (o : Nat) (hf : tX5_reach a1 m = some o) : zTI l g kk yX5_reach wsX5_reach { frames := 7, cells := 1, slots := 6, locals := 110 } [.ref (zad g 0), .int a1] m o := by
  refine zt_met_i hst (cc := cX5_reach) (maxL := 4) (lo0 := [some (.ref (zad g 0)), some (.int a1), none, none]) (by decide +kernel) rfl rfl (Nat.le_of_ble_eq_true rfl) (fun x hx C hx2 => ?_)
  unfold tX5_reach at hf
  refine z_aload_n (i := 0) C dX5_reach_0 rfl rfl rfl ?_
  refine z_iload_n (i := 1) C dX5_reach_1 rfl rfl rfl ?_
  refine z_cviR (As := [.int a1]) (st := []) (m := m) C (cl_4 hC) (tn_0 hC) (tc_0 hC) gX5_reach_X5_memberFault hdX5_memberFault rfl (fun z h => qX5_memberFault hC a1 m z h) rfl (Nat.le_of_ble_eq_true rfl) ⟨Nat.le_of_ble_eq_true rfl, Nat.le_of_ble_eq_true rfl⟩ ⟨Nat.le_of_ble_eq_true rfl, Nat.le_of_ble_eq_true rfl⟩ dX5_reach_2 rfl rfl hf (fun v1 hf => ?_)
  refine kct_V hf (fun ht => ?_) (fun hf => ?_)
  · exact z_tcs (As := [.int v1]) (st := []) C hx2 gX5_reach_X5_raise hdX5_raise rfl (uX5_raise (hx ▸ hst) hC v1 m _ ht) rfl (Nat.le_of_ble_eq_true rfl) ⟨Nat.le_of_ble_eq_true rfl, Nat.le_of_ble_eq_true rfl⟩ ⟨Nat.le_of_ble_eq_true rfl, Nat.le_of_ble_eq_true rfl⟩ dX5_reach_5 rfl
  · skip
    cases hf

def tX5_member (a1 : Int32) (a2 : Int32) (m : zMem) : Option Nat :=
  kct (tX5_refuseOutside a1 0 255 m) <|
  kc1 (fX5_refuseOutside a1 0 255) fun u1 =>
  kct (tX5_refuseOutside a2 0 4 m) <|
  none
set_option maxHeartbeats 4000000 in
set_option maxRecDepth 100000 in
theorem uX5_member {l : Launch} {g : zG} {kk : zKK} (hst : l.stackTraces = false) (hC : isC g) (a1 : Int32) (a2 : Int32) (m : zMem) (o : Nat) (hf : tX5_member a1 a2 m = some o) : zTI l g kk yX5_member wsX5_member { frames := 7, cells := 1, slots := 6, locals := 112 } [.ref (zad g 0), .int a1, .int a2] m o := by
  refine zt_met_i hst (cc := cX5_member) (maxL := 3) (lo0 := [some (.ref (zad g 0)), some (.int a1), some (.int a2)]) (by decide +kernel) rfl rfl (Nat.le_of_ble_eq_true rfl) (fun x hx C hx2 => ?_)
  unfold tX5_member at hf
  refine z_iload_n (i := 1) C dX5_member_0 rfl rfl rfl ?_
  refine z_iconst C dX5_member_1 zi_0 rfl ?_
  refine z_sipush C dX5_member_2 zs_255 rfl ?_
  refine kct_V hf (fun ht => ?_) (fun hf => ?_)
  · exact z_tcs (As := [.int a1, .int 0, .int 255]) (st := []) C hx2 gX5_member_X5_refuseOutside hdX5_refuseOutside rfl (uX5_refuseOutside (hx ▸ hst) hC a1 0 255 m _ ht) rfl (Nat.le_of_ble_eq_true rfl) ⟨Nat.le_of_ble_eq_true rfl, Nat.le_of_ble_eq_true rfl⟩ ⟨Nat.le_of_ble_eq_true rfl, Nat.le_of_ble_eq_true rfl⟩ dX5_member_5 rfl
  · skip
    refine z_csvR (As := [.int a1, .int 0, .int 255]) (st := []) (m := m) C gX5_member_X5_refuseOutside hdX5_refuseOutside rfl (fun z h => qX5_refuseOutside a1 0 255 m z h) rfl (Nat.le_of_ble_eq_true rfl) ⟨Nat.le_of_ble_eq_true rfl, Nat.le_of_ble_eq_true rfl⟩ ⟨Nat.le_of_ble_eq_true rfl, Nat.le_of_ble_eq_true rfl⟩ dX5_member_5 rfl rfl hf (fun u1 hf => ?_)
    refine z_iload_n (i := 2) C dX5_member_8 rfl rfl rfl ?_
    refine z_iconst C dX5_member_9 zi_0 rfl ?_
    refine z_iconst C dX5_member_10 zi_4 rfl ?_
    refine kct_V hf (fun ht => ?_) (fun hf => ?_)
    · exact z_tcs (As := [.int a2, .int 0, .int 4]) (st := []) C hx2 gX5_member_X5_refuseOutside hdX5_refuseOutside rfl (uX5_refuseOutside (hx ▸ hst) hC a2 0 4 m _ ht) rfl (Nat.le_of_ble_eq_true rfl) ⟨Nat.le_of_ble_eq_true rfl, Nat.le_of_ble_eq_true rfl⟩ ⟨Nat.le_of_ble_eq_true rfl, Nat.le_of_ble_eq_true rfl⟩ dX5_member_11 rfl
    · skip
      cases hf

def tX5_memberAt (a1 : Int32) (m : zMem) : Option Nat :=
  kct (tX5_refuseNegative a1 m) <|
  none
set_option maxHeartbeats 4000000 in
set_option maxRecDepth 100000 in
theorem uX5_memberAt {l : Launch} {g : zG} {kk : zKK} (hst : l.stackTraces = false) (hC : isC g) (a1 : Int32) (m : zMem) (o : Nat) (hf : tX5_memberAt a1 m = some o) : zTI l g kk yX5_memberAt wsX5_memberAt { frames := 7, cells := 1, slots := 6, locals := 110 } [.ref (zad g 0), .int a1] m o := by
  refine zt_met_i hst (cc := cX5_memberAt) (maxL := 4) (lo0 := [some (.ref (zad g 0)), some (.int a1), none, none]) (by decide +kernel) rfl rfl (Nat.le_of_ble_eq_true rfl) (fun x hx C hx2 => ?_)
  unfold tX5_memberAt at hf
  refine z_iload_n (i := 1) C dX5_memberAt_0 rfl rfl rfl ?_
  refine kct_V hf (fun ht => ?_) (fun hf => ?_)
  · exact z_tcs (As := [.int a1]) (st := []) C hx2 gX5_memberAt_X5_refuseNegative hdX5_refuseNegative rfl (uX5_refuseNegative (hx ▸ hst) hC a1 m _ ht) rfl (Nat.le_of_ble_eq_true rfl) ⟨Nat.le_of_ble_eq_true rfl, Nat.le_of_ble_eq_true rfl⟩ ⟨Nat.le_of_ble_eq_true rfl, Nat.le_of_ble_eq_true rfl⟩ dX5_memberAt_1 rfl
  · skip
    cases hf

def tX5_entry (a1 : Int32) (a2 : Int32) (a3 : Int32) (a4 : Int32) (m : zMem) : Option Nat :=
  kct (tX5_refuseOutside a2 0 7 m) <|
  kc1 (fX5_refuseOutside a2 0 7) fun u1 =>
  kct (tX5_refuseNegative a3 m) <|
  kc1 (fX5_refuseNegative a3) fun u2 =>
  kct (tX5_refuseOutside a4 0 1 m) <|
  kc1 (fX5_refuseOutside a4 0 1) fun u3 =>
  kc1 (fX5_memberFault a1 m) fun v4 =>
  kct (tX5_raise v4 m) <|
  none
set_option maxHeartbeats 4000000 in
set_option maxRecDepth 100000 in
theorem uX5_entry {l : Launch} {g : zG} {kk : zKK} (hst : l.stackTraces = false) (hC : isC g) (a1 : Int32) (a2 : Int32) (a3 : Int32) (a4 : Int32) (m : zMem) (o : Nat) (hf : tX5_entry a1 a2 a3 a4 m = some o) : zTI l g kk yX5_entry wsX5_entry { frames := 7, cells := 1, slots := 6, locals := 112 } [.ref (zad g 0), .int a1, .int a2, .int a3, .int a4] m o := by
  refine zt_met_i hst (cc := cX5_entry) (maxL := 7) (lo0 := [some (.ref (zad g 0)), some (.int a1), some (.int a2), some (.int a3), some (.int a4), none, none]) (by decide +kernel) rfl rfl (Nat.le_of_ble_eq_true rfl) (fun x hx C hx2 => ?_)
  unfold tX5_entry at hf
  refine z_iload_n (i := 2) C dX5_entry_0 rfl rfl rfl ?_
  refine z_iconst C dX5_entry_1 zi_0 rfl ?_
  refine z_bipush C dX5_entry_2 zb_7 rfl ?_
  refine kct_V hf (fun ht => ?_) (fun hf => ?_)
  · exact z_tcs (As := [.int a2, .int 0, .int 7]) (st := []) C hx2 gX5_entry_X5_refuseOutside hdX5_refuseOutside rfl (uX5_refuseOutside (hx ▸ hst) hC a2 0 7 m _ ht) rfl (Nat.le_of_ble_eq_true rfl) ⟨Nat.le_of_ble_eq_true rfl, Nat.le_of_ble_eq_true rfl⟩ ⟨Nat.le_of_ble_eq_true rfl, Nat.le_of_ble_eq_true rfl⟩ dX5_entry_4 rfl
  · skip
    refine z_csvR (As := [.int a2, .int 0, .int 7]) (st := []) (m := m) C gX5_entry_X5_refuseOutside hdX5_refuseOutside rfl (fun z h => qX5_refuseOutside a2 0 7 m z h) rfl (Nat.le_of_ble_eq_true rfl) ⟨Nat.le_of_ble_eq_true rfl, Nat.le_of_ble_eq_true rfl⟩ ⟨Nat.le_of_ble_eq_true rfl, Nat.le_of_ble_eq_true rfl⟩ dX5_entry_4 rfl rfl hf (fun u1 hf => ?_)
    refine z_iload_n (i := 3) C dX5_entry_7 rfl rfl rfl ?_
    refine kct_V hf (fun ht => ?_) (fun hf => ?_)
    · exact z_tcs (As := [.int a3]) (st := []) C hx2 gX5_entry_X5_refuseNegative hdX5_refuseNegative rfl (uX5_refuseNegative (hx ▸ hst) hC a3 m _ ht) rfl (Nat.le_of_ble_eq_true rfl) ⟨Nat.le_of_ble_eq_true rfl, Nat.le_of_ble_eq_true rfl⟩ ⟨Nat.le_of_ble_eq_true rfl, Nat.le_of_ble_eq_true rfl⟩ dX5_entry_8 rfl
    · skip
      refine z_csvR (As := [.int a3]) (st := []) (m := m) C gX5_entry_X5_refuseNegative hdX5_refuseNegative rfl (fun z h => qX5_refuseNegative a3 m z h) rfl (Nat.le_of_ble_eq_true rfl) ⟨Nat.le_of_ble_eq_true rfl, Nat.le_of_ble_eq_true rfl⟩ ⟨Nat.le_of_ble_eq_true rfl, Nat.le_of_ble_eq_true rfl⟩ dX5_entry_8 rfl rfl hf (fun u2 hf => ?_)
      refine z_iload C dX5_entry_11 rfl rfl ?_
      refine z_iconst C dX5_entry_13 zi_0 rfl ?_
      refine z_iconst C dX5_entry_14 zi_1 rfl ?_
      refine kct_V hf (fun ht => ?_) (fun hf => ?_)
      · exact z_tcs (As := [.int a4, .int 0, .int 1]) (st := []) C hx2 gX5_entry_X5_refuseOutside hdX5_refuseOutside rfl (uX5_refuseOutside (hx ▸ hst) hC a4 0 1 m _ ht) rfl (Nat.le_of_ble_eq_true rfl) ⟨Nat.le_of_ble_eq_true rfl, Nat.le_of_ble_eq_true rfl⟩ ⟨Nat.le_of_ble_eq_true rfl, Nat.le_of_ble_eq_true rfl⟩ dX5_entry_15 rfl
      · skip
        refine z_csvR (As := [.int a4, .int 0, .int 1]) (st := []) (m := m) C gX5_entry_X5_refuseOutside hdX5_refuseOutside rfl (fun z h => qX5_refuseOutside a4 0 1 m z h) rfl (Nat.le_of_ble_eq_true rfl) ⟨Nat.le_of_ble_eq_true rfl, Nat.le_of_ble_eq_true rfl⟩ ⟨Nat.le_of_ble_eq_true rfl, Nat.le_of_ble_eq_true rfl⟩ dX5_entry_15 rfl rfl hf (fun u3 hf => ?_)
        refine z_aload_n (i := 0) C dX5_entry_18 rfl rfl rfl ?_
        refine z_iload_n (i := 1) C dX5_entry_19 rfl rfl rfl ?_
        refine z_cviR (As := [.int a1]) (st := []) (m := m) C (cl_4 hC) (tn_0 hC) (tc_0 hC) gX5_entry_X5_memberFault hdX5_memberFault rfl (fun z h => qX5_memberFault hC a1 m z h) rfl (Nat.le_of_ble_eq_true rfl) ⟨Nat.le_of_ble_eq_true rfl, Nat.le_of_ble_eq_true rfl⟩ ⟨Nat.le_of_ble_eq_true rfl, Nat.le_of_ble_eq_true rfl⟩ dX5_entry_20 rfl rfl hf (fun v4 hf => ?_)
        refine kct_V hf (fun ht => ?_) (fun hf => ?_)
        · exact z_tcs (As := [.int v4]) (st := []) C hx2 gX5_entry_X5_raise hdX5_raise rfl (uX5_raise (hx ▸ hst) hC v4 m _ ht) rfl (Nat.le_of_ble_eq_true rfl) ⟨Nat.le_of_ble_eq_true rfl, Nat.le_of_ble_eq_true rfl⟩ ⟨Nat.le_of_ble_eq_true rfl, Nat.le_of_ble_eq_true rfl⟩ dX5_entry_23 rfl
        · skip
          cases hf

def tX5_share (a1 : Int32) (a2 : Int32) (m : zMem) : Option Nat :=
  kct (tX5_refuseOutside a2 0 7 m) <|
  kc1 (fX5_refuseOutside a2 0 7) fun u1 =>
  kc1 (fX5_memberFault a1 m) fun v2 =>
  kct (tX5_raise v2 m) <|
  none
set_option maxHeartbeats 4000000 in
set_option maxRecDepth 100000 in
theorem uX5_share {l : Launch} {g : zG} {kk : zKK} (hst : l.stackTraces = false) (hC : isC g) (a1 : Int32) (a2 : Int32) (m : zMem) (o : Nat) (hf : tX5_share a1 a2 m = some o) : zTI l g kk yX5_share wsX5_share { frames := 7, cells := 1, slots := 6, locals := 112 } [.ref (zad g 0), .int a1, .int a2] m o := by
  refine zt_met_i hst (cc := cX5_share) (maxL := 5) (lo0 := [some (.ref (zad g 0)), some (.int a1), some (.int a2), none, none]) (by decide +kernel) rfl rfl (Nat.le_of_ble_eq_true rfl) (fun x hx C hx2 => ?_)
  unfold tX5_share at hf
  refine z_iload_n (i := 2) C dX5_share_0 rfl rfl rfl ?_
  refine z_iconst C dX5_share_1 zi_0 rfl ?_
  refine z_bipush C dX5_share_2 zb_7 rfl ?_
  refine kct_V hf (fun ht => ?_) (fun hf => ?_)
  · exact z_tcs (As := [.int a2, .int 0, .int 7]) (st := []) C hx2 gX5_share_X5_refuseOutside hdX5_refuseOutside rfl (uX5_refuseOutside (hx ▸ hst) hC a2 0 7 m _ ht) rfl (Nat.le_of_ble_eq_true rfl) ⟨Nat.le_of_ble_eq_true rfl, Nat.le_of_ble_eq_true rfl⟩ ⟨Nat.le_of_ble_eq_true rfl, Nat.le_of_ble_eq_true rfl⟩ dX5_share_4 rfl
  · skip
    refine z_csvR (As := [.int a2, .int 0, .int 7]) (st := []) (m := m) C gX5_share_X5_refuseOutside hdX5_refuseOutside rfl (fun z h => qX5_refuseOutside a2 0 7 m z h) rfl (Nat.le_of_ble_eq_true rfl) ⟨Nat.le_of_ble_eq_true rfl, Nat.le_of_ble_eq_true rfl⟩ ⟨Nat.le_of_ble_eq_true rfl, Nat.le_of_ble_eq_true rfl⟩ dX5_share_4 rfl rfl hf (fun u1 hf => ?_)
    refine z_aload_n (i := 0) C dX5_share_7 rfl rfl rfl ?_
    refine z_iload_n (i := 1) C dX5_share_8 rfl rfl rfl ?_
    refine z_cviR (As := [.int a1]) (st := []) (m := m) C (cl_4 hC) (tn_0 hC) (tc_0 hC) gX5_share_X5_memberFault hdX5_memberFault rfl (fun z h => qX5_memberFault hC a1 m z h) rfl (Nat.le_of_ble_eq_true rfl) ⟨Nat.le_of_ble_eq_true rfl, Nat.le_of_ble_eq_true rfl⟩ ⟨Nat.le_of_ble_eq_true rfl, Nat.le_of_ble_eq_true rfl⟩ dX5_share_9 rfl rfl hf (fun v2 hf => ?_)
    refine kct_V hf (fun ht => ?_) (fun hf => ?_)
    · exact z_tcs (As := [.int v2]) (st := []) C hx2 gX5_share_X5_raise hdX5_raise rfl (uX5_raise (hx ▸ hst) hC v2 m _ ht) rfl (Nat.le_of_ble_eq_true rfl) ⟨Nat.le_of_ble_eq_true rfl, Nat.le_of_ble_eq_true rfl⟩ ⟨Nat.le_of_ble_eq_true rfl, Nat.le_of_ble_eq_true rfl⟩ dX5_share_12 rfl
    · skip
      cases hf

def tX5_overlay (a1 : Int32) (m : zMem) : Option Nat :=
  kct (tX5_refuseOutside a1 0 8 m) <|
  none
set_option maxHeartbeats 4000000 in
set_option maxRecDepth 100000 in
theorem uX5_overlay {l : Launch} {g : zG} {kk : zKK} (hst : l.stackTraces = false) (hC : isC g) (a1 : Int32) (m : zMem) (o : Nat) (hf : tX5_overlay a1 m = some o) : zTI l g kk yX5_overlay wsX5_overlay { frames := 7, cells := 1, slots := 6, locals := 112 } [.ref (zad g 0), .int a1] m o := by
  refine zt_met_i hst (cc := cX5_overlay) (maxL := 2) (lo0 := [some (.ref (zad g 0)), some (.int a1)]) (by decide +kernel) rfl rfl (Nat.le_of_ble_eq_true rfl) (fun x hx C hx2 => ?_)
  unfold tX5_overlay at hf
  refine z_iload_n (i := 1) C dX5_overlay_0 rfl rfl rfl ?_
  refine z_iconst C dX5_overlay_1 zi_0 rfl ?_
  refine z_bipush C dX5_overlay_2 zb_8 rfl ?_
  refine kct_V hf (fun ht => ?_) (fun hf => ?_)
  · exact z_tcs (As := [.int a1, .int 0, .int 8]) (st := []) C hx2 gX5_overlay_X5_refuseOutside hdX5_refuseOutside rfl (uX5_refuseOutside (hx ▸ hst) hC a1 0 8 m _ ht) rfl (Nat.le_of_ble_eq_true rfl) ⟨Nat.le_of_ble_eq_true rfl, Nat.le_of_ble_eq_true rfl⟩ ⟨Nat.le_of_ble_eq_true rfl, Nat.le_of_ble_eq_true rfl⟩ dX5_overlay_4 rfl
  · skip
    cases hf

def tX5_count (a1 : Int32) (m : zMem) : Option Nat :=
  kct (tX5_refuseOutside a1 0 8 m) <|
  none
set_option maxHeartbeats 4000000 in
set_option maxRecDepth 100000 in
theorem uX5_count {l : Launch} {g : zG} {kk : zKK} (hst : l.stackTraces = false) (hC : isC g) (a1 : Int32) (m : zMem) (o : Nat) (hf : tX5_count a1 m = some o) : zTI l g kk yX5_count wsX5_count { frames := 7, cells := 1, slots := 6, locals := 112 } [.ref (zad g 0), .int a1] m o := by
  refine zt_met_i hst (cc := cX5_count) (maxL := 2) (lo0 := [some (.ref (zad g 0)), some (.int a1)]) (by decide +kernel) rfl rfl (Nat.le_of_ble_eq_true rfl) (fun x hx C hx2 => ?_)
  unfold tX5_count at hf
  refine z_iload_n (i := 1) C dX5_count_0 rfl rfl rfl ?_
  refine z_iconst C dX5_count_1 zi_0 rfl ?_
  refine z_bipush C dX5_count_2 zb_8 rfl ?_
  refine kct_V hf (fun ht => ?_) (fun hf => ?_)
  · exact z_tcs (As := [.int a1, .int 0, .int 8]) (st := []) C hx2 gX5_count_X5_refuseOutside hdX5_refuseOutside rfl (uX5_refuseOutside (hx ▸ hst) hC a1 0 8 m _ ht) rfl (Nat.le_of_ble_eq_true rfl) ⟨Nat.le_of_ble_eq_true rfl, Nat.le_of_ble_eq_true rfl⟩ ⟨Nat.le_of_ble_eq_true rfl, Nat.le_of_ble_eq_true rfl⟩ dX5_count_4 rfl
  · skip
    cases hf

def tX5_type (a1 : Int32) (m : zMem) : Option Nat :=
  kct (tX5_refuseOutside a1 0 127 m) <|
  kc1 (fX5_refuseOutside a1 0 127) fun u1 =>
  kgi m 6 1 fun v2 =>
  if v2 < 120 then
  none
  else
  some 2
set_option maxHeartbeats 4000000 in
set_option maxRecDepth 100000 in
theorem uX5_type {l : Launch} {g : zG} {kk : zKK} (hst : l.stackTraces = false) (hC : isC g) (a1 : Int32) (m : zMem) (o : Nat) (hf : tX5_type a1 m = some o) : zTI l g kk yX5_type wsX5_type { frames := 7, cells := 1, slots := 6, locals := 112 } [.ref (zad g 0), .int a1] m o := by
  refine zt_met_i hst (cc := cX5_type) (maxL := 2) (lo0 := [some (.ref (zad g 0)), some (.int a1)]) (by decide +kernel) rfl rfl (Nat.le_of_ble_eq_true rfl) (fun x hx C hx2 => ?_)
  unfold tX5_type at hf
  refine z_iload_n (i := 1) C dX5_type_0 rfl rfl rfl ?_
  refine z_iconst C dX5_type_1 zi_0 rfl ?_
  refine z_bipush C dX5_type_2 zb_127 rfl ?_
  refine kct_V hf (fun ht => ?_) (fun hf => ?_)
  · exact z_tcs (As := [.int a1, .int 0, .int 127]) (st := []) C hx2 gX5_type_X5_refuseOutside hdX5_refuseOutside rfl (uX5_refuseOutside (hx ▸ hst) hC a1 0 127 m _ ht) rfl (Nat.le_of_ble_eq_true rfl) ⟨Nat.le_of_ble_eq_true rfl, Nat.le_of_ble_eq_true rfl⟩ ⟨Nat.le_of_ble_eq_true rfl, Nat.le_of_ble_eq_true rfl⟩ dX5_type_4 rfl
  · skip
    refine z_csvR (As := [.int a1, .int 0, .int 127]) (st := []) (m := m) C gX5_type_X5_refuseOutside hdX5_refuseOutside rfl (fun z h => qX5_refuseOutside a1 0 127 m z h) rfl (Nat.le_of_ble_eq_true rfl) ⟨Nat.le_of_ble_eq_true rfl, Nat.le_of_ble_eq_true rfl⟩ ⟨Nat.le_of_ble_eq_true rfl, Nat.le_of_ble_eq_true rfl⟩ dX5_type_4 rfl rfl hf (fun u1 hf => ?_)
    refine z_aload_n (i := 0) C dX5_type_7 rfl rfl rfl ?_
    refine z_gr C (FX5_type_19 hC) (tn_0 hC) (tc_0 hC) rfl dX5_type_8 rfl ?_
    refine z_gi C (FX5_type_182 hC) (tn_6 hC) (tc_6 hC) rfl dX5_type_11 rfl hf (fun v2 hf => ?_)
    refine z_bipush C dX5_type_14 zb_120 rfl ?_
    refine z_ic_lt (tgt := 29) C dX5_type_16 (by decide) rfl hf (fun hf => ?_) (fun hf => ?_)
    · skip
      cases hf
    · skip
      cases hf
      refine z_thr (E := 2) (ik := 185) (is := 187) (ic := 189) C hx2 (List.mem_of_getElem? (i := 0) rfl) (by decide +kernel) (by decide +kernel) (by decide +kernel) ex_g2 ex_b2 ex_f2 ex_fn ⟨Nat.le_of_ble_eq_true rfl, Nat.le_of_ble_eq_true rfl⟩ ⟨Nat.le_of_ble_eq_true rfl, Nat.le_of_ble_eq_true rfl⟩ dX5_type_19 dX5_type_22 dX5_type_23 dX5_type_25 dX5_type_28

def tX5_undo (m : zMem) : Option Nat :=
  kgi m 0 6 fun v1 =>
  if v1 = 0 then
  some 2
  else
  none
set_option maxHeartbeats 4000000 in
set_option maxRecDepth 100000 in
theorem uX5_undo {l : Launch} {g : zG} {kk : zKK} (hst : l.stackTraces = false) (hC : isC g) (m : zMem) (o : Nat) (hf : tX5_undo m = some o) : zTI l g kk yX5_undo wsX5_undo { frames := 6, cells := 1, slots := 6, locals := 90 } [.ref (zad g 0)] m o := by
  refine zt_met_i hst (cc := cX5_undo) (maxL := 2) (lo0 := [some (.ref (zad g 0)), none]) (by decide +kernel) rfl rfl (Nat.le_of_ble_eq_true rfl) (fun x hx C hx2 => ?_)
  unfold tX5_undo at hf
  refine z_aload_n (i := 0) C dX5_undo_0 rfl rfl rfl ?_
  refine z_gi C (FX5_undo_39 hC) (tn_0 hC) (tc_0 hC) rfl dX5_undo_1 rfl hf (fun v1 hf => ?_)
  refine z_if_ne (tgt := 17) C dX5_undo_4 (by decide) rfl hf (fun hf => ?_) (fun hf => ?_)
  · skip
    cases hf
  · skip
    cases hf
    refine z_thr (E := 2) (ik := 185) (is := 203) (ic := 189) C hx2 (List.mem_of_getElem? (i := 1) rfl) (by decide +kernel) (by decide +kernel) (by decide +kernel) ex_g2 ex_b2 ex_f2 ex_fn ⟨Nat.le_of_ble_eq_true rfl, Nat.le_of_ble_eq_true rfl⟩ ⟨Nat.le_of_ble_eq_true rfl, Nat.le_of_ble_eq_true rfl⟩ dX5_undo_7 dX5_undo_10 dX5_undo_11 dX5_undo_13 dX5_undo_16
