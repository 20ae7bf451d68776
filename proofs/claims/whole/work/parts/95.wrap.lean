/-! the law's wrappers -/
section ZY
variable {x : zF} {g : zG} {kk : zKK} {cL : ClassId} {ao : Nat} {cc : ByteArray} {Ts : List Cond} {own : String} {nL : Nat} {rm : Room} {hh : List (Nat × Nat × Nat × Nat)} {pc : Nat} {lo : List (Option Value)} {st : List Value} {m : zMem} {v : Int64}
variable {y : MethodName} {bytes : ByteArray} {maxL n idx : Nat} {ret : Option FieldType} {tws ws' : List Cond} {As : List Value}
theorem w_catch (K : wK x g kk cL ao cc Ts own nL rm hh) {E fr lc : Nat} {Cn : String} {T : u_T} {N ci b : Nat} {ds : List (Nat × Nat)} (hc : vwCl[ci]? = some (Cn, T, N)) (hb : b < zn g) (hsb : zsh g b = .inr (ci, ds)) (hG : GoodIn Ts (wsV own idx Cn y tws)) (hd : y.cls = Cn ∧ y.cls ≠ "java/lang/invoke/MethodHandle" ∧ y.cls ≠ "java/lang/invoke/VarHandle" ∧ (parseMethodDescriptor y.desc).map (fun d => d.parameters.length) = some n) (hw : tws = Cond.code y bytes maxL ret :: ws') (hM : zTI x.2.1 g kk y tws { frames := fr, cells := 1, slots := 6, locals := lc } (.ref (zad g b) :: As) m E) (hn : As.length = n) (h8 : (st.map fun v => v.category).sum ≤ 8) (hR : fr + 1 ≤ rm.frames ∧ 8 + (maxL + 11) + lc ≤ rm.locals) (hcs : 0 + 1 ≤ rm.cells ∧ 0 + 6 ≤ rm.slots) (hdg : decode cc pc = .ok (.invokevirtual idx, 3)) {stk : List Value} (hst : stk = As.reverse ++ .ref (zad g b) :: st)
    (pre : List ExceptionTableEntry) (x9 : ExceptionTableEntry) (suf : List ExceptionTableEntry) (hsplit : tableOf hh = pre ++ x9 :: suf) (hpass : ∀ z ∈ pre, z.catchType ≠ 0 ∧ ∃ F, exN E ≠ exN F ∧ Cond.classLink own z.catchType (exN F) ∈ Ts) (hcov : covers x9 pc = true) (h0 : x9.catchType ≠ 0) (hlink : Cond.classLink own x9.catchType (exN E) ∈ Ts)
    (k : ∀ q : Nat, cV x (zD g) nL 1 6 x9.handlerPc lo [.ref q] (wW g cL ao m v)) : cV x (zD g) nL 0 0 pc lo stk (wW g cL ao m v) := fun H locs ls hP hD hS hl => by
  obtain ⟨S, ⟨hK, hcl, hA, hrm⟩, hK2, hao, hE, htab⟩ := K
  have hg := zwd_get g m hb
  rw [hsb] at hg
  have hA2 : ∀ q : Nat, zAD g q → zfA x q := fun q h => by obtain ⟨i, h1, h2⟩ := h; rw [h2]; exact hA i h1
  refine vx_calli (vx_runV (As := As) (rest := st) S hM (cwV n S.2.2.2.2 hG hw rfl rfl hd ⟨by rw [hrm]; exact hR.1, by rw [hrm]; exact hR.2⟩) ⟨zPK_blind _ _ _ _, va_recv hK (zP_l hP) hc hg, fun U hU hW => ⟨rfl, ⟨by rw [hU, hcl]; exact zP_l hP, by rw [hcl]; exact va_K.moved hW.alike hK, zD_ad (zD_l hD)⟩, KE.go hE hW (fun a h1 h2 => by rw [hU]; exact hS.2.1 a h1 h2) hA2⟩⟩ rfl hn hl.1 hst (lv_room h8) hdg ⟨by rw [hrm]; exact hcs.1, by rw [hrm]; exact hcs.2⟩) hS (fun q _ h => hA2 q h) hA2 (fun q _ h => hA2 q h) (fun E' ce q9 u t H1 locs1 ht hvm hp hB hz1 hk1 hS1 hce hcv hcl9 => ?_) (fun r u t H1 locs1 ht hvm hq hB hz1 hk1 hS1 => hq.elim)
  obtain ⟨e1, hP1, hK1, hD1⟩ := hB
  subst hp
  subst e1
  rw [ht, hcl] at hP1
  obtain ⟨j1, j2⟩ := g_join hP hD (zwd_has g u) hk1 hP1 hD1
  refine vx_catch S.2.2.2.1 pre x9 suf (htab.trans hsplit) (fun z hz => ?_) hcov h0 (S.2.2.2.2 _ hlink) (va_Nw.use rfl (hE.2.2.2.2.2.2.2.1 E)) hce hcv hcl9 (k q9 H1 locs1 ls j1 j2 hS1 hl)
  obtain ⟨z0, F, hne, hl9⟩ := hpass z hz
  exact Or.inr ⟨z0, exN F, S.2.2.2.2 _ hl9, hE.2.2.2.2.2.2.2.2.1 E F hne⟩
end ZY
theorem ex_12 : exN 1 ≠ exN 2 := by decide
theorem ex_13 : exN 1 ≠ exN 3 := by decide
theorem ex_21 : exN 2 ≠ exN 1 := by decide
theorem ex_31 : exN 3 ≠ exN 1 := by decide
theorem ex_32 : exN 3 ≠ exN 2 := by decide
theorem hdL_setPuzzles : yL_setPuzzles.cls ≠ "java/lang/invoke/MethodHandle" ∧ yL_setPuzzles.cls ≠ "java/lang/invoke/VarHandle" ∧ (parseMethodDescriptor yL_setPuzzles.desc).map (fun d => d.parameters.length) = some 5 := by decide +kernel
set_option maxHeartbeats 4000000 in
set_option maxRecDepth 100000 in
theorem wn_setPuzzles {l : Launch} {g : zG} {kk : zKK} {cL : ClassId} {ao : Nat} (hC : isC g) (a1 : Int32) (a2 : Int32) (a3 : Int32) (m : zMem) (v : Int64) (r : Int32) (m' : zMem) (hf : fX5_setPuzzles a1 a2 a3 m = some (r, m')) : wMet l g kk cL ao yL_setPuzzles wsL_setPuzzles { frames := 8, cells := 1, slots := 6, locals := 136 } [.ref (zad g 0), .int a1, .int a2, .int a3, .ref ao] (m, v) 0 (m', r.toInt64) := by
  refine w_met (cc := cL_setPuzzles) (maxL := 6) (lo0 := [some (.ref (zad g 0)), some (.int a1), some (.int a2), some (.int a3), some (.ref ao), none]) (hh := [(0, 12, 15, 13)]) hC.2.2 (by decide +kernel) rfl rfl (Nat.le_of_ble_eq_true rfl) (fun x hx K hr => ?_)
  have S := K.1
  refine e_aload S dL_setPuzzles_0 rfl rfl ?_
  refine e_iconst S dL_setPuzzles_2 zi_0 rfl ?_
  refine e_aload_n (i := 0) S dL_setPuzzles_3 rfl rfl rfl ?_
  refine e_iload_n (i := 1) S dL_setPuzzles_4 rfl rfl rfl ?_
  refine e_iload_n (i := 2) S dL_setPuzzles_5 rfl rfl rfl ?_
  refine e_iload_n (i := 3) S dL_setPuzzles_6 rfl rfl rfl ?_
  refine e_cvi (As := [.int a1, .int a2, .int a3]) (st := [.int 0, .ref ao]) (m := m) (wr := [(ao, oC cL v)]) S K.2.1 rfl (tn_0 hC) (tc_0 hC) gL_setPuzzles_X5_setPuzzles hdX5_setPuzzles rfl (qX5_setPuzzles hC a1 a2 a3 m _ hf) rfl (Nat.le_of_ble_eq_true rfl) ⟨Nat.le_of_ble_eq_true rfl, Nat.le_of_ble_eq_true rfl⟩ ⟨Nat.le_of_ble_eq_true rfl, Nat.le_of_ble_eq_true rfl⟩ dL_setPuzzles_7 rfl rfl ?_
  refine e_i2l S dL_setPuzzles_10 rfl ?_
  refine w_last K dL_setPuzzles_11 rfl ?_
  refine e_goto (pc' := 19) S dL_setPuzzles_12 (by decide) ?_
  refine e_iconst S dL_setPuzzles_19 zi_0 rfl ?_
  exact hr _ _ _ _ (by decide) (by decide) dL_setPuzzles_20
set_option maxHeartbeats 4000000 in
set_option maxRecDepth 100000 in
theorem wt_setPuzzles_1 {l : Launch} {g : zG} {kk : zKK} {cL : ClassId} {ao : Nat} (hst : l.stackTraces = false) (hC : isC g) (a1 : Int32) (a2 : Int32) (a3 : Int32) (m : zMem) (v : Int64) (hf : tX5_setPuzzles a1 a2 a3 m = some 1) : wMet l g kk cL ao yL_setPuzzles wsL_setPuzzles { frames := 8, cells := 1, slots := 6, locals := 136 } [.ref (zad g 0), .int a1, .int a2, .int a3, .ref ao] (m, v) 1 (m, v) := by
  refine w_met (cc := cL_setPuzzles) (maxL := 6) (lo0 := [some (.ref (zad g 0)), some (.int a1), some (.int a2), some (.int a3), some (.ref ao), none]) (hh := [(0, 12, 15, 13)]) hC.2.2 (by decide +kernel) rfl rfl (Nat.le_of_ble_eq_true rfl) (fun x hx K hr => ?_)
  have S := K.1
  refine e_aload S dL_setPuzzles_0 rfl rfl ?_
  refine e_iconst S dL_setPuzzles_2 zi_0 rfl ?_
  refine e_aload_n (i := 0) S dL_setPuzzles_3 rfl rfl rfl ?_
  refine e_iload_n (i := 1) S dL_setPuzzles_4 rfl rfl rfl ?_
  refine e_iload_n (i := 2) S dL_setPuzzles_5 rfl rfl rfl ?_
  refine e_iload_n (i := 3) S dL_setPuzzles_6 rfl rfl rfl ?_
  refine w_catch (E := 1) (As := [.int a1, .int a2, .int a3]) (st := [.int 0, .ref ao]) (m := m) K rfl (tn_0 hC) (tc_0 hC) gL_setPuzzles_X5_setPuzzles hdX5_setPuzzles rfl (uX5_setPuzzles (hx ▸ hst) hC a1 a2 a3 m _ hf) rfl (Nat.le_of_ble_eq_true rfl) ⟨Nat.le_of_ble_eq_true rfl, Nat.le_of_ble_eq_true rfl⟩ ⟨Nat.le_of_ble_eq_true rfl, Nat.le_of_ble_eq_true rfl⟩ dL_setPuzzles_7 rfl [] (⟨0, 12, 15, 13⟩ : ExceptionTableEntry) [] rfl (fun z hz => nomatch hz) (by decide) (by decide) (by decide +kernel) (fun q => ?_)
  refine e_astore (lo' := [some (.ref (zad g 0)), some (.int a1), some (.int a2), some (.int a3), some (.ref ao), some (.ref q)]) S dL_setPuzzles_15 (Nat.le_of_ble_eq_true rfl) rfl rfl rfl ?_
  refine e_iconst S dL_setPuzzles_17 zi_1 rfl ?_
  exact hr _ _ _ _ (by decide) (by decide) dL_setPuzzles_18
theorem hdL_setQuotas : yL_setQuotas.cls ≠ "java/lang/invoke/MethodHandle" ∧ yL_setQuotas.cls ≠ "java/lang/invoke/VarHandle" ∧ (parseMethodDescriptor yL_setQuotas.desc).map (fun d => d.parameters.length) = some 4 := by decide +kernel
set_option maxHeartbeats 4000000 in
set_option maxRecDepth 100000 in
theorem wn_setQuotas {l : Launch} {g : zG} {kk : zKK} {cL : ClassId} {ao : Nat} (hC : isC g) (a1 : Int32) (a2 : Int32) (m : zMem) (v : Int64) (r : Int32) (m' : zMem) (hf : fX5_setQuotas a1 a2 m = some (r, m')) : wMet l g kk cL ao yL_setQuotas wsL_setQuotas { frames := 8, cells := 1, slots := 6, locals := 135 } [.ref (zad g 0), .int a1, .int a2, .ref ao] (m, v) 0 (m', r.toInt64) := by
  refine w_met (cc := cL_setQuotas) (maxL := 5) (lo0 := [some (.ref (zad g 0)), some (.int a1), some (.int a2), some (.ref ao), none]) (hh := [(0, 10, 13, 13)]) hC.2.2 (by decide +kernel) rfl rfl (Nat.le_of_ble_eq_true rfl) (fun x hx K hr => ?_)
  have S := K.1
  refine e_aload_n (i := 3) S dL_setQuotas_0 rfl rfl rfl ?_
  refine e_iconst S dL_setQuotas_1 zi_0 rfl ?_
  refine e_aload_n (i := 0) S dL_setQuotas_2 rfl rfl rfl ?_
  refine e_iload_n (i := 1) S dL_setQuotas_3 rfl rfl rfl ?_
  refine e_iload_n (i := 2) S dL_setQuotas_4 rfl rfl rfl ?_
  refine e_cvi (As := [.int a1, .int a2]) (st := [.int 0, .ref ao]) (m := m) (wr := [(ao, oC cL v)]) S K.2.1 rfl (tn_0 hC) (tc_0 hC) gL_setQuotas_X5_setQuotas hdX5_setQuotas rfl (qX5_setQuotas hC a1 a2 m _ hf) rfl (Nat.le_of_ble_eq_true rfl) ⟨Nat.le_of_ble_eq_true rfl, Nat.le_of_ble_eq_true rfl⟩ ⟨Nat.le_of_ble_eq_true rfl, Nat.le_of_ble_eq_true rfl⟩ dL_setQuotas_5 rfl rfl ?_
  refine e_i2l S dL_setQuotas_8 rfl ?_
  refine w_last K dL_setQuotas_9 rfl ?_
  refine e_goto (pc' := 17) S dL_setQuotas_10 (by decide) ?_
  refine e_iconst S dL_setQuotas_17 zi_0 rfl ?_
  exact hr _ _ _ _ (by decide) (by decide) dL_setQuotas_18
set_option maxHeartbeats 4000000 in
set_option maxRecDepth 100000 in
theorem wt_setQuotas_1 {l : Launch} {g : zG} {kk : zKK} {cL : ClassId} {ao : Nat} (hst : l.stackTraces = false) (hC : isC g) (a1 : Int32) (a2 : Int32) (m : zMem) (v : Int64) (hf : tX5_setQuotas a1 a2 m = some 1) : wMet l g kk cL ao yL_setQuotas wsL_setQuotas { frames := 8, cells := 1, slots := 6, locals := 135 } [.ref (zad g 0), .int a1, .int a2, .ref ao] (m, v) 1 (m, v) := by
  refine w_met (cc := cL_setQuotas) (maxL := 5) (lo0 := [some (.ref (zad g 0)), some (.int a1), some (.int a2), some (.ref ao), none]) (hh := [(0, 10, 13, 13)]) hC.2.2 (by decide +kernel) rfl rfl (Nat.le_of_ble_eq_true rfl) (fun x hx K hr => ?_)
  have S := K.1
  refine e_aload_n (i := 3) S dL_setQuotas_0 rfl rfl rfl ?_
  refine e_iconst S dL_setQuotas_1 zi_0 rfl ?_
  refine e_aload_n (i := 0) S dL_setQuotas_2 rfl rfl rfl ?_
  refine e_iload_n (i := 1) S dL_setQuotas_3 rfl rfl rfl ?_
  refine e_iload_n (i := 2) S dL_setQuotas_4 rfl rfl rfl ?_
  refine w_catch (E := 1) (As := [.int a1, .int a2]) (st := [.int 0, .ref ao]) (m := m) K rfl (tn_0 hC) (tc_0 hC) gL_setQuotas_X5_setQuotas hdX5_setQuotas rfl (uX5_setQuotas (hx ▸ hst) hC a1 a2 m _ hf) rfl (Nat.le_of_ble_eq_true rfl) ⟨Nat.le_of_ble_eq_true rfl, Nat.le_of_ble_eq_true rfl⟩ ⟨Nat.le_of_ble_eq_true rfl, Nat.le_of_ble_eq_true rfl⟩ dL_setQuotas_5 rfl [] (⟨0, 10, 13, 13⟩ : ExceptionTableEntry) [] rfl (fun z hz => nomatch hz) (by decide) (by decide) (by decide +kernel) (fun q => ?_)
  refine e_astore (lo' := [some (.ref (zad g 0)), some (.int a1), some (.int a2), some (.ref ao), some (.ref q)]) S dL_setQuotas_13 (Nat.le_of_ble_eq_true rfl) rfl rfl rfl ?_
  refine e_iconst S dL_setQuotas_15 zi_1 rfl ?_
  exact hr _ _ _ _ (by decide) (by decide) dL_setQuotas_16
theorem hdL_tick : yL_tick.cls ≠ "java/lang/invoke/MethodHandle" ∧ yL_tick.cls ≠ "java/lang/invoke/VarHandle" ∧ (parseMethodDescriptor yL_tick.desc).map (fun d => d.parameters.length) = some 3 := by decide +kernel
set_option maxHeartbeats 4000000 in
set_option maxRecDepth 100000 in
theorem wn_tick {l : Launch} {g : zG} {kk : zKK} {cL : ClassId} {ao : Nat} (hC : isC g) (N : Nat) (a1 : Int32) (m : zMem) (v : Int64) (r : Int32) (m' : zMem) (hf : fX5_tick N a1 m = some (r, m')) : wMet l g kk cL ao yL_tick wsL_tick { frames := 8, cells := 1, slots := 6, locals := 131 } [.ref (zad g 0), .int a1, .ref ao] (m, v) 0 (m', r.toInt64) := by
  refine w_met (cc := cL_tick) (maxL := 4) (lo0 := [some (.ref (zad g 0)), some (.int a1), some (.ref ao), none]) (hh := [(0, 9, 12, 13)]) hC.2.2 (by decide +kernel) rfl rfl (Nat.le_of_ble_eq_true rfl) (fun x hx K hr => ?_)
  have S := K.1
  refine e_aload_n (i := 2) S dL_tick_0 rfl rfl rfl ?_
  refine e_iconst S dL_tick_1 zi_0 rfl ?_
  refine e_aload_n (i := 0) S dL_tick_2 rfl rfl rfl ?_
  refine e_iload_n (i := 1) S dL_tick_3 rfl rfl rfl ?_
  refine e_cvi (As := [.int a1]) (st := [.int 0, .ref ao]) (m := m) (wr := [(ao, oC cL v)]) S K.2.1 rfl (tn_0 hC) (tc_0 hC) gL_tick_X5_tick hdX5_tick rfl (qX5_tick hC N a1 m _ hf) rfl (Nat.le_of_ble_eq_true rfl) ⟨Nat.le_of_ble_eq_true rfl, Nat.le_of_ble_eq_true rfl⟩ ⟨Nat.le_of_ble_eq_true rfl, Nat.le_of_ble_eq_true rfl⟩ dL_tick_4 rfl rfl ?_
  refine e_i2l S dL_tick_7 rfl ?_
  refine w_last K dL_tick_8 rfl ?_
  refine e_goto (pc' := 15) S dL_tick_9 (by decide) ?_
  refine e_iconst S dL_tick_15 zi_0 rfl ?_
  exact hr _ _ _ _ (by decide) (by decide) dL_tick_16
set_option maxHeartbeats 4000000 in
set_option maxRecDepth 100000 in
theorem wt_tick_1 {l : Launch} {g : zG} {kk : zKK} {cL : ClassId} {ao : Nat} (hst : l.stackTraces = false) (hC : isC g) (a1 : Int32) (m : zMem) (v : Int64) (hf : tX5_tick a1 m = some 1) : wMet l g kk cL ao yL_tick wsL_tick { frames := 8, cells := 1, slots := 6, locals := 131 } [.ref (zad g 0), .int a1, .ref ao] (m, v) 1 (m, v) := by
  refine w_met (cc := cL_tick) (maxL := 4) (lo0 := [some (.ref (zad g 0)), some (.int a1), some (.ref ao), none]) (hh := [(0, 9, 12, 13)]) hC.2.2 (by decide +kernel) rfl rfl (Nat.le_of_ble_eq_true rfl) (fun x hx K hr => ?_)
  have S := K.1
  refine e_aload_n (i := 2) S dL_tick_0 rfl rfl rfl ?_
  refine e_iconst S dL_tick_1 zi_0 rfl ?_
  refine e_aload_n (i := 0) S dL_tick_2 rfl rfl rfl ?_
  refine e_iload_n (i := 1) S dL_tick_3 rfl rfl rfl ?_
  refine w_catch (E := 1) (As := [.int a1]) (st := [.int 0, .ref ao]) (m := m) K rfl (tn_0 hC) (tc_0 hC) gL_tick_X5_tick hdX5_tick rfl (uX5_tick (hx ▸ hst) hC a1 m _ hf) rfl (Nat.le_of_ble_eq_true rfl) ⟨Nat.le_of_ble_eq_true rfl, Nat.le_of_ble_eq_true rfl⟩ ⟨Nat.le_of_ble_eq_true rfl, Nat.le_of_ble_eq_true rfl⟩ dL_tick_4 rfl [] (⟨0, 9, 12, 13⟩ : ExceptionTableEntry) [] rfl (fun z hz => nomatch hz) (by decide) (by decide) (by decide +kernel) (fun q => ?_)
  refine e_astore_n (i := 3) (lo' := [some (.ref (zad g 0)), some (.int a1), some (.ref ao), some (.ref q)]) S dL_tick_12 rfl (Nat.le_of_ble_eq_true rfl) rfl rfl rfl ?_
  refine e_iconst S dL_tick_13 zi_1 rfl ?_
  exact hr _ _ _ _ (by decide) (by decide) dL_tick_14
theorem hdL_solve : yL_solve.cls ≠ "java/lang/invoke/MethodHandle" ∧ yL_solve.cls ≠ "java/lang/invoke/VarHandle" ∧ (parseMethodDescriptor yL_solve.desc).map (fun d => d.parameters.length) = some 3 := by decide +kernel
set_option maxHeartbeats 4000000 in
set_option maxRecDepth 100000 in
theorem wn_solve {l : Launch} {g : zG} {kk : zKK} {cL : ClassId} {ao : Nat} (hC : isC g) (N : Nat) (a1 : Int32) (m : zMem) (v : Int64) (r : Int32) (hf : fX5_solve N a1 m = some r) : wMet l g kk cL ao yL_solve wsL_solve { frames := 8, cells := 1, slots := 6, locals := 133 } [.ref (zad g 0), .int a1, .ref ao] (m, v) 0 (m, r.toInt64) := by
  refine w_met (cc := cL_solve) (maxL := 4) (lo0 := [some (.ref (zad g 0)), some (.int a1), some (.ref ao), none]) (hh := [(0, 9, 12, 13)]) hC.2.2 (by decide +kernel) rfl rfl (Nat.le_of_ble_eq_true rfl) (fun x hx K hr => ?_)
  have S := K.1
  refine e_aload_n (i := 2) S dL_solve_0 rfl rfl rfl ?_
  refine e_iconst S dL_solve_1 zi_0 rfl ?_
  refine e_aload_n (i := 0) S dL_solve_2 rfl rfl rfl ?_
  refine e_iload_n (i := 1) S dL_solve_3 rfl rfl rfl ?_
  refine e_cvi (As := [.int a1]) (st := [.int 0, .ref ao]) (m := m) (wr := [(ao, oC cL v)]) S K.2.1 rfl (tn_0 hC) (tc_0 hC) gL_solve_X5_solve hdX5_solve rfl (qX5_solve hC N a1 m _ hf) rfl (Nat.le_of_ble_eq_true rfl) ⟨Nat.le_of_ble_eq_true rfl, Nat.le_of_ble_eq_true rfl⟩ ⟨Nat.le_of_ble_eq_true rfl, Nat.le_of_ble_eq_true rfl⟩ dL_solve_4 rfl rfl ?_
  refine e_i2l S dL_solve_7 rfl ?_
  refine w_last K dL_solve_8 rfl ?_
  refine e_goto (pc' := 15) S dL_solve_9 (by decide) ?_
  refine e_iconst S dL_solve_15 zi_0 rfl ?_
  exact hr _ _ _ _ (by decide) (by decide) dL_solve_16
set_option maxHeartbeats 4000000 in
set_option maxRecDepth 100000 in
theorem wt_solve_1 {l : Launch} {g : zG} {kk : zKK} {cL : ClassId} {ao : Nat} (hst : l.stackTraces = false) (hC : isC g) (a1 : Int32) (m : zMem) (v : Int64) (hf : tX5_solve a1 m = some 1) : wMet l g kk cL ao yL_solve wsL_solve { frames := 8, cells := 1, slots := 6, locals := 133 } [.ref (zad g 0), .int a1, .ref ao] (m, v) 1 (m, v) := by
  refine w_met (cc := cL_solve) (maxL := 4) (lo0 := [some (.ref (zad g 0)), some (.int a1), some (.ref ao), none]) (hh := [(0, 9, 12, 13)]) hC.2.2 (by decide +kernel) rfl rfl (Nat.le_of_ble_eq_true rfl) (fun x hx K hr => ?_)
  have S := K.1
  refine e_aload_n (i := 2) S dL_solve_0 rfl rfl rfl ?_
  refine e_iconst S dL_solve_1 zi_0 rfl ?_
  refine e_aload_n (i := 0) S dL_solve_2 rfl rfl rfl ?_
  refine e_iload_n (i := 1) S dL_solve_3 rfl rfl rfl ?_
  refine w_catch (E := 1) (As := [.int a1]) (st := [.int 0, .ref ao]) (m := m) K rfl (tn_0 hC) (tc_0 hC) gL_solve_X5_solve hdX5_solve rfl (uX5_solve (hx ▸ hst) hC a1 m _ hf) rfl (Nat.le_of_ble_eq_true rfl) ⟨Nat.le_of_ble_eq_true rfl, Nat.le_of_ble_eq_true rfl⟩ ⟨Nat.le_of_ble_eq_true rfl, Nat.le_of_ble_eq_true rfl⟩ dL_solve_4 rfl [] (⟨0, 9, 12, 13⟩ : ExceptionTableEntry) [] rfl (fun z hz => nomatch hz) (by decide) (by decide) (by decide +kernel) (fun q => ?_)
  refine e_astore_n (i := 3) (lo' := [some (.ref (zad g 0)), some (.int a1), some (.ref ao), some (.ref q)]) S dL_solve_12 rfl (Nat.le_of_ble_eq_true rfl) rfl rfl rfl ?_
  refine e_iconst S dL_solve_13 zi_1 rfl ?_
  exact hr _ _ _ _ (by decide) (by decide) dL_solve_14
theorem hdL_zeros : yL_zeros.cls ≠ "java/lang/invoke/MethodHandle" ∧ yL_zeros.cls ≠ "java/lang/invoke/VarHandle" ∧ (parseMethodDescriptor yL_zeros.desc).map (fun d => d.parameters.length) = some 5 := by decide +kernel
set_option maxHeartbeats 4000000 in
set_option maxRecDepth 100000 in
theorem wn_zeros {l : Launch} {g : zG} {kk : zKK} {cL : ClassId} {ao : Nat} (hC : isC g) (a1 : Int32) (a2 : Int32) (a3 : Int32) (m : zMem) (v : Int64) (r : Int32) (hf : fX5_zeros a1 a2 a3 = some r) : wMet l g kk cL ao yL_zeros wsL_zeros { frames := 8, cells := 1, slots := 6, locals := 135 } [.ref (zad g 0), .int a1, .int a2, .int a3, .ref ao] (m, v) 0 (m, r.toInt64) := by
  refine w_met (cc := cL_zeros) (maxL := 6) (lo0 := [some (.ref (zad g 0)), some (.int a1), some (.int a2), some (.int a3), some (.ref ao), none]) (hh := [(0, 12, 15, 13)]) hC.2.2 (by decide +kernel) rfl rfl (Nat.le_of_ble_eq_true rfl) (fun x hx K hr => ?_)
  have S := K.1
  refine e_aload S dL_zeros_0 rfl rfl ?_
  refine e_iconst S dL_zeros_2 zi_0 rfl ?_
  refine e_aload_n (i := 0) S dL_zeros_3 rfl rfl rfl ?_
  refine e_iload_n (i := 1) S dL_zeros_4 rfl rfl rfl ?_
  refine e_iload_n (i := 2) S dL_zeros_5 rfl rfl rfl ?_
  refine e_iload_n (i := 3) S dL_zeros_6 rfl rfl rfl ?_
  refine e_cvi (As := [.int a1, .int a2, .int a3]) (st := [.int 0, .ref ao]) (m := m) (wr := [(ao, oC cL v)]) S K.2.1 rfl (tn_0 hC) (tc_0 hC) gL_zeros_X5_zeros hdX5_zeros rfl (qX5_zeros hC a1 a2 a3 m _ hf) rfl (Nat.le_of_ble_eq_true rfl) ⟨Nat.le_of_ble_eq_true rfl, Nat.le_of_ble_eq_true rfl⟩ ⟨Nat.le_of_ble_eq_true rfl, Nat.le_of_ble_eq_true rfl⟩ dL_zeros_7 rfl rfl ?_
  refine e_i2l S dL_zeros_10 rfl ?_
  refine w_last K dL_zeros_11 rfl ?_
  refine e_goto (pc' := 19) S dL_zeros_12 (by decide) ?_
  refine e_iconst S dL_zeros_19 zi_0 rfl ?_
  exact hr _ _ _ _ (by decide) (by decide) dL_zeros_20
set_option maxHeartbeats 4000000 in
set_option maxRecDepth 100000 in
theorem wt_zeros_1 {l : Launch} {g : zG} {kk : zKK} {cL : ClassId} {ao : Nat} (hst : l.stackTraces = false) (hC : isC g) (a1 : Int32) (a2 : Int32) (a3 : Int32) (m : zMem) (v : Int64) (hf : tX5_zeros a1 a2 a3 m = some 1) : wMet l g kk cL ao yL_zeros wsL_zeros { frames := 8, cells := 1, slots := 6, locals := 135 } [.ref (zad g 0), .int a1, .int a2, .int a3, .ref ao] (m, v) 1 (m, v) := by
  refine w_met (cc := cL_zeros) (maxL := 6) (lo0 := [some (.ref (zad g 0)), some (.int a1), some (.int a2), some (.int a3), some (.ref ao), none]) (hh := [(0, 12, 15, 13)]) hC.2.2 (by decide +kernel) rfl rfl (Nat.le_of_ble_eq_true rfl) (fun x hx K hr => ?_)
  have S := K.1
  refine e_aload S dL_zeros_0 rfl rfl ?_
  refine e_iconst S dL_zeros_2 zi_0 rfl ?_
  refine e_aload_n (i := 0) S dL_zeros_3 rfl rfl rfl ?_
  refine e_iload_n (i := 1) S dL_zeros_4 rfl rfl rfl ?_
  refine e_iload_n (i := 2) S dL_zeros_5 rfl rfl rfl ?_
  refine e_iload_n (i := 3) S dL_zeros_6 rfl rfl rfl ?_
  refine w_catch (E := 1) (As := [.int a1, .int a2, .int a3]) (st := [.int 0, .ref ao]) (m := m) K rfl (tn_0 hC) (tc_0 hC) gL_zeros_X5_zeros hdX5_zeros rfl (uX5_zeros (hx ▸ hst) hC a1 a2 a3 m _ hf) rfl (Nat.le_of_ble_eq_true rfl) ⟨Nat.le_of_ble_eq_true rfl, Nat.le_of_ble_eq_true rfl⟩ ⟨Nat.le_of_ble_eq_true rfl, Nat.le_of_ble_eq_true rfl⟩ dL_zeros_7 rfl [] (⟨0, 12, 15, 13⟩ : ExceptionTableEntry) [] rfl (fun z hz => nomatch hz) (by decide) (by decide) (by decide +kernel) (fun q => ?_)
  refine e_astore (lo' := [some (.ref (zad g 0)), some (.int a1), some (.int a2), some (.int a3), some (.ref ao), some (.ref q)]) S dL_zeros_15 (Nat.le_of_ble_eq_true rfl) rfl rfl rfl ?_
  refine e_iconst S dL_zeros_17 zi_1 rfl ?_
  exact hr _ _ _ _ (by decide) (by decide) dL_zeros_18
theorem hdL_join : yL_join.cls ≠ "java/lang/invoke/MethodHandle" ∧ yL_join.cls ≠ "java/lang/invoke/VarHandle" ∧ (parseMethodDescriptor yL_join.desc).map (fun d => d.parameters.length) = some 6 := by decide +kernel
set_option maxHeartbeats 4000000 in
set_option maxRecDepth 100000 in
theorem wn_join {l : Launch} {g : zG} {kk : zKK} {cL : ClassId} {ao : Nat} (hC : isC g) (N : Nat) (a1 : Int32) (a2 : Int32) (a3 : Int32) (a4 : Int32) (m : zMem) (v : Int64) (r : Int32) (m' : zMem) (hf : fX5_join N a1 a2 a3 a4 m = some (r, m')) : wMet l g kk cL ao yL_join wsL_join { frames := 8, cells := 1, slots := 6, locals := 155 } [.ref (zad g 0), .int a1, .int a2, .int a3, .int a4, .ref ao] (m, v) 0 (m', r.toInt64) := by
  refine w_met (cc := cL_join) (maxL := 7) (lo0 := [some (.ref (zad g 0)), some (.int a1), some (.int a2), some (.int a3), some (.int a4), some (.ref ao), none]) (hh := [(0, 14, 17, 13), (0, 14, 21, 33), (0, 14, 25, 35)]) hC.2.2 (by decide +kernel) rfl rfl (Nat.le_of_ble_eq_true rfl) (fun x hx K hr => ?_)
  have S := K.1
  refine e_aload S dL_join_0 rfl rfl ?_
  refine e_iconst S dL_join_2 zi_0 rfl ?_
  refine e_aload_n (i := 0) S dL_join_3 rfl rfl rfl ?_
  refine e_iload_n (i := 1) S dL_join_4 rfl rfl rfl ?_
  refine e_iload_n (i := 2) S dL_join_5 rfl rfl rfl ?_
  refine e_iload_n (i := 3) S dL_join_6 rfl rfl rfl ?_
  refine e_iload S dL_join_7 rfl rfl ?_
  refine e_cvi (As := [.int a1, .int a2, .int a3, .int a4]) (st := [.int 0, .ref ao]) (m := m) (wr := [(ao, oC cL v)]) S K.2.1 rfl (tn_0 hC) (tc_0 hC) gL_join_X5_join hdX5_join rfl (qX5_join hC N a1 a2 a3 a4 m _ hf) rfl (Nat.le_of_ble_eq_true rfl) ⟨Nat.le_of_ble_eq_true rfl, Nat.le_of_ble_eq_true rfl⟩ ⟨Nat.le_of_ble_eq_true rfl, Nat.le_of_ble_eq_true rfl⟩ dL_join_9 rfl rfl ?_
  refine e_i2l S dL_join_12 rfl ?_
  refine w_last K dL_join_13 rfl ?_
  refine e_goto (pc' := 29) S dL_join_14 (by decide) ?_
  refine e_iconst S dL_join_29 zi_0 rfl ?_
  exact hr _ _ _ _ (by decide) (by decide) dL_join_30
set_option maxHeartbeats 4000000 in
set_option maxRecDepth 100000 in
theorem wt_join_1 {l : Launch} {g : zG} {kk : zKK} {cL : ClassId} {ao : Nat} (hst : l.stackTraces = false) (hC : isC g) (a1 : Int32) (a2 : Int32) (a3 : Int32) (a4 : Int32) (m : zMem) (v : Int64) (hf : tX5_join a1 a2 a3 a4 m = some 1) : wMet l g kk cL ao yL_join wsL_join { frames := 8, cells := 1, slots := 6, locals := 155 } [.ref (zad g 0), .int a1, .int a2, .int a3, .int a4, .ref ao] (m, v) 1 (m, v) := by
  refine w_met (cc := cL_join) (maxL := 7) (lo0 := [some (.ref (zad g 0)), some (.int a1), some (.int a2), some (.int a3), some (.int a4), some (.ref ao), none]) (hh := [(0, 14, 17, 13), (0, 14, 21, 33), (0, 14, 25, 35)]) hC.2.2 (by decide +kernel) rfl rfl (Nat.le_of_ble_eq_true rfl) (fun x hx K hr => ?_)
  have S := K.1
  refine e_aload S dL_join_0 rfl rfl ?_
  refine e_iconst S dL_join_2 zi_0 rfl ?_
  refine e_aload_n (i := 0) S dL_join_3 rfl rfl rfl ?_
  refine e_iload_n (i := 1) S dL_join_4 rfl rfl rfl ?_
  refine e_iload_n (i := 2) S dL_join_5 rfl rfl rfl ?_
  refine e_iload_n (i := 3) S dL_join_6 rfl rfl rfl ?_
  refine e_iload S dL_join_7 rfl rfl ?_
  refine w_catch (E := 1) (As := [.int a1, .int a2, .int a3, .int a4]) (st := [.int 0, .ref ao]) (m := m) K rfl (tn_0 hC) (tc_0 hC) gL_join_X5_join hdX5_join rfl (uX5_join (hx ▸ hst) hC a1 a2 a3 a4 m _ hf) rfl (Nat.le_of_ble_eq_true rfl) ⟨Nat.le_of_ble_eq_true rfl, Nat.le_of_ble_eq_true rfl⟩ ⟨Nat.le_of_ble_eq_true rfl, Nat.le_of_ble_eq_true rfl⟩ dL_join_9 rfl [] (⟨0, 14, 17, 13⟩ : ExceptionTableEntry) [(⟨0, 14, 21, 33⟩ : ExceptionTableEntry), (⟨0, 14, 25, 35⟩ : ExceptionTableEntry)] rfl (fun z hz => nomatch hz) (by decide) (by decide) (by decide +kernel) (fun q => ?_)
  refine e_astore (lo' := [some (.ref (zad g 0)), some (.int a1), some (.int a2), some (.int a3), some (.int a4), some (.ref ao), some (.ref q)]) S dL_join_17 (Nat.le_of_ble_eq_true rfl) rfl rfl rfl ?_
  refine e_iconst S dL_join_19 zi_1 rfl ?_
  exact hr _ _ _ _ (by decide) (by decide) dL_join_20
set_option maxHeartbeats 4000000 in
set_option maxRecDepth 100000 in
theorem wt_join_2 {l : Launch} {g : zG} {kk : zKK} {cL : ClassId} {ao : Nat} (hst : l.stackTraces = false) (hC : isC g) (a1 : Int32) (a2 : Int32) (a3 : Int32) (a4 : Int32) (m : zMem) (v : Int64) (hf : tX5_join a1 a2 a3 a4 m = some 2) : wMet l g kk cL ao yL_join wsL_join { frames := 8, cells := 1, slots := 6, locals := 155 } [.ref (zad g 0), .int a1, .int a2, .int a3, .int a4, .ref ao] (m, v) 2 (m, v) := by
  refine w_met (cc := cL_join) (maxL := 7) (lo0 := [some (.ref (zad g 0)), some (.int a1), some (.int a2), some (.int a3), some (.int a4), some (.ref ao), none]) (hh := [(0, 14, 17, 13), (0, 14, 21, 33), (0, 14, 25, 35)]) hC.2.2 (by decide +kernel) rfl rfl (Nat.le_of_ble_eq_true rfl) (fun x hx K hr => ?_)
  have S := K.1
  refine e_aload S dL_join_0 rfl rfl ?_
  refine e_iconst S dL_join_2 zi_0 rfl ?_
  refine e_aload_n (i := 0) S dL_join_3 rfl rfl rfl ?_
  refine e_iload_n (i := 1) S dL_join_4 rfl rfl rfl ?_
  refine e_iload_n (i := 2) S dL_join_5 rfl rfl rfl ?_
  refine e_iload_n (i := 3) S dL_join_6 rfl rfl rfl ?_
  refine e_iload S dL_join_7 rfl rfl ?_
  refine w_catch (E := 2) (As := [.int a1, .int a2, .int a3, .int a4]) (st := [.int 0, .ref ao]) (m := m) K rfl (tn_0 hC) (tc_0 hC) gL_join_X5_join hdX5_join rfl (uX5_join (hx ▸ hst) hC a1 a2 a3 a4 m _ hf) rfl (Nat.le_of_ble_eq_true rfl) ⟨Nat.le_of_ble_eq_true rfl, Nat.le_of_ble_eq_true rfl⟩ ⟨Nat.le_of_ble_eq_true rfl, Nat.le_of_ble_eq_true rfl⟩ dL_join_9 rfl [(⟨0, 14, 17, 13⟩ : ExceptionTableEntry)] (⟨0, 14, 21, 33⟩ : ExceptionTableEntry) [(⟨0, 14, 25, 35⟩ : ExceptionTableEntry)] rfl (fun z hz => by cases hz with | head => exact ⟨by decide, 1, ex_21, by decide +kernel⟩ | tail _ hz => cases hz) (by decide) (by decide) (by decide +kernel) (fun q => ?_)
  refine e_astore (lo' := [some (.ref (zad g 0)), some (.int a1), some (.int a2), some (.int a3), some (.int a4), some (.ref ao), some (.ref q)]) S dL_join_21 (Nat.le_of_ble_eq_true rfl) rfl rfl rfl ?_
  refine e_iconst S dL_join_23 zi_2 rfl ?_
  exact hr _ _ _ _ (by decide) (by decide) dL_join_24
set_option maxHeartbeats 4000000 in
set_option maxRecDepth 100000 in
theorem wt_join_3 {l : Launch} {g : zG} {kk : zKK} {cL : ClassId} {ao : Nat} (hst : l.stackTraces = false) (hC : isC g) (a1 : Int32) (a2 : Int32) (a3 : Int32) (a4 : Int32) (m : zMem) (v : Int64) (hf : tX5_join a1 a2 a3 a4 m = some 3) : wMet l g kk cL ao yL_join wsL_join { frames := 8, cells := 1, slots := 6, locals := 155 } [.ref (zad g 0), .int a1, .int a2, .int a3, .int a4, .ref ao] (m, v) 3 (m, v) := by
  refine w_met (cc := cL_join) (maxL := 7) (lo0 := [some (.ref (zad g 0)), some (.int a1), some (.int a2), some (.int a3), some (.int a4), some (.ref ao), none]) (hh := [(0, 14, 17, 13), (0, 14, 21, 33), (0, 14, 25, 35)]) hC.2.2 (by decide +kernel) rfl rfl (Nat.le_of_ble_eq_true rfl) (fun x hx K hr => ?_)
  have S := K.1
  refine e_aload S dL_join_0 rfl rfl ?_
  refine e_iconst S dL_join_2 zi_0 rfl ?_
  refine e_aload_n (i := 0) S dL_join_3 rfl rfl rfl ?_
  refine e_iload_n (i := 1) S dL_join_4 rfl rfl rfl ?_
  refine e_iload_n (i := 2) S dL_join_5 rfl rfl rfl ?_
  refine e_iload_n (i := 3) S dL_join_6 rfl rfl rfl ?_
  refine e_iload S dL_join_7 rfl rfl ?_
  refine w_catch (E := 3) (As := [.int a1, .int a2, .int a3, .int a4]) (st := [.int 0, .ref ao]) (m := m) K rfl (tn_0 hC) (tc_0 hC) gL_join_X5_join hdX5_join rfl (uX5_join (hx ▸ hst) hC a1 a2 a3 a4 m _ hf) rfl (Nat.le_of_ble_eq_true rfl) ⟨Nat.le_of_ble_eq_true rfl, Nat.le_of_ble_eq_true rfl⟩ ⟨Nat.le_of_ble_eq_true rfl, Nat.le_of_ble_eq_true rfl⟩ dL_join_9 rfl [(⟨0, 14, 17, 13⟩ : ExceptionTableEntry), (⟨0, 14, 21, 33⟩ : ExceptionTableEntry)] (⟨0, 14, 25, 35⟩ : ExceptionTableEntry) [] rfl (fun z hz => by cases hz with | head => exact ⟨by decide, 1, ex_31, by decide +kernel⟩ | tail _ hz => cases hz with | head => exact ⟨by decide, 2, ex_32, by decide +kernel⟩ | tail _ hz => cases hz) (by decide) (by decide) (by decide +kernel) (fun q => ?_)
  refine e_astore (lo' := [some (.ref (zad g 0)), some (.int a1), some (.int a2), some (.int a3), some (.int a4), some (.ref ao), some (.ref q)]) S dL_join_25 (Nat.le_of_ble_eq_true rfl) rfl rfl rfl ?_
  refine e_iconst S dL_join_27 zi_3 rfl ?_
  exact hr _ _ _ _ (by decide) (by decide) dL_join_28
theorem hdL_admit : yL_admit.cls ≠ "java/lang/invoke/MethodHandle" ∧ yL_admit.cls ≠ "java/lang/invoke/VarHandle" ∧ (parseMethodDescriptor yL_admit.desc).map (fun d => d.parameters.length) = some 5 := by decide +kernel
set_option maxHeartbeats 4000000 in
set_option maxRecDepth 100000 in
theorem wn_admit {l : Launch} {g : zG} {kk : zKK} {cL : ClassId} {ao : Nat} (hC : isC g) (N : Nat) (a1 : Int32) (a2 : Int32) (a3 : Int32) (m : zMem) (v : Int64) (r : Int32) (m' : zMem) (hf : fX5_admit N a1 a2 a3 m = some (r, m')) : wMet l g kk cL ao yL_admit wsL_admit { frames := 8, cells := 1, slots := 6, locals := 154 } [.ref (zad g 0), .int a1, .int a2, .int a3, .ref ao] (m, v) 0 (m', r.toInt64) := by
  refine w_met (cc := cL_admit) (maxL := 6) (lo0 := [some (.ref (zad g 0)), some (.int a1), some (.int a2), some (.int a3), some (.ref ao), none]) (hh := [(0, 12, 15, 13), (0, 12, 19, 33), (0, 12, 23, 35)]) hC.2.2 (by decide +kernel) rfl rfl (Nat.le_of_ble_eq_true rfl) (fun x hx K hr => ?_)
  have S := K.1
  refine e_aload S dL_admit_0 rfl rfl ?_
  refine e_iconst S dL_admit_2 zi_0 rfl ?_
  refine e_aload_n (i := 0) S dL_admit_3 rfl rfl rfl ?_
  refine e_iload_n (i := 1) S dL_admit_4 rfl rfl rfl ?_
  refine e_iload_n (i := 2) S dL_admit_5 rfl rfl rfl ?_
  refine e_iload_n (i := 3) S dL_admit_6 rfl rfl rfl ?_
  refine e_cvi (As := [.int a1, .int a2, .int a3]) (st := [.int 0, .ref ao]) (m := m) (wr := [(ao, oC cL v)]) S K.2.1 rfl (tn_0 hC) (tc_0 hC) gL_admit_X5_admit hdX5_admit rfl (qX5_admit hC N a1 a2 a3 m _ hf) rfl (Nat.le_of_ble_eq_true rfl) ⟨Nat.le_of_ble_eq_true rfl, Nat.le_of_ble_eq_true rfl⟩ ⟨Nat.le_of_ble_eq_true rfl, Nat.le_of_ble_eq_true rfl⟩ dL_admit_7 rfl rfl ?_
  refine e_i2l S dL_admit_10 rfl ?_
  refine w_last K dL_admit_11 rfl ?_
  refine e_goto (pc' := 27) S dL_admit_12 (by decide) ?_
  refine e_iconst S dL_admit_27 zi_0 rfl ?_
  exact hr _ _ _ _ (by decide) (by decide) dL_admit_28
set_option maxHeartbeats 4000000 in
set_option maxRecDepth 100000 in
theorem wt_admit_1 {l : Launch} {g : zG} {kk : zKK} {cL : ClassId} {ao : Nat} (hst : l.stackTraces = false) (hC : isC g) (N : Nat) (a1 : Int32) (a2 : Int32) (a3 : Int32) (m : zMem) (v : Int64) (hf : tX5_admit N a1 a2 a3 m = some 1) : wMet l g kk cL ao yL_admit wsL_admit { frames := 8, cells := 1, slots := 6, locals := 154 } [.ref (zad g 0), .int a1, .int a2, .int a3, .ref ao] (m, v) 1 (m, v) := by
  refine w_met (cc := cL_admit) (maxL := 6) (lo0 := [some (.ref (zad g 0)), some (.int a1), some (.int a2), some (.int a3), some (.ref ao), none]) (hh := [(0, 12, 15, 13), (0, 12, 19, 33), (0, 12, 23, 35)]) hC.2.2 (by decide +kernel) rfl rfl (Nat.le_of_ble_eq_true rfl) (fun x hx K hr => ?_)
  have S := K.1
  refine e_aload S dL_admit_0 rfl rfl ?_
  refine e_iconst S dL_admit_2 zi_0 rfl ?_
  refine e_aload_n (i := 0) S dL_admit_3 rfl rfl rfl ?_
  refine e_iload_n (i := 1) S dL_admit_4 rfl rfl rfl ?_
  refine e_iload_n (i := 2) S dL_admit_5 rfl rfl rfl ?_
  refine e_iload_n (i := 3) S dL_admit_6 rfl rfl rfl ?_
  refine w_catch (E := 1) (As := [.int a1, .int a2, .int a3]) (st := [.int 0, .ref ao]) (m := m) K rfl (tn_0 hC) (tc_0 hC) gL_admit_X5_admit hdX5_admit rfl (uX5_admit (hx ▸ hst) hC N a1 a2 a3 m _ hf) rfl (Nat.le_of_ble_eq_true rfl) ⟨Nat.le_of_ble_eq_true rfl, Nat.le_of_ble_eq_true rfl⟩ ⟨Nat.le_of_ble_eq_true rfl, Nat.le_of_ble_eq_true rfl⟩ dL_admit_7 rfl [] (⟨0, 12, 15, 13⟩ : ExceptionTableEntry) [(⟨0, 12, 19, 33⟩ : ExceptionTableEntry), (⟨0, 12, 23, 35⟩ : ExceptionTableEntry)] rfl (fun z hz => nomatch hz) (by decide) (by decide) (by decide +kernel) (fun q => ?_)
  refine e_astore (lo' := [some (.ref (zad g 0)), some (.int a1), some (.int a2), some (.int a3), some (.ref ao), some (.ref q)]) S dL_admit_15 (Nat.le_of_ble_eq_true rfl) rfl rfl rfl ?_
  refine e_iconst S dL_admit_17 zi_1 rfl ?_
  exact hr _ _ _ _ (by decide) (by decide) dL_admit_18
set_option maxHeartbeats 4000000 in
set_option maxRecDepth 100000 in
theorem wt_admit_2 {l : Launch} {g : zG} {kk : zKK} {cL : ClassId} {ao : Nat} (hst : l.stackTraces = false) (hC : isC g) (N : Nat) (a1 : Int32) (a2 : Int32) (a3 : Int32) (m : zMem) (v : Int64) (hf : tX5_admit N a1 a2 a3 m = some 2) : wMet l g kk cL ao yL_admit wsL_admit { frames := 8, cells := 1, slots := 6, locals := 154 } [.ref (zad g 0), .int a1, .int a2, .int a3, .ref ao] (m, v) 2 (m, v) := by
  refine w_met (cc := cL_admit) (maxL := 6) (lo0 := [some (.ref (zad g 0)), some (.int a1), some (.int a2), some (.int a3), some (.ref ao), none]) (hh := [(0, 12, 15, 13), (0, 12, 19, 33), (0, 12, 23, 35)]) hC.2.2 (by decide +kernel) rfl rfl (Nat.le_of_ble_eq_true rfl) (fun x hx K hr => ?_)
  have S := K.1
  refine e_aload S dL_admit_0 rfl rfl ?_
  refine e_iconst S dL_admit_2 zi_0 rfl ?_
  refine e_aload_n (i := 0) S dL_admit_3 rfl rfl rfl ?_
  refine e_iload_n (i := 1) S dL_admit_4 rfl rfl rfl ?_
  refine e_iload_n (i := 2) S dL_admit_5 rfl rfl rfl ?_
  refine e_iload_n (i := 3) S dL_admit_6 rfl rfl rfl ?_
  refine w_catch (E := 2) (As := [.int a1, .int a2, .int a3]) (st := [.int 0, .ref ao]) (m := m) K rfl (tn_0 hC) (tc_0 hC) gL_admit_X5_admit hdX5_admit rfl (uX5_admit (hx ▸ hst) hC N a1 a2 a3 m _ hf) rfl (Nat.le_of_ble_eq_true rfl) ⟨Nat.le_of_ble_eq_true rfl, Nat.le_of_ble_eq_true rfl⟩ ⟨Nat.le_of_ble_eq_true rfl, Nat.le_of_ble_eq_true rfl⟩ dL_admit_7 rfl [(⟨0, 12, 15, 13⟩ : ExceptionTableEntry)] (⟨0, 12, 19, 33⟩ : ExceptionTableEntry) [(⟨0, 12, 23, 35⟩ : ExceptionTableEntry)] rfl (fun z hz => by cases hz with | head => exact ⟨by decide, 1, ex_21, by decide +kernel⟩ | tail _ hz => cases hz) (by decide) (by decide) (by decide +kernel) (fun q => ?_)
  refine e_astore (lo' := [some (.ref (zad g 0)), some (.int a1), some (.int a2), some (.int a3), some (.ref ao), some (.ref q)]) S dL_admit_19 (Nat.le_of_ble_eq_true rfl) rfl rfl rfl ?_
  refine e_iconst S dL_admit_21 zi_2 rfl ?_
  exact hr _ _ _ _ (by decide) (by decide) dL_admit_22
set_option maxHeartbeats 4000000 in
set_option maxRecDepth 100000 in
theorem wt_admit_3 {l : Launch} {g : zG} {kk : zKK} {cL : ClassId} {ao : Nat} (hst : l.stackTraces = false) (hC : isC g) (N : Nat) (a1 : Int32) (a2 : Int32) (a3 : Int32) (m : zMem) (v : Int64) (hf : tX5_admit N a1 a2 a3 m = some 3) : wMet l g kk cL ao yL_admit wsL_admit { frames := 8, cells := 1, slots := 6, locals := 154 } [.ref (zad g 0), .int a1, .int a2, .int a3, .ref ao] (m, v) 3 (m, v) := by
  refine w_met (cc := cL_admit) (maxL := 6) (lo0 := [some (.ref (zad g 0)), some (.int a1), some (.int a2), some (.int a3), some (.ref ao), none]) (hh := [(0, 12, 15, 13), (0, 12, 19, 33), (0, 12, 23, 35)]) hC.2.2 (by decide +kernel) rfl rfl (Nat.le_of_ble_eq_true rfl) (fun x hx K hr => ?_)
  have S := K.1
  refine e_aload S dL_admit_0 rfl rfl ?_
  refine e_iconst S dL_admit_2 zi_0 rfl ?_
  refine e_aload_n (i := 0) S dL_admit_3 rfl rfl rfl ?_
  refine e_iload_n (i := 1) S dL_admit_4 rfl rfl rfl ?_
  refine e_iload_n (i := 2) S dL_admit_5 rfl rfl rfl ?_
  refine e_iload_n (i := 3) S dL_admit_6 rfl rfl rfl ?_
  refine w_catch (E := 3) (As := [.int a1, .int a2, .int a3]) (st := [.int 0, .ref ao]) (m := m) K rfl (tn_0 hC) (tc_0 hC) gL_admit_X5_admit hdX5_admit rfl (uX5_admit (hx ▸ hst) hC N a1 a2 a3 m _ hf) rfl (Nat.le_of_ble_eq_true rfl) ⟨Nat.le_of_ble_eq_true rfl, Nat.le_of_ble_eq_true rfl⟩ ⟨Nat.le_of_ble_eq_true rfl, Nat.le_of_ble_eq_true rfl⟩ dL_admit_7 rfl [(⟨0, 12, 15, 13⟩ : ExceptionTableEntry), (⟨0, 12, 19, 33⟩ : ExceptionTableEntry)] (⟨0, 12, 23, 35⟩ : ExceptionTableEntry) [] rfl (fun z hz => by cases hz with | head => exact ⟨by decide, 1, ex_31, by decide +kernel⟩ | tail _ hz => cases hz with | head => exact ⟨by decide, 2, ex_32, by decide +kernel⟩ | tail _ hz => cases hz) (by decide) (by decide) (by decide +kernel) (fun q => ?_)
  refine e_astore (lo' := [some (.ref (zad g 0)), some (.int a1), some (.int a2), some (.int a3), some (.ref ao), some (.ref q)]) S dL_admit_23 (Nat.le_of_ble_eq_true rfl) rfl rfl rfl ?_
  refine e_iconst S dL_admit_25 zi_3 rfl ?_
  exact hr _ _ _ _ (by decide) (by decide) dL_admit_26
theorem hdL_leave : yL_leave.cls ≠ "java/lang/invoke/MethodHandle" ∧ yL_leave.cls ≠ "java/lang/invoke/VarHandle" ∧ (parseMethodDescriptor yL_leave.desc).map (fun d => d.parameters.length) = some 3 := by decide +kernel
set_option maxHeartbeats 4000000 in
set_option maxRecDepth 100000 in
theorem wn_leave {l : Launch} {g : zG} {kk : zKK} {cL : ClassId} {ao : Nat} (hC : isC g) (a1 : Int32) (m : zMem) (v : Int64) (r : Int32) (m' : zMem) (hf : fX5_leave a1 m = some (r, m')) : wMet l g kk cL ao yL_leave wsL_leave { frames := 8, cells := 1, slots := 6, locals := 131 } [.ref (zad g 0), .int a1, .ref ao] (m, v) 0 (m', r.toInt64) := by
  refine w_met (cc := cL_leave) (maxL := 4) (lo0 := [some (.ref (zad g 0)), some (.int a1), some (.ref ao), none]) (hh := [(0, 9, 12, 13), (0, 9, 15, 33)]) hC.2.2 (by decide +kernel) rfl rfl (Nat.le_of_ble_eq_true rfl) (fun x hx K hr => ?_)
  have S := K.1
  refine e_aload_n (i := 2) S dL_leave_0 rfl rfl rfl ?_
  refine e_iconst S dL_leave_1 zi_0 rfl ?_
  refine e_aload_n (i := 0) S dL_leave_2 rfl rfl rfl ?_
  refine e_iload_n (i := 1) S dL_leave_3 rfl rfl rfl ?_
  refine e_cvi (As := [.int a1]) (st := [.int 0, .ref ao]) (m := m) (wr := [(ao, oC cL v)]) S K.2.1 rfl (tn_0 hC) (tc_0 hC) gL_leave_X5_leave hdX5_leave rfl (qX5_leave hC a1 m _ hf) rfl (Nat.le_of_ble_eq_true rfl) ⟨Nat.le_of_ble_eq_true rfl, Nat.le_of_ble_eq_true rfl⟩ ⟨Nat.le_of_ble_eq_true rfl, Nat.le_of_ble_eq_true rfl⟩ dL_leave_4 rfl rfl ?_
  refine e_i2l S dL_leave_7 rfl ?_
  refine w_last K dL_leave_8 rfl ?_
  refine e_goto (pc' := 18) S dL_leave_9 (by decide) ?_
  refine e_iconst S dL_leave_18 zi_0 rfl ?_
  exact hr _ _ _ _ (by decide) (by decide) dL_leave_19
set_option maxHeartbeats 4000000 in
set_option maxRecDepth 100000 in
theorem wt_leave_1 {l : Launch} {g : zG} {kk : zKK} {cL : ClassId} {ao : Nat} (hst : l.stackTraces = false) (hC : isC g) (a1 : Int32) (m : zMem) (v : Int64) (hf : tX5_leave a1 m = some 1) : wMet l g kk cL ao yL_leave wsL_leave { frames := 8, cells := 1, slots := 6, locals := 131 } [.ref (zad g 0), .int a1, .ref ao] (m, v) 1 (m, v) := by
  refine w_met (cc := cL_leave) (maxL := 4) (lo0 := [some (.ref (zad g 0)), some (.int a1), some (.ref ao), none]) (hh := [(0, 9, 12, 13), (0, 9, 15, 33)]) hC.2.2 (by decide +kernel) rfl rfl (Nat.le_of_ble_eq_true rfl) (fun x hx K hr => ?_)
  have S := K.1
  refine e_aload_n (i := 2) S dL_leave_0 rfl rfl rfl ?_
  refine e_iconst S dL_leave_1 zi_0 rfl ?_
  refine e_aload_n (i := 0) S dL_leave_2 rfl rfl rfl ?_
  refine e_iload_n (i := 1) S dL_leave_3 rfl rfl rfl ?_
  refine w_catch (E := 1) (As := [.int a1]) (st := [.int 0, .ref ao]) (m := m) K rfl (tn_0 hC) (tc_0 hC) gL_leave_X5_leave hdX5_leave rfl (uX5_leave (hx ▸ hst) hC a1 m _ hf) rfl (Nat.le_of_ble_eq_true rfl) ⟨Nat.le_of_ble_eq_true rfl, Nat.le_of_ble_eq_true rfl⟩ ⟨Nat.le_of_ble_eq_true rfl, Nat.le_of_ble_eq_true rfl⟩ dL_leave_4 rfl [] (⟨0, 9, 12, 13⟩ : ExceptionTableEntry) [(⟨0, 9, 15, 33⟩ : ExceptionTableEntry)] rfl (fun z hz => nomatch hz) (by decide) (by decide) (by decide +kernel) (fun q => ?_)
  refine e_astore_n (i := 3) (lo' := [some (.ref (zad g 0)), some (.int a1), some (.ref ao), some (.ref q)]) S dL_leave_12 rfl (Nat.le_of_ble_eq_true rfl) rfl rfl rfl ?_
  refine e_iconst S dL_leave_13 zi_1 rfl ?_
  exact hr _ _ _ _ (by decide) (by decide) dL_leave_14
set_option maxHeartbeats 4000000 in
set_option maxRecDepth 100000 in
theorem wt_leave_2 {l : Launch} {g : zG} {kk : zKK} {cL : ClassId} {ao : Nat} (hst : l.stackTraces = false) (hC : isC g) (a1 : Int32) (m : zMem) (v : Int64) (hf : tX5_leave a1 m = some 2) : wMet l g kk cL ao yL_leave wsL_leave { frames := 8, cells := 1, slots := 6, locals := 131 } [.ref (zad g 0), .int a1, .ref ao] (m, v) 2 (m, v) := by
  refine w_met (cc := cL_leave) (maxL := 4) (lo0 := [some (.ref (zad g 0)), some (.int a1), some (.ref ao), none]) (hh := [(0, 9, 12, 13), (0, 9, 15, 33)]) hC.2.2 (by decide +kernel) rfl rfl (Nat.le_of_ble_eq_true rfl) (fun x hx K hr => ?_)
  have S := K.1
  refine e_aload_n (i := 2) S dL_leave_0 rfl rfl rfl ?_
  refine e_iconst S dL_leave_1 zi_0 rfl ?_
  refine e_aload_n (i := 0) S dL_leave_2 rfl rfl rfl ?_
  refine e_iload_n (i := 1) S dL_leave_3 rfl rfl rfl ?_
  refine w_catch (E := 2) (As := [.int a1]) (st := [.int 0, .ref ao]) (m := m) K rfl (tn_0 hC) (tc_0 hC) gL_leave_X5_leave hdX5_leave rfl (uX5_leave (hx ▸ hst) hC a1 m _ hf) rfl (Nat.le_of_ble_eq_true rfl) ⟨Nat.le_of_ble_eq_true rfl, Nat.le_of_ble_eq_true rfl⟩ ⟨Nat.le_of_ble_eq_true rfl, Nat.le_of_ble_eq_true rfl⟩ dL_leave_4 rfl [(⟨0, 9, 12, 13⟩ : ExceptionTableEntry)] (⟨0, 9, 15, 33⟩ : ExceptionTableEntry) [] rfl (fun z hz => by cases hz with | head => exact ⟨by decide, 1, ex_21, by decide +kernel⟩ | tail _ hz => cases hz) (by decide) (by decide) (by decide +kernel) (fun q => ?_)
  refine e_astore_n (i := 3) (lo' := [some (.ref (zad g 0)), some (.int a1), some (.ref ao), some (.ref q)]) S dL_leave_15 rfl (Nat.le_of_ble_eq_true rfl) rfl rfl rfl ?_
  refine e_iconst S dL_leave_16 zi_2 rfl ?_
  exact hr _ _ _ _ (by decide) (by decide) dL_leave_17
theorem hdL_swarm : yL_swarm.cls ≠ "java/lang/invoke/MethodHandle" ∧ yL_swarm.cls ≠ "java/lang/invoke/VarHandle" ∧ (parseMethodDescriptor yL_swarm.desc).map (fun d => d.parameters.length) = some 7 := by decide +kernel
set_option maxHeartbeats 4000000 in
set_option maxRecDepth 100000 in
theorem wn_swarm {l : Launch} {g : zG} {kk : zKK} {cL : ClassId} {ao : Nat} (hC : isC g) (N : Nat) (a1 : Int32) (a2 : Int32) (a3 : Int32) (a4 : Int32) (a5 : Int32) (m : zMem) (v : Int64) (r : Int32) (m' : zMem) (hf : fX5_swarm N a1 a2 a3 a4 a5 m = some (r, m')) : wMet l g kk cL ao yL_swarm wsL_swarm { frames := 8, cells := 1, slots := 6, locals := 159 } [.ref (zad g 0), .int a1, .int a2, .int a3, .int a4, .int a5, .ref ao] (m, v) 0 (m', r.toInt64) := by
  refine w_met (cc := cL_swarm) (maxL := 8) (lo0 := [some (.ref (zad g 0)), some (.int a1), some (.int a2), some (.int a3), some (.int a4), some (.int a5), some (.ref ao), none]) (hh := [(0, 16, 19, 13), (0, 16, 23, 33)]) hC.2.2 (by decide +kernel) rfl rfl (Nat.le_of_ble_eq_true rfl) (fun x hx K hr => ?_)
  have S := K.1
  refine e_aload S dL_swarm_0 rfl rfl ?_
  refine e_iconst S dL_swarm_2 zi_0 rfl ?_
  refine e_aload_n (i := 0) S dL_swarm_3 rfl rfl rfl ?_
  refine e_iload_n (i := 1) S dL_swarm_4 rfl rfl rfl ?_
  refine e_iload_n (i := 2) S dL_swarm_5 rfl rfl rfl ?_
  refine e_iload_n (i := 3) S dL_swarm_6 rfl rfl rfl ?_
  refine e_iload S dL_swarm_7 rfl rfl ?_
  refine e_iload S dL_swarm_9 rfl rfl ?_
  refine e_cvi (As := [.int a1, .int a2, .int a3, .int a4, .int a5]) (st := [.int 0, .ref ao]) (m := m) (wr := [(ao, oC cL v)]) S K.2.1 rfl (tn_0 hC) (tc_0 hC) gL_swarm_X5_swarm hdX5_swarm rfl (qX5_swarm hC N a1 a2 a3 a4 a5 m _ hf) rfl (Nat.le_of_ble_eq_true rfl) ⟨Nat.le_of_ble_eq_true rfl, Nat.le_of_ble_eq_true rfl⟩ ⟨Nat.le_of_ble_eq_true rfl, Nat.le_of_ble_eq_true rfl⟩ dL_swarm_11 rfl rfl ?_
  refine e_i2l S dL_swarm_14 rfl ?_
  refine w_last K dL_swarm_15 rfl ?_
  refine e_goto (pc' := 27) S dL_swarm_16 (by decide) ?_
  refine e_iconst S dL_swarm_27 zi_0 rfl ?_
  exact hr _ _ _ _ (by decide) (by decide) dL_swarm_28
set_option maxHeartbeats 4000000 in
set_option maxRecDepth 100000 in
theorem wt_swarm_1 {l : Launch} {g : zG} {kk : zKK} {cL : ClassId} {ao : Nat} (hst : l.stackTraces = false) (hC : isC g) (a1 : Int32) (a2 : Int32) (a3 : Int32) (a4 : Int32) (a5 : Int32) (m : zMem) (v : Int64) (hf : tX5_swarm a1 a2 a3 a4 a5 m = some 1) : wMet l g kk cL ao yL_swarm wsL_swarm { frames := 8, cells := 1, slots := 6, locals := 159 } [.ref (zad g 0), .int a1, .int a2, .int a3, .int a4, .int a5, .ref ao] (m, v) 1 (m, v) := by
  refine w_met (cc := cL_swarm) (maxL := 8) (lo0 := [some (.ref (zad g 0)), some (.int a1), some (.int a2), some (.int a3), some (.int a4), some (.int a5), some (.ref ao), none]) (hh := [(0, 16, 19, 13), (0, 16, 23, 33)]) hC.2.2 (by decide +kernel) rfl rfl (Nat.le_of_ble_eq_true rfl) (fun x hx K hr => ?_)
  have S := K.1
  refine e_aload S dL_swarm_0 rfl rfl ?_
  refine e_iconst S dL_swarm_2 zi_0 rfl ?_
  refine e_aload_n (i := 0) S dL_swarm_3 rfl rfl rfl ?_
  refine e_iload_n (i := 1) S dL_swarm_4 rfl rfl rfl ?_
  refine e_iload_n (i := 2) S dL_swarm_5 rfl rfl rfl ?_
  refine e_iload_n (i := 3) S dL_swarm_6 rfl rfl rfl ?_
  refine e_iload S dL_swarm_7 rfl rfl ?_
  refine e_iload S dL_swarm_9 rfl rfl ?_
  refine w_catch (E := 1) (As := [.int a1, .int a2, .int a3, .int a4, .int a5]) (st := [.int 0, .ref ao]) (m := m) K rfl (tn_0 hC) (tc_0 hC) gL_swarm_X5_swarm hdX5_swarm rfl (uX5_swarm (hx ▸ hst) hC a1 a2 a3 a4 a5 m _ hf) rfl (Nat.le_of_ble_eq_true rfl) ⟨Nat.le_of_ble_eq_true rfl, Nat.le_of_ble_eq_true rfl⟩ ⟨Nat.le_of_ble_eq_true rfl, Nat.le_of_ble_eq_true rfl⟩ dL_swarm_11 rfl [] (⟨0, 16, 19, 13⟩ : ExceptionTableEntry) [(⟨0, 16, 23, 33⟩ : ExceptionTableEntry)] rfl (fun z hz => nomatch hz) (by decide) (by decide) (by decide +kernel) (fun q => ?_)
  refine e_astore (lo' := [some (.ref (zad g 0)), some (.int a1), some (.int a2), some (.int a3), some (.int a4), some (.int a5), some (.ref ao), some (.ref q)]) S dL_swarm_19 (Nat.le_of_ble_eq_true rfl) rfl rfl rfl ?_
  refine e_iconst S dL_swarm_21 zi_1 rfl ?_
  exact hr _ _ _ _ (by decide) (by decide) dL_swarm_22
set_option maxHeartbeats 4000000 in
set_option maxRecDepth 100000 in
theorem wt_swarm_2 {l : Launch} {g : zG} {kk : zKK} {cL : ClassId} {ao : Nat} (hst : l.stackTraces = false) (hC : isC g) (a1 : Int32) (a2 : Int32) (a3 : Int32) (a4 : Int32) (a5 : Int32) (m : zMem) (v : Int64) (hf : tX5_swarm a1 a2 a3 a4 a5 m = some 2) : wMet l g kk cL ao yL_swarm wsL_swarm { frames := 8, cells := 1, slots := 6, locals := 159 } [.ref (zad g 0), .int a1, .int a2, .int a3, .int a4, .int a5, .ref ao] (m, v) 2 (m, v) := by
  refine w_met (cc := cL_swarm) (maxL := 8) (lo0 := [some (.ref (zad g 0)), some (.int a1), some (.int a2), some (.int a3), some (.int a4), some (.int a5), some (.ref ao), none]) (hh := [(0, 16, 19, 13), (0, 16, 23, 33)]) hC.2.2 (by decide +kernel) rfl rfl (Nat.le_of_ble_eq_true rfl) (fun x hx K hr => ?_)
  have S := K.1
  refine e_aload S dL_swarm_0 rfl rfl ?_
  refine e_iconst S dL_swarm_2 zi_0 rfl ?_
  refine e_aload_n (i := 0) S dL_swarm_3 rfl rfl rfl ?_
  refine e_iload_n (i := 1) S dL_swarm_4 rfl rfl rfl ?_
  refine e_iload_n (i := 2) S dL_swarm_5 rfl rfl rfl ?_
  refine e_iload_n (i := 3) S dL_swarm_6 rfl rfl rfl ?_
  refine e_iload S dL_swarm_7 rfl rfl ?_
  refine e_iload S dL_swarm_9 rfl rfl ?_
  refine w_catch (E := 2) (As := [.int a1, .int a2, .int a3, .int a4, .int a5]) (st := [.int 0, .ref ao]) (m := m) K rfl (tn_0 hC) (tc_0 hC) gL_swarm_X5_swarm hdX5_swarm rfl (uX5_swarm (hx ▸ hst) hC a1 a2 a3 a4 a5 m _ hf) rfl (Nat.le_of_ble_eq_true rfl) ⟨Nat.le_of_ble_eq_true rfl, Nat.le_of_ble_eq_true rfl⟩ ⟨Nat.le_of_ble_eq_true rfl, Nat.le_of_ble_eq_true rfl⟩ dL_swarm_11 rfl [(⟨0, 16, 19, 13⟩ : ExceptionTableEntry)] (⟨0, 16, 23, 33⟩ : ExceptionTableEntry) [] rfl (fun z hz => by cases hz with | head => exact ⟨by decide, 1, ex_21, by decide +kernel⟩ | tail _ hz => cases hz) (by decide) (by decide) (by decide +kernel) (fun q => ?_)
  refine e_astore (lo' := [some (.ref (zad g 0)), some (.int a1), some (.int a2), some (.int a3), some (.int a4), some (.int a5), some (.ref ao), some (.ref q)]) S dL_swarm_23 (Nat.le_of_ble_eq_true rfl) rfl rfl rfl ?_
  refine e_iconst S dL_swarm_25 zi_2 rfl ?_
  exact hr _ _ _ _ (by decide) (by decide) dL_swarm_26
theorem hdL_lookup : yL_lookup.cls ≠ "java/lang/invoke/MethodHandle" ∧ yL_lookup.cls ≠ "java/lang/invoke/VarHandle" ∧ (parseMethodDescriptor yL_lookup.desc).map (fun d => d.parameters.length) = some 4 := by decide +kernel
set_option maxHeartbeats 4000000 in
set_option maxRecDepth 100000 in
theorem wn_lookup {l : Launch} {g : zG} {kk : zKK} {cL : ClassId} {ao : Nat} (hC : isC g) (N : Nat) (a1 : Int32) (a2 : Int32) (m : zMem) (v : Int64) (r : Int32) (m' : zMem) (hf : fX5_lookup N a1 a2 m = some (r, m')) : wMet l g kk cL ao yL_lookup wsL_lookup { frames := 8, cells := 1, slots := 6, locals := 132 } [.ref (zad g 0), .int a1, .int a2, .ref ao] (m, v) 0 (m', r.toInt64) := by
  refine w_met (cc := cL_lookup) (maxL := 5) (lo0 := [some (.ref (zad g 0)), some (.int a1), some (.int a2), some (.ref ao), none]) (hh := [(0, 10, 13, 13), (0, 10, 17, 33)]) hC.2.2 (by decide +kernel) rfl rfl (Nat.le_of_ble_eq_true rfl) (fun x hx K hr => ?_)
  have S := K.1
  refine e_aload_n (i := 3) S dL_lookup_0 rfl rfl rfl ?_
  refine e_iconst S dL_lookup_1 zi_0 rfl ?_
  refine e_aload_n (i := 0) S dL_lookup_2 rfl rfl rfl ?_
  refine e_iload_n (i := 1) S dL_lookup_3 rfl rfl rfl ?_
  refine e_iload_n (i := 2) S dL_lookup_4 rfl rfl rfl ?_
  refine e_cvi (As := [.int a1, .int a2]) (st := [.int 0, .ref ao]) (m := m) (wr := [(ao, oC cL v)]) S K.2.1 rfl (tn_0 hC) (tc_0 hC) gL_lookup_X5_lookup hdX5_lookup rfl (qX5_lookup hC N a1 a2 m _ hf) rfl (Nat.le_of_ble_eq_true rfl) ⟨Nat.le_of_ble_eq_true rfl, Nat.le_of_ble_eq_true rfl⟩ ⟨Nat.le_of_ble_eq_true rfl, Nat.le_of_ble_eq_true rfl⟩ dL_lookup_5 rfl rfl ?_
  refine e_i2l S dL_lookup_8 rfl ?_
  refine w_last K dL_lookup_9 rfl ?_
  refine e_goto (pc' := 21) S dL_lookup_10 (by decide) ?_
  refine e_iconst S dL_lookup_21 zi_0 rfl ?_
  exact hr _ _ _ _ (by decide) (by decide) dL_lookup_22
set_option maxHeartbeats 4000000 in
set_option maxRecDepth 100000 in
theorem wt_lookup_1 {l : Launch} {g : zG} {kk : zKK} {cL : ClassId} {ao : Nat} (hst : l.stackTraces = false) (hC : isC g) (a1 : Int32) (a2 : Int32) (m : zMem) (v : Int64) (hf : tX5_lookup a1 a2 m = some 1) : wMet l g kk cL ao yL_lookup wsL_lookup { frames := 8, cells := 1, slots := 6, locals := 132 } [.ref (zad g 0), .int a1, .int a2, .ref ao] (m, v) 1 (m, v) := by
  refine w_met (cc := cL_lookup) (maxL := 5) (lo0 := [some (.ref (zad g 0)), some (.int a1), some (.int a2), some (.ref ao), none]) (hh := [(0, 10, 13, 13), (0, 10, 17, 33)]) hC.2.2 (by decide +kernel) rfl rfl (Nat.le_of_ble_eq_true rfl) (fun x hx K hr => ?_)
  have S := K.1
  refine e_aload_n (i := 3) S dL_lookup_0 rfl rfl rfl ?_
  refine e_iconst S dL_lookup_1 zi_0 rfl ?_
  refine e_aload_n (i := 0) S dL_lookup_2 rfl rfl rfl ?_
  refine e_iload_n (i := 1) S dL_lookup_3 rfl rfl rfl ?_
  refine e_iload_n (i := 2) S dL_lookup_4 rfl rfl rfl ?_
  refine w_catch (E := 1) (As := [.int a1, .int a2]) (st := [.int 0, .ref ao]) (m := m) K rfl (tn_0 hC) (tc_0 hC) gL_lookup_X5_lookup hdX5_lookup rfl (uX5_lookup (hx ▸ hst) hC a1 a2 m _ hf) rfl (Nat.le_of_ble_eq_true rfl) ⟨Nat.le_of_ble_eq_true rfl, Nat.le_of_ble_eq_true rfl⟩ ⟨Nat.le_of_ble_eq_true rfl, Nat.le_of_ble_eq_true rfl⟩ dL_lookup_5 rfl [] (⟨0, 10, 13, 13⟩ : ExceptionTableEntry) [(⟨0, 10, 17, 33⟩ : ExceptionTableEntry)] rfl (fun z hz => nomatch hz) (by decide) (by decide) (by decide +kernel) (fun q => ?_)
  refine e_astore (lo' := [some (.ref (zad g 0)), some (.int a1), some (.int a2), some (.ref ao), some (.ref q)]) S dL_lookup_13 (Nat.le_of_ble_eq_true rfl) rfl rfl rfl ?_
  refine e_iconst S dL_lookup_15 zi_1 rfl ?_
  exact hr _ _ _ _ (by decide) (by decide) dL_lookup_16
set_option maxHeartbeats 4000000 in
set_option maxRecDepth 100000 in
theorem wt_lookup_2 {l : Launch} {g : zG} {kk : zKK} {cL : ClassId} {ao : Nat} (hst : l.stackTraces = false) (hC : isC g) (a1 : Int32) (a2 : Int32) (m : zMem) (v : Int64) (hf : tX5_lookup a1 a2 m = some 2) : wMet l g kk cL ao yL_lookup wsL_lookup { frames := 8, cells := 1, slots := 6, locals := 132 } [.ref (zad g 0), .int a1, .int a2, .ref ao] (m, v) 2 (m, v) := by
  refine w_met (cc := cL_lookup) (maxL := 5) (lo0 := [some (.ref (zad g 0)), some (.int a1), some (.int a2), some (.ref ao), none]) (hh := [(0, 10, 13, 13), (0, 10, 17, 33)]) hC.2.2 (by decide +kernel) rfl rfl (Nat.le_of_ble_eq_true rfl) (fun x hx K hr => ?_)
  have S := K.1
  refine e_aload_n (i := 3) S dL_lookup_0 rfl rfl rfl ?_
  refine e_iconst S dL_lookup_1 zi_0 rfl ?_
  refine e_aload_n (i := 0) S dL_lookup_2 rfl rfl rfl ?_
  refine e_iload_n (i := 1) S dL_lookup_3 rfl rfl rfl ?_
  refine e_iload_n (i := 2) S dL_lookup_4 rfl rfl rfl ?_
  refine w_catch (E := 2) (As := [.int a1, .int a2]) (st := [.int 0, .ref ao]) (m := m) K rfl (tn_0 hC) (tc_0 hC) gL_lookup_X5_lookup hdX5_lookup rfl (uX5_lookup (hx ▸ hst) hC a1 a2 m _ hf) rfl (Nat.le_of_ble_eq_true rfl) ⟨Nat.le_of_ble_eq_true rfl, Nat.le_of_ble_eq_true rfl⟩ ⟨Nat.le_of_ble_eq_true rfl, Nat.le_of_ble_eq_true rfl⟩ dL_lookup_5 rfl [(⟨0, 10, 13, 13⟩ : ExceptionTableEntry)] (⟨0, 10, 17, 33⟩ : ExceptionTableEntry) [] rfl (fun z hz => by cases hz with | head => exact ⟨by decide, 1, ex_21, by decide +kernel⟩ | tail _ hz => cases hz) (by decide) (by decide) (by decide +kernel) (fun q => ?_)
  refine e_astore (lo' := [some (.ref (zad g 0)), some (.int a1), some (.int a2), some (.ref ao), some (.ref q)]) S dL_lookup_17 (Nat.le_of_ble_eq_true rfl) rfl rfl rfl ?_
  refine e_iconst S dL_lookup_19 zi_2 rfl ?_
  exact hr _ _ _ _ (by decide) (by decide) dL_lookup_20
theorem hdL_probe : yL_probe.cls ≠ "java/lang/invoke/MethodHandle" ∧ yL_probe.cls ≠ "java/lang/invoke/VarHandle" ∧ (parseMethodDescriptor yL_probe.desc).map (fun d => d.parameters.length) = some 5 := by decide +kernel
set_option maxHeartbeats 4000000 in
set_option maxRecDepth 100000 in
theorem wn_probe {l : Launch} {g : zG} {kk : zKK} {cL : ClassId} {ao : Nat} (hC : isC g) (N : Nat) (a1 : Int32) (a2 : Int32) (a3 : Int32) (m : zMem) (v : Int64) (r : Int32) (m' : zMem) (hf : fX5_probe N a1 a2 a3 m = some (r, m')) : wMet l g kk cL ao yL_probe wsL_probe { frames := 8, cells := 1, slots := 6, locals := 135 } [.ref (zad g 0), .int a1, .int a2, .int a3, .ref ao] (m, v) 0 (m', r.toInt64) := by
  refine w_met (cc := cL_probe) (maxL := 6) (lo0 := [some (.ref (zad g 0)), some (.int a1), some (.int a2), some (.int a3), some (.ref ao), none]) (hh := [(0, 12, 15, 13), (0, 12, 19, 33)]) hC.2.2 (by decide +kernel) rfl rfl (Nat.le_of_ble_eq_true rfl) (fun x hx K hr => ?_)
  have S := K.1
  refine e_aload S dL_probe_0 rfl rfl ?_
  refine e_iconst S dL_probe_2 zi_0 rfl ?_
  refine e_aload_n (i := 0) S dL_probe_3 rfl rfl rfl ?_
  refine e_iload_n (i := 1) S dL_probe_4 rfl rfl rfl ?_
  refine e_iload_n (i := 2) S dL_probe_5 rfl rfl rfl ?_
  refine e_iload_n (i := 3) S dL_probe_6 rfl rfl rfl ?_
  refine e_cvi (As := [.int a1, .int a2, .int a3]) (st := [.int 0, .ref ao]) (m := m) (wr := [(ao, oC cL v)]) S K.2.1 rfl (tn_0 hC) (tc_0 hC) gL_probe_X5_probe hdX5_probe rfl (qX5_probe hC N a1 a2 a3 m _ hf) rfl (Nat.le_of_ble_eq_true rfl) ⟨Nat.le_of_ble_eq_true rfl, Nat.le_of_ble_eq_true rfl⟩ ⟨Nat.le_of_ble_eq_true rfl, Nat.le_of_ble_eq_true rfl⟩ dL_probe_7 rfl rfl ?_
  refine e_i2l S dL_probe_10 rfl ?_
  refine w_last K dL_probe_11 rfl ?_
  refine e_goto (pc' := 23) S dL_probe_12 (by decide) ?_
  refine e_iconst S dL_probe_23 zi_0 rfl ?_
  exact hr _ _ _ _ (by decide) (by decide) dL_probe_24
set_option maxHeartbeats 4000000 in
set_option maxRecDepth 100000 in
theorem wt_probe_1 {l : Launch} {g : zG} {kk : zKK} {cL : ClassId} {ao : Nat} (hst : l.stackTraces = false) (hC : isC g) (a1 : Int32) (a2 : Int32) (a3 : Int32) (m : zMem) (v : Int64) (hf : tX5_probe a1 a2 a3 m = some 1) : wMet l g kk cL ao yL_probe wsL_probe { frames := 8, cells := 1, slots := 6, locals := 135 } [.ref (zad g 0), .int a1, .int a2, .int a3, .ref ao] (m, v) 1 (m, v) := by
  refine w_met (cc := cL_probe) (maxL := 6) (lo0 := [some (.ref (zad g 0)), some (.int a1), some (.int a2), some (.int a3), some (.ref ao), none]) (hh := [(0, 12, 15, 13), (0, 12, 19, 33)]) hC.2.2 (by decide +kernel) rfl rfl (Nat.le_of_ble_eq_true rfl) (fun x hx K hr => ?_)
  have S := K.1
  refine e_aload S dL_probe_0 rfl rfl ?_
  refine e_iconst S dL_probe_2 zi_0 rfl ?_
  refine e_aload_n (i := 0) S dL_probe_3 rfl rfl rfl ?_
  refine e_iload_n (i := 1) S dL_probe_4 rfl rfl rfl ?_
  refine e_iload_n (i := 2) S dL_probe_5 rfl rfl rfl ?_
  refine e_iload_n (i := 3) S dL_probe_6 rfl rfl rfl ?_
  refine w_catch (E := 1) (As := [.int a1, .int a2, .int a3]) (st := [.int 0, .ref ao]) (m := m) K rfl (tn_0 hC) (tc_0 hC) gL_probe_X5_probe hdX5_probe rfl (uX5_probe (hx ▸ hst) hC a1 a2 a3 m _ hf) rfl (Nat.le_of_ble_eq_true rfl) ⟨Nat.le_of_ble_eq_true rfl, Nat.le_of_ble_eq_true rfl⟩ ⟨Nat.le_of_ble_eq_true rfl, Nat.le_of_ble_eq_true rfl⟩ dL_probe_7 rfl [] (⟨0, 12, 15, 13⟩ : ExceptionTableEntry) [(⟨0, 12, 19, 33⟩ : ExceptionTableEntry)] rfl (fun z hz => nomatch hz) (by decide) (by decide) (by decide +kernel) (fun q => ?_)
  refine e_astore (lo' := [some (.ref (zad g 0)), some (.int a1), some (.int a2), some (.int a3), some (.ref ao), some (.ref q)]) S dL_probe_15 (Nat.le_of_ble_eq_true rfl) rfl rfl rfl ?_
  refine e_iconst S dL_probe_17 zi_1 rfl ?_
  exact hr _ _ _ _ (by decide) (by decide) dL_probe_18
set_option maxHeartbeats 4000000 in
set_option maxRecDepth 100000 in
theorem wt_probe_2 {l : Launch} {g : zG} {kk : zKK} {cL : ClassId} {ao : Nat} (hst : l.stackTraces = false) (hC : isC g) (a1 : Int32) (a2 : Int32) (a3 : Int32) (m : zMem) (v : Int64) (hf : tX5_probe a1 a2 a3 m = some 2) : wMet l g kk cL ao yL_probe wsL_probe { frames := 8, cells := 1, slots := 6, locals := 135 } [.ref (zad g 0), .int a1, .int a2, .int a3, .ref ao] (m, v) 2 (m, v) := by
  refine w_met (cc := cL_probe) (maxL := 6) (lo0 := [some (.ref (zad g 0)), some (.int a1), some (.int a2), some (.int a3), some (.ref ao), none]) (hh := [(0, 12, 15, 13), (0, 12, 19, 33)]) hC.2.2 (by decide +kernel) rfl rfl (Nat.le_of_ble_eq_true rfl) (fun x hx K hr => ?_)
  have S := K.1
  refine e_aload S dL_probe_0 rfl rfl ?_
  refine e_iconst S dL_probe_2 zi_0 rfl ?_
  refine e_aload_n (i := 0) S dL_probe_3 rfl rfl rfl ?_
  refine e_iload_n (i := 1) S dL_probe_4 rfl rfl rfl ?_
  refine e_iload_n (i := 2) S dL_probe_5 rfl rfl rfl ?_
  refine e_iload_n (i := 3) S dL_probe_6 rfl rfl rfl ?_
  refine w_catch (E := 2) (As := [.int a1, .int a2, .int a3]) (st := [.int 0, .ref ao]) (m := m) K rfl (tn_0 hC) (tc_0 hC) gL_probe_X5_probe hdX5_probe rfl (uX5_probe (hx ▸ hst) hC a1 a2 a3 m _ hf) rfl (Nat.le_of_ble_eq_true rfl) ⟨Nat.le_of_ble_eq_true rfl, Nat.le_of_ble_eq_true rfl⟩ ⟨Nat.le_of_ble_eq_true rfl, Nat.le_of_ble_eq_true rfl⟩ dL_probe_7 rfl [(⟨0, 12, 15, 13⟩ : ExceptionTableEntry)] (⟨0, 12, 19, 33⟩ : ExceptionTableEntry) [] rfl (fun z hz => by cases hz with | head => exact ⟨by decide, 1, ex_21, by decide +kernel⟩ | tail _ hz => cases hz) (by decide) (by decide) (by decide +kernel) (fun q => ?_)
  refine e_astore (lo' := [some (.ref (zad g 0)), some (.int a1), some (.int a2), some (.int a3), some (.ref ao), some (.ref q)]) S dL_probe_19 (Nat.le_of_ble_eq_true rfl) rfl rfl rfl ?_
  refine e_iconst S dL_probe_21 zi_2 rfl ?_
  exact hr _ _ _ _ (by decide) (by decide) dL_probe_22
theorem hdL_reach : yL_reach.cls ≠ "java/lang/invoke/MethodHandle" ∧ yL_reach.cls ≠ "java/lang/invoke/VarHandle" ∧ (parseMethodDescriptor yL_reach.desc).map (fun d => d.parameters.length) = some 3 := by decide +kernel
set_option maxHeartbeats 4000000 in
set_option maxRecDepth 100000 in
theorem wn_reach {l : Launch} {g : zG} {kk : zKK} {cL : ClassId} {ao : Nat} (hC : isC g) (N : Nat) (a1 : Int32) (m : zMem) (v : Int64) (r : Int32) (m' : zMem) (hf : fX5_reach N a1 m = some (r, m')) : wMet l g kk cL ao yL_reach wsL_reach { frames := 8, cells := 1, slots := 6, locals := 133 } [.ref (zad g 0), .int a1, .ref ao] (m, v) 0 (m', r.toInt64) := by
  refine w_met (cc := cL_reach) (maxL := 4) (lo0 := [some (.ref (zad g 0)), some (.int a1), some (.ref ao), none]) (hh := [(0, 9, 12, 13), (0, 9, 15, 33)]) hC.2.2 (by decide +kernel) rfl rfl (Nat.le_of_ble_eq_true rfl) (fun x hx K hr => ?_)
  have S := K.1
  refine e_aload_n (i := 2) S dL_reach_0 rfl rfl rfl ?_
  refine e_iconst S dL_reach_1 zi_0 rfl ?_
  refine e_aload_n (i := 0) S dL_reach_2 rfl rfl rfl ?_
  refine e_iload_n (i := 1) S dL_reach_3 rfl rfl rfl ?_
  refine e_cvi (As := [.int a1]) (st := [.int 0, .ref ao]) (m := m) (wr := [(ao, oC cL v)]) S K.2.1 rfl (tn_0 hC) (tc_0 hC) gL_reach_X5_reach hdX5_reach rfl (qX5_reach hC N a1 m _ hf) rfl (Nat.le_of_ble_eq_true rfl) ⟨Nat.le_of_ble_eq_true rfl, Nat.le_of_ble_eq_true rfl⟩ ⟨Nat.le_of_ble_eq_true rfl, Nat.le_of_ble_eq_true rfl⟩ dL_reach_4 rfl rfl ?_
  refine e_i2l S dL_reach_7 rfl ?_
  refine w_last K dL_reach_8 rfl ?_
  refine e_goto (pc' := 18) S dL_reach_9 (by decide) ?_
  refine e_iconst S dL_reach_18 zi_0 rfl ?_
  exact hr _ _ _ _ (by decide) (by decide) dL_reach_19
set_option maxHeartbeats 4000000 in
set_option maxRecDepth 100000 in
theorem wt_reach_1 {l : Launch} {g : zG} {kk : zKK} {cL : ClassId} {ao : Nat} (hst : l.stackTraces = false) (hC : isC g) (a1 : Int32) (m : zMem) (v : Int64) (hf : tX5_reach a1 m = some 1) : wMet l g kk cL ao yL_reach wsL_reach { frames := 8, cells := 1, slots := 6, locals := 133 } [.ref (zad g 0), .int a1, .ref ao] (m, v) 1 (m, v) := by
  refine w_met (cc := cL_reach) (maxL := 4) (lo0 := [some (.ref (zad g 0)), some (.int a1), some (.ref ao), none]) (hh := [(0, 9, 12, 13), (0, 9, 15, 33)]) hC.2.2 (by decide +kernel) rfl rfl (Nat.le_of_ble_eq_true rfl) (fun x hx K hr => ?_)
  have S := K.1
  refine e_aload_n (i := 2) S dL_reach_0 rfl rfl rfl ?_
  refine e_iconst S dL_reach_1 zi_0 rfl ?_
  refine e_aload_n (i := 0) S dL_reach_2 rfl rfl rfl ?_
  refine e_iload_n (i := 1) S dL_reach_3 rfl rfl rfl ?_
  refine w_catch (E := 1) (As := [.int a1]) (st := [.int 0, .ref ao]) (m := m) K rfl (tn_0 hC) (tc_0 hC) gL_reach_X5_reach hdX5_reach rfl (uX5_reach (hx ▸ hst) hC a1 m _ hf) rfl (Nat.le_of_ble_eq_true rfl) ⟨Nat.le_of_ble_eq_true rfl, Nat.le_of_ble_eq_true rfl⟩ ⟨Nat.le_of_ble_eq_true rfl, Nat.le_of_ble_eq_true rfl⟩ dL_reach_4 rfl [] (⟨0, 9, 12, 13⟩ : ExceptionTableEntry) [(⟨0, 9, 15, 33⟩ : ExceptionTableEntry)] rfl (fun z hz => nomatch hz) (by decide) (by decide) (by decide +kernel) (fun q => ?_)
  refine e_astore_n (i := 3) (lo' := [some (.ref (zad g 0)), some (.int a1), some (.ref ao), some (.ref q)]) S dL_reach_12 rfl (Nat.le_of_ble_eq_true rfl) rfl rfl rfl ?_
  refine e_iconst S dL_reach_13 zi_1 rfl ?_
  exact hr _ _ _ _ (by decide) (by decide) dL_reach_14
set_option maxHeartbeats 4000000 in
set_option maxRecDepth 100000 in
theorem wt_reach_2 {l : Launch} {g : zG} {kk : zKK} {cL : ClassId} {ao : Nat} (hst : l.stackTraces = false) (hC : isC g) (a1 : Int32) (m : zMem) (v : Int64) (hf : tX5_reach a1 m = some 2) : wMet l g kk cL ao yL_reach wsL_reach { frames := 8, cells := 1, slots := 6, locals := 133 } [.ref (zad g 0), .int a1, .ref ao] (m, v) 2 (m, v) := by
  refine w_met (cc := cL_reach) (maxL := 4) (lo0 := [some (.ref (zad g 0)), some (.int a1), some (.ref ao), none]) (hh := [(0, 9, 12, 13), (0, 9, 15, 33)]) hC.2.2 (by decide +kernel) rfl rfl (Nat.le_of_ble_eq_true rfl) (fun x hx K hr => ?_)
  have S := K.1
  refine e_aload_n (i := 2) S dL_reach_0 rfl rfl rfl ?_
  refine e_iconst S dL_reach_1 zi_0 rfl ?_
  refine e_aload_n (i := 0) S dL_reach_2 rfl rfl rfl ?_
  refine e_iload_n (i := 1) S dL_reach_3 rfl rfl rfl ?_
  refine w_catch (E := 2) (As := [.int a1]) (st := [.int 0, .ref ao]) (m := m) K rfl (tn_0 hC) (tc_0 hC) gL_reach_X5_reach hdX5_reach rfl (uX5_reach (hx ▸ hst) hC a1 m _ hf) rfl (Nat.le_of_ble_eq_true rfl) ⟨Nat.le_of_ble_eq_true rfl, Nat.le_of_ble_eq_true rfl⟩ ⟨Nat.le_of_ble_eq_true rfl, Nat.le_of_ble_eq_true rfl⟩ dL_reach_4 rfl [(⟨0, 9, 12, 13⟩ : ExceptionTableEntry)] (⟨0, 9, 15, 33⟩ : ExceptionTableEntry) [] rfl (fun z hz => by cases hz with | head => exact ⟨by decide, 1, ex_21, by decide +kernel⟩ | tail _ hz => cases hz) (by decide) (by decide) (by decide +kernel) (fun q => ?_)
  refine e_astore_n (i := 3) (lo' := [some (.ref (zad g 0)), some (.int a1), some (.ref ao), some (.ref q)]) S dL_reach_15 rfl (Nat.le_of_ble_eq_true rfl) rfl rfl rfl ?_
  refine e_iconst S dL_reach_16 zi_2 rfl ?_
  exact hr _ _ _ _ (by decide) (by decide) dL_reach_17
theorem hdL_member : yL_member.cls ≠ "java/lang/invoke/MethodHandle" ∧ yL_member.cls ≠ "java/lang/invoke/VarHandle" ∧ (parseMethodDescriptor yL_member.desc).map (fun d => d.parameters.length) = some 4 := by decide +kernel
set_option maxHeartbeats 4000000 in
set_option maxRecDepth 100000 in
theorem wn_member {l : Launch} {g : zG} {kk : zKK} {cL : ClassId} {ao : Nat} (hC : isC g) (N : Nat) (a1 : Int32) (a2 : Int32) (m : zMem) (v : Int64) (r : Int32) (hf : fX5_member N a1 a2 m = some r) : wMet l g kk cL ao yL_member wsL_member { frames := 8, cells := 1, slots := 6, locals := 134 } [.ref (zad g 0), .int a1, .int a2, .ref ao] (m, v) 0 (m, r.toInt64) := by
  refine w_met (cc := cL_member) (maxL := 5) (lo0 := [some (.ref (zad g 0)), some (.int a1), some (.int a2), some (.ref ao), none]) (hh := [(0, 10, 13, 13)]) hC.2.2 (by decide +kernel) rfl rfl (Nat.le_of_ble_eq_true rfl) (fun x hx K hr => ?_)
  have S := K.1
  refine e_aload_n (i := 3) S dL_member_0 rfl rfl rfl ?_
  refine e_iconst S dL_member_1 zi_0 rfl ?_
  refine e_aload_n (i := 0) S dL_member_2 rfl rfl rfl ?_
  refine e_iload_n (i := 1) S dL_member_3 rfl rfl rfl ?_
  refine e_iload_n (i := 2) S dL_member_4 rfl rfl rfl ?_
  refine e_cvi (As := [.int a1, .int a2]) (st := [.int 0, .ref ao]) (m := m) (wr := [(ao, oC cL v)]) S K.2.1 rfl (tn_0 hC) (tc_0 hC) gL_member_X5_member hdX5_member rfl (qX5_member hC N a1 a2 m _ hf) rfl (Nat.le_of_ble_eq_true rfl) ⟨Nat.le_of_ble_eq_true rfl, Nat.le_of_ble_eq_true rfl⟩ ⟨Nat.le_of_ble_eq_true rfl, Nat.le_of_ble_eq_true rfl⟩ dL_member_5 rfl rfl ?_
  refine e_i2l S dL_member_8 rfl ?_
  refine w_last K dL_member_9 rfl ?_
  refine e_goto (pc' := 17) S dL_member_10 (by decide) ?_
  refine e_iconst S dL_member_17 zi_0 rfl ?_
  exact hr _ _ _ _ (by decide) (by decide) dL_member_18
set_option maxHeartbeats 4000000 in
set_option maxRecDepth 100000 in
theorem wt_member_1 {l : Launch} {g : zG} {kk : zKK} {cL : ClassId} {ao : Nat} (hst : l.stackTraces = false) (hC : isC g) (a1 : Int32) (a2 : Int32) (m : zMem) (v : Int64) (hf : tX5_member a1 a2 m = some 1) : wMet l g kk cL ao yL_member wsL_member { frames := 8, cells := 1, slots := 6, locals := 134 } [.ref (zad g 0), .int a1, .int a2, .ref ao] (m, v) 1 (m, v) := by
  refine w_met (cc := cL_member) (maxL := 5) (lo0 := [some (.ref (zad g 0)), some (.int a1), some (.int a2), some (.ref ao), none]) (hh := [(0, 10, 13, 13)]) hC.2.2 (by decide +kernel) rfl rfl (Nat.le_of_ble_eq_true rfl) (fun x hx K hr => ?_)
  have S := K.1
  refine e_aload_n (i := 3) S dL_member_0 rfl rfl rfl ?_
  refine e_iconst S dL_member_1 zi_0 rfl ?_
  refine e_aload_n (i := 0) S dL_member_2 rfl rfl rfl ?_
  refine e_iload_n (i := 1) S dL_member_3 rfl rfl rfl ?_
  refine e_iload_n (i := 2) S dL_member_4 rfl rfl rfl ?_
  refine w_catch (E := 1) (As := [.int a1, .int a2]) (st := [.int 0, .ref ao]) (m := m) K rfl (tn_0 hC) (tc_0 hC) gL_member_X5_member hdX5_member rfl (uX5_member (hx ▸ hst) hC a1 a2 m _ hf) rfl (Nat.le_of_ble_eq_true rfl) ⟨Nat.le_of_ble_eq_true rfl, Nat.le_of_ble_eq_true rfl⟩ ⟨Nat.le_of_ble_eq_true rfl, Nat.le_of_ble_eq_true rfl⟩ dL_member_5 rfl [] (⟨0, 10, 13, 13⟩ : ExceptionTableEntry) [] rfl (fun z hz => nomatch hz) (by decide) (by decide) (by decide +kernel) (fun q => ?_)
  refine e_astore (lo' := [some (.ref (zad g 0)), some (.int a1), some (.int a2), some (.ref ao), some (.ref q)]) S dL_member_13 (Nat.le_of_ble_eq_true rfl) rfl rfl rfl ?_
  refine e_iconst S dL_member_15 zi_1 rfl ?_
  exact hr _ _ _ _ (by decide) (by decide) dL_member_16
theorem hdL_memberAt : yL_memberAt.cls ≠ "java/lang/invoke/MethodHandle" ∧ yL_memberAt.cls ≠ "java/lang/invoke/VarHandle" ∧ (parseMethodDescriptor yL_memberAt.desc).map (fun d => d.parameters.length) = some 3 := by decide +kernel
set_option maxHeartbeats 4000000 in
set_option maxRecDepth 100000 in
theorem wn_memberAt {l : Launch} {g : zG} {kk : zKK} {cL : ClassId} {ao : Nat} (hC : isC g) (N : Nat) (a1 : Int32) (m : zMem) (v : Int64) (r : Int32) (hf : fX5_memberAt N a1 m = some r) : wMet l g kk cL ao yL_memberAt wsL_memberAt { frames := 8, cells := 1, slots := 6, locals := 133 } [.ref (zad g 0), .int a1, .ref ao] (m, v) 0 (m, r.toInt64) := by
  refine w_met (cc := cL_memberAt) (maxL := 4) (lo0 := [some (.ref (zad g 0)), some (.int a1), some (.ref ao), none]) (hh := [(0, 9, 12, 13)]) hC.2.2 (by decide +kernel) rfl rfl (Nat.le_of_ble_eq_true rfl) (fun x hx K hr => ?_)
  have S := K.1
  refine e_aload_n (i := 2) S dL_memberAt_0 rfl rfl rfl ?_
  refine e_iconst S dL_memberAt_1 zi_0 rfl ?_
  refine e_aload_n (i := 0) S dL_memberAt_2 rfl rfl rfl ?_
  refine e_iload_n (i := 1) S dL_memberAt_3 rfl rfl rfl ?_
  refine e_cvi (As := [.int a1]) (st := [.int 0, .ref ao]) (m := m) (wr := [(ao, oC cL v)]) S K.2.1 rfl (tn_0 hC) (tc_0 hC) gL_memberAt_X5_memberAt hdX5_memberAt rfl (qX5_memberAt hC N a1 m _ hf) rfl (Nat.le_of_ble_eq_true rfl) ⟨Nat.le_of_ble_eq_true rfl, Nat.le_of_ble_eq_true rfl⟩ ⟨Nat.le_of_ble_eq_true rfl, Nat.le_of_ble_eq_true rfl⟩ dL_memberAt_4 rfl rfl ?_
  refine e_i2l S dL_memberAt_7 rfl ?_
  refine w_last K dL_memberAt_8 rfl ?_
  refine e_goto (pc' := 15) S dL_memberAt_9 (by decide) ?_
  refine e_iconst S dL_memberAt_15 zi_0 rfl ?_
  exact hr _ _ _ _ (by decide) (by decide) dL_memberAt_16
set_option maxHeartbeats 4000000 in
set_option maxRecDepth 100000 in
theorem wt_memberAt_1 {l : Launch} {g : zG} {kk : zKK} {cL : ClassId} {ao : Nat} (hst : l.stackTraces = false) (hC : isC g) (a1 : Int32) (m : zMem) (v : Int64) (hf : tX5_memberAt a1 m = some 1) : wMet l g kk cL ao yL_memberAt wsL_memberAt { frames := 8, cells := 1, slots := 6, locals := 133 } [.ref (zad g 0), .int a1, .ref ao] (m, v) 1 (m, v) := by
  refine w_met (cc := cL_memberAt) (maxL := 4) (lo0 := [some (.ref (zad g 0)), some (.int a1), some (.ref ao), none]) (hh := [(0, 9, 12, 13)]) hC.2.2 (by decide +kernel) rfl rfl (Nat.le_of_ble_eq_true rfl) (fun x hx K hr => ?_)
  have S := K.1
  refine e_aload_n (i := 2) S dL_memberAt_0 rfl rfl rfl ?_
  refine e_iconst S dL_memberAt_1 zi_0 rfl ?_
  refine e_aload_n (i := 0) S dL_memberAt_2 rfl rfl rfl ?_
  refine e_iload_n (i := 1) S dL_memberAt_3 rfl rfl rfl ?_
  refine w_catch (E := 1) (As := [.int a1]) (st := [.int 0, .ref ao]) (m := m) K rfl (tn_0 hC) (tc_0 hC) gL_memberAt_X5_memberAt hdX5_memberAt rfl (uX5_memberAt (hx ▸ hst) hC a1 m _ hf) rfl (Nat.le_of_ble_eq_true rfl) ⟨Nat.le_of_ble_eq_true rfl, Nat.le_of_ble_eq_true rfl⟩ ⟨Nat.le_of_ble_eq_true rfl, Nat.le_of_ble_eq_true rfl⟩ dL_memberAt_4 rfl [] (⟨0, 9, 12, 13⟩ : ExceptionTableEntry) [] rfl (fun z hz => nomatch hz) (by decide) (by decide) (by decide +kernel) (fun q => ?_)
  refine e_astore_n (i := 3) (lo' := [some (.ref (zad g 0)), some (.int a1), some (.ref ao), some (.ref q)]) S dL_memberAt_12 rfl (Nat.le_of_ble_eq_true rfl) rfl rfl rfl ?_
  refine e_iconst S dL_memberAt_13 zi_1 rfl ?_
  exact hr _ _ _ _ (by decide) (by decide) dL_memberAt_14
theorem hdL_entry : yL_entry.cls ≠ "java/lang/invoke/MethodHandle" ∧ yL_entry.cls ≠ "java/lang/invoke/VarHandle" ∧ (parseMethodDescriptor yL_entry.desc).map (fun d => d.parameters.length) = some 6 := by decide +kernel
set_option maxHeartbeats 4000000 in
set_option maxRecDepth 100000 in
theorem wn_entry {l : Launch} {g : zG} {kk : zKK} {cL : ClassId} {ao : Nat} (hC : isC g) (a1 : Int32) (a2 : Int32) (a3 : Int32) (a4 : Int32) (m : zMem) (v : Int64) (r : Int32) (hf : fX5_entry a1 a2 a3 a4 m = some r) : wMet l g kk cL ao yL_entry wsL_entry { frames := 8, cells := 1, slots := 6, locals := 138 } [.ref (zad g 0), .int a1, .int a2, .int a3, .int a4, .ref ao] (m, v) 0 (m, r.toInt64) := by
  refine w_met (cc := cL_entry) (maxL := 7) (lo0 := [some (.ref (zad g 0)), some (.int a1), some (.int a2), some (.int a3), some (.int a4), some (.ref ao), none]) (hh := [(0, 14, 17, 13), (0, 14, 21, 33)]) hC.2.2 (by decide +kernel) rfl rfl (Nat.le_of_ble_eq_true rfl) (fun x hx K hr => ?_)
  have S := K.1
  refine e_aload S dL_entry_0 rfl rfl ?_
  refine e_iconst S dL_entry_2 zi_0 rfl ?_
  refine e_aload_n (i := 0) S dL_entry_3 rfl rfl rfl ?_
  refine e_iload_n (i := 1) S dL_entry_4 rfl rfl rfl ?_
  refine e_iload_n (i := 2) S dL_entry_5 rfl rfl rfl ?_
  refine e_iload_n (i := 3) S dL_entry_6 rfl rfl rfl ?_
  refine e_iload S dL_entry_7 rfl rfl ?_
  refine e_cvi (As := [.int a1, .int a2, .int a3, .int a4]) (st := [.int 0, .ref ao]) (m := m) (wr := [(ao, oC cL v)]) S K.2.1 rfl (tn_0 hC) (tc_0 hC) gL_entry_X5_entry hdX5_entry rfl (qX5_entry hC a1 a2 a3 a4 m _ hf) rfl (Nat.le_of_ble_eq_true rfl) ⟨Nat.le_of_ble_eq_true rfl, Nat.le_of_ble_eq_true rfl⟩ ⟨Nat.le_of_ble_eq_true rfl, Nat.le_of_ble_eq_true rfl⟩ dL_entry_9 rfl rfl ?_
  refine e_i2l S dL_entry_12 rfl ?_
  refine w_last K dL_entry_13 rfl ?_
  refine e_goto (pc' := 25) S dL_entry_14 (by decide) ?_
  refine e_iconst S dL_entry_25 zi_0 rfl ?_
  exact hr _ _ _ _ (by decide) (by decide) dL_entry_26
set_option maxHeartbeats 4000000 in
set_option maxRecDepth 100000 in
theorem wt_entry_1 {l : Launch} {g : zG} {kk : zKK} {cL : ClassId} {ao : Nat} (hst : l.stackTraces = false) (hC : isC g) (a1 : Int32) (a2 : Int32) (a3 : Int32) (a4 : Int32) (m : zMem) (v : Int64) (hf : tX5_entry a1 a2 a3 a4 m = some 1) : wMet l g kk cL ao yL_entry wsL_entry { frames := 8, cells := 1, slots := 6, locals := 138 } [.ref (zad g 0), .int a1, .int a2, .int a3, .int a4, .ref ao] (m, v) 1 (m, v) := by
  refine w_met (cc := cL_entry) (maxL := 7) (lo0 := [some (.ref (zad g 0)), some (.int a1), some (.int a2), some (.int a3), some (.int a4), some (.ref ao), none]) (hh := [(0, 14, 17, 13), (0, 14, 21, 33)]) hC.2.2 (by decide +kernel) rfl rfl (Nat.le_of_ble_eq_true rfl) (fun x hx K hr => ?_)
  have S := K.1
  refine e_aload S dL_entry_0 rfl rfl ?_
  refine e_iconst S dL_entry_2 zi_0 rfl ?_
  refine e_aload_n (i := 0) S dL_entry_3 rfl rfl rfl ?_
  refine e_iload_n (i := 1) S dL_entry_4 rfl rfl rfl ?_
  refine e_iload_n (i := 2) S dL_entry_5 rfl rfl rfl ?_
  refine e_iload_n (i := 3) S dL_entry_6 rfl rfl rfl ?_
  refine e_iload S dL_entry_7 rfl rfl ?_
  refine w_catch (E := 1) (As := [.int a1, .int a2, .int a3, .int a4]) (st := [.int 0, .ref ao]) (m := m) K rfl (tn_0 hC) (tc_0 hC) gL_entry_X5_entry hdX5_entry rfl (uX5_entry (hx ▸ hst) hC a1 a2 a3 a4 m _ hf) rfl (Nat.le_of_ble_eq_true rfl) ⟨Nat.le_of_ble_eq_true rfl, Nat.le_of_ble_eq_true rfl⟩ ⟨Nat.le_of_ble_eq_true rfl, Nat.le_of_ble_eq_true rfl⟩ dL_entry_9 rfl [] (⟨0, 14, 17, 13⟩ : ExceptionTableEntry) [(⟨0, 14, 21, 33⟩ : ExceptionTableEntry)] rfl (fun z hz => nomatch hz) (by decide) (by decide) (by decide +kernel) (fun q => ?_)
  refine e_astore (lo' := [some (.ref (zad g 0)), some (.int a1), some (.int a2), some (.int a3), some (.int a4), some (.ref ao), some (.ref q)]) S dL_entry_17 (Nat.le_of_ble_eq_true rfl) rfl rfl rfl ?_
  refine e_iconst S dL_entry_19 zi_1 rfl ?_
  exact hr _ _ _ _ (by decide) (by decide) dL_entry_20
set_option maxHeartbeats 4000000 in
set_option maxRecDepth 100000 in
theorem wt_entry_2 {l : Launch} {g : zG} {kk : zKK} {cL : ClassId} {ao : Nat} (hst : l.stackTraces = false) (hC : isC g) (a1 : Int32) (a2 : Int32) (a3 : Int32) (a4 : Int32) (m : zMem) (v : Int64) (hf : tX5_entry a1 a2 a3 a4 m = some 2) : wMet l g kk cL ao yL_entry wsL_entry { frames := 8, cells := 1, slots := 6, locals := 138 } [.ref (zad g 0), .int a1, .int a2, .int a3, .int a4, .ref ao] (m, v) 2 (m, v) := by
  refine w_met (cc := cL_entry) (maxL := 7) (lo0 := [some (.ref (zad g 0)), some (.int a1), some (.int a2), some (.int a3), some (.int a4), some (.ref ao), none]) (hh := [(0, 14, 17, 13), (0, 14, 21, 33)]) hC.2.2 (by decide +kernel) rfl rfl (Nat.le_of_ble_eq_true rfl) (fun x hx K hr => ?_)
  have S := K.1
  refine e_aload S dL_entry_0 rfl rfl ?_
  refine e_iconst S dL_entry_2 zi_0 rfl ?_
  refine e_aload_n (i := 0) S dL_entry_3 rfl rfl rfl ?_
  refine e_iload_n (i := 1) S dL_entry_4 rfl rfl rfl ?_
  refine e_iload_n (i := 2) S dL_entry_5 rfl rfl rfl ?_
  refine e_iload_n (i := 3) S dL_entry_6 rfl rfl rfl ?_
  refine e_iload S dL_entry_7 rfl rfl ?_
  refine w_catch (E := 2) (As := [.int a1, .int a2, .int a3, .int a4]) (st := [.int 0, .ref ao]) (m := m) K rfl (tn_0 hC) (tc_0 hC) gL_entry_X5_entry hdX5_entry rfl (uX5_entry (hx ▸ hst) hC a1 a2 a3 a4 m _ hf) rfl (Nat.le_of_ble_eq_true rfl) ⟨Nat.le_of_ble_eq_true rfl, Nat.le_of_ble_eq_true rfl⟩ ⟨Nat.le_of_ble_eq_true rfl, Nat.le_of_ble_eq_true rfl⟩ dL_entry_9 rfl [(⟨0, 14, 17, 13⟩ : ExceptionTableEntry)] (⟨0, 14, 21, 33⟩ : ExceptionTableEntry) [] rfl (fun z hz => by cases hz with | head => exact ⟨by decide, 1, ex_21, by decide +kernel⟩ | tail _ hz => cases hz) (by decide) (by decide) (by decide +kernel) (fun q => ?_)
  refine e_astore (lo' := [some (.ref (zad g 0)), some (.int a1), some (.int a2), some (.int a3), some (.int a4), some (.ref ao), some (.ref q)]) S dL_entry_21 (Nat.le_of_ble_eq_true rfl) rfl rfl rfl ?_
  refine e_iconst S dL_entry_23 zi_2 rfl ?_
  exact hr _ _ _ _ (by decide) (by decide) dL_entry_24
theorem hdL_share : yL_share.cls ≠ "java/lang/invoke/MethodHandle" ∧ yL_share.cls ≠ "java/lang/invoke/VarHandle" ∧ (parseMethodDescriptor yL_share.desc).map (fun d => d.parameters.length) = some 4 := by decide +kernel
set_option maxHeartbeats 4000000 in
set_option maxRecDepth 100000 in
theorem wn_share {l : Launch} {g : zG} {kk : zKK} {cL : ClassId} {ao : Nat} (hC : isC g) (N : Nat) (a1 : Int32) (a2 : Int32) (m : zMem) (v : Int64) (r : Int32) (hf : fX5_share N a1 a2 m = some r) : wMet l g kk cL ao yL_share wsL_share { frames := 8, cells := 1, slots := 6, locals := 136 } [.ref (zad g 0), .int a1, .int a2, .ref ao] (m, v) 0 (m, r.toInt64) := by
  refine w_met (cc := cL_share) (maxL := 5) (lo0 := [some (.ref (zad g 0)), some (.int a1), some (.int a2), some (.ref ao), none]) (hh := [(0, 10, 13, 13), (0, 10, 17, 33)]) hC.2.2 (by decide +kernel) rfl rfl (Nat.le_of_ble_eq_true rfl) (fun x hx K hr => ?_)
  have S := K.1
  refine e_aload_n (i := 3) S dL_share_0 rfl rfl rfl ?_
  refine e_iconst S dL_share_1 zi_0 rfl ?_
  refine e_aload_n (i := 0) S dL_share_2 rfl rfl rfl ?_
  refine e_iload_n (i := 1) S dL_share_3 rfl rfl rfl ?_
  refine e_iload_n (i := 2) S dL_share_4 rfl rfl rfl ?_
  refine e_cvi (As := [.int a1, .int a2]) (st := [.int 0, .ref ao]) (m := m) (wr := [(ao, oC cL v)]) S K.2.1 rfl (tn_0 hC) (tc_0 hC) gL_share_X5_share hdX5_share rfl (qX5_share hC N a1 a2 m _ hf) rfl (Nat.le_of_ble_eq_true rfl) ⟨Nat.le_of_ble_eq_true rfl, Nat.le_of_ble_eq_true rfl⟩ ⟨Nat.le_of_ble_eq_true rfl, Nat.le_of_ble_eq_true rfl⟩ dL_share_5 rfl rfl ?_
  refine e_i2l S dL_share_8 rfl ?_
  refine w_last K dL_share_9 rfl ?_
  refine e_goto (pc' := 21) S dL_share_10 (by decide) ?_
  refine e_iconst S dL_share_21 zi_0 rfl ?_
  exact hr _ _ _ _ (by decide) (by decide) dL_share_22
set_option maxHeartbeats 4000000 in
set_option maxRecDepth 100000 in
theorem wt_share_1 {l : Launch} {g : zG} {kk : zKK} {cL : ClassId} {ao : Nat} (hst : l.stackTraces = false) (hC : isC g) (a1 : Int32) (a2 : Int32) (m : zMem) (v : Int64) (hf : tX5_share a1 a2 m = some 1) : wMet l g kk cL ao yL_share wsL_share { frames := 8, cells := 1, slots := 6, locals := 136 } [.ref (zad g 0), .int a1, .int a2, .ref ao] (m, v) 1 (m, v) := by
  refine w_met (cc := cL_share) (maxL := 5) (lo0 := [some (.ref (zad g 0)), some (.int a1), some (.int a2), some (.ref ao), none]) (hh := [(0, 10, 13, 13), (0, 10, 17, 33)]) hC.2.2 (by decide +kernel) rfl rfl (Nat.le_of_ble_eq_true rfl) (fun x hx K hr => ?_)
  have S := K.1
  refine e_aload_n (i := 3) S dL_share_0 rfl rfl rfl ?_
  refine e_iconst S dL_share_1 zi_0 rfl ?_
  refine e_aload_n (i := 0) S dL_share_2 rfl rfl rfl ?_
  refine e_iload_n (i := 1) S dL_share_3 rfl rfl rfl ?_
  refine e_iload_n (i := 2) S dL_share_4 rfl rfl rfl ?_
  refine w_catch (E := 1) (As := [.int a1, .int a2]) (st := [.int 0, .ref ao]) (m := m) K rfl (tn_0 hC) (tc_0 hC) gL_share_X5_share hdX5_share rfl (uX5_share (hx ▸ hst) hC a1 a2 m _ hf) rfl (Nat.le_of_ble_eq_true rfl) ⟨Nat.le_of_ble_eq_true rfl, Nat.le_of_ble_eq_true rfl⟩ ⟨Nat.le_of_ble_eq_true rfl, Nat.le_of_ble_eq_true rfl⟩ dL_share_5 rfl [] (⟨0, 10, 13, 13⟩ : ExceptionTableEntry) [(⟨0, 10, 17, 33⟩ : ExceptionTableEntry)] rfl (fun z hz => nomatch hz) (by decide) (by decide) (by decide +kernel) (fun q => ?_)
  refine e_astore (lo' := [some (.ref (zad g 0)), some (.int a1), some (.int a2), some (.ref ao), some (.ref q)]) S dL_share_13 (Nat.le_of_ble_eq_true rfl) rfl rfl rfl ?_
  refine e_iconst S dL_share_15 zi_1 rfl ?_
  exact hr _ _ _ _ (by decide) (by decide) dL_share_16
set_option maxHeartbeats 4000000 in
set_option maxRecDepth 100000 in
theorem wt_share_2 {l : Launch} {g : zG} {kk : zKK} {cL : ClassId} {ao : Nat} (hst : l.stackTraces = false) (hC : isC g) (a1 : Int32) (a2 : Int32) (m : zMem) (v : Int64) (hf : tX5_share a1 a2 m = some 2) : wMet l g kk cL ao yL_share wsL_share { frames := 8, cells := 1, slots := 6, locals := 136 } [.ref (zad g 0), .int a1, .int a2, .ref ao] (m, v) 2 (m, v) := by
  refine w_met (cc := cL_share) (maxL := 5) (lo0 := [some (.ref (zad g 0)), some (.int a1), some (.int a2), some (.ref ao), none]) (hh := [(0, 10, 13, 13), (0, 10, 17, 33)]) hC.2.2 (by decide +kernel) rfl rfl (Nat.le_of_ble_eq_true rfl) (fun x hx K hr => ?_)
  have S := K.1
  refine e_aload_n (i := 3) S dL_share_0 rfl rfl rfl ?_
  refine e_iconst S dL_share_1 zi_0 rfl ?_
  refine e_aload_n (i := 0) S dL_share_2 rfl rfl rfl ?_
  refine e_iload_n (i := 1) S dL_share_3 rfl rfl rfl ?_
  refine e_iload_n (i := 2) S dL_share_4 rfl rfl rfl ?_
  refine w_catch (E := 2) (As := [.int a1, .int a2]) (st := [.int 0, .ref ao]) (m := m) K rfl (tn_0 hC) (tc_0 hC) gL_share_X5_share hdX5_share rfl (uX5_share (hx ▸ hst) hC a1 a2 m _ hf) rfl (Nat.le_of_ble_eq_true rfl) ⟨Nat.le_of_ble_eq_true rfl, Nat.le_of_ble_eq_true rfl⟩ ⟨Nat.le_of_ble_eq_true rfl, Nat.le_of_ble_eq_true rfl⟩ dL_share_5 rfl [(⟨0, 10, 13, 13⟩ : ExceptionTableEntry)] (⟨0, 10, 17, 33⟩ : ExceptionTableEntry) [] rfl (fun z hz => by cases hz with | head => exact ⟨by decide, 1, ex_21, by decide +kernel⟩ | tail _ hz => cases hz) (by decide) (by decide) (by decide +kernel) (fun q => ?_)
  refine e_astore (lo' := [some (.ref (zad g 0)), some (.int a1), some (.int a2), some (.ref ao), some (.ref q)]) S dL_share_17 (Nat.le_of_ble_eq_true rfl) rfl rfl rfl ?_
  refine e_iconst S dL_share_19 zi_2 rfl ?_
  exact hr _ _ _ _ (by decide) (by decide) dL_share_20
theorem hdL_overlay : yL_overlay.cls ≠ "java/lang/invoke/MethodHandle" ∧ yL_overlay.cls ≠ "java/lang/invoke/VarHandle" ∧ (parseMethodDescriptor yL_overlay.desc).map (fun d => d.parameters.length) = some 3 := by decide +kernel
set_option maxHeartbeats 4000000 in
set_option maxRecDepth 100000 in
theorem wn_overlay {l : Launch} {g : zG} {kk : zKK} {cL : ClassId} {ao : Nat} (hC : isC g) (N : Nat) (a1 : Int32) (m : zMem) (v : Int64) (r : Int32) (hf : fX5_overlay N a1 m = some r) : wMet l g kk cL ao yL_overlay wsL_overlay { frames := 8, cells := 1, slots := 6, locals := 133 } [.ref (zad g 0), .int a1, .ref ao] (m, v) 0 (m, r.toInt64) := by
  refine w_met (cc := cL_overlay) (maxL := 4) (lo0 := [some (.ref (zad g 0)), some (.int a1), some (.ref ao), none]) (hh := [(0, 9, 12, 13)]) hC.2.2 (by decide +kernel) rfl rfl (Nat.le_of_ble_eq_true rfl) (fun x hx K hr => ?_)
  have S := K.1
  refine e_aload_n (i := 2) S dL_overlay_0 rfl rfl rfl ?_
  refine e_iconst S dL_overlay_1 zi_0 rfl ?_
  refine e_aload_n (i := 0) S dL_overlay_2 rfl rfl rfl ?_
  refine e_iload_n (i := 1) S dL_overlay_3 rfl rfl rfl ?_
  refine e_cvi (As := [.int a1]) (st := [.int 0, .ref ao]) (m := m) (wr := [(ao, oC cL v)]) S K.2.1 rfl (tn_0 hC) (tc_0 hC) gL_overlay_X5_overlay hdX5_overlay rfl (qX5_overlay hC N a1 m _ hf) rfl (Nat.le_of_ble_eq_true rfl) ⟨Nat.le_of_ble_eq_true rfl, Nat.le_of_ble_eq_true rfl⟩ ⟨Nat.le_of_ble_eq_true rfl, Nat.le_of_ble_eq_true rfl⟩ dL_overlay_4 rfl rfl ?_
  refine e_i2l S dL_overlay_7 rfl ?_
  refine w_last K dL_overlay_8 rfl ?_
  refine e_goto (pc' := 15) S dL_overlay_9 (by decide) ?_
  refine e_iconst S dL_overlay_15 zi_0 rfl ?_
  exact hr _ _ _ _ (by decide) (by decide) dL_overlay_16
set_option maxHeartbeats 4000000 in
set_option maxRecDepth 100000 in
theorem wt_overlay_1 {l : Launch} {g : zG} {kk : zKK} {cL : ClassId} {ao : Nat} (hst : l.stackTraces = false) (hC : isC g) (a1 : Int32) (m : zMem) (v : Int64) (hf : tX5_overlay a1 m = some 1) : wMet l g kk cL ao yL_overlay wsL_overlay { frames := 8, cells := 1, slots := 6, locals := 133 } [.ref (zad g 0), .int a1, .ref ao] (m, v) 1 (m, v) := by
  refine w_met (cc := cL_overlay) (maxL := 4) (lo0 := [some (.ref (zad g 0)), some (.int a1), some (.ref ao), none]) (hh := [(0, 9, 12, 13)]) hC.2.2 (by decide +kernel) rfl rfl (Nat.le_of_ble_eq_true rfl) (fun x hx K hr => ?_)
  have S := K.1
  refine e_aload_n (i := 2) S dL_overlay_0 rfl rfl rfl ?_
  refine e_iconst S dL_overlay_1 zi_0 rfl ?_
  refine e_aload_n (i := 0) S dL_overlay_2 rfl rfl rfl ?_
  refine e_iload_n (i := 1) S dL_overlay_3 rfl rfl rfl ?_
  refine w_catch (E := 1) (As := [.int a1]) (st := [.int 0, .ref ao]) (m := m) K rfl (tn_0 hC) (tc_0 hC) gL_overlay_X5_overlay hdX5_overlay rfl (uX5_overlay (hx ▸ hst) hC a1 m _ hf) rfl (Nat.le_of_ble_eq_true rfl) ⟨Nat.le_of_ble_eq_true rfl, Nat.le_of_ble_eq_true rfl⟩ ⟨Nat.le_of_ble_eq_true rfl, Nat.le_of_ble_eq_true rfl⟩ dL_overlay_4 rfl [] (⟨0, 9, 12, 13⟩ : ExceptionTableEntry) [] rfl (fun z hz => nomatch hz) (by decide) (by decide) (by decide +kernel) (fun q => ?_)
  refine e_astore_n (i := 3) (lo' := [some (.ref (zad g 0)), some (.int a1), some (.ref ao), some (.ref q)]) S dL_overlay_12 rfl (Nat.le_of_ble_eq_true rfl) rfl rfl rfl ?_
  refine e_iconst S dL_overlay_13 zi_1 rfl ?_
  exact hr _ _ _ _ (by decide) (by decide) dL_overlay_14
theorem hdL_count : yL_count.cls ≠ "java/lang/invoke/MethodHandle" ∧ yL_count.cls ≠ "java/lang/invoke/VarHandle" ∧ (parseMethodDescriptor yL_count.desc).map (fun d => d.parameters.length) = some 3 := by decide +kernel
set_option maxHeartbeats 4000000 in
set_option maxRecDepth 100000 in
theorem wn_count {l : Launch} {g : zG} {kk : zKK} {cL : ClassId} {ao : Nat} (hC : isC g) (a1 : Int32) (m : zMem) (v : Int64) (r : Int32) (hf : fX5_count a1 m = some r) : wMet l g kk cL ao yL_count wsL_count { frames := 8, cells := 1, slots := 6, locals := 133 } [.ref (zad g 0), .int a1, .ref ao] (m, v) 0 (m, r.toInt64) := by
  refine w_met (cc := cL_count) (maxL := 4) (lo0 := [some (.ref (zad g 0)), some (.int a1), some (.ref ao), none]) (hh := [(0, 9, 12, 13)]) hC.2.2 (by decide +kernel) rfl rfl (Nat.le_of_ble_eq_true rfl) (fun x hx K hr => ?_)
  have S := K.1
  refine e_aload_n (i := 2) S dL_count_0 rfl rfl rfl ?_
  refine e_iconst S dL_count_1 zi_0 rfl ?_
  refine e_aload_n (i := 0) S dL_count_2 rfl rfl rfl ?_
  refine e_iload_n (i := 1) S dL_count_3 rfl rfl rfl ?_
  refine e_cvi (As := [.int a1]) (st := [.int 0, .ref ao]) (m := m) (wr := [(ao, oC cL v)]) S K.2.1 rfl (tn_0 hC) (tc_0 hC) gL_count_X5_count hdX5_count rfl (qX5_count hC a1 m _ hf) rfl (Nat.le_of_ble_eq_true rfl) ⟨Nat.le_of_ble_eq_true rfl, Nat.le_of_ble_eq_true rfl⟩ ⟨Nat.le_of_ble_eq_true rfl, Nat.le_of_ble_eq_true rfl⟩ dL_count_4 rfl rfl ?_
  refine e_i2l S dL_count_7 rfl ?_
  refine w_last K dL_count_8 rfl ?_
  refine e_goto (pc' := 15) S dL_count_9 (by decide) ?_
  refine e_iconst S dL_count_15 zi_0 rfl ?_
  exact hr _ _ _ _ (by decide) (by decide) dL_count_16
set_option maxHeartbeats 4000000 in
set_option maxRecDepth 100000 in
theorem wt_count_1 {l : Launch} {g : zG} {kk : zKK} {cL : ClassId} {ao : Nat} (hst : l.stackTraces = false) (hC : isC g) (a1 : Int32) (m : zMem) (v : Int64) (hf : tX5_count a1 m = some 1) : wMet l g kk cL ao yL_count wsL_count { frames := 8, cells := 1, slots := 6, locals := 133 } [.ref (zad g 0), .int a1, .ref ao] (m, v) 1 (m, v) := by
  refine w_met (cc := cL_count) (maxL := 4) (lo0 := [some (.ref (zad g 0)), some (.int a1), some (.ref ao), none]) (hh := [(0, 9, 12, 13)]) hC.2.2 (by decide +kernel) rfl rfl (Nat.le_of_ble_eq_true rfl) (fun x hx K hr => ?_)
  have S := K.1
  refine e_aload_n (i := 2) S dL_count_0 rfl rfl rfl ?_
  refine e_iconst S dL_count_1 zi_0 rfl ?_
  refine e_aload_n (i := 0) S dL_count_2 rfl rfl rfl ?_
  refine e_iload_n (i := 1) S dL_count_3 rfl rfl rfl ?_
  refine w_catch (E := 1) (As := [.int a1]) (st := [.int 0, .ref ao]) (m := m) K rfl (tn_0 hC) (tc_0 hC) gL_count_X5_count hdX5_count rfl (uX5_count (hx ▸ hst) hC a1 m _ hf) rfl (Nat.le_of_ble_eq_true rfl) ⟨Nat.le_of_ble_eq_true rfl, Nat.le_of_ble_eq_true rfl⟩ ⟨Nat.le_of_ble_eq_true rfl, Nat.le_of_ble_eq_true rfl⟩ dL_count_4 rfl [] (⟨0, 9, 12, 13⟩ : ExceptionTableEntry) [] rfl (fun z hz => nomatch hz) (by decide) (by decide) (by decide +kernel) (fun q => ?_)
  refine e_astore_n (i := 3) (lo' := [some (.ref (zad g 0)), some (.int a1), some (.ref ao), some (.ref q)]) S dL_count_12 rfl (Nat.le_of_ble_eq_true rfl) rfl rfl rfl ?_
  refine e_iconst S dL_count_13 zi_1 rfl ?_
  exact hr _ _ _ _ (by decide) (by decide) dL_count_14
theorem hdL_type : yL_type.cls ≠ "java/lang/invoke/MethodHandle" ∧ yL_type.cls ≠ "java/lang/invoke/VarHandle" ∧ (parseMethodDescriptor yL_type.desc).map (fun d => d.parameters.length) = some 3 := by decide +kernel
set_option maxHeartbeats 4000000 in
set_option maxRecDepth 100000 in
theorem wn_type {l : Launch} {g : zG} {kk : zKK} {cL : ClassId} {ao : Nat} (hC : isC g) (a1 : Int32) (m : zMem) (v : Int64) (r : Int32) (m' : zMem) (hf : fX5_type a1 m = some (r, m')) : wMet l g kk cL ao yL_type wsL_type { frames := 8, cells := 1, slots := 6, locals := 133 } [.ref (zad g 0), .int a1, .ref ao] (m, v) 0 (m', r.toInt64) := by
  refine w_met (cc := cL_type) (maxL := 4) (lo0 := [some (.ref (zad g 0)), some (.int a1), some (.ref ao), none]) (hh := [(0, 9, 12, 13), (0, 9, 15, 33)]) hC.2.2 (by decide +kernel) rfl rfl (Nat.le_of_ble_eq_true rfl) (fun x hx K hr => ?_)
  have S := K.1
  refine e_aload_n (i := 2) S dL_type_0 rfl rfl rfl ?_
  refine e_iconst S dL_type_1 zi_0 rfl ?_
  refine e_aload_n (i := 0) S dL_type_2 rfl rfl rfl ?_
  refine e_iload_n (i := 1) S dL_type_3 rfl rfl rfl ?_
  refine e_cvi (As := [.int a1]) (st := [.int 0, .ref ao]) (m := m) (wr := [(ao, oC cL v)]) S K.2.1 rfl (tn_0 hC) (tc_0 hC) gL_type_X5_type hdX5_type rfl (qX5_type hC a1 m _ hf) rfl (Nat.le_of_ble_eq_true rfl) ⟨Nat.le_of_ble_eq_true rfl, Nat.le_of_ble_eq_true rfl⟩ ⟨Nat.le_of_ble_eq_true rfl, Nat.le_of_ble_eq_true rfl⟩ dL_type_4 rfl rfl ?_
  refine e_i2l S dL_type_7 rfl ?_
  refine w_last K dL_type_8 rfl ?_
  refine e_goto (pc' := 18) S dL_type_9 (by decide) ?_
  refine e_iconst S dL_type_18 zi_0 rfl ?_
  exact hr _ _ _ _ (by decide) (by decide) dL_type_19
set_option maxHeartbeats 4000000 in
set_option maxRecDepth 100000 in
theorem wt_type_1 {l : Launch} {g : zG} {kk : zKK} {cL : ClassId} {ao : Nat} (hst : l.stackTraces = false) (hC : isC g) (a1 : Int32) (m : zMem) (v : Int64) (hf : tX5_type a1 m = some 1) : wMet l g kk cL ao yL_type wsL_type { frames := 8, cells := 1, slots := 6, locals := 133 } [.ref (zad g 0), .int a1, .ref ao] (m, v) 1 (m, v) := by
  refine w_met (cc := cL_type) (maxL := 4) (lo0 := [some (.ref (zad g 0)), some (.int a1), some (.ref ao), none]) (hh := [(0, 9, 12, 13), (0, 9, 15, 33)]) hC.2.2 (by decide +kernel) rfl rfl (Nat.le_of_ble_eq_true rfl) (fun x hx K hr => ?_)
  have S := K.1
  refine e_aload_n (i := 2) S dL_type_0 rfl rfl rfl ?_
  refine e_iconst S dL_type_1 zi_0 rfl ?_
  refine e_aload_n (i := 0) S dL_type_2 rfl rfl rfl ?_
  refine e_iload_n (i := 1) S dL_type_3 rfl rfl rfl ?_
  refine w_catch (E := 1) (As := [.int a1]) (st := [.int 0, .ref ao]) (m := m) K rfl (tn_0 hC) (tc_0 hC) gL_type_X5_type hdX5_type rfl (uX5_type (hx ▸ hst) hC a1 m _ hf) rfl (Nat.le_of_ble_eq_true rfl) ⟨Nat.le_of_ble_eq_true rfl, Nat.le_of_ble_eq_true rfl⟩ ⟨Nat.le_of_ble_eq_true rfl, Nat.le_of_ble_eq_true rfl⟩ dL_type_4 rfl [] (⟨0, 9, 12, 13⟩ : ExceptionTableEntry) [(⟨0, 9, 15, 33⟩ : ExceptionTableEntry)] rfl (fun z hz => nomatch hz) (by decide) (by decide) (by decide +kernel) (fun q => ?_)
  refine e_astore_n (i := 3) (lo' := [some (.ref (zad g 0)), some (.int a1), some (.ref ao), some (.ref q)]) S dL_type_12 rfl (Nat.le_of_ble_eq_true rfl) rfl rfl rfl ?_
  refine e_iconst S dL_type_13 zi_1 rfl ?_
  exact hr _ _ _ _ (by decide) (by decide) dL_type_14
set_option maxHeartbeats 4000000 in
set_option maxRecDepth 100000 in
theorem wt_type_2 {l : Launch} {g : zG} {kk : zKK} {cL : ClassId} {ao : Nat} (hst : l.stackTraces = false) (hC : isC g) (a1 : Int32) (m : zMem) (v : Int64) (hf : tX5_type a1 m = some 2) : wMet l g kk cL ao yL_type wsL_type { frames := 8, cells := 1, slots := 6, locals := 133 } [.ref (zad g 0), .int a1, .ref ao] (m, v) 2 (m, v) := by
  refine w_met (cc := cL_type) (maxL := 4) (lo0 := [some (.ref (zad g 0)), some (.int a1), some (.ref ao), none]) (hh := [(0, 9, 12, 13), (0, 9, 15, 33)]) hC.2.2 (by decide +kernel) rfl rfl (Nat.le_of_ble_eq_true rfl) (fun x hx K hr => ?_)
  have S := K.1
  refine e_aload_n (i := 2) S dL_type_0 rfl rfl rfl ?_
  refine e_iconst S dL_type_1 zi_0 rfl ?_
  refine e_aload_n (i := 0) S dL_type_2 rfl rfl rfl ?_
  refine e_iload_n (i := 1) S dL_type_3 rfl rfl rfl ?_
  refine w_catch (E := 2) (As := [.int a1]) (st := [.int 0, .ref ao]) (m := m) K rfl (tn_0 hC) (tc_0 hC) gL_type_X5_type hdX5_type rfl (uX5_type (hx ▸ hst) hC a1 m _ hf) rfl (Nat.le_of_ble_eq_true rfl) ⟨Nat.le_of_ble_eq_true rfl, Nat.le_of_ble_eq_true rfl⟩ ⟨Nat.le_of_ble_eq_true rfl, Nat.le_of_ble_eq_true rfl⟩ dL_type_4 rfl [(⟨0, 9, 12, 13⟩ : ExceptionTableEntry)] (⟨0, 9, 15, 33⟩ : ExceptionTableEntry) [] rfl (fun z hz => by cases hz with | head => exact ⟨by decide, 1, ex_21, by decide +kernel⟩ | tail _ hz => cases hz) (by decide) (by decide) (by decide +kernel) (fun q => ?_)
  refine e_astore_n (i := 3) (lo' := [some (.ref (zad g 0)), some (.int a1), some (.ref ao), some (.ref q)]) S dL_type_15 rfl (Nat.le_of_ble_eq_true rfl) rfl rfl rfl ?_
  refine e_iconst S dL_type_16 zi_2 rfl ?_
  exact hr _ _ _ _ (by decide) (by decide) dL_type_17
theorem hdL_undo : yL_undo.cls ≠ "java/lang/invoke/MethodHandle" ∧ yL_undo.cls ≠ "java/lang/invoke/VarHandle" ∧ (parseMethodDescriptor yL_undo.desc).map (fun d => d.parameters.length) = some 2 := by decide +kernel
set_option maxHeartbeats 4000000 in
set_option maxRecDepth 100000 in
theorem wn_undo {l : Launch} {g : zG} {kk : zKK} {cL : ClassId} {ao : Nat} (hC : isC g) (m : zMem) (v : Int64) (r : Int32) (m' : zMem) (hf : fX5_undo m = some (r, m')) : wMet l g kk cL ao yL_undo wsL_undo { frames := 7, cells := 1, slots := 6, locals := 111 } [.ref (zad g 0), .ref ao] (m, v) 0 (m', r.toInt64) := by
  refine w_met (cc := cL_undo) (maxL := 3) (lo0 := [some (.ref (zad g 0)), some (.ref ao), none]) (hh := [(0, 8, 11, 33)]) hC.2.2 (by decide +kernel) rfl rfl (Nat.le_of_ble_eq_true rfl) (fun x hx K hr => ?_)
  have S := K.1
  refine e_aload_n (i := 1) S dL_undo_0 rfl rfl rfl ?_
  refine e_iconst S dL_undo_1 zi_0 rfl ?_
  refine e_aload_n (i := 0) S dL_undo_2 rfl rfl rfl ?_
  refine e_cvi (As := []) (st := [.int 0, .ref ao]) (m := m) (wr := [(ao, oC cL v)]) S K.2.1 rfl (tn_0 hC) (tc_0 hC) gL_undo_X5_undo hdX5_undo rfl (qX5_undo hC m _ hf) rfl (Nat.le_of_ble_eq_true rfl) ⟨Nat.le_of_ble_eq_true rfl, Nat.le_of_ble_eq_true rfl⟩ ⟨Nat.le_of_ble_eq_true rfl, Nat.le_of_ble_eq_true rfl⟩ dL_undo_3 rfl rfl ?_
  refine e_i2l S dL_undo_6 rfl ?_
  refine w_last K dL_undo_7 rfl ?_
  refine e_goto (pc' := 14) S dL_undo_8 (by decide) ?_
  refine e_iconst S dL_undo_14 zi_0 rfl ?_
  exact hr _ _ _ _ (by decide) (by decide) dL_undo_15
set_option maxHeartbeats 4000000 in
set_option maxRecDepth 100000 in
theorem wt_undo_2 {l : Launch} {g : zG} {kk : zKK} {cL : ClassId} {ao : Nat} (hst : l.stackTraces = false) (hC : isC g) (m : zMem) (v : Int64) (hf : tX5_undo m = some 2) : wMet l g kk cL ao yL_undo wsL_undo { frames := 7, cells := 1, slots := 6, locals := 111 } [.ref (zad g 0), .ref ao] (m, v) 1 (m, v) := by
  refine w_met (cc := cL_undo) (maxL := 3) (lo0 := [some (.ref (zad g 0)), some (.ref ao), none]) (hh := [(0, 8, 11, 33)]) hC.2.2 (by decide +kernel) rfl rfl (Nat.le_of_ble_eq_true rfl) (fun x hx K hr => ?_)
  have S := K.1
  refine e_aload_n (i := 1) S dL_undo_0 rfl rfl rfl ?_
  refine e_iconst S dL_undo_1 zi_0 rfl ?_
  refine e_aload_n (i := 0) S dL_undo_2 rfl rfl rfl ?_
  refine w_catch (E := 2) (As := []) (st := [.int 0, .ref ao]) (m := m) K rfl (tn_0 hC) (tc_0 hC) gL_undo_X5_undo hdX5_undo rfl (uX5_undo (hx ▸ hst) hC m _ hf) rfl (Nat.le_of_ble_eq_true rfl) ⟨Nat.le_of_ble_eq_true rfl, Nat.le_of_ble_eq_true rfl⟩ ⟨Nat.le_of_ble_eq_true rfl, Nat.le_of_ble_eq_true rfl⟩ dL_undo_3 rfl [] (⟨0, 8, 11, 33⟩ : ExceptionTableEntry) [] rfl (fun z hz => nomatch hz) (by decide) (by decide) (by decide +kernel) (fun q => ?_)
  refine e_astore_n (i := 2) (lo' := [some (.ref (zad g 0)), some (.ref ao), some (.ref q)]) S dL_undo_11 rfl (Nat.le_of_ble_eq_true rfl) rfl rfl rfl ?_
  refine e_iconst S dL_undo_12 zi_1 rfl ?_
  exact hr _ _ _ _ (by decide) (by decide) dL_undo_13
