/-! Arrays.fill, over a picture of one row -/
def gF (D : va_G) (cI : ClassId) (a n : Nat) : zG := (D, cI, fun _ => a, fun _ => .inl n, 1, vwCl)
def mF (f : Nat → Int32) : zMem := (fun _ => f, fun _ => 0, fun _ => 0)
def flF (f : Nat → Int32) (v : Int32) (i : Nat) : Nat → Int32 := fun j => if j < i then v else f j
theorem zV_mem {x : zF} {D : va_G} {cI : ClassId} {a n : Nat} {nL cs sl pc : Nat} {lo : List (Option Value)} {st : List Value} {m m2 : zMem} (h : m.1 0 = m2.1 0) (k : zV x (gF D cI a n) nL cs sl pc lo st m2) : zV x (gF D cI a n) nL cs sl pc lo st m := fun H locs ls hP hD hS hl => by
  have e : zwd (gF D cI a n) m = zwd (gF D cI a n) m2 := by
    show [(a, zcell cI (fun _ => a) m 0 (.inl n))] = [(a, zcell cI (fun _ => a) m2 0 (.inl n))]
    simp only [zcell, h]
  rw [e] at hP hD
  exact k H locs ls hP hD hS hl
theorem z_alen {x : zF} {g : zG} {cc : ByteArray} {Ts : List Cond} {own : String} {nL : Nat} {rm : Room} {cs sl : Nat} {pc pc' : Nat} {lo : List (Option Value)} {st : List Value} {m : zMem} (C : zC x g cc Ts own nL rm) {a n : Nat} (ha : a < zn g) (hs : zsh g a = .inl n) (hd : decode cc pc = .ok (.arraylength, 1)) (hp : pc + 1 = pc') (k : zV x g nL cs sl pc' lo (.int (nI n) :: st) m) : zV x g nL cs sl pc lo (.ref (zad g a) :: st) m := fun H locs ls hP hD hS hl => by
  subst hp
  have hg := zwd_get g m ha
  rw [hs] at hg
  exact va_alen C.1.1 C.1.2.1 C.2.1 hP a 0 hg rfl rfl hd (k H locs ls hP hD hS hl)
theorem hdJ7_fill : yJ7_fill_53178.cls ≠ "java/lang/invoke/MethodHandle" ∧ yJ7_fill_53178.cls ≠ "java/lang/invoke/VarHandle" ∧ (parseMethodDescriptor yJ7_fill_53178.desc).map (fun d => d.parameters.length) = some 2 := by decide +kernel
set_option maxRecDepth 100000 in
theorem qJ7_fill {l : Launch} {D : va_G} {cI : ClassId} (a n : Nat) (f : Nat → Int32) (v : Int32) (hn : n < 2 ^ 31) : zMV l (gF D cI a n) yJ7_fill_53178 wsJ7_fill_53178 { frames := 0, cells := 0, slots := 0, locals := 0 } [.ref a, .int v] (mF (flF f v 0)) (mF (flF f v n)) := by
  refine z_met_v (cc := cJ7_fill_53178) (maxL := 4) (lo0 := [some (.ref a), some (.int v), none, none]) (by decide +kernel) rfl rfl (Nat.le_of_ble_eq_true rfl) (fun x hx C hr => ?_)
  refine z_iconst C dJ7_fill_53178_0 zi_0 rfl ?_
  refine z_istore_n (i := 2) (lo' := [some (.ref a), some (.int v), some (.int 0), none]) C dJ7_fill_53178_1 rfl (Nat.le_of_ble_eq_true rfl) rfl rfl rfl ?_
  refine z_aload_n (i := 0) C dJ7_fill_53178_2 rfl rfl rfl ?_
  refine z_alen (a := 0) (n := n) C (Nat.le_refl 1) rfl dJ7_fill_53178_3 rfl ?_
  refine z_istore_n (i := 3) (lo' := [some (.ref a), some (.int v), some (.int 0), some (.int (nI n))]) C dJ7_fill_53178_4 rfl (Nat.le_of_ble_eq_true rfl) rfl rfl rfl ?_
  have loop : ∀ d i, i + d = n → zV x (gF D cI a n) 4 0 0 5 [some (.ref a), some (.int v), some (.int (nI i)), some (.int (nI n))] [] (mF (flF f v i)) := by
    intro d
    induction d with
    | zero =>
      intro i hi
      have e : i = n := by omega
      subst e
      refine z_iload_n (i := 2) C dJ7_fill_53178_5 rfl rfl rfl ?_
      refine z_iload_n (i := 3) C dJ7_fill_53178_6 rfl rfl rfl ?_
      refine z_ic_ge (tgt := 20) (a := some ()) (b := none) (o := ()) C dJ7_fill_53178_7 (by decide) rfl (if_pos (nI_le (Nat.le_refl _) hn)) (fun _ => ?_) (fun h => by cases h)
      exact hr _ _ _ rfl dJ7_fill_53178_20
    | succ d ih =>
      intro i hi
      refine z_iload_n (i := 2) C dJ7_fill_53178_5 rfl rfl rfl ?_
      refine z_iload_n (i := 3) C dJ7_fill_53178_6 rfl rfl rfl ?_
      refine z_ic_ge (tgt := 20) (a := none) (b := some ()) (o := ()) C dJ7_fill_53178_7 (by decide) rfl (if_neg (nI_ge (by omega) hn)) (fun h => by cases h) (fun _ => ?_)
      refine z_aload_n (i := 0) C dJ7_fill_53178_10 rfl rfl rfl ?_
      refine z_iload_n (i := 2) C dJ7_fill_53178_11 rfl rfl rfl ?_
      refine z_iload_n (i := 1) C dJ7_fill_53178_12 rfl rfl rfl ?_
      refine z_iastore (a := 0) (n := n) (kk := fun m1 => some m1) C (Nat.le_refl 1) rfl dJ7_fill_53178_13 rfl (kst_n (by omega) hn _ _) (fun m1 hm => ?_)
      cases hm
      refine zV_mem (m2 := mF (flF f v (i + 1))) ?_ ?_
      · funext k
        unfold zsI mF flF
        by_cases q : k = i
        · subst q
          simp
        · by_cases q2 : k < i
          · simp [q, q2, show k < i + 1 by omega]
          · simp [q, q2, show ¬ k < i + 1 by omega]
      refine z_iinc (v := nI (i + 1)) (lo' := [some (.ref a), some (.int v), some (.int (nI (i + 1))), some (.int (nI n))]) C dJ7_fill_53178_14 rfl (by rw [zi_1, nI_1]) (Nat.le_of_ble_eq_true rfl) rfl rfl rfl ?_
      refine z_goto (pc' := 5) C dJ7_fill_53178_17 (by decide) ?_
      exact ih (i + 1) (by omega)
  exact loop n 0 (by omega)
theorem c_fill {x : zF} {D : va_G} {cI : ClassId} {cc : ByteArray} {Ts : List Cond} {own : String} {nL : Nat} {rm : Room} {cs sl : Nat} {pc pc' : Nat} {lo : List (Option Value)} {st : List Value} {ws : va_W} (C : cC x D cI cc Ts own nL rm) {a n q0 idx : Nat} {v : Int32} (he : ws[q0]? = some (a, .inl (cI, n, .inl (fun _ => 0)))) (hn : n < 2 ^ 31) (hG : GoodIn Ts (va_wsS own idx yJ7_fill_53178 wsJ7_fill_53178)) (hR : 0 + 1 ≤ rm.frames ∧ 8 + (4 + 11) + 0 ≤ rm.locals) (hcs : cs + 0 ≤ rm.cells ∧ sl + 0 ≤ rm.slots) (h8 : (st.map fun v => v.category).sum ≤ 8) (hdg : decode cc pc = .ok (.invokestatic idx, 3)) (hp : pc + 3 = pc') {ws1 : va_W} (hws : ws.set q0 (a, .inl (cI, n, .inl (flF (fun _ => 0) v n))) = ws1) (k : cV x D nL cs sl pc' lo st ws1) : cV x D nL cs sl pc lo (.int v :: .ref a :: st) ws := fun H locs ls hP hD hS hl => by
  subst hp; subst hws
  have hq : q0 < ws.length := (List.getElem?_eq_some_iff.mp he).1
  have e0 : flF (fun _ => (0 : Int32)) v 0 = fun _ => 0 := by funext j; unfold flF; simp
  have hPc : va_P D vwCl (zwd (gF D cI a n) (mF (flF (fun _ => 0) v 0))) H := fun i z h => by
    match i, h with
    | 0, h =>
      cases h
      show H[a]? = some (vp_cell cI (n, .inl (flF (fun _ => 0) v 0)))
      rw [e0]
      exact hP q0 _ he
    | i + 1, h => cases h
  have hDc : va_D (zAD (gF D cI a n)) (zwd (gF D cI a n) (mF (flF (fun _ => 0) v 0))) := by
    refine ⟨fun i j p9 q9 h1 h2 _ => ?_, fun i z h => ?_⟩
    · have a1 := (zwd_ad _ _ h1).1
      have a2 := (zwd_ad _ _ h2).1
      have : zn (gF D cI a n) = 1 := rfl
      omega
    · obtain ⟨a1, a2⟩ := zwd_ad _ _ h
      exact ⟨i, a1, a2⟩
  have hF : ∀ z : Nat, zAD (gF D cI a n) z → zfA x z := fun z hz => by
    obtain ⟨i, h1, h2⟩ := hz
    rw [h2]
    exact hD.2 q0 _ he
  refine va_callv (va_runS (As := [.ref a, .int v]) (rest := st) C.1 (qJ7_fill a n (fun _ => 0) v hn) (va_cwS 2 C.1.2.2.2.2 hG rfl rfl rfl hdJ7_fill ⟨by rw [C.2.2.2.1]; exact hR.1, by rw [C.2.2.2.1]; exact hR.2⟩) ⟨zPP_blind _ _, fun U hU hW => ⟨rfl, by rw [hU]; exact hPc, va_K.moved hW.alike C.2.1, hDc⟩⟩ rfl rfl hl.1 rfl (lv_room h8) hdg ⟨by rw [C.2.2.2.1]; exact hcs.1, by rw [C.2.2.2.1]; exact hcs.2⟩) hS (fun q9 _ h => hF q9 h) hF (fun u t H1 locs1 ht hvm hq9 hB hz1 hk1 hS1 => ?_)
  cases hq9
  obtain ⟨hP1, hK1, hD1⟩ := hB
  rw [ht] at hP1
  refine k H1 locs1 ls (fun i z h => ?_) (hD.set he) hS1 hl
  by_cases q : i = q0
  · subst q
    rw [List.getElem?_set_self hq] at h
    cases h
    exact hP1 0 _ rfl
  · rw [List.getElem?_set_ne (Ne.symm q)] at h
    refine (hP i z h).kept (hk1 _ ((hP i z h).lt) (fun hz => q ?_))
    obtain ⟨j, h1, h2⟩ := hz
    exact hD.1 i q0 z (a, .inl (cI, n, .inl (fun _ => 0))) h he h2
