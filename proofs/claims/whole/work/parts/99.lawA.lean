/-! the law: its context, and its calls -/
def lX (x : zF) (D : va_G) (cI : ClassId) (aC aM : Nat → Nat) (kk : zKK) (cL : ClassId) (ao b L : Nat) (xs : Nat → Int32) : Prop :=
  zCF x cL_law 7 wsL_law RL ∧ gK x (gC0 D cI aC) room_1 ∧ gK x (gM0 D cI aM) room_1 ∧ va_K D vwCl (wty (gC0 D cI aC) cL) (zfs x) ∧ zfA x = (fun q => (zfs x).heap.size ≤ q) ∧ va_X b L xs (zfs x) (zfs x).heap ∧ b < (zfs x).heap.size ∧ zfE kk x ∧ x.2.1.stackTraces = false ∧ zfA x ao
theorem iC0 (D : va_G) (cI : ClassId) (ad : Nat → Nat) : isC (gC0 D cI ad) := ⟨rfl, rfl, rfl⟩
theorem iM0 (D : va_G) (cI : ClassId) (ad : Nat → Nat) : isM (gM0 D cI ad) := ⟨rfl, rfl, rfl⟩
theorem cV_wd {x : zF} {D : va_G} {nL cs sl k n pc : Nat} {lo : List (Option Value)} {st : List Value} {ws : va_W} (h1 : cs ≤ k) (h2 : sl ≤ n) (kk : cV x D nL k n pc lo st ws) : cV x D nL cs sl pc lo st ws := fun H locs ls hP hD hS hl => W.widen h1 h2 (kk H locs ls hP hD hS hl)
theorem cV_as {x : zF} {D : va_G} {nL cs sl pc : Nat} {lo : List (Option Value)} {st : List Value} {wa wb wc : va_W} (k : cV x D nL cs sl pc lo st (wa ++ (wb ++ wc))) : cV x D nL cs sl pc lo st ((wa ++ wb) ++ wc) := by rw [List.append_assoc]; exact k
theorem cV_sa {x : zF} {D : va_G} {nL cs sl pc : Nat} {lo : List (Option Value)} {st : List Value} {wa wb wc : va_W} (k : cV x D nL cs sl pc lo st ((wa ++ wb) ++ wc)) : cV x D nL cs sl pc lo st (wa ++ (wb ++ wc)) := by rw [← List.append_assoc]; exact k
theorem wW_has (g : zG) (cL : ClassId) (ao : Nat) (m : zMem) (v : Int64) (z : Nat) (h : wAD g ao z) : ∃ (i : Nat) (e : va_E), (wW g cL ao m v)[i]? = some (z, e) := by
  rcases h with h | h
  · obtain ⟨i, e, hi⟩ := zwd_has g m z h
    exact ⟨i, e, by unfold wW; rw [List.getElem?_append_left (List.getElem?_eq_some_iff.mp hi).1]; exact hi⟩
  · rw [h]
    exact ⟨zn g, _, wW_at g cL ao m v⟩
theorem wD_ad {A : Nat → Prop} {g : zG} {cL : ClassId} {ao : Nat} {m : zMem} {v : Int64} (h : va_D A (wW g cL ao m v)) : va_D (wAD g ao) (wW g cL ao m v) := ⟨h.1, fun i z hz => by
  unfold wW at hz
  have hl : (zwd g m).length = zn g := by simp [zwd]
  by_cases q : i < zn g
  · rw [List.getElem?_append_left (by omega)] at hz
    obtain ⟨a1, a2⟩ := zwd_ad g m hz
    exact Or.inl ⟨i, a1, a2⟩
  · rw [List.getElem?_append_right (by omega)] at hz
    have h1 := (List.getElem?_eq_some_iff.mp hz).1
    have e : i - (zwd g m).length = 0 := by simp at h1; omega
    rw [e] at hz
    cases hz
    exact Or.inr rfl⟩
section ZL
variable {x : zF} {D : va_G} {cI : ClassId} {aC aM : Nat → Nat} {kk : zKK} {cL : ClassId} {ao b L : Nat} {xs : Nat → Int32} {cs sl pc pc' : Nat} {lo lo' : List (Option Value)} {st : List Value} {mC mC' mM : zMem} {v v' : Int64}
variable {y : MethodName} {bytes : ByteArray} {maxL n idx : Nat} {tws ws' : List Cond} {As : List Value} {hh : List (Nat × Nat × Nat × Nat)} {r : Int32}
theorem le_wrap (X : lX x D cI aC aM kk cL ao b L xs) {fr lc : Nat} (hM : wMet x.2.1 (gC0 D cI aC) kk cL ao y tws { frames := fr, cells := 1, slots := 6, locals := lc } As (mC, v) r (mC', v')) (hG : GoodIn wsL_law (va_wsS RL idx y tws)) (hd : y.cls ≠ "java/lang/invoke/MethodHandle" ∧ y.cls ≠ "java/lang/invoke/VarHandle" ∧ (parseMethodDescriptor y.desc).map (fun d => d.parameters.length) = some n) (hw : tws = Cond.codeWith y bytes maxL (some .int) hh :: ws') (hn : As.length = n) (h8 : (st.map fun v => v.category).sum ≤ 8) (hR : fr + 1 ≤ 12 ∧ 8 + (maxL + 11) + lc ≤ 434) (hcs : cs + 1 ≤ 1090 ∧ sl + 6 ≤ 26359) (hdg : decode cL_law pc = .ok (.invokestatic idx, 3)) (hp : pc + 3 = pc') {stk : List Value} (hst : stk = As.reverse ++ st) (k : cV x D 7 (cs + 1) (sl + 6) pc' lo (.int r :: st) (zwd (gM0 D cI aM) mM ++ wW (gC0 D cI aC) cL ao mC' v')) : cV x D 7 cs sl pc lo stk (zwd (gM0 D cI aM) mM ++ wW (gC0 D cI aC) cL ao mC v) := by
  subst hp
  refine e_swap (fun H locs ls hP hD hS hl => ?_)
  obtain ⟨S, GC, GM, hK, hA, hX, hbl, hE, hst9, hao⟩ := X
  have hrm : zfR x = room_1 := GC.2.2.2
  have hup : ∀ q : Nat, wAD (gC0 D cI aC) ao q → zfA x q := fun q h => by
    rcases h with h | h
    · obtain ⟨i, h1, h2⟩ := h
      rw [h2]; exact GC.2.2.1 i h1
    · rw [h]; exact hao
  refine va_calli (vx_runSW (hh := hh) (As := As) (rest := st) S hM (vx_cwSW n S.2.2.2.2 hG hw rfl rfl hd ⟨by rw [hrm]; exact hR.1, by rw [hrm]; exact hR.2⟩) ⟨wPK_blind _ _ _ _ _ _, fun U hU hW => ⟨rfl, ⟨by rw [hU]; exact zP_l hP, va_K.moved hW.alike hK, wD_ad (zD_l hD)⟩, KE.go hE hW (fun a h1 h2 => by rw [hU]; exact hS.2.1 a h1 h2) hup⟩⟩ rfl hn hl.1 hst (lv_room h8) hdg ⟨by rw [hrm]; exact hcs.1, by rw [hrm]; exact hcs.2⟩) hS (fun q _ h => hup q h) hup (fun r9 u t H1 locs1 ht hvm hq hB hz1 hk1 hS1 => ?_)
  obtain ⟨q1, q2⟩ := hq
  subst q1; subst q2
  obtain ⟨hP1, hK1, hD1⟩ := hB
  rw [ht] at hP1
  obtain ⟨j1, j2⟩ := g_join hP hD (wW_has _ cL ao mC v) hk1 hP1 hD1
  exact (e_swap k) H1 locs1 ls j1 j2 hS1 hl
theorem le_lald (X : lX x D cI aC aM kk cL ao b L xs) (hd : decode cL_law pc = .ok (.laload, 1)) (hp : pc + 1 = pc') (k : cV x D 7 cs sl pc' lo (.long v :: st) (zwd (gM0 D cI aM) mM ++ wW (gC0 D cI aC) cL ao mC v)) : cV x D 7 cs sl pc lo (.int 0 :: .ref ao :: st) (zwd (gM0 D cI aM) mM ++ wW (gC0 D cI aC) cL ao mC v) := fun H locs ls hP hD hS hl => by
  subst hp
  have hl7 : (zwd (gM0 D cI aM) mM).length = 7 := by
    have : zn (gM0 D cI aM) = 7 := rfl
    simp [zwd, this]
  have hat : (zwd (gM0 D cI aM) mM ++ wW (gC0 D cI aC) cL ao mC v)[7 + 50]? = some (ao, oC cL v) := by
    rw [List.getElem?_append_right (by omega), hl7, Nat.add_sub_cancel_left]
    exact wW_at (gC0 D cI aC) cL ao mC v
  exact va_lald X.1.1 X.1.2.1 X.2.2.2.1 hP (7 + 50) 1 hat rfl (i := 0) (by unfold vp_in; decide) hd (k H locs ls hP hD hS hl)
theorem e_lcmp {ws : va_W} (S : zCF x cL_law 7 wsL_law RL) {p q : Int64} (h : p = q) (hd : decode cL_law pc = .ok (.lcmp, 1)) (hp : pc + 1 = pc') (k : cV x D 7 cs sl pc' lo (.int 0 :: st) ws) : cV x D 7 cs sl pc lo (.long q :: .long p :: st) ws := fun H locs ls hP hD hS hl => by
  subst hp; subst h
  refine W.lcmp S.1 S.2.1 hd ?_
  have e : lg_cmp p p = 0 := by simp [lg_cmp]
  rw [e]
  exact k H locs ls hP hD hS hl
end ZL
theorem lw_ix {c L : Nat} (h : 6 * c + 6 ≤ L) (hL : L ≤ 3072) (j : Nat) (hj : j < 6) : vp_in (nI (6 * c) + nI j) L ∧ (nI (6 * c) + nI j).toNatClampNeg = 6 * c + j := by
  rw [nI_add]
  have e : (nI (6 * c + j)).toNatClampNeg = 6 * c + j := nI_clamp (by omega)
  refine ⟨fun z => ?_, e⟩
  rcases z with z | z
  · exact nI_pos (by omega) z
  · omega
theorem lw_i0 {c L : Nat} (h : 6 * c + 6 ≤ L) (hL : L ≤ 3072) : vp_in (nI (6 * c)) L ∧ (nI (6 * c)).toNatClampNeg = 6 * c := by
  have e : (nI (6 * c)).toNatClampNeg = 6 * c := nI_clamp (by omega)
  refine ⟨fun z => ?_, e⟩
  rcases z with z | z
  · exact nI_pos (by omega) z
  · omega
theorem lw_gt1 {c L : Nat} (hL : L ≤ 3072) (h : 6 * c + 6 ≤ L) : ¬ nI L - 6 < nI (6 * c) := by
  rw [show (6 : Int32) = nI 6 from rfl, nI_sb (by omega)]
  exact nI_nlt (by omega) (by omega)
theorem lw_gt2 {c L : Nat} (hL : L ≤ 3072) (hc : 6 * c ≤ 3072) (h : ¬ 6 * c + 6 ≤ L) : nI L - 6 < nI (6 * c) := by
  by_cases q : 6 ≤ L
  · rw [show (6 : Int32) = nI 6 from rfl, nI_sb q]
    exact nI_lt (by omega) (by omega)
  · have h0 : ¬ nI (6 * c) < 0 := nI_pos (by omega)
    have h1 : nI L - 6 < 0 := by
      rcases (by omega : L = 0 ∨ L = 1 ∨ L = 2 ∨ L = 3 ∨ L = 4 ∨ L = 5) with e | e | e | e | e | e <;> subst e <;> decide
    exact Int32.lt_of_lt_of_le h1 (Int32.not_lt.mp h0)
