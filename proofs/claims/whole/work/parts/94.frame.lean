/-! rows over a list of cells, for the law and its wrappers -/
abbrev zCF (x : zF) (cc : ByteArray) (nL : Nat) (Ts : List Cond) (own : String) : Prop := CallFix x.1 x.2.2.2.2.2.1 x.2.2.2.2.2.2.2.2.2.1 cc nL (zfs x) x.2.2.2.2.2.2.1 Ts own
section ZD
variable {x : zF} {D : va_G} {cc : ByteArray} {Ts : List Cond} {own : String} {nL : Nat} {cs sl : Nat} {pc pc' : Nat} {lo lo' : List (Option Value)} {st : List Value} {ws : va_W}
theorem e_iconst (S : zCF x cc nL Ts own) {n : Int} {v : Int32} (hd : decode cc pc = .ok (.iconst n, 1)) (hv : Int32.ofInt n = v) (hp : pc + 1 = pc') (k : cV x D nL cs sl pc' lo (.int v :: st) ws) : cV x D nL cs sl pc lo st ws := fun H locs ls hP hD hS hl => by subst hp; exact lv_iconst S.1 S.2.1 hd hv (k H locs ls hP hD hS hl)
theorem e_bipush (S : zCF x cc nL Ts own) {n : Int} {v : Int32} (hd : decode cc pc = .ok (.bipush n, 2)) (hv : (Int8.ofInt n).toInt32 = v) (hp : pc + 2 = pc') (k : cV x D nL cs sl pc' lo (.int v :: st) ws) : cV x D nL cs sl pc lo st ws := fun H locs ls hP hD hS hl => by subst hp; exact lv_bipush S.1 S.2.1 hd hv (k H locs ls hP hD hS hl)
theorem e_iload_n (S : zCF x cc nL Ts own) {j : Fin 4} {i : Nat} {y : Int32} (hd : decode cc pc = .ok (.iload_n j, 1)) (hi : (j : Nat) = i) (hv : lo[i]? = some (some (.int y))) (hp : pc + 1 = pc') (k : cV x D nL cs sl pc' lo (.int y :: st) ws) : cV x D nL cs sl pc lo st ws := fun H locs ls hP hD hS hl => by subst hp; exact lv_iload_n S.1 S.2.1 hd hi (hl.2.2 _ _ hv) (k H locs ls hP hD hS hl)
theorem e_iload (S : zCF x cc nL Ts own) {i : Nat} {y : Int32} (hd : decode cc pc = .ok (.iload i, 2)) (hv : lo[i]? = some (some (.int y))) (hp : pc + 2 = pc') (k : cV x D nL cs sl pc' lo (.int y :: st) ws) : cV x D nL cs sl pc lo st ws := fun H locs ls hP hD hS hl => by subst hp; exact lv_iload S.1 S.2.1 hd (hl.2.2 _ _ hv) (k H locs ls hP hD hS hl)
theorem e_istore_n (S : zCF x cc nL Ts own) {j : Fin 4} {i : Nat} {y : Int32} (hd : decode cc pc = .ok (.istore_n j, 1)) (hi : (j : Nat) = i) (hn : i < nL) (hc : zc1 lo (i - 1) = 1) (hs : lo.set i (some (.int y)) = lo') (hp : pc + 1 = pc') (k : cV x D nL cs sl pc' lo' st ws) : cV x D nL cs sl pc lo (.int y :: st) ws := fun H locs ls hP hD hS hl => by subst hp; exact by subst hs; exact lv_istore_n S.1 S.2.1 hd hi (zlo_has hl) hn rfl (fun ls1 h1 => k H locs ls1 hP hD hS (zlo_set h1 hc))
theorem e_istore (S : zCF x cc nL Ts own) {i : Nat} {y : Int32} (hd : decode cc pc = .ok (.istore i, 2)) (hn : i < nL) (hc : zc1 lo (i - 1) = 1) (hs : lo.set i (some (.int y)) = lo') (hp : pc + 2 = pc') (k : cV x D nL cs sl pc' lo' st ws) : cV x D nL cs sl pc lo (.int y :: st) ws := fun H locs ls hP hD hS hl => by subst hp; exact by subst hs; exact lv_istore S.1 S.2.1 hd (zlo_has hl) hn rfl (fun ls1 h1 => k H locs ls1 hP hD hS (zlo_set h1 hc))
theorem e_aload_n (S : zCF x cc nL Ts own) {j : Fin 4} {i : Nat} {y : Nat} (hd : decode cc pc = .ok (.aload_n j, 1)) (hi : (j : Nat) = i) (hv : lo[i]? = some (some (.ref y))) (hp : pc + 1 = pc') (k : cV x D nL cs sl pc' lo (.ref y :: st) ws) : cV x D nL cs sl pc lo st ws := fun H locs ls hP hD hS hl => by subst hp; exact lv_aload_n S.1 S.2.1 hd hi (hl.2.2 _ _ hv) (k H locs ls hP hD hS hl)
theorem e_aload (S : zCF x cc nL Ts own) {i : Nat} {y : Nat} (hd : decode cc pc = .ok (.aload i, 2)) (hv : lo[i]? = some (some (.ref y))) (hp : pc + 2 = pc') (k : cV x D nL cs sl pc' lo (.ref y :: st) ws) : cV x D nL cs sl pc lo st ws := fun H locs ls hP hD hS hl => by subst hp; exact lv_aload S.1 S.2.1 hd (hl.2.2 _ _ hv) (k H locs ls hP hD hS hl)
theorem e_astore_n (S : zCF x cc nL Ts own) {j : Fin 4} {i : Nat} {y : Nat} (hd : decode cc pc = .ok (.astore_n j, 1)) (hi : (j : Nat) = i) (hn : i < nL) (hc : zc1 lo (i - 1) = 1) (hs : lo.set i (some (.ref y)) = lo') (hp : pc + 1 = pc') (k : cV x D nL cs sl pc' lo' st ws) : cV x D nL cs sl pc lo (.ref y :: st) ws := fun H locs ls hP hD hS hl => by subst hp; exact by subst hs; exact lv_astore_n S.1 S.2.1 hd hi (zlo_has hl) hn rfl (fun ls1 h1 => k H locs ls1 hP hD hS (zlo_set h1 hc))
theorem e_astore (S : zCF x cc nL Ts own) {i : Nat} {y : Nat} (hd : decode cc pc = .ok (.astore i, 2)) (hn : i < nL) (hc : zc1 lo (i - 1) = 1) (hs : lo.set i (some (.ref y)) = lo') (hp : pc + 2 = pc') (k : cV x D nL cs sl pc' lo' st ws) : cV x D nL cs sl pc lo (.ref y :: st) ws := fun H locs ls hP hD hS hl => by subst hp; exact by subst hs; exact lv_astore S.1 S.2.1 hd (zlo_has hl) hn rfl (fun ls1 h1 => k H locs ls1 hP hD hS (zlo_set h1 hc))
theorem e_iadd (S : zCF x cc nL Ts own) {y z : Int32} (hd : decode cc pc = .ok (.iadd, 1)) (hp : pc + 1 = pc') (k : cV x D nL cs sl pc' lo (.int (y + z) :: st) ws) : cV x D nL cs sl pc lo (.int z :: .int y :: st) ws := fun H locs ls hP hD hS hl => by subst hp; exact lv_iadd S.1 S.2.1 hd (k H locs ls hP hD hS hl)
theorem e_isub (S : zCF x cc nL Ts own) {y z : Int32} (hd : decode cc pc = .ok (.isub, 1)) (hp : pc + 1 = pc') (k : cV x D nL cs sl pc' lo (.int (y - z) :: st) ws) : cV x D nL cs sl pc lo (.int z :: .int y :: st) ws := fun H locs ls hP hD hS hl => by subst hp; exact lv_isub S.1 S.2.1 hd (k H locs ls hP hD hS hl)
theorem e_iand (S : zCF x cc nL Ts own) {y z : Int32} (hd : decode cc pc = .ok (.iand, 1)) (hp : pc + 1 = pc') (k : cV x D nL cs sl pc' lo (.int (y &&& z) :: st) ws) : cV x D nL cs sl pc lo (.int z :: .int y :: st) ws := fun H locs ls hP hD hS hl => by subst hp; exact lv_iand S.1 S.2.1 hd (k H locs ls hP hD hS hl)
theorem e_i2l (S : zCF x cc nL Ts own) {y : Int32} (hd : decode cc pc = .ok (.i2l, 1)) (hp : pc + 1 = pc') (k : cV x D nL cs sl pc' lo (.long y.toInt64 :: st) ws) : cV x D nL cs sl pc lo (.int y :: st) ws := fun H locs ls hP hD hS hl => by subst hp; exact lv_i2l S.1 S.2.1 hd rfl (k H locs ls hP hD hS hl)
theorem e_drop (i : Nat) (hs : lo.set i none = lo') (k : cV x D nL cs sl pc lo' st ws) : cV x D nL cs sl pc lo st ws := fun H locs ls hP hD hS hl => k H locs ls hP hD hS ⟨hl.1, hl.2.1, fun j v h => hl.2.2 j v (by
  subst hs
  by_cases e : i = j
  · subst e
    have h2 := (List.getElem?_eq_some_iff.mp h).1
    rw [List.getElem?_set_self (by simpa using h2)] at h
    cases h
  · rwa [List.getElem?_set_ne e] at h)⟩
theorem e_goto (S : zCF x cc nL Ts own) {off : Int} (hd : decode cc pc = .ok (.goto off, 3)) (ht : (pc : Int) + off = (pc' : Int)) (k : cV x D nL cs sl pc' lo st ws) : cV x D nL cs sl pc lo st ws := fun H locs ls hP hD hS hl => lv_goto S.1 S.2.1 hd ht (k H locs ls hP hD hS hl)
theorem e_iinc (S : zCF x cc nL Ts own) {i : Nat} {n : Int} {y v : Int32} (hd : decode cc pc = .ok (.iinc i n, 3)) (hi : lo[i]? = some (some (.int y))) (hv : y + Int32.ofInt n = v) (hn : i < nL) (hc : zc1 lo (i - 1) = 1) (hs : lo.set i (some (.int v)) = lo') (hp : pc + 3 = pc') (k : cV x D nL cs sl pc' lo' st ws) : cV x D nL cs sl pc lo st ws := fun H locs ls hP hD hS hl => by
  subst hp; subst hs
  obtain ⟨k9, hk9⟩ := List.mem_iff_getElem?.mp (zla_mem.mpr hi)
  exact lv_iinc S.1 S.2.1 hd (zlo_has hl) hk9 hv hn rfl (fun ls1 h1 => k H locs ls1 hP hD hS (zlo_set h1 hc))
theorem e_ieq_t (S : zCF x cc nL Ts own) {y z : Int32} {off : Int} (hd : decode cc pc = .ok (.if_icmp .eq off, 3)) (h : y = z) (ht : (pc : Int) + off = (pc' : Int)) (k : cV x D nL cs sl pc' lo st ws) : cV x D nL cs sl pc lo (.int z :: .int y :: st) ws := fun H locs ls hP hD hS hl => lv_icmp_eq S.1 S.2.1 hd ht (fun _ => k H locs ls hP hD hS hl) (fun h2 => absurd h h2)
theorem e_ieq_f (S : zCF x cc nL Ts own) {y z : Int32} {off : Int} {tgt : Nat} (hd : decode cc pc = .ok (.if_icmp .eq off, 3)) (h : ¬ (y = z)) (ht : (pc : Int) + off = (tgt : Int)) (hp : pc + 3 = pc') (k : cV x D nL cs sl pc' lo st ws) : cV x D nL cs sl pc lo (.int z :: .int y :: st) ws := fun H locs ls hP hD hS hl => by subst hp; exact lv_icmp_eq S.1 S.2.1 hd ht (fun h2 => absurd h2 h) (fun _ => k H locs ls hP hD hS hl)
theorem e_igt_t (S : zCF x cc nL Ts own) {y z : Int32} {off : Int} (hd : decode cc pc = .ok (.if_icmp .gt off, 3)) (h : z < y) (ht : (pc : Int) + off = (pc' : Int)) (k : cV x D nL cs sl pc' lo st ws) : cV x D nL cs sl pc lo (.int z :: .int y :: st) ws := fun H locs ls hP hD hS hl => lv_icmp_gt S.1 S.2.1 hd ht (fun _ => k H locs ls hP hD hS hl) (fun h2 => absurd h h2)
theorem e_igt_f (S : zCF x cc nL Ts own) {y z : Int32} {off : Int} {tgt : Nat} (hd : decode cc pc = .ok (.if_icmp .gt off, 3)) (h : ¬ (z < y)) (ht : (pc : Int) + off = (tgt : Int)) (hp : pc + 3 = pc') (k : cV x D nL cs sl pc' lo st ws) : cV x D nL cs sl pc lo (.int z :: .int y :: st) ws := fun H locs ls hP hD hS hl => by subst hp; exact lv_icmp_gt S.1 S.2.1 hd ht (fun h2 => absurd h2 h) (fun _ => k H locs ls hP hD hS hl)
theorem e_eq_t (S : zCF x cc nL Ts own) {y : Int32} {off : Int} (hd : decode cc pc = .ok (.ifCond .eq off, 3)) (h : y = 0) (ht : (pc : Int) + off = (pc' : Int)) (k : cV x D nL cs sl pc' lo st ws) : cV x D nL cs sl pc lo (.int y :: st) ws := fun H locs ls hP hD hS hl => lv_if_eq S.1 S.2.1 hd ht (fun _ => k H locs ls hP hD hS hl) (fun h2 => absurd h h2)
theorem e_eq_f (S : zCF x cc nL Ts own) {y : Int32} {off : Int} {tgt : Nat} (hd : decode cc pc = .ok (.ifCond .eq off, 3)) (h : ¬ (y = 0)) (ht : (pc : Int) + off = (tgt : Int)) (hp : pc + 3 = pc') (k : cV x D nL cs sl pc' lo st ws) : cV x D nL cs sl pc lo (.int y :: st) ws := fun H locs ls hP hD hS hl => by subst hp; exact lv_if_eq S.1 S.2.1 hd ht (fun h2 => absurd h2 h) (fun _ => k H locs ls hP hD hS hl)
theorem e_ne_t (S : zCF x cc nL Ts own) {y : Int32} {off : Int} (hd : decode cc pc = .ok (.ifCond .ne off, 3)) (h : ¬ y = 0) (ht : (pc : Int) + off = (pc' : Int)) (k : cV x D nL cs sl pc' lo st ws) : cV x D nL cs sl pc lo (.int y :: st) ws := fun H locs ls hP hD hS hl => lv_if_ne S.1 S.2.1 hd ht (fun _ => k H locs ls hP hD hS hl) (fun h2 => absurd h2 h)
theorem e_ne_f (S : zCF x cc nL Ts own) {y : Int32} {off : Int} {tgt : Nat} (hd : decode cc pc = .ok (.ifCond .ne off, 3)) (h : y = 0) (ht : (pc : Int) + off = (tgt : Int)) (hp : pc + 3 = pc') (k : cV x D nL cs sl pc' lo st ws) : cV x D nL cs sl pc lo (.int y :: st) ws := fun H locs ls hP hD hS hl => by subst hp; exact lv_if_ne S.1 S.2.1 hd ht (fun h2 => absurd h h2) (fun _ => k H locs ls hP hD hS hl)
theorem e_tsi (S : zCF x cc nL Ts own) {dflt a b : Int} {offs : Array Int} {len : Nat} {off : Int} {y v : Int32} (e : y = v) (hd : decode cc pc = .ok (.tableswitch dflt a b offs, len)) (h1 : ¬ v.toInt < a) (h2 : ¬ b < v.toInt) (ho : offs[(v.toInt - a).toNat]? = some off) (ht : (pc : Int) + off = (pc' : Int)) (k : cV x D nL cs sl pc' lo st ws) : cV x D nL cs sl pc lo (.int y :: st) ws := fun H locs ls hP hD hS hl => by
  subst e
  exact lv_tableIn S.1 S.2.1 hd h1 h2 ho ht (k H locs ls hP hD hS hl)
theorem e_tso (S : zCF x cc nL Ts own) {dflt a b : Int} {offs : Array Int} {len : Nat} {y : Int32} (hd : decode cc pc = .ok (.tableswitch dflt a b offs, len)) (h : y.toInt < a ∨ b < y.toInt) (ht : (pc : Int) + dflt = (pc' : Int)) (k : cV x D nL cs sl pc' lo st ws) : cV x D nL cs sl pc lo (.int y :: st) ws := fun H locs ls hP hD hS hl => lv_tableOut S.1 S.2.1 hd h ht (k H locs ls hP hD hS hl)
theorem e_sld (S : zCF x cc nL Ts own) {b L j : Nat} {xs : Nat → Int32} {i : Int32} (hX : va_X b L xs (zfs x) (zfs x).heap) (hbl : b < (zfs x).heap.size) (hbA : ¬ zfA x b) (hin : vp_in i L) (hj : i.toNatClampNeg = j) (hd : decode cc pc = .ok (.iaload, 1)) (hp : pc + 1 = pc') (k : cV x D nL cs sl pc' lo (.int (xs j) :: st) ws) : cV x D nL cs sl pc lo (.int i :: .ref b :: st) ws := fun H locs ls hP hD hS hl => by
  subst hp; subst hj
  exact va_sld S.1 S.2.1 hX hbl hbA hS hin hd (k H locs ls hP hD hS hl)
theorem e_slen (S : zCF x cc nL Ts own) {b L : Nat} {xs : Nat → Int32} (hX : va_X b L xs (zfs x) (zfs x).heap) (hbl : b < (zfs x).heap.size) (hbA : ¬ zfA x b) (hd : decode cc pc = .ok (.arraylength, 1)) (hp : pc + 1 = pc') (k : cV x D nL cs sl pc' lo (.int (nI L) :: st) ws) : cV x D nL cs sl pc lo (.ref b :: st) ws := fun H locs ls hP hD hS hl => by
  subst hp
  exact va_slen S.1 S.2.1 hX hbl hbA hS hd (k H locs ls hP hD hS hl)
/-- the order of the cells does not matter -/
theorem e_swap {wa wb : va_W} (k : cV x D nL cs sl pc lo st (wb ++ wa)) : cV x D nL cs sl pc lo st (wa ++ wb) := fun H locs ls hP hD hS hl => by
  refine k H locs ls ?_ ?_ hS hl
  · intro i z h
    by_cases q : i < wb.length
    · rw [List.getElem?_append_left q] at h
      exact hP (wa.length + i) z (by rw [List.getElem?_append_right (by omega), Nat.add_sub_cancel_left]; exact h)
    · rw [List.getElem?_append_right (by omega)] at h
      have := (List.getElem?_eq_some_iff.mp h).1
      exact hP (i - wb.length) z (by rw [List.getElem?_append_left this]; exact h)
  · have tr : ∀ (i : Nat) (z : Nat × va_E), (wb ++ wa)[i]? = some z → (wa ++ wb)[if i < wb.length then wa.length + i else i - wb.length]? = some z := fun i z h => by
      by_cases q : i < wb.length
      · rw [List.getElem?_append_left q] at h
        rw [if_pos q, List.getElem?_append_right (by omega), Nat.add_sub_cancel_left]; exact h
      · rw [List.getElem?_append_right (by omega)] at h
        have := (List.getElem?_eq_some_iff.mp h).1
        rw [if_neg q, List.getElem?_append_left this]; exact h
    refine ⟨fun i j p q h1 h2 h3 => ?_, fun i z h => hD.2 _ z (tr i z h)⟩
    have e := hD.1 _ _ p q (tr i p h1) (tr j q h2) h3
    have a1 := (List.getElem?_eq_some_iff.mp h1).1
    have a2 := (List.getElem?_eq_some_iff.mp h2).1
    rw [List.length_append] at a1 a2
    by_cases q1 : i < wb.length
    · by_cases q2 : j < wb.length
      · rw [if_pos q1, if_pos q2] at e; omega
      · rw [if_pos q1, if_neg q2] at e; omega
    · by_cases q2 : j < wb.length
      · rw [if_neg q1, if_pos q2] at e; omega
      · rw [if_neg q1, if_neg q2] at e; omega
end ZD
/-- cells of a callee beside others -/
theorem g_join {A A1 : Nat → Prop} {D : va_G} {w0 w1 wr : va_W} {H H1 : Heap} (hP : va_P D vwCl (w0 ++ wr) H) (hD : va_D A (w0 ++ wr)) (hA : ∀ z : Nat, A1 z → ∃ (i : Nat) (e : va_E), w0[i]? = some (z, e)) (hk : ∀ q : Nat, q < H.size → ¬ A1 q → H1[q]? = H[q]?) (hP1 : va_P D vwCl w1 H1) (hD1 : va_D A1 w1) : va_P D vwCl (w1 ++ wr) H1 ∧ va_D A (w1 ++ wr) := by
  have hr : ∀ (i : Nat) (z : Nat × va_E), wr[i]? = some z → (w0 ++ wr)[w0.length + i]? = some z := fun i z h => by
    rw [List.getElem?_append_right (by omega), Nat.add_sub_cancel_left]; exact h
  have h0 : ∀ (i : Nat) (z : Nat × va_E), w0[i]? = some z → (w0 ++ wr)[i]? = some z := fun i z h => by
    rw [List.getElem?_append_left (List.getElem?_eq_some_iff.mp h).1]; exact h
  have hout : ∀ (i : Nat) (z : Nat × va_E), wr[i]? = some z → ¬ A1 z.1 := fun i z h hz => by
    obtain ⟨j, e, hj⟩ := hA _ hz
    have := hD.1 j (w0.length + i) _ z (h0 j _ hj) (hr i z h) rfl
    have := (List.getElem?_eq_some_iff.mp hj).1
    omega
  have hup : ∀ z : Nat, A1 z → A z := fun z hz => by
    obtain ⟨j, e, hj⟩ := hA z hz
    exact hD.2 j _ (h0 j _ hj)
  refine ⟨va_P.app hP1 (fun i z h => (hP _ z (hr i z h)).kept (hk _ ((hP _ z (hr i z h)).lt) (hout i z h))), va_D.app ⟨hD1.1, fun i z h => hup _ (hD1.2 i z h)⟩ ⟨fun i j p q h1 h2 h3 => ?_, fun i z h => hD.2 _ z (hr i z h)⟩ (fun i j p q h1 h2 h3 => hout j q h2 (by rw [← h3]; exact hD1.2 i p h1))⟩
  have := hD.1 _ _ p q (hr i p h1) (hr j q h2) h3
  omega
theorem zwd_has (g : zG) (m : zMem) (z : Nat) (h : zAD g z) : ∃ (i : Nat) (e : va_E), (zwd g m)[i]? = some (z, e) := by
  obtain ⟨i, h1, h2⟩ := h
  exact ⟨i, _, by rw [h2]; exact zwd_get g m h1⟩
theorem zP_l {D : va_G} {w0 wr : va_W} {H : Heap} (hP : va_P D vwCl (w0 ++ wr) H) : va_P D vwCl w0 H := fun i z h => hP i z (by rw [List.getElem?_append_left (List.getElem?_eq_some_iff.mp h).1]; exact h)
theorem zD_l {A : Nat → Prop} {w0 wr : va_W} (hD : va_D A (w0 ++ wr)) : va_D A w0 := ⟨fun i j p q h1 h2 h3 => hD.1 i j p q (by rw [List.getElem?_append_left (List.getElem?_eq_some_iff.mp h1).1]; exact h1) (by rw [List.getElem?_append_left (List.getElem?_eq_some_iff.mp h2).1]; exact h2) h3, fun i z h => hD.2 i z (by rw [List.getElem?_append_left (List.getElem?_eq_some_iff.mp h).1]; exact h)⟩
section ZG
variable {x : zF} {g : zG} {kk : zKK} {tys : List (ClassId × FieldType)} {cc : ByteArray} {Ts : List Cond} {own : String} {nL : Nat} {cs sl : Nat} {pc pc' : Nat} {lo lo' : List (Option Value)} {st : List Value} {m : zMem} {wr : va_W}
variable {y : MethodName} {bytes : ByteArray} {maxL n idx : Nat} {ret : Option FieldType} {tws ws' : List Cond} {As : List Value}
/-- what is known where a picture's method is called -/
def gK (x : zF) (g : zG) (rm : Room) : Prop := va_K (zD g) vwCl (zty g) (zfs x) ∧ zcl g = vwCl ∧ (∀ i, i < zn g → zfA x (zad g i)) ∧ zfR x = rm
theorem e_cvi (S : zCF x cc nL Ts own) {rm : Room} (G : gK x g rm) {fr lc : Nat} {o1 : Int32 × zMem} {Cn : String} {T : u_T} {N ci b : Nat} {ds : List (Nat × Nat)} (hc : vwCl[ci]? = some (Cn, T, N)) (hb : b < zn g) (hsb : zsh g b = .inr (ci, ds)) (hG : GoodIn Ts (wsV own idx Cn y tws)) (hd : y.cls = Cn ∧ y.cls ≠ "java/lang/invoke/MethodHandle" ∧ y.cls ≠ "java/lang/invoke/VarHandle" ∧ (parseMethodDescriptor y.desc).map (fun d => d.parameters.length) = some n) (hw : tws = Cond.code y bytes maxL ret :: ws') (hM : zMI x.2.1 g y tws { frames := fr, cells := 0, slots := 0, locals := lc } (.ref (zad g b) :: As) m o1) (hn : As.length = n) (h8 : (st.map fun v => v.category).sum ≤ 8) (hR : fr + 1 ≤ rm.frames ∧ 8 + (maxL + 11) + lc ≤ rm.locals) (hcs : cs + 0 ≤ rm.cells ∧ sl + 0 ≤ rm.slots) (hdg : decode cc pc = .ok (.invokevirtual idx, 3)) (hp : pc + 3 = pc') {stk : List Value} (hst : stk = As.reverse ++ .ref (zad g b) :: st) (k : cV x (zD g) nL cs sl pc' lo (.int o1.1 :: st) (zwd g o1.2 ++ wr)) : cV x (zD g) nL cs sl pc lo stk (zwd g m ++ wr) := fun H locs ls hP hD hS hl => by
  subst hp
  obtain ⟨hK, hcl, hA, hrm⟩ := G
  have hg := zwd_get g m hb
  rw [hsb] at hg
  refine va_calli (va_runV (As := As) (rest := st) S hM (cwV n S.2.2.2.2 hG hw rfl rfl hd ⟨by rw [hrm]; exact hR.1, by rw [hrm]; exact hR.2⟩) ⟨zPP_blind _ _, va_recv hK (zP_l hP) hc hg, fun U hU hW => ⟨rfl, by rw [hU, hcl]; exact zP_l hP, by rw [hcl]; exact va_K.moved hW.alike hK, zD_ad (zD_l hD)⟩⟩ rfl hn hl.1 hst (lv_room h8) hdg ⟨by rw [hrm]; exact hcs.1, by rw [hrm]; exact hcs.2⟩) hS (fun q _ h => by obtain ⟨i, h1, h2⟩ := h; rw [h2]; exact hA i h1) (fun q h => by obtain ⟨i, h1, h2⟩ := h; rw [h2]; exact hA i h1) (fun r u t H1 locs1 ht hvm hq hB hz1 hk1 hS1 => ?_)
  cases hq
  obtain ⟨hP1, hK1, hD1⟩ := hB
  rw [ht, hcl] at hP1
  obtain ⟨j1, j2⟩ := g_join hP hD (zwd_has g m) hk1 hP1 hD1
  exact k H1 locs1 ls j1 j2 hS1 hl
theorem e_cvl (S : zCF x cc nL Ts own) {rm : Room} (G : gK x g rm) {fr lc : Nat} {o1 : Int64 × zMem} {Cn : String} {T : u_T} {N ci b : Nat} {ds : List (Nat × Nat)} (hc : vwCl[ci]? = some (Cn, T, N)) (hb : b < zn g) (hsb : zsh g b = .inr (ci, ds)) (hG : GoodIn Ts (wsV own idx Cn y tws)) (hd : y.cls = Cn ∧ y.cls ≠ "java/lang/invoke/MethodHandle" ∧ y.cls ≠ "java/lang/invoke/VarHandle" ∧ (parseMethodDescriptor y.desc).map (fun d => d.parameters.length) = some n) (hw : tws = Cond.code y bytes maxL ret :: ws') (hM : zML x.2.1 g y tws { frames := fr, cells := 0, slots := 0, locals := lc } (.ref (zad g b) :: As) m o1) (hn : As.length = n) (h8 : (st.map fun v => v.category).sum ≤ 8) (hR : fr + 1 ≤ rm.frames ∧ 8 + (maxL + 11) + lc ≤ rm.locals) (hcs : cs + 0 ≤ rm.cells ∧ sl + 0 ≤ rm.slots) (hdg : decode cc pc = .ok (.invokevirtual idx, 3)) (hp : pc + 3 = pc') {stk : List Value} (hst : stk = As.reverse ++ .ref (zad g b) :: st) (k : cV x (zD g) nL cs sl pc' lo (.long o1.1 :: st) (zwd g o1.2 ++ wr)) : cV x (zD g) nL cs sl pc lo stk (zwd g m ++ wr) := fun H locs ls hP hD hS hl => by
  subst hp
  obtain ⟨hK, hcl, hA, hrm⟩ := G
  have hg := zwd_get g m hb
  rw [hsb] at hg
  refine va_calll (va_runV (As := As) (rest := st) S hM (cwV n S.2.2.2.2 hG hw rfl rfl hd ⟨by rw [hrm]; exact hR.1, by rw [hrm]; exact hR.2⟩) ⟨zPP_blind _ _, va_recv hK (zP_l hP) hc hg, fun U hU hW => ⟨rfl, by rw [hU, hcl]; exact zP_l hP, by rw [hcl]; exact va_K.moved hW.alike hK, zD_ad (zD_l hD)⟩⟩ rfl hn hl.1 hst (lv_room h8) hdg ⟨by rw [hrm]; exact hcs.1, by rw [hrm]; exact hcs.2⟩) hS (fun q _ h => by obtain ⟨i, h1, h2⟩ := h; rw [h2]; exact hA i h1) (fun q h => by obtain ⟨i, h1, h2⟩ := h; rw [h2]; exact hA i h1) (fun r u t H1 locs1 ht hvm hq hB hz1 hk1 hS1 => ?_)
  cases hq
  obtain ⟨hP1, hK1, hD1⟩ := hB
  rw [ht, hcl] at hP1
  obtain ⟨j1, j2⟩ := g_join hP hD (zwd_has g m) hk1 hP1 hD1
  exact k H1 locs1 ls j1 j2 hS1 hl
theorem e_kvi (S : zCF x cc nL Ts own) {rm : Room} (G : gK x g rm) (hE : zfE kk x) {fr lc : Nat} {o1 : Int32 × zMem} {Cn : String} {T : u_T} {N ci b : Nat} {ds : List (Nat × Nat)} (hc : vwCl[ci]? = some (Cn, T, N)) (hb : b < zn g) (hsb : zsh g b = .inr (ci, ds)) (hG : GoodIn Ts (wsV own idx Cn y tws)) (hd : y.cls = Cn ∧ y.cls ≠ "java/lang/invoke/MethodHandle" ∧ y.cls ≠ "java/lang/invoke/VarHandle" ∧ (parseMethodDescriptor y.desc).map (fun d => d.parameters.length) = some n) (hw : tws = Cond.code y bytes maxL ret :: ws') (hM : zKI x.2.1 g kk y tws { frames := fr, cells := 0, slots := 0, locals := lc } (.ref (zad g b) :: As) m o1) (hn : As.length = n) (h8 : (st.map fun v => v.category).sum ≤ 8) (hR : fr + 1 ≤ rm.frames ∧ 8 + (maxL + 11) + lc ≤ rm.locals) (hcs : cs + 0 ≤ rm.cells ∧ sl + 0 ≤ rm.slots) (hdg : decode cc pc = .ok (.invokevirtual idx, 3)) (hp : pc + 3 = pc') {stk : List Value} (hst : stk = As.reverse ++ .ref (zad g b) :: st) (k : cV x (zD g) nL cs sl pc' lo (.int o1.1 :: st) (zwd g o1.2 ++ wr)) : cV x (zD g) nL cs sl pc lo stk (zwd g m ++ wr) := fun H locs ls hP hD hS hl => by
  subst hp
  obtain ⟨hK, hcl, hA, hrm⟩ := G
  have hg := zwd_get g m hb
  rw [hsb] at hg
  refine va_calli (va_runV (As := As) (rest := st) S hM (cwV n S.2.2.2.2 hG hw rfl rfl hd ⟨by rw [hrm]; exact hR.1, by rw [hrm]; exact hR.2⟩) ⟨zPK_blind _ _ _ _, va_recv hK (zP_l hP) hc hg, fun U hU hW => ⟨rfl, ⟨by rw [hU, hcl]; exact zP_l hP, by rw [hcl]; exact va_K.moved hW.alike hK, zD_ad (zD_l hD)⟩, KE.go hE hW (fun a h1 h2 => by rw [hU]; exact hS.2.1 a h1 h2) (fun q h => by obtain ⟨i, h1, h2⟩ := h; rw [h2]; exact hA i h1)⟩⟩ rfl hn hl.1 hst (lv_room h8) hdg ⟨by rw [hrm]; exact hcs.1, by rw [hrm]; exact hcs.2⟩) hS (fun q _ h => by obtain ⟨i, h1, h2⟩ := h; rw [h2]; exact hA i h1) (fun q h => by obtain ⟨i, h1, h2⟩ := h; rw [h2]; exact hA i h1) (fun r u t H1 locs1 ht hvm hq hB hz1 hk1 hS1 => ?_)
  cases hq
  obtain ⟨hP1, hK1, hD1⟩ := hB
  rw [ht, hcl] at hP1
  obtain ⟨j1, j2⟩ := g_join hP hD (zwd_has g m) hk1 hP1 hD1
  exact k H1 locs1 ls j1 j2 hS1 hl
end ZG
/-! a wrapper of the law: the class's picture and the row for the answer -/
def oC (cL : ClassId) (v : Int64) : va_E := .inl (cL, 1, .inr (.inl (fun _ => v)))
def wW (g : zG) (cL : ClassId) (ao : Nat) (m : zMem) (v : Int64) : va_W := zwd g m ++ [(ao, oC cL v)]
def wAD (g : zG) (ao : Nat) : Nat → Prop := fun q => zAD g q ∨ q = ao
def wty (g : zG) (cL : ClassId) : List (ClassId × FieldType) := [(zcI g, .int), (cL, .long)]
def wPP (g : zG) (cL : ClassId) (ao : Nat) (u : zMem × Int64) (U : State) : Prop := va_P (zD g) vwCl (wW g cL ao u.1 u.2) U.heap ∧ va_K (zD g) vwCl (wty g cL) U ∧ va_D (wAD g ao) (wW g cL ao u.1 u.2)
def wPK (g : zG) (cL : ClassId) (ao : Nat) (kk : zKK) (u : zMem × Int64) (U : State) : Prop := wPP g cL ao u U ∧ KE kk (wAD g ao) U U.heap
theorem wPK_blind (g : zG) (cL : ClassId) (ao : Nat) (kk : zKK) (av : List Value) (u : zMem × Int64) : FrameBlind (va_Pc av (wPK g cL ao kk u)) := fun a U g2 mk q => by
  obtain ⟨q0, ⟨qP, qK, qD⟩, qE⟩ := q
  exact ⟨q0, ⟨qP, va_K.moved (u := U) (U := U.calling g2 mk a) (Vm.Alike.refl U.vm) qK, qD⟩, KE.go (U := U.calling g2 mk a) qE (State.WarmedH.refl U) (fun _ _ _ => rfl) (fun _ h => h)⟩
def wMet (l : Launch) (g : zG) (kk : zKK) (cL : ClassId) (ao : Nat) (y : MethodName) (tws : List Cond) (rm : Room) (av : List Value) (u : zMem × Int64) (r : Int32) (u' : zMem × Int64) : Prop := Met l y tws rm (va_Pc av (wPK g cL ao kk u)) (va_Qi (fun r' v' => r' = r ∧ v' = u') (wPP g cL ao) (wAD g ao)) 1 6 (wAD g ao)
/-- what a wrapper's body knows -/
def wK (x : zF) (g : zG) (kk : zKK) (cL : ClassId) (ao : Nat) (cc : ByteArray) (Ts : List Cond) (own : String) (nL : Nat) (rm : Room) (hh : List (Nat × Nat × Nat × Nat)) : Prop :=
  zCF x cc nL Ts own ∧ gK x g rm ∧ va_K (zD g) vwCl (wty g cL) (zfs x) ∧ zfA x ao ∧ zfE kk x ∧ x.2.2.2.2.2.2.2.2.2.1.exceptionTable.toList = tableOf hh
section ZW
variable {l : Launch} {g : zG} {kk : zKK} {cL : ClassId} {ao : Nat} {y : MethodName} {tws ws' : List Cond} {fr lc : Nat} {cc : ByteArray} {maxL : Nat} {av : List Value} {u u' : zMem × Int64} {r : Int32} {lo0 : List (Option Value)} {hh : List (Nat × Nat × Nat × Nat)}
theorem w_met (hcl : zcl g = vwCl) (hy : plainName y.cls = true) (hw : tws = Cond.codeWith y cc maxL (some .int) hh :: ws') (hlo : zargs av ++ List.replicate (maxL - (lg_sl av).length) none = lo0) (hsz : (lg_sl av).length ≤ maxL)
    (body : ∀ x : zF, x.2.1 = l → wK x g kk cL ao cc tws y.cls maxL { frames := fr, cells := 1, slots := 6, locals := lc } hh → (∀ (pc : Nat) (lo : List (Option Value)) (cs sl : Nat), cs ≤ 1 → sl ≤ 6 → decode cc pc = .ok (.ireturn, 1) → cV x (zD g) maxL cs sl pc lo [.int r] (wW g cL ao u'.1 u'.2)) → cV x (zD g) maxL 0 0 0 lo0 [] (wW g cL ao u.1 u.2)) : wMet l g kk cL ao y tws { frames := fr, cells := 1, slots := 6, locals := lc } av u r u' := by
  unfold wMet
  refine MetFree.of_bodyS (code := cc) (maxLocals := maxL) (ret := some .int) hy ?_ ?_
  · intro args s m h hn
    obtain ⟨m9, meth, c, hn9, h1, h2, h3, h4, -, h5, h6, -⟩ := Cond.codeWith_spec (atoms_spec (ws := tws) h _ (by rw [hw]; exact List.mem_cons_self))
    cases hn.symm.trans hn9
    exact ⟨meth, c, h1, h2, h3, h4, h5, h6⟩
  · intro p e s mid args below meth c s₁ B hml hv _
    have hh0 : s₁.heap = s.heap := by rw [B.state]; rfl
    obtain ⟨rfl, ⟨hP, hK, hD⟩, hE⟩ := hv
    have hx := B.exec
    have hb := B.bytes
    have hr := B.returns
    have hts := atoms_spec (ws := tws) B.pre
    have hown : s.vm.findClass y.cls = some mid.cls := findClass_of_methodNamed B.named
    have hlocks := B.notSynchronized
    have htab : c.exceptionTable.toList = tableOf hh := vx_table (x := y) B (hts _ (by rw [hw]; exact List.mem_cons_self))
    have hl0 := lv_entry av (n := maxL) hsz
    have hl1 : zlo ((lg_sl av ++ List.replicate (maxL - (lg_sl av).length) Slot.unset).toArray) maxL lo0 := by
      rw [← hlo]
      exact zlo_pad (zlo_of hl0 (fun i v h => by have := zargs_in av 0 i v h; rwa [Nat.zero_add] at this)) _
    have K := body (p, l, e, (headSpec tws { frames := fr, cells := 1, slots := 6, locals := lc }).room, s, mid, av.toArray, below, meth, c, MQ below (va_Qi (fun r' v' => r' = r ∧ v' = u') (wPP g cL ao) (wAD g ao)) av.toArray s 1 6 (wAD g ao), wAD g ao) rfl ⟨⟨hx, hb, hml, hown, hts⟩, ⟨va_K.sub hK [0] rfl, hcl, fun i hi => Or.inl ⟨i, hi, rfl⟩, rfl⟩, hK, Or.inr rfl, hE, htab⟩ ?_
    · have K2 := K s.heap [] _ hP hD va_S.rf hl1
      unfold zW at K2
      have K3 : W p l e (headSpec tws { frames := fr, cells := 1, slots := 6, locals := lc }).room s mid av.toArray below meth c s.heap [] 0 0 (MQ below (va_Qi (fun r' v' => r' = r ∧ v' = u') (wPP g cL ao) (wAD g ao)) av.toArray s 1 6 (wAD g ao)) (entryFrame mid av.toArray maxL) := by
        rw [lg_entry_eq]
        exact K2
      obtain ⟨t, a1, o, b1, b2, b3⟩ := K3 s₁ hh0 (Stand.of_body B)
      exact ⟨t, o, a1, b1, b2, b3⟩
    · intro pc lo cs sl hcs hsl hd H locs ls hP1 hD1 hS1 hl9
      refine W.widen hcs hsl ?_
      exact W.iret hx hb hr (fun t ht hW => ⟨⟨r, u', rfl, ⟨rfl, rfl⟩, by rw [ht]; exact hP1, va_K.moved hW.alike hK, ⟨hD1.1, hD1.2⟩⟩, hS1.F ht⟩) hS1.2.2 hd hlocks
end ZW
theorem w_row1 (cL : ClassId) (v a : Int64) : vp_cell cL (1, .inr (.inl (vp_updL (fun _ => v) (0 : Int32).toNatClampNeg a))) = vp_cell cL (1, .inr (.inl (fun _ => a))) := by
  have h : (fun j : Fin 1 => Value.long (vp_updL (fun _ => v) (0 : Int32).toNatClampNeg a j.val)) = fun j : Fin 1 => Value.long a := by
    funext j
    have h0 : j.val = 0 := by omega
    unfold vp_updL
    rw [if_pos (by rw [h0]; decide)]
  exact congrArg (fun s => ({ cls := cL, slots := Array.ofFn s, vm := .none } : Cell)) h
theorem w_adr {g : zG} {cL : ClassId} {ao : Nat} {m : zMem} {v a : Int64} {i : Nat} {z : Nat × va_E} (h : (wW g cL ao m a)[i]? = some z) : (wW g cL ao m v)[i]? = some (z.1, ((wW g cL ao m v)[i]?.getD (0, oC cL v)).2) := by
  have hl : (zwd g m).length = zn g := by simp [zwd]
  unfold wW at h ⊢
  by_cases q : i < zn g
  · rw [List.getElem?_append_left (by omega)] at h ⊢
    rw [h]
    rfl
  · rw [List.getElem?_append_right (by omega)] at h ⊢
    have h1 := (List.getElem?_eq_some_iff.mp h).1
    have e : i - (zwd g m).length = 0 := by simp at h1; omega
    rw [e] at h ⊢
    cases h
    rfl
section ZX
variable {x : zF} {g : zG} {kk : zKK} {cL : ClassId} {ao : Nat} {cc : ByteArray} {Ts : List Cond} {own : String} {nL : Nat} {rm : Room} {hh : List (Nat × Nat × Nat × Nat)} {cs sl : Nat} {pc pc' : Nat} {lo lo' : List (Option Value)} {st : List Value} {m : zMem} {v : Int64}
variable {y : MethodName} {bytes : ByteArray} {maxL n idx : Nat} {ret : Option FieldType} {tws ws' : List Cond} {As : List Value}
theorem wW_at (g : zG) (cL : ClassId) (ao : Nat) (m : zMem) (v : Int64) : (wW g cL ao m v)[zn g]? = some (ao, oC cL v) := by
  unfold wW
  have h : (zwd g m).length = zn g := by simp [zwd]
  rw [List.getElem?_append_right (by omega), h, Nat.sub_self]
  rfl
theorem w_last (K : wK x g kk cL ao cc Ts own nL rm hh) {a : Int64} (hd : decode cc pc = .ok (.lastore, 1)) (hp : pc + 1 = pc') (k : cV x (zD g) nL cs sl pc' lo st (wW g cL ao m a)) : cV x (zD g) nL cs sl pc lo (.long a :: .int 0 :: .ref ao :: st) (wW g cL ao m v) := fun H locs ls hP hD hS hl => by
  subst hp
  obtain ⟨S, G, hK, hA, hE, htab⟩ := K
  refine va_last S.1 S.2.1 hK hP hD hS (zn g) 1 (wW_at g cL ao m v) rfl (i := 0) (by unfold vp_in; decide) hd (fun H1 locs1 hP1 hD1 hS1 => ?_)
  have h : (zwd g m).length = zn g := by simp [zwd]
  have e : (wW g cL ao m v).set (zn g) (ao, .inl (cL, 1, .inr (.inl (vp_updL (fun _ => v) (0 : Int32).toNatClampNeg a)))) = zwd g m ++ [(ao, .inl (cL, 1, .inr (.inl (vp_updL (fun _ => v) (0 : Int32).toNatClampNeg a))))] := by
    unfold wW
    rw [List.set_append_right _ _ (by omega), h, Nat.sub_self]
    rfl
  rw [e] at hP1 hD1
  refine k H1 locs1 ls ?_ ?_ hS1 hl
  · refine va_P.app (zP_l hP1) (fun i z hz => ?_)
    match i, hz with
    | 0, hz =>
      cases hz
      have := hP1 (zn g) (ao, .inl (cL, 1, .inr (.inl (vp_updL (fun _ => v) (0 : Int32).toNatClampNeg a)))) (by rw [List.getElem?_append_right (by omega), h, Nat.sub_self]; rfl)
      show H1[ao]? = some (vp_cell cL (1, .inr (.inl (fun _ => a))))
      have h2 : H1[ao]? = some (vp_cell cL (1, .inr (.inl (vp_updL (fun _ => v) (0 : Int32).toNatClampNeg a)))) := this
      rw [h2]
      exact congrArg some (w_row1 cL v a)
    | i + 1, hz => cases hz
  · refine ⟨fun i j p q h1 h2 h3 => ?_, fun i z hz => ?_⟩
    · exact hD.1 i j (p.1, ((wW g cL ao m v)[i]?.getD (0, oC cL v)).2) (q.1, ((wW g cL ao m v)[j]?.getD (0, oC cL v)).2) (w_adr h1) (w_adr h2) h3
    · exact hD.2 i (z.1, ((wW g cL ao m v)[i]?.getD (0, oC cL v)).2) (w_adr hz)
end ZX
