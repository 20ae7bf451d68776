/-! what the Statement gives at the law's entry -/
section ZEnt
variable {args : Array Value} {s : State}
theorem ent_S (hs : ∀ w ∈ flatC (Jvm.Cond.and given_1 narrow_1), w.before args s = true) {A : Nat → Prop} (hA : ∀ a : Nat, a < s.heap.size → ¬ A a) : ∃ adK adV : Nat → Nat, vk_S 4 kkL kkB adK adV A s s.heap ∧ ∀ i : Nat, i < 4 → (Term.string RX1 (kkX i)).eval args s none [] s = some (.ref (adK i)) := by
  refine vk_Sof (tm := fun i => Term.string RX1 (kkX i)) (len := kkL) (byt := kkB) (fun i hi => ?_) (fun i hi => ?_) (fun i hi => ?_) (fun i hi => ?_) (fun i hi => ?_) (fun i hi j hj => ?_) (fun i j hi hj hij => ?_) hA
  · match i, hi with
    | 0, _ => decide
    | 1, _ => decide
    | 2, _ => decide
    | 3, _ => decide
    | i + 4, hi => exact absurd hi (by omega)
  · match i, hi with
    | 0, _ => exact hs _ (List.mem_of_getElem? (i := 35) (by decide +kernel))
    | 1, _ => exact hs _ (List.mem_of_getElem? (i := 43) (by decide +kernel))
    | 2, _ => exact hs _ (List.mem_of_getElem? (i := 53) (by decide +kernel))
    | 3, _ => exact hs _ (List.mem_of_getElem? (i := 63) (by decide +kernel))
    | i + 4, hi => exact absurd hi (by omega)
  · match i, hi with
    | 0, _ => exact hs _ (List.mem_of_getElem? (i := 36) (by decide +kernel))
    | 1, _ => exact hs _ (List.mem_of_getElem? (i := 44) (by decide +kernel))
    | 2, _ => exact hs _ (List.mem_of_getElem? (i := 54) (by decide +kernel))
    | 3, _ => exact hs _ (List.mem_of_getElem? (i := 64) (by decide +kernel))
    | i + 4, hi => exact absurd hi (by omega)
  · match i, hi with
    | 0, _ => exact hs _ (List.mem_of_getElem? (i := 37) (by decide +kernel))
    | 1, _ => exact hs _ (List.mem_of_getElem? (i := 45) (by decide +kernel))
    | 2, _ => exact hs _ (List.mem_of_getElem? (i := 55) (by decide +kernel))
    | 3, _ => exact hs _ (List.mem_of_getElem? (i := 65) (by decide +kernel))
    | i + 4, hi => exact absurd hi (by omega)
  · match i, hi with
    | 0, _ => exact hs _ (List.mem_of_getElem? (i := 38) (by decide +kernel))
    | 1, _ => exact hs _ (List.mem_of_getElem? (i := 46) (by decide +kernel))
    | 2, _ => exact hs _ (List.mem_of_getElem? (i := 56) (by decide +kernel))
    | 3, _ => exact hs _ (List.mem_of_getElem? (i := 66) (by decide +kernel))
    | i + 4, hi => exact absurd hi (by omega)
  · match i, hi, j, hj with
    | 0, _, 0, _ => exact hs _ (List.mem_of_getElem? (i := 39) (by decide +kernel))
    | 0, _, 1, _ => exact hs _ (List.mem_of_getElem? (i := 40) (by decide +kernel))
    | 0, _, 2, _ => exact hs _ (List.mem_of_getElem? (i := 41) (by decide +kernel))
    | 0, _, 3, _ => exact hs _ (List.mem_of_getElem? (i := 42) (by decide +kernel))
    | 1, _, 0, _ => exact hs _ (List.mem_of_getElem? (i := 47) (by decide +kernel))
    | 1, _, 1, _ => exact hs _ (List.mem_of_getElem? (i := 48) (by decide +kernel))
    | 1, _, 2, _ => exact hs _ (List.mem_of_getElem? (i := 49) (by decide +kernel))
    | 1, _, 3, _ => exact hs _ (List.mem_of_getElem? (i := 50) (by decide +kernel))
    | 1, _, 4, _ => exact hs _ (List.mem_of_getElem? (i := 51) (by decide +kernel))
    | 2, _, 0, _ => exact hs _ (List.mem_of_getElem? (i := 57) (by decide +kernel))
    | 2, _, 1, _ => exact hs _ (List.mem_of_getElem? (i := 58) (by decide +kernel))
    | 2, _, 2, _ => exact hs _ (List.mem_of_getElem? (i := 59) (by decide +kernel))
    | 2, _, 3, _ => exact hs _ (List.mem_of_getElem? (i := 60) (by decide +kernel))
    | 3, _, 0, _ => exact hs _ (List.mem_of_getElem? (i := 67) (by decide +kernel))
    | 3, _, 1, _ => exact hs _ (List.mem_of_getElem? (i := 68) (by decide +kernel))
    | 3, _, 2, _ => exact hs _ (List.mem_of_getElem? (i := 69) (by decide +kernel))
    | 3, _, 3, _ => exact hs _ (List.mem_of_getElem? (i := 70) (by decide +kernel))
    | 0, _, j + 4, hj => exact absurd hj (by show ¬ j + 4 < 4; omega)
    | 1, _, j + 5, hj => exact absurd hj (by show ¬ j + 5 < 5; omega)
    | 2, _, j + 4, hj => exact absurd hj (by show ¬ j + 4 < 4; omega)
    | 3, _, j + 4, hj => exact absurd hj (by show ¬ j + 4 < 4; omega)
    | i + 4, hi, _, _ => exact absurd hi (by omega)
  · match i, j, hi, hj, hij with
    | 0, 0, _, _, hij => exact absurd rfl hij
    | 0, 1, _, _, _ => exact Or.inl (hs _ (List.mem_of_getElem? (i := 52) (by decide +kernel)))
    | 0, 2, _, _, _ => exact Or.inl (hs _ (List.mem_of_getElem? (i := 61) (by decide +kernel)))
    | 0, 3, _, _, _ => exact Or.inl (hs _ (List.mem_of_getElem? (i := 71) (by decide +kernel)))
    | 1, 0, _, _, _ => exact Or.inr (hs _ (List.mem_of_getElem? (i := 52) (by decide +kernel)))
    | 1, 1, _, _, hij => exact absurd rfl hij
    | 1, 2, _, _, _ => exact Or.inl (hs _ (List.mem_of_getElem? (i := 62) (by decide +kernel)))
    | 1, 3, _, _, _ => exact Or.inl (hs _ (List.mem_of_getElem? (i := 72) (by decide +kernel)))
    | 2, 0, _, _, _ => exact Or.inr (hs _ (List.mem_of_getElem? (i := 61) (by decide +kernel)))
    | 2, 1, _, _, _ => exact Or.inr (hs _ (List.mem_of_getElem? (i := 62) (by decide +kernel)))
    | 2, 2, _, _, hij => exact absurd rfl hij
    | 2, 3, _, _, _ => exact Or.inl (hs _ (List.mem_of_getElem? (i := 73) (by decide +kernel)))
    | 3, 0, _, _, _ => exact Or.inr (hs _ (List.mem_of_getElem? (i := 71) (by decide +kernel)))
    | 3, 1, _, _, _ => exact Or.inr (hs _ (List.mem_of_getElem? (i := 72) (by decide +kernel)))
    | 3, 2, _, _, _ => exact Or.inr (hs _ (List.mem_of_getElem? (i := 73) (by decide +kernel)))
    | 3, 3, _, _, hij => exact absurd rfl hij
    | i + 4, _, hi, _, _ => exact absurd hi (by omega)
    | 0, j + 4, _, hj, _ => exact absurd hj (by omega)
    | 1, j + 4, _, hj, _ => exact absurd hj (by omega)
    | 2, j + 4, _, hj, _ => exact absurd hj (by omega)
    | 3, j + 4, _, hj, _ => exact absurd hj (by omega)
theorem ent_t187 (hs : ∀ w ∈ flatC (Jvm.Cond.and given_1 narrow_1), w.before args s = true) (ht : ∀ w ∈ lw_tbl, w.before args s = true) : ∃ sa, vk_R RX5 187 "the script is full" sa s := by
  obtain ⟨a, c9, cA, kA, q1, -⟩ := Cond.exactly_spec (args := args) (first := s) (o := none) (s := s) (idx := []) (t := Term.string RX5 187) (cls := "java/lang/String") (hs _ (List.mem_of_getElem? (i := 283) (by decide +kernel)))
  exact ⟨a, vk_R.of (A := args) (ht (Cond.stringRef RX5 187 "the script is full") (List.mem_of_getElem? (i := 867) (by decide +kernel))) q1⟩
theorem ent_t203 (hs : ∀ w ∈ flatC (Jvm.Cond.and given_1 narrow_1), w.before args s = true) (ht : ∀ w ∈ lw_tbl, w.before args s = true) : ∃ sa, vk_R RX5 203 "no state is saved" sa s := by
  obtain ⟨a, c9, cA, kA, q1, -⟩ := Cond.exactly_spec (args := args) (first := s) (o := none) (s := s) (idx := []) (t := Term.string RX5 203) (cls := "java/lang/String") (hs _ (List.mem_of_getElem? (i := 314) (by decide +kernel)))
  exact ⟨a, vk_R.of (A := args) (ht (Cond.stringRef RX5 203 "no state is saved") (List.mem_of_getElem? (i := 875) (by decide +kernel))) q1⟩
theorem ent_t259 (hs : ∀ w ∈ flatC (Jvm.Cond.and given_1 narrow_1), w.before args s = true) (ht : ∀ w ∈ lw_tbl, w.before args s = true) : ∃ sa, vk_R RX5 259 "an argument is out of range" sa s := by
  obtain ⟨a, c9, cA, kA, q1, -⟩ := Cond.exactly_spec (args := args) (first := s) (o := none) (s := s) (idx := []) (t := Term.string RX5 259) (cls := "java/lang/String") (hs _ (List.mem_of_getElem? (i := 74) (by decide +kernel)))
  exact ⟨a, vk_R.of (A := args) (ht (Cond.stringRef RX5 259 "an argument is out of range") (List.mem_of_getElem? (i := 653) (by decide +kernel))) q1⟩
theorem ent_t262 (hs : ∀ w ∈ flatC (Jvm.Cond.and given_1 narrow_1), w.before args s = true) (ht : ∀ w ∈ lw_tbl, w.before args s = true) : ∃ sa, vk_R RX5 262 "an argument is negative" sa s := by
  obtain ⟨a, c9, cA, kA, q1, -⟩ := Cond.exactly_spec (args := args) (first := s) (o := none) (s := s) (idx := []) (t := Term.string RX5 262) (cls := "java/lang/String") (hs _ (List.mem_of_getElem? (i := 202) (by decide +kernel)))
  exact ⟨a, vk_R.of (A := args) (ht (Cond.stringRef RX5 262 "an argument is negative") (List.mem_of_getElem? (i := 750) (by decide +kernel))) q1⟩
theorem ent_t264 (hs : ∀ w ∈ flatC (Jvm.Cond.and given_1 narrow_1), w.before args s = true) (ht : ∀ w ∈ lw_tbl, w.before args s = true) : ∃ sa, vk_R RX5 264 "the members do not allow this" sa s := by
  obtain ⟨a, c9, cA, kA, q1, -⟩ := Cond.exactly_spec (args := args) (first := s) (o := none) (s := s) (idx := []) (t := Term.string RX5 264) (cls := "java/lang/String") (hs _ (List.mem_of_getElem? (i := 109) (by decide +kernel)))
  exact ⟨a, vk_R.of (A := args) (ht (Cond.stringRef RX5 264 "the members do not allow this") (List.mem_of_getElem? (i := 709) (by decide +kernel))) q1⟩
theorem ent_t266 (hs : ∀ w ∈ flatC (Jvm.Cond.and given_1 narrow_1), w.before args s = true) (ht : ∀ w ∈ lw_tbl, w.before args s = true) : ∃ sa, vk_R RX5 266 "the puzzle or the sponsor does not allow this" sa s := by
  obtain ⟨a, c9, cA, kA, q1, -⟩ := Cond.exactly_spec (args := args) (first := s) (o := none) (s := s) (idx := []) (t := Term.string RX5 266) (cls := "java/lang/String") (hs _ (List.mem_of_getElem? (i := 147) (by decide +kernel)))
  exact ⟨a, vk_R.of (A := args) (ht (Cond.stringRef RX5 266 "the puzzle or the sponsor does not allow this") (List.mem_of_getElem? (i := 725) (by decide +kernel))) q1⟩
theorem ent_t95 (hs : ∀ w ∈ flatC (Jvm.Cond.and given_1 narrow_1), w.before args s = true) (ht : ∀ w ∈ lw_tbl, w.before args s = true) : ∃ sa, vk_R RX5 95 "the nonce does not solve the puzzle" sa s := by
  obtain ⟨a, c9, cA, kA, q1, -⟩ := Cond.exactly_spec (args := args) (first := s) (o := none) (s := s) (idx := []) (t := Term.string RX5 95) (cls := "java/lang/String") (hs _ (List.mem_of_getElem? (i := 236) (by decide +kernel)))
  exact ⟨a, vk_R.of (A := args) (ht (Cond.stringRef RX5 95 "the nonce does not solve the puzzle") (List.mem_of_getElem? (i := 772) (by decide +kernel))) q1⟩
theorem ent_c (ht : ∀ w ∈ lw_tbl, w.before args s = true) (E : Nat) : va_Nw (.castable (exN E) (exN E)) s := by
  match E with
  | 1 => exact va_Nw.of rfl (ht _ (List.mem_of_getElem? (i := 614) (by decide +kernel)))
  | 2 => exact va_Nw.of rfl (ht _ (List.mem_of_getElem? (i := 702) (by decide +kernel)))
  | 0 => exact va_Nw.of rfl (ht _ (List.mem_of_getElem? (i := 718) (by decide +kernel)))
  | E + 3 => exact va_Nw.of rfl (ht (.castable (exN 3) (exN 3)) (List.mem_of_getElem? (i := 718) (by decide +kernel)))
theorem exN_c (E : Nat) : exN E = exN 1 ∨ exN E = exN 2 ∨ exN E = exN 3 := by
  match E with
  | 1 => exact Or.inl rfl
  | 2 => exact Or.inr (Or.inl rfl)
  | 0 => exact Or.inr (Or.inr rfl)
  | E + 3 => exact Or.inr (Or.inr rfl)
theorem ent_n (hs : ∀ w ∈ flatC (Jvm.Cond.and given_1 narrow_1), w.before args s = true) (E F : Nat) (hne : exN E ≠ exN F) : va_Nc (exN E) (exN F) s := by
  rcases exN_c E with e | e | e <;> rcases exN_c F with f | f | f <;> rw [e, f] at hne ⊢
  · exact absurd rfl hne
  · exact va_Nc.of (args := args) (hs _ (List.mem_of_getElem? (i := 25) (by decide +kernel)))
  · exact va_Nc.of (args := args) (hs _ (List.mem_of_getElem? (i := 33) (by decide +kernel)))
  · exact va_Nc.of (args := args) (hs _ (List.mem_of_getElem? (i := 17) (by decide +kernel)))
  · exact absurd rfl hne
  · exact va_Nc.of (args := args) (hs _ (List.mem_of_getElem? (i := 34) (by decide +kernel)))
  · exact va_Nc.of (args := args) (hs _ (List.mem_of_getElem? (i := 18) (by decide +kernel)))
  · exact va_Nc.of (args := args) (hs _ (List.mem_of_getElem? (i := 26) (by decide +kernel)))
  · exact absurd rfl hne
theorem ent_KE (hs : ∀ w ∈ flatC (Jvm.Cond.and given_1 narrow_1), w.before args s = true) (ht : ∀ w ∈ lw_tbl, w.before args s = true) {A : Nat → Prop} (hA : ∀ a : Nat, a < s.heap.size → ¬ A a) : ∃ kk : zKK, KE kk A s s.heap := by
  obtain ⟨adK, adV, h1, h2⟩ := ent_S hs hA
  refine ⟨(adK, adV), h1, fun i hi => ?_, ?_, ?_, ?_, ?_, fun q hq => ?_, ent_c ht, ent_n hs, fun n hn => ?_⟩
  · match i, hi with
    | 0, hi => exact vk_R.of (A := args) (ht (Cond.stringRef RX1 58 "join") (List.mem_of_getElem? (i := 314) (by decide +kernel))) (h2 0 hi)
    | 1, hi => exact vk_R.of (A := args) (ht (Cond.stringRef RX1 64 "leave") (List.mem_of_getElem? (i := 367) (by decide +kernel))) (h2 1 hi)
    | 2, hi => exact vk_R.of (A := args) (ht (Cond.stringRef RX1 66 "look") (List.mem_of_getElem? (i := 368) (by decide +kernel))) (h2 2 hi)
    | 3, hi => exact vk_R.of (A := args) (ht (Cond.stringRef RX1 68 "tick") (List.mem_of_getElem? (i := 369) (by decide +kernel))) (h2 3 hi)
    | i + 4, hi => exact absurd hi (by omega)
  · exact va_Zof (args := args) (ht _ (List.mem_of_getElem? (i := 328) (by decide +kernel))) (ht _ (List.mem_of_getElem? (i := 86) (by decide +kernel))) (va_eqt (hs (Cond.eq (.static "java/lang/String" "COMPACT_STRINGS" "Z") (.int 1)) (List.mem_of_getElem? (i := 4) (by decide +kernel)))) hA
  · exact va_Zqof (args := args) (ht _ (List.mem_of_getElem? (i := 344) (by decide +kernel))) (ht _ (List.mem_of_getElem? (i := 88) (by decide +kernel))) (hs (Cond.isRef (.static "jdk/internal/util/Preconditions" "SIOOBE_FORMATTER" "Ljava/util/function/BiFunction;")) (List.mem_of_getElem? (i := 5) (by decide +kernel))) hA
  · exact vx_Zqof (args := args) (ht _ (List.mem_of_getElem? (i := 639) (by decide +kernel))) (ht _ (List.mem_of_getElem? (i := 76) (by decide +kernel))) (hs (Cond.isRef (.static Bundle.tN "UNASSIGNED_STACK" Bundle.steD)) (List.mem_of_getElem? (i := 9) (by decide +kernel))) hA
  · exact vx_Zqof (args := args) (ht _ (List.mem_of_getElem? (i := 641) (by decide +kernel))) (ht _ (List.mem_of_getElem? (i := 76) (by decide +kernel))) (hs (Cond.isRef (.static Bundle.tN "SUPPRESSED_SENTINEL" Bundle.listD)) (List.mem_of_getElem? (i := 10) (by decide +kernel))) hA
  · cases hq with
    | head => exact ent_t187 hs ht
    | tail _ hq => cases hq with
      | head => exact ent_t203 hs ht
      | tail _ hq => cases hq with
        | head => exact ent_t259 hs ht
        | tail _ hq => cases hq with
          | head => exact ent_t262 hs ht
          | tail _ hq => cases hq with
            | head => exact ent_t264 hs ht
            | tail _ hq => cases hq with
              | head => exact ent_t266 hs ht
              | tail _ hq => cases hq with
                | head => exact ent_t95 hs ht
                | tail _ hq => cases hq
  · cases hn with
    | head => exact va_Nw.of rfl (ht (Cond.declares (Bundle.initS "java/lang/RuntimeException")) (List.mem_of_getElem? (i := 616) (by decide +kernel)))
    | tail _ hn => cases hn with
      | head => exact va_Nw.of rfl (ht (Cond.declares (Bundle.initS "java/lang/Exception")) (List.mem_of_getElem? (i := 618) (by decide +kernel)))
      | tail _ hn => cases hn with
        | head => exact va_Nw.of rfl (ht (Cond.declares (Bundle.initS Bundle.tN)) (List.mem_of_getElem? (i := 620) (by decide +kernel)))
        | tail _ hn => cases hn
theorem ent_N (ht : ∀ w ∈ lw_tbl, w.before args s = true) : nLk s := ⟨va_Nw.of rfl (ht _ (List.mem_of_getElem? (i := 100) (by decide +kernel))), va_Nw.of rfl (ht _ (List.mem_of_getElem? (i := 147) (by decide +kernel))), va_Nw.of rfl (ht _ (List.mem_of_getElem? (i := 182) (by decide +kernel)))⟩
theorem ent_K (ht : ∀ w ∈ lw_tbl, w.before args s = true) : ∃ (D : va_G) (cI : ClassId), va_K D vwCl [(cI, .int)] s := by
  obtain ⟨c0, i0, k0⟩ := u_known (C := RX1) (T := TX1) (N := 6) (n := 6) ht linX10 (ht (Cond.instantiable RX1 6) (List.mem_of_getElem? (i := 146) (by decide +kernel)))
  obtain ⟨c1, i1, k1⟩ := u_known (C := RX2) (T := TX2) (N := 14) (n := 14) ht linX20 (ht (Cond.instantiable RX2 14) (List.mem_of_getElem? (i := 175) (by decide +kernel)))
  obtain ⟨c2, i2, k2⟩ := u_known (C := RX3) (T := TX3) (N := 3) (n := 3) ht linX30 (ht (Cond.instantiable RX3 3) (List.mem_of_getElem? (i := 181) (by decide +kernel)))
  obtain ⟨c3, i3, k3⟩ := u_known (C := RX4) (T := TX4) (N := 10) (n := 10) ht linX40 (ht (Cond.instantiable RX4 10) (List.mem_of_getElem? (i := 99) (by decide +kernel)))
  obtain ⟨c4, i4, k4⟩ := u_known (C := RX5) (T := TX5) (N := 7) (n := 7) ht linX50 (ht (Cond.instantiable RX5 7) (List.mem_of_getElem? (i := 91) (by decide +kernel)))
  obtain ⟨c5, i5, k5⟩ := u_known (C := RX6) (T := TX6) (N := 15) (n := 15) ht linX60 (ht (Cond.instantiable RX6 15) (List.mem_of_getElem? (i := 877) (by decide +kernel)))
  obtain ⟨cI, k9, comp, h1, h2, h3⟩ := Cond.arrayClass_spec (type := .int) (args := args) (first := s) (o := none) (s := s) (idx := []) (ht (Cond.arrayClass .int) (List.mem_of_getElem? (i := 144) (by decide +kernel)))
  refine ⟨(fun ci => match ci with
    | 0 => c0
    | 1 => c1
    | 2 => c2
    | 3 => c3
    | 4 => c4
    | _ => c5, fun ci => match ci with
    | 0 => i0
    | 1 => i1
    | 2 => i2
    | 3 => i3
    | 4 => i4
    | _ => i5), cI, fun ci q hq => ?_, fun i q hq => ?_⟩
  · match ci, hq with
    | 0, hq => cases hq; exact k0
    | 1, hq => cases hq; exact k1
    | 2, hq => cases hq; exact k2
    | 3, hq => cases hq; exact k3
    | 4, hq => cases hq; exact k4
    | 5, hq => cases hq; exact k5
    | ci + 6, hq => cases hq
  · match i, hq with
    | 0, hq =>
      cases hq
      exact ⟨fun n z => ⟨fun k h => (by cases h), k9, h2, comp, h3⟩, h1⟩
    | i + 1, hq => cases hq
end ZEnt
theorem ent_tr {l : Launch} (h : l.flags = flags0) : l.stackTraces = false := by
  unfold Launch.stackTraces
  rw [h]
  decide +kernel
section ZM
variable {x : zF} {D : va_G} {cI : ClassId} {cs sl : Nat} {pc pc' : Nat} {lo lo' : List (Option Value)} {st : List Value} {ws wr : va_W}
variable {y : MethodName} {bytes : ByteArray} {maxL idx : Nat} {tws ws' : List Cond}
theorem l_new (S : zCF x cL_law 7 wsL_law RL) (hK : va_K D vwCl [(cI, .int)] (zfs x)) (hA : ∀ q : Nat, (zfs x).heap.size ≤ q → zfA x q) (hrm : zfR x = room_1) {Cn : String} {T : u_T} {N ci idx : Nat} {fs : List Value} (hin : ∀ w ∈ u_ws Cn T N, w ∈ wsL_law) (t0 : Nat → FieldType) (hty : ∀ k, k < N → parseFieldDescriptor (T k).2.2.1 = some (t0 k)) (h1 : Cond.classLink RL idx Cn ∈ wsL_law) (h2 : Cond.instantiable Cn N ∈ wsL_law) (h3 : Cond.initialized Cn ∈ wsL_law) (hc : vwCl[ci]? = some (Cn, T, N)) (hfs : ∀ j, j < N → defaultValue (t0 j) = vp_V fs j) (hcs : cs + 1 ≤ 1090) (hsl : sl + N ≤ 26359) (hd : decode cL_law pc = .ok (.new idx, 3)) (hp : pc + 3 = pc') (k : ∀ q : Nat, cV x D 7 (cs + 1) (sl + N) pc' lo (.ref q :: st) (ws ++ [(q, .inr (ci, fs))])) : cV x D 7 cs sl pc lo st ws := fun H locs ls hP hD hS hl => by
  subst hp
  exact va_new S.1 S.2.1 S.2.2.2.2 hin t0 hty S.2.2.2.1 (S.2.2.2.2 _ h1) (S.2.2.2.2 _ h2) (S.2.2.2.2 _ h3) hK hP hD hS hA hc hfs (by rw [hrm]; exact hcs) (by rw [hrm]; exact hsl) hd (fun q H1 hP1 hD1 hS1 => k q H1 locs ls hP1 hD1 hS1 hl)
theorem l_dup (S : zCF x cL_law 7 wsL_law RL) {a : Nat} (hd : decode cL_law pc = .ok (.dup, 1)) (hp : pc + 1 = pc') (k : cV x D 7 cs sl pc' lo (.ref a :: .ref a :: st) ws) : cV x D 7 cs sl pc lo (.ref a :: st) ws := fun H locs ls hP hD hS hl => by subst hp; exact lv_dup S.1 S.2.1 hd rfl (k H locs ls hP hD hS hl)
theorem l_newL (S : zCF x cL_law 7 wsL_law RL) (hK : va_K D vwCl [(cI, .int)] (zfs x)) (hA : ∀ q : Nat, (zfs x).heap.size ≤ q → zfA x q) (hrm : zfR x = room_1) (hw : Cond.arrayClass .long ∈ wsL_law) (hcs : cs + 1 ≤ 1090) (hsl : sl + 1 ≤ 26359) (hd : decode cL_law pc = .ok (.newarray .long, 2)) (hp : pc + 2 = pc') (k : ∀ (q : Nat) (cL : ClassId), va_K D vwCl [(cI, .int), (cL, .long)] (zfs x) → cV x D 7 (cs + 1) (sl + 1) pc' lo (.ref q :: st) (ws ++ [(q, oC cL 0)])) : cV x D 7 cs sl pc lo (.int 1 :: st) ws := fun H locs ls hP hD hS hl => by
  subst hp
  exact va_newa (atype := .long) (ty := .long) (n := 1) (N' := 1) S.1 S.2.1 (S.2.2.2.2 _ hw) rfl hK hP hD hS hA (a0 := (1, .inr (.inl (fun _ => 0)))) (fun _ => rfl) (by decide) (by decide) (Nat.le_of_ble_eq_true rfl) (by rw [hrm]; exact hcs) (by rw [hrm]; exact hsl) hd (fun q cA H1 hK1 hP1 hD1 hS1 => k q cA hK1 H1 locs ls hP1 hD1 hS1 hl)
theorem l_call {S9 : Type} (S : zCF x cL_law 7 wsL_law RL) (hK : va_K D vwCl [(cI, .int)] (zfs x)) (hA : ∀ q : Nat, (zfs x).heap.size ≤ q → zfA x q) (hrm : zfR x = room_1) (hN : nLk (zfs x)) {fr lc mc ms q : Nat} {e0 : va_E} {w : S9 → va_W} (hM : cMet x.2.1 D cI y tws { frames := fr, cells := mc, slots := ms, locals := lc } q e0 mc ms w) (hG : GoodIn wsL_law tws) (hw : tws = Cond.code y bytes maxL none :: ws') (h1 : Cond.initialized y.cls ∈ wsL_law) (h2 : Cond.methodLink RL idx y ∈ wsL_law) (h3 : Cond.instanceMethod y ∈ wsL_law) (hy : y.name = "<init>") (hd : y.cls ≠ "java/lang/invoke/MethodHandle" ∧ y.cls ≠ "java/lang/invoke/VarHandle" ∧ (parseMethodDescriptor y.desc).map (fun d => d.parameters.length) = some 0) (hR : fr + 1 ≤ 12 ∧ 8 + (maxL + 11) + lc ≤ 434) (hcs : cs + mc ≤ 1090 ∧ sl + ms ≤ 26359) (h8 : (st.map fun v => v.category).sum ≤ 8) (hdg : decode cL_law pc = .ok (.invokespecial idx, 3)) (hp : pc + 3 = pc') (k : ∀ u : S9, cV x D 7 (cs + mc) (sl + ms) pc' lo st (wr ++ w u)) : cV x D 7 cs sl pc lo (.ref q :: st) (wr ++ [(q, e0)]) := fun H locs ls hP hD hS hl => by
  subst hp
  have hl9 : (wr ++ [(q, e0)])[wr.length]? = some (q, e0) := by simp
  have hPc : va_P D vwCl [(q, e0)] H := fun i z h => by
    match i, h with
    | 0, h => cases h; exact hP wr.length _ hl9
    | i + 1, h => cases h
  have hF : ∀ z : Nat, va_A [(q, e0)] H.size z → zfA x z := fun z hz => by
    rcases hz with ⟨j, e9, hk9⟩ | hz
    · match j, hk9 with
      | 0, hk9 => cases hk9; exact hD.2 wr.length _ hl9
      | j + 1, hk9 => cases hk9
    · exact hA z (Nat.le_trans hS.1 hz)
  refine va_callv (va_runI (As := []) (rest := st) S (hM H.size) (cwI 0 S.2.2.2.2 hG hw rfl rfl (S.2.2.2.2 _ h1) (S.2.2.2.2 _ h2) (S.2.2.2.2 _ h3) hy hd ⟨by rw [hrm]; exact hR.1, by rw [hrm]; exact hR.2⟩) ⟨cPre_blind _ _ _ _ _ _, fun U hU hW => ⟨rfl, by rw [hU], by rw [hU]; exact hPc, va_K.moved hW.alike hK, nLk.warm hW hN⟩⟩ rfl rfl hl.1 rfl (lv_room h8) hdg ⟨by rw [hrm]; exact hcs.1, by rw [hrm]; exact hcs.2⟩) hS (fun q9 _ h => hF q9 h) hF (fun u t H1 locs1 ht hvm hq hB hz1 hk1 hS1 => ?_)
  obtain ⟨hP1, hK1, hD1⟩ := hB
  rw [ht] at hP1
  obtain ⟨j1, j2⟩ := c_joined hP hD (fun z hz => hA z (Nat.le_trans hS.1 hz)) hk1 hP1 hD1
  exact k u H1 locs1 ls j1 j2 hS1 hl
end ZM
/-! the law's loop -/
set_option maxHeartbeats 4000000 in
set_option maxRecDepth 100000 in
theorem law_loop {x : zF} {D : va_G} {cI : ClassId} {aC aM : Nat → Nat} {kk : zKK} {cL : ClassId} {ao b L : Nat} {xs : Nat → Int32} (X : lX x D cI aC aM kk cL ao b L xs) (hL : L ≤ 3072) (fin : ∀ (cs sl : Nat) (lo : List (Option Value)) (ws : va_W), cs ≤ 1090 → sl ≤ 26359 → cV x D 7 cs sl 1566 lo [] ws) : ∀ (d c : Nat), 512 ≤ c + d → 6 * c ≤ L → ∀ (mC mM : zMem) (v : Int64), INV mC mM (10000 * c) → cV x D 7 (58 + c) (18119 + 6 * c) 23 [some (.ref b), some (.ref (aC 0)), some (.ref (aM 0)), some (.ref ao), some (.int (nI (6 * c))), none, none] [] (zwd (gM0 D cI aM) mM ++ wW (gC0 D cI aC) cL ao mC v) := by
  intro d
  induction d with
  | zero =>
    intro c h1 h2 mC mM v hI
    have S := X.1
    refine e_iload S dL_law_23 rfl rfl ?_
    refine e_aload_n (i := 0) S dL_law_25 rfl rfl rfl ?_
    refine e_slen S X.2.2.2.2.2.1 X.2.2.2.2.2.2.1 (by rw [X.2.2.2.2.1]; exact Nat.not_le.mpr X.2.2.2.2.2.2.1) dL_law_26 rfl ?_
    refine e_bipush S dL_law_27 zb_6 rfl ?_
    refine e_isub S dL_law_29 rfl ?_
    refine e_igt_t (pc' := 1566) S dL_law_30 (lw_gt2 hL (by omega) (by omega)) (by decide) ?_
    exact fin _ _ _ _ (by omega) (by omega)
  | succ d ih =>
    intro c h1 h2 mC mM v hI
    have S := X.1
    refine e_iload S dL_law_23 rfl rfl ?_
    refine e_aload_n (i := 0) S dL_law_25 rfl rfl rfl ?_
    refine e_slen S X.2.2.2.2.2.1 X.2.2.2.2.2.2.1 (by rw [X.2.2.2.2.1]; exact Nat.not_le.mpr X.2.2.2.2.2.2.1) dL_law_26 rfl ?_
    refine e_bipush S dL_law_27 zb_6 rfl ?_
    refine e_isub S dL_law_29 rfl ?_
    by_cases hc : 6 * c + 6 ≤ L
    · refine e_igt_f (tgt := 1566) S dL_law_30 (lw_gt1 hL hc) (by decide) rfl ?_
      have loop := fun (mC' mM' : zMem) (v' : Int64) (h : INV mC' mM' (10000 * (c + 1))) => ih (c + 1) (by omega) (by omega) mC' mM' v' h
      refine e_aload_n (i := 0) S dL_law_33 rfl rfl rfl ?_
      refine e_iload S dL_law_34 rfl rfl ?_
      refine e_sld (j := 6 * c) (i := nI (6 * c)) S X.2.2.2.2.2.1 X.2.2.2.2.2.2.1 (by rw [X.2.2.2.2.1]; exact Nat.not_le.mpr X.2.2.2.2.2.2.1) (lw_i0 hc hL).1 (lw_i0 hc hL).2 dL_law_36 rfl ?_
      refine e_bipush S dL_law_37 zb_31 rfl ?_
      refine e_iand S dL_law_39 rfl ?_
      generalize xs (6 * c) &&& 31 = y
      by_cases q0 : y = 0
      · exact e_tsi (pc' := 148) S q0 dL_law_40 (by decide) (by decide) rfl (by decide) (lc_0 X hL hc hI loop)
      by_cases q1 : y = 1
      · exact e_tsi (pc' := 228) S q1 dL_law_40 (by decide) (by decide) rfl (by decide) (lc_1 X hL hc hI loop)
      by_cases q2 : y = 2
      · exact e_tsi (pc' := 296) S q2 dL_law_40 (by decide) (by decide) rfl (by decide) (lc_2 X hL hc hI loop)
      by_cases q3 : y = 3
      · exact e_tsi (pc' := 352) S q3 dL_law_40 (by decide) (by decide) rfl (by decide) (lc_3 X hL hc hI loop)
      by_cases q4 : y = 4
      · exact e_tsi (pc' := 408) S q4 dL_law_40 (by decide) (by decide) rfl (by decide) (lc_4 X hL hc hI loop)
      by_cases q5 : y = 5
      · exact e_tsi (pc' := 488) S q5 dL_law_40 (by decide) (by decide) rfl (by decide) (lc_5 X hL hc hI loop)
      by_cases q6 : y = 6
      · exact e_tsi (pc' := 580) S q6 dL_law_40 (by decide) (by decide) rfl (by decide) (lc_6 X hL hc hI loop)
      by_cases q7 : y = 7
      · exact e_tsi (pc' := 660) S q7 dL_law_40 (by decide) (by decide) rfl (by decide) (lc_7 X hL hc hI loop)
      by_cases q8 : y = 8
      · exact e_tsi (pc' := 716) S q8 dL_law_40 (by decide) (by decide) rfl (by decide) (lc_8 X hL hc hI loop)
      by_cases q9 : y = 9
      · exact e_tsi (pc' := 820) S q9 dL_law_40 (by decide) (by decide) rfl (by decide) (lc_9 X hL hc hI loop)
      by_cases q10 : y = 10
      · exact e_tsi (pc' := 888) S q10 dL_law_40 (by decide) (by decide) rfl (by decide) (lc_10 X hL hc hI loop)
      by_cases q11 : y = 11
      · exact e_tsi (pc' := 968) S q11 dL_law_40 (by decide) (by decide) rfl (by decide) (lc_11 X hL hc hI loop)
      by_cases q12 : y = 12
      · exact e_tsi (pc' := 1024) S q12 dL_law_40 (by decide) (by decide) rfl (by decide) (lc_12 X hL hc hI loop)
      by_cases q13 : y = 13
      · exact e_tsi (pc' := 1092) S q13 dL_law_40 (by decide) (by decide) rfl (by decide) (lc_13 X hL hc hI loop)
      by_cases q14 : y = 14
      · exact e_tsi (pc' := 1148) S q14 dL_law_40 (by decide) (by decide) rfl (by decide) (lc_14 X hL hc hI loop)
      by_cases q15 : y = 15
      · exact e_tsi (pc' := 1240) S q15 dL_law_40 (by decide) (by decide) rfl (by decide) (lc_15 X hL hc hI loop)
      by_cases q16 : y = 16
      · exact e_tsi (pc' := 1308) S q16 dL_law_40 (by decide) (by decide) rfl (by decide) (lc_16 X hL hc hI loop)
      by_cases q17 : y = 17
      · exact e_tsi (pc' := 1364) S q17 dL_law_40 (by decide) (by decide) rfl (by decide) (lc_17 X hL hc hI loop)
      by_cases q18 : y = 18
      · exact e_tsi (pc' := 1420) S q18 dL_law_40 (by decide) (by decide) rfl (by decide) (lc_18 X hL hc hI loop)
      by_cases q19 : y = 19
      · exact e_tsi (pc' := 1476) S q19 dL_law_40 (by decide) (by decide) rfl (by decide) (lc_19 X hL hc hI loop)
      by_cases q20 : y = 20
      · exact e_tsi (pc' := 1489) S q20 dL_law_40 (by decide) (by decide) rfl (by decide) (lc_20 X hL hc hI loop)
      by_cases q21 : y = 21
      · exact e_tsi (pc' := 1502) S q21 dL_law_40 (by decide) (by decide) rfl (by decide) (lc_21 X hL hc hI loop)
      by_cases q22 : y = 22
      · exact e_tsi (pc' := 1546) S q22 dL_law_40 (by decide) (by decide) rfl (by decide) (lc_22 X hL hc hI loop)
      refine e_tso (pc' := 1560) S dL_law_40 (z_tswd (fun z g1 g2 => ?_)) (by decide) (lc_end X (by omega) (by omega) ?_ loop)
      · have hz : z = 0 ∨ z = 1 ∨ z = 2 ∨ z = 3 ∨ z = 4 ∨ z = 5 ∨ z = 6 ∨ z = 7 ∨ z = 8 ∨ z = 9 ∨ z = 10 ∨ z = 11 ∨ z = 12 ∨ z = 13 ∨ z = 14 ∨ z = 15 ∨ z = 16 ∨ z = 17 ∨ z = 18 ∨ z = 19 ∨ z = 20 ∨ z = 21 ∨ z = 22 := by omega
        rcases hz with e | e | e | e | e | e | e | e | e | e | e | e | e | e | e | e | e | e | e | e | e | e | e
        · subst e; exact q0
        · subst e; exact q1
        · subst e; exact q2
        · subst e; exact q3
        · subst e; exact q4
        · subst e; exact q5
        · subst e; exact q6
        · subst e; exact q7
        · subst e; exact q8
        · subst e; exact q9
        · subst e; exact q10
        · subst e; exact q11
        · subst e; exact q12
        · subst e; exact q13
        · subst e; exact q14
        · subst e; exact q15
        · subst e; exact q16
        · subst e; exact q17
        · subst e; exact q18
        · subst e; exact q19
        · subst e; exact q20
        · subst e; exact q21
        · subst e; exact q22
      · obtain ⟨A, L9, k9, f9, z1, z2, z3, z4, z5, z6⟩ := hI
        exact INV.mk z1 z2 z3 z4 z5 z6 (by omega)
    · refine e_igt_t (pc' := 1566) S dL_law_30 (lw_gt2 hL (by omega) hc) (by decide) ?_
      exact fin _ _ _ _ (by omega) (by omega)
