/-! the cases of the law's switch -/
theorem lc_end {x : zF} {D : va_G} {cI : ClassId} {aC aM : Nat → Nat} {kk : zKK} {cL : ClassId} {ao b L : Nat} {xs : Nat → Int32} (X : lX x D cI aC aM kk cL ao b L xs) {c : Nat} {cs sl : Nat} {l5 l6 : Option Value} {mC mM : zMem} {v : Int64} (h1 : cs ≤ 58 + (c + 1)) (h2 : sl ≤ 18119 + 6 * (c + 1)) (hI : INV mC mM (10000 * (c + 1))) (loop : ∀ (mC' mM' : zMem) (v' : Int64), INV mC' mM' (10000 * (c + 1)) → cV x D 7 (58 + (c + 1)) (18119 + 6 * (c + 1)) 23 [some (.ref b), some (.ref (aC 0)), some (.ref (aM 0)), some (.ref ao), some (.int (nI (6 * (c + 1)))), none, none] [] (zwd (gM0 D cI aM) mM' ++ wW (gC0 D cI aC) cL ao mC' v')) : cV x D 7 cs sl 1560 [some (.ref b), some (.ref (aC 0)), some (.ref (aM 0)), some (.ref ao), some (.int (nI (6 * c))), l5, l6] [] (zwd (gM0 D cI aM) mM ++ wW (gC0 D cI aC) cL ao mC v) := by
  refine e_drop (lo' := [some (.ref b), some (.ref (aC 0)), some (.ref (aM 0)), some (.ref ao), some (.int (nI (6 * c))), none, l6]) 5 rfl ?_
  refine e_drop (lo' := [some (.ref b), some (.ref (aC 0)), some (.ref (aM 0)), some (.ref ao), some (.int (nI (6 * c))), none, none]) 6 rfl ?_
  refine cV_wd h1 h2 ?_
  refine e_iinc (v := nI (6 * (c + 1))) (lo' := [some (.ref b), some (.ref (aC 0)), some (.ref (aM 0)), some (.ref ao), some (.int (nI (6 * (c + 1)))), none, none]) X.1 dL_law_1560 rfl (by rw [zi_6, show (6 : Int32) = nI 6 from rfl, nI_add]; exact congrArg nI (by omega)) (Nat.le_of_ble_eq_true rfl) rfl rfl rfl ?_
  refine e_goto (pc' := 23) X.1 dL_law_1563 (by decide) ?_
  exact loop mC mM v hI
set_option maxHeartbeats 4000000 in
set_option maxRecDepth 100000 in
theorem lc_0 {x : zF} {D : va_G} {cI : ClassId} {aC aM : Nat → Nat} {kk : zKK} {cL : ClassId} {ao b L : Nat} {xs : Nat → Int32} (X : lX x D cI aC aM kk cL ao b L xs) (hL : L ≤ 3072) {c : Nat} (hc : 6 * c + 6 ≤ L) {mC mM : zMem} {v : Int64} (hI : INV mC mM (10000 * c)) (loop : ∀ (mC' mM' : zMem) (v' : Int64), INV mC' mM' (10000 * (c + 1)) → cV x D 7 (58 + (c + 1)) (18119 + 6 * (c + 1)) 23 [some (.ref b), some (.ref (aC 0)), some (.ref (aM 0)), some (.ref ao), some (.int (nI (6 * (c + 1)))), none, none] [] (zwd (gM0 D cI aM) mM' ++ wW (gC0 D cI aC) cL ao mC' v')) : cV x D 7 (58 + c) (18119 + 6 * c) 148 [some (.ref b), some (.ref (aC 0)), some (.ref (aM 0)), some (.ref ao), some (.int (nI (6 * c))), none, none] [] (zwd (gM0 D cI aM) mM ++ wW (gC0 D cI aC) cL ao mC v) := by
  have S := X.1
  obtain ⟨r, mC1, v1, b1, mM1, hW, h6, h4, hv, hI1⟩ := st_setPuzzles (l := x.2.1) (g := gC0 D cI aC) (kk := kk) (cL := cL) (ao := ao) X.2.2.2.2.2.2.2.2.1 (iC0 D cI aC) (xs (6 * c + 1)) (xs (6 * c + 2)) (xs (6 * c + 3)) v hI (by omega)
  rw [show 10000 * c + 10000 = 10000 * (c + 1) by omega] at hI1
  refine e_aload_n (i := 1) S dL_law_148 rfl rfl rfl ?_
  refine e_aload_n (i := 0) S dL_law_149 rfl rfl rfl ?_
  refine e_iload S dL_law_150 rfl rfl ?_
  refine e_iconst S dL_law_152 zi_1 rfl ?_
  refine e_iadd S dL_law_153 rfl ?_
  refine e_sld (j := 6 * c + 1) (i := nI (6 * c) + 1) S X.2.2.2.2.2.1 X.2.2.2.2.2.2.1 (by rw [X.2.2.2.2.1]; exact Nat.not_le.mpr X.2.2.2.2.2.2.1) (lw_ix hc hL 1 (by decide)).1 (lw_ix hc hL 1 (by decide)).2 dL_law_154 rfl ?_
  refine e_aload_n (i := 0) S dL_law_155 rfl rfl rfl ?_
  refine e_iload S dL_law_156 rfl rfl ?_
  refine e_iconst S dL_law_158 zi_2 rfl ?_
  refine e_iadd S dL_law_159 rfl ?_
  refine e_sld (j := 6 * c + 2) (i := nI (6 * c) + 2) S X.2.2.2.2.2.1 X.2.2.2.2.2.2.1 (by rw [X.2.2.2.2.1]; exact Nat.not_le.mpr X.2.2.2.2.2.2.1) (lw_ix hc hL 2 (by decide)).1 (lw_ix hc hL 2 (by decide)).2 dL_law_160 rfl ?_
  refine e_aload_n (i := 0) S dL_law_161 rfl rfl rfl ?_
  refine e_iload S dL_law_162 rfl rfl ?_
  refine e_iconst S dL_law_164 zi_3 rfl ?_
  refine e_iadd S dL_law_165 rfl ?_
  refine e_sld (j := 6 * c + 3) (i := nI (6 * c) + 3) S X.2.2.2.2.2.1 X.2.2.2.2.2.2.1 (by rw [X.2.2.2.2.1]; exact Nat.not_le.mpr X.2.2.2.2.2.2.1) (lw_ix hc hL 3 (by decide)).1 (lw_ix hc hL 3 (by decide)).2 dL_law_166 rfl ?_
  refine e_aload_n (i := 3) S dL_law_167 rfl rfl rfl ?_
  refine le_wrap (As := [.ref (aC 0), .int (xs (6 * c + 1)), .int (xs (6 * c + 2)), .int (xs (6 * c + 3)), .ref ao]) (st := []) X hW gL_law_L_setPuzzles hdL_setPuzzles rfl rfl (Nat.le_of_ble_eq_true rfl) ⟨Nat.le_of_ble_eq_true rfl, Nat.le_of_ble_eq_true rfl⟩ ⟨by omega, by omega⟩ dL_law_168 rfl rfl ?_
  refine e_istore (lo' := [some (.ref b), some (.ref (aC 0)), some (.ref (aM 0)), some (.ref ao), some (.int (nI (6 * c))), some (.int r), none]) S dL_law_171 (Nat.le_of_ble_eq_true rfl) rfl rfl rfl ?_
  refine e_aload_n (i := 2) S dL_law_173 rfl rfl rfl ?_
  refine e_aload_n (i := 0) S dL_law_174 rfl rfl rfl ?_
  refine e_iload S dL_law_175 rfl rfl ?_
  refine e_iconst S dL_law_177 zi_1 rfl ?_
  refine e_iadd S dL_law_178 rfl ?_
  refine e_sld (j := 6 * c + 1) (i := nI (6 * c) + 1) S X.2.2.2.2.2.1 X.2.2.2.2.2.2.1 (by rw [X.2.2.2.2.1]; exact Nat.not_le.mpr X.2.2.2.2.2.2.1) (lw_ix hc hL 1 (by decide)).1 (lw_ix hc hL 1 (by decide)).2 dL_law_179 rfl ?_
  refine e_aload_n (i := 0) S dL_law_180 rfl rfl rfl ?_
  refine e_iload S dL_law_181 rfl rfl ?_
  refine e_iconst S dL_law_183 zi_2 rfl ?_
  refine e_iadd S dL_law_184 rfl ?_
  refine e_sld (j := 6 * c + 2) (i := nI (6 * c) + 2) S X.2.2.2.2.2.1 X.2.2.2.2.2.2.1 (by rw [X.2.2.2.2.1]; exact Nat.not_le.mpr X.2.2.2.2.2.2.1) (lw_ix hc hL 2 (by decide)).1 (lw_ix hc hL 2 (by decide)).2 dL_law_185 rfl ?_
  refine e_aload_n (i := 0) S dL_law_186 rfl rfl rfl ?_
  refine e_iload S dL_law_187 rfl rfl ?_
  refine e_iconst S dL_law_189 zi_3 rfl ?_
  refine e_iadd S dL_law_190 rfl ?_
  refine e_sld (j := 6 * c + 3) (i := nI (6 * c) + 3) S X.2.2.2.2.2.1 X.2.2.2.2.2.2.1 (by rw [X.2.2.2.2.1]; exact Nat.not_le.mpr X.2.2.2.2.2.2.1) (lw_ix hc hL 3 (by decide)).1 (lw_ix hc hL 3 (by decide)).2 dL_law_191 rfl ?_
  refine e_cvi (g := gM0 D cI aM) (As := [.int (xs (6 * c + 1)), .int (xs (6 * c + 2)), .int (xs (6 * c + 3))]) (st := []) (m := mM) (wr := wW (gC0 D cI aC) cL ao mC1 v1) S X.2.2.1 rfl (mn_0 (iM0 D cI aM)) (mc_0 (iM0 D cI aM)) gL_law_X6_setPuzzles hdX6_setPuzzles rfl (qX6_setPuzzles (iM0 D cI aM) NN (xs (6 * c + 1)) (xs (6 * c + 2)) (xs (6 * c + 3)) mM _ h6) rfl (Nat.le_of_ble_eq_true rfl) ⟨Nat.le_of_ble_eq_true rfl, Nat.le_of_ble_eq_true rfl⟩ ⟨(show 58 + c + 1 + 0 ≤ 1090 by omega), (show 18119 + 6 * c + 6 + 0 ≤ 26359 by omega)⟩ dL_law_192 rfl rfl ?_
  refine e_istore (lo' := [some (.ref b), some (.ref (aC 0)), some (.ref (aM 0)), some (.ref ao), some (.int (nI (6 * c))), some (.int r), some (.int b1)]) S dL_law_195 (Nat.le_of_ble_eq_true rfl) rfl rfl rfl ?_
  refine e_aload_n (i := 2) S dL_law_197 rfl rfl rfl ?_
  refine e_cvi (g := gM0 D cI aM) (As := []) (st := []) (m := mM1) (wr := wW (gC0 D cI aC) cL ao mC1 v1) S X.2.2.1 rfl (mn_0 (iM0 D cI aM)) (mc_0 (iM0 D cI aM)) gL_law_X6_thrown hdX6_thrown rfl (qX6_thrown (iM0 D cI aM) mM1 _ rfl) rfl (Nat.le_of_ble_eq_true rfl) ⟨Nat.le_of_ble_eq_true rfl, Nat.le_of_ble_eq_true rfl⟩ ⟨(show 58 + c + 1 + 0 ≤ 1090 by omega), (show 18119 + 6 * c + 6 + 0 ≤ 26359 by omega)⟩ dL_law_198 rfl rfl ?_
  refine e_iload S dL_law_201 rfl rfl ?_
  refine e_ieq_t (pc' := 208) S dL_law_203 h4 (by decide) ?_
  refine e_iload S dL_law_208 rfl rfl ?_
  have fin : cV x D 7 (58 + c + 1) (18119 + 6 * c + 6) 225 [some (.ref b), some (.ref (aC 0)), some (.ref (aM 0)), some (.ref ao), some (.int (nI (6 * c))), some (.int r), some (.int b1)] [] (zwd (gM0 D cI aM) mM1 ++ wW (gC0 D cI aC) cL ao mC1 v1) := by
    refine e_goto (pc' := 1560) S dL_law_225 (by decide) ?_
    exact lc_end X (by omega) (by omega) hI1 loop
  by_cases q0 : r = 0
  · refine e_ne_f (tgt := 225) S dL_law_210 q0 (by decide) rfl ?_
    refine e_aload_n (i := 3) S dL_law_213 rfl rfl rfl ?_
    refine e_iconst S dL_law_214 zi_0 rfl ?_
    refine le_lald X dL_law_215 rfl ?_
    refine e_iload S dL_law_216 rfl rfl ?_
    refine e_i2l S dL_law_218 rfl ?_
    refine e_lcmp S (hv q0) dL_law_219 rfl ?_
    refine e_eq_t (pc' := 225) S dL_law_220 rfl (by decide) ?_
    exact fin
  · exact e_ne_t (pc' := 225) S dL_law_210 q0 (by decide) fin
set_option maxHeartbeats 4000000 in
set_option maxRecDepth 100000 in
theorem lc_1 {x : zF} {D : va_G} {cI : ClassId} {aC aM : Nat → Nat} {kk : zKK} {cL : ClassId} {ao b L : Nat} {xs : Nat → Int32} (X : lX x D cI aC aM kk cL ao b L xs) (hL : L ≤ 3072) {c : Nat} (hc : 6 * c + 6 ≤ L) {mC mM : zMem} {v : Int64} (hI : INV mC mM (10000 * c)) (loop : ∀ (mC' mM' : zMem) (v' : Int64), INV mC' mM' (10000 * (c + 1)) → cV x D 7 (58 + (c + 1)) (18119 + 6 * (c + 1)) 23 [some (.ref b), some (.ref (aC 0)), some (.ref (aM 0)), some (.ref ao), some (.int (nI (6 * (c + 1)))), none, none] [] (zwd (gM0 D cI aM) mM' ++ wW (gC0 D cI aC) cL ao mC' v')) : cV x D 7 (58 + c) (18119 + 6 * c) 228 [some (.ref b), some (.ref (aC 0)), some (.ref (aM 0)), some (.ref ao), some (.int (nI (6 * c))), none, none] [] (zwd (gM0 D cI aM) mM ++ wW (gC0 D cI aC) cL ao mC v) := by
  have S := X.1
  obtain ⟨r, mC1, v1, b1, mM1, hW, h6, h4, hv, hI1⟩ := st_setQuotas (l := x.2.1) (g := gC0 D cI aC) (kk := kk) (cL := cL) (ao := ao) X.2.2.2.2.2.2.2.2.1 (iC0 D cI aC) (xs (6 * c + 1)) (xs (6 * c + 2)) v hI (by omega)
  rw [show 10000 * c + 10000 = 10000 * (c + 1) by omega] at hI1
  refine e_aload_n (i := 1) S dL_law_228 rfl rfl rfl ?_
  refine e_aload_n (i := 0) S dL_law_229 rfl rfl rfl ?_
  refine e_iload S dL_law_230 rfl rfl ?_
  refine e_iconst S dL_law_232 zi_1 rfl ?_
  refine e_iadd S dL_law_233 rfl ?_
  refine e_sld (j := 6 * c + 1) (i := nI (6 * c) + 1) S X.2.2.2.2.2.1 X.2.2.2.2.2.2.1 (by rw [X.2.2.2.2.1]; exact Nat.not_le.mpr X.2.2.2.2.2.2.1) (lw_ix hc hL 1 (by decide)).1 (lw_ix hc hL 1 (by decide)).2 dL_law_234 rfl ?_
  refine e_aload_n (i := 0) S dL_law_235 rfl rfl rfl ?_
  refine e_iload S dL_law_236 rfl rfl ?_
  refine e_iconst S dL_law_238 zi_2 rfl ?_
  refine e_iadd S dL_law_239 rfl ?_
  refine e_sld (j := 6 * c + 2) (i := nI (6 * c) + 2) S X.2.2.2.2.2.1 X.2.2.2.2.2.2.1 (by rw [X.2.2.2.2.1]; exact Nat.not_le.mpr X.2.2.2.2.2.2.1) (lw_ix hc hL 2 (by decide)).1 (lw_ix hc hL 2 (by decide)).2 dL_law_240 rfl ?_
  refine e_aload_n (i := 3) S dL_law_241 rfl rfl rfl ?_
  refine le_wrap (As := [.ref (aC 0), .int (xs (6 * c + 1)), .int (xs (6 * c + 2)), .ref ao]) (st := []) X hW gL_law_L_setQuotas hdL_setQuotas rfl rfl (Nat.le_of_ble_eq_true rfl) ⟨Nat.le_of_ble_eq_true rfl, Nat.le_of_ble_eq_true rfl⟩ ⟨by omega, by omega⟩ dL_law_242 rfl rfl ?_
  refine e_istore (lo' := [some (.ref b), some (.ref (aC 0)), some (.ref (aM 0)), some (.ref ao), some (.int (nI (6 * c))), some (.int r), none]) S dL_law_245 (Nat.le_of_ble_eq_true rfl) rfl rfl rfl ?_
  refine e_aload_n (i := 2) S dL_law_247 rfl rfl rfl ?_
  refine e_aload_n (i := 0) S dL_law_248 rfl rfl rfl ?_
  refine e_iload S dL_law_249 rfl rfl ?_
  refine e_iconst S dL_law_251 zi_1 rfl ?_
  refine e_iadd S dL_law_252 rfl ?_
  refine e_sld (j := 6 * c + 1) (i := nI (6 * c) + 1) S X.2.2.2.2.2.1 X.2.2.2.2.2.2.1 (by rw [X.2.2.2.2.1]; exact Nat.not_le.mpr X.2.2.2.2.2.2.1) (lw_ix hc hL 1 (by decide)).1 (lw_ix hc hL 1 (by decide)).2 dL_law_253 rfl ?_
  refine e_aload_n (i := 0) S dL_law_254 rfl rfl rfl ?_
  refine e_iload S dL_law_255 rfl rfl ?_
  refine e_iconst S dL_law_257 zi_2 rfl ?_
  refine e_iadd S dL_law_258 rfl ?_
  refine e_sld (j := 6 * c + 2) (i := nI (6 * c) + 2) S X.2.2.2.2.2.1 X.2.2.2.2.2.2.1 (by rw [X.2.2.2.2.1]; exact Nat.not_le.mpr X.2.2.2.2.2.2.1) (lw_ix hc hL 2 (by decide)).1 (lw_ix hc hL 2 (by decide)).2 dL_law_259 rfl ?_
  refine e_cvi (g := gM0 D cI aM) (As := [.int (xs (6 * c + 1)), .int (xs (6 * c + 2))]) (st := []) (m := mM) (wr := wW (gC0 D cI aC) cL ao mC1 v1) S X.2.2.1 rfl (mn_0 (iM0 D cI aM)) (mc_0 (iM0 D cI aM)) gL_law_X6_setQuotas hdX6_setQuotas rfl (qX6_setQuotas (iM0 D cI aM) NN (xs (6 * c + 1)) (xs (6 * c + 2)) mM _ h6) rfl (Nat.le_of_ble_eq_true rfl) ⟨Nat.le_of_ble_eq_true rfl, Nat.le_of_ble_eq_true rfl⟩ ⟨(show 58 + c + 1 + 0 ≤ 1090 by omega), (show 18119 + 6 * c + 6 + 0 ≤ 26359 by omega)⟩ dL_law_260 rfl rfl ?_
  refine e_istore (lo' := [some (.ref b), some (.ref (aC 0)), some (.ref (aM 0)), some (.ref ao), some (.int (nI (6 * c))), some (.int r), some (.int b1)]) S dL_law_263 (Nat.le_of_ble_eq_true rfl) rfl rfl rfl ?_
  refine e_aload_n (i := 2) S dL_law_265 rfl rfl rfl ?_
  refine e_cvi (g := gM0 D cI aM) (As := []) (st := []) (m := mM1) (wr := wW (gC0 D cI aC) cL ao mC1 v1) S X.2.2.1 rfl (mn_0 (iM0 D cI aM)) (mc_0 (iM0 D cI aM)) gL_law_X6_thrown hdX6_thrown rfl (qX6_thrown (iM0 D cI aM) mM1 _ rfl) rfl (Nat.le_of_ble_eq_true rfl) ⟨Nat.le_of_ble_eq_true rfl, Nat.le_of_ble_eq_true rfl⟩ ⟨(show 58 + c + 1 + 0 ≤ 1090 by omega), (show 18119 + 6 * c + 6 + 0 ≤ 26359 by omega)⟩ dL_law_266 rfl rfl ?_
  refine e_iload S dL_law_269 rfl rfl ?_
  refine e_ieq_t (pc' := 276) S dL_law_271 h4 (by decide) ?_
  refine e_iload S dL_law_276 rfl rfl ?_
  have fin : cV x D 7 (58 + c + 1) (18119 + 6 * c + 6) 293 [some (.ref b), some (.ref (aC 0)), some (.ref (aM 0)), some (.ref ao), some (.int (nI (6 * c))), some (.int r), some (.int b1)] [] (zwd (gM0 D cI aM) mM1 ++ wW (gC0 D cI aC) cL ao mC1 v1) := by
    refine e_goto (pc' := 1560) S dL_law_293 (by decide) ?_
    exact lc_end X (by omega) (by omega) hI1 loop
  by_cases q0 : r = 0
  · refine e_ne_f (tgt := 293) S dL_law_278 q0 (by decide) rfl ?_
    refine e_aload_n (i := 3) S dL_law_281 rfl rfl rfl ?_
    refine e_iconst S dL_law_282 zi_0 rfl ?_
    refine le_lald X dL_law_283 rfl ?_
    refine e_iload S dL_law_284 rfl rfl ?_
    refine e_i2l S dL_law_286 rfl ?_
    refine e_lcmp S (hv q0) dL_law_287 rfl ?_
    refine e_eq_t (pc' := 293) S dL_law_288 rfl (by decide) ?_
    exact fin
  · exact e_ne_t (pc' := 293) S dL_law_278 q0 (by decide) fin
set_option maxHeartbeats 4000000 in
set_option maxRecDepth 100000 in
theorem lc_2 {x : zF} {D : va_G} {cI : ClassId} {aC aM : Nat → Nat} {kk : zKK} {cL : ClassId} {ao b L : Nat} {xs : Nat → Int32} (X : lX x D cI aC aM kk cL ao b L xs) (hL : L ≤ 3072) {c : Nat} (hc : 6 * c + 6 ≤ L) {mC mM : zMem} {v : Int64} (hI : INV mC mM (10000 * c)) (loop : ∀ (mC' mM' : zMem) (v' : Int64), INV mC' mM' (10000 * (c + 1)) → cV x D 7 (58 + (c + 1)) (18119 + 6 * (c + 1)) 23 [some (.ref b), some (.ref (aC 0)), some (.ref (aM 0)), some (.ref ao), some (.int (nI (6 * (c + 1)))), none, none] [] (zwd (gM0 D cI aM) mM' ++ wW (gC0 D cI aC) cL ao mC' v')) : cV x D 7 (58 + c) (18119 + 6 * c) 296 [some (.ref b), some (.ref (aC 0)), some (.ref (aM 0)), some (.ref ao), some (.int (nI (6 * c))), none, none] [] (zwd (gM0 D cI aM) mM ++ wW (gC0 D cI aC) cL ao mC v) := by
  have S := X.1
  obtain ⟨r, mC1, v1, b1, mM1, hW, h6, h4, hv, hI1⟩ := st_tick (l := x.2.1) (g := gC0 D cI aC) (kk := kk) (cL := cL) (ao := ao) X.2.2.2.2.2.2.2.2.1 (iC0 D cI aC) (xs (6 * c + 1)) v hI (by omega)
  rw [show 10000 * c + 10000 = 10000 * (c + 1) by omega] at hI1
  refine e_aload_n (i := 1) S dL_law_296 rfl rfl rfl ?_
  refine e_aload_n (i := 0) S dL_law_297 rfl rfl rfl ?_
  refine e_iload S dL_law_298 rfl rfl ?_
  refine e_iconst S dL_law_300 zi_1 rfl ?_
  refine e_iadd S dL_law_301 rfl ?_
  refine e_sld (j := 6 * c + 1) (i := nI (6 * c) + 1) S X.2.2.2.2.2.1 X.2.2.2.2.2.2.1 (by rw [X.2.2.2.2.1]; exact Nat.not_le.mpr X.2.2.2.2.2.2.1) (lw_ix hc hL 1 (by decide)).1 (lw_ix hc hL 1 (by decide)).2 dL_law_302 rfl ?_
  refine e_aload_n (i := 3) S dL_law_303 rfl rfl rfl ?_
  refine le_wrap (As := [.ref (aC 0), .int (xs (6 * c + 1)), .ref ao]) (st := []) X hW gL_law_L_tick hdL_tick rfl rfl (Nat.le_of_ble_eq_true rfl) ⟨Nat.le_of_ble_eq_true rfl, Nat.le_of_ble_eq_true rfl⟩ ⟨by omega, by omega⟩ dL_law_304 rfl rfl ?_
  refine e_istore (lo' := [some (.ref b), some (.ref (aC 0)), some (.ref (aM 0)), some (.ref ao), some (.int (nI (6 * c))), some (.int r), none]) S dL_law_307 (Nat.le_of_ble_eq_true rfl) rfl rfl rfl ?_
  refine e_aload_n (i := 2) S dL_law_309 rfl rfl rfl ?_
  refine e_aload_n (i := 0) S dL_law_310 rfl rfl rfl ?_
  refine e_iload S dL_law_311 rfl rfl ?_
  refine e_iconst S dL_law_313 zi_1 rfl ?_
  refine e_iadd S dL_law_314 rfl ?_
  refine e_sld (j := 6 * c + 1) (i := nI (6 * c) + 1) S X.2.2.2.2.2.1 X.2.2.2.2.2.2.1 (by rw [X.2.2.2.2.1]; exact Nat.not_le.mpr X.2.2.2.2.2.2.1) (lw_ix hc hL 1 (by decide)).1 (lw_ix hc hL 1 (by decide)).2 dL_law_315 rfl ?_
  refine e_cvi (g := gM0 D cI aM) (As := [.int (xs (6 * c + 1))]) (st := []) (m := mM) (wr := wW (gC0 D cI aC) cL ao mC1 v1) S X.2.2.1 rfl (mn_0 (iM0 D cI aM)) (mc_0 (iM0 D cI aM)) gL_law_X6_tick hdX6_tick rfl (qX6_tick (iM0 D cI aM) NN (xs (6 * c + 1)) mM _ h6) rfl (Nat.le_of_ble_eq_true rfl) ⟨Nat.le_of_ble_eq_true rfl, Nat.le_of_ble_eq_true rfl⟩ ⟨(show 58 + c + 1 + 0 ≤ 1090 by omega), (show 18119 + 6 * c + 6 + 0 ≤ 26359 by omega)⟩ dL_law_316 rfl rfl ?_
  refine e_istore (lo' := [some (.ref b), some (.ref (aC 0)), some (.ref (aM 0)), some (.ref ao), some (.int (nI (6 * c))), some (.int r), some (.int b1)]) S dL_law_319 (Nat.le_of_ble_eq_true rfl) rfl rfl rfl ?_
  refine e_aload_n (i := 2) S dL_law_321 rfl rfl rfl ?_
  refine e_cvi (g := gM0 D cI aM) (As := []) (st := []) (m := mM1) (wr := wW (gC0 D cI aC) cL ao mC1 v1) S X.2.2.1 rfl (mn_0 (iM0 D cI aM)) (mc_0 (iM0 D cI aM)) gL_law_X6_thrown hdX6_thrown rfl (qX6_thrown (iM0 D cI aM) mM1 _ rfl) rfl (Nat.le_of_ble_eq_true rfl) ⟨Nat.le_of_ble_eq_true rfl, Nat.le_of_ble_eq_true rfl⟩ ⟨(show 58 + c + 1 + 0 ≤ 1090 by omega), (show 18119 + 6 * c + 6 + 0 ≤ 26359 by omega)⟩ dL_law_322 rfl rfl ?_
  refine e_iload S dL_law_325 rfl rfl ?_
  refine e_ieq_t (pc' := 332) S dL_law_327 h4 (by decide) ?_
  refine e_iload S dL_law_332 rfl rfl ?_
  have fin : cV x D 7 (58 + c + 1) (18119 + 6 * c + 6) 349 [some (.ref b), some (.ref (aC 0)), some (.ref (aM 0)), some (.ref ao), some (.int (nI (6 * c))), some (.int r), some (.int b1)] [] (zwd (gM0 D cI aM) mM1 ++ wW (gC0 D cI aC) cL ao mC1 v1) := by
    refine e_goto (pc' := 1560) S dL_law_349 (by decide) ?_
    exact lc_end X (by omega) (by omega) hI1 loop
  by_cases q0 : r = 0
  · refine e_ne_f (tgt := 349) S dL_law_334 q0 (by decide) rfl ?_
    refine e_aload_n (i := 3) S dL_law_337 rfl rfl rfl ?_
    refine e_iconst S dL_law_338 zi_0 rfl ?_
    refine le_lald X dL_law_339 rfl ?_
    refine e_iload S dL_law_340 rfl rfl ?_
    refine e_i2l S dL_law_342 rfl ?_
    refine e_lcmp S (hv q0) dL_law_343 rfl ?_
    refine e_eq_t (pc' := 349) S dL_law_344 rfl (by decide) ?_
    exact fin
  · exact e_ne_t (pc' := 349) S dL_law_334 q0 (by decide) fin
set_option maxHeartbeats 4000000 in
set_option maxRecDepth 100000 in
theorem lc_3 {x : zF} {D : va_G} {cI : ClassId} {aC aM : Nat → Nat} {kk : zKK} {cL : ClassId} {ao b L : Nat} {xs : Nat → Int32} (X : lX x D cI aC aM kk cL ao b L xs) (hL : L ≤ 3072) {c : Nat} (hc : 6 * c + 6 ≤ L) {mC mM : zMem} {v : Int64} (hI : INV mC mM (10000 * c)) (loop : ∀ (mC' mM' : zMem) (v' : Int64), INV mC' mM' (10000 * (c + 1)) → cV x D 7 (58 + (c + 1)) (18119 + 6 * (c + 1)) 23 [some (.ref b), some (.ref (aC 0)), some (.ref (aM 0)), some (.ref ao), some (.int (nI (6 * (c + 1)))), none, none] [] (zwd (gM0 D cI aM) mM' ++ wW (gC0 D cI aC) cL ao mC' v')) : cV x D 7 (58 + c) (18119 + 6 * c) 352 [some (.ref b), some (.ref (aC 0)), some (.ref (aM 0)), some (.ref ao), some (.int (nI (6 * c))), none, none] [] (zwd (gM0 D cI aM) mM ++ wW (gC0 D cI aC) cL ao mC v) := by
  have S := X.1
  obtain ⟨r, mC1, v1, b1, mM1, hW, h6, h4, hv, hI1⟩ := st_solve (l := x.2.1) (g := gC0 D cI aC) (kk := kk) (cL := cL) (ao := ao) X.2.2.2.2.2.2.2.2.1 (iC0 D cI aC) (xs (6 * c + 1)) v hI (by omega)
  rw [show 10000 * c + 10000 = 10000 * (c + 1) by omega] at hI1
  refine e_aload_n (i := 1) S dL_law_352 rfl rfl rfl ?_
  refine e_aload_n (i := 0) S dL_law_353 rfl rfl rfl ?_
  refine e_iload S dL_law_354 rfl rfl ?_
  refine e_iconst S dL_law_356 zi_1 rfl ?_
  refine e_iadd S dL_law_357 rfl ?_
  refine e_sld (j := 6 * c + 1) (i := nI (6 * c) + 1) S X.2.2.2.2.2.1 X.2.2.2.2.2.2.1 (by rw [X.2.2.2.2.1]; exact Nat.not_le.mpr X.2.2.2.2.2.2.1) (lw_ix hc hL 1 (by decide)).1 (lw_ix hc hL 1 (by decide)).2 dL_law_358 rfl ?_
  refine e_aload_n (i := 3) S dL_law_359 rfl rfl rfl ?_
  refine le_wrap (As := [.ref (aC 0), .int (xs (6 * c + 1)), .ref ao]) (st := []) X hW gL_law_L_solve hdL_solve rfl rfl (Nat.le_of_ble_eq_true rfl) ⟨Nat.le_of_ble_eq_true rfl, Nat.le_of_ble_eq_true rfl⟩ ⟨by omega, by omega⟩ dL_law_360 rfl rfl ?_
  refine e_istore (lo' := [some (.ref b), some (.ref (aC 0)), some (.ref (aM 0)), some (.ref ao), some (.int (nI (6 * c))), some (.int r), none]) S dL_law_363 (Nat.le_of_ble_eq_true rfl) rfl rfl rfl ?_
  refine e_aload_n (i := 2) S dL_law_365 rfl rfl rfl ?_
  refine e_aload_n (i := 0) S dL_law_366 rfl rfl rfl ?_
  refine e_iload S dL_law_367 rfl rfl ?_
  refine e_iconst S dL_law_369 zi_1 rfl ?_
  refine e_iadd S dL_law_370 rfl ?_
  refine e_sld (j := 6 * c + 1) (i := nI (6 * c) + 1) S X.2.2.2.2.2.1 X.2.2.2.2.2.2.1 (by rw [X.2.2.2.2.1]; exact Nat.not_le.mpr X.2.2.2.2.2.2.1) (lw_ix hc hL 1 (by decide)).1 (lw_ix hc hL 1 (by decide)).2 dL_law_371 rfl ?_
  refine e_cvi (g := gM0 D cI aM) (As := [.int (xs (6 * c + 1))]) (st := []) (m := mM) (wr := wW (gC0 D cI aC) cL ao mC1 v1) S X.2.2.1 rfl (mn_0 (iM0 D cI aM)) (mc_0 (iM0 D cI aM)) gL_law_X6_solve hdX6_solve rfl (qX6_solve (iM0 D cI aM) NN (xs (6 * c + 1)) mM _ h6) rfl (Nat.le_of_ble_eq_true rfl) ⟨Nat.le_of_ble_eq_true rfl, Nat.le_of_ble_eq_true rfl⟩ ⟨(show 58 + c + 1 + 0 ≤ 1090 by omega), (show 18119 + 6 * c + 6 + 0 ≤ 26359 by omega)⟩ dL_law_372 rfl rfl ?_
  refine e_istore (lo' := [some (.ref b), some (.ref (aC 0)), some (.ref (aM 0)), some (.ref ao), some (.int (nI (6 * c))), some (.int r), some (.int b1)]) S dL_law_375 (Nat.le_of_ble_eq_true rfl) rfl rfl rfl ?_
  refine e_aload_n (i := 2) S dL_law_377 rfl rfl rfl ?_
  refine e_cvi (g := gM0 D cI aM) (As := []) (st := []) (m := mM1) (wr := wW (gC0 D cI aC) cL ao mC1 v1) S X.2.2.1 rfl (mn_0 (iM0 D cI aM)) (mc_0 (iM0 D cI aM)) gL_law_X6_thrown hdX6_thrown rfl (qX6_thrown (iM0 D cI aM) mM1 _ rfl) rfl (Nat.le_of_ble_eq_true rfl) ⟨Nat.le_of_ble_eq_true rfl, Nat.le_of_ble_eq_true rfl⟩ ⟨(show 58 + c + 1 + 0 ≤ 1090 by omega), (show 18119 + 6 * c + 6 + 0 ≤ 26359 by omega)⟩ dL_law_378 rfl rfl ?_
  refine e_iload S dL_law_381 rfl rfl ?_
  refine e_ieq_t (pc' := 388) S dL_law_383 h4 (by decide) ?_
  refine e_iload S dL_law_388 rfl rfl ?_
  have fin : cV x D 7 (58 + c + 1) (18119 + 6 * c + 6) 405 [some (.ref b), some (.ref (aC 0)), some (.ref (aM 0)), some (.ref ao), some (.int (nI (6 * c))), some (.int r), some (.int b1)] [] (zwd (gM0 D cI aM) mM1 ++ wW (gC0 D cI aC) cL ao mC1 v1) := by
    refine e_goto (pc' := 1560) S dL_law_405 (by decide) ?_
    exact lc_end X (by omega) (by omega) hI1 loop
  by_cases q0 : r = 0
  · refine e_ne_f (tgt := 405) S dL_law_390 q0 (by decide) rfl ?_
    refine e_aload_n (i := 3) S dL_law_393 rfl rfl rfl ?_
    refine e_iconst S dL_law_394 zi_0 rfl ?_
    refine le_lald X dL_law_395 rfl ?_
    refine e_iload S dL_law_396 rfl rfl ?_
    refine e_i2l S dL_law_398 rfl ?_
    refine e_lcmp S (hv q0) dL_law_399 rfl ?_
    refine e_eq_t (pc' := 405) S dL_law_400 rfl (by decide) ?_
    exact fin
  · exact e_ne_t (pc' := 405) S dL_law_390 q0 (by decide) fin
set_option maxHeartbeats 4000000 in
set_option maxRecDepth 100000 in
theorem lc_4 {x : zF} {D : va_G} {cI : ClassId} {aC aM : Nat → Nat} {kk : zKK} {cL : ClassId} {ao b L : Nat} {xs : Nat → Int32} (X : lX x D cI aC aM kk cL ao b L xs) (hL : L ≤ 3072) {c : Nat} (hc : 6 * c + 6 ≤ L) {mC mM : zMem} {v : Int64} (hI : INV mC mM (10000 * c)) (loop : ∀ (mC' mM' : zMem) (v' : Int64), INV mC' mM' (10000 * (c + 1)) → cV x D 7 (58 + (c + 1)) (18119 + 6 * (c + 1)) 23 [some (.ref b), some (.ref (aC 0)), some (.ref (aM 0)), some (.ref ao), some (.int (nI (6 * (c + 1)))), none, none] [] (zwd (gM0 D cI aM) mM' ++ wW (gC0 D cI aC) cL ao mC' v')) : cV x D 7 (58 + c) (18119 + 6 * c) 408 [some (.ref b), some (.ref (aC 0)), some (.ref (aM 0)), some (.ref ao), some (.int (nI (6 * c))), none, none] [] (zwd (gM0 D cI aM) mM ++ wW (gC0 D cI aC) cL ao mC v) := by
  have S := X.1
  obtain ⟨r, mC1, v1, b1, mM1, hW, h6, h4, hv, hI1⟩ := st_zeros (l := x.2.1) (g := gC0 D cI aC) (kk := kk) (cL := cL) (ao := ao) X.2.2.2.2.2.2.2.2.1 (iC0 D cI aC) (xs (6 * c + 1)) (xs (6 * c + 2)) (xs (6 * c + 3)) v hI (by omega)
  rw [show 10000 * c + 10000 = 10000 * (c + 1) by omega] at hI1
  refine e_aload_n (i := 1) S dL_law_408 rfl rfl rfl ?_
  refine e_aload_n (i := 0) S dL_law_409 rfl rfl rfl ?_
  refine e_iload S dL_law_410 rfl rfl ?_
  refine e_iconst S dL_law_412 zi_1 rfl ?_
  refine e_iadd S dL_law_413 rfl ?_
  refine e_sld (j := 6 * c + 1) (i := nI (6 * c) + 1) S X.2.2.2.2.2.1 X.2.2.2.2.2.2.1 (by rw [X.2.2.2.2.1]; exact Nat.not_le.mpr X.2.2.2.2.2.2.1) (lw_ix hc hL 1 (by decide)).1 (lw_ix hc hL 1 (by decide)).2 dL_law_414 rfl ?_
  refine e_aload_n (i := 0) S dL_law_415 rfl rfl rfl ?_
  refine e_iload S dL_law_416 rfl rfl ?_
  refine e_iconst S dL_law_418 zi_2 rfl ?_
  refine e_iadd S dL_law_419 rfl ?_
  refine e_sld (j := 6 * c + 2) (i := nI (6 * c) + 2) S X.2.2.2.2.2.1 X.2.2.2.2.2.2.1 (by rw [X.2.2.2.2.1]; exact Nat.not_le.mpr X.2.2.2.2.2.2.1) (lw_ix hc hL 2 (by decide)).1 (lw_ix hc hL 2 (by decide)).2 dL_law_420 rfl ?_
  refine e_aload_n (i := 0) S dL_law_421 rfl rfl rfl ?_
  refine e_iload S dL_law_422 rfl rfl ?_
  refine e_iconst S dL_law_424 zi_3 rfl ?_
  refine e_iadd S dL_law_425 rfl ?_
  refine e_sld (j := 6 * c + 3) (i := nI (6 * c) + 3) S X.2.2.2.2.2.1 X.2.2.2.2.2.2.1 (by rw [X.2.2.2.2.1]; exact Nat.not_le.mpr X.2.2.2.2.2.2.1) (lw_ix hc hL 3 (by decide)).1 (lw_ix hc hL 3 (by decide)).2 dL_law_426 rfl ?_
  refine e_aload_n (i := 3) S dL_law_427 rfl rfl rfl ?_
  refine le_wrap (As := [.ref (aC 0), .int (xs (6 * c + 1)), .int (xs (6 * c + 2)), .int (xs (6 * c + 3)), .ref ao]) (st := []) X hW gL_law_L_zeros hdL_zeros rfl rfl (Nat.le_of_ble_eq_true rfl) ⟨Nat.le_of_ble_eq_true rfl, Nat.le_of_ble_eq_true rfl⟩ ⟨by omega, by omega⟩ dL_law_428 rfl rfl ?_
  refine e_istore (lo' := [some (.ref b), some (.ref (aC 0)), some (.ref (aM 0)), some (.ref ao), some (.int (nI (6 * c))), some (.int r), none]) S dL_law_431 (Nat.le_of_ble_eq_true rfl) rfl rfl rfl ?_
  refine e_aload_n (i := 2) S dL_law_433 rfl rfl rfl ?_
  refine e_aload_n (i := 0) S dL_law_434 rfl rfl rfl ?_
  refine e_iload S dL_law_435 rfl rfl ?_
  refine e_iconst S dL_law_437 zi_1 rfl ?_
  refine e_iadd S dL_law_438 rfl ?_
  refine e_sld (j := 6 * c + 1) (i := nI (6 * c) + 1) S X.2.2.2.2.2.1 X.2.2.2.2.2.2.1 (by rw [X.2.2.2.2.1]; exact Nat.not_le.mpr X.2.2.2.2.2.2.1) (lw_ix hc hL 1 (by decide)).1 (lw_ix hc hL 1 (by decide)).2 dL_law_439 rfl ?_
  refine e_aload_n (i := 0) S dL_law_440 rfl rfl rfl ?_
  refine e_iload S dL_law_441 rfl rfl ?_
  refine e_iconst S dL_law_443 zi_2 rfl ?_
  refine e_iadd S dL_law_444 rfl ?_
  refine e_sld (j := 6 * c + 2) (i := nI (6 * c) + 2) S X.2.2.2.2.2.1 X.2.2.2.2.2.2.1 (by rw [X.2.2.2.2.1]; exact Nat.not_le.mpr X.2.2.2.2.2.2.1) (lw_ix hc hL 2 (by decide)).1 (lw_ix hc hL 2 (by decide)).2 dL_law_445 rfl ?_
  refine e_aload_n (i := 0) S dL_law_446 rfl rfl rfl ?_
  refine e_iload S dL_law_447 rfl rfl ?_
  refine e_iconst S dL_law_449 zi_3 rfl ?_
  refine e_iadd S dL_law_450 rfl ?_
  refine e_sld (j := 6 * c + 3) (i := nI (6 * c) + 3) S X.2.2.2.2.2.1 X.2.2.2.2.2.2.1 (by rw [X.2.2.2.2.1]; exact Nat.not_le.mpr X.2.2.2.2.2.2.1) (lw_ix hc hL 3 (by decide)).1 (lw_ix hc hL 3 (by decide)).2 dL_law_451 rfl ?_
  refine e_cvi (g := gM0 D cI aM) (As := [.int (xs (6 * c + 1)), .int (xs (6 * c + 2)), .int (xs (6 * c + 3))]) (st := []) (m := mM) (wr := wW (gC0 D cI aC) cL ao mC1 v1) S X.2.2.1 rfl (mn_0 (iM0 D cI aM)) (mc_0 (iM0 D cI aM)) gL_law_X6_zeros hdX6_zeros rfl (qX6_zeros (iM0 D cI aM) NN (xs (6 * c + 1)) (xs (6 * c + 2)) (xs (6 * c + 3)) mM _ h6) rfl (Nat.le_of_ble_eq_true rfl) ⟨Nat.le_of_ble_eq_true rfl, Nat.le_of_ble_eq_true rfl⟩ ⟨(show 58 + c + 1 + 0 ≤ 1090 by omega), (show 18119 + 6 * c + 6 + 0 ≤ 26359 by omega)⟩ dL_law_452 rfl rfl ?_
  refine e_istore (lo' := [some (.ref b), some (.ref (aC 0)), some (.ref (aM 0)), some (.ref ao), some (.int (nI (6 * c))), some (.int r), some (.int b1)]) S dL_law_455 (Nat.le_of_ble_eq_true rfl) rfl rfl rfl ?_
  refine e_aload_n (i := 2) S dL_law_457 rfl rfl rfl ?_
  refine e_cvi (g := gM0 D cI aM) (As := []) (st := []) (m := mM1) (wr := wW (gC0 D cI aC) cL ao mC1 v1) S X.2.2.1 rfl (mn_0 (iM0 D cI aM)) (mc_0 (iM0 D cI aM)) gL_law_X6_thrown hdX6_thrown rfl (qX6_thrown (iM0 D cI aM) mM1 _ rfl) rfl (Nat.le_of_ble_eq_true rfl) ⟨Nat.le_of_ble_eq_true rfl, Nat.le_of_ble_eq_true rfl⟩ ⟨(show 58 + c + 1 + 0 ≤ 1090 by omega), (show 18119 + 6 * c + 6 + 0 ≤ 26359 by omega)⟩ dL_law_458 rfl rfl ?_
  refine e_iload S dL_law_461 rfl rfl ?_
  refine e_ieq_t (pc' := 468) S dL_law_463 h4 (by decide) ?_
  refine e_iload S dL_law_468 rfl rfl ?_
  have fin : cV x D 7 (58 + c + 1) (18119 + 6 * c + 6) 485 [some (.ref b), some (.ref (aC 0)), some (.ref (aM 0)), some (.ref ao), some (.int (nI (6 * c))), some (.int r), some (.int b1)] [] (zwd (gM0 D cI aM) mM1 ++ wW (gC0 D cI aC) cL ao mC1 v1) := by
    refine e_goto (pc' := 1560) S dL_law_485 (by decide) ?_
    exact lc_end X (by omega) (by omega) hI1 loop
  by_cases q0 : r = 0
  · refine e_ne_f (tgt := 485) S dL_law_470 q0 (by decide) rfl ?_
    refine e_aload_n (i := 3) S dL_law_473 rfl rfl rfl ?_
    refine e_iconst S dL_law_474 zi_0 rfl ?_
    refine le_lald X dL_law_475 rfl ?_
    refine e_iload S dL_law_476 rfl rfl ?_
    refine e_i2l S dL_law_478 rfl ?_
    refine e_lcmp S (hv q0) dL_law_479 rfl ?_
    refine e_eq_t (pc' := 485) S dL_law_480 rfl (by decide) ?_
    exact fin
  · exact e_ne_t (pc' := 485) S dL_law_470 q0 (by decide) fin
set_option maxHeartbeats 4000000 in
set_option maxRecDepth 100000 in
theorem lc_5 {x : zF} {D : va_G} {cI : ClassId} {aC aM : Nat → Nat} {kk : zKK} {cL : ClassId} {ao b L : Nat} {xs : Nat → Int32} (X : lX x D cI aC aM kk cL ao b L xs) (hL : L ≤ 3072) {c : Nat} (hc : 6 * c + 6 ≤ L) {mC mM : zMem} {v : Int64} (hI : INV mC mM (10000 * c)) (loop : ∀ (mC' mM' : zMem) (v' : Int64), INV mC' mM' (10000 * (c + 1)) → cV x D 7 (58 + (c + 1)) (18119 + 6 * (c + 1)) 23 [some (.ref b), some (.ref (aC 0)), some (.ref (aM 0)), some (.ref ao), some (.int (nI (6 * (c + 1)))), none, none] [] (zwd (gM0 D cI aM) mM' ++ wW (gC0 D cI aC) cL ao mC' v')) : cV x D 7 (58 + c) (18119 + 6 * c) 488 [some (.ref b), some (.ref (aC 0)), some (.ref (aM 0)), some (.ref ao), some (.int (nI (6 * c))), none, none] [] (zwd (gM0 D cI aM) mM ++ wW (gC0 D cI aC) cL ao mC v) := by
  have S := X.1
  obtain ⟨r, mC1, v1, b1, mM1, hW, h6, h4, hv, hI1⟩ := st_join (l := x.2.1) (g := gC0 D cI aC) (kk := kk) (cL := cL) (ao := ao) X.2.2.2.2.2.2.2.2.1 (iC0 D cI aC) (xs (6 * c + 1)) (xs (6 * c + 2)) (xs (6 * c + 3)) (xs (6 * c + 4)) v hI (by omega)
  rw [show 10000 * c + 10000 = 10000 * (c + 1) by omega] at hI1
  refine e_aload_n (i := 1) S dL_law_488 rfl rfl rfl ?_
  refine e_aload_n (i := 0) S dL_law_489 rfl rfl rfl ?_
  refine e_iload S dL_law_490 rfl rfl ?_
  refine e_iconst S dL_law_492 zi_1 rfl ?_
  refine e_iadd S dL_law_493 rfl ?_
  refine e_sld (j := 6 * c + 1) (i := nI (6 * c) + 1) S X.2.2.2.2.2.1 X.2.2.2.2.2.2.1 (by rw [X.2.2.2.2.1]; exact Nat.not_le.mpr X.2.2.2.2.2.2.1) (lw_ix hc hL 1 (by decide)).1 (lw_ix hc hL 1 (by decide)).2 dL_law_494 rfl ?_
  refine e_aload_n (i := 0) S dL_law_495 rfl rfl rfl ?_
  refine e_iload S dL_law_496 rfl rfl ?_
  refine e_iconst S dL_law_498 zi_2 rfl ?_
  refine e_iadd S dL_law_499 rfl ?_
  refine e_sld (j := 6 * c + 2) (i := nI (6 * c) + 2) S X.2.2.2.2.2.1 X.2.2.2.2.2.2.1 (by rw [X.2.2.2.2.1]; exact Nat.not_le.mpr X.2.2.2.2.2.2.1) (lw_ix hc hL 2 (by decide)).1 (lw_ix hc hL 2 (by decide)).2 dL_law_500 rfl ?_
  refine e_aload_n (i := 0) S dL_law_501 rfl rfl rfl ?_
  refine e_iload S dL_law_502 rfl rfl ?_
  refine e_iconst S dL_law_504 zi_3 rfl ?_
  refine e_iadd S dL_law_505 rfl ?_
  refine e_sld (j := 6 * c + 3) (i := nI (6 * c) + 3) S X.2.2.2.2.2.1 X.2.2.2.2.2.2.1 (by rw [X.2.2.2.2.1]; exact Nat.not_le.mpr X.2.2.2.2.2.2.1) (lw_ix hc hL 3 (by decide)).1 (lw_ix hc hL 3 (by decide)).2 dL_law_506 rfl ?_
  refine e_aload_n (i := 0) S dL_law_507 rfl rfl rfl ?_
  refine e_iload S dL_law_508 rfl rfl ?_
  refine e_iconst S dL_law_510 zi_4 rfl ?_
  refine e_iadd S dL_law_511 rfl ?_
  refine e_sld (j := 6 * c + 4) (i := nI (6 * c) + 4) S X.2.2.2.2.2.1 X.2.2.2.2.2.2.1 (by rw [X.2.2.2.2.1]; exact Nat.not_le.mpr X.2.2.2.2.2.2.1) (lw_ix hc hL 4 (by decide)).1 (lw_ix hc hL 4 (by decide)).2 dL_law_512 rfl ?_
  refine e_aload_n (i := 3) S dL_law_513 rfl rfl rfl ?_
  refine le_wrap (As := [.ref (aC 0), .int (xs (6 * c + 1)), .int (xs (6 * c + 2)), .int (xs (6 * c + 3)), .int (xs (6 * c + 4)), .ref ao]) (st := []) X hW gL_law_L_join hdL_join rfl rfl (Nat.le_of_ble_eq_true rfl) ⟨Nat.le_of_ble_eq_true rfl, Nat.le_of_ble_eq_true rfl⟩ ⟨by omega, by omega⟩ dL_law_514 rfl rfl ?_
  refine e_istore (lo' := [some (.ref b), some (.ref (aC 0)), some (.ref (aM 0)), some (.ref ao), some (.int (nI (6 * c))), some (.int r), none]) S dL_law_517 (Nat.le_of_ble_eq_true rfl) rfl rfl rfl ?_
  refine e_aload_n (i := 2) S dL_law_519 rfl rfl rfl ?_
  refine e_aload_n (i := 0) S dL_law_520 rfl rfl rfl ?_
  refine e_iload S dL_law_521 rfl rfl ?_
  refine e_iconst S dL_law_523 zi_1 rfl ?_
  refine e_iadd S dL_law_524 rfl ?_
  refine e_sld (j := 6 * c + 1) (i := nI (6 * c) + 1) S X.2.2.2.2.2.1 X.2.2.2.2.2.2.1 (by rw [X.2.2.2.2.1]; exact Nat.not_le.mpr X.2.2.2.2.2.2.1) (lw_ix hc hL 1 (by decide)).1 (lw_ix hc hL 1 (by decide)).2 dL_law_525 rfl ?_
  refine e_aload_n (i := 0) S dL_law_526 rfl rfl rfl ?_
  refine e_iload S dL_law_527 rfl rfl ?_
  refine e_iconst S dL_law_529 zi_2 rfl ?_
  refine e_iadd S dL_law_530 rfl ?_
  refine e_sld (j := 6 * c + 2) (i := nI (6 * c) + 2) S X.2.2.2.2.2.1 X.2.2.2.2.2.2.1 (by rw [X.2.2.2.2.1]; exact Nat.not_le.mpr X.2.2.2.2.2.2.1) (lw_ix hc hL 2 (by decide)).1 (lw_ix hc hL 2 (by decide)).2 dL_law_531 rfl ?_
  refine e_aload_n (i := 0) S dL_law_532 rfl rfl rfl ?_
  refine e_iload S dL_law_533 rfl rfl ?_
  refine e_iconst S dL_law_535 zi_3 rfl ?_
  refine e_iadd S dL_law_536 rfl ?_
  refine e_sld (j := 6 * c + 3) (i := nI (6 * c) + 3) S X.2.2.2.2.2.1 X.2.2.2.2.2.2.1 (by rw [X.2.2.2.2.1]; exact Nat.not_le.mpr X.2.2.2.2.2.2.1) (lw_ix hc hL 3 (by decide)).1 (lw_ix hc hL 3 (by decide)).2 dL_law_537 rfl ?_
  refine e_aload_n (i := 0) S dL_law_538 rfl rfl rfl ?_
  refine e_iload S dL_law_539 rfl rfl ?_
  refine e_iconst S dL_law_541 zi_4 rfl ?_
  refine e_iadd S dL_law_542 rfl ?_
  refine e_sld (j := 6 * c + 4) (i := nI (6 * c) + 4) S X.2.2.2.2.2.1 X.2.2.2.2.2.2.1 (by rw [X.2.2.2.2.1]; exact Nat.not_le.mpr X.2.2.2.2.2.2.1) (lw_ix hc hL 4 (by decide)).1 (lw_ix hc hL 4 (by decide)).2 dL_law_543 rfl ?_
  refine e_cvi (g := gM0 D cI aM) (As := [.int (xs (6 * c + 1)), .int (xs (6 * c + 2)), .int (xs (6 * c + 3)), .int (xs (6 * c + 4))]) (st := []) (m := mM) (wr := wW (gC0 D cI aC) cL ao mC1 v1) S X.2.2.1 rfl (mn_0 (iM0 D cI aM)) (mc_0 (iM0 D cI aM)) gL_law_X6_join hdX6_join rfl (qX6_join (iM0 D cI aM) NN (xs (6 * c + 1)) (xs (6 * c + 2)) (xs (6 * c + 3)) (xs (6 * c + 4)) mM _ h6) rfl (Nat.le_of_ble_eq_true rfl) ⟨Nat.le_of_ble_eq_true rfl, Nat.le_of_ble_eq_true rfl⟩ ⟨(show 58 + c + 1 + 0 ≤ 1090 by omega), (show 18119 + 6 * c + 6 + 0 ≤ 26359 by omega)⟩ dL_law_544 rfl rfl ?_
  refine e_istore (lo' := [some (.ref b), some (.ref (aC 0)), some (.ref (aM 0)), some (.ref ao), some (.int (nI (6 * c))), some (.int r), some (.int b1)]) S dL_law_547 (Nat.le_of_ble_eq_true rfl) rfl rfl rfl ?_
  refine e_aload_n (i := 2) S dL_law_549 rfl rfl rfl ?_
  refine e_cvi (g := gM0 D cI aM) (As := []) (st := []) (m := mM1) (wr := wW (gC0 D cI aC) cL ao mC1 v1) S X.2.2.1 rfl (mn_0 (iM0 D cI aM)) (mc_0 (iM0 D cI aM)) gL_law_X6_thrown hdX6_thrown rfl (qX6_thrown (iM0 D cI aM) mM1 _ rfl) rfl (Nat.le_of_ble_eq_true rfl) ⟨Nat.le_of_ble_eq_true rfl, Nat.le_of_ble_eq_true rfl⟩ ⟨(show 58 + c + 1 + 0 ≤ 1090 by omega), (show 18119 + 6 * c + 6 + 0 ≤ 26359 by omega)⟩ dL_law_550 rfl rfl ?_
  refine e_iload S dL_law_553 rfl rfl ?_
  refine e_ieq_t (pc' := 560) S dL_law_555 h4 (by decide) ?_
  refine e_iload S dL_law_560 rfl rfl ?_
  have fin : cV x D 7 (58 + c + 1) (18119 + 6 * c + 6) 577 [some (.ref b), some (.ref (aC 0)), some (.ref (aM 0)), some (.ref ao), some (.int (nI (6 * c))), some (.int r), some (.int b1)] [] (zwd (gM0 D cI aM) mM1 ++ wW (gC0 D cI aC) cL ao mC1 v1) := by
    refine e_goto (pc' := 1560) S dL_law_577 (by decide) ?_
    exact lc_end X (by omega) (by omega) hI1 loop
  by_cases q0 : r = 0
  · refine e_ne_f (tgt := 577) S dL_law_562 q0 (by decide) rfl ?_
    refine e_aload_n (i := 3) S dL_law_565 rfl rfl rfl ?_
    refine e_iconst S dL_law_566 zi_0 rfl ?_
    refine le_lald X dL_law_567 rfl ?_
    refine e_iload S dL_law_568 rfl rfl ?_
    refine e_i2l S dL_law_570 rfl ?_
    refine e_lcmp S (hv q0) dL_law_571 rfl ?_
    refine e_eq_t (pc' := 577) S dL_law_572 rfl (by decide) ?_
    exact fin
  · exact e_ne_t (pc' := 577) S dL_law_562 q0 (by decide) fin
set_option maxHeartbeats 4000000 in
set_option maxRecDepth 100000 in
theorem lc_6 {x : zF} {D : va_G} {cI : ClassId} {aC aM : Nat → Nat} {kk : zKK} {cL : ClassId} {ao b L : Nat} {xs : Nat → Int32} (X : lX x D cI aC aM kk cL ao b L xs) (hL : L ≤ 3072) {c : Nat} (hc : 6 * c + 6 ≤ L) {mC mM : zMem} {v : Int64} (hI : INV mC mM (10000 * c)) (loop : ∀ (mC' mM' : zMem) (v' : Int64), INV mC' mM' (10000 * (c + 1)) → cV x D 7 (58 + (c + 1)) (18119 + 6 * (c + 1)) 23 [some (.ref b), some (.ref (aC 0)), some (.ref (aM 0)), some (.ref ao), some (.int (nI (6 * (c + 1)))), none, none] [] (zwd (gM0 D cI aM) mM' ++ wW (gC0 D cI aC) cL ao mC' v')) : cV x D 7 (58 + c) (18119 + 6 * c) 580 [some (.ref b), some (.ref (aC 0)), some (.ref (aM 0)), some (.ref ao), some (.int (nI (6 * c))), none, none] [] (zwd (gM0 D cI aM) mM ++ wW (gC0 D cI aC) cL ao mC v) := by
  have S := X.1
  obtain ⟨r, mC1, v1, b1, mM1, hW, h6, h4, hv, hI1⟩ := st_admit (l := x.2.1) (g := gC0 D cI aC) (kk := kk) (cL := cL) (ao := ao) X.2.2.2.2.2.2.2.2.1 (iC0 D cI aC) (xs (6 * c + 1)) (xs (6 * c + 2)) (xs (6 * c + 3)) v hI (by omega)
  rw [show 10000 * c + 10000 = 10000 * (c + 1) by omega] at hI1
  refine e_aload_n (i := 1) S dL_law_580 rfl rfl rfl ?_
  refine e_aload_n (i := 0) S dL_law_581 rfl rfl rfl ?_
  refine e_iload S dL_law_582 rfl rfl ?_
  refine e_iconst S dL_law_584 zi_1 rfl ?_
  refine e_iadd S dL_law_585 rfl ?_
  refine e_sld (j := 6 * c + 1) (i := nI (6 * c) + 1) S X.2.2.2.2.2.1 X.2.2.2.2.2.2.1 (by rw [X.2.2.2.2.1]; exact Nat.not_le.mpr X.2.2.2.2.2.2.1) (lw_ix hc hL 1 (by decide)).1 (lw_ix hc hL 1 (by decide)).2 dL_law_586 rfl ?_
  refine e_aload_n (i := 0) S dL_law_587 rfl rfl rfl ?_
  refine e_iload S dL_law_588 rfl rfl ?_
  refine e_iconst S dL_law_590 zi_2 rfl ?_
  refine e_iadd S dL_law_591 rfl ?_
  refine e_sld (j := 6 * c + 2) (i := nI (6 * c) + 2) S X.2.2.2.2.2.1 X.2.2.2.2.2.2.1 (by rw [X.2.2.2.2.1]; exact Nat.not_le.mpr X.2.2.2.2.2.2.1) (lw_ix hc hL 2 (by decide)).1 (lw_ix hc hL 2 (by decide)).2 dL_law_592 rfl ?_
  refine e_aload_n (i := 0) S dL_law_593 rfl rfl rfl ?_
  refine e_iload S dL_law_594 rfl rfl ?_
  refine e_iconst S dL_law_596 zi_3 rfl ?_
  refine e_iadd S dL_law_597 rfl ?_
  refine e_sld (j := 6 * c + 3) (i := nI (6 * c) + 3) S X.2.2.2.2.2.1 X.2.2.2.2.2.2.1 (by rw [X.2.2.2.2.1]; exact Nat.not_le.mpr X.2.2.2.2.2.2.1) (lw_ix hc hL 3 (by decide)).1 (lw_ix hc hL 3 (by decide)).2 dL_law_598 rfl ?_
  refine e_aload_n (i := 3) S dL_law_599 rfl rfl rfl ?_
  refine le_wrap (As := [.ref (aC 0), .int (xs (6 * c + 1)), .int (xs (6 * c + 2)), .int (xs (6 * c + 3)), .ref ao]) (st := []) X hW gL_law_L_admit hdL_admit rfl rfl (Nat.le_of_ble_eq_true rfl) ⟨Nat.le_of_ble_eq_true rfl, Nat.le_of_ble_eq_true rfl⟩ ⟨by omega, by omega⟩ dL_law_600 rfl rfl ?_
  refine e_istore (lo' := [some (.ref b), some (.ref (aC 0)), some (.ref (aM 0)), some (.ref ao), some (.int (nI (6 * c))), some (.int r), none]) S dL_law_603 (Nat.le_of_ble_eq_true rfl) rfl rfl rfl ?_
  refine e_aload_n (i := 2) S dL_law_605 rfl rfl rfl ?_
  refine e_aload_n (i := 0) S dL_law_606 rfl rfl rfl ?_
  refine e_iload S dL_law_607 rfl rfl ?_
  refine e_iconst S dL_law_609 zi_1 rfl ?_
  refine e_iadd S dL_law_610 rfl ?_
  refine e_sld (j := 6 * c + 1) (i := nI (6 * c) + 1) S X.2.2.2.2.2.1 X.2.2.2.2.2.2.1 (by rw [X.2.2.2.2.1]; exact Nat.not_le.mpr X.2.2.2.2.2.2.1) (lw_ix hc hL 1 (by decide)).1 (lw_ix hc hL 1 (by decide)).2 dL_law_611 rfl ?_
  refine e_aload_n (i := 0) S dL_law_612 rfl rfl rfl ?_
  refine e_iload S dL_law_613 rfl rfl ?_
  refine e_iconst S dL_law_615 zi_2 rfl ?_
  refine e_iadd S dL_law_616 rfl ?_
  refine e_sld (j := 6 * c + 2) (i := nI (6 * c) + 2) S X.2.2.2.2.2.1 X.2.2.2.2.2.2.1 (by rw [X.2.2.2.2.1]; exact Nat.not_le.mpr X.2.2.2.2.2.2.1) (lw_ix hc hL 2 (by decide)).1 (lw_ix hc hL 2 (by decide)).2 dL_law_617 rfl ?_
  refine e_aload_n (i := 0) S dL_law_618 rfl rfl rfl ?_
  refine e_iload S dL_law_619 rfl rfl ?_
  refine e_iconst S dL_law_621 zi_3 rfl ?_
  refine e_iadd S dL_law_622 rfl ?_
  refine e_sld (j := 6 * c + 3) (i := nI (6 * c) + 3) S X.2.2.2.2.2.1 X.2.2.2.2.2.2.1 (by rw [X.2.2.2.2.1]; exact Nat.not_le.mpr X.2.2.2.2.2.2.1) (lw_ix hc hL 3 (by decide)).1 (lw_ix hc hL 3 (by decide)).2 dL_law_623 rfl ?_
  refine e_cvi (g := gM0 D cI aM) (As := [.int (xs (6 * c + 1)), .int (xs (6 * c + 2)), .int (xs (6 * c + 3))]) (st := []) (m := mM) (wr := wW (gC0 D cI aC) cL ao mC1 v1) S X.2.2.1 rfl (mn_0 (iM0 D cI aM)) (mc_0 (iM0 D cI aM)) gL_law_X6_admit hdX6_admit rfl (qX6_admit (iM0 D cI aM) NN (xs (6 * c + 1)) (xs (6 * c + 2)) (xs (6 * c + 3)) mM _ h6) rfl (Nat.le_of_ble_eq_true rfl) ⟨Nat.le_of_ble_eq_true rfl, Nat.le_of_ble_eq_true rfl⟩ ⟨(show 58 + c + 1 + 0 ≤ 1090 by omega), (show 18119 + 6 * c + 6 + 0 ≤ 26359 by omega)⟩ dL_law_624 rfl rfl ?_
  refine e_istore (lo' := [some (.ref b), some (.ref (aC 0)), some (.ref (aM 0)), some (.ref ao), some (.int (nI (6 * c))), some (.int r), some (.int b1)]) S dL_law_627 (Nat.le_of_ble_eq_true rfl) rfl rfl rfl ?_
  refine e_aload_n (i := 2) S dL_law_629 rfl rfl rfl ?_
  refine e_cvi (g := gM0 D cI aM) (As := []) (st := []) (m := mM1) (wr := wW (gC0 D cI aC) cL ao mC1 v1) S X.2.2.1 rfl (mn_0 (iM0 D cI aM)) (mc_0 (iM0 D cI aM)) gL_law_X6_thrown hdX6_thrown rfl (qX6_thrown (iM0 D cI aM) mM1 _ rfl) rfl (Nat.le_of_ble_eq_true rfl) ⟨Nat.le_of_ble_eq_true rfl, Nat.le_of_ble_eq_true rfl⟩ ⟨(show 58 + c + 1 + 0 ≤ 1090 by omega), (show 18119 + 6 * c + 6 + 0 ≤ 26359 by omega)⟩ dL_law_630 rfl rfl ?_
  refine e_iload S dL_law_633 rfl rfl ?_
  refine e_ieq_t (pc' := 640) S dL_law_635 h4 (by decide) ?_
  refine e_iload S dL_law_640 rfl rfl ?_
  have fin : cV x D 7 (58 + c + 1) (18119 + 6 * c + 6) 657 [some (.ref b), some (.ref (aC 0)), some (.ref (aM 0)), some (.ref ao), some (.int (nI (6 * c))), some (.int r), some (.int b1)] [] (zwd (gM0 D cI aM) mM1 ++ wW (gC0 D cI aC) cL ao mC1 v1) := by
    refine e_goto (pc' := 1560) S dL_law_657 (by decide) ?_
    exact lc_end X (by omega) (by omega) hI1 loop
  by_cases q0 : r = 0
  · refine e_ne_f (tgt := 657) S dL_law_642 q0 (by decide) rfl ?_
    refine e_aload_n (i := 3) S dL_law_645 rfl rfl rfl ?_
    refine e_iconst S dL_law_646 zi_0 rfl ?_
    refine le_lald X dL_law_647 rfl ?_
    refine e_iload S dL_law_648 rfl rfl ?_
    refine e_i2l S dL_law_650 rfl ?_
    refine e_lcmp S (hv q0) dL_law_651 rfl ?_
    refine e_eq_t (pc' := 657) S dL_law_652 rfl (by decide) ?_
    exact fin
  · exact e_ne_t (pc' := 657) S dL_law_642 q0 (by decide) fin
set_option maxHeartbeats 4000000 in
set_option maxRecDepth 100000 in
theorem lc_7 {x : zF} {D : va_G} {cI : ClassId} {aC aM : Nat → Nat} {kk : zKK} {cL : ClassId} {ao b L : Nat} {xs : Nat → Int32} (X : lX x D cI aC aM kk cL ao b L xs) (hL : L ≤ 3072) {c : Nat} (hc : 6 * c + 6 ≤ L) {mC mM : zMem} {v : Int64} (hI : INV mC mM (10000 * c)) (loop : ∀ (mC' mM' : zMem) (v' : Int64), INV mC' mM' (10000 * (c + 1)) → cV x D 7 (58 + (c + 1)) (18119 + 6 * (c + 1)) 23 [some (.ref b), some (.ref (aC 0)), some (.ref (aM 0)), some (.ref ao), some (.int (nI (6 * (c + 1)))), none, none] [] (zwd (gM0 D cI aM) mM' ++ wW (gC0 D cI aC) cL ao mC' v')) : cV x D 7 (58 + c) (18119 + 6 * c) 660 [some (.ref b), some (.ref (aC 0)), some (.ref (aM 0)), some (.ref ao), some (.int (nI (6 * c))), none, none] [] (zwd (gM0 D cI aM) mM ++ wW (gC0 D cI aC) cL ao mC v) := by
  have S := X.1
  obtain ⟨r, mC1, v1, b1, mM1, hW, h6, h4, hv, hI1⟩ := st_leave (l := x.2.1) (g := gC0 D cI aC) (kk := kk) (cL := cL) (ao := ao) X.2.2.2.2.2.2.2.2.1 (iC0 D cI aC) (xs (6 * c + 1)) v hI (by omega)
  rw [show 10000 * c + 10000 = 10000 * (c + 1) by omega] at hI1
  refine e_aload_n (i := 1) S dL_law_660 rfl rfl rfl ?_
  refine e_aload_n (i := 0) S dL_law_661 rfl rfl rfl ?_
  refine e_iload S dL_law_662 rfl rfl ?_
  refine e_iconst S dL_law_664 zi_1 rfl ?_
  refine e_iadd S dL_law_665 rfl ?_
  refine e_sld (j := 6 * c + 1) (i := nI (6 * c) + 1) S X.2.2.2.2.2.1 X.2.2.2.2.2.2.1 (by rw [X.2.2.2.2.1]; exact Nat.not_le.mpr X.2.2.2.2.2.2.1) (lw_ix hc hL 1 (by decide)).1 (lw_ix hc hL 1 (by decide)).2 dL_law_666 rfl ?_
  refine e_aload_n (i := 3) S dL_law_667 rfl rfl rfl ?_
  refine le_wrap (As := [.ref (aC 0), .int (xs (6 * c + 1)), .ref ao]) (st := []) X hW gL_law_L_leave hdL_leave rfl rfl (Nat.le_of_ble_eq_true rfl) ⟨Nat.le_of_ble_eq_true rfl, Nat.le_of_ble_eq_true rfl⟩ ⟨by omega, by omega⟩ dL_law_668 rfl rfl ?_
  refine e_istore (lo' := [some (.ref b), some (.ref (aC 0)), some (.ref (aM 0)), some (.ref ao), some (.int (nI (6 * c))), some (.int r), none]) S dL_law_671 (Nat.le_of_ble_eq_true rfl) rfl rfl rfl ?_
  refine e_aload_n (i := 2) S dL_law_673 rfl rfl rfl ?_
  refine e_aload_n (i := 0) S dL_law_674 rfl rfl rfl ?_
  refine e_iload S dL_law_675 rfl rfl ?_
  refine e_iconst S dL_law_677 zi_1 rfl ?_
  refine e_iadd S dL_law_678 rfl ?_
  refine e_sld (j := 6 * c + 1) (i := nI (6 * c) + 1) S X.2.2.2.2.2.1 X.2.2.2.2.2.2.1 (by rw [X.2.2.2.2.1]; exact Nat.not_le.mpr X.2.2.2.2.2.2.1) (lw_ix hc hL 1 (by decide)).1 (lw_ix hc hL 1 (by decide)).2 dL_law_679 rfl ?_
  refine e_cvi (g := gM0 D cI aM) (As := [.int (xs (6 * c + 1))]) (st := []) (m := mM) (wr := wW (gC0 D cI aC) cL ao mC1 v1) S X.2.2.1 rfl (mn_0 (iM0 D cI aM)) (mc_0 (iM0 D cI aM)) gL_law_X6_leave hdX6_leave rfl (qX6_leave (iM0 D cI aM) NN (xs (6 * c + 1)) mM _ h6) rfl (Nat.le_of_ble_eq_true rfl) ⟨Nat.le_of_ble_eq_true rfl, Nat.le_of_ble_eq_true rfl⟩ ⟨(show 58 + c + 1 + 0 ≤ 1090 by omega), (show 18119 + 6 * c + 6 + 0 ≤ 26359 by omega)⟩ dL_law_680 rfl rfl ?_
  refine e_istore (lo' := [some (.ref b), some (.ref (aC 0)), some (.ref (aM 0)), some (.ref ao), some (.int (nI (6 * c))), some (.int r), some (.int b1)]) S dL_law_683 (Nat.le_of_ble_eq_true rfl) rfl rfl rfl ?_
  refine e_aload_n (i := 2) S dL_law_685 rfl rfl rfl ?_
  refine e_cvi (g := gM0 D cI aM) (As := []) (st := []) (m := mM1) (wr := wW (gC0 D cI aC) cL ao mC1 v1) S X.2.2.1 rfl (mn_0 (iM0 D cI aM)) (mc_0 (iM0 D cI aM)) gL_law_X6_thrown hdX6_thrown rfl (qX6_thrown (iM0 D cI aM) mM1 _ rfl) rfl (Nat.le_of_ble_eq_true rfl) ⟨Nat.le_of_ble_eq_true rfl, Nat.le_of_ble_eq_true rfl⟩ ⟨(show 58 + c + 1 + 0 ≤ 1090 by omega), (show 18119 + 6 * c + 6 + 0 ≤ 26359 by omega)⟩ dL_law_686 rfl rfl ?_
  refine e_iload S dL_law_689 rfl rfl ?_
  refine e_ieq_t (pc' := 696) S dL_law_691 h4 (by decide) ?_
  refine e_iload S dL_law_696 rfl rfl ?_
  have fin : cV x D 7 (58 + c + 1) (18119 + 6 * c + 6) 713 [some (.ref b), some (.ref (aC 0)), some (.ref (aM 0)), some (.ref ao), some (.int (nI (6 * c))), some (.int r), some (.int b1)] [] (zwd (gM0 D cI aM) mM1 ++ wW (gC0 D cI aC) cL ao mC1 v1) := by
    refine e_goto (pc' := 1560) S dL_law_713 (by decide) ?_
    exact lc_end X (by omega) (by omega) hI1 loop
  by_cases q0 : r = 0
  · refine e_ne_f (tgt := 713) S dL_law_698 q0 (by decide) rfl ?_
    refine e_aload_n (i := 3) S dL_law_701 rfl rfl rfl ?_
    refine e_iconst S dL_law_702 zi_0 rfl ?_
    refine le_lald X dL_law_703 rfl ?_
    refine e_iload S dL_law_704 rfl rfl ?_
    refine e_i2l S dL_law_706 rfl ?_
    refine e_lcmp S (hv q0) dL_law_707 rfl ?_
    refine e_eq_t (pc' := 713) S dL_law_708 rfl (by decide) ?_
    exact fin
  · exact e_ne_t (pc' := 713) S dL_law_698 q0 (by decide) fin
set_option maxHeartbeats 4000000 in
set_option maxRecDepth 100000 in
theorem lc_8 {x : zF} {D : va_G} {cI : ClassId} {aC aM : Nat → Nat} {kk : zKK} {cL : ClassId} {ao b L : Nat} {xs : Nat → Int32} (X : lX x D cI aC aM kk cL ao b L xs) (hL : L ≤ 3072) {c : Nat} (hc : 6 * c + 6 ≤ L) {mC mM : zMem} {v : Int64} (hI : INV mC mM (10000 * c)) (loop : ∀ (mC' mM' : zMem) (v' : Int64), INV mC' mM' (10000 * (c + 1)) → cV x D 7 (58 + (c + 1)) (18119 + 6 * (c + 1)) 23 [some (.ref b), some (.ref (aC 0)), some (.ref (aM 0)), some (.ref ao), some (.int (nI (6 * (c + 1)))), none, none] [] (zwd (gM0 D cI aM) mM' ++ wW (gC0 D cI aC) cL ao mC' v')) : cV x D 7 (58 + c) (18119 + 6 * c) 716 [some (.ref b), some (.ref (aC 0)), some (.ref (aM 0)), some (.ref ao), some (.int (nI (6 * c))), none, none] [] (zwd (gM0 D cI aM) mM ++ wW (gC0 D cI aC) cL ao mC v) := by
  have S := X.1
  obtain ⟨r, mC1, v1, b1, mM1, hW, h6, h4, hv, hI1⟩ := st_swarm (l := x.2.1) (g := gC0 D cI aC) (kk := kk) (cL := cL) (ao := ao) X.2.2.2.2.2.2.2.2.1 (iC0 D cI aC) (xs (6 * c + 1)) (xs (6 * c + 2)) (xs (6 * c + 3)) (xs (6 * c + 4)) (xs (6 * c + 5)) v hI (by omega)
  rw [show 10000 * c + 10000 = 10000 * (c + 1) by omega] at hI1
  refine e_aload_n (i := 1) S dL_law_716 rfl rfl rfl ?_
  refine e_aload_n (i := 0) S dL_law_717 rfl rfl rfl ?_
  refine e_iload S dL_law_718 rfl rfl ?_
  refine e_iconst S dL_law_720 zi_1 rfl ?_
  refine e_iadd S dL_law_721 rfl ?_
  refine e_sld (j := 6 * c + 1) (i := nI (6 * c) + 1) S X.2.2.2.2.2.1 X.2.2.2.2.2.2.1 (by rw [X.2.2.2.2.1]; exact Nat.not_le.mpr X.2.2.2.2.2.2.1) (lw_ix hc hL 1 (by decide)).1 (lw_ix hc hL 1 (by decide)).2 dL_law_722 rfl ?_
  refine e_aload_n (i := 0) S dL_law_723 rfl rfl rfl ?_
  refine e_iload S dL_law_724 rfl rfl ?_
  refine e_iconst S dL_law_726 zi_2 rfl ?_
  refine e_iadd S dL_law_727 rfl ?_
  refine e_sld (j := 6 * c + 2) (i := nI (6 * c) + 2) S X.2.2.2.2.2.1 X.2.2.2.2.2.2.1 (by rw [X.2.2.2.2.1]; exact Nat.not_le.mpr X.2.2.2.2.2.2.1) (lw_ix hc hL 2 (by decide)).1 (lw_ix hc hL 2 (by decide)).2 dL_law_728 rfl ?_
  refine e_aload_n (i := 0) S dL_law_729 rfl rfl rfl ?_
  refine e_iload S dL_law_730 rfl rfl ?_
  refine e_iconst S dL_law_732 zi_3 rfl ?_
  refine e_iadd S dL_law_733 rfl ?_
  refine e_sld (j := 6 * c + 3) (i := nI (6 * c) + 3) S X.2.2.2.2.2.1 X.2.2.2.2.2.2.1 (by rw [X.2.2.2.2.1]; exact Nat.not_le.mpr X.2.2.2.2.2.2.1) (lw_ix hc hL 3 (by decide)).1 (lw_ix hc hL 3 (by decide)).2 dL_law_734 rfl ?_
  refine e_aload_n (i := 0) S dL_law_735 rfl rfl rfl ?_
  refine e_iload S dL_law_736 rfl rfl ?_
  refine e_iconst S dL_law_738 zi_4 rfl ?_
  refine e_iadd S dL_law_739 rfl ?_
  refine e_sld (j := 6 * c + 4) (i := nI (6 * c) + 4) S X.2.2.2.2.2.1 X.2.2.2.2.2.2.1 (by rw [X.2.2.2.2.1]; exact Nat.not_le.mpr X.2.2.2.2.2.2.1) (lw_ix hc hL 4 (by decide)).1 (lw_ix hc hL 4 (by decide)).2 dL_law_740 rfl ?_
  refine e_aload_n (i := 0) S dL_law_741 rfl rfl rfl ?_
  refine e_iload S dL_law_742 rfl rfl ?_
  refine e_iconst S dL_law_744 zi_5 rfl ?_
  refine e_iadd S dL_law_745 rfl ?_
  refine e_sld (j := 6 * c + 5) (i := nI (6 * c) + 5) S X.2.2.2.2.2.1 X.2.2.2.2.2.2.1 (by rw [X.2.2.2.2.1]; exact Nat.not_le.mpr X.2.2.2.2.2.2.1) (lw_ix hc hL 5 (by decide)).1 (lw_ix hc hL 5 (by decide)).2 dL_law_746 rfl ?_
  refine e_aload_n (i := 3) S dL_law_747 rfl rfl rfl ?_
  refine le_wrap (As := [.ref (aC 0), .int (xs (6 * c + 1)), .int (xs (6 * c + 2)), .int (xs (6 * c + 3)), .int (xs (6 * c + 4)), .int (xs (6 * c + 5)), .ref ao]) (st := []) X hW gL_law_L_swarm hdL_swarm rfl rfl (Nat.le_of_ble_eq_true rfl) ⟨Nat.le_of_ble_eq_true rfl, Nat.le_of_ble_eq_true rfl⟩ ⟨by omega, by omega⟩ dL_law_748 rfl rfl ?_
  refine e_istore (lo' := [some (.ref b), some (.ref (aC 0)), some (.ref (aM 0)), some (.ref ao), some (.int (nI (6 * c))), some (.int r), none]) S dL_law_751 (Nat.le_of_ble_eq_true rfl) rfl rfl rfl ?_
  refine e_aload_n (i := 2) S dL_law_753 rfl rfl rfl ?_
  refine e_aload_n (i := 0) S dL_law_754 rfl rfl rfl ?_
  refine e_iload S dL_law_755 rfl rfl ?_
  refine e_iconst S dL_law_757 zi_1 rfl ?_
  refine e_iadd S dL_law_758 rfl ?_
  refine e_sld (j := 6 * c + 1) (i := nI (6 * c) + 1) S X.2.2.2.2.2.1 X.2.2.2.2.2.2.1 (by rw [X.2.2.2.2.1]; exact Nat.not_le.mpr X.2.2.2.2.2.2.1) (lw_ix hc hL 1 (by decide)).1 (lw_ix hc hL 1 (by decide)).2 dL_law_759 rfl ?_
  refine e_aload_n (i := 0) S dL_law_760 rfl rfl rfl ?_
  refine e_iload S dL_law_761 rfl rfl ?_
  refine e_iconst S dL_law_763 zi_2 rfl ?_
  refine e_iadd S dL_law_764 rfl ?_
  refine e_sld (j := 6 * c + 2) (i := nI (6 * c) + 2) S X.2.2.2.2.2.1 X.2.2.2.2.2.2.1 (by rw [X.2.2.2.2.1]; exact Nat.not_le.mpr X.2.2.2.2.2.2.1) (lw_ix hc hL 2 (by decide)).1 (lw_ix hc hL 2 (by decide)).2 dL_law_765 rfl ?_
  refine e_aload_n (i := 0) S dL_law_766 rfl rfl rfl ?_
  refine e_iload S dL_law_767 rfl rfl ?_
  refine e_iconst S dL_law_769 zi_3 rfl ?_
  refine e_iadd S dL_law_770 rfl ?_
  refine e_sld (j := 6 * c + 3) (i := nI (6 * c) + 3) S X.2.2.2.2.2.1 X.2.2.2.2.2.2.1 (by rw [X.2.2.2.2.1]; exact Nat.not_le.mpr X.2.2.2.2.2.2.1) (lw_ix hc hL 3 (by decide)).1 (lw_ix hc hL 3 (by decide)).2 dL_law_771 rfl ?_
  refine e_aload_n (i := 0) S dL_law_772 rfl rfl rfl ?_
  refine e_iload S dL_law_773 rfl rfl ?_
  refine e_iconst S dL_law_775 zi_4 rfl ?_
  refine e_iadd S dL_law_776 rfl ?_
  refine e_sld (j := 6 * c + 4) (i := nI (6 * c) + 4) S X.2.2.2.2.2.1 X.2.2.2.2.2.2.1 (by rw [X.2.2.2.2.1]; exact Nat.not_le.mpr X.2.2.2.2.2.2.1) (lw_ix hc hL 4 (by decide)).1 (lw_ix hc hL 4 (by decide)).2 dL_law_777 rfl ?_
  refine e_aload_n (i := 0) S dL_law_778 rfl rfl rfl ?_
  refine e_iload S dL_law_779 rfl rfl ?_
  refine e_iconst S dL_law_781 zi_5 rfl ?_
  refine e_iadd S dL_law_782 rfl ?_
  refine e_sld (j := 6 * c + 5) (i := nI (6 * c) + 5) S X.2.2.2.2.2.1 X.2.2.2.2.2.2.1 (by rw [X.2.2.2.2.1]; exact Nat.not_le.mpr X.2.2.2.2.2.2.1) (lw_ix hc hL 5 (by decide)).1 (lw_ix hc hL 5 (by decide)).2 dL_law_783 rfl ?_
  refine e_cvi (g := gM0 D cI aM) (As := [.int (xs (6 * c + 1)), .int (xs (6 * c + 2)), .int (xs (6 * c + 3)), .int (xs (6 * c + 4)), .int (xs (6 * c + 5))]) (st := []) (m := mM) (wr := wW (gC0 D cI aC) cL ao mC1 v1) S X.2.2.1 rfl (mn_0 (iM0 D cI aM)) (mc_0 (iM0 D cI aM)) gL_law_X6_swarm hdX6_swarm rfl (qX6_swarm (iM0 D cI aM) NN (xs (6 * c + 1)) (xs (6 * c + 2)) (xs (6 * c + 3)) (xs (6 * c + 4)) (xs (6 * c + 5)) mM _ h6) rfl (Nat.le_of_ble_eq_true rfl) ⟨Nat.le_of_ble_eq_true rfl, Nat.le_of_ble_eq_true rfl⟩ ⟨(show 58 + c + 1 + 0 ≤ 1090 by omega), (show 18119 + 6 * c + 6 + 0 ≤ 26359 by omega)⟩ dL_law_784 rfl rfl ?_
  refine e_istore (lo' := [some (.ref b), some (.ref (aC 0)), some (.ref (aM 0)), some (.ref ao), some (.int (nI (6 * c))), some (.int r), some (.int b1)]) S dL_law_787 (Nat.le_of_ble_eq_true rfl) rfl rfl rfl ?_
  refine e_aload_n (i := 2) S dL_law_789 rfl rfl rfl ?_
  refine e_cvi (g := gM0 D cI aM) (As := []) (st := []) (m := mM1) (wr := wW (gC0 D cI aC) cL ao mC1 v1) S X.2.2.1 rfl (mn_0 (iM0 D cI aM)) (mc_0 (iM0 D cI aM)) gL_law_X6_thrown hdX6_thrown rfl (qX6_thrown (iM0 D cI aM) mM1 _ rfl) rfl (Nat.le_of_ble_eq_true rfl) ⟨Nat.le_of_ble_eq_true rfl, Nat.le_of_ble_eq_true rfl⟩ ⟨(show 58 + c + 1 + 0 ≤ 1090 by omega), (show 18119 + 6 * c + 6 + 0 ≤ 26359 by omega)⟩ dL_law_790 rfl rfl ?_
  refine e_iload S dL_law_793 rfl rfl ?_
  refine e_ieq_t (pc' := 800) S dL_law_795 h4 (by decide) ?_
  refine e_iload S dL_law_800 rfl rfl ?_
  have fin : cV x D 7 (58 + c + 1) (18119 + 6 * c + 6) 817 [some (.ref b), some (.ref (aC 0)), some (.ref (aM 0)), some (.ref ao), some (.int (nI (6 * c))), some (.int r), some (.int b1)] [] (zwd (gM0 D cI aM) mM1 ++ wW (gC0 D cI aC) cL ao mC1 v1) := by
    refine e_goto (pc' := 1560) S dL_law_817 (by decide) ?_
    exact lc_end X (by omega) (by omega) hI1 loop
  by_cases q0 : r = 0
  · refine e_ne_f (tgt := 817) S dL_law_802 q0 (by decide) rfl ?_
    refine e_aload_n (i := 3) S dL_law_805 rfl rfl rfl ?_
    refine e_iconst S dL_law_806 zi_0 rfl ?_
    refine le_lald X dL_law_807 rfl ?_
    refine e_iload S dL_law_808 rfl rfl ?_
    refine e_i2l S dL_law_810 rfl ?_
    refine e_lcmp S (hv q0) dL_law_811 rfl ?_
    refine e_eq_t (pc' := 817) S dL_law_812 rfl (by decide) ?_
    exact fin
  · exact e_ne_t (pc' := 817) S dL_law_802 q0 (by decide) fin
set_option maxHeartbeats 4000000 in
set_option maxRecDepth 100000 in
theorem lc_9 {x : zF} {D : va_G} {cI : ClassId} {aC aM : Nat → Nat} {kk : zKK} {cL : ClassId} {ao b L : Nat} {xs : Nat → Int32} (X : lX x D cI aC aM kk cL ao b L xs) (hL : L ≤ 3072) {c : Nat} (hc : 6 * c + 6 ≤ L) {mC mM : zMem} {v : Int64} (hI : INV mC mM (10000 * c)) (loop : ∀ (mC' mM' : zMem) (v' : Int64), INV mC' mM' (10000 * (c + 1)) → cV x D 7 (58 + (c + 1)) (18119 + 6 * (c + 1)) 23 [some (.ref b), some (.ref (aC 0)), some (.ref (aM 0)), some (.ref ao), some (.int (nI (6 * (c + 1)))), none, none] [] (zwd (gM0 D cI aM) mM' ++ wW (gC0 D cI aC) cL ao mC' v')) : cV x D 7 (58 + c) (18119 + 6 * c) 820 [some (.ref b), some (.ref (aC 0)), some (.ref (aM 0)), some (.ref ao), some (.int (nI (6 * c))), none, none] [] (zwd (gM0 D cI aM) mM ++ wW (gC0 D cI aC) cL ao mC v) := by
  have S := X.1
  obtain ⟨r, mC1, v1, b1, mM1, hW, h6, h4, hv, hI1⟩ := st_lookup (l := x.2.1) (g := gC0 D cI aC) (kk := kk) (cL := cL) (ao := ao) X.2.2.2.2.2.2.2.2.1 (iC0 D cI aC) (xs (6 * c + 1)) (xs (6 * c + 2)) v hI (by omega)
  rw [show 10000 * c + 10000 = 10000 * (c + 1) by omega] at hI1
  refine e_aload_n (i := 1) S dL_law_820 rfl rfl rfl ?_
  refine e_aload_n (i := 0) S dL_law_821 rfl rfl rfl ?_
  refine e_iload S dL_law_822 rfl rfl ?_
  refine e_iconst S dL_law_824 zi_1 rfl ?_
  refine e_iadd S dL_law_825 rfl ?_
  refine e_sld (j := 6 * c + 1) (i := nI (6 * c) + 1) S X.2.2.2.2.2.1 X.2.2.2.2.2.2.1 (by rw [X.2.2.2.2.1]; exact Nat.not_le.mpr X.2.2.2.2.2.2.1) (lw_ix hc hL 1 (by decide)).1 (lw_ix hc hL 1 (by decide)).2 dL_law_826 rfl ?_
  refine e_aload_n (i := 0) S dL_law_827 rfl rfl rfl ?_
  refine e_iload S dL_law_828 rfl rfl ?_
  refine e_iconst S dL_law_830 zi_2 rfl ?_
  refine e_iadd S dL_law_831 rfl ?_
  refine e_sld (j := 6 * c + 2) (i := nI (6 * c) + 2) S X.2.2.2.2.2.1 X.2.2.2.2.2.2.1 (by rw [X.2.2.2.2.1]; exact Nat.not_le.mpr X.2.2.2.2.2.2.1) (lw_ix hc hL 2 (by decide)).1 (lw_ix hc hL 2 (by decide)).2 dL_law_832 rfl ?_
  refine e_aload_n (i := 3) S dL_law_833 rfl rfl rfl ?_
  refine le_wrap (As := [.ref (aC 0), .int (xs (6 * c + 1)), .int (xs (6 * c + 2)), .ref ao]) (st := []) X hW gL_law_L_lookup hdL_lookup rfl rfl (Nat.le_of_ble_eq_true rfl) ⟨Nat.le_of_ble_eq_true rfl, Nat.le_of_ble_eq_true rfl⟩ ⟨by omega, by omega⟩ dL_law_834 rfl rfl ?_
  refine e_istore (lo' := [some (.ref b), some (.ref (aC 0)), some (.ref (aM 0)), some (.ref ao), some (.int (nI (6 * c))), some (.int r), none]) S dL_law_837 (Nat.le_of_ble_eq_true rfl) rfl rfl rfl ?_
  refine e_aload_n (i := 2) S dL_law_839 rfl rfl rfl ?_
  refine e_aload_n (i := 0) S dL_law_840 rfl rfl rfl ?_
  refine e_iload S dL_law_841 rfl rfl ?_
  refine e_iconst S dL_law_843 zi_1 rfl ?_
  refine e_iadd S dL_law_844 rfl ?_
  refine e_sld (j := 6 * c + 1) (i := nI (6 * c) + 1) S X.2.2.2.2.2.1 X.2.2.2.2.2.2.1 (by rw [X.2.2.2.2.1]; exact Nat.not_le.mpr X.2.2.2.2.2.2.1) (lw_ix hc hL 1 (by decide)).1 (lw_ix hc hL 1 (by decide)).2 dL_law_845 rfl ?_
  refine e_aload_n (i := 0) S dL_law_846 rfl rfl rfl ?_
  refine e_iload S dL_law_847 rfl rfl ?_
  refine e_iconst S dL_law_849 zi_2 rfl ?_
  refine e_iadd S dL_law_850 rfl ?_
  refine e_sld (j := 6 * c + 2) (i := nI (6 * c) + 2) S X.2.2.2.2.2.1 X.2.2.2.2.2.2.1 (by rw [X.2.2.2.2.1]; exact Nat.not_le.mpr X.2.2.2.2.2.2.1) (lw_ix hc hL 2 (by decide)).1 (lw_ix hc hL 2 (by decide)).2 dL_law_851 rfl ?_
  refine e_cvi (g := gM0 D cI aM) (As := [.int (xs (6 * c + 1)), .int (xs (6 * c + 2))]) (st := []) (m := mM) (wr := wW (gC0 D cI aC) cL ao mC1 v1) S X.2.2.1 rfl (mn_0 (iM0 D cI aM)) (mc_0 (iM0 D cI aM)) gL_law_X6_lookup hdX6_lookup rfl (qX6_lookup (iM0 D cI aM) NN (xs (6 * c + 1)) (xs (6 * c + 2)) mM _ h6) rfl (Nat.le_of_ble_eq_true rfl) ⟨Nat.le_of_ble_eq_true rfl, Nat.le_of_ble_eq_true rfl⟩ ⟨(show 58 + c + 1 + 0 ≤ 1090 by omega), (show 18119 + 6 * c + 6 + 0 ≤ 26359 by omega)⟩ dL_law_852 rfl rfl ?_
  refine e_istore (lo' := [some (.ref b), some (.ref (aC 0)), some (.ref (aM 0)), some (.ref ao), some (.int (nI (6 * c))), some (.int r), some (.int b1)]) S dL_law_855 (Nat.le_of_ble_eq_true rfl) rfl rfl rfl ?_
  refine e_aload_n (i := 2) S dL_law_857 rfl rfl rfl ?_
  refine e_cvi (g := gM0 D cI aM) (As := []) (st := []) (m := mM1) (wr := wW (gC0 D cI aC) cL ao mC1 v1) S X.2.2.1 rfl (mn_0 (iM0 D cI aM)) (mc_0 (iM0 D cI aM)) gL_law_X6_thrown hdX6_thrown rfl (qX6_thrown (iM0 D cI aM) mM1 _ rfl) rfl (Nat.le_of_ble_eq_true rfl) ⟨Nat.le_of_ble_eq_true rfl, Nat.le_of_ble_eq_true rfl⟩ ⟨(show 58 + c + 1 + 0 ≤ 1090 by omega), (show 18119 + 6 * c + 6 + 0 ≤ 26359 by omega)⟩ dL_law_858 rfl rfl ?_
  refine e_iload S dL_law_861 rfl rfl ?_
  refine e_ieq_t (pc' := 868) S dL_law_863 h4 (by decide) ?_
  refine e_iload S dL_law_868 rfl rfl ?_
  have fin : cV x D 7 (58 + c + 1) (18119 + 6 * c + 6) 885 [some (.ref b), some (.ref (aC 0)), some (.ref (aM 0)), some (.ref ao), some (.int (nI (6 * c))), some (.int r), some (.int b1)] [] (zwd (gM0 D cI aM) mM1 ++ wW (gC0 D cI aC) cL ao mC1 v1) := by
    refine e_goto (pc' := 1560) S dL_law_885 (by decide) ?_
    exact lc_end X (by omega) (by omega) hI1 loop
  by_cases q0 : r = 0
  · refine e_ne_f (tgt := 885) S dL_law_870 q0 (by decide) rfl ?_
    refine e_aload_n (i := 3) S dL_law_873 rfl rfl rfl ?_
    refine e_iconst S dL_law_874 zi_0 rfl ?_
    refine le_lald X dL_law_875 rfl ?_
    refine e_iload S dL_law_876 rfl rfl ?_
    refine e_i2l S dL_law_878 rfl ?_
    refine e_lcmp S (hv q0) dL_law_879 rfl ?_
    refine e_eq_t (pc' := 885) S dL_law_880 rfl (by decide) ?_
    exact fin
  · exact e_ne_t (pc' := 885) S dL_law_870 q0 (by decide) fin
set_option maxHeartbeats 4000000 in
set_option maxRecDepth 100000 in
theorem lc_10 {x : zF} {D : va_G} {cI : ClassId} {aC aM : Nat → Nat} {kk : zKK} {cL : ClassId} {ao b L : Nat} {xs : Nat → Int32} (X : lX x D cI aC aM kk cL ao b L xs) (hL : L ≤ 3072) {c : Nat} (hc : 6 * c + 6 ≤ L) {mC mM : zMem} {v : Int64} (hI : INV mC mM (10000 * c)) (loop : ∀ (mC' mM' : zMem) (v' : Int64), INV mC' mM' (10000 * (c + 1)) → cV x D 7 (58 + (c + 1)) (18119 + 6 * (c + 1)) 23 [some (.ref b), some (.ref (aC 0)), some (.ref (aM 0)), some (.ref ao), some (.int (nI (6 * (c + 1)))), none, none] [] (zwd (gM0 D cI aM) mM' ++ wW (gC0 D cI aC) cL ao mC' v')) : cV x D 7 (58 + c) (18119 + 6 * c) 888 [some (.ref b), some (.ref (aC 0)), some (.ref (aM 0)), some (.ref ao), some (.int (nI (6 * c))), none, none] [] (zwd (gM0 D cI aM) mM ++ wW (gC0 D cI aC) cL ao mC v) := by
  have S := X.1
  obtain ⟨r, mC1, v1, b1, mM1, hW, h6, h4, hv, hI1⟩ := st_probe (l := x.2.1) (g := gC0 D cI aC) (kk := kk) (cL := cL) (ao := ao) X.2.2.2.2.2.2.2.2.1 (iC0 D cI aC) (xs (6 * c + 1)) (xs (6 * c + 2)) (xs (6 * c + 3)) v hI (by omega)
  rw [show 10000 * c + 10000 = 10000 * (c + 1) by omega] at hI1
  refine e_aload_n (i := 1) S dL_law_888 rfl rfl rfl ?_
  refine e_aload_n (i := 0) S dL_law_889 rfl rfl rfl ?_
  refine e_iload S dL_law_890 rfl rfl ?_
  refine e_iconst S dL_law_892 zi_1 rfl ?_
  refine e_iadd S dL_law_893 rfl ?_
  refine e_sld (j := 6 * c + 1) (i := nI (6 * c) + 1) S X.2.2.2.2.2.1 X.2.2.2.2.2.2.1 (by rw [X.2.2.2.2.1]; exact Nat.not_le.mpr X.2.2.2.2.2.2.1) (lw_ix hc hL 1 (by decide)).1 (lw_ix hc hL 1 (by decide)).2 dL_law_894 rfl ?_
  refine e_aload_n (i := 0) S dL_law_895 rfl rfl rfl ?_
  refine e_iload S dL_law_896 rfl rfl ?_
  refine e_iconst S dL_law_898 zi_2 rfl ?_
  refine e_iadd S dL_law_899 rfl ?_
  refine e_sld (j := 6 * c + 2) (i := nI (6 * c) + 2) S X.2.2.2.2.2.1 X.2.2.2.2.2.2.1 (by rw [X.2.2.2.2.1]; exact Nat.not_le.mpr X.2.2.2.2.2.2.1) (lw_ix hc hL 2 (by decide)).1 (lw_ix hc hL 2 (by decide)).2 dL_law_900 rfl ?_
  refine e_aload_n (i := 0) S dL_law_901 rfl rfl rfl ?_
  refine e_iload S dL_law_902 rfl rfl ?_
  refine e_iconst S dL_law_904 zi_3 rfl ?_
  refine e_iadd S dL_law_905 rfl ?_
  refine e_sld (j := 6 * c + 3) (i := nI (6 * c) + 3) S X.2.2.2.2.2.1 X.2.2.2.2.2.2.1 (by rw [X.2.2.2.2.1]; exact Nat.not_le.mpr X.2.2.2.2.2.2.1) (lw_ix hc hL 3 (by decide)).1 (lw_ix hc hL 3 (by decide)).2 dL_law_906 rfl ?_
  refine e_aload_n (i := 3) S dL_law_907 rfl rfl rfl ?_
  refine le_wrap (As := [.ref (aC 0), .int (xs (6 * c + 1)), .int (xs (6 * c + 2)), .int (xs (6 * c + 3)), .ref ao]) (st := []) X hW gL_law_L_probe hdL_probe rfl rfl (Nat.le_of_ble_eq_true rfl) ⟨Nat.le_of_ble_eq_true rfl, Nat.le_of_ble_eq_true rfl⟩ ⟨by omega, by omega⟩ dL_law_908 rfl rfl ?_
  refine e_istore (lo' := [some (.ref b), some (.ref (aC 0)), some (.ref (aM 0)), some (.ref ao), some (.int (nI (6 * c))), some (.int r), none]) S dL_law_911 (Nat.le_of_ble_eq_true rfl) rfl rfl rfl ?_
  refine e_aload_n (i := 2) S dL_law_913 rfl rfl rfl ?_
  refine e_aload_n (i := 0) S dL_law_914 rfl rfl rfl ?_
  refine e_iload S dL_law_915 rfl rfl ?_
  refine e_iconst S dL_law_917 zi_1 rfl ?_
  refine e_iadd S dL_law_918 rfl ?_
  refine e_sld (j := 6 * c + 1) (i := nI (6 * c) + 1) S X.2.2.2.2.2.1 X.2.2.2.2.2.2.1 (by rw [X.2.2.2.2.1]; exact Nat.not_le.mpr X.2.2.2.2.2.2.1) (lw_ix hc hL 1 (by decide)).1 (lw_ix hc hL 1 (by decide)).2 dL_law_919 rfl ?_
  refine e_aload_n (i := 0) S dL_law_920 rfl rfl rfl ?_
  refine e_iload S dL_law_921 rfl rfl ?_
  refine e_iconst S dL_law_923 zi_2 rfl ?_
  refine e_iadd S dL_law_924 rfl ?_
  refine e_sld (j := 6 * c + 2) (i := nI (6 * c) + 2) S X.2.2.2.2.2.1 X.2.2.2.2.2.2.1 (by rw [X.2.2.2.2.1]; exact Nat.not_le.mpr X.2.2.2.2.2.2.1) (lw_ix hc hL 2 (by decide)).1 (lw_ix hc hL 2 (by decide)).2 dL_law_925 rfl ?_
  refine e_aload_n (i := 0) S dL_law_926 rfl rfl rfl ?_
  refine e_iload S dL_law_927 rfl rfl ?_
  refine e_iconst S dL_law_929 zi_3 rfl ?_
  refine e_iadd S dL_law_930 rfl ?_
  refine e_sld (j := 6 * c + 3) (i := nI (6 * c) + 3) S X.2.2.2.2.2.1 X.2.2.2.2.2.2.1 (by rw [X.2.2.2.2.1]; exact Nat.not_le.mpr X.2.2.2.2.2.2.1) (lw_ix hc hL 3 (by decide)).1 (lw_ix hc hL 3 (by decide)).2 dL_law_931 rfl ?_
  refine e_cvi (g := gM0 D cI aM) (As := [.int (xs (6 * c + 1)), .int (xs (6 * c + 2)), .int (xs (6 * c + 3))]) (st := []) (m := mM) (wr := wW (gC0 D cI aC) cL ao mC1 v1) S X.2.2.1 rfl (mn_0 (iM0 D cI aM)) (mc_0 (iM0 D cI aM)) gL_law_X6_probe hdX6_probe rfl (qX6_probe (iM0 D cI aM) NN (xs (6 * c + 1)) (xs (6 * c + 2)) (xs (6 * c + 3)) mM _ h6) rfl (Nat.le_of_ble_eq_true rfl) ⟨Nat.le_of_ble_eq_true rfl, Nat.le_of_ble_eq_true rfl⟩ ⟨(show 58 + c + 1 + 0 ≤ 1090 by omega), (show 18119 + 6 * c + 6 + 0 ≤ 26359 by omega)⟩ dL_law_932 rfl rfl ?_
  refine e_istore (lo' := [some (.ref b), some (.ref (aC 0)), some (.ref (aM 0)), some (.ref ao), some (.int (nI (6 * c))), some (.int r), some (.int b1)]) S dL_law_935 (Nat.le_of_ble_eq_true rfl) rfl rfl rfl ?_
  refine e_aload_n (i := 2) S dL_law_937 rfl rfl rfl ?_
  refine e_cvi (g := gM0 D cI aM) (As := []) (st := []) (m := mM1) (wr := wW (gC0 D cI aC) cL ao mC1 v1) S X.2.2.1 rfl (mn_0 (iM0 D cI aM)) (mc_0 (iM0 D cI aM)) gL_law_X6_thrown hdX6_thrown rfl (qX6_thrown (iM0 D cI aM) mM1 _ rfl) rfl (Nat.le_of_ble_eq_true rfl) ⟨Nat.le_of_ble_eq_true rfl, Nat.le_of_ble_eq_true rfl⟩ ⟨(show 58 + c + 1 + 0 ≤ 1090 by omega), (show 18119 + 6 * c + 6 + 0 ≤ 26359 by omega)⟩ dL_law_938 rfl rfl ?_
  refine e_iload S dL_law_941 rfl rfl ?_
  refine e_ieq_t (pc' := 948) S dL_law_943 h4 (by decide) ?_
  refine e_iload S dL_law_948 rfl rfl ?_
  have fin : cV x D 7 (58 + c + 1) (18119 + 6 * c + 6) 965 [some (.ref b), some (.ref (aC 0)), some (.ref (aM 0)), some (.ref ao), some (.int (nI (6 * c))), some (.int r), some (.int b1)] [] (zwd (gM0 D cI aM) mM1 ++ wW (gC0 D cI aC) cL ao mC1 v1) := by
    refine e_goto (pc' := 1560) S dL_law_965 (by decide) ?_
    exact lc_end X (by omega) (by omega) hI1 loop
  by_cases q0 : r = 0
  · refine e_ne_f (tgt := 965) S dL_law_950 q0 (by decide) rfl ?_
    refine e_aload_n (i := 3) S dL_law_953 rfl rfl rfl ?_
    refine e_iconst S dL_law_954 zi_0 rfl ?_
    refine le_lald X dL_law_955 rfl ?_
    refine e_iload S dL_law_956 rfl rfl ?_
    refine e_i2l S dL_law_958 rfl ?_
    refine e_lcmp S (hv q0) dL_law_959 rfl ?_
    refine e_eq_t (pc' := 965) S dL_law_960 rfl (by decide) ?_
    exact fin
  · exact e_ne_t (pc' := 965) S dL_law_950 q0 (by decide) fin
set_option maxHeartbeats 4000000 in
set_option maxRecDepth 100000 in
theorem lc_11 {x : zF} {D : va_G} {cI : ClassId} {aC aM : Nat → Nat} {kk : zKK} {cL : ClassId} {ao b L : Nat} {xs : Nat → Int32} (X : lX x D cI aC aM kk cL ao b L xs) (hL : L ≤ 3072) {c : Nat} (hc : 6 * c + 6 ≤ L) {mC mM : zMem} {v : Int64} (hI : INV mC mM (10000 * c)) (loop : ∀ (mC' mM' : zMem) (v' : Int64), INV mC' mM' (10000 * (c + 1)) → cV x D 7 (58 + (c + 1)) (18119 + 6 * (c + 1)) 23 [some (.ref b), some (.ref (aC 0)), some (.ref (aM 0)), some (.ref ao), some (.int (nI (6 * (c + 1)))), none, none] [] (zwd (gM0 D cI aM) mM' ++ wW (gC0 D cI aC) cL ao mC' v')) : cV x D 7 (58 + c) (18119 + 6 * c) 968 [some (.ref b), some (.ref (aC 0)), some (.ref (aM 0)), some (.ref ao), some (.int (nI (6 * c))), none, none] [] (zwd (gM0 D cI aM) mM ++ wW (gC0 D cI aC) cL ao mC v) := by
  have S := X.1
  obtain ⟨r, mC1, v1, b1, mM1, hW, h6, h4, hv, hI1⟩ := st_reach (l := x.2.1) (g := gC0 D cI aC) (kk := kk) (cL := cL) (ao := ao) X.2.2.2.2.2.2.2.2.1 (iC0 D cI aC) (xs (6 * c + 1)) v hI (by omega)
  rw [show 10000 * c + 10000 = 10000 * (c + 1) by omega] at hI1
  refine e_aload_n (i := 1) S dL_law_968 rfl rfl rfl ?_
  refine e_aload_n (i := 0) S dL_law_969 rfl rfl rfl ?_
  refine e_iload S dL_law_970 rfl rfl ?_
  refine e_iconst S dL_law_972 zi_1 rfl ?_
  refine e_iadd S dL_law_973 rfl ?_
  refine e_sld (j := 6 * c + 1) (i := nI (6 * c) + 1) S X.2.2.2.2.2.1 X.2.2.2.2.2.2.1 (by rw [X.2.2.2.2.1]; exact Nat.not_le.mpr X.2.2.2.2.2.2.1) (lw_ix hc hL 1 (by decide)).1 (lw_ix hc hL 1 (by decide)).2 dL_law_974 rfl ?_
  refine e_aload_n (i := 3) S dL_law_975 rfl rfl rfl ?_
  refine le_wrap (As := [.ref (aC 0), .int (xs (6 * c + 1)), .ref ao]) (st := []) X hW gL_law_L_reach hdL_reach rfl rfl (Nat.le_of_ble_eq_true rfl) ⟨Nat.le_of_ble_eq_true rfl, Nat.le_of_ble_eq_true rfl⟩ ⟨by omega, by omega⟩ dL_law_976 rfl rfl ?_
  refine e_istore (lo' := [some (.ref b), some (.ref (aC 0)), some (.ref (aM 0)), some (.ref ao), some (.int (nI (6 * c))), some (.int r), none]) S dL_law_979 (Nat.le_of_ble_eq_true rfl) rfl rfl rfl ?_
  refine e_aload_n (i := 2) S dL_law_981 rfl rfl rfl ?_
  refine e_aload_n (i := 0) S dL_law_982 rfl rfl rfl ?_
  refine e_iload S dL_law_983 rfl rfl ?_
  refine e_iconst S dL_law_985 zi_1 rfl ?_
  refine e_iadd S dL_law_986 rfl ?_
  refine e_sld (j := 6 * c + 1) (i := nI (6 * c) + 1) S X.2.2.2.2.2.1 X.2.2.2.2.2.2.1 (by rw [X.2.2.2.2.1]; exact Nat.not_le.mpr X.2.2.2.2.2.2.1) (lw_ix hc hL 1 (by decide)).1 (lw_ix hc hL 1 (by decide)).2 dL_law_987 rfl ?_
  refine e_cvi (g := gM0 D cI aM) (As := [.int (xs (6 * c + 1))]) (st := []) (m := mM) (wr := wW (gC0 D cI aC) cL ao mC1 v1) S X.2.2.1 rfl (mn_0 (iM0 D cI aM)) (mc_0 (iM0 D cI aM)) gL_law_X6_reach hdX6_reach rfl (qX6_reach (iM0 D cI aM) NN (xs (6 * c + 1)) mM _ h6) rfl (Nat.le_of_ble_eq_true rfl) ⟨Nat.le_of_ble_eq_true rfl, Nat.le_of_ble_eq_true rfl⟩ ⟨(show 58 + c + 1 + 0 ≤ 1090 by omega), (show 18119 + 6 * c + 6 + 0 ≤ 26359 by omega)⟩ dL_law_988 rfl rfl ?_
  refine e_istore (lo' := [some (.ref b), some (.ref (aC 0)), some (.ref (aM 0)), some (.ref ao), some (.int (nI (6 * c))), some (.int r), some (.int b1)]) S dL_law_991 (Nat.le_of_ble_eq_true rfl) rfl rfl rfl ?_
  refine e_aload_n (i := 2) S dL_law_993 rfl rfl rfl ?_
  refine e_cvi (g := gM0 D cI aM) (As := []) (st := []) (m := mM1) (wr := wW (gC0 D cI aC) cL ao mC1 v1) S X.2.2.1 rfl (mn_0 (iM0 D cI aM)) (mc_0 (iM0 D cI aM)) gL_law_X6_thrown hdX6_thrown rfl (qX6_thrown (iM0 D cI aM) mM1 _ rfl) rfl (Nat.le_of_ble_eq_true rfl) ⟨Nat.le_of_ble_eq_true rfl, Nat.le_of_ble_eq_true rfl⟩ ⟨(show 58 + c + 1 + 0 ≤ 1090 by omega), (show 18119 + 6 * c + 6 + 0 ≤ 26359 by omega)⟩ dL_law_994 rfl rfl ?_
  refine e_iload S dL_law_997 rfl rfl ?_
  refine e_ieq_t (pc' := 1004) S dL_law_999 h4 (by decide) ?_
  refine e_iload S dL_law_1004 rfl rfl ?_
  have fin : cV x D 7 (58 + c + 1) (18119 + 6 * c + 6) 1021 [some (.ref b), some (.ref (aC 0)), some (.ref (aM 0)), some (.ref ao), some (.int (nI (6 * c))), some (.int r), some (.int b1)] [] (zwd (gM0 D cI aM) mM1 ++ wW (gC0 D cI aC) cL ao mC1 v1) := by
    refine e_goto (pc' := 1560) S dL_law_1021 (by decide) ?_
    exact lc_end X (by omega) (by omega) hI1 loop
  by_cases q0 : r = 0
  · refine e_ne_f (tgt := 1021) S dL_law_1006 q0 (by decide) rfl ?_
    refine e_aload_n (i := 3) S dL_law_1009 rfl rfl rfl ?_
    refine e_iconst S dL_law_1010 zi_0 rfl ?_
    refine le_lald X dL_law_1011 rfl ?_
    refine e_iload S dL_law_1012 rfl rfl ?_
    refine e_i2l S dL_law_1014 rfl ?_
    refine e_lcmp S (hv q0) dL_law_1015 rfl ?_
    refine e_eq_t (pc' := 1021) S dL_law_1016 rfl (by decide) ?_
    exact fin
  · exact e_ne_t (pc' := 1021) S dL_law_1006 q0 (by decide) fin
set_option maxHeartbeats 4000000 in
set_option maxRecDepth 100000 in
theorem lc_12 {x : zF} {D : va_G} {cI : ClassId} {aC aM : Nat → Nat} {kk : zKK} {cL : ClassId} {ao b L : Nat} {xs : Nat → Int32} (X : lX x D cI aC aM kk cL ao b L xs) (hL : L ≤ 3072) {c : Nat} (hc : 6 * c + 6 ≤ L) {mC mM : zMem} {v : Int64} (hI : INV mC mM (10000 * c)) (loop : ∀ (mC' mM' : zMem) (v' : Int64), INV mC' mM' (10000 * (c + 1)) → cV x D 7 (58 + (c + 1)) (18119 + 6 * (c + 1)) 23 [some (.ref b), some (.ref (aC 0)), some (.ref (aM 0)), some (.ref ao), some (.int (nI (6 * (c + 1)))), none, none] [] (zwd (gM0 D cI aM) mM' ++ wW (gC0 D cI aC) cL ao mC' v')) : cV x D 7 (58 + c) (18119 + 6 * c) 1024 [some (.ref b), some (.ref (aC 0)), some (.ref (aM 0)), some (.ref ao), some (.int (nI (6 * c))), none, none] [] (zwd (gM0 D cI aM) mM ++ wW (gC0 D cI aC) cL ao mC v) := by
  have S := X.1
  obtain ⟨r, mC1, v1, b1, mM1, hW, h6, h4, hv, hI1⟩ := st_member (l := x.2.1) (g := gC0 D cI aC) (kk := kk) (cL := cL) (ao := ao) X.2.2.2.2.2.2.2.2.1 (iC0 D cI aC) (xs (6 * c + 1)) (xs (6 * c + 2)) v hI (by omega)
  rw [show 10000 * c + 10000 = 10000 * (c + 1) by omega] at hI1
  refine e_aload_n (i := 1) S dL_law_1024 rfl rfl rfl ?_
  refine e_aload_n (i := 0) S dL_law_1025 rfl rfl rfl ?_
  refine e_iload S dL_law_1026 rfl rfl ?_
  refine e_iconst S dL_law_1028 zi_1 rfl ?_
  refine e_iadd S dL_law_1029 rfl ?_
  refine e_sld (j := 6 * c + 1) (i := nI (6 * c) + 1) S X.2.2.2.2.2.1 X.2.2.2.2.2.2.1 (by rw [X.2.2.2.2.1]; exact Nat.not_le.mpr X.2.2.2.2.2.2.1) (lw_ix hc hL 1 (by decide)).1 (lw_ix hc hL 1 (by decide)).2 dL_law_1030 rfl ?_
  refine e_aload_n (i := 0) S dL_law_1031 rfl rfl rfl ?_
  refine e_iload S dL_law_1032 rfl rfl ?_
  refine e_iconst S dL_law_1034 zi_2 rfl ?_
  refine e_iadd S dL_law_1035 rfl ?_
  refine e_sld (j := 6 * c + 2) (i := nI (6 * c) + 2) S X.2.2.2.2.2.1 X.2.2.2.2.2.2.1 (by rw [X.2.2.2.2.1]; exact Nat.not_le.mpr X.2.2.2.2.2.2.1) (lw_ix hc hL 2 (by decide)).1 (lw_ix hc hL 2 (by decide)).2 dL_law_1036 rfl ?_
  refine e_aload_n (i := 3) S dL_law_1037 rfl rfl rfl ?_
  refine le_wrap (As := [.ref (aC 0), .int (xs (6 * c + 1)), .int (xs (6 * c + 2)), .ref ao]) (st := []) X hW gL_law_L_member hdL_member rfl rfl (Nat.le_of_ble_eq_true rfl) ⟨Nat.le_of_ble_eq_true rfl, Nat.le_of_ble_eq_true rfl⟩ ⟨by omega, by omega⟩ dL_law_1038 rfl rfl ?_
  refine e_istore (lo' := [some (.ref b), some (.ref (aC 0)), some (.ref (aM 0)), some (.ref ao), some (.int (nI (6 * c))), some (.int r), none]) S dL_law_1041 (Nat.le_of_ble_eq_true rfl) rfl rfl rfl ?_
  refine e_aload_n (i := 2) S dL_law_1043 rfl rfl rfl ?_
  refine e_aload_n (i := 0) S dL_law_1044 rfl rfl rfl ?_
  refine e_iload S dL_law_1045 rfl rfl ?_
  refine e_iconst S dL_law_1047 zi_1 rfl ?_
  refine e_iadd S dL_law_1048 rfl ?_
  refine e_sld (j := 6 * c + 1) (i := nI (6 * c) + 1) S X.2.2.2.2.2.1 X.2.2.2.2.2.2.1 (by rw [X.2.2.2.2.1]; exact Nat.not_le.mpr X.2.2.2.2.2.2.1) (lw_ix hc hL 1 (by decide)).1 (lw_ix hc hL 1 (by decide)).2 dL_law_1049 rfl ?_
  refine e_aload_n (i := 0) S dL_law_1050 rfl rfl rfl ?_
  refine e_iload S dL_law_1051 rfl rfl ?_
  refine e_iconst S dL_law_1053 zi_2 rfl ?_
  refine e_iadd S dL_law_1054 rfl ?_
  refine e_sld (j := 6 * c + 2) (i := nI (6 * c) + 2) S X.2.2.2.2.2.1 X.2.2.2.2.2.2.1 (by rw [X.2.2.2.2.1]; exact Nat.not_le.mpr X.2.2.2.2.2.2.1) (lw_ix hc hL 2 (by decide)).1 (lw_ix hc hL 2 (by decide)).2 dL_law_1055 rfl ?_
  refine e_cvi (g := gM0 D cI aM) (As := [.int (xs (6 * c + 1)), .int (xs (6 * c + 2))]) (st := []) (m := mM) (wr := wW (gC0 D cI aC) cL ao mC1 v1) S X.2.2.1 rfl (mn_0 (iM0 D cI aM)) (mc_0 (iM0 D cI aM)) gL_law_X6_member hdX6_member rfl (qX6_member (iM0 D cI aM) NN (xs (6 * c + 1)) (xs (6 * c + 2)) mM _ h6) rfl (Nat.le_of_ble_eq_true rfl) ⟨Nat.le_of_ble_eq_true rfl, Nat.le_of_ble_eq_true rfl⟩ ⟨(show 58 + c + 1 + 0 ≤ 1090 by omega), (show 18119 + 6 * c + 6 + 0 ≤ 26359 by omega)⟩ dL_law_1056 rfl rfl ?_
  refine e_istore (lo' := [some (.ref b), some (.ref (aC 0)), some (.ref (aM 0)), some (.ref ao), some (.int (nI (6 * c))), some (.int r), some (.int b1)]) S dL_law_1059 (Nat.le_of_ble_eq_true rfl) rfl rfl rfl ?_
  refine e_aload_n (i := 2) S dL_law_1061 rfl rfl rfl ?_
  refine e_cvi (g := gM0 D cI aM) (As := []) (st := []) (m := mM1) (wr := wW (gC0 D cI aC) cL ao mC1 v1) S X.2.2.1 rfl (mn_0 (iM0 D cI aM)) (mc_0 (iM0 D cI aM)) gL_law_X6_thrown hdX6_thrown rfl (qX6_thrown (iM0 D cI aM) mM1 _ rfl) rfl (Nat.le_of_ble_eq_true rfl) ⟨Nat.le_of_ble_eq_true rfl, Nat.le_of_ble_eq_true rfl⟩ ⟨(show 58 + c + 1 + 0 ≤ 1090 by omega), (show 18119 + 6 * c + 6 + 0 ≤ 26359 by omega)⟩ dL_law_1062 rfl rfl ?_
  refine e_iload S dL_law_1065 rfl rfl ?_
  refine e_ieq_t (pc' := 1072) S dL_law_1067 h4 (by decide) ?_
  refine e_iload S dL_law_1072 rfl rfl ?_
  have fin : cV x D 7 (58 + c + 1) (18119 + 6 * c + 6) 1089 [some (.ref b), some (.ref (aC 0)), some (.ref (aM 0)), some (.ref ao), some (.int (nI (6 * c))), some (.int r), some (.int b1)] [] (zwd (gM0 D cI aM) mM1 ++ wW (gC0 D cI aC) cL ao mC1 v1) := by
    refine e_goto (pc' := 1560) S dL_law_1089 (by decide) ?_
    exact lc_end X (by omega) (by omega) hI1 loop
  by_cases q0 : r = 0
  · refine e_ne_f (tgt := 1089) S dL_law_1074 q0 (by decide) rfl ?_
    refine e_aload_n (i := 3) S dL_law_1077 rfl rfl rfl ?_
    refine e_iconst S dL_law_1078 zi_0 rfl ?_
    refine le_lald X dL_law_1079 rfl ?_
    refine e_iload S dL_law_1080 rfl rfl ?_
    refine e_i2l S dL_law_1082 rfl ?_
    refine e_lcmp S (hv q0) dL_law_1083 rfl ?_
    refine e_eq_t (pc' := 1089) S dL_law_1084 rfl (by decide) ?_
    exact fin
  · exact e_ne_t (pc' := 1089) S dL_law_1074 q0 (by decide) fin
set_option maxHeartbeats 4000000 in
set_option maxRecDepth 100000 in
theorem lc_13 {x : zF} {D : va_G} {cI : ClassId} {aC aM : Nat → Nat} {kk : zKK} {cL : ClassId} {ao b L : Nat} {xs : Nat → Int32} (X : lX x D cI aC aM kk cL ao b L xs) (hL : L ≤ 3072) {c : Nat} (hc : 6 * c + 6 ≤ L) {mC mM : zMem} {v : Int64} (hI : INV mC mM (10000 * c)) (loop : ∀ (mC' mM' : zMem) (v' : Int64), INV mC' mM' (10000 * (c + 1)) → cV x D 7 (58 + (c + 1)) (18119 + 6 * (c + 1)) 23 [some (.ref b), some (.ref (aC 0)), some (.ref (aM 0)), some (.ref ao), some (.int (nI (6 * (c + 1)))), none, none] [] (zwd (gM0 D cI aM) mM' ++ wW (gC0 D cI aC) cL ao mC' v')) : cV x D 7 (58 + c) (18119 + 6 * c) 1092 [some (.ref b), some (.ref (aC 0)), some (.ref (aM 0)), some (.ref ao), some (.int (nI (6 * c))), none, none] [] (zwd (gM0 D cI aM) mM ++ wW (gC0 D cI aC) cL ao mC v) := by
  have S := X.1
  obtain ⟨r, mC1, v1, b1, mM1, hW, h6, h4, hv, hI1⟩ := st_memberAt (l := x.2.1) (g := gC0 D cI aC) (kk := kk) (cL := cL) (ao := ao) X.2.2.2.2.2.2.2.2.1 (iC0 D cI aC) (xs (6 * c + 1)) v hI (by omega)
  rw [show 10000 * c + 10000 = 10000 * (c + 1) by omega] at hI1
  refine e_aload_n (i := 1) S dL_law_1092 rfl rfl rfl ?_
  refine e_aload_n (i := 0) S dL_law_1093 rfl rfl rfl ?_
  refine e_iload S dL_law_1094 rfl rfl ?_
  refine e_iconst S dL_law_1096 zi_1 rfl ?_
  refine e_iadd S dL_law_1097 rfl ?_
  refine e_sld (j := 6 * c + 1) (i := nI (6 * c) + 1) S X.2.2.2.2.2.1 X.2.2.2.2.2.2.1 (by rw [X.2.2.2.2.1]; exact Nat.not_le.mpr X.2.2.2.2.2.2.1) (lw_ix hc hL 1 (by decide)).1 (lw_ix hc hL 1 (by decide)).2 dL_law_1098 rfl ?_
  refine e_aload_n (i := 3) S dL_law_1099 rfl rfl rfl ?_
  refine le_wrap (As := [.ref (aC 0), .int (xs (6 * c + 1)), .ref ao]) (st := []) X hW gL_law_L_memberAt hdL_memberAt rfl rfl (Nat.le_of_ble_eq_true rfl) ⟨Nat.le_of_ble_eq_true rfl, Nat.le_of_ble_eq_true rfl⟩ ⟨by omega, by omega⟩ dL_law_1100 rfl rfl ?_
  refine e_istore (lo' := [some (.ref b), some (.ref (aC 0)), some (.ref (aM 0)), some (.ref ao), some (.int (nI (6 * c))), some (.int r), none]) S dL_law_1103 (Nat.le_of_ble_eq_true rfl) rfl rfl rfl ?_
  refine e_aload_n (i := 2) S dL_law_1105 rfl rfl rfl ?_
  refine e_aload_n (i := 0) S dL_law_1106 rfl rfl rfl ?_
  refine e_iload S dL_law_1107 rfl rfl ?_
  refine e_iconst S dL_law_1109 zi_1 rfl ?_
  refine e_iadd S dL_law_1110 rfl ?_
  refine e_sld (j := 6 * c + 1) (i := nI (6 * c) + 1) S X.2.2.2.2.2.1 X.2.2.2.2.2.2.1 (by rw [X.2.2.2.2.1]; exact Nat.not_le.mpr X.2.2.2.2.2.2.1) (lw_ix hc hL 1 (by decide)).1 (lw_ix hc hL 1 (by decide)).2 dL_law_1111 rfl ?_
  refine e_cvi (g := gM0 D cI aM) (As := [.int (xs (6 * c + 1))]) (st := []) (m := mM) (wr := wW (gC0 D cI aC) cL ao mC1 v1) S X.2.2.1 rfl (mn_0 (iM0 D cI aM)) (mc_0 (iM0 D cI aM)) gL_law_X6_memberAt hdX6_memberAt rfl (qX6_memberAt (iM0 D cI aM) NN (xs (6 * c + 1)) mM _ h6) rfl (Nat.le_of_ble_eq_true rfl) ⟨Nat.le_of_ble_eq_true rfl, Nat.le_of_ble_eq_true rfl⟩ ⟨(show 58 + c + 1 + 0 ≤ 1090 by omega), (show 18119 + 6 * c + 6 + 0 ≤ 26359 by omega)⟩ dL_law_1112 rfl rfl ?_
  refine e_istore (lo' := [some (.ref b), some (.ref (aC 0)), some (.ref (aM 0)), some (.ref ao), some (.int (nI (6 * c))), some (.int r), some (.int b1)]) S dL_law_1115 (Nat.le_of_ble_eq_true rfl) rfl rfl rfl ?_
  refine e_aload_n (i := 2) S dL_law_1117 rfl rfl rfl ?_
  refine e_cvi (g := gM0 D cI aM) (As := []) (st := []) (m := mM1) (wr := wW (gC0 D cI aC) cL ao mC1 v1) S X.2.2.1 rfl (mn_0 (iM0 D cI aM)) (mc_0 (iM0 D cI aM)) gL_law_X6_thrown hdX6_thrown rfl (qX6_thrown (iM0 D cI aM) mM1 _ rfl) rfl (Nat.le_of_ble_eq_true rfl) ⟨Nat.le_of_ble_eq_true rfl, Nat.le_of_ble_eq_true rfl⟩ ⟨(show 58 + c + 1 + 0 ≤ 1090 by omega), (show 18119 + 6 * c + 6 + 0 ≤ 26359 by omega)⟩ dL_law_1118 rfl rfl ?_
  refine e_iload S dL_law_1121 rfl rfl ?_
  refine e_ieq_t (pc' := 1128) S dL_law_1123 h4 (by decide) ?_
  refine e_iload S dL_law_1128 rfl rfl ?_
  have fin : cV x D 7 (58 + c + 1) (18119 + 6 * c + 6) 1145 [some (.ref b), some (.ref (aC 0)), some (.ref (aM 0)), some (.ref ao), some (.int (nI (6 * c))), some (.int r), some (.int b1)] [] (zwd (gM0 D cI aM) mM1 ++ wW (gC0 D cI aC) cL ao mC1 v1) := by
    refine e_goto (pc' := 1560) S dL_law_1145 (by decide) ?_
    exact lc_end X (by omega) (by omega) hI1 loop
  by_cases q0 : r = 0
  · refine e_ne_f (tgt := 1145) S dL_law_1130 q0 (by decide) rfl ?_
    refine e_aload_n (i := 3) S dL_law_1133 rfl rfl rfl ?_
    refine e_iconst S dL_law_1134 zi_0 rfl ?_
    refine le_lald X dL_law_1135 rfl ?_
    refine e_iload S dL_law_1136 rfl rfl ?_
    refine e_i2l S dL_law_1138 rfl ?_
    refine e_lcmp S (hv q0) dL_law_1139 rfl ?_
    refine e_eq_t (pc' := 1145) S dL_law_1140 rfl (by decide) ?_
    exact fin
  · exact e_ne_t (pc' := 1145) S dL_law_1130 q0 (by decide) fin
set_option maxHeartbeats 4000000 in
set_option maxRecDepth 100000 in
theorem lc_14 {x : zF} {D : va_G} {cI : ClassId} {aC aM : Nat → Nat} {kk : zKK} {cL : ClassId} {ao b L : Nat} {xs : Nat → Int32} (X : lX x D cI aC aM kk cL ao b L xs) (hL : L ≤ 3072) {c : Nat} (hc : 6 * c + 6 ≤ L) {mC mM : zMem} {v : Int64} (hI : INV mC mM (10000 * c)) (loop : ∀ (mC' mM' : zMem) (v' : Int64), INV mC' mM' (10000 * (c + 1)) → cV x D 7 (58 + (c + 1)) (18119 + 6 * (c + 1)) 23 [some (.ref b), some (.ref (aC 0)), some (.ref (aM 0)), some (.ref ao), some (.int (nI (6 * (c + 1)))), none, none] [] (zwd (gM0 D cI aM) mM' ++ wW (gC0 D cI aC) cL ao mC' v')) : cV x D 7 (58 + c) (18119 + 6 * c) 1148 [some (.ref b), some (.ref (aC 0)), some (.ref (aM 0)), some (.ref ao), some (.int (nI (6 * c))), none, none] [] (zwd (gM0 D cI aM) mM ++ wW (gC0 D cI aC) cL ao mC v) := by
  have S := X.1
  obtain ⟨r, mC1, v1, b1, mM1, hW, h6, h4, hv, hI1⟩ := st_entry (l := x.2.1) (g := gC0 D cI aC) (kk := kk) (cL := cL) (ao := ao) X.2.2.2.2.2.2.2.2.1 (iC0 D cI aC) (xs (6 * c + 1)) (xs (6 * c + 2)) (xs (6 * c + 3)) (xs (6 * c + 4)) v hI (by omega)
  rw [show 10000 * c + 10000 = 10000 * (c + 1) by omega] at hI1
  refine e_aload_n (i := 1) S dL_law_1148 rfl rfl rfl ?_
  refine e_aload_n (i := 0) S dL_law_1149 rfl rfl rfl ?_
  refine e_iload S dL_law_1150 rfl rfl ?_
  refine e_iconst S dL_law_1152 zi_1 rfl ?_
  refine e_iadd S dL_law_1153 rfl ?_
  refine e_sld (j := 6 * c + 1) (i := nI (6 * c) + 1) S X.2.2.2.2.2.1 X.2.2.2.2.2.2.1 (by rw [X.2.2.2.2.1]; exact Nat.not_le.mpr X.2.2.2.2.2.2.1) (lw_ix hc hL 1 (by decide)).1 (lw_ix hc hL 1 (by decide)).2 dL_law_1154 rfl ?_
  refine e_aload_n (i := 0) S dL_law_1155 rfl rfl rfl ?_
  refine e_iload S dL_law_1156 rfl rfl ?_
  refine e_iconst S dL_law_1158 zi_2 rfl ?_
  refine e_iadd S dL_law_1159 rfl ?_
  refine e_sld (j := 6 * c + 2) (i := nI (6 * c) + 2) S X.2.2.2.2.2.1 X.2.2.2.2.2.2.1 (by rw [X.2.2.2.2.1]; exact Nat.not_le.mpr X.2.2.2.2.2.2.1) (lw_ix hc hL 2 (by decide)).1 (lw_ix hc hL 2 (by decide)).2 dL_law_1160 rfl ?_
  refine e_aload_n (i := 0) S dL_law_1161 rfl rfl rfl ?_
  refine e_iload S dL_law_1162 rfl rfl ?_
  refine e_iconst S dL_law_1164 zi_3 rfl ?_
  refine e_iadd S dL_law_1165 rfl ?_
  refine e_sld (j := 6 * c + 3) (i := nI (6 * c) + 3) S X.2.2.2.2.2.1 X.2.2.2.2.2.2.1 (by rw [X.2.2.2.2.1]; exact Nat.not_le.mpr X.2.2.2.2.2.2.1) (lw_ix hc hL 3 (by decide)).1 (lw_ix hc hL 3 (by decide)).2 dL_law_1166 rfl ?_
  refine e_aload_n (i := 0) S dL_law_1167 rfl rfl rfl ?_
  refine e_iload S dL_law_1168 rfl rfl ?_
  refine e_iconst S dL_law_1170 zi_4 rfl ?_
  refine e_iadd S dL_law_1171 rfl ?_
  refine e_sld (j := 6 * c + 4) (i := nI (6 * c) + 4) S X.2.2.2.2.2.1 X.2.2.2.2.2.2.1 (by rw [X.2.2.2.2.1]; exact Nat.not_le.mpr X.2.2.2.2.2.2.1) (lw_ix hc hL 4 (by decide)).1 (lw_ix hc hL 4 (by decide)).2 dL_law_1172 rfl ?_
  refine e_aload_n (i := 3) S dL_law_1173 rfl rfl rfl ?_
  refine le_wrap (As := [.ref (aC 0), .int (xs (6 * c + 1)), .int (xs (6 * c + 2)), .int (xs (6 * c + 3)), .int (xs (6 * c + 4)), .ref ao]) (st := []) X hW gL_law_L_entry hdL_entry rfl rfl (Nat.le_of_ble_eq_true rfl) ⟨Nat.le_of_ble_eq_true rfl, Nat.le_of_ble_eq_true rfl⟩ ⟨by omega, by omega⟩ dL_law_1174 rfl rfl ?_
  refine e_istore (lo' := [some (.ref b), some (.ref (aC 0)), some (.ref (aM 0)), some (.ref ao), some (.int (nI (6 * c))), some (.int r), none]) S dL_law_1177 (Nat.le_of_ble_eq_true rfl) rfl rfl rfl ?_
  refine e_aload_n (i := 2) S dL_law_1179 rfl rfl rfl ?_
  refine e_aload_n (i := 0) S dL_law_1180 rfl rfl rfl ?_
  refine e_iload S dL_law_1181 rfl rfl ?_
  refine e_iconst S dL_law_1183 zi_1 rfl ?_
  refine e_iadd S dL_law_1184 rfl ?_
  refine e_sld (j := 6 * c + 1) (i := nI (6 * c) + 1) S X.2.2.2.2.2.1 X.2.2.2.2.2.2.1 (by rw [X.2.2.2.2.1]; exact Nat.not_le.mpr X.2.2.2.2.2.2.1) (lw_ix hc hL 1 (by decide)).1 (lw_ix hc hL 1 (by decide)).2 dL_law_1185 rfl ?_
  refine e_aload_n (i := 0) S dL_law_1186 rfl rfl rfl ?_
  refine e_iload S dL_law_1187 rfl rfl ?_
  refine e_iconst S dL_law_1189 zi_2 rfl ?_
  refine e_iadd S dL_law_1190 rfl ?_
  refine e_sld (j := 6 * c + 2) (i := nI (6 * c) + 2) S X.2.2.2.2.2.1 X.2.2.2.2.2.2.1 (by rw [X.2.2.2.2.1]; exact Nat.not_le.mpr X.2.2.2.2.2.2.1) (lw_ix hc hL 2 (by decide)).1 (lw_ix hc hL 2 (by decide)).2 dL_law_1191 rfl ?_
  refine e_aload_n (i := 0) S dL_law_1192 rfl rfl rfl ?_
  refine e_iload S dL_law_1193 rfl rfl ?_
  refine e_iconst S dL_law_1195 zi_3 rfl ?_
  refine e_iadd S dL_law_1196 rfl ?_
  refine e_sld (j := 6 * c + 3) (i := nI (6 * c) + 3) S X.2.2.2.2.2.1 X.2.2.2.2.2.2.1 (by rw [X.2.2.2.2.1]; exact Nat.not_le.mpr X.2.2.2.2.2.2.1) (lw_ix hc hL 3 (by decide)).1 (lw_ix hc hL 3 (by decide)).2 dL_law_1197 rfl ?_
  refine e_aload_n (i := 0) S dL_law_1198 rfl rfl rfl ?_
  refine e_iload S dL_law_1199 rfl rfl ?_
  refine e_iconst S dL_law_1201 zi_4 rfl ?_
  refine e_iadd S dL_law_1202 rfl ?_
  refine e_sld (j := 6 * c + 4) (i := nI (6 * c) + 4) S X.2.2.2.2.2.1 X.2.2.2.2.2.2.1 (by rw [X.2.2.2.2.1]; exact Nat.not_le.mpr X.2.2.2.2.2.2.1) (lw_ix hc hL 4 (by decide)).1 (lw_ix hc hL 4 (by decide)).2 dL_law_1203 rfl ?_
  refine e_cvi (g := gM0 D cI aM) (As := [.int (xs (6 * c + 1)), .int (xs (6 * c + 2)), .int (xs (6 * c + 3)), .int (xs (6 * c + 4))]) (st := []) (m := mM) (wr := wW (gC0 D cI aC) cL ao mC1 v1) S X.2.2.1 rfl (mn_0 (iM0 D cI aM)) (mc_0 (iM0 D cI aM)) gL_law_X6_entry hdX6_entry rfl (qX6_entry (iM0 D cI aM) NN (xs (6 * c + 1)) (xs (6 * c + 2)) (xs (6 * c + 3)) (xs (6 * c + 4)) mM _ h6) rfl (Nat.le_of_ble_eq_true rfl) ⟨Nat.le_of_ble_eq_true rfl, Nat.le_of_ble_eq_true rfl⟩ ⟨(show 58 + c + 1 + 0 ≤ 1090 by omega), (show 18119 + 6 * c + 6 + 0 ≤ 26359 by omega)⟩ dL_law_1204 rfl rfl ?_
  refine e_istore (lo' := [some (.ref b), some (.ref (aC 0)), some (.ref (aM 0)), some (.ref ao), some (.int (nI (6 * c))), some (.int r), some (.int b1)]) S dL_law_1207 (Nat.le_of_ble_eq_true rfl) rfl rfl rfl ?_
  refine e_aload_n (i := 2) S dL_law_1209 rfl rfl rfl ?_
  refine e_cvi (g := gM0 D cI aM) (As := []) (st := []) (m := mM1) (wr := wW (gC0 D cI aC) cL ao mC1 v1) S X.2.2.1 rfl (mn_0 (iM0 D cI aM)) (mc_0 (iM0 D cI aM)) gL_law_X6_thrown hdX6_thrown rfl (qX6_thrown (iM0 D cI aM) mM1 _ rfl) rfl (Nat.le_of_ble_eq_true rfl) ⟨Nat.le_of_ble_eq_true rfl, Nat.le_of_ble_eq_true rfl⟩ ⟨(show 58 + c + 1 + 0 ≤ 1090 by omega), (show 18119 + 6 * c + 6 + 0 ≤ 26359 by omega)⟩ dL_law_1210 rfl rfl ?_
  refine e_iload S dL_law_1213 rfl rfl ?_
  refine e_ieq_t (pc' := 1220) S dL_law_1215 h4 (by decide) ?_
  refine e_iload S dL_law_1220 rfl rfl ?_
  have fin : cV x D 7 (58 + c + 1) (18119 + 6 * c + 6) 1237 [some (.ref b), some (.ref (aC 0)), some (.ref (aM 0)), some (.ref ao), some (.int (nI (6 * c))), some (.int r), some (.int b1)] [] (zwd (gM0 D cI aM) mM1 ++ wW (gC0 D cI aC) cL ao mC1 v1) := by
    refine e_goto (pc' := 1560) S dL_law_1237 (by decide) ?_
    exact lc_end X (by omega) (by omega) hI1 loop
  by_cases q0 : r = 0
  · refine e_ne_f (tgt := 1237) S dL_law_1222 q0 (by decide) rfl ?_
    refine e_aload_n (i := 3) S dL_law_1225 rfl rfl rfl ?_
    refine e_iconst S dL_law_1226 zi_0 rfl ?_
    refine le_lald X dL_law_1227 rfl ?_
    refine e_iload S dL_law_1228 rfl rfl ?_
    refine e_i2l S dL_law_1230 rfl ?_
    refine e_lcmp S (hv q0) dL_law_1231 rfl ?_
    refine e_eq_t (pc' := 1237) S dL_law_1232 rfl (by decide) ?_
    exact fin
  · exact e_ne_t (pc' := 1237) S dL_law_1222 q0 (by decide) fin
set_option maxHeartbeats 4000000 in
set_option maxRecDepth 100000 in
theorem lc_15 {x : zF} {D : va_G} {cI : ClassId} {aC aM : Nat → Nat} {kk : zKK} {cL : ClassId} {ao b L : Nat} {xs : Nat → Int32} (X : lX x D cI aC aM kk cL ao b L xs) (hL : L ≤ 3072) {c : Nat} (hc : 6 * c + 6 ≤ L) {mC mM : zMem} {v : Int64} (hI : INV mC mM (10000 * c)) (loop : ∀ (mC' mM' : zMem) (v' : Int64), INV mC' mM' (10000 * (c + 1)) → cV x D 7 (58 + (c + 1)) (18119 + 6 * (c + 1)) 23 [some (.ref b), some (.ref (aC 0)), some (.ref (aM 0)), some (.ref ao), some (.int (nI (6 * (c + 1)))), none, none] [] (zwd (gM0 D cI aM) mM' ++ wW (gC0 D cI aC) cL ao mC' v')) : cV x D 7 (58 + c) (18119 + 6 * c) 1240 [some (.ref b), some (.ref (aC 0)), some (.ref (aM 0)), some (.ref ao), some (.int (nI (6 * c))), none, none] [] (zwd (gM0 D cI aM) mM ++ wW (gC0 D cI aC) cL ao mC v) := by
  have S := X.1
  obtain ⟨r, mC1, v1, b1, mM1, hW, h6, h4, hv, hI1⟩ := st_share (l := x.2.1) (g := gC0 D cI aC) (kk := kk) (cL := cL) (ao := ao) X.2.2.2.2.2.2.2.2.1 (iC0 D cI aC) (xs (6 * c + 1)) (xs (6 * c + 2)) v hI (by omega)
  rw [show 10000 * c + 10000 = 10000 * (c + 1) by omega] at hI1
  refine e_aload_n (i := 1) S dL_law_1240 rfl rfl rfl ?_
  refine e_aload_n (i := 0) S dL_law_1241 rfl rfl rfl ?_
  refine e_iload S dL_law_1242 rfl rfl ?_
  refine e_iconst S dL_law_1244 zi_1 rfl ?_
  refine e_iadd S dL_law_1245 rfl ?_
  refine e_sld (j := 6 * c + 1) (i := nI (6 * c) + 1) S X.2.2.2.2.2.1 X.2.2.2.2.2.2.1 (by rw [X.2.2.2.2.1]; exact Nat.not_le.mpr X.2.2.2.2.2.2.1) (lw_ix hc hL 1 (by decide)).1 (lw_ix hc hL 1 (by decide)).2 dL_law_1246 rfl ?_
  refine e_aload_n (i := 0) S dL_law_1247 rfl rfl rfl ?_
  refine e_iload S dL_law_1248 rfl rfl ?_
  refine e_iconst S dL_law_1250 zi_2 rfl ?_
  refine e_iadd S dL_law_1251 rfl ?_
  refine e_sld (j := 6 * c + 2) (i := nI (6 * c) + 2) S X.2.2.2.2.2.1 X.2.2.2.2.2.2.1 (by rw [X.2.2.2.2.1]; exact Nat.not_le.mpr X.2.2.2.2.2.2.1) (lw_ix hc hL 2 (by decide)).1 (lw_ix hc hL 2 (by decide)).2 dL_law_1252 rfl ?_
  refine e_aload_n (i := 3) S dL_law_1253 rfl rfl rfl ?_
  refine le_wrap (As := [.ref (aC 0), .int (xs (6 * c + 1)), .int (xs (6 * c + 2)), .ref ao]) (st := []) X hW gL_law_L_share hdL_share rfl rfl (Nat.le_of_ble_eq_true rfl) ⟨Nat.le_of_ble_eq_true rfl, Nat.le_of_ble_eq_true rfl⟩ ⟨by omega, by omega⟩ dL_law_1254 rfl rfl ?_
  refine e_istore (lo' := [some (.ref b), some (.ref (aC 0)), some (.ref (aM 0)), some (.ref ao), some (.int (nI (6 * c))), some (.int r), none]) S dL_law_1257 (Nat.le_of_ble_eq_true rfl) rfl rfl rfl ?_
  refine e_aload_n (i := 2) S dL_law_1259 rfl rfl rfl ?_
  refine e_aload_n (i := 0) S dL_law_1260 rfl rfl rfl ?_
  refine e_iload S dL_law_1261 rfl rfl ?_
  refine e_iconst S dL_law_1263 zi_1 rfl ?_
  refine e_iadd S dL_law_1264 rfl ?_
  refine e_sld (j := 6 * c + 1) (i := nI (6 * c) + 1) S X.2.2.2.2.2.1 X.2.2.2.2.2.2.1 (by rw [X.2.2.2.2.1]; exact Nat.not_le.mpr X.2.2.2.2.2.2.1) (lw_ix hc hL 1 (by decide)).1 (lw_ix hc hL 1 (by decide)).2 dL_law_1265 rfl ?_
  refine e_aload_n (i := 0) S dL_law_1266 rfl rfl rfl ?_
  refine e_iload S dL_law_1267 rfl rfl ?_
  refine e_iconst S dL_law_1269 zi_2 rfl ?_
  refine e_iadd S dL_law_1270 rfl ?_
  refine e_sld (j := 6 * c + 2) (i := nI (6 * c) + 2) S X.2.2.2.2.2.1 X.2.2.2.2.2.2.1 (by rw [X.2.2.2.2.1]; exact Nat.not_le.mpr X.2.2.2.2.2.2.1) (lw_ix hc hL 2 (by decide)).1 (lw_ix hc hL 2 (by decide)).2 dL_law_1271 rfl ?_
  refine e_cvi (g := gM0 D cI aM) (As := [.int (xs (6 * c + 1)), .int (xs (6 * c + 2))]) (st := []) (m := mM) (wr := wW (gC0 D cI aC) cL ao mC1 v1) S X.2.2.1 rfl (mn_0 (iM0 D cI aM)) (mc_0 (iM0 D cI aM)) gL_law_X6_share hdX6_share rfl (qX6_share (iM0 D cI aM) NN (xs (6 * c + 1)) (xs (6 * c + 2)) mM _ h6) rfl (Nat.le_of_ble_eq_true rfl) ⟨Nat.le_of_ble_eq_true rfl, Nat.le_of_ble_eq_true rfl⟩ ⟨(show 58 + c + 1 + 0 ≤ 1090 by omega), (show 18119 + 6 * c + 6 + 0 ≤ 26359 by omega)⟩ dL_law_1272 rfl rfl ?_
  refine e_istore (lo' := [some (.ref b), some (.ref (aC 0)), some (.ref (aM 0)), some (.ref ao), some (.int (nI (6 * c))), some (.int r), some (.int b1)]) S dL_law_1275 (Nat.le_of_ble_eq_true rfl) rfl rfl rfl ?_
  refine e_aload_n (i := 2) S dL_law_1277 rfl rfl rfl ?_
  refine e_cvi (g := gM0 D cI aM) (As := []) (st := []) (m := mM1) (wr := wW (gC0 D cI aC) cL ao mC1 v1) S X.2.2.1 rfl (mn_0 (iM0 D cI aM)) (mc_0 (iM0 D cI aM)) gL_law_X6_thrown hdX6_thrown rfl (qX6_thrown (iM0 D cI aM) mM1 _ rfl) rfl (Nat.le_of_ble_eq_true rfl) ⟨Nat.le_of_ble_eq_true rfl, Nat.le_of_ble_eq_true rfl⟩ ⟨(show 58 + c + 1 + 0 ≤ 1090 by omega), (show 18119 + 6 * c + 6 + 0 ≤ 26359 by omega)⟩ dL_law_1278 rfl rfl ?_
  refine e_iload S dL_law_1281 rfl rfl ?_
  refine e_ieq_t (pc' := 1288) S dL_law_1283 h4 (by decide) ?_
  refine e_iload S dL_law_1288 rfl rfl ?_
  have fin : cV x D 7 (58 + c + 1) (18119 + 6 * c + 6) 1305 [some (.ref b), some (.ref (aC 0)), some (.ref (aM 0)), some (.ref ao), some (.int (nI (6 * c))), some (.int r), some (.int b1)] [] (zwd (gM0 D cI aM) mM1 ++ wW (gC0 D cI aC) cL ao mC1 v1) := by
    refine e_goto (pc' := 1560) S dL_law_1305 (by decide) ?_
    exact lc_end X (by omega) (by omega) hI1 loop
  by_cases q0 : r = 0
  · refine e_ne_f (tgt := 1305) S dL_law_1290 q0 (by decide) rfl ?_
    refine e_aload_n (i := 3) S dL_law_1293 rfl rfl rfl ?_
    refine e_iconst S dL_law_1294 zi_0 rfl ?_
    refine le_lald X dL_law_1295 rfl ?_
    refine e_iload S dL_law_1296 rfl rfl ?_
    refine e_i2l S dL_law_1298 rfl ?_
    refine e_lcmp S (hv q0) dL_law_1299 rfl ?_
    refine e_eq_t (pc' := 1305) S dL_law_1300 rfl (by decide) ?_
    exact fin
  · exact e_ne_t (pc' := 1305) S dL_law_1290 q0 (by decide) fin
set_option maxHeartbeats 4000000 in
set_option maxRecDepth 100000 in
theorem lc_16 {x : zF} {D : va_G} {cI : ClassId} {aC aM : Nat → Nat} {kk : zKK} {cL : ClassId} {ao b L : Nat} {xs : Nat → Int32} (X : lX x D cI aC aM kk cL ao b L xs) (hL : L ≤ 3072) {c : Nat} (hc : 6 * c + 6 ≤ L) {mC mM : zMem} {v : Int64} (hI : INV mC mM (10000 * c)) (loop : ∀ (mC' mM' : zMem) (v' : Int64), INV mC' mM' (10000 * (c + 1)) → cV x D 7 (58 + (c + 1)) (18119 + 6 * (c + 1)) 23 [some (.ref b), some (.ref (aC 0)), some (.ref (aM 0)), some (.ref ao), some (.int (nI (6 * (c + 1)))), none, none] [] (zwd (gM0 D cI aM) mM' ++ wW (gC0 D cI aC) cL ao mC' v')) : cV x D 7 (58 + c) (18119 + 6 * c) 1308 [some (.ref b), some (.ref (aC 0)), some (.ref (aM 0)), some (.ref ao), some (.int (nI (6 * c))), none, none] [] (zwd (gM0 D cI aM) mM ++ wW (gC0 D cI aC) cL ao mC v) := by
  have S := X.1
  obtain ⟨r, mC1, v1, b1, mM1, hW, h6, h4, hv, hI1⟩ := st_overlay (l := x.2.1) (g := gC0 D cI aC) (kk := kk) (cL := cL) (ao := ao) X.2.2.2.2.2.2.2.2.1 (iC0 D cI aC) (xs (6 * c + 1)) v hI (by omega)
  rw [show 10000 * c + 10000 = 10000 * (c + 1) by omega] at hI1
  refine e_aload_n (i := 1) S dL_law_1308 rfl rfl rfl ?_
  refine e_aload_n (i := 0) S dL_law_1309 rfl rfl rfl ?_
  refine e_iload S dL_law_1310 rfl rfl ?_
  refine e_iconst S dL_law_1312 zi_1 rfl ?_
  refine e_iadd S dL_law_1313 rfl ?_
  refine e_sld (j := 6 * c + 1) (i := nI (6 * c) + 1) S X.2.2.2.2.2.1 X.2.2.2.2.2.2.1 (by rw [X.2.2.2.2.1]; exact Nat.not_le.mpr X.2.2.2.2.2.2.1) (lw_ix hc hL 1 (by decide)).1 (lw_ix hc hL 1 (by decide)).2 dL_law_1314 rfl ?_
  refine e_aload_n (i := 3) S dL_law_1315 rfl rfl rfl ?_
  refine le_wrap (As := [.ref (aC 0), .int (xs (6 * c + 1)), .ref ao]) (st := []) X hW gL_law_L_overlay hdL_overlay rfl rfl (Nat.le_of_ble_eq_true rfl) ⟨Nat.le_of_ble_eq_true rfl, Nat.le_of_ble_eq_true rfl⟩ ⟨by omega, by omega⟩ dL_law_1316 rfl rfl ?_
  refine e_istore (lo' := [some (.ref b), some (.ref (aC 0)), some (.ref (aM 0)), some (.ref ao), some (.int (nI (6 * c))), some (.int r), none]) S dL_law_1319 (Nat.le_of_ble_eq_true rfl) rfl rfl rfl ?_
  refine e_aload_n (i := 2) S dL_law_1321 rfl rfl rfl ?_
  refine e_aload_n (i := 0) S dL_law_1322 rfl rfl rfl ?_
  refine e_iload S dL_law_1323 rfl rfl ?_
  refine e_iconst S dL_law_1325 zi_1 rfl ?_
  refine e_iadd S dL_law_1326 rfl ?_
  refine e_sld (j := 6 * c + 1) (i := nI (6 * c) + 1) S X.2.2.2.2.2.1 X.2.2.2.2.2.2.1 (by rw [X.2.2.2.2.1]; exact Nat.not_le.mpr X.2.2.2.2.2.2.1) (lw_ix hc hL 1 (by decide)).1 (lw_ix hc hL 1 (by decide)).2 dL_law_1327 rfl ?_
  refine e_cvi (g := gM0 D cI aM) (As := [.int (xs (6 * c + 1))]) (st := []) (m := mM) (wr := wW (gC0 D cI aC) cL ao mC1 v1) S X.2.2.1 rfl (mn_0 (iM0 D cI aM)) (mc_0 (iM0 D cI aM)) gL_law_X6_overlay hdX6_overlay rfl (qX6_overlay (iM0 D cI aM) NN (xs (6 * c + 1)) mM _ h6) rfl (Nat.le_of_ble_eq_true rfl) ⟨Nat.le_of_ble_eq_true rfl, Nat.le_of_ble_eq_true rfl⟩ ⟨(show 58 + c + 1 + 0 ≤ 1090 by omega), (show 18119 + 6 * c + 6 + 0 ≤ 26359 by omega)⟩ dL_law_1328 rfl rfl ?_
  refine e_istore (lo' := [some (.ref b), some (.ref (aC 0)), some (.ref (aM 0)), some (.ref ao), some (.int (nI (6 * c))), some (.int r), some (.int b1)]) S dL_law_1331 (Nat.le_of_ble_eq_true rfl) rfl rfl rfl ?_
  refine e_aload_n (i := 2) S dL_law_1333 rfl rfl rfl ?_
  refine e_cvi (g := gM0 D cI aM) (As := []) (st := []) (m := mM1) (wr := wW (gC0 D cI aC) cL ao mC1 v1) S X.2.2.1 rfl (mn_0 (iM0 D cI aM)) (mc_0 (iM0 D cI aM)) gL_law_X6_thrown hdX6_thrown rfl (qX6_thrown (iM0 D cI aM) mM1 _ rfl) rfl (Nat.le_of_ble_eq_true rfl) ⟨Nat.le_of_ble_eq_true rfl, Nat.le_of_ble_eq_true rfl⟩ ⟨(show 58 + c + 1 + 0 ≤ 1090 by omega), (show 18119 + 6 * c + 6 + 0 ≤ 26359 by omega)⟩ dL_law_1334 rfl rfl ?_
  refine e_iload S dL_law_1337 rfl rfl ?_
  refine e_ieq_t (pc' := 1344) S dL_law_1339 h4 (by decide) ?_
  refine e_iload S dL_law_1344 rfl rfl ?_
  have fin : cV x D 7 (58 + c + 1) (18119 + 6 * c + 6) 1361 [some (.ref b), some (.ref (aC 0)), some (.ref (aM 0)), some (.ref ao), some (.int (nI (6 * c))), some (.int r), some (.int b1)] [] (zwd (gM0 D cI aM) mM1 ++ wW (gC0 D cI aC) cL ao mC1 v1) := by
    refine e_goto (pc' := 1560) S dL_law_1361 (by decide) ?_
    exact lc_end X (by omega) (by omega) hI1 loop
  by_cases q0 : r = 0
  · refine e_ne_f (tgt := 1361) S dL_law_1346 q0 (by decide) rfl ?_
    refine e_aload_n (i := 3) S dL_law_1349 rfl rfl rfl ?_
    refine e_iconst S dL_law_1350 zi_0 rfl ?_
    refine le_lald X dL_law_1351 rfl ?_
    refine e_iload S dL_law_1352 rfl rfl ?_
    refine e_i2l S dL_law_1354 rfl ?_
    refine e_lcmp S (hv q0) dL_law_1355 rfl ?_
    refine e_eq_t (pc' := 1361) S dL_law_1356 rfl (by decide) ?_
    exact fin
  · exact e_ne_t (pc' := 1361) S dL_law_1346 q0 (by decide) fin
set_option maxHeartbeats 4000000 in
set_option maxRecDepth 100000 in
theorem lc_17 {x : zF} {D : va_G} {cI : ClassId} {aC aM : Nat → Nat} {kk : zKK} {cL : ClassId} {ao b L : Nat} {xs : Nat → Int32} (X : lX x D cI aC aM kk cL ao b L xs) (hL : L ≤ 3072) {c : Nat} (hc : 6 * c + 6 ≤ L) {mC mM : zMem} {v : Int64} (hI : INV mC mM (10000 * c)) (loop : ∀ (mC' mM' : zMem) (v' : Int64), INV mC' mM' (10000 * (c + 1)) → cV x D 7 (58 + (c + 1)) (18119 + 6 * (c + 1)) 23 [some (.ref b), some (.ref (aC 0)), some (.ref (aM 0)), some (.ref ao), some (.int (nI (6 * (c + 1)))), none, none] [] (zwd (gM0 D cI aM) mM' ++ wW (gC0 D cI aC) cL ao mC' v')) : cV x D 7 (58 + c) (18119 + 6 * c) 1364 [some (.ref b), some (.ref (aC 0)), some (.ref (aM 0)), some (.ref ao), some (.int (nI (6 * c))), none, none] [] (zwd (gM0 D cI aM) mM ++ wW (gC0 D cI aC) cL ao mC v) := by
  have S := X.1
  obtain ⟨r, mC1, v1, b1, mM1, hW, h6, h4, hv, hI1⟩ := st_count (l := x.2.1) (g := gC0 D cI aC) (kk := kk) (cL := cL) (ao := ao) X.2.2.2.2.2.2.2.2.1 (iC0 D cI aC) (xs (6 * c + 1)) v hI (by omega)
  rw [show 10000 * c + 10000 = 10000 * (c + 1) by omega] at hI1
  refine e_aload_n (i := 1) S dL_law_1364 rfl rfl rfl ?_
  refine e_aload_n (i := 0) S dL_law_1365 rfl rfl rfl ?_
  refine e_iload S dL_law_1366 rfl rfl ?_
  refine e_iconst S dL_law_1368 zi_1 rfl ?_
  refine e_iadd S dL_law_1369 rfl ?_
  refine e_sld (j := 6 * c + 1) (i := nI (6 * c) + 1) S X.2.2.2.2.2.1 X.2.2.2.2.2.2.1 (by rw [X.2.2.2.2.1]; exact Nat.not_le.mpr X.2.2.2.2.2.2.1) (lw_ix hc hL 1 (by decide)).1 (lw_ix hc hL 1 (by decide)).2 dL_law_1370 rfl ?_
  refine e_aload_n (i := 3) S dL_law_1371 rfl rfl rfl ?_
  refine le_wrap (As := [.ref (aC 0), .int (xs (6 * c + 1)), .ref ao]) (st := []) X hW gL_law_L_count hdL_count rfl rfl (Nat.le_of_ble_eq_true rfl) ⟨Nat.le_of_ble_eq_true rfl, Nat.le_of_ble_eq_true rfl⟩ ⟨by omega, by omega⟩ dL_law_1372 rfl rfl ?_
  refine e_istore (lo' := [some (.ref b), some (.ref (aC 0)), some (.ref (aM 0)), some (.ref ao), some (.int (nI (6 * c))), some (.int r), none]) S dL_law_1375 (Nat.le_of_ble_eq_true rfl) rfl rfl rfl ?_
  refine e_aload_n (i := 2) S dL_law_1377 rfl rfl rfl ?_
  refine e_aload_n (i := 0) S dL_law_1378 rfl rfl rfl ?_
  refine e_iload S dL_law_1379 rfl rfl ?_
  refine e_iconst S dL_law_1381 zi_1 rfl ?_
  refine e_iadd S dL_law_1382 rfl ?_
  refine e_sld (j := 6 * c + 1) (i := nI (6 * c) + 1) S X.2.2.2.2.2.1 X.2.2.2.2.2.2.1 (by rw [X.2.2.2.2.1]; exact Nat.not_le.mpr X.2.2.2.2.2.2.1) (lw_ix hc hL 1 (by decide)).1 (lw_ix hc hL 1 (by decide)).2 dL_law_1383 rfl ?_
  refine e_cvi (g := gM0 D cI aM) (As := [.int (xs (6 * c + 1))]) (st := []) (m := mM) (wr := wW (gC0 D cI aC) cL ao mC1 v1) S X.2.2.1 rfl (mn_0 (iM0 D cI aM)) (mc_0 (iM0 D cI aM)) gL_law_X6_count hdX6_count rfl (qX6_count (iM0 D cI aM) (xs (6 * c + 1)) mM _ h6) rfl (Nat.le_of_ble_eq_true rfl) ⟨Nat.le_of_ble_eq_true rfl, Nat.le_of_ble_eq_true rfl⟩ ⟨(show 58 + c + 1 + 0 ≤ 1090 by omega), (show 18119 + 6 * c + 6 + 0 ≤ 26359 by omega)⟩ dL_law_1384 rfl rfl ?_
  refine e_istore (lo' := [some (.ref b), some (.ref (aC 0)), some (.ref (aM 0)), some (.ref ao), some (.int (nI (6 * c))), some (.int r), some (.int b1)]) S dL_law_1387 (Nat.le_of_ble_eq_true rfl) rfl rfl rfl ?_
  refine e_aload_n (i := 2) S dL_law_1389 rfl rfl rfl ?_
  refine e_cvi (g := gM0 D cI aM) (As := []) (st := []) (m := mM1) (wr := wW (gC0 D cI aC) cL ao mC1 v1) S X.2.2.1 rfl (mn_0 (iM0 D cI aM)) (mc_0 (iM0 D cI aM)) gL_law_X6_thrown hdX6_thrown rfl (qX6_thrown (iM0 D cI aM) mM1 _ rfl) rfl (Nat.le_of_ble_eq_true rfl) ⟨Nat.le_of_ble_eq_true rfl, Nat.le_of_ble_eq_true rfl⟩ ⟨(show 58 + c + 1 + 0 ≤ 1090 by omega), (show 18119 + 6 * c + 6 + 0 ≤ 26359 by omega)⟩ dL_law_1390 rfl rfl ?_
  refine e_iload S dL_law_1393 rfl rfl ?_
  refine e_ieq_t (pc' := 1400) S dL_law_1395 h4 (by decide) ?_
  refine e_iload S dL_law_1400 rfl rfl ?_
  have fin : cV x D 7 (58 + c + 1) (18119 + 6 * c + 6) 1417 [some (.ref b), some (.ref (aC 0)), some (.ref (aM 0)), some (.ref ao), some (.int (nI (6 * c))), some (.int r), some (.int b1)] [] (zwd (gM0 D cI aM) mM1 ++ wW (gC0 D cI aC) cL ao mC1 v1) := by
    refine e_goto (pc' := 1560) S dL_law_1417 (by decide) ?_
    exact lc_end X (by omega) (by omega) hI1 loop
  by_cases q0 : r = 0
  · refine e_ne_f (tgt := 1417) S dL_law_1402 q0 (by decide) rfl ?_
    refine e_aload_n (i := 3) S dL_law_1405 rfl rfl rfl ?_
    refine e_iconst S dL_law_1406 zi_0 rfl ?_
    refine le_lald X dL_law_1407 rfl ?_
    refine e_iload S dL_law_1408 rfl rfl ?_
    refine e_i2l S dL_law_1410 rfl ?_
    refine e_lcmp S (hv q0) dL_law_1411 rfl ?_
    refine e_eq_t (pc' := 1417) S dL_law_1412 rfl (by decide) ?_
    exact fin
  · exact e_ne_t (pc' := 1417) S dL_law_1402 q0 (by decide) fin
set_option maxHeartbeats 4000000 in
set_option maxRecDepth 100000 in
theorem lc_18 {x : zF} {D : va_G} {cI : ClassId} {aC aM : Nat → Nat} {kk : zKK} {cL : ClassId} {ao b L : Nat} {xs : Nat → Int32} (X : lX x D cI aC aM kk cL ao b L xs) (hL : L ≤ 3072) {c : Nat} (hc : 6 * c + 6 ≤ L) {mC mM : zMem} {v : Int64} (hI : INV mC mM (10000 * c)) (loop : ∀ (mC' mM' : zMem) (v' : Int64), INV mC' mM' (10000 * (c + 1)) → cV x D 7 (58 + (c + 1)) (18119 + 6 * (c + 1)) 23 [some (.ref b), some (.ref (aC 0)), some (.ref (aM 0)), some (.ref ao), some (.int (nI (6 * (c + 1)))), none, none] [] (zwd (gM0 D cI aM) mM' ++ wW (gC0 D cI aC) cL ao mC' v')) : cV x D 7 (58 + c) (18119 + 6 * c) 1420 [some (.ref b), some (.ref (aC 0)), some (.ref (aM 0)), some (.ref ao), some (.int (nI (6 * c))), none, none] [] (zwd (gM0 D cI aM) mM ++ wW (gC0 D cI aC) cL ao mC v) := by
  have S := X.1
  obtain ⟨r, mC1, v1, b1, mM1, hW, h6, h4, hv, hI1⟩ := st_type (l := x.2.1) (g := gC0 D cI aC) (kk := kk) (cL := cL) (ao := ao) X.2.2.2.2.2.2.2.2.1 (iC0 D cI aC) (xs (6 * c + 1)) v hI (by omega)
  rw [show 10000 * c + 10000 = 10000 * (c + 1) by omega] at hI1
  refine e_aload_n (i := 1) S dL_law_1420 rfl rfl rfl ?_
  refine e_aload_n (i := 0) S dL_law_1421 rfl rfl rfl ?_
  refine e_iload S dL_law_1422 rfl rfl ?_
  refine e_iconst S dL_law_1424 zi_1 rfl ?_
  refine e_iadd S dL_law_1425 rfl ?_
  refine e_sld (j := 6 * c + 1) (i := nI (6 * c) + 1) S X.2.2.2.2.2.1 X.2.2.2.2.2.2.1 (by rw [X.2.2.2.2.1]; exact Nat.not_le.mpr X.2.2.2.2.2.2.1) (lw_ix hc hL 1 (by decide)).1 (lw_ix hc hL 1 (by decide)).2 dL_law_1426 rfl ?_
  refine e_aload_n (i := 3) S dL_law_1427 rfl rfl rfl ?_
  refine le_wrap (As := [.ref (aC 0), .int (xs (6 * c + 1)), .ref ao]) (st := []) X hW gL_law_L_type hdL_type rfl rfl (Nat.le_of_ble_eq_true rfl) ⟨Nat.le_of_ble_eq_true rfl, Nat.le_of_ble_eq_true rfl⟩ ⟨by omega, by omega⟩ dL_law_1428 rfl rfl ?_
  refine e_istore (lo' := [some (.ref b), some (.ref (aC 0)), some (.ref (aM 0)), some (.ref ao), some (.int (nI (6 * c))), some (.int r), none]) S dL_law_1431 (Nat.le_of_ble_eq_true rfl) rfl rfl rfl ?_
  refine e_aload_n (i := 2) S dL_law_1433 rfl rfl rfl ?_
  refine e_aload_n (i := 0) S dL_law_1434 rfl rfl rfl ?_
  refine e_iload S dL_law_1435 rfl rfl ?_
  refine e_iconst S dL_law_1437 zi_1 rfl ?_
  refine e_iadd S dL_law_1438 rfl ?_
  refine e_sld (j := 6 * c + 1) (i := nI (6 * c) + 1) S X.2.2.2.2.2.1 X.2.2.2.2.2.2.1 (by rw [X.2.2.2.2.1]; exact Nat.not_le.mpr X.2.2.2.2.2.2.1) (lw_ix hc hL 1 (by decide)).1 (lw_ix hc hL 1 (by decide)).2 dL_law_1439 rfl ?_
  refine e_cvi (g := gM0 D cI aM) (As := [.int (xs (6 * c + 1))]) (st := []) (m := mM) (wr := wW (gC0 D cI aC) cL ao mC1 v1) S X.2.2.1 rfl (mn_0 (iM0 D cI aM)) (mc_0 (iM0 D cI aM)) gL_law_X6_type hdX6_type rfl (qX6_type (iM0 D cI aM) (xs (6 * c + 1)) mM _ h6) rfl (Nat.le_of_ble_eq_true rfl) ⟨Nat.le_of_ble_eq_true rfl, Nat.le_of_ble_eq_true rfl⟩ ⟨(show 58 + c + 1 + 0 ≤ 1090 by omega), (show 18119 + 6 * c + 6 + 0 ≤ 26359 by omega)⟩ dL_law_1440 rfl rfl ?_
  refine e_istore (lo' := [some (.ref b), some (.ref (aC 0)), some (.ref (aM 0)), some (.ref ao), some (.int (nI (6 * c))), some (.int r), some (.int b1)]) S dL_law_1443 (Nat.le_of_ble_eq_true rfl) rfl rfl rfl ?_
  refine e_aload_n (i := 2) S dL_law_1445 rfl rfl rfl ?_
  refine e_cvi (g := gM0 D cI aM) (As := []) (st := []) (m := mM1) (wr := wW (gC0 D cI aC) cL ao mC1 v1) S X.2.2.1 rfl (mn_0 (iM0 D cI aM)) (mc_0 (iM0 D cI aM)) gL_law_X6_thrown hdX6_thrown rfl (qX6_thrown (iM0 D cI aM) mM1 _ rfl) rfl (Nat.le_of_ble_eq_true rfl) ⟨Nat.le_of_ble_eq_true rfl, Nat.le_of_ble_eq_true rfl⟩ ⟨(show 58 + c + 1 + 0 ≤ 1090 by omega), (show 18119 + 6 * c + 6 + 0 ≤ 26359 by omega)⟩ dL_law_1446 rfl rfl ?_
  refine e_iload S dL_law_1449 rfl rfl ?_
  refine e_ieq_t (pc' := 1456) S dL_law_1451 h4 (by decide) ?_
  refine e_iload S dL_law_1456 rfl rfl ?_
  have fin : cV x D 7 (58 + c + 1) (18119 + 6 * c + 6) 1473 [some (.ref b), some (.ref (aC 0)), some (.ref (aM 0)), some (.ref ao), some (.int (nI (6 * c))), some (.int r), some (.int b1)] [] (zwd (gM0 D cI aM) mM1 ++ wW (gC0 D cI aC) cL ao mC1 v1) := by
    refine e_goto (pc' := 1560) S dL_law_1473 (by decide) ?_
    exact lc_end X (by omega) (by omega) hI1 loop
  by_cases q0 : r = 0
  · refine e_ne_f (tgt := 1473) S dL_law_1458 q0 (by decide) rfl ?_
    refine e_aload_n (i := 3) S dL_law_1461 rfl rfl rfl ?_
    refine e_iconst S dL_law_1462 zi_0 rfl ?_
    refine le_lald X dL_law_1463 rfl ?_
    refine e_iload S dL_law_1464 rfl rfl ?_
    refine e_i2l S dL_law_1466 rfl ?_
    refine e_lcmp S (hv q0) dL_law_1467 rfl ?_
    refine e_eq_t (pc' := 1473) S dL_law_1468 rfl (by decide) ?_
    exact fin
  · exact e_ne_t (pc' := 1473) S dL_law_1458 q0 (by decide) fin
set_option maxHeartbeats 4000000 in
set_option maxRecDepth 100000 in
theorem lc_19 {x : zF} {D : va_G} {cI : ClassId} {aC aM : Nat → Nat} {kk : zKK} {cL : ClassId} {ao b L : Nat} {xs : Nat → Int32} (X : lX x D cI aC aM kk cL ao b L xs) (hL : L ≤ 3072) {c : Nat} (hc : 6 * c + 6 ≤ L) {mC mM : zMem} {v : Int64} (hI : INV mC mM (10000 * c)) (loop : ∀ (mC' mM' : zMem) (v' : Int64), INV mC' mM' (10000 * (c + 1)) → cV x D 7 (58 + (c + 1)) (18119 + 6 * (c + 1)) 23 [some (.ref b), some (.ref (aC 0)), some (.ref (aM 0)), some (.ref ao), some (.int (nI (6 * (c + 1)))), none, none] [] (zwd (gM0 D cI aM) mM' ++ wW (gC0 D cI aC) cL ao mC' v')) : cV x D 7 (58 + c) (18119 + 6 * c) 1476 [some (.ref b), some (.ref (aC 0)), some (.ref (aM 0)), some (.ref ao), some (.int (nI (6 * c))), none, none] [] (zwd (gM0 D cI aM) mM ++ wW (gC0 D cI aC) cL ao mC v) := by
  have S := X.1
  obtain ⟨b1, mC1, mM1, h5, h6, hI1⟩ := st_clear hI
  rw [show 10000 * c + 10000 = 10000 * (c + 1) by omega] at hI1
  refine e_aload_n (i := 1) S dL_law_1476 rfl rfl rfl ?_
  refine e_swap ?_
  refine cV_as ?_
  refine e_cvi (g := gC0 D cI aC) (As := []) (st := []) (m := mC) (wr := [(ao, oC cL v)] ++ zwd (gM0 D cI aM) mM) S X.2.1 rfl (tn_0 (iC0 D cI aC)) (tc_0 (iC0 D cI aC)) gL_law_X5_clearScript hdX5_clearScript rfl (qX5_clearScript (iC0 D cI aC) mC _ h5) rfl (Nat.le_of_ble_eq_true rfl) ⟨Nat.le_of_ble_eq_true rfl, Nat.le_of_ble_eq_true rfl⟩ ⟨(show 58 + c + 0 ≤ 1090 by omega), (show 18119 + 6 * c + 0 ≤ 26359 by omega)⟩ dL_law_1477 rfl rfl ?_
  refine cV_sa ?_
  refine e_swap ?_
  refine e_aload_n (i := 2) S dL_law_1480 rfl rfl rfl ?_
  refine e_cvi (g := gM0 D cI aM) (As := []) (st := [.int b1]) (m := mM) (wr := wW (gC0 D cI aC) cL ao mC1 v) S X.2.2.1 rfl (mn_0 (iM0 D cI aM)) (mc_0 (iM0 D cI aM)) gL_law_X6_clearScript hdX6_clearScript rfl (qX6_clearScript (iM0 D cI aM) mM _ h6) rfl (Nat.le_of_ble_eq_true rfl) ⟨Nat.le_of_ble_eq_true rfl, Nat.le_of_ble_eq_true rfl⟩ ⟨(show 58 + c + 0 ≤ 1090 by omega), (show 18119 + 6 * c + 0 ≤ 26359 by omega)⟩ dL_law_1481 rfl rfl ?_
  refine e_ieq_t (pc' := 1560) S dL_law_1484 rfl (by decide) ?_
  exact lc_end X (by omega) (by omega) hI1 loop
set_option maxHeartbeats 4000000 in
set_option maxRecDepth 100000 in
theorem lc_20 {x : zF} {D : va_G} {cI : ClassId} {aC aM : Nat → Nat} {kk : zKK} {cL : ClassId} {ao b L : Nat} {xs : Nat → Int32} (X : lX x D cI aC aM kk cL ao b L xs) (hL : L ≤ 3072) {c : Nat} (hc : 6 * c + 6 ≤ L) {mC mM : zMem} {v : Int64} (hI : INV mC mM (10000 * c)) (loop : ∀ (mC' mM' : zMem) (v' : Int64), INV mC' mM' (10000 * (c + 1)) → cV x D 7 (58 + (c + 1)) (18119 + 6 * (c + 1)) 23 [some (.ref b), some (.ref (aC 0)), some (.ref (aM 0)), some (.ref ao), some (.int (nI (6 * (c + 1)))), none, none] [] (zwd (gM0 D cI aM) mM' ++ wW (gC0 D cI aC) cL ao mC' v')) : cV x D 7 (58 + c) (18119 + 6 * c) 1489 [some (.ref b), some (.ref (aC 0)), some (.ref (aM 0)), some (.ref ao), some (.int (nI (6 * c))), none, none] [] (zwd (gM0 D cI aM) mM ++ wW (gC0 D cI aC) cL ao mC v) := by
  have S := X.1
  obtain ⟨b1, mC1, mM1, h5, h6, hI1⟩ := st_run hI (by omega)
  rw [show 10000 * c + 10000 = 10000 * (c + 1) by omega] at hI1
  refine e_aload_n (i := 1) S dL_law_1489 rfl rfl rfl ?_
  refine e_swap ?_
  refine cV_as ?_
  refine e_kvi (g := gC0 D cI aC) (As := []) (st := []) (m := mC) (wr := [(ao, oC cL v)] ++ zwd (gM0 D cI aM) mM) S X.2.1 X.2.2.2.2.2.2.2.1 rfl (tn_0 (iC0 D cI aC)) (tc_0 (iC0 D cI aC)) gL_law_X5_run hdX5_run rfl (qX5_run (iC0 D cI aC) NN mC _ h5) rfl (Nat.le_of_ble_eq_true rfl) ⟨Nat.le_of_ble_eq_true rfl, Nat.le_of_ble_eq_true rfl⟩ ⟨(show 58 + c + 0 ≤ 1090 by omega), (show 18119 + 6 * c + 0 ≤ 26359 by omega)⟩ dL_law_1490 rfl rfl ?_
  refine cV_sa ?_
  refine e_swap ?_
  refine e_aload_n (i := 2) S dL_law_1493 rfl rfl rfl ?_
  refine e_cvi (g := gM0 D cI aM) (As := []) (st := [.int b1]) (m := mM) (wr := wW (gC0 D cI aC) cL ao mC1 v) S X.2.2.1 rfl (mn_0 (iM0 D cI aM)) (mc_0 (iM0 D cI aM)) gL_law_X6_run hdX6_run rfl (qX6_run (iM0 D cI aM) NN mM _ h6) rfl (Nat.le_of_ble_eq_true rfl) ⟨Nat.le_of_ble_eq_true rfl, Nat.le_of_ble_eq_true rfl⟩ ⟨(show 58 + c + 0 ≤ 1090 by omega), (show 18119 + 6 * c + 0 ≤ 26359 by omega)⟩ dL_law_1494 rfl rfl ?_
  refine e_ieq_t (pc' := 1560) S dL_law_1497 rfl (by decide) ?_
  exact lc_end X (by omega) (by omega) hI1 loop
set_option maxHeartbeats 4000000 in
set_option maxRecDepth 100000 in
theorem lc_21 {x : zF} {D : va_G} {cI : ClassId} {aC aM : Nat → Nat} {kk : zKK} {cL : ClassId} {ao b L : Nat} {xs : Nat → Int32} (X : lX x D cI aC aM kk cL ao b L xs) (hL : L ≤ 3072) {c : Nat} (hc : 6 * c + 6 ≤ L) {mC mM : zMem} {v : Int64} (hI : INV mC mM (10000 * c)) (loop : ∀ (mC' mM' : zMem) (v' : Int64), INV mC' mM' (10000 * (c + 1)) → cV x D 7 (58 + (c + 1)) (18119 + 6 * (c + 1)) 23 [some (.ref b), some (.ref (aC 0)), some (.ref (aM 0)), some (.ref ao), some (.int (nI (6 * (c + 1)))), none, none] [] (zwd (gM0 D cI aM) mM' ++ wW (gC0 D cI aC) cL ao mC' v')) : cV x D 7 (58 + c) (18119 + 6 * c) 1502 [some (.ref b), some (.ref (aC 0)), some (.ref (aM 0)), some (.ref ao), some (.int (nI (6 * c))), none, none] [] (zwd (gM0 D cI aM) mM ++ wW (gC0 D cI aC) cL ao mC v) := by
  have S := X.1
  obtain ⟨r, mC1, v1, b1, mM1, hW, h6, h4, hv, hI1⟩ := st_undo (l := x.2.1) (g := gC0 D cI aC) (kk := kk) (cL := cL) (ao := ao) X.2.2.2.2.2.2.2.2.1 (iC0 D cI aC) v hI (by omega)
  rw [show 10000 * c + 10000 = 10000 * (c + 1) by omega] at hI1
  refine e_aload_n (i := 1) S dL_law_1502 rfl rfl rfl ?_
  refine e_aload_n (i := 3) S dL_law_1503 rfl rfl rfl ?_
  refine le_wrap (As := [.ref (aC 0), .ref ao]) (st := []) X hW gL_law_L_undo hdL_undo rfl rfl (Nat.le_of_ble_eq_true rfl) ⟨Nat.le_of_ble_eq_true rfl, Nat.le_of_ble_eq_true rfl⟩ ⟨by omega, by omega⟩ dL_law_1504 rfl rfl ?_
  refine e_istore (lo' := [some (.ref b), some (.ref (aC 0)), some (.ref (aM 0)), some (.ref ao), some (.int (nI (6 * c))), some (.int r), none]) S dL_law_1507 (Nat.le_of_ble_eq_true rfl) rfl rfl rfl ?_
  refine e_aload_n (i := 2) S dL_law_1509 rfl rfl rfl ?_
  refine e_cvi (g := gM0 D cI aM) (As := []) (st := []) (m := mM) (wr := wW (gC0 D cI aC) cL ao mC1 v1) S X.2.2.1 rfl (mn_0 (iM0 D cI aM)) (mc_0 (iM0 D cI aM)) gL_law_X6_undo hdX6_undo rfl (qX6_undo (iM0 D cI aM) NN mM _ h6) rfl (Nat.le_of_ble_eq_true rfl) ⟨Nat.le_of_ble_eq_true rfl, Nat.le_of_ble_eq_true rfl⟩ ⟨(show 58 + c + 1 + 0 ≤ 1090 by omega), (show 18119 + 6 * c + 6 + 0 ≤ 26359 by omega)⟩ dL_law_1510 rfl rfl ?_
  refine e_istore (lo' := [some (.ref b), some (.ref (aC 0)), some (.ref (aM 0)), some (.ref ao), some (.int (nI (6 * c))), some (.int r), some (.int b1)]) S dL_law_1513 (Nat.le_of_ble_eq_true rfl) rfl rfl rfl ?_
  refine e_aload_n (i := 2) S dL_law_1515 rfl rfl rfl ?_
  refine e_cvi (g := gM0 D cI aM) (As := []) (st := []) (m := mM1) (wr := wW (gC0 D cI aC) cL ao mC1 v1) S X.2.2.1 rfl (mn_0 (iM0 D cI aM)) (mc_0 (iM0 D cI aM)) gL_law_X6_thrown hdX6_thrown rfl (qX6_thrown (iM0 D cI aM) mM1 _ rfl) rfl (Nat.le_of_ble_eq_true rfl) ⟨Nat.le_of_ble_eq_true rfl, Nat.le_of_ble_eq_true rfl⟩ ⟨(show 58 + c + 1 + 0 ≤ 1090 by omega), (show 18119 + 6 * c + 6 + 0 ≤ 26359 by omega)⟩ dL_law_1516 rfl rfl ?_
  refine e_iload S dL_law_1519 rfl rfl ?_
  refine e_ieq_t (pc' := 1526) S dL_law_1521 h4 (by decide) ?_
  refine e_iload S dL_law_1526 rfl rfl ?_
  have fin : cV x D 7 (58 + c + 1) (18119 + 6 * c + 6) 1543 [some (.ref b), some (.ref (aC 0)), some (.ref (aM 0)), some (.ref ao), some (.int (nI (6 * c))), some (.int r), some (.int b1)] [] (zwd (gM0 D cI aM) mM1 ++ wW (gC0 D cI aC) cL ao mC1 v1) := by
    refine e_goto (pc' := 1560) S dL_law_1543 (by decide) ?_
    exact lc_end X (by omega) (by omega) hI1 loop
  by_cases q0 : r = 0
  · refine e_ne_f (tgt := 1543) S dL_law_1528 q0 (by decide) rfl ?_
    refine e_aload_n (i := 3) S dL_law_1531 rfl rfl rfl ?_
    refine e_iconst S dL_law_1532 zi_0 rfl ?_
    refine le_lald X dL_law_1533 rfl ?_
    refine e_iload S dL_law_1534 rfl rfl ?_
    refine e_i2l S dL_law_1536 rfl ?_
    refine e_lcmp S (hv q0) dL_law_1537 rfl ?_
    refine e_eq_t (pc' := 1543) S dL_law_1538 rfl (by decide) ?_
    exact fin
  · exact e_ne_t (pc' := 1543) S dL_law_1528 q0 (by decide) fin
set_option maxHeartbeats 4000000 in
set_option maxRecDepth 100000 in
theorem lc_22 {x : zF} {D : va_G} {cI : ClassId} {aC aM : Nat → Nat} {kk : zKK} {cL : ClassId} {ao b L : Nat} {xs : Nat → Int32} (X : lX x D cI aC aM kk cL ao b L xs) (hL : L ≤ 3072) {c : Nat} (hc : 6 * c + 6 ≤ L) {mC mM : zMem} {v : Int64} (hI : INV mC mM (10000 * c)) (loop : ∀ (mC' mM' : zMem) (v' : Int64), INV mC' mM' (10000 * (c + 1)) → cV x D 7 (58 + (c + 1)) (18119 + 6 * (c + 1)) 23 [some (.ref b), some (.ref (aC 0)), some (.ref (aM 0)), some (.ref ao), some (.int (nI (6 * (c + 1)))), none, none] [] (zwd (gM0 D cI aM) mM' ++ wW (gC0 D cI aC) cL ao mC' v')) : cV x D 7 (58 + c) (18119 + 6 * c) 1546 [some (.ref b), some (.ref (aC 0)), some (.ref (aM 0)), some (.ref ao), some (.int (nI (6 * c))), none, none] [] (zwd (gM0 D cI aM) mM ++ wW (gC0 D cI aC) cL ao mC v) := by
  have S := X.1
  obtain ⟨b1, mM1, h5, h6, hI1⟩ := st_digest hI (by omega)
  rw [show 10000 * c + 10000 = 10000 * (c + 1) by omega] at hI1
  refine e_aload_n (i := 1) S dL_law_1546 rfl rfl rfl ?_
  refine e_swap ?_
  refine cV_as ?_
  refine e_cvl (g := gC0 D cI aC) (As := []) (st := []) (m := mC) (wr := [(ao, oC cL v)] ++ zwd (gM0 D cI aM) mM) S X.2.1 rfl (tn_0 (iC0 D cI aC)) (tc_0 (iC0 D cI aC)) gL_law_X5_digest hdX5_digest rfl (qX5_digest (iC0 D cI aC) NN mC _ h5) rfl (Nat.le_of_ble_eq_true rfl) ⟨Nat.le_of_ble_eq_true rfl, Nat.le_of_ble_eq_true rfl⟩ ⟨(show 58 + c + 0 ≤ 1090 by omega), (show 18119 + 6 * c + 0 ≤ 26359 by omega)⟩ dL_law_1547 rfl rfl ?_
  refine cV_sa ?_
  refine e_swap ?_
  refine e_aload_n (i := 2) S dL_law_1550 rfl rfl rfl ?_
  refine e_cvl (g := gM0 D cI aM) (As := []) (st := [.long b1]) (m := mM) (wr := wW (gC0 D cI aC) cL ao mC v) S X.2.2.1 rfl (mn_0 (iM0 D cI aM)) (mc_0 (iM0 D cI aM)) gL_law_X6_digest hdX6_digest rfl (qX6_digest (iM0 D cI aM) NN mM _ h6) rfl (Nat.le_of_ble_eq_true rfl) ⟨Nat.le_of_ble_eq_true rfl, Nat.le_of_ble_eq_true rfl⟩ ⟨(show 58 + c + 0 ≤ 1090 by omega), (show 18119 + 6 * c + 0 ≤ 26359 by omega)⟩ dL_law_1551 rfl rfl ?_
  refine e_lcmp S rfl dL_law_1554 rfl ?_
  refine e_eq_t (pc' := 1560) S dL_law_1555 rfl (by decide) ?_
  exact lc_end X (by omega) (by omega) hI1 loop
