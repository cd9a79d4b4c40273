set_option maxRecDepth 20000 in
set_option maxHeartbeats 2000000 in
theorem lc_0 {F : fxT} {D : va_G} {A B : Nat → Nat} {G : gh} {ce sl : Nat} {b L : Nat} {xs : Nat → Int32} {i : Int} (S : FX F code 4 "PostageCounterLaw" room_1 D) (hb : fMut F) (hX : scX F b L xs) (hL : L ≤ 3072) (hwB : ∀ x, cM B x → wr F x) (hwA : ∀ x, mM A x → wr F x) (ha : apB B A) (hI : lwS D B A G) (h0 : 0 ≤ i) (hi : i + 6 ≤ L) (hce : ce + 120 ≤ 600000) (hsl : sl + 360 ≤ 7302250) (k : ∀ Gk : gh, lwS D B A Gk → V F 4 Gk (ce + 120) (sl + 360) 923 [(3, .int (iI i)), (2, .ref (A 0)), (1, .ref (B 0)), (0, .ref b)] []) : V F 4 G ce sl 140 [(3, .int (iI i)), (2, .ref (A 0)), (1, .ref (B 0)), (0, .ref b)] [] := by
  obtain ⟨now, hist, km, rd, reel, ho, hmq, hcq⟩ := hI
  have hNo := Nok_NN hcq hmq
  obtain ⟨fsx, hbx⟩ := hcq.b0
  refine r_aload_n S dL_law_140 2 rfl ?_
  refine r_aload_n S dL_law_141 3 rfl ?_
  refine r_iload_n S dL_law_142 0 rfl ?_
  refine r_iconst S dL_law_143 ?_
  refine r_iadd S dL_law_144 ?_
  refine r_sld hX hb hL S (by omega) (by omega) dL_law_145 ?_
  refine r_aload_n S dL_law_146 3 rfl ?_
  refine r_iload_n S dL_law_147 0 rfl ?_
  refine r_iconst S dL_law_148 ?_
  refine r_iadd S dL_law_149 ?_
  refine r_sld hX hb hL S (by omega) (by omega) dL_law_150 ?_
  refine r_aload_n S dL_law_151 3 rfl ?_
  refine r_iload_n S dL_law_152 0 rfl ?_
  refine r_iconst S dL_law_153 ?_
  refine r_iadd S dL_law_154 ?_
  refine r_sld hX hb hL S (by omega) (by omega) dL_law_155 ?_
  refine (c_V_T (As := [.int (iI (sx xs (i + 1))), .int (iI (sx xs (i + 2))), .int (iI (sx xs (i + 3)))]) (st := []) S (kX10_pile hcq (fun _ h => Or.inl h) hNo ho.1 ho.2.2.1 (sx_R _ _) (sx_R _ _) (sx_R _ _)) moX10_pile ⟨by decide, by decide⟩ ⟨(by show _ ≤ 600000; omega), (by show _ ≤ 7302250; omega)⟩ rfl (Nat.le_of_ble_eq_true rfl) w147 w148 w149 hbx rfl rfl dL_law_156).goI S hb hwB (fun zx Gx hxx hcx => ?_)
  refine r_aload_n S dL_law_159 1 rfl ?_
  refine r_aload_n S dL_law_160 3 rfl ?_
  refine r_iload_n S dL_law_161 0 rfl ?_
  refine r_iconst S dL_law_162 ?_
  refine r_iadd S dL_law_163 ?_
  refine r_sld hX hb hL S (by omega) (by omega) dL_law_164 ?_
  refine r_aload_n S dL_law_165 3 rfl ?_
  refine r_iload_n S dL_law_166 0 rfl ?_
  refine r_iconst S dL_law_167 ?_
  refine r_iadd S dL_law_168 ?_
  refine r_sld hX hb hL S (by omega) (by omega) dL_law_169 ?_
  refine r_aload_n S dL_law_170 3 rfl ?_
  refine r_iload_n S dL_law_171 0 rfl ?_
  refine r_iconst S dL_law_172 ?_
  refine r_iadd S dL_law_173 ?_
  refine r_sld hX hb hL S (by omega) (by omega) dL_law_174 ?_
  have hmq1 := hmq.keep hxx ha.m
  obtain ⟨fsm, hbm⟩ := hmq1.b0
  refine (c_V_T (As := [.int (iI (sx xs (i + 1))), .int (iI (sx xs (i + 2))), .int (iI (sx xs (i + 3)))]) (st := [.int (iI zx)]) S (kX11_pile hmq1 ho.1 (sx_R _ _) (sx_R _ _) (sx_R _ _)) moX11_pile ⟨by decide, by decide⟩ ⟨(by show _ ≤ 600000; omega), (by show _ ≤ 7302250; omega)⟩ rfl (Nat.le_of_ble_eq_true rfl) w792 w793 w794 hbm rfl rfl dL_law_175).goI S hb hwA (fun zm Gm hxm hcm => ?_)
  obtain ⟨ez, hs⟩ := st_end ho (pile_ok ho.1) hcx hcm hxm ha
  subst ez
  refine r_icmp_eqS S 923 dL_law_178 (by decide) ?_
  exact V.widen (by omega) (by omega) (k Gm hs)

set_option maxRecDepth 20000 in
set_option maxHeartbeats 2000000 in
theorem lc_1 {F : fxT} {D : va_G} {A B : Nat → Nat} {G : gh} {ce sl : Nat} {b L : Nat} {xs : Nat → Int32} {i : Int} (S : FX F code 4 "PostageCounterLaw" room_1 D) (hb : fMut F) (hX : scX F b L xs) (hL : L ≤ 3072) (hwB : ∀ x, cM B x → wr F x) (hwA : ∀ x, mM A x → wr F x) (ha : apB B A) (hI : lwS D B A G) (h0 : 0 ≤ i) (hi : i + 6 ≤ L) (hce : ce + 120 ≤ 600000) (hsl : sl + 360 ≤ 7302250) (k : ∀ Gk : gh, lwS D B A Gk → V F 4 Gk (ce + 120) (sl + 360) 923 [(3, .int (iI i)), (2, .ref (A 0)), (1, .ref (B 0)), (0, .ref b)] []) : V F 4 G ce sl 183 [(3, .int (iI i)), (2, .ref (A 0)), (1, .ref (B 0)), (0, .ref b)] [] := by
  obtain ⟨now, hist, km, rd, reel, ho, hmq, hcq⟩ := hI
  have hNo := Nok_NN hcq hmq
  obtain ⟨fsx, hbx⟩ := hcq.b0
  refine r_aload_n S dL_law_183 2 rfl ?_
  refine r_aload_n S dL_law_184 3 rfl ?_
  refine r_iload_n S dL_law_185 0 rfl ?_
  refine r_iconst S dL_law_186 ?_
  refine r_iadd S dL_law_187 ?_
  refine r_sld hX hb hL S (by omega) (by omega) dL_law_188 ?_
  refine r_aload_n S dL_law_189 3 rfl ?_
  refine r_iload_n S dL_law_190 0 rfl ?_
  refine r_iconst S dL_law_191 ?_
  refine r_iadd S dL_law_192 ?_
  refine r_sld hX hb hL S (by omega) (by omega) dL_law_193 ?_
  refine r_aload_n S dL_law_194 3 rfl ?_
  refine r_iload_n S dL_law_195 0 rfl ?_
  refine r_iconst S dL_law_196 ?_
  refine r_iadd S dL_law_197 ?_
  refine r_sld hX hb hL S (by omega) (by omega) dL_law_198 ?_
  refine r_aload_n S dL_law_199 3 rfl ?_
  refine r_iload_n S dL_law_200 0 rfl ?_
  refine r_iconst S dL_law_201 ?_
  refine r_iadd S dL_law_202 ?_
  refine r_sld hX hb hL S (by omega) (by omega) dL_law_203 ?_
  refine (c_V_T (As := [.int (iI (sx xs (i + 1))), .int (iI (sx xs (i + 2))), .int (iI (sx xs (i + 3))), .int (iI (sx xs (i + 4)))]) (st := []) S (kX10_over hcq (fun _ h => Or.inl h) hNo ho.1 ho.2.2.1 (sx_R _ _) (sx_R _ _) (sx_R _ _) (sx_R _ _)) moX10_over ⟨by decide, by decide⟩ ⟨(by show _ ≤ 600000; omega), (by show _ ≤ 7302250; omega)⟩ rfl (Nat.le_of_ble_eq_true rfl) w205 w206 w207 hbx rfl rfl dL_law_204).goI S hb hwB (fun zx Gx hxx hcx => ?_)
  refine r_aload_n S dL_law_207 1 rfl ?_
  refine r_aload_n S dL_law_208 3 rfl ?_
  refine r_iload_n S dL_law_209 0 rfl ?_
  refine r_iconst S dL_law_210 ?_
  refine r_iadd S dL_law_211 ?_
  refine r_sld hX hb hL S (by omega) (by omega) dL_law_212 ?_
  refine r_aload_n S dL_law_213 3 rfl ?_
  refine r_iload_n S dL_law_214 0 rfl ?_
  refine r_iconst S dL_law_215 ?_
  refine r_iadd S dL_law_216 ?_
  refine r_sld hX hb hL S (by omega) (by omega) dL_law_217 ?_
  refine r_aload_n S dL_law_218 3 rfl ?_
  refine r_iload_n S dL_law_219 0 rfl ?_
  refine r_iconst S dL_law_220 ?_
  refine r_iadd S dL_law_221 ?_
  refine r_sld hX hb hL S (by omega) (by omega) dL_law_222 ?_
  refine r_aload_n S dL_law_223 3 rfl ?_
  refine r_iload_n S dL_law_224 0 rfl ?_
  refine r_iconst S dL_law_225 ?_
  refine r_iadd S dL_law_226 ?_
  refine r_sld hX hb hL S (by omega) (by omega) dL_law_227 ?_
  have hmq1 := hmq.keep hxx ha.m
  obtain ⟨fsm, hbm⟩ := hmq1.b0
  refine (c_V_T (As := [.int (iI (sx xs (i + 1))), .int (iI (sx xs (i + 2))), .int (iI (sx xs (i + 3))), .int (iI (sx xs (i + 4)))]) (st := [.int (iI zx)]) S (kX11_over hmq1 ho.1 (sx_R _ _) (sx_R _ _) (sx_R _ _) (sx_R _ _)) moX11_over ⟨by decide, by decide⟩ ⟨(by show _ ≤ 600000; omega), (by show _ ≤ 7302250; omega)⟩ rfl (Nat.le_of_ble_eq_true rfl) w815 w816 w817 hbm rfl rfl dL_law_228).goI S hb hwA (fun zm Gm hxm hcm => ?_)
  obtain ⟨ez, hs⟩ := st_end ho (over_ok ho.1) hcx hcm hxm ha
  subst ez
  refine r_icmp_eqS S 923 dL_law_231 (by decide) ?_
  exact V.widen (by omega) (by omega) (k Gm hs)

set_option maxRecDepth 20000 in
set_option maxHeartbeats 2000000 in
theorem lc_2 {F : fxT} {D : va_G} {A B : Nat → Nat} {G : gh} {ce sl : Nat} {b L : Nat} {xs : Nat → Int32} {i : Int} (S : FX F code 4 "PostageCounterLaw" room_1 D) (hb : fMut F) (hX : scX F b L xs) (hL : L ≤ 3072) (hwB : ∀ x, cM B x → wr F x) (hwA : ∀ x, mM A x → wr F x) (ha : apB B A) (hI : lwS D B A G) (h0 : 0 ≤ i) (hi : i + 6 ≤ L) (hce : ce + 120 ≤ 600000) (hsl : sl + 360 ≤ 7302250) (k : ∀ Gk : gh, lwS D B A Gk → V F 4 Gk (ce + 120) (sl + 360) 923 [(3, .int (iI i)), (2, .ref (A 0)), (1, .ref (B 0)), (0, .ref b)] []) : V F 4 G ce sl 236 [(3, .int (iI i)), (2, .ref (A 0)), (1, .ref (B 0)), (0, .ref b)] [] := by
  obtain ⟨now, hist, km, rd, reel, ho, hmq, hcq⟩ := hI
  have hNo := Nok_NN hcq hmq
  obtain ⟨fsx, hbx⟩ := hcq.b0
  refine r_aload_n S dL_law_236 2 rfl ?_
  refine r_aload_n S dL_law_237 3 rfl ?_
  refine r_iload_n S dL_law_238 0 rfl ?_
  refine r_iconst S dL_law_239 ?_
  refine r_iadd S dL_law_240 ?_
  refine r_sld hX hb hL S (by omega) (by omega) dL_law_241 ?_
  refine (c_V_T (As := [.int (iI (sx xs (i + 1)))]) (st := []) S (kX10_reel hcq (fun _ h => Or.inl h) ho.2.2.2.1 (sx_R _ _)) moX10_reel ⟨by decide, by decide⟩ ⟨(by show _ ≤ 600000; omega), (by show _ ≤ 7302250; omega)⟩ rfl (Nat.le_of_ble_eq_true rfl) w222 w223 w224 hbx rfl rfl dL_law_242).goI S hb hwB (fun zx Gx hxx hcx => ?_)
  refine r_aload_n S dL_law_245 1 rfl ?_
  refine r_aload_n S dL_law_246 3 rfl ?_
  refine r_iload_n S dL_law_247 0 rfl ?_
  refine r_iconst S dL_law_248 ?_
  refine r_iadd S dL_law_249 ?_
  refine r_sld hX hb hL S (by omega) (by omega) dL_law_250 ?_
  have hmq1 := hmq.keep hxx ha.m
  obtain ⟨fsm, hbm⟩ := hmq1.b0
  refine (c_V_T (As := [.int (iI (sx xs (i + 1)))]) (st := [.int (iI zx)]) S (kX11_reel hmq1 ho.1 ho.2.2.2.1 (sx_R _ _)) moX11_reel ⟨by decide, by decide⟩ ⟨(by show _ ≤ 600000; omega), (by show _ ≤ 7302250; omega)⟩ rfl (Nat.le_of_ble_eq_true rfl) w819 w820 w821 hbm rfl rfl dL_law_251).goI S hb hwA (fun zm Gm hxm hcm => ?_)
  obtain ⟨ez, hs⟩ := st_reel ho hcx hcm hxm ha
  subst ez
  refine r_icmp_eqS S 923 dL_law_254 (by decide) ?_
  exact V.widen (by omega) (by omega) (k Gm hs)

set_option maxRecDepth 20000 in
set_option maxHeartbeats 2000000 in
theorem lc_3 {F : fxT} {D : va_G} {A B : Nat → Nat} {G : gh} {ce sl : Nat} {b L : Nat} {xs : Nat → Int32} {i : Int} (S : FX F code 4 "PostageCounterLaw" room_1 D) (hb : fMut F) (hX : scX F b L xs) (hL : L ≤ 3072) (hwB : ∀ x, cM B x → wr F x) (hwA : ∀ x, mM A x → wr F x) (ha : apB B A) (hI : lwS D B A G) (h0 : 0 ≤ i) (hi : i + 6 ≤ L) (hce : ce + 120 ≤ 600000) (hsl : sl + 360 ≤ 7302250) (k : ∀ Gk : gh, lwS D B A Gk → V F 4 Gk (ce + 120) (sl + 360) 923 [(3, .int (iI i)), (2, .ref (A 0)), (1, .ref (B 0)), (0, .ref b)] []) : V F 4 G ce sl 259 [(3, .int (iI i)), (2, .ref (A 0)), (1, .ref (B 0)), (0, .ref b)] [] := by
  obtain ⟨now, hist, km, rd, reel, ho, hmq, hcq⟩ := hI
  have hNo := Nok_NN hcq hmq
  obtain ⟨fsx, hbx⟩ := hcq.b0
  refine r_aload_n S dL_law_259 2 rfl ?_
  refine r_aload_n S dL_law_260 3 rfl ?_
  refine r_iload_n S dL_law_261 0 rfl ?_
  refine r_iconst S dL_law_262 ?_
  refine r_iadd S dL_law_263 ?_
  refine r_sld hX hb hL S (by omega) (by omega) dL_law_264 ?_
  refine (c_V_T (As := [.int (iI (sx xs (i + 1)))]) (st := []) S (kX10_strip hcq (fun _ h => Or.inl h) hNo ho.1 ho.2.2.1 ho.2.2.2.1 (sx_R _ _)) moX10_strip ⟨by decide, by decide⟩ ⟨(by show _ ≤ 600000; omega), (by show _ ≤ 7302250; omega)⟩ rfl (Nat.le_of_ble_eq_true rfl) w226 w227 w228 hbx rfl rfl dL_law_265).goI S hb hwB (fun zx Gx hxx hcx => ?_)
  refine r_aload_n S dL_law_268 1 rfl ?_
  refine r_aload_n S dL_law_269 3 rfl ?_
  refine r_iload_n S dL_law_270 0 rfl ?_
  refine r_iconst S dL_law_271 ?_
  refine r_iadd S dL_law_272 ?_
  refine r_sld hX hb hL S (by omega) (by omega) dL_law_273 ?_
  have hmq1 := hmq.keep hxx ha.m
  obtain ⟨fsm, hbm⟩ := hmq1.b0
  refine (c_V_T (As := [.int (iI (sx xs (i + 1)))]) (st := [.int (iI zx)]) S (kX11_strip hmq1 ho.1 ho.2.2.2.1 (sx_R _ _)) moX11_strip ⟨by decide, by decide⟩ ⟨(by show _ ≤ 600000; omega), (by show _ ≤ 7302250; omega)⟩ rfl (Nat.le_of_ble_eq_true rfl) w823 w824 w825 hbm rfl rfl dL_law_274).goI S hb hwA (fun zm Gm hxm hcm => ?_)
  obtain ⟨ez, hs⟩ := st_endS ho (strip_ok ho) hcx hcm hxm ha
  subst ez
  refine r_icmp_eqS S 923 dL_law_277 (by decide) ?_
  exact V.widen (by omega) (by omega) (k Gm hs)

set_option maxRecDepth 20000 in
set_option maxHeartbeats 2000000 in
theorem lc_4 {F : fxT} {D : va_G} {A B : Nat → Nat} {G : gh} {ce sl : Nat} {b L : Nat} {xs : Nat → Int32} {i : Int} (S : FX F code 4 "PostageCounterLaw" room_1 D) (hb : fMut F) (hX : scX F b L xs) (hL : L ≤ 3072) (hwB : ∀ x, cM B x → wr F x) (hwA : ∀ x, mM A x → wr F x) (ha : apB B A) (hI : lwS D B A G) (h0 : 0 ≤ i) (hi : i + 6 ≤ L) (hce : ce + 120 ≤ 600000) (hsl : sl + 360 ≤ 7302250) (k : ∀ Gk : gh, lwS D B A Gk → V F 4 Gk (ce + 120) (sl + 360) 923 [(3, .int (iI i)), (2, .ref (A 0)), (1, .ref (B 0)), (0, .ref b)] []) : V F 4 G ce sl 282 [(3, .int (iI i)), (2, .ref (A 0)), (1, .ref (B 0)), (0, .ref b)] [] := by
  obtain ⟨now, hist, km, rd, reel, ho, hmq, hcq⟩ := hI
  have hNo := Nok_NN hcq hmq
  obtain ⟨fsx, hbx⟩ := hcq.b0
  refine r_aload_n S dL_law_282 2 rfl ?_
  refine r_aload_n S dL_law_283 3 rfl ?_
  refine r_iload_n S dL_law_284 0 rfl ?_
  refine r_iconst S dL_law_285 ?_
  refine r_iadd S dL_law_286 ?_
  refine r_sld hX hb hL S (by omega) (by omega) dL_law_287 ?_
  refine r_aload_n S dL_law_288 3 rfl ?_
  refine r_iload_n S dL_law_289 0 rfl ?_
  refine r_iconst S dL_law_290 ?_
  refine r_iadd S dL_law_291 ?_
  refine r_sld hX hb hL S (by omega) (by omega) dL_law_292 ?_
  refine r_aload_n S dL_law_293 3 rfl ?_
  refine r_iload_n S dL_law_294 0 rfl ?_
  refine r_iconst S dL_law_295 ?_
  refine r_iadd S dL_law_296 ?_
  refine r_sld hX hb hL S (by omega) (by omega) dL_law_297 ?_
  refine r_aload_n S dL_law_298 3 rfl ?_
  refine r_iload_n S dL_law_299 0 rfl ?_
  refine r_iconst S dL_law_300 ?_
  refine r_iadd S dL_law_301 ?_
  refine r_sld hX hb hL S (by omega) (by omega) dL_law_302 ?_
  refine r_aload_n S dL_law_303 3 rfl ?_
  refine r_iload_n S dL_law_304 0 rfl ?_
  refine r_iconst S dL_law_305 ?_
  refine r_iadd S dL_law_306 ?_
  refine r_sld hX hb hL S (by omega) (by omega) dL_law_307 ?_
  refine (c_V_T (As := [.int (iI (sx xs (i + 1))), .int (iI (sx xs (i + 2))), .int (iI (sx xs (i + 3))), .int (iI (sx xs (i + 4))), .int (iI (sx xs (i + 5)))]) (st := []) S (kX10_sheet hcq (fun _ h => Or.inl h) hNo ho.1 ho.2.2.1 (sx_R _ _) (sx_R _ _) (sx_R _ _) (sx_R _ _) (sx_R _ _)) moX10_sheet ⟨by decide, by decide⟩ ⟨(by show _ ≤ 600000; omega), (by show _ ≤ 7302250; omega)⟩ rfl (Nat.le_of_ble_eq_true rfl) w249 w250 w251 hbx rfl rfl dL_law_308).goI S hb hwB (fun zx Gx hxx hcx => ?_)
  refine r_aload_n S dL_law_311 1 rfl ?_
  refine r_aload_n S dL_law_312 3 rfl ?_
  refine r_iload_n S dL_law_313 0 rfl ?_
  refine r_iconst S dL_law_314 ?_
  refine r_iadd S dL_law_315 ?_
  refine r_sld hX hb hL S (by omega) (by omega) dL_law_316 ?_
  refine r_aload_n S dL_law_317 3 rfl ?_
  refine r_iload_n S dL_law_318 0 rfl ?_
  refine r_iconst S dL_law_319 ?_
  refine r_iadd S dL_law_320 ?_
  refine r_sld hX hb hL S (by omega) (by omega) dL_law_321 ?_
  refine r_aload_n S dL_law_322 3 rfl ?_
  refine r_iload_n S dL_law_323 0 rfl ?_
  refine r_iconst S dL_law_324 ?_
  refine r_iadd S dL_law_325 ?_
  refine r_sld hX hb hL S (by omega) (by omega) dL_law_326 ?_
  refine r_aload_n S dL_law_327 3 rfl ?_
  refine r_iload_n S dL_law_328 0 rfl ?_
  refine r_iconst S dL_law_329 ?_
  refine r_iadd S dL_law_330 ?_
  refine r_sld hX hb hL S (by omega) (by omega) dL_law_331 ?_
  refine r_aload_n S dL_law_332 3 rfl ?_
  refine r_iload_n S dL_law_333 0 rfl ?_
  refine r_iconst S dL_law_334 ?_
  refine r_iadd S dL_law_335 ?_
  refine r_sld hX hb hL S (by omega) (by omega) dL_law_336 ?_
  have hmq1 := hmq.keep hxx ha.m
  obtain ⟨fsm, hbm⟩ := hmq1.b0
  refine (c_V_T (As := [.int (iI (sx xs (i + 1))), .int (iI (sx xs (i + 2))), .int (iI (sx xs (i + 3))), .int (iI (sx xs (i + 4))), .int (iI (sx xs (i + 5)))]) (st := [.int (iI zx)]) S (kX11_sheet hmq1 ho.1 (sx_R _ _) (sx_R _ _) (sx_R _ _) (sx_R _ _) (sx_R _ _)) moX11_sheet ⟨by decide, by decide⟩ ⟨(by show _ ≤ 600000; omega), (by show _ ≤ 7302250; omega)⟩ rfl (Nat.le_of_ble_eq_true rfl) w831 w832 w833 hbm rfl rfl dL_law_337).goI S hb hwA (fun zm Gm hxm hcm => ?_)
  obtain ⟨ez, hs⟩ := st_end ho (sheet_ok ho.1) hcx hcm hxm ha
  subst ez
  refine r_icmp_eqS S 923 dL_law_340 (by decide) ?_
  exact V.widen (by omega) (by omega) (k Gm hs)

set_option maxRecDepth 20000 in
set_option maxHeartbeats 2000000 in
theorem lc_5 {F : fxT} {D : va_G} {A B : Nat → Nat} {G : gh} {ce sl : Nat} {b L : Nat} {xs : Nat → Int32} {i : Int} (S : FX F code 4 "PostageCounterLaw" room_1 D) (hb : fMut F) (hX : scX F b L xs) (hL : L ≤ 3072) (hwB : ∀ x, cM B x → wr F x) (hwA : ∀ x, mM A x → wr F x) (ha : apB B A) (hI : lwS D B A G) (h0 : 0 ≤ i) (hi : i + 6 ≤ L) (hce : ce + 120 ≤ 600000) (hsl : sl + 360 ≤ 7302250) (k : ∀ Gk : gh, lwS D B A Gk → V F 4 Gk (ce + 120) (sl + 360) 923 [(3, .int (iI i)), (2, .ref (A 0)), (1, .ref (B 0)), (0, .ref b)] []) : V F 4 G ce sl 345 [(3, .int (iI i)), (2, .ref (A 0)), (1, .ref (B 0)), (0, .ref b)] [] := by
  obtain ⟨now, hist, km, rd, reel, ho, hmq, hcq⟩ := hI
  have hNo := Nok_NN hcq hmq
  obtain ⟨fsx, hbx⟩ := hcq.b0
  refine r_aload_n S dL_law_345 2 rfl ?_
  refine r_aload_n S dL_law_346 3 rfl ?_
  refine r_iload_n S dL_law_347 0 rfl ?_
  refine r_iconst S dL_law_348 ?_
  refine r_iadd S dL_law_349 ?_
  refine r_sld hX hb hL S (by omega) (by omega) dL_law_350 ?_
  refine r_aload_n S dL_law_351 3 rfl ?_
  refine r_iload_n S dL_law_352 0 rfl ?_
  refine r_iconst S dL_law_353 ?_
  refine r_iadd S dL_law_354 ?_
  refine r_sld hX hb hL S (by omega) (by omega) dL_law_355 ?_
  refine (c_V_T (As := [.int (iI (sx xs (i + 1))), .int (iI (sx xs (i + 2)))]) (st := []) S (kX10_lack hcq (fun _ h => Or.inl h) hNo ho.1 ho.2.2.1 (sx_R _ _) (sx_R _ _)) moX10_lack ⟨by decide, by decide⟩ ⟨(by show _ ≤ 600000; omega), (by show _ ≤ 7302250; omega)⟩ rfl (Nat.le_of_ble_eq_true rfl) w311 w312 w313 hbx rfl rfl dL_law_356).goI S hb hwB (fun zx Gx hxx hcx => ?_)
  refine r_aload_n S dL_law_359 1 rfl ?_
  refine r_aload_n S dL_law_360 3 rfl ?_
  refine r_iload_n S dL_law_361 0 rfl ?_
  refine r_iconst S dL_law_362 ?_
  refine r_iadd S dL_law_363 ?_
  refine r_sld hX hb hL S (by omega) (by omega) dL_law_364 ?_
  refine r_aload_n S dL_law_365 3 rfl ?_
  refine r_iload_n S dL_law_366 0 rfl ?_
  refine r_iconst S dL_law_367 ?_
  refine r_iadd S dL_law_368 ?_
  refine r_sld hX hb hL S (by omega) (by omega) dL_law_369 ?_
  have hmq1 := hmq.keep hxx ha.m
  obtain ⟨fsm, hbm⟩ := hmq1.b0
  refine (c_V_T (As := [.int (iI (sx xs (i + 1))), .int (iI (sx xs (i + 2)))]) (st := [.int (iI zx)]) S (kX11_lack hmq1 ho.1 (sx_R _ _) (sx_R _ _)) moX11_lack ⟨by decide, by decide⟩ ⟨(by show _ ≤ 600000; omega), (by show _ ≤ 7302250; omega)⟩ rfl (Nat.le_of_ble_eq_true rfl) w835 w836 w837 hbm rfl rfl dL_law_370).goI S hb hwA (fun zm Gm hxm hcm => ?_)
  obtain ⟨ez, hs⟩ := st_end ho (lack_ok ho.1) hcx hcm hxm ha
  subst ez
  refine r_icmp_eqS S 923 dL_law_373 (by decide) ?_
  exact V.widen (by omega) (by omega) (k Gm hs)

set_option maxRecDepth 20000 in
set_option maxHeartbeats 2000000 in
theorem lc_6 {F : fxT} {D : va_G} {A B : Nat → Nat} {G : gh} {ce sl : Nat} {b L : Nat} {xs : Nat → Int32} {i : Int} (S : FX F code 4 "PostageCounterLaw" room_1 D) (hb : fMut F) (hX : scX F b L xs) (hL : L ≤ 3072) (hwB : ∀ x, cM B x → wr F x) (hwA : ∀ x, mM A x → wr F x) (ha : apB B A) (hI : lwS D B A G) (h0 : 0 ≤ i) (hi : i + 6 ≤ L) (hce : ce + 120 ≤ 600000) (hsl : sl + 360 ≤ 7302250) (k : ∀ Gk : gh, lwS D B A Gk → V F 4 Gk (ce + 120) (sl + 360) 923 [(3, .int (iI i)), (2, .ref (A 0)), (1, .ref (B 0)), (0, .ref b)] []) : V F 4 G ce sl 378 [(3, .int (iI i)), (2, .ref (A 0)), (1, .ref (B 0)), (0, .ref b)] [] := by
  obtain ⟨now, hist, km, rd, reel, ho, hmq, hcq⟩ := hI
  have hNo := Nok_NN hcq hmq
  obtain ⟨fsx, hbx⟩ := hcq.b0
  refine r_aload_n S dL_law_378 2 rfl ?_
  refine r_aload_n S dL_law_379 3 rfl ?_
  refine r_iload_n S dL_law_380 0 rfl ?_
  refine r_iconst S dL_law_381 ?_
  refine r_iadd S dL_law_382 ?_
  refine r_sld hX hb hL S (by omega) (by omega) dL_law_383 ?_
  refine (c_V_T (As := [.int (iI (sx xs (i + 1)))]) (st := []) S (kX10_clear hcq (fun _ h => Or.inl h) hNo ho.1 ho.2.2.1 (sx_R _ _)) moX10_clear ⟨by decide, by decide⟩ ⟨(by show _ ≤ 600000; omega), (by show _ ≤ 7302250; omega)⟩ rfl (Nat.le_of_ble_eq_true rfl) w341 w342 w343 hbx rfl rfl dL_law_384).goI S hb hwB (fun zx Gx hxx hcx => ?_)
  refine r_aload_n S dL_law_387 1 rfl ?_
  refine r_aload_n S dL_law_388 3 rfl ?_
  refine r_iload_n S dL_law_389 0 rfl ?_
  refine r_iconst S dL_law_390 ?_
  refine r_iadd S dL_law_391 ?_
  refine r_sld hX hb hL S (by omega) (by omega) dL_law_392 ?_
  have hmq1 := hmq.keep hxx ha.m
  obtain ⟨fsm, hbm⟩ := hmq1.b0
  refine (c_V_T (As := [.int (iI (sx xs (i + 1)))]) (st := [.int (iI zx)]) S (kX11_clear hmq1 ho.1 (sx_R _ _)) moX11_clear ⟨by decide, by decide⟩ ⟨(by show _ ≤ 600000; omega), (by show _ ≤ 7302250; omega)⟩ rfl (Nat.le_of_ble_eq_true rfl) w843 w844 w845 hbm rfl rfl dL_law_393).goI S hb hwA (fun zm Gm hxm hcm => ?_)
  obtain ⟨ez, hs⟩ := st_end ho (clear_ok ho.1) hcx hcm hxm ha
  subst ez
  refine r_icmp_eqS S 923 dL_law_396 (by decide) ?_
  exact V.widen (by omega) (by omega) (k Gm hs)

set_option maxRecDepth 20000 in
set_option maxHeartbeats 2000000 in
theorem lc_7 {F : fxT} {D : va_G} {A B : Nat → Nat} {G : gh} {ce sl : Nat} {b L : Nat} {xs : Nat → Int32} {i : Int} (S : FX F code 4 "PostageCounterLaw" room_1 D) (hb : fMut F) (hX : scX F b L xs) (hL : L ≤ 3072) (hwB : ∀ x, cM B x → wr F x) (hwA : ∀ x, mM A x → wr F x) (ha : apB B A) (hI : lwS D B A G) (h0 : 0 ≤ i) (hi : i + 6 ≤ L) (hce : ce + 120 ≤ 600000) (hsl : sl + 360 ≤ 7302250) (k : ∀ Gk : gh, lwS D B A Gk → V F 4 Gk (ce + 120) (sl + 360) 923 [(3, .int (iI i)), (2, .ref (A 0)), (1, .ref (B 0)), (0, .ref b)] []) : V F 4 G ce sl 401 [(3, .int (iI i)), (2, .ref (A 0)), (1, .ref (B 0)), (0, .ref b)] [] := by
  obtain ⟨now, hist, km, rd, reel, ho, hmq, hcq⟩ := hI
  have hNo := Nok_NN hcq hmq
  obtain ⟨fsx, hbx⟩ := hcq.b0
  refine r_aload_n S dL_law_401 2 rfl ?_
  refine r_aload_n S dL_law_402 3 rfl ?_
  refine r_iload_n S dL_law_403 0 rfl ?_
  refine r_iconst S dL_law_404 ?_
  refine r_iadd S dL_law_405 ?_
  refine r_sld hX hb hL S (by omega) (by omega) dL_law_406 ?_
  refine r_aload_n S dL_law_407 3 rfl ?_
  refine r_iload_n S dL_law_408 0 rfl ?_
  refine r_iconst S dL_law_409 ?_
  refine r_iadd S dL_law_410 ?_
  refine r_sld hX hb hL S (by omega) (by omega) dL_law_411 ?_
  refine r_aload_n S dL_law_412 3 rfl ?_
  refine r_iload_n S dL_law_413 0 rfl ?_
  refine r_iconst S dL_law_414 ?_
  refine r_iadd S dL_law_415 ?_
  refine r_sld hX hb hL S (by omega) (by omega) dL_law_416 ?_
  refine r_aload_n S dL_law_417 3 rfl ?_
  refine r_iload_n S dL_law_418 0 rfl ?_
  refine r_iconst S dL_law_419 ?_
  refine r_iadd S dL_law_420 ?_
  refine r_sld hX hb hL S (by omega) (by omega) dL_law_421 ?_
  refine (c_V_P (As := [.int (iI (sx xs (i + 1))), .int (iI (sx xs (i + 2))), .int (iI (sx xs (i + 3))), .int (iI (sx xs (i + 4)))]) (st := []) S (kX10_look hcq ho.1 (sx_R _ _) (sx_R _ _) (sx_R _ _) (sx_R _ _)) moX10_look ⟨by decide, by decide⟩ ⟨(by show _ ≤ 600000; omega), (by show _ ≤ 7302250; omega)⟩ rfl (Nat.le_of_ble_eq_true rfl) w345 w346 w347 hbx rfl rfl dL_law_422).goI (fun zx hcx => ?_)
  refine r_aload_n S dL_law_425 1 rfl ?_
  refine r_aload_n S dL_law_426 3 rfl ?_
  refine r_iload_n S dL_law_427 0 rfl ?_
  refine r_iconst S dL_law_428 ?_
  refine r_iadd S dL_law_429 ?_
  refine r_sld hX hb hL S (by omega) (by omega) dL_law_430 ?_
  refine r_aload_n S dL_law_431 3 rfl ?_
  refine r_iload_n S dL_law_432 0 rfl ?_
  refine r_iconst S dL_law_433 ?_
  refine r_iadd S dL_law_434 ?_
  refine r_sld hX hb hL S (by omega) (by omega) dL_law_435 ?_
  refine r_aload_n S dL_law_436 3 rfl ?_
  refine r_iload_n S dL_law_437 0 rfl ?_
  refine r_iconst S dL_law_438 ?_
  refine r_iadd S dL_law_439 ?_
  refine r_sld hX hb hL S (by omega) (by omega) dL_law_440 ?_
  refine r_aload_n S dL_law_441 3 rfl ?_
  refine r_iload_n S dL_law_442 0 rfl ?_
  refine r_iconst S dL_law_443 ?_
  refine r_iadd S dL_law_444 ?_
  refine r_sld hX hb hL S (by omega) (by omega) dL_law_445 ?_
  have hmq1 := hmq
  obtain ⟨fsm, hbm⟩ := hmq1.b0
  refine (c_V_T (As := [.int (iI (sx xs (i + 1))), .int (iI (sx xs (i + 2))), .int (iI (sx xs (i + 3))), .int (iI (sx xs (i + 4)))]) (st := [.int (iI zx)]) S (kX11_look hmq1 ho.1 (sx_R _ _) (sx_R _ _) (sx_R _ _) (sx_R _ _)) moX11_look ⟨by decide, by decide⟩ ⟨(by show _ ≤ 600000; omega), (by show _ ≤ 7302250; omega)⟩ rfl (Nat.le_of_ble_eq_true rfl) w847 w848 w849 hbm rfl rfl dL_law_446).goI S hb hwA (fun zm Gm hxm hcm => ?_)
  obtain ⟨ez, hs⟩ := st_look ho hcx hcq hcm hxm ha
  subst ez
  refine r_icmp_eqS S 923 dL_law_449 (by decide) ?_
  exact V.widen (by omega) (by omega) (k Gm hs)

set_option maxRecDepth 20000 in
set_option maxHeartbeats 2000000 in
theorem lc_8 {F : fxT} {D : va_G} {A B : Nat → Nat} {G : gh} {ce sl : Nat} {b L : Nat} {xs : Nat → Int32} {i : Int} (S : FX F code 4 "PostageCounterLaw" room_1 D) (hb : fMut F) (hX : scX F b L xs) (hL : L ≤ 3072) (hwB : ∀ x, cM B x → wr F x) (hwA : ∀ x, mM A x → wr F x) (ha : apB B A) (hI : lwS D B A G) (h0 : 0 ≤ i) (hi : i + 6 ≤ L) (hce : ce + 120 ≤ 600000) (hsl : sl + 360 ≤ 7302250) (k : ∀ Gk : gh, lwS D B A Gk → V F 4 Gk (ce + 120) (sl + 360) 923 [(3, .int (iI i)), (2, .ref (A 0)), (1, .ref (B 0)), (0, .ref b)] []) : V F 4 G ce sl 454 [(3, .int (iI i)), (2, .ref (A 0)), (1, .ref (B 0)), (0, .ref b)] [] := by
  obtain ⟨now, hist, km, rd, reel, ho, hmq, hcq⟩ := hI
  have hNo := Nok_NN hcq hmq
  obtain ⟨fsx, hbx⟩ := hcq.b0
  refine r_aload_n S dL_law_454 2 rfl ?_
  refine r_aload_n S dL_law_455 3 rfl ?_
  refine r_iload_n S dL_law_456 0 rfl ?_
  refine r_iconst S dL_law_457 ?_
  refine r_iadd S dL_law_458 ?_
  refine r_sld hX hb hL S (by omega) (by omega) dL_law_459 ?_
  refine r_aload_n S dL_law_460 3 rfl ?_
  refine r_iload_n S dL_law_461 0 rfl ?_
  refine r_iconst S dL_law_462 ?_
  refine r_iadd S dL_law_463 ?_
  refine r_sld hX hb hL S (by omega) (by omega) dL_law_464 ?_
  refine (c_V_P (As := [.int (iI (sx xs (i + 1))), .int (iI (sx xs (i + 2)))]) (st := []) S (kX10_holding hcq ho.1 (sx_R _ _) (sx_R _ _)) moX10_holding ⟨by decide, by decide⟩ ⟨(by show _ ≤ 600000; omega), (by show _ ≤ 7302250; omega)⟩ rfl (Nat.le_of_ble_eq_true rfl) w374 w375 w376 hbx rfl rfl dL_law_465).goI (fun zx hcx => ?_)
  refine r_aload_n S dL_law_468 1 rfl ?_
  refine r_aload_n S dL_law_469 3 rfl ?_
  refine r_iload_n S dL_law_470 0 rfl ?_
  refine r_iconst S dL_law_471 ?_
  refine r_iadd S dL_law_472 ?_
  refine r_sld hX hb hL S (by omega) (by omega) dL_law_473 ?_
  refine r_aload_n S dL_law_474 3 rfl ?_
  refine r_iload_n S dL_law_475 0 rfl ?_
  refine r_iconst S dL_law_476 ?_
  refine r_iadd S dL_law_477 ?_
  refine r_sld hX hb hL S (by omega) (by omega) dL_law_478 ?_
  have hmq1 := hmq
  obtain ⟨fsm, hbm⟩ := hmq1.b0
  refine (c_V_T (As := [.int (iI (sx xs (i + 1))), .int (iI (sx xs (i + 2)))]) (st := [.int (iI zx)]) S (kX11_holding hmq1 ho.1 (sx_R _ _) (sx_R _ _)) moX11_holding ⟨by decide, by decide⟩ ⟨(by show _ ≤ 600000; omega), (by show _ ≤ 7302250; omega)⟩ rfl (Nat.le_of_ble_eq_true rfl) w855 w856 w857 hbm rfl rfl dL_law_479).goI S hb hwA (fun zm Gm hxm hcm => ?_)
  obtain ⟨ez, hs⟩ := st_same ho hcx hcq hcm hxm ha
  subst ez
  refine r_icmp_eqS S 923 dL_law_482 (by decide) ?_
  exact V.widen (by omega) (by omega) (k Gm hs)

set_option maxRecDepth 20000 in
set_option maxHeartbeats 2000000 in
theorem lc_9 {F : fxT} {D : va_G} {A B : Nat → Nat} {G : gh} {ce sl : Nat} {b L : Nat} {xs : Nat → Int32} {i : Int} (S : FX F code 4 "PostageCounterLaw" room_1 D) (hb : fMut F) (hX : scX F b L xs) (hL : L ≤ 3072) (hwB : ∀ x, cM B x → wr F x) (hwA : ∀ x, mM A x → wr F x) (ha : apB B A) (hI : lwS D B A G) (h0 : 0 ≤ i) (hi : i + 6 ≤ L) (hce : ce + 120 ≤ 600000) (hsl : sl + 360 ≤ 7302250) (k : ∀ Gk : gh, lwS D B A Gk → V F 4 Gk (ce + 120) (sl + 360) 923 [(3, .int (iI i)), (2, .ref (A 0)), (1, .ref (B 0)), (0, .ref b)] []) : V F 4 G ce sl 487 [(3, .int (iI i)), (2, .ref (A 0)), (1, .ref (B 0)), (0, .ref b)] [] := by
  obtain ⟨now, hist, km, rd, reel, ho, hmq, hcq⟩ := hI
  have hNo := Nok_NN hcq hmq
  obtain ⟨fsx, hbx⟩ := hcq.b0
  refine r_aload_n S dL_law_487 2 rfl ?_
  refine r_aload_n S dL_law_488 3 rfl ?_
  refine r_iload_n S dL_law_489 0 rfl ?_
  refine r_iconst S dL_law_490 ?_
  refine r_iadd S dL_law_491 ?_
  refine r_sld hX hb hL S (by omega) (by omega) dL_law_492 ?_
  refine r_aload_n S dL_law_493 3 rfl ?_
  refine r_iload_n S dL_law_494 0 rfl ?_
  refine r_iconst S dL_law_495 ?_
  refine r_iadd S dL_law_496 ?_
  refine r_sld hX hb hL S (by omega) (by omega) dL_law_497 ?_
  refine r_aload_n S dL_law_498 3 rfl ?_
  refine r_iload_n S dL_law_499 0 rfl ?_
  refine r_iconst S dL_law_500 ?_
  refine r_iadd S dL_law_501 ?_
  refine r_sld hX hb hL S (by omega) (by omega) dL_law_502 ?_
  refine (c_V_T (As := [.int (iI (sx xs (i + 1))), .int (iI (sx xs (i + 2))), .int (iI (sx xs (i + 3)))]) (st := []) S (kX10_rate hcq (fun _ h => Or.inl h) hNo ho.1 ho.2.2.1 (sx_R _ _) (sx_R _ _) (sx_R _ _)) moX10_rate ⟨by decide, by decide⟩ ⟨(by show _ ≤ 600000; omega), (by show _ ≤ 7302250; omega)⟩ rfl (Nat.le_of_ble_eq_true rfl) w428 w429 w430 hbx rfl rfl dL_law_503).goI S hb hwB (fun zx Gx hxx hcx => ?_)
  refine r_aload_n S dL_law_506 1 rfl ?_
  refine r_aload_n S dL_law_507 3 rfl ?_
  refine r_iload_n S dL_law_508 0 rfl ?_
  refine r_iconst S dL_law_509 ?_
  refine r_iadd S dL_law_510 ?_
  refine r_sld hX hb hL S (by omega) (by omega) dL_law_511 ?_
  refine r_aload_n S dL_law_512 3 rfl ?_
  refine r_iload_n S dL_law_513 0 rfl ?_
  refine r_iconst S dL_law_514 ?_
  refine r_iadd S dL_law_515 ?_
  refine r_sld hX hb hL S (by omega) (by omega) dL_law_516 ?_
  refine r_aload_n S dL_law_517 3 rfl ?_
  refine r_iload_n S dL_law_518 0 rfl ?_
  refine r_iconst S dL_law_519 ?_
  refine r_iadd S dL_law_520 ?_
  refine r_sld hX hb hL S (by omega) (by omega) dL_law_521 ?_
  have hmq1 := hmq.keep hxx ha.m
  obtain ⟨fsm, hbm⟩ := hmq1.b0
  refine (c_V_T (As := [.int (iI (sx xs (i + 1))), .int (iI (sx xs (i + 2))), .int (iI (sx xs (i + 3)))]) (st := [.int (iI zx)]) S (kX11_rate hmq1 ho.1 (sx_R _ _) (sx_R _ _) (sx_R _ _)) moX11_rate ⟨by decide, by decide⟩ ⟨(by show _ ≤ 600000; omega), (by show _ ≤ 7302250; omega)⟩ rfl (Nat.le_of_ble_eq_true rfl) w883 w884 w885 hbm rfl rfl dL_law_522).goI S hb hwA (fun zm Gm hxm hcm => ?_)
  obtain ⟨ez, hs⟩ := st_end ho (rate_ok ho.1) hcx hcm hxm ha
  subst ez
  refine r_icmp_eqS S 923 dL_law_525 (by decide) ?_
  exact V.widen (by omega) (by omega) (k Gm hs)

set_option maxRecDepth 20000 in
set_option maxHeartbeats 2000000 in
theorem lc_10 {F : fxT} {D : va_G} {A B : Nat → Nat} {G : gh} {ce sl : Nat} {b L : Nat} {xs : Nat → Int32} {i : Int} (S : FX F code 4 "PostageCounterLaw" room_1 D) (hb : fMut F) (hX : scX F b L xs) (hL : L ≤ 3072) (hwB : ∀ x, cM B x → wr F x) (hwA : ∀ x, mM A x → wr F x) (ha : apB B A) (hI : lwS D B A G) (h0 : 0 ≤ i) (hi : i + 6 ≤ L) (hce : ce + 120 ≤ 600000) (hsl : sl + 360 ≤ 7302250) (k : ∀ Gk : gh, lwS D B A Gk → V F 4 Gk (ce + 120) (sl + 360) 923 [(3, .int (iI i)), (2, .ref (A 0)), (1, .ref (B 0)), (0, .ref b)] []) : V F 4 G ce sl 530 [(3, .int (iI i)), (2, .ref (A 0)), (1, .ref (B 0)), (0, .ref b)] [] := by
  obtain ⟨now, hist, km, rd, reel, ho, hmq, hcq⟩ := hI
  have hNo := Nok_NN hcq hmq
  obtain ⟨fsx, hbx⟩ := hcq.b0
  refine r_aload_n S dL_law_530 2 rfl ?_
  refine r_aload_n S dL_law_531 3 rfl ?_
  refine r_iload_n S dL_law_532 0 rfl ?_
  refine r_iconst S dL_law_533 ?_
  refine r_iadd S dL_law_534 ?_
  refine r_sld hX hb hL S (by omega) (by omega) dL_law_535 ?_
  refine r_aload_n S dL_law_536 3 rfl ?_
  refine r_iload_n S dL_law_537 0 rfl ?_
  refine r_iconst S dL_law_538 ?_
  refine r_iadd S dL_law_539 ?_
  refine r_sld hX hb hL S (by omega) (by omega) dL_law_540 ?_
  refine (c_V_T (As := [.int (iI (sx xs (i + 1))), .int (iI (sx xs (i + 2)))]) (st := []) S (kX10_extra hcq (fun _ h => Or.inl h) hNo ho.1 ho.2.2.1 (sx_R _ _) (sx_R _ _)) moX10_extra ⟨by decide, by decide⟩ ⟨(by show _ ≤ 600000; omega), (by show _ ≤ 7302250; omega)⟩ rfl (Nat.le_of_ble_eq_true rfl) w454 w455 w456 hbx rfl rfl dL_law_541).goI S hb hwB (fun zx Gx hxx hcx => ?_)
  refine r_aload_n S dL_law_544 1 rfl ?_
  refine r_aload_n S dL_law_545 3 rfl ?_
  refine r_iload_n S dL_law_546 0 rfl ?_
  refine r_iconst S dL_law_547 ?_
  refine r_iadd S dL_law_548 ?_
  refine r_sld hX hb hL S (by omega) (by omega) dL_law_549 ?_
  refine r_aload_n S dL_law_550 3 rfl ?_
  refine r_iload_n S dL_law_551 0 rfl ?_
  refine r_iconst S dL_law_552 ?_
  refine r_iadd S dL_law_553 ?_
  refine r_sld hX hb hL S (by omega) (by omega) dL_law_554 ?_
  have hmq1 := hmq.keep hxx ha.m
  obtain ⟨fsm, hbm⟩ := hmq1.b0
  refine (c_V_T (As := [.int (iI (sx xs (i + 1))), .int (iI (sx xs (i + 2)))]) (st := [.int (iI zx)]) S (kX11_extra hmq1 ho.1 (sx_R _ _) (sx_R _ _)) moX11_extra ⟨by decide, by decide⟩ ⟨(by show _ ≤ 600000; omega), (by show _ ≤ 7302250; omega)⟩ rfl (Nat.le_of_ble_eq_true rfl) w887 w888 w889 hbm rfl rfl dL_law_555).goI S hb hwA (fun zm Gm hxm hcm => ?_)
  obtain ⟨ez, hs⟩ := st_end ho (extra_ok ho.1) hcx hcm hxm ha
  subst ez
  refine r_icmp_eqS S 923 dL_law_558 (by decide) ?_
  exact V.widen (by omega) (by omega) (k Gm hs)

set_option maxRecDepth 20000 in
set_option maxHeartbeats 2000000 in
theorem lc_11 {F : fxT} {D : va_G} {A B : Nat → Nat} {G : gh} {ce sl : Nat} {b L : Nat} {xs : Nat → Int32} {i : Int} (S : FX F code 4 "PostageCounterLaw" room_1 D) (hb : fMut F) (hX : scX F b L xs) (hL : L ≤ 3072) (hwB : ∀ x, cM B x → wr F x) (hwA : ∀ x, mM A x → wr F x) (ha : apB B A) (hI : lwS D B A G) (h0 : 0 ≤ i) (hi : i + 6 ≤ L) (hce : ce + 120 ≤ 600000) (hsl : sl + 360 ≤ 7302250) (k : ∀ Gk : gh, lwS D B A Gk → V F 4 Gk (ce + 120) (sl + 360) 923 [(3, .int (iI i)), (2, .ref (A 0)), (1, .ref (B 0)), (0, .ref b)] []) : V F 4 G ce sl 563 [(3, .int (iI i)), (2, .ref (A 0)), (1, .ref (B 0)), (0, .ref b)] [] := by
  obtain ⟨now, hist, km, rd, reel, ho, hmq, hcq⟩ := hI
  have hNo := Nok_NN hcq hmq
  obtain ⟨fsx, hbx⟩ := hcq.b0
  refine r_aload_n S dL_law_563 2 rfl ?_
  refine r_aload_n S dL_law_564 3 rfl ?_
  refine r_iload_n S dL_law_565 0 rfl ?_
  refine r_iconst S dL_law_566 ?_
  refine r_iadd S dL_law_567 ?_
  refine r_sld hX hb hL S (by omega) (by omega) dL_law_568 ?_
  refine r_i2f S dL_law_569 ?_
  refine r_ldcf w977 S dL_law_570 ?_
  refine r_fmul S (fm_ok _) dL_law_572 ?_
  refine (c_V_P (As := [.float (FP.fmul (fF (sx xs (i + 1))) 1040187392)]) (st := []) S (kX10_grams) moX10_grams ⟨by decide, by decide⟩ ⟨(by show _ ≤ 600000; omega), (by show _ ≤ 7302250; omega)⟩ rfl (Nat.le_of_ble_eq_true rfl) w462 w463 w464 hbx rfl rfl dL_law_573).goI (fun zx hcx => ?_)
  refine r_aload_n S dL_law_576 1 rfl ?_
  refine r_aload_n S dL_law_577 3 rfl ?_
  refine r_iload_n S dL_law_578 0 rfl ?_
  refine r_iconst S dL_law_579 ?_
  refine r_iadd S dL_law_580 ?_
  refine r_sld hX hb hL S (by omega) (by omega) dL_law_581 ?_
  refine r_i2f S dL_law_582 ?_
  refine r_ldcf w977 S dL_law_583 ?_
  refine r_fmul S (fm_ok _) dL_law_585 ?_
  have hmq1 := hmq
  obtain ⟨fsm, hbm⟩ := hmq1.b0
  refine (c_V_T (As := [.float (FP.fmul (fF (sx xs (i + 1))) 1040187392)]) (st := [.int (iI zx)]) S (kX11_grams hmq1 ho.1 ) moX11_grams ⟨by decide, by decide⟩ ⟨(by show _ ≤ 600000; omega), (by show _ ≤ 7302250; omega)⟩ rfl (Nat.le_of_ble_eq_true rfl) w891 w892 w893 hbm rfl rfl dL_law_586).goI S hb hwA (fun zm Gm hxm hcm => ?_)
  obtain ⟨ez, hs⟩ := st_grams ho hcx hcq hcm hxm ha
  subst ez
  refine r_icmp_eqS S 923 dL_law_589 (by decide) ?_
  exact V.widen (by omega) (by omega) (k Gm hs)
