set_option maxRecDepth 20000 in
set_option maxHeartbeats 2000000 in
theorem kX11_look {D : va_G} {A : Nat → Nat} {km rd : Int} {now reel : Int → Int} {hist : Int → Int → Int} {G : gh} (hq : mQ D A now hist km rd reel G) (hok : mOK now) {p k a b : Int} (hp : inR p) (hk : inR k) (ha : inR a) (hb_ : inR b) : CT ⟨"PostageCounterModel", "look", "(IIII)I"⟩ prog_13_method_20_code 6 (some .int) 1 23 0 0 D [.ref (A 0), .int (iI p), .int (iI k), .int (iI a), .int (iI b)] G (mM A) (tI (mEnd D A now hist km rd reel (sLook now p k a b))) := by
  refine CT.enter (by decide +kernel) (Nat.le_of_ble_eq_true rfl) (fun F S ret hb hM hI => ?_)
  show V F 6 G 0 0 0 [(0, .ref (A 0)), (1, .int (iI p)), (2, .int (iI k)), (3, .int (iI a)), (4, .int (iI b))] []
  obtain ⟨th, ke, kept, part, best, hm, hkp⟩ := hq
  refine r_aload_n S dX11_look_0 0 rfl ?_
  refine r_iconst S dX11_look_1 ?_
  refine m_put_th S hb hM hm ptX11_27_X11 dX11_look_2 (fun G2 hm2 => ?_)
  refine r_iload_n S dX11_look_5 1 rfl ?_
  refine r_iconst S dX11_look_6 ?_
  refine r_bipush S dX11_look_7 (by decide) ?_
  refine (c_S_P (As := [.int (iI p), .int (iI 0), .int (iI 9)]) (st := []) S (kX11_in (by omega) (by omega) (by omega)) moX11_in ⟨by decide, by decide⟩ ⟨by omega, by omega⟩ rfl (Nat.le_of_ble_eq_true rfl) w796 w797 rfl dX11_look_9).goI (fun r9 hc9 => ?_)
  refine r_if_eq S 24 dX11_look_12 (by decide) (by omega) (fun c12 => ?_) (fun c12 => ?_)
  · skip
    replace hc9 := zz0 hc9 c12
    refine r_bipush S dX11_look_24 (by decide) ?_
    exact ret.ti (-3) dX11_look_26 (by omega) (by omega) (mEnd.m0 (by unfold sLook; rw [if_pos (by omega)]) ⟨_, _, _, _, _, hm2, hkp⟩)
  · skip
    replace hc9 := zz1 hc9 c12
    refine r_iload_n S dX11_look_15 2 rfl ?_
    refine r_iconst S dX11_look_16 ?_
    refine r_iconst S dX11_look_17 ?_
    refine (c_S_P (As := [.int (iI k), .int (iI 0), .int (iI 4)]) (st := []) S (kX11_in (by omega) (by omega) (by omega)) moX11_in ⟨by decide, by decide⟩ ⟨by omega, by omega⟩ rfl (Nat.le_of_ble_eq_true rfl) w796 w797 rfl dX11_look_18).goI (fun r18 hc18 => ?_)
    refine r_if_ne S 27 dX11_look_21 (by decide) (by omega) (fun c21 => ?_) (fun c21 => ?_)
    · skip
      replace hc18 := zz1 hc18 c21
      refine r_aload_n S dX11_look_27 0 rfl ?_
      refine r_iload_n S dX11_look_28 1 rfl ?_
      refine (c_V_P (As := [.int (iI p)]) (st := []) S (kX11_isHeld hm2 (by omega) (by have := hok.1 p (by omega) (by omega); omega)) moX11_isHeld ⟨by decide, by decide⟩ ⟨by omega, by omega⟩ rfl (Nat.le_of_ble_eq_true rfl) w799 w801 w15 hm2.1 rfl rfl dX11_look_29).goI (fun r29 hc29 => ?_)
      refine r_if_ne S 38 dX11_look_32 (by decide) (by omega) (fun c32 => ?_) (fun c32 => ?_)
      · skip
        replace hc29 := zz1 hc29 c32
        have hK := hok.1 p (by omega) (by omega)
        refine r_aload_n S dX11_look_38 0 rfl ?_
        refine r_iload_n S dX11_look_39 1 rfl ?_
        refine r_iload_n S dX11_look_40 2 rfl ?_
        refine (c_V_P (As := [.int (iI p), .int (iI k)]) (st := []) S (kX11_isOf hm2 (by omega) (by have := hok.1 p (by omega) (by omega); omega) (by omega)) moX11_isOf ⟨by decide, by decide⟩ ⟨by omega, by omega⟩ rfl (Nat.le_of_ble_eq_true rfl) w851 w853 w21 hm2.1 rfl rfl dX11_look_41).goI (fun r41 hc41 => ?_)
        refine r_if_ne S 50 dX11_look_44 (by decide) (by omega) (fun c44 => ?_) (fun c44 => ?_)
        · skip
          replace hc41 := zz1 hc41 c44
          refine r_iload_n S dX11_look_50 2 rfl ?_
          refine r_if_ne S 64 dX11_look_51 (by decide) (by omega) (fun c51 => ?_) (fun c51 => ?_)
          · skip
            refine r_iload_n S dX11_look_64 2 rfl ?_
            refine r_iconst S dX11_look_65 ?_
            refine r_icmp_ne S 79 dX11_look_66 (by decide) (by omega) (by omega) (fun c66 => ?_) (fun c66 => ?_)
            · skip
              refine r_iload_n S dX11_look_79 2 rfl ?_
              refine r_iconst S dX11_look_80 ?_
              refine r_icmp_ne S 120 dX11_look_81 (by decide) (by omega) (by omega) (fun c81 => ?_) (fun c81 => ?_)
              · skip
                refine r_iload_n S dX11_look_120 3 rfl ?_
                refine r_iconst S dX11_look_121 ?_
                refine r_aload_n S dX11_look_122 0 rfl ?_
                refine m_get_now S hm2 gtX11_7_X11 dX11_look_123 ?_
                refine r_bipush S dX11_look_126 (by decide) ?_
                refine r_iload_n S dX11_look_128 1 rfl ?_
                refine r_iadd S dX11_look_129 ?_
                refine m_ld_now S hm2 (by omega) (by omega) dX11_look_130 ?_
                refine r_iconst S dX11_look_131 ?_
                refine r_isub_e (now (40 + p) - 1) (by omega) S dX11_look_132 ?_
                refine (c_S_P (As := [.int (iI a), .int (iI 0), .int (iI (now (40 + p) - 1))]) (st := []) S (kX11_in (by omega) (by omega) (by omega)) moX11_in ⟨by decide, by decide⟩ ⟨by omega, by omega⟩ rfl (Nat.le_of_ble_eq_true rfl) w796 w797 rfl dX11_look_133).goI (fun r133 hc133 => ?_)
                refine r_if_ne S 142 dX11_look_136 (by decide) (by omega) (fun c136 => ?_) (fun c136 => ?_)
                · skip
                  replace hc133 := zz1 hc133 c136
                  have hL := hok.2.2.2.1 p a (by omega) (by omega) (by omega) (by omega)
                  refine r_aload_n S dX11_look_142 0 rfl ?_
                  refine m_get_now S hm2 gtX11_7_X11 dX11_look_143 ?_
                  refine r_sipush S dX11_look_146 (by decide) ?_
                  refine r_bipush S dX11_look_149 (by decide) ?_
                  refine r_iload_n S dX11_look_151 1 rfl ?_
                  refine r_imul S dX11_look_152 ?_
                  refine r_iadd_e (1100 + 8 * p) (by omega) S dX11_look_153 ?_
                  refine r_iload_n S dX11_look_154 3 rfl ?_
                  refine r_iadd_e (1100 + 8 * p + a) (by omega) S dX11_look_155 ?_
                  refine m_ld_now S hm2 (by omega) (by omega) dX11_look_156 ?_
                  refine r_iconst S dX11_look_157 ?_
                  refine r_icmp_ne S 164 dX11_look_158 (by decide) (by omega) (by omega) (fun c158 => ?_) (fun c158 => ?_)
                  · skip
                    refine r_aload_n S dX11_look_164 0 rfl ?_
                    refine m_get_now S hm2 gtX11_7_X11 dX11_look_165 ?_
                    refine r_bipush S dX11_look_168 (by decide) ?_
                    refine r_iload_n S dX11_look_170 1 rfl ?_
                    refine r_iadd S dX11_look_171 ?_
                    refine m_ld_now S hm2 (by omega) (by omega) dX11_look_172 ?_
                    refine r_istore (L' := [(5, .int (iI (now (50 + p)))), (0, .ref (A 0)), (1, .int (iI p)), (2, .int (iI k)), (3, .int (iI a)), (4, .int (iI b))]) S dX11_look_173 (by decide) rfl ?_
                    have hcr := cr_bd (c := now (50 + p)) (r := a) (by omega) (by omega) (by omega) (by omega)
                    refine r_iload_n S dX11_look_175 3 rfl ?_
                    refine r_iconst S dX11_look_176 ?_
                    refine r_icmp_ne S 216 dX11_look_177 (by decide) (by omega) (by omega) (fun c177 => ?_) (fun c177 => ?_)
                    · skip
                      refine r_iload S dX11_look_216 5 rfl ?_
                      refine r_iconst S dX11_look_218 ?_
                      refine r_iload S dX11_look_219 0 rfl ?_
                      refine r_iconst S dX11_look_221 ?_
                      refine r_idiv S dX11_look_222 (by omega) (by omega) ?_
                      refine r_iconst S dX11_look_223 ?_
                      refine r_isub_e ((now (50 + p)) / 2 - 1) (by omega) S dX11_look_224 ?_
                      refine (c_S_P (As := [.int (iI b), .int (iI 0), .int (iI ((now (50 + p)) / 2 - 1))]) (st := []) S (kX11_in (by omega) (by omega) (by omega)) moX11_in ⟨by decide, by decide⟩ ⟨by omega, by omega⟩ rfl (Nat.le_of_ble_eq_true rfl) w796 w797 rfl dX11_look_225).goI (fun r225 hc225 => ?_)
                      refine r_if_eq S 275 dX11_look_228 (by decide) (by omega) (fun c228 => ?_) (fun c228 => ?_)
                      · skip
                        replace hc225 := zz0 hc225 c228
                        refine r_bipush S dX11_look_275 (by decide) ?_
                        exact ret.ti (-13) dX11_look_277 (by omega) (by omega) (mEnd.m0 (by unfold sLook; rw [if_neg (by omega), if_neg (by omega), if_neg (by omega), if_neg (by omega), if_neg (by omega), if_neg (by omega), if_neg (by omega), if_neg (by omega), if_neg (by omega), if_neg (by omega)]) ⟨_, _, _, _, _, hm2, hkp⟩)
                      · skip
                        replace hc225 := zz1 hc225 c228
                        refine r_aload_n S dX11_look_231 1 rfl ?_
                        refine m_get_now S hm2 gtX11_7_X11 dX11_look_232 ?_
                        refine r_aload_n S dX11_look_235 1 rfl ?_
                        refine r_iload_n S dX11_look_236 2 rfl ?_
                        refine r_iload S dX11_look_237 0 rfl ?_
                        refine r_iload_n S dX11_look_239 4 rfl ?_
                        refine r_imul S dX11_look_240 ?_
                        refine r_iconst S dX11_look_241 ?_
                        refine r_iload S dX11_look_242 5 rfl ?_
                        refine r_imul S dX11_look_244 ?_
                        refine r_iadd_e (2 * b + (now (50 + p)) * a) (by omega) S dX11_look_245 ?_
                        refine (c_V_P (As := [.int (iI p), .int (iI (2 * b + (now (50 + p)) * a))]) (st := [.ref (A 1)]) S (kX11_squareAt hm2 ) moX11_squareAt ⟨by decide, by decide⟩ ⟨by omega, by omega⟩ rfl (Nat.le_of_ble_eq_true rfl) w811 w813 w18 hm2.1 rfl rfl dX11_look_246).goI (fun r246 hc246 => ?_)
                        refine m_ld_now S hm2 (by omega) (by omega) dX11_look_249 ?_
                        refine r_aload_n S dX11_look_250 1 rfl ?_
                        refine m_get_now S hm2 gtX11_7_X11 dX11_look_251 ?_
                        refine r_aload_n S dX11_look_254 1 rfl ?_
                        refine r_iload_n S dX11_look_255 2 rfl ?_
                        refine r_iload S dX11_look_256 0 rfl ?_
                        refine r_iload_n S dX11_look_258 4 rfl ?_
                        refine r_imul S dX11_look_259 ?_
                        refine r_iconst S dX11_look_260 ?_
                        refine r_iload S dX11_look_261 5 rfl ?_
                        refine r_imul S dX11_look_263 ?_
                        refine r_iadd_e (2 * b + (now (50 + p)) * a) (by omega) S dX11_look_264 ?_
                        refine r_iconst S dX11_look_265 ?_
                        refine r_iadd_e (1 + 2 * b + (now (50 + p)) * a) (by omega) S dX11_look_266 ?_
                        refine (c_V_P (As := [.int (iI p), .int (iI (1 + 2 * b + (now (50 + p)) * a))]) (st := [.ref (A 1), .int (iI (now r246))]) S (kX11_squareAt hm2 ) moX11_squareAt ⟨by decide, by decide⟩ ⟨by omega, by omega⟩ rfl (Nat.le_of_ble_eq_true rfl) w811 w813 w18 hm2.1 rfl rfl dX11_look_267).goI (fun r267 hc267 => ?_)
                        refine m_ld_now S hm2 (by omega) (by omega) dX11_look_270 ?_
                        refine r_iadd_e (now r246 + now r267) (by omega) S dX11_look_271 ?_
                        refine r_goto S 277 dX11_look_272 (by decide) ?_
                        exact ret.ti (now r246 + now r267) dX11_look_277 (by omega) (by omega) (mEnd.m0 (by unfold sLook; rw [if_neg (by omega), if_neg (by omega), if_neg (by omega), if_neg (by omega), if_neg (by omega), if_neg (by omega), if_neg (by omega), if_neg (by omega), if_neg (by omega), if_pos (by omega), show now r246 = now (460 + 64 * p + (now (50 + p) * a + 2 * b)) by rw [hc246] <;> (congr 1; omega), show now r267 = now (460 + 64 * p + (now (50 + p) * a + 2 * b + 1)) by rw [hc267] <;> (congr 1; omega)]) ⟨_, _, _, _, _, hm2, hkp⟩)
                    · skip
                      refine r_iload S dX11_look_180 5 rfl ?_
                      refine r_iconst S dX11_look_182 ?_
                      refine r_iload S dX11_look_183 0 rfl ?_
                      refine r_iconst S dX11_look_185 ?_
                      refine r_isub_e (now (50 + p) - 1) (by omega) S dX11_look_186 ?_
                      refine (c_S_P (As := [.int (iI b), .int (iI 0), .int (iI (now (50 + p) - 1))]) (st := []) S (kX11_in (by omega) (by omega) (by omega)) moX11_in ⟨by decide, by decide⟩ ⟨by omega, by omega⟩ rfl (Nat.le_of_ble_eq_true rfl) w796 w797 rfl dX11_look_187).goI (fun r187 hc187 => ?_)
                      refine r_if_eq S 213 dX11_look_190 (by decide) (by omega) (fun c190 => ?_) (fun c190 => ?_)
                      · skip
                        replace hc187 := zz0 hc187 c190
                        refine r_bipush S dX11_look_213 (by decide) ?_
                        exact ret.ti (-13) dX11_look_215 (by omega) (by omega) (mEnd.m0 (by unfold sLook; rw [if_neg (by omega), if_neg (by omega), if_neg (by omega), if_neg (by omega), if_neg (by omega), if_neg (by omega), if_neg (by omega), if_neg (by omega), if_pos (by omega), if_neg (by omega)]) ⟨_, _, _, _, _, hm2, hkp⟩)
                      · skip
                        replace hc187 := zz1 hc187 c190
                        refine r_aload_n S dX11_look_193 1 rfl ?_
                        refine m_get_now S hm2 gtX11_7_X11 dX11_look_194 ?_
                        refine r_aload_n S dX11_look_197 1 rfl ?_
                        refine r_iload_n S dX11_look_198 2 rfl ?_
                        refine r_iload S dX11_look_199 0 rfl ?_
                        refine r_iload_n S dX11_look_201 4 rfl ?_
                        refine r_imul S dX11_look_202 ?_
                        refine r_iload S dX11_look_203 5 rfl ?_
                        refine r_iadd_e ((now (50 + p)) * a + b) (by omega) S dX11_look_205 ?_
                        refine (c_V_P (As := [.int (iI p), .int (iI ((now (50 + p)) * a + b))]) (st := [.ref (A 1)]) S (kX11_squareAt hm2 ) moX11_squareAt ⟨by decide, by decide⟩ ⟨by omega, by omega⟩ rfl (Nat.le_of_ble_eq_true rfl) w811 w813 w18 hm2.1 rfl rfl dX11_look_206).goI (fun r206 hc206 => ?_)
                        refine m_ld_now S hm2 (by omega) (by omega) dX11_look_209 ?_
                        refine r_goto S 215 dX11_look_210 (by decide) ?_
                        exact ret.ti (now r206) dX11_look_215 (by omega) (by omega) (mEnd.m0 (by unfold sLook; rw [if_neg (by omega), if_neg (by omega), if_neg (by omega), if_neg (by omega), if_neg (by omega), if_neg (by omega), if_neg (by omega), if_neg (by omega), if_pos (by omega), if_pos (by omega), show now r206 = now (460 + 64 * p + (now (50 + p) * a + b)) by rw [hc206] <;> (congr 1; omega)]) ⟨_, _, _, _, _, hm2, hkp⟩)
                  · skip
                    refine r_bipush S dX11_look_161 (by decide) ?_
                    exact ret.ti (-11) dX11_look_163 (by omega) (by omega) (mEnd.m0 (by unfold sLook; rw [if_neg (by omega), if_neg (by omega), if_neg (by omega), if_neg (by omega), if_neg (by omega), if_neg (by omega), if_neg (by omega), if_pos (by omega)]) ⟨_, _, _, _, _, hm2, hkp⟩)
                · skip
                  replace hc133 := zz0 hc133 c136
                  refine r_bipush S dX11_look_139 (by decide) ?_
                  exact ret.ti (-13) dX11_look_141 (by omega) (by omega) (mEnd.m0 (by unfold sLook; rw [if_neg (by omega), if_neg (by omega), if_neg (by omega), if_neg (by omega), if_neg (by omega), if_neg (by omega), if_pos (by omega)]) ⟨_, _, _, _, _, hm2, hkp⟩)
              · skip
                refine r_iload_n S dX11_look_84 3 rfl ?_
                refine r_iconst S dX11_look_85 ?_
                refine r_aload_n S dX11_look_86 0 rfl ?_
                refine m_get_now S hm2 gtX11_7_X11 dX11_look_87 ?_
                refine r_bipush S dX11_look_90 (by decide) ?_
                refine r_iload_n S dX11_look_92 1 rfl ?_
                refine r_iadd S dX11_look_93 ?_
                refine m_ld_now S hm2 (by omega) (by omega) dX11_look_94 ?_
                refine r_iconst S dX11_look_95 ?_
                refine r_isub_e (now (10 + p) - 1) (by omega) S dX11_look_96 ?_
                refine (c_S_P (As := [.int (iI a), .int (iI 0), .int (iI (now (10 + p) - 1))]) (st := []) S (kX11_in (by omega) (by omega) (by omega)) moX11_in ⟨by decide, by decide⟩ ⟨by omega, by omega⟩ rfl (Nat.le_of_ble_eq_true rfl) w796 w797 rfl dX11_look_97).goI (fun r97 hc97 => ?_)
                refine r_if_eq S 117 dX11_look_100 (by decide) (by omega) (fun c100 => ?_) (fun c100 => ?_)
                · skip
                  replace hc97 := zz0 hc97 c100
                  refine r_bipush S dX11_look_117 (by decide) ?_
                  exact ret.ti (-13) dX11_look_119 (by omega) (by omega) (mEnd.m0 (by unfold sLook; rw [if_neg (by omega), if_neg (by omega), if_neg (by omega), if_neg (by omega), if_neg (by omega), if_pos (by omega), if_neg (by omega)]) ⟨_, _, _, _, _, hm2, hkp⟩)
                · skip
                  replace hc97 := zz1 hc97 c100
                  refine r_aload_n S dX11_look_103 0 rfl ?_
                  refine m_get_now S hm2 gtX11_7_X11 dX11_look_104 ?_
                  refine r_aload_n S dX11_look_107 0 rfl ?_
                  refine r_iload_n S dX11_look_108 1 rfl ?_
                  refine r_iload_n S dX11_look_109 3 rfl ?_
                  refine (c_V_P (As := [.int (iI p), .int (iI a)]) (st := [.ref (A 1)]) S (kX11_stampAt hm2 ) moX11_stampAt ⟨by decide, by decide⟩ ⟨by omega, by omega⟩ rfl (Nat.le_of_ble_eq_true rfl) w827 w829 w19 hm2.1 rfl rfl dX11_look_110).goI (fun r110 hc110 => ?_)
                  refine m_ld_now S hm2 (by omega) (by omega) dX11_look_113 ?_
                  refine r_goto S 119 dX11_look_114 (by decide) ?_
                  exact ret.ti (now r110) dX11_look_119 (by omega) (by omega) (mEnd.m0 (by unfold sLook; rw [if_neg (by omega), if_neg (by omega), if_neg (by omega), if_neg (by omega), if_neg (by omega), if_pos (by omega), if_pos (by omega), hc110]) ⟨_, _, _, _, _, hm2, hkp⟩)
            · skip
              refine r_aload_n S dX11_look_69 0 rfl ?_
              refine m_get_now S hm2 gtX11_7_X11 dX11_look_70 ?_
              refine r_bipush S dX11_look_73 (by decide) ?_
              refine r_iload_n S dX11_look_75 1 rfl ?_
              refine r_iadd S dX11_look_76 ?_
              refine m_ld_now S hm2 (by omega) (by omega) dX11_look_77 ?_
              exact ret.ti (now (30 + p)) dX11_look_78 (by omega) (by omega) (mEnd.m0 (by unfold sLook; rw [if_neg (by omega), if_neg (by omega), if_neg (by omega), if_neg (by omega), if_pos (by omega)]) ⟨_, _, _, _, _, hm2, hkp⟩)
          · skip
            refine r_aload_n S dX11_look_54 0 rfl ?_
            refine m_get_now S hm2 gtX11_7_X11 dX11_look_55 ?_
            refine r_bipush S dX11_look_58 (by decide) ?_
            refine r_iload_n S dX11_look_60 1 rfl ?_
            refine r_iadd S dX11_look_61 ?_
            refine m_ld_now S hm2 (by omega) (by omega) dX11_look_62 ?_
            exact ret.ti (now (10 + p)) dX11_look_63 (by omega) (by omega) (mEnd.m0 (by unfold sLook; rw [if_neg (by omega), if_neg (by omega), if_neg (by omega), if_pos (by omega)]) ⟨_, _, _, _, _, hm2, hkp⟩)
        · skip
          replace hc41 := zz0 hc41 c44
          refine r_bipush S dX11_look_47 (by decide) ?_
          exact ret.ti (-12) dX11_look_49 (by omega) (by omega) (mEnd.m0 (by unfold sLook; rw [if_neg (by omega), if_neg (by omega), if_pos (by omega)]) ⟨_, _, _, _, _, hm2, hkp⟩)
      · skip
        replace hc29 := zz0 hc29 c32
        refine r_bipush S dX11_look_35 (by decide) ?_
        exact ret.ti (-11) dX11_look_37 (by omega) (by omega) (mEnd.m0 (by unfold sLook; rw [if_neg (by omega), if_pos (by omega)]) ⟨_, _, _, _, _, hm2, hkp⟩)
    · skip
      replace hc18 := zz0 hc18 c21
      refine r_bipush S dX11_look_24 (by decide) ?_
      exact ret.ti (-3) dX11_look_26 (by omega) (by omega) (mEnd.m0 (by unfold sLook; rw [if_pos (by omega)]) ⟨_, _, _, _, _, hm2, hkp⟩)

set_option maxRecDepth 20000 in
set_option maxHeartbeats 2000000 in
theorem kX11_price {D : va_G} {A : Nat → Nat} {km rd : Int} {now reel : Int → Int} {hist : Int → Int → Int} {G : gh} (hq : mQ D A now hist km rd reel G) (hok : mOK now) {way ex : Int} {w : UInt32} (hw : inR way) (hx : inR ex) : CT ⟨"PostageCounterModel", "price", "(IFI)I"⟩ prog_13_method_31_code 7 (some .int) 1 22 0 0 D [.ref (A 0), .int (iI way), .float w, .int (iI ex)] G (mM A) (tI (fun z G' => sPrice now way w ex z ∧ mQ D A now hist km rd reel G')) := by
  refine CT.enter (by decide +kernel) (Nat.le_of_ble_eq_true rfl) (fun F S ret hb hM hI => ?_)
  show V F 7 G 0 0 0 [(0, .ref (A 0)), (1, .int (iI way)), (2, .float w), (3, .int (iI ex))] []
  obtain ⟨th, ke, kept, part, best, hm, hkp⟩ := hq
  have hwR := wholeF_R w
  refine r_aload_n S dX11_price_0 0 rfl ?_
  refine r_iconst S dX11_price_1 ?_
  refine m_put_th S hb hM hm ptX11_27_X11 dX11_price_2 (fun G2 hm2 => ?_)
  have L40 : ∀ (_ : Unit), ∀ (G : gh), mS D A 0 ke km rd now kept reel part best G →  True → (prOK way ex w) → V F 7 G 0 0 40 [(0, .ref (A 0)), (1, .int (iI way)), (2, .float w), (3, .int (iI ex))] [] := by
    intro _ G hm _ hpr
    have hpr1 := hpr.1
    have hpr2 := hpr.2.1
    have hpr3 := hpr.2.2.2
    refine r_iconst S dX11_price_40 ?_
    refine r_istore (L' := [(4, .int (iI 0)), (0, .ref (A 0)), (1, .int (iI way)), (2, .float w), (3, .int (iI ex))]) S dX11_price_41 (by decide) rfl ?_
    refine r_iconst S dX11_price_43 ?_
    refine r_istore (L' := [(5, .int (iI 0)), (4, .int (iI 0)), (0, .ref (A 0)), (1, .int (iI way)), (2, .float w), (3, .int (iI ex))]) S dX11_price_44 (by decide) rfl ?_
    have L46 : ∀ (N : Nat) (sm : Int) (k : Int), ∀ (G : gh), mS D A 0 ke km rd now kept reel part best G →  (4 - k).toNat < N → (0 ≤ k ∧ k ≤ 4) → (sm = sumI (fun k => if exbit ex k = 1 then now (1282 + k) else 0) k.toNat) → V F 7 G 0 0 46 [(0, .ref (A 0)), (1, .int (iI way)), (2, .float w), (3, .int (iI ex)), (4, .int (iI sm)), (5, .int (iI k))] [] := by
      intro N
      induction N with
      | zero => intro sm k G hm hN; exact absurd hN (Nat.not_lt_zero _)
      | succ N ih46 =>
        intro sm k G hm hN46 hk hs
        refine r_iload S dX11_price_46 5 rfl ?_
        refine r_iconst S dX11_price_48 ?_
        refine r_icmp_ge S 88 dX11_price_49 (by decide) (by omega) (by omega) (fun c49 => ?_) (fun c49 => ?_)
        · skip
          have hW := hok.2.2.2.2.1 way (by omega) (by omega)
          refine r_fload_n S dX11_price_88 2 rfl ?_
          refine (c_S_P (As := [.float w]) (st := []) S (kX11_whole) moX11_whole ⟨by decide, by decide⟩ ⟨by omega, by omega⟩ rfl (Nat.le_of_ble_eq_true rfl) w896 w897 rfl dX11_price_89).goI (fun r89 hc89 => ?_)
          refine r_istore (L' := [(5, .int (iI r89)), (0, .ref (A 0)), (1, .int (iI way)), (2, .float w), (3, .int (iI ex)), (4, .int (iI sm))]) S dX11_price_92 (by decide) rfl ?_
          refine r_iconst S dX11_price_94 ?_
          refine r_istore (L' := [(6, .int (iI 0)), (5, .int (iI r89)), (0, .ref (A 0)), (1, .int (iI way)), (2, .float w), (3, .int (iI ex)), (4, .int (iI sm))]) S dX11_price_95 (by decide) rfl ?_
          have L97 : ∀ (N : Nat) (k2 : Int), ∀ (G : gh), mS D A 0 ke km rd now kept reel part best G →  (now (1180 + way) - k2).toNat < N → (0 ≤ k2 ∧ k2 ≤ now (1180 + way)) → (∀ j, 0 ≤ j → j < k2 → now (1186 + 8 * way + j) < r89) → V F 7 G 0 0 97 [(0, .ref (A 0)), (1, .int (iI way)), (2, .float w), (3, .int (iI ex)), (4, .int (iI sm)), (5, .int (iI r89)), (6, .int (iI k2))] [] := by
            intro N
            induction N with
            | zero => intro k2 G hm hN; exact absurd hN (Nat.not_lt_zero _)
            | succ N ih97 =>
              intro k2 G hm hN97 hk2 hf
              refine r_iload S dX11_price_97 6 rfl ?_
              refine r_aload_n S dX11_price_99 0 rfl ?_
              refine m_get_now S hm gtX11_7_X11 dX11_price_100 ?_
              refine r_sipush S dX11_price_103 (by decide) ?_
              refine r_iload_n S dX11_price_106 1 rfl ?_
              refine r_iadd S dX11_price_107 ?_
              refine m_ld_now S hm (by omega) (by omega) dX11_price_108 ?_
              refine r_icmp_ge S 159 dX11_price_109 (by decide) (by omega) (by omega) (fun c109 => ?_) (fun c109 => ?_)
              · skip
                refine r_iconst S dX11_price_159 ?_
                exact ret.ti (-1) dX11_price_160 (by omega) (by omega) ⟨Or.inr (Or.inr ⟨hpr, fun j h0 h1 => by rw [← hc89]; exact hf j h0 (by omega), rfl⟩), ⟨_, _, _, _, _, hm, hkp⟩⟩
              · skip
                refine r_aload_n S dX11_price_112 0 rfl ?_
                refine m_get_now S hm gtX11_7_X11 dX11_price_113 ?_
                refine r_sipush S dX11_price_116 (by decide) ?_
                refine r_bipush S dX11_price_119 (by decide) ?_
                refine r_iload_n S dX11_price_121 1 rfl ?_
                refine r_imul S dX11_price_122 ?_
                refine r_iadd_e (1186 + 8 * way) (by omega) S dX11_price_123 ?_
                refine r_iload S dX11_price_124 6 rfl ?_
                refine r_iadd_e (1186 + 8 * way + k2) (by omega) S dX11_price_126 ?_
                refine m_ld_now S hm (by omega) (by omega) dX11_price_127 ?_
                refine r_iload S dX11_price_128 5 rfl ?_
                have hWk := hW.2.2 k2 (by omega) (by omega)
                refine r_icmp_lt S 153 dX11_price_130 (by decide) (by omega) (by omega) (fun c130 => ?_) (fun c130 => ?_)
                · skip
                  refine r_iinc_e (L' := [(6, .int (iI (1 + k2))), (0, .ref (A 0)), (1, .int (iI way)), (2, .float w), (3, .int (iI ex)), (4, .int (iI sm)), (5, .int (iI r89))]) (1 + k2) (by omega) S dX11_price_153 6 rfl (by decide) rfl ?_
                  refine r_goto S 97 dX11_price_156 (by decide) ?_
                  refine V.sub [1, 2, 3, 4, 5, 6, 0] rfl ?_
                  exact ih97 (1 + k2) _ hm (by omega) (by omega) (fun j h0 h1 => by rcases (show j < k2 ∨ j = k2 by omega) with q | q; exact hf j h0 q; subst q; omega)
                · skip
                  refine r_iload S dX11_price_133 4 rfl ?_
                  refine r_aload_n S dX11_price_135 0 rfl ?_
                  refine m_get_now S hm gtX11_7_X11 dX11_price_136 ?_
                  refine r_sipush S dX11_price_139 (by decide) ?_
                  refine r_bipush S dX11_price_142 (by decide) ?_
                  refine r_iload_n S dX11_price_144 1 rfl ?_
                  refine r_imul S dX11_price_145 ?_
                  refine r_iadd_e (1234 + 8 * way) (by omega) S dX11_price_146 ?_
                  refine r_iload S dX11_price_147 6 rfl ?_
                  refine r_iadd_e (1234 + 8 * way + k2) (by omega) S dX11_price_149 ?_
                  refine m_ld_now S hm (by omega) (by omega) dX11_price_150 ?_
                  refine r_iadd_e (now (1234 + 8 * way + k2) + sm) (by omega) S dX11_price_151 ?_
                  exact ret.ti (now (1234 + 8 * way + k2) + sm) dX11_price_152 (by omega) (by omega) ⟨Or.inr (Or.inl ⟨hpr, k2, hk2.1, by omega, by omega, by rw [← hc89]; exact hf, by unfold exSum; rw [← show k.toNat = 4 by omega, ← hs] <;> omega⟩), ⟨_, _, _, _, _, hm, hkp⟩⟩
          refine V.sub [2, 3, 4, 5, 6, 1, 0] rfl ?_
          exact L97 _ 0 _ hm (Nat.lt_succ_self _) (by omega) (fun j h0 h1 => absurd h1 (by omega))
        · skip
          have L79 : ∀ (b : Int), ∀ (G : gh), mS D A 0 ke km rd now kept reel part best G →  True → (b = if exbit ex k = 1 then now (1282 + k) else 0) → V F 7 G 0 0 79 [(0, .ref (A 0)), (1, .int (iI way)), (2, .float w), (3, .int (iI ex)), (4, .int (iI sm)), (5, .int (iI k))] [.int (iI b), .int (iI sm)] := by
            intro b G hm _ hbb
            refine r_iadd_e (b + sm) (by omega) S dX11_price_79 ?_
            refine r_istore (L' := [(4, .int (iI (b + sm))), (0, .ref (A 0)), (1, .int (iI way)), (2, .float w), (3, .int (iI ex)), (5, .int (iI k))]) S dX11_price_80 (by decide) rfl ?_
            refine r_iinc_e (L' := [(5, .int (iI (1 + k))), (4, .int (iI (b + sm))), (0, .ref (A 0)), (1, .int (iI way)), (2, .float w), (3, .int (iI ex))]) (1 + k) (by omega) S dX11_price_82 5 rfl (by decide) rfl ?_
            refine r_goto S 46 dX11_price_85 (by decide) ?_
            refine V.sub [2, 3, 4, 5, 1, 0] rfl ?_
            exact ih46 (b + sm) (1 + k) _ hm (by omega) (by omega) (by rw [sumI_s _ (by omega), hs, hbb] <;> omega)
          refine r_iload S dX11_price_52 4 rfl ?_
          refine r_iload_n S dX11_price_54 3 rfl ?_
          refine r_iload S dX11_price_55 5 rfl ?_
          refine r_ishr S dX11_price_57 (fun z57 hz57 ez57 => ?_)
          refine r_iconst S dX11_price_58 ?_
          refine r_iand S dX11_price_59 (fun z59 hz59 ez59 => ?_)
          have hb60 := exbit_z (e := ex) (k := k) ⟨by omega, by omega⟩ ⟨by omega, by omega⟩ ez57 ez59 hz59
          refine r_iconst S dX11_price_60 ?_
          refine r_icmp_ne S 78 dX11_price_61 (by decide) (by omega) (by omega) (fun c61 => ?_) (fun c61 => ?_)
          · skip
            refine r_iconst S dX11_price_78 ?_
            refine V.sub [0, 1, 2, 3, 4, 5] rfl ?_
            exact L79 0 _ hm trivial (by rw [← hb60]; first | rw [if_pos (by omega)] | rw [if_neg (by omega)])
          · skip
            refine r_aload_n S dX11_price_64 0 rfl ?_
            refine m_get_now S hm gtX11_7_X11 dX11_price_65 ?_
            refine r_sipush S dX11_price_68 (by decide) ?_
            refine r_iload S dX11_price_71 5 rfl ?_
            refine r_iadd S dX11_price_73 ?_
            refine m_ld_now S hm (by omega) (by omega) dX11_price_74 ?_
            refine r_goto S 79 dX11_price_75 (by decide) ?_
            refine V.sub [0, 1, 2, 3, 4, 5] rfl ?_
            exact L79 (now (1282 + k)) _ hm trivial (by rw [← hb60]; first | rw [if_pos (by omega)] | rw [if_neg (by omega)])
    refine V.sub [2, 3, 4, 5, 1, 0] rfl ?_
    exact L46 _ 0 0 _ hm (Nat.lt_succ_self _) (by omega) rfl
  refine r_iload_n S dX11_price_5 1 rfl ?_
  refine r_iconst S dX11_price_6 ?_
  refine r_iconst S dX11_price_7 ?_
  refine (c_S_P (As := [.int (iI way), .int (iI 0), .int (iI 5)]) (st := []) S (kX11_in (by omega) (by omega) (by omega)) moX11_in ⟨by decide, by decide⟩ ⟨by omega, by omega⟩ rfl (Nat.le_of_ble_eq_true rfl) w796 w797 rfl dX11_price_8).goI (fun r8 hc8 => ?_)
  refine r_if_eq S 37 dX11_price_11 (by decide) (by omega) (fun c11 => ?_) (fun c11 => ?_)
  · skip
    replace hc8 := zz0 hc8 c11
    refine r_bipush S dX11_price_37 (by decide) ?_
    exact ret.ti (-3) dX11_price_39 (by omega) (by omega) ⟨Or.inl ⟨(fun h => by have h3 := h.2.2.1; unfold wOK at h3; have := h.1; have := h.2.1; have := h.2.2.2; omega), rfl⟩, ⟨_, _, _, _, _, hm2, hkp⟩⟩
  · skip
    replace hc8 := zz1 hc8 c11
    refine r_fload_n S dX11_price_14 2 rfl ?_
    refine r_fconst0 S dX11_price_15 ?_
    refine r_fcL S dX11_price_16 (fun hR16 => ?_)
    refine r_if_lt S 37 dX11_price_17 (by decide) (by omega) (fun c17 => ?_) (fun c17 => ?_)
    · skip
      refine r_bipush S dX11_price_37 (by decide) ?_
      exact ret.ti (-3) dX11_price_39 (by omega) (by omega) ⟨Or.inl ⟨(fun h => by have h3 := h.2.2.1; unfold wOK at h3; have := h.1; have := h.2.1; have := h.2.2.2; omega), rfl⟩, ⟨_, _, _, _, _, hm2, hkp⟩⟩
    · skip
      refine r_fload_n S dX11_price_20 2 rfl ?_
      refine r_ldcf w895 S dX11_price_21 ?_
      refine r_fcG S dX11_price_23 (fun hR23 => ?_)
      refine r_if_gt S 37 dX11_price_24 (by decide) (by omega) (fun c24 => ?_) (fun c24 => ?_)
      · skip
        refine r_bipush S dX11_price_37 (by decide) ?_
        exact ret.ti (-3) dX11_price_39 (by omega) (by omega) ⟨Or.inl ⟨(fun h => by have h3 := h.2.2.1; unfold wOK at h3; have := h.1; have := h.2.1; have := h.2.2.2; omega), rfl⟩, ⟨_, _, _, _, _, hm2, hkp⟩⟩
      · skip
        refine r_iload_n S dX11_price_27 3 rfl ?_
        refine r_iconst S dX11_price_28 ?_
        refine r_bipush S dX11_price_29 (by decide) ?_
        refine (c_S_P (As := [.int (iI ex), .int (iI 0), .int (iI 15)]) (st := []) S (kX11_in (by omega) (by omega) (by omega)) moX11_in ⟨by decide, by decide⟩ ⟨by omega, by omega⟩ rfl (Nat.le_of_ble_eq_true rfl) w796 w797 rfl dX11_price_31).goI (fun r31 hc31 => ?_)
        refine r_if_ne S 40 dX11_price_34 (by decide) (by omega) (fun c34 => ?_) (fun c34 => ?_)
        · skip
          replace hc31 := zz1 hc31 c34
          refine V.sub [0, 1, 2, 3] rfl ?_
          exact L40 () _ hm2 trivial ⟨by omega, by omega, ⟨by omega, by omega⟩, by omega, by omega⟩
        · skip
          replace hc31 := zz0 hc31 c34
          refine r_bipush S dX11_price_37 (by decide) ?_
          exact ret.ti (-3) dX11_price_39 (by omega) (by omega) ⟨Or.inl ⟨(fun h => by have h3 := h.2.2.1; unfold wOK at h3; have := h.1; have := h.2.1; have := h.2.2.2; omega), rfl⟩, ⟨_, _, _, _, _, hm2, hkp⟩⟩

set_option maxRecDepth 20000 in
set_option maxHeartbeats 2000000 in
theorem kX11_letter {D : va_G} {A : Nat → Nat} {km rd : Int} {now reel : Int → Int} {hist : Int → Int → Int} {G : gh} (hq : mQ D A now hist km rd reel G) (hok : mOK now) {way ex : Int} {w : UInt32} (hw : inR way) (hx : inR ex) : CT ⟨"PostageCounterModel", "letter", "(IFI)I"⟩ prog_13_method_32_code 7 (some .int) 2 48 0 0 D [.ref (A 0), .int (iI way), .float w, .int (iI ex)] G (mM A) (tI (fun z G' => ∃ r, sLetter now way w ex r ∧ mEnd D A now hist km rd reel r z G')) := by
  refine CT.enter (by decide +kernel) (Nat.le_of_ble_eq_true rfl) (fun F S ret hb hM hI => ?_)
  show V F 7 G 0 0 0 [(0, .ref (A 0)), (1, .int (iI way)), (2, .float w), (3, .int (iI ex))] []
  obtain ⟨th, ke, kept, part, best, hm, hkp⟩ := hq
  have hN := hok.2.2.2.2.2.2.1.1
  have hN2 := hok.2.2.2.2.2.2.1.2.1
  refine r_aload_n S dX11_letter_0 0 rfl ?_
  refine r_iload_n S dX11_letter_1 1 rfl ?_
  refine r_fload_n S dX11_letter_2 2 rfl ?_
  refine r_iload_n S dX11_letter_3 3 rfl ?_
  refine (c_V_T (As := [.int (iI way), .float w, .int (iI ex)]) (st := []) S (kX11_price ⟨_, _, _, _, _, hm, hkp⟩ hok (by omega) (by omega)) moX11_price ⟨by decide, by decide⟩ ⟨by omega, by omega⟩ rfl (Nat.le_of_ble_eq_true rfl) w907 w900 w901 hm.1 rfl rfl dX11_letter_4).goI S hb hM (fun r4 G4 hx4 hc4 => ?_)
  obtain ⟨hpz, th4, ke4, kept4, part4, best4, hm4, hkp⟩ := hc4
  refine r_istore (L' := [(4, .int (iI r4)), (0, .ref (A 0)), (1, .int (iI way)), (2, .float w), (3, .int (iI ex))]) S dX11_letter_7 (by decide) rfl ?_
  have hrr : inR r4 := sPrice_R hok hpz
  refine r_iload S dX11_letter_9 0 rfl ?_
  refine r_if_ge S 17 dX11_letter_11 (by decide) (by omega) (fun c11 => ?_) (fun c11 => ?_)
  · skip
    refine r_aload_n S dX11_letter_17 1 rfl ?_
    refine m_get_now S hm4 gtX11_7_X11 dX11_letter_18 ?_
    refine r_sipush S dX11_letter_21 (by decide) ?_
    refine m_ld_now S hm4 (by omega) (by omega) dX11_letter_24 ?_
    refine r_istore (L' := [(5, .int (iI (now 1286))), (4, .int (iI r4)), (0, .ref (A 0)), (1, .int (iI way)), (2, .float w), (3, .int (iI ex))]) S dX11_letter_25 (by decide) rfl ?_
    refine r_iload S dX11_letter_27 0 rfl ?_
    refine r_bipush S dX11_letter_29 (by decide) ?_
    refine r_icmp_ne S 37 dX11_letter_31 (by decide) (by omega) (by omega) (fun c31 => ?_) (fun c31 => ?_)
    · skip
      refine r_aload_n S dX11_letter_37 2 rfl ?_
      refine (c_V_T (As := []) (st := []) S (kX11_keep hm4 hkp) moX11_keep ⟨by decide, by decide⟩ ⟨by omega, by omega⟩ rfl (Nat.le_of_ble_eq_true rfl) w807 w809 w17 hm4.1 rfl rfl dX11_letter_38).goV S hb hM (fun G38 hx38 hc38 => ?_)
      obtain ⟨ke38, kept38, hm38, hkp38⟩ := hc38
      refine r_aload_n S dX11_letter_41 2 rfl ?_
      refine m_get_now S hm38 gtX11_7_X11 dX11_letter_42 ?_
      refine r_sipush S dX11_letter_45 (by decide) ?_
      refine r_iload S dX11_letter_48 0 rfl ?_
      refine r_iadd_e (1287 + now 1286) (by omega) S dX11_letter_50 ?_
      refine r_iload S dX11_letter_51 1 rfl ?_
      refine m_st_now S hb hM hm38 (by omega) (by omega) dX11_letter_53 (fun G53 f53 ef53 hm53 => ?_)
      refine r_aload_n S dX11_letter_54 2 rfl ?_
      refine m_get_now S hm53 gtX11_7_X11 dX11_letter_55 ?_
      refine r_sipush S dX11_letter_58 (by decide) ?_
      refine r_iload S dX11_letter_61 0 rfl ?_
      refine r_iadd_e (1347 + now 1286) (by omega) S dX11_letter_63 ?_
      refine r_iconst S dX11_letter_64 ?_
      refine m_st_now S hb hM hm53 (by omega) (by omega) dX11_letter_65 (fun G65 f65 ef65 hm65 => ?_)
      refine r_aload_n S dX11_letter_66 2 rfl ?_
      refine m_get_now S hm65 gtX11_7_X11 dX11_letter_67 ?_
      refine r_sipush S dX11_letter_70 (by decide) ?_
      refine r_iload S dX11_letter_73 0 rfl ?_
      refine r_iadd_e (1407 + now 1286) (by omega) S dX11_letter_75 ?_
      refine r_iconst S dX11_letter_76 ?_
      refine m_st_now S hb hM hm65 (by omega) (by omega) dX11_letter_77 (fun G77 f77 ef77 hm77 => ?_)
      refine r_aload_n S dX11_letter_78 2 rfl ?_
      refine m_get_now S hm77 gtX11_7_X11 dX11_letter_79 ?_
      refine r_sipush S dX11_letter_82 (by decide) ?_
      refine r_iload S dX11_letter_85 0 rfl ?_
      refine r_iadd_e (1467 + now 1286) (by omega) S dX11_letter_87 ?_
      refine r_iconst S dX11_letter_88 ?_
      refine m_st_now S hb hM hm77 (by omega) (by omega) dX11_letter_89 (fun G89 f89 ef89 hm89 => ?_)
      refine r_iconst S dX11_letter_90 ?_
      refine r_istore (L' := [(6, .int (iI 0)), (5, .int (iI (now 1286))), (4, .int (iI r4)), (0, .ref (A 0)), (1, .int (iI way)), (2, .float w), (3, .int (iI ex))]) S dX11_letter_91 (by decide) rfl ?_
      have L93 : ∀ (N : Nat) (p : Int) (g : Int → Int), ∀ (G : gh), mS D A th4 ke38 (kmF km) rd g kept38 reel part4 best4 G →  (10 - p).toNat < N → (0 ≤ p ∧ p ≤ 10) → (∀ j, g j = if 1527 + 10 * now 1286 ≤ j ∧ j < 1527 + 10 * now 1286 + p then 0 else if 2127 + 20 * now 1286 ≤ j ∧ j < 2127 + 20 * now 1286 + 2 * p then 0 else f89 j) → V F 7 G 0 0 93 [(0, .ref (A 0)), (5, .int (iI (now 1286))), (6, .int (iI p))] [] := by
        intro N
        induction N with
        | zero => intro p g G hm hN; exact absurd hN (Nat.not_lt_zero _)
        | succ N ih93 =>
          intro p g G hm hN93 hp i1
          refine r_iload S dX11_letter_93 2 rfl ?_
          refine r_bipush S dX11_letter_95 (by decide) ?_
          refine r_icmp_ge S 166 dX11_letter_97 (by decide) (by omega) (by omega) (fun c97 => ?_) (fun c97 => ?_)
          · skip
            refine r_aload_n S dX11_letter_166 0 rfl ?_
            refine m_get_now S hm gtX11_7_X11 dX11_letter_167 ?_
            refine r_sipush S dX11_letter_170 (by decide) ?_
            refine r_dup2 rfl rfl S dX11_letter_173 ?_
            refine m_ld_now S hm (by omega) (by omega) dX11_letter_174 ?_
            have h74 : g 1286 = now 1286 := by rw [i1, if_neg (by omega), if_neg (by omega), ef89, upI_n (by omega), ef77, upI_n (by omega), ef65, upI_n (by omega), ef53, upI_n (by omega)]
            rw [h74]
            refine r_iconst S dX11_letter_175 ?_
            refine r_iadd_e (1 + now 1286) (by omega) S dX11_letter_176 ?_
            refine m_st_now S hb hM hm (by omega) (by omega) dX11_letter_177 (fun G177 f177 ef177 hm177 => ?_)
            refine r_iload S dX11_letter_178 1 rfl ?_
            exact ret.ti (now 1286) dX11_letter_180 (by omega) (by omega) ⟨_, ⟨r4, hpz, rfl⟩, mEnd.m1 (by rw [if_neg (by omega), if_neg (by omega)]) ⟨_, _, _, _, _, by rw [show letterF now r4 = f177 from funext fun j => by rw [ef177]; unfold upI letterF; rw [i1 j, show p = 10 by omega, ef89, ef77, ef65, ef53]; unfold upI; (repeat' split) <;> first | rfl | omega]; exact hm177, hkp38⟩⟩
          · skip
            refine r_aload_n S dX11_letter_100 0 rfl ?_
            refine m_get_now S hm gtX11_7_X11 dX11_letter_101 ?_
            refine r_sipush S dX11_letter_104 (by decide) ?_
            refine r_bipush S dX11_letter_107 (by decide) ?_
            refine r_iload S dX11_letter_109 1 rfl ?_
            refine r_imul S dX11_letter_111 ?_
            refine r_iadd_e (1527 + 10 * (now 1286)) (by omega) S dX11_letter_112 ?_
            refine r_iload S dX11_letter_113 2 rfl ?_
            refine r_iadd_e (1527 + 10 * (now 1286) + p) (by omega) S dX11_letter_115 ?_
            refine r_iconst S dX11_letter_116 ?_
            refine m_st_now S hb hM hm (by omega) (by omega) dX11_letter_117 (fun G117 f117 ef117 hm117 => ?_)
            refine r_aload_n S dX11_letter_118 0 rfl ?_
            refine m_get_now S hm117 gtX11_7_X11 dX11_letter_119 ?_
            refine r_sipush S dX11_letter_122 (by decide) ?_
            refine r_bipush S dX11_letter_125 (by decide) ?_
            refine r_iload S dX11_letter_127 1 rfl ?_
            refine r_imul S dX11_letter_129 ?_
            refine r_iadd_e (2127 + 20 * (now 1286)) (by omega) S dX11_letter_130 ?_
            refine r_iconst S dX11_letter_131 ?_
            refine r_iload S dX11_letter_132 2 rfl ?_
            refine r_imul S dX11_letter_134 ?_
            refine r_iadd_e (2127 + 20 * (now 1286) + 2 * p) (by omega) S dX11_letter_135 ?_
            refine r_iconst S dX11_letter_136 ?_
            refine m_st_now S hb hM hm117 (by omega) (by omega) dX11_letter_137 (fun G137 f137 ef137 hm137 => ?_)
            refine r_aload_n S dX11_letter_138 0 rfl ?_
            refine m_get_now S hm137 gtX11_7_X11 dX11_letter_139 ?_
            refine r_sipush S dX11_letter_142 (by decide) ?_
            refine r_bipush S dX11_letter_145 (by decide) ?_
            refine r_iload S dX11_letter_147 1 rfl ?_
            refine r_imul S dX11_letter_149 ?_
            refine r_iadd_e (2127 + 20 * (now 1286)) (by omega) S dX11_letter_150 ?_
            refine r_iconst S dX11_letter_151 ?_
            refine r_iload S dX11_letter_152 2 rfl ?_
            refine r_imul S dX11_letter_154 ?_
            refine r_iadd_e (2127 + 20 * (now 1286) + 2 * p) (by omega) S dX11_letter_155 ?_
            refine r_iconst S dX11_letter_156 ?_
            refine r_iadd_e (2128 + 20 * (now 1286) + 2 * p) (by omega) S dX11_letter_157 ?_
            refine r_iconst S dX11_letter_158 ?_
            refine m_st_now S hb hM hm137 (by omega) (by omega) dX11_letter_159 (fun G159 f159 ef159 hm159 => ?_)
            refine r_iinc_e (L' := [(6, .int (iI (1 + p))), (0, .ref (A 0)), (5, .int (iI (now 1286)))]) (1 + p) (by omega) S dX11_letter_160 2 rfl (by decide) rfl ?_
            refine r_goto S 93 dX11_letter_163 (by decide) ?_
            refine V.sub [1, 2, 0] rfl ?_
            exact ih93 (1 + p) f159 _ hm159 (by omega) (by omega) (fun j => by rw [ef159, ef137, ef117]; unfold upI; rw [i1 j]; (repeat' split) <;> first | rfl | omega)
      refine V.sub [3, 1, 0] rfl ?_
      exact L93 _ 0 f89 _ hm89 (Nat.lt_succ_self _) (by omega) (fun j => by rw [if_neg (by omega), if_neg (by omega)])
    · skip
      refine r_bipush S dX11_letter_34 (by decide) ?_
      exact ret.ti (-5) dX11_letter_36 (by omega) (by omega) ⟨_, ⟨r4, hpz, rfl⟩, mEnd.m0 (by rw [if_neg (by omega), if_pos (by omega)]) ⟨_, _, _, _, _, hm4, hkp⟩⟩
  · skip
    refine r_iload S dX11_letter_14 0 rfl ?_
    exact ret.ti r4 dX11_letter_16 (by omega) (by omega) ⟨_, ⟨r4, hpz, rfl⟩, mEnd.m0 (by rw [if_pos (by omega)]) ⟨_, _, _, _, _, hm4, hkp⟩⟩

set_option maxRecDepth 20000 in
set_option maxHeartbeats 2000000 in
theorem kX11_told {D : va_G} {A : Nat → Nat} {km rd : Int} {now reel : Int → Int} {hist : Int → Int → Int} {G : gh} (hq : mQ D A now hist km rd reel G) (hok : mOK now) {l w : Int} (hl : inR l) (hw : inR w) : CT ⟨"PostageCounterModel", "told", "(II)I"⟩ prog_13_method_43_code 5 (some .int) 3 67 0 0 D [.ref (A 0), .int (iI l), .int (iI w)] G (mM A) (tI (mEnd D A now hist km rd reel ((sTold now l w, none)))) := by
  refine CT.enter (by decide +kernel) (Nat.le_of_ble_eq_true rfl) (fun F S ret hb hM hI => ?_)
  show V F 5 G 0 0 0 [(0, .ref (A 0)), (1, .int (iI l)), (2, .int (iI w))] []
  obtain ⟨th, ke, kept, part, best, hm, hkp⟩ := hq
  have hN := hok.2.2.2.2.2.2.1.1
  have hN2 := hok.2.2.2.2.2.2.1.2.1
  have hAF := allF_bd hok.1 hok.2.1
  refine r_aload_n S dX11_told_0 0 rfl ?_
  refine r_iconst S dX11_told_1 ?_
  refine m_put_th S hb hM hm ptX11_27_X11 dX11_told_2 (fun G2 hm2 => ?_)
  refine r_aload_n S dX11_told_5 0 rfl ?_
  refine r_iload_n S dX11_told_6 1 rfl ?_
  refine (c_V_P (As := [.int (iI l)]) (st := []) S (kX11_isLetter hm2 hok (by omega)) moX11_isLetter ⟨by decide, by decide⟩ ⟨by omega, by omega⟩ rfl (Nat.le_of_ble_eq_true rfl) w912 w914 w28 hm2.1 rfl rfl dX11_told_7).goI (fun r7 hc7 => ?_)
  refine r_if_ne S 16 dX11_told_10 (by decide) (by omega) (fun c10 => ?_) (fun c10 => ?_)
  · skip
    replace hc7 := zz1 hc7 c10
    have hNl := hok.2.2.2.2.2.2.1.2.2 l (by omega) (by omega)
    have L35 : ∀ (b : Int), ∀ (G : gh), mS D A 0 ke km rd now kept reel part best G →  True → (b = 1 ∧ now (1467 + l) = 1 ∨ b = 0 ∧ now (1467 + l) = 0) → V F 5 G 0 0 35 [(0, .ref (A 0)), (1, .int (iI l)), (2, .int (iI w))] [.int (iI b)] := by
      intro b G hm _ hbb
      refine r_istore_n (L' := [(3, .int (iI b)), (0, .ref (A 0)), (1, .int (iI l)), (2, .int (iI w))]) S dX11_told_35 (by decide) rfl ?_
      refine r_aload_n S dX11_told_36 1 rfl ?_
      refine m_get_now S hm gtX11_7_X11 dX11_told_37 ?_
      refine r_sipush S dX11_told_40 (by decide) ?_
      refine r_iload_n S dX11_told_43 2 rfl ?_
      refine r_iadd S dX11_told_44 ?_
      refine m_ld_now S hm (by omega) (by omega) dX11_told_45 ?_
      refine r_istore (L' := [(4, .int (iI (now (1287 + l)))), (3, .int (iI b)), (0, .ref (A 0)), (1, .int (iI l)), (2, .int (iI w))]) S dX11_told_46 (by decide) rfl ?_
      refine r_iload_n S dX11_told_48 4 rfl ?_
      rcases Classical.em (w = 0) with k49_0 | k49_0
      · refine r_tsw 0 88 S dX11_told_49 k49_0 (by decide) rfl (by decide) ?_
        refine r_iload S dX11_told_88 0 rfl ?_
        exact ret.ti (now (1287 + l)) dX11_told_90 (by omega) (by omega) (mEnd.m0 (by unfold sTold; rw [if_neg (by omega), if_pos (by omega)]) ⟨_, _, _, _, _, hm, hkp⟩)
      rcases Classical.em (w = 1) with k49_1 | k49_1
      · refine r_tsw 1 91 S dX11_told_49 k49_1 (by decide) rfl (by decide) ?_
        refine r_aload_n S dX11_told_91 2 rfl ?_
        refine m_get_now S hm gtX11_7_X11 dX11_told_92 ?_
        refine r_sipush S dX11_told_95 (by decide) ?_
        refine r_iload_n S dX11_told_98 3 rfl ?_
        refine r_iadd S dX11_told_99 ?_
        refine m_ld_now S hm (by omega) (by omega) dX11_told_100 ?_
        exact ret.ti (now (1347 + l)) dX11_told_101 (by omega) (by omega) (mEnd.m0 (by unfold sTold; rw [if_neg (by omega), if_neg (by omega), if_pos (by omega)]) ⟨_, _, _, _, _, hm, hkp⟩)
      rcases Classical.em (w = 2) with k49_2 | k49_2
      · refine r_tsw 2 102 S dX11_told_49 k49_2 (by decide) rfl (by decide) ?_
        refine r_iload_n S dX11_told_102 1 rfl ?_
        refine r_if_eq S 122 dX11_told_103 (by decide) (by omega) (fun c103 => ?_) (fun c103 => ?_)
        · skip
          refine r_iconst S dX11_told_122 ?_
          exact ret.ti 0 dX11_told_123 (by omega) (by omega) (mEnd.m0 (by unfold sTold; rw [if_neg (by omega), if_neg (by omega), if_neg (by omega), if_pos (by omega), if_neg (by omega)]) ⟨_, _, _, _, _, hm, hkp⟩)
        · skip
          refine r_aload_n S dX11_told_106 2 rfl ?_
          refine m_get_now S hm gtX11_7_X11 dX11_told_107 ?_
          refine r_sipush S dX11_told_110 (by decide) ?_
          refine r_iload_n S dX11_told_113 3 rfl ?_
          refine r_iadd S dX11_told_114 ?_
          refine m_ld_now S hm (by omega) (by omega) dX11_told_115 ?_
          refine r_iload S dX11_told_116 0 rfl ?_
          refine r_isub_e (now (1347 + l) - now (1287 + l)) (by omega) S dX11_told_118 ?_
          refine r_goto S 123 dX11_told_119 (by decide) ?_
          exact ret.ti (now (1347 + l) - now (1287 + l)) dX11_told_123 (by omega) (by omega) (mEnd.m0 (by unfold sTold; rw [if_neg (by omega), if_neg (by omega), if_neg (by omega), if_pos (by omega), if_pos (by omega)]) ⟨_, _, _, _, _, hm, hkp⟩)
      rcases Classical.em (w = 3) with k49_3 | k49_3
      · refine r_tsw 3 124 S dX11_told_49 k49_3 (by decide) rfl (by decide) ?_
        refine r_aload_n S dX11_told_124 2 rfl ?_
        refine m_get_now S hm gtX11_7_X11 dX11_told_125 ?_
        refine r_sipush S dX11_told_128 (by decide) ?_
        refine r_iload_n S dX11_told_131 3 rfl ?_
        refine r_iadd S dX11_told_132 ?_
        refine m_ld_now S hm (by omega) (by omega) dX11_told_133 ?_
        exact ret.ti (now (1407 + l)) dX11_told_134 (by omega) (by omega) (mEnd.m0 (by unfold sTold; rw [if_neg (by omega), if_neg (by omega), if_neg (by omega), if_neg (by omega), if_pos (by omega)]) ⟨_, _, _, _, _, hm, hkp⟩)
      rcases Classical.em (w = 4) with k49_4 | k49_4
      · refine r_tsw 4 135 S dX11_told_49 k49_4 (by decide) rfl (by decide) ?_
        refine r_iload_n S dX11_told_135 1 rfl ?_
        refine r_if_ne S 148 dX11_told_136 (by decide) (by omega) (fun c136 => ?_) (fun c136 => ?_)
        · skip
          refine r_iconst S dX11_told_148 ?_
          refine r_goto S 159 dX11_told_149 (by decide) ?_
          exact ret.ti 0 dX11_told_159 (by omega) (by omega) (mEnd.m0 (by unfold sTold; rw [if_neg (by omega), if_neg (by omega), if_neg (by omega), if_neg (by omega), if_neg (by omega), if_pos (by omega), if_pos (by omega)]) ⟨_, _, _, _, _, hm, hkp⟩)
        · skip
          refine r_aload_n S dX11_told_139 2 rfl ?_
          refine (c_V_P (As := []) (st := []) S (kX11_allFaces hm hok) moX11_allFaces ⟨by decide, by decide⟩ ⟨by omega, by omega⟩ rfl (Nat.le_of_ble_eq_true rfl) w949 w951 w36 hm.1 rfl rfl dX11_told_140).goI (fun r140 hc140 => ?_)
          refine r_iload S dX11_told_143 0 rfl ?_
          refine r_icmp_lt S 152 dX11_told_145 (by decide) (by omega) (by omega) (fun c145 => ?_) (fun c145 => ?_)
          · skip
            refine r_iload S dX11_told_152 0 rfl ?_
            refine r_aload_n S dX11_told_154 2 rfl ?_
            refine (c_V_P (As := []) (st := [.int (iI (now (1287 + l)))]) S (kX11_allFaces hm hok) moX11_allFaces ⟨by decide, by decide⟩ ⟨by omega, by omega⟩ rfl (Nat.le_of_ble_eq_true rfl) w949 w951 w36 hm.1 rfl rfl dX11_told_155).goI (fun r155 hc155 => ?_)
            refine r_isub_e (now (1287 + l) - r155) (by omega) S dX11_told_158 ?_
            exact ret.ti (now (1287 + l) - r155) dX11_told_159 (by omega) (by omega) (mEnd.m0 (by unfold sTold; rw [if_neg (by omega), if_neg (by omega), if_neg (by omega), if_neg (by omega), if_neg (by omega), if_pos (by omega), if_neg (by omega), hc155]) ⟨_, _, _, _, _, hm, hkp⟩)
          · skip
            refine r_iconst S dX11_told_148 ?_
            refine r_goto S 159 dX11_told_149 (by decide) ?_
            exact ret.ti 0 dX11_told_159 (by omega) (by omega) (mEnd.m0 (by unfold sTold; rw [if_neg (by omega), if_neg (by omega), if_neg (by omega), if_neg (by omega), if_neg (by omega), if_pos (by omega), if_pos (by omega)]) ⟨_, _, _, _, _, hm, hkp⟩)
      rcases Classical.em (w = 5) with k49_5 | k49_5
      · refine r_tsw 5 160 S dX11_told_49 k49_5 (by decide) rfl (by decide) ?_
        refine r_iload_n S dX11_told_160 1 rfl ?_
        refine r_if_eq S 168 dX11_told_161 (by decide) (by omega) (fun c161 => ?_) (fun c161 => ?_)
        · skip
          refine r_iconst S dX11_told_168 ?_
          exact ret.ti 0 dX11_told_169 (by omega) (by omega) (mEnd.m0 (by unfold sTold; rw [if_neg (by omega), if_neg (by omega), if_neg (by omega), if_neg (by omega), if_neg (by omega), if_neg (by omega)]; congr 1; omega) ⟨_, _, _, _, _, hm, hkp⟩)
        · skip
          refine r_iconst S dX11_told_164 ?_
          refine r_goto S 169 dX11_told_165 (by decide) ?_
          exact ret.ti 1 dX11_told_169 (by omega) (by omega) (mEnd.m0 (by unfold sTold; rw [if_neg (by omega), if_neg (by omega), if_neg (by omega), if_neg (by omega), if_neg (by omega), if_neg (by omega)]; congr 1; omega) ⟨_, _, _, _, _, hm, hkp⟩)
      refine r_tswD 170 S dX11_told_49 (by omega) (by omega) (by decide) ?_
      refine r_bipush S dX11_told_170 (by decide) ?_
      exact ret.ti (-3) dX11_told_172 (by omega) (by omega) (mEnd.m0 (by unfold sTold; rw [if_pos (by omega)]) ⟨_, _, _, _, _, hm, hkp⟩)
    refine r_aload_n S dX11_told_16 0 rfl ?_
    refine m_get_now S hm2 gtX11_7_X11 dX11_told_17 ?_
    refine r_sipush S dX11_told_20 (by decide) ?_
    refine r_iload_n S dX11_told_23 1 rfl ?_
    refine r_iadd S dX11_told_24 ?_
    refine m_ld_now S hm2 (by omega) (by omega) dX11_told_25 ?_
    refine r_iconst S dX11_told_26 ?_
    refine r_icmp_ne S 34 dX11_told_27 (by decide) (by omega) (by omega) (fun c27 => ?_) (fun c27 => ?_)
    · skip
      refine r_iconst S dX11_told_34 ?_
      refine V.sub [0, 1, 2] rfl ?_
      exact L35 0 _ hm2 trivial (by omega)
    · skip
      refine r_iconst S dX11_told_30 ?_
      refine r_goto S 35 dX11_told_31 (by decide) ?_
      refine V.sub [0, 1, 2] rfl ?_
      exact L35 1 _ hm2 trivial (by omega)
  · skip
    replace hc7 := zz0 hc7 c10
    refine r_bipush S dX11_told_13 (by decide) ?_
    exact ret.ti (-3) dX11_told_15 (by omega) (by omega) (mEnd.m0 (by unfold sTold; rw [if_pos (by omega)]) ⟨_, _, _, _, _, hm2, hkp⟩)
