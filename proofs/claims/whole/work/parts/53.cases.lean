/-! The law's cases -/
set_option maxHeartbeats 4000000 in
theorem cs_graph (l : Launch) (D : va_G) {X : State → Prop} {nm : String} {mc ms : Nat} {K0 : Nat → Nat} {sz0 : Nat} {Z : ZT} {K N : Nat → Nat} {R : Nat → Nat → Nat} {I : Nat → Nat → Int32} {J : Nat → Nat → Int64} {sz b Ln x m T j nn s nc nv ce : Nat} {xs : Nat → Int32} (hX : ∀ s, X s → xscr b Ln xs s) (h0 : K0 (b + 1) = 0) (hn : Ln < 2147483648) (hj : 6 * j + 6 ≤ Ln) (li : LI x m K N R sz) (cp : Cp x R I J m I J nn s nc nv ce)
    (nx : ∀ (K N : Nat → Nat) (R : Nat → Nat → Nat) (I : Nat → Nat → Int32) (J : Nat → Nat → Int64) (sz nn s nc nv ce : Nat), LI x m K N R sz → Cp x R I J m I J nn s nc nv ce → XW l D X RL nm cL_law 4 6 mc ms K0 sz0 Z 924 [.ref (b + 1), .ref x, .ref m, .int (nI (6 * j))] [] K N R I J sz (4 * T) (263 * T)) :
    XW l D X RL nm cL_law 4 6 mc ms K0 sz0 Z 136 [.ref (b + 1), .ref x, .ref m, .int (nI (6 * j))] [] K N R I J sz (4 * T + 4) (263 * T + 263) := by
  refine x_room (kc' := 4 * T + 4) (ks' := 263 * T + 263) (by omega) (by omega) ?_
  refine x_aload_n dL_law_136 rfl ?_
  refine x_aload_n dL_law_137 rfl ?_
  refine x_iload_n dL_law_138 rfl ?_
  refine x_iconst (v := nI 1) dL_law_139 (by decide +kernel) ?_
  refine x_iadd dL_law_140 ?_
  refine x_sld (6 * j + 1) hX h0 dL_law_141 (nI_add _ _) (by omega) hn ?_
  refine x_aload_n dL_law_142 rfl ?_
  refine x_iload_n dL_law_143 rfl ?_
  refine x_iconst (v := nI 2) dL_law_144 (by decide +kernel) ?_
  refine x_iadd dL_law_145 ?_
  refine x_sld (6 * j + 2) hX h0 dL_law_146 (nI_add _ _) (by omega) hn ?_
  refine law_c li (c_X2_graph l D li.2.2.1 _ _) dL_law_147 lk_L_13 im_X2_graph se_X2_graph cd_X2_graph vcX2 rfl (by decide) rfl (by decide) ?_
  intro v K' N' R' I' J' K2 N2 R2 I2 J2 sz2 hz lj
  obtain ⟨rfl, hz⟩ := hz
  have cp2 := lj.cp li cp
  refine x_aload_n dL_law_150 rfl ?_
  refine x_aload_n dL_law_151 rfl ?_
  refine x_iload_n dL_law_152 rfl ?_
  refine x_iconst (v := nI 1) dL_law_153 (by decide +kernel) ?_
  refine x_iadd dL_law_154 ?_
  refine x_sld (6 * j + 1) hX h0 dL_law_155 (nI_add _ _) (by omega) hn ?_
  refine x_aload_n dL_law_156 rfl ?_
  refine x_iload_n dL_law_157 rfl ?_
  refine x_iconst (v := nI 2) dL_law_158 (by decide +kernel) ?_
  refine x_iadd dL_law_159 ?_
  refine x_sld (6 * j + 2) hX h0 dL_law_160 (nI_add _ _) (by omega) hn ?_
  refine law_m lj (c_X3_graph l D lj.2.2.1 _ _) dL_law_161 lk_L_17 im_X3_graph se_X3_graph cd_X3_graph vcX3 rfl (by decide) rfl (by simp [Value.category]) ?_
  intro K3 N3 R3 I3 J3 le
  refine x_icmp_eq 924 dL_law_164 (by decide) (fun _ => ?_) (fun c => absurd (e_graph _ _) c)
  obtain ⟨cw', g0, g1, g2, g3, g4, q⟩ := f_graph cp2 li.2.2.1 _ _ hz
  obtain ⟨li', cp'⟩ := law_fin lj le cw' q
  exact nx _ _ _ _ _ _ _ _ _ _ _ li' cp'
set_option maxHeartbeats 4000000 in
theorem cs_clock (l : Launch) (D : va_G) {X : State → Prop} {nm : String} {mc ms : Nat} {K0 : Nat → Nat} {sz0 : Nat} {Z : ZT} {K N : Nat → Nat} {R : Nat → Nat → Nat} {I : Nat → Nat → Int32} {J : Nat → Nat → Int64} {sz b Ln x m T j nn s nc nv ce : Nat} {xs : Nat → Int32} (hX : ∀ s, X s → xscr b Ln xs s) (h0 : K0 (b + 1) = 0) (hn : Ln < 2147483648) (hj : 6 * j + 6 ≤ Ln) (li : LI x m K N R sz) (cp : Cp x R I J m I J nn s nc nv ce)
    (nx : ∀ (K N : Nat → Nat) (R : Nat → Nat → Nat) (I : Nat → Nat → Int32) (J : Nat → Nat → Int64) (sz nn s nc nv ce : Nat), LI x m K N R sz → Cp x R I J m I J nn s nc nv ce → XW l D X RL nm cL_law 4 6 mc ms K0 sz0 Z 924 [.ref (b + 1), .ref x, .ref m, .int (nI (6 * j))] [] K N R I J sz (4 * T) (263 * T)) :
    XW l D X RL nm cL_law 4 6 mc ms K0 sz0 Z 169 [.ref (b + 1), .ref x, .ref m, .int (nI (6 * j))] [] K N R I J sz (4 * T + 4) (263 * T + 263) := by
  refine x_room (kc' := 4 * T + 0) (ks' := 263 * T + 0) (by omega) (by omega) ?_
  refine x_aload_n dL_law_169 rfl ?_
  refine x_aload_n dL_law_170 rfl ?_
  refine x_iload_n dL_law_171 rfl ?_
  refine x_iconst (v := nI 1) dL_law_172 (by decide +kernel) ?_
  refine x_iadd dL_law_173 ?_
  refine x_sld (6 * j + 1) hX h0 dL_law_174 (nI_add _ _) (by omega) hn ?_
  refine law_c li (c_X2_clock l D li.2.2.1 _) dL_law_175 lk_L_18 im_X2_clock se_X2_clock cd_X2_clock vcX2 rfl (by decide) rfl (by decide) ?_
  intro v K' N' R' I' J' K2 N2 R2 I2 J2 sz2 hz lj
  obtain ⟨rfl, rfl, rfl, rfl, rfl, rfl, rfl⟩ := hz
  have cp2 := lj.cp li cp
  refine x_aload_n dL_law_178 rfl ?_
  refine x_aload_n dL_law_179 rfl ?_
  refine x_iload_n dL_law_180 rfl ?_
  refine x_iconst (v := nI 1) dL_law_181 (by decide +kernel) ?_
  refine x_iadd dL_law_182 ?_
  refine x_sld (6 * j + 1) hX h0 dL_law_183 (nI_add _ _) (by omega) hn ?_
  refine law_m lj (c_X3_clock2 l D lj.2.2.1 _) dL_law_184 lk_L_22 im_X3_clock se_X3_clock cd_X3_clock vcX3 rfl (by decide) rfl (by simp [Value.category]) ?_
  intro K3 N3 R3 I3 J3 le
  refine x_icmp_eq 924 dL_law_187 (by decide) (fun _ => ?_) (fun c => absurd (e_clock cp2 _) c)
  obtain ⟨li', cp'⟩ := law_fin lj le li.2.2.1 (f_clock cp2 li.2.2.1 _)
  exact nx _ _ _ _ _ _ _ _ _ _ _ li' cp'
set_option maxHeartbeats 4000000 in
theorem cs_put (l : Launch) (D : va_G) {X : State → Prop} {nm : String} {mc ms : Nat} {K0 : Nat → Nat} {sz0 : Nat} {Z : ZT} {K N : Nat → Nat} {R : Nat → Nat → Nat} {I : Nat → Nat → Int32} {J : Nat → Nat → Int64} {sz b Ln x m T j nn s nc nv ce : Nat} {xs : Nat → Int32} (hX : ∀ s, X s → xscr b Ln xs s) (h0 : K0 (b + 1) = 0) (hn : Ln < 2147483648) (hj : 6 * j + 6 ≤ Ln) (li : LI x m K N R sz) (cp : Cp x R I J m I J nn s nc nv ce)
    (nx : ∀ (K N : Nat → Nat) (R : Nat → Nat → Nat) (I : Nat → Nat → Int32) (J : Nat → Nat → Int64) (sz nn s nc nv ce : Nat), LI x m K N R sz → Cp x R I J m I J nn s nc nv ce → XW l D X RL nm cL_law 4 6 mc ms K0 sz0 Z 924 [.ref (b + 1), .ref x, .ref m, .int (nI (6 * j))] [] K N R I J sz (4 * T) (263 * T)) :
    XW l D X RL nm cL_law 4 6 mc ms K0 sz0 Z 192 [.ref (b + 1), .ref x, .ref m, .int (nI (6 * j))] [] K N R I J sz (4 * T + 4) (263 * T + 263) := by
  refine x_room (kc' := 4 * T + 4) (ks' := 263 * T + 263) (by omega) (by omega) ?_
  refine x_aload_n dL_law_192 rfl ?_
  refine x_aload_n dL_law_193 rfl ?_
  refine x_iload_n dL_law_194 rfl ?_
  refine x_iconst (v := nI 1) dL_law_195 (by decide +kernel) ?_
  refine x_iadd dL_law_196 ?_
  refine x_sld (6 * j + 1) hX h0 dL_law_197 (nI_add _ _) (by omega) hn ?_
  refine x_aload_n dL_law_198 rfl ?_
  refine x_iload_n dL_law_199 rfl ?_
  refine x_iconst (v := nI 2) dL_law_200 (by decide +kernel) ?_
  refine x_iadd dL_law_201 ?_
  refine x_sld (6 * j + 2) hX h0 dL_law_202 (nI_add _ _) (by omega) hn ?_
  refine x_aload_n dL_law_203 rfl ?_
  refine x_iload_n dL_law_204 rfl ?_
  refine x_iconst (v := nI 3) dL_law_205 (by decide +kernel) ?_
  refine x_iadd dL_law_206 ?_
  refine x_sld (6 * j + 3) hX h0 dL_law_207 (nI_add _ _) (by omega) hn ?_
  refine law_c li (c_X2_put l D li.2.2.1 cp.1.2.1.2.2.2.1 cp.nvle cp.hvv cp.1.2.1.1 cp.1.1.1 cp.1.2.1.2.1 cp.1.1.2.1 cp.1.1.2.2.1 _ _ _) dL_law_208 lk_L_23 im_X2_put se_X2_put cd_X2_put vcX2 rfl (by decide) rfl (by decide) ?_
  intro v K' N' R' I' J' K2 N2 R2 I2 J2 sz2 hz lj
  obtain ⟨rfl, hz⟩ := hz
  have cp2 := lj.cp li cp
  obtain ⟨sm, s1, s2, s3, s4, s5⟩ := cp2.sm
  refine x_aload_n dL_law_211 rfl ?_
  refine x_aload_n dL_law_212 rfl ?_
  refine x_iload_n dL_law_213 rfl ?_
  refine x_iconst (v := nI 1) dL_law_214 (by decide +kernel) ?_
  refine x_iadd dL_law_215 ?_
  refine x_sld (6 * j + 1) hX h0 dL_law_216 (nI_add _ _) (by omega) hn ?_
  refine x_aload_n dL_law_217 rfl ?_
  refine x_iload_n dL_law_218 rfl ?_
  refine x_iconst (v := nI 2) dL_law_219 (by decide +kernel) ?_
  refine x_iadd dL_law_220 ?_
  refine x_sld (6 * j + 2) hX h0 dL_law_221 (nI_add _ _) (by omega) hn ?_
  refine x_aload_n dL_law_222 rfl ?_
  refine x_iload_n dL_law_223 rfl ?_
  refine x_iconst (v := nI 3) dL_law_224 (by decide +kernel) ?_
  refine x_iadd dL_law_225 ?_
  refine x_sld (6 * j + 3) hX h0 dL_law_226 (nI_add _ _) (by omega) hn ?_
  refine law_m lj (c_X3_put l D lj.2.2.1 cp2.1.2.2.1.2.2.1 cp.nvle cp2.1.2.2.1.1 cp.1.1.1 _ _ _ s1 s3 s2) dL_law_227 lk_L_27 im_X3_put se_X3_put cd_X3_put vcX3 rfl (by decide) rfl (by simp [Value.category]) ?_
  intro K3 N3 R3 I3 J3 le
  refine x_icmp_eq 924 dL_law_230 (by decide) (fun _ => ?_) (fun c => absurd (e_put cp2 _ _ _ true) c)
  have cw' := cw_if li.2.2.1 hz
  obtain ⟨nv2, ce2, q⟩ := st_put cp2 li.2.2.1 s5 _ _ _ true hz
  obtain ⟨li', cp'⟩ := law_fin lj le cw' q
  exact nx _ _ _ _ _ _ _ _ _ _ _ li' cp'
set_option maxHeartbeats 4000000 in
theorem cs_take (l : Launch) (D : va_G) {X : State → Prop} {nm : String} {mc ms : Nat} {K0 : Nat → Nat} {sz0 : Nat} {Z : ZT} {K N : Nat → Nat} {R : Nat → Nat → Nat} {I : Nat → Nat → Int32} {J : Nat → Nat → Int64} {sz b Ln x m T j nn s nc nv ce : Nat} {xs : Nat → Int32} (hX : ∀ s, X s → xscr b Ln xs s) (h0 : K0 (b + 1) = 0) (hn : Ln < 2147483648) (hj : 6 * j + 6 ≤ Ln) (li : LI x m K N R sz) (cp : Cp x R I J m I J nn s nc nv ce)
    (nx : ∀ (K N : Nat → Nat) (R : Nat → Nat → Nat) (I : Nat → Nat → Int32) (J : Nat → Nat → Int64) (sz nn s nc nv ce : Nat), LI x m K N R sz → Cp x R I J m I J nn s nc nv ce → XW l D X RL nm cL_law 4 6 mc ms K0 sz0 Z 924 [.ref (b + 1), .ref x, .ref m, .int (nI (6 * j))] [] K N R I J sz (4 * T) (263 * T)) :
    XW l D X RL nm cL_law 4 6 mc ms K0 sz0 Z 235 [.ref (b + 1), .ref x, .ref m, .int (nI (6 * j))] [] K N R I J sz (4 * T + 4) (263 * T + 263) := by
  refine x_room (kc' := 4 * T + 4) (ks' := 263 * T + 263) (by omega) (by omega) ?_
  refine x_aload_n dL_law_235 rfl ?_
  refine x_aload_n dL_law_236 rfl ?_
  refine x_iload_n dL_law_237 rfl ?_
  refine x_iconst (v := nI 1) dL_law_238 (by decide +kernel) ?_
  refine x_iadd dL_law_239 ?_
  refine x_sld (6 * j + 1) hX h0 dL_law_240 (nI_add _ _) (by omega) hn ?_
  refine x_aload_n dL_law_241 rfl ?_
  refine x_iload_n dL_law_242 rfl ?_
  refine x_iconst (v := nI 2) dL_law_243 (by decide +kernel) ?_
  refine x_iadd dL_law_244 ?_
  refine x_sld (6 * j + 2) hX h0 dL_law_245 (nI_add _ _) (by omega) hn ?_
  refine x_aload_n dL_law_246 rfl ?_
  refine x_iload_n dL_law_247 rfl ?_
  refine x_iconst (v := nI 3) dL_law_248 (by decide +kernel) ?_
  refine x_iadd dL_law_249 ?_
  refine x_sld (6 * j + 3) hX h0 dL_law_250 (nI_add _ _) (by omega) hn ?_
  refine law_c li (c_X2_take l D li.2.2.1 cp.1.2.1.2.2.2.1 cp.nvle cp.hvv cp.1.2.1.1 cp.1.1.1 cp.1.2.1.2.1 cp.1.1.2.1 cp.1.1.2.2.1 _ _ _) dL_law_251 lk_L_28 im_X2_take se_X2_take cd_X2_take vcX2 rfl (by decide) rfl (by decide) ?_
  intro v K' N' R' I' J' K2 N2 R2 I2 J2 sz2 hz lj
  obtain ⟨rfl, hz⟩ := hz
  have cp2 := lj.cp li cp
  obtain ⟨sm, s1, s2, s3, s4, s5⟩ := cp2.sm
  refine x_aload_n dL_law_254 rfl ?_
  refine x_aload_n dL_law_255 rfl ?_
  refine x_iload_n dL_law_256 rfl ?_
  refine x_iconst (v := nI 1) dL_law_257 (by decide +kernel) ?_
  refine x_iadd dL_law_258 ?_
  refine x_sld (6 * j + 1) hX h0 dL_law_259 (nI_add _ _) (by omega) hn ?_
  refine x_aload_n dL_law_260 rfl ?_
  refine x_iload_n dL_law_261 rfl ?_
  refine x_iconst (v := nI 2) dL_law_262 (by decide +kernel) ?_
  refine x_iadd dL_law_263 ?_
  refine x_sld (6 * j + 2) hX h0 dL_law_264 (nI_add _ _) (by omega) hn ?_
  refine x_aload_n dL_law_265 rfl ?_
  refine x_iload_n dL_law_266 rfl ?_
  refine x_iconst (v := nI 3) dL_law_267 (by decide +kernel) ?_
  refine x_iadd dL_law_268 ?_
  refine x_sld (6 * j + 3) hX h0 dL_law_269 (nI_add _ _) (by omega) hn ?_
  refine law_m lj (c_X3_take l D lj.2.2.1 cp2.1.2.2.1.2.2.1 cp.nvle cp2.1.2.2.1.1 cp.1.1.1 _ _ _ s1 s3 s2) dL_law_270 lk_L_31 im_X3_take se_X3_take cd_X3_take vcX3 rfl (by decide) rfl (by simp [Value.category]) ?_
  intro K3 N3 R3 I3 J3 le
  refine x_icmp_eq 924 dL_law_273 (by decide) (fun _ => ?_) (fun c => absurd (e_put cp2 _ _ _ false) c)
  have cw' := cw_if li.2.2.1 hz
  obtain ⟨nv2, ce2, q⟩ := st_put cp2 li.2.2.1 s5 _ _ _ false hz
  obtain ⟨li', cp'⟩ := law_fin lj le cw' q
  exact nx _ _ _ _ _ _ _ _ _ _ _ li' cp'
set_option maxHeartbeats 4000000 in
theorem cs_set (l : Launch) (D : va_G) {X : State → Prop} {nm : String} {mc ms : Nat} {K0 : Nat → Nat} {sz0 : Nat} {Z : ZT} {K N : Nat → Nat} {R : Nat → Nat → Nat} {I : Nat → Nat → Int32} {J : Nat → Nat → Int64} {sz b Ln x m T j nn s nc nv ce : Nat} {xs : Nat → Int32} (hX : ∀ s, X s → xscr b Ln xs s) (h0 : K0 (b + 1) = 0) (hn : Ln < 2147483648) (hj : 6 * j + 6 ≤ Ln) (li : LI x m K N R sz) (cp : Cp x R I J m I J nn s nc nv ce)
    (nx : ∀ (K N : Nat → Nat) (R : Nat → Nat → Nat) (I : Nat → Nat → Int32) (J : Nat → Nat → Int64) (sz nn s nc nv ce : Nat), LI x m K N R sz → Cp x R I J m I J nn s nc nv ce → XW l D X RL nm cL_law 4 6 mc ms K0 sz0 Z 924 [.ref (b + 1), .ref x, .ref m, .int (nI (6 * j))] [] K N R I J sz (4 * T) (263 * T)) :
    XW l D X RL nm cL_law 4 6 mc ms K0 sz0 Z 278 [.ref (b + 1), .ref x, .ref m, .int (nI (6 * j))] [] K N R I J sz (4 * T + 4) (263 * T + 263) := by
  refine x_room (kc' := 4 * T + 4) (ks' := 263 * T + 263) (by omega) (by omega) ?_
  refine x_aload_n dL_law_278 rfl ?_
  refine x_aload_n dL_law_279 rfl ?_
  refine x_iload_n dL_law_280 rfl ?_
  refine x_iconst (v := nI 1) dL_law_281 (by decide +kernel) ?_
  refine x_iadd dL_law_282 ?_
  refine x_sld (6 * j + 1) hX h0 dL_law_283 (nI_add _ _) (by omega) hn ?_
  refine x_aload_n dL_law_284 rfl ?_
  refine x_iload_n dL_law_285 rfl ?_
  refine x_iconst (v := nI 2) dL_law_286 (by decide +kernel) ?_
  refine x_iadd dL_law_287 ?_
  refine x_sld (6 * j + 2) hX h0 dL_law_288 (nI_add _ _) (by omega) hn ?_
  refine x_aload_n dL_law_289 rfl ?_
  refine x_iload_n dL_law_290 rfl ?_
  refine x_iconst (v := nI 3) dL_law_291 (by decide +kernel) ?_
  refine x_iadd dL_law_292 ?_
  refine x_sld (6 * j + 3) hX h0 dL_law_293 (nI_add _ _) (by omega) hn ?_
  refine x_aload_n dL_law_294 rfl ?_
  refine x_iload_n dL_law_295 rfl ?_
  refine x_iconst (v := nI 4) dL_law_296 (by decide +kernel) ?_
  refine x_iadd dL_law_297 ?_
  refine x_sld (6 * j + 4) hX h0 dL_law_298 (nI_add _ _) (by omega) hn ?_
  refine x_i2l dL_law_299 rfl ?_
  refine x_bipush (v := nI 32) dL_law_300 (by decide +kernel) ?_
  refine x_lshl dL_law_302 rfl ?_
  refine x_aload_n dL_law_303 rfl ?_
  refine x_iload_n dL_law_304 rfl ?_
  refine x_iconst (v := nI 5) dL_law_305 (by decide +kernel) ?_
  refine x_iadd dL_law_306 ?_
  refine x_sld (6 * j + 5) hX h0 dL_law_307 (nI_add _ _) (by omega) hn ?_
  refine x_i2l dL_law_308 rfl ?_
  refine x_ldc2 dL_law_309 kl_L_32 ?_
  refine x_land dL_law_312 ?_
  refine x_lor dL_law_313 ?_
  refine law_c li (c_X2_set l D li.2.2.1 cp.1.2.1.2.2.2.1 cp.nvle cp.hvv cp.1.2.1.1 cp.1.1.1 cp.1.2.1.2.1 cp.1.1.2.1 cp.1.1.2.2.1 _ _ _ _) dL_law_314 lk_L_34 im_X2_set se_X2_set cd_X2_set vcX2 rfl (by decide) rfl (by decide) ?_
  intro v K' N' R' I' J' K2 N2 R2 I2 J2 sz2 hz lj
  obtain ⟨rfl, hz⟩ := hz
  have cp2 := lj.cp li cp
  obtain ⟨sm, s1, s2, s3, s4, s5⟩ := cp2.sm
  refine x_aload_n dL_law_317 rfl ?_
  refine x_aload_n dL_law_318 rfl ?_
  refine x_iload_n dL_law_319 rfl ?_
  refine x_iconst (v := nI 1) dL_law_320 (by decide +kernel) ?_
  refine x_iadd dL_law_321 ?_
  refine x_sld (6 * j + 1) hX h0 dL_law_322 (nI_add _ _) (by omega) hn ?_
  refine x_aload_n dL_law_323 rfl ?_
  refine x_iload_n dL_law_324 rfl ?_
  refine x_iconst (v := nI 2) dL_law_325 (by decide +kernel) ?_
  refine x_iadd dL_law_326 ?_
  refine x_sld (6 * j + 2) hX h0 dL_law_327 (nI_add _ _) (by omega) hn ?_
  refine x_aload_n dL_law_328 rfl ?_
  refine x_iload_n dL_law_329 rfl ?_
  refine x_iconst (v := nI 3) dL_law_330 (by decide +kernel) ?_
  refine x_iadd dL_law_331 ?_
  refine x_sld (6 * j + 3) hX h0 dL_law_332 (nI_add _ _) (by omega) hn ?_
  refine x_aload_n dL_law_333 rfl ?_
  refine x_iload_n dL_law_334 rfl ?_
  refine x_iconst (v := nI 4) dL_law_335 (by decide +kernel) ?_
  refine x_iadd dL_law_336 ?_
  refine x_sld (6 * j + 4) hX h0 dL_law_337 (nI_add _ _) (by omega) hn ?_
  refine x_i2l dL_law_338 rfl ?_
  refine x_bipush (v := nI 32) dL_law_339 (by decide +kernel) ?_
  refine x_lshl dL_law_341 rfl ?_
  refine x_aload_n dL_law_342 rfl ?_
  refine x_iload_n dL_law_343 rfl ?_
  refine x_iconst (v := nI 5) dL_law_344 (by decide +kernel) ?_
  refine x_iadd dL_law_345 ?_
  refine x_sld (6 * j + 5) hX h0 dL_law_346 (nI_add _ _) (by omega) hn ?_
  refine x_i2l dL_law_347 rfl ?_
  refine x_ldc2 dL_law_348 kl_L_32 ?_
  refine x_land dL_law_351 ?_
  refine x_lor dL_law_352 ?_
  refine law_m lj (c_X3_set l D lj.2.2.1 cp2.1.2.2.1.2.2.1 cp.nvle cp2.1.2.2.1.1 cp.1.1.1 _ _ _ _ s1 s3 s2) dL_law_353 lk_L_38 im_X3_set se_X3_set cd_X3_set vcX3 rfl (by decide) rfl (by simp [Value.category]) ?_
  intro K3 N3 R3 I3 J3 le
  refine x_icmp_eq 924 dL_law_356 (by decide) (fun _ => ?_) (fun c => absurd (e_set cp2 _ _ _) c)
  have cw' := cw_if li.2.2.1 hz
  obtain ⟨nv2, ce2, q⟩ := st_set cp2 li.2.2.1 s5 _ _ _ _ hz
  obtain ⟨li', cp'⟩ := law_fin lj le cw' q
  exact nx _ _ _ _ _ _ _ _ _ _ _ li' cp'
set_option maxHeartbeats 4000000 in
theorem cs_has (l : Launch) (D : va_G) {X : State → Prop} {nm : String} {mc ms : Nat} {K0 : Nat → Nat} {sz0 : Nat} {Z : ZT} {K N : Nat → Nat} {R : Nat → Nat → Nat} {I : Nat → Nat → Int32} {J : Nat → Nat → Int64} {sz b Ln x m T j nn s nc nv ce : Nat} {xs : Nat → Int32} (hX : ∀ s, X s → xscr b Ln xs s) (h0 : K0 (b + 1) = 0) (hn : Ln < 2147483648) (hj : 6 * j + 6 ≤ Ln) (li : LI x m K N R sz) (cp : Cp x R I J m I J nn s nc nv ce)
    (nx : ∀ (K N : Nat → Nat) (R : Nat → Nat → Nat) (I : Nat → Nat → Int32) (J : Nat → Nat → Int64) (sz nn s nc nv ce : Nat), LI x m K N R sz → Cp x R I J m I J nn s nc nv ce → XW l D X RL nm cL_law 4 6 mc ms K0 sz0 Z 924 [.ref (b + 1), .ref x, .ref m, .int (nI (6 * j))] [] K N R I J sz (4 * T) (263 * T)) :
    XW l D X RL nm cL_law 4 6 mc ms K0 sz0 Z 361 [.ref (b + 1), .ref x, .ref m, .int (nI (6 * j))] [] K N R I J sz (4 * T + 4) (263 * T + 263) := by
  refine x_room (kc' := 4 * T + 0) (ks' := 263 * T + 0) (by omega) (by omega) ?_
  refine x_aload_n dL_law_361 rfl ?_
  refine x_aload_n dL_law_362 rfl ?_
  refine x_iload_n dL_law_363 rfl ?_
  refine x_iconst (v := nI 1) dL_law_364 (by decide +kernel) ?_
  refine x_iadd dL_law_365 ?_
  refine x_sld (6 * j + 1) hX h0 dL_law_366 (nI_add _ _) (by omega) hn ?_
  refine x_aload_n dL_law_367 rfl ?_
  refine x_iload_n dL_law_368 rfl ?_
  refine x_iconst (v := nI 2) dL_law_369 (by decide +kernel) ?_
  refine x_iadd dL_law_370 ?_
  refine x_sld (6 * j + 2) hX h0 dL_law_371 (nI_add _ _) (by omega) hn ?_
  refine x_aload_n dL_law_372 rfl ?_
  refine x_iload_n dL_law_373 rfl ?_
  refine x_iconst (v := nI 3) dL_law_374 (by decide +kernel) ?_
  refine x_iadd dL_law_375 ?_
  refine x_sld (6 * j + 3) hX h0 dL_law_376 (nI_add _ _) (by omega) hn ?_
  refine law_c li (c_X2_has l D li.2.2.1 cp.1.2.1.2.2.2.1 cp.nvle cp.hvv cp.1.2.1.1 cp.1.1.1 _ _ _) dL_law_377 lk_L_39 im_X2_has se_X2_has cd_X2_has vcX2 rfl (by decide) rfl (by decide) ?_
  intro v K' N' R' I' J' K2 N2 R2 I2 J2 sz2 hz lj
  obtain ⟨rfl, rfl, rfl, rfl, rfl, rfl, rfl⟩ := hz
  have cp2 := lj.cp li cp
  refine x_aload_n dL_law_380 rfl ?_
  refine x_aload_n dL_law_381 rfl ?_
  refine x_iload_n dL_law_382 rfl ?_
  refine x_iconst (v := nI 1) dL_law_383 (by decide +kernel) ?_
  refine x_iadd dL_law_384 ?_
  refine x_sld (6 * j + 1) hX h0 dL_law_385 (nI_add _ _) (by omega) hn ?_
  refine x_aload_n dL_law_386 rfl ?_
  refine x_iload_n dL_law_387 rfl ?_
  refine x_iconst (v := nI 2) dL_law_388 (by decide +kernel) ?_
  refine x_iadd dL_law_389 ?_
  refine x_sld (6 * j + 2) hX h0 dL_law_390 (nI_add _ _) (by omega) hn ?_
  refine x_aload_n dL_law_391 rfl ?_
  refine x_iload_n dL_law_392 rfl ?_
  refine x_iconst (v := nI 3) dL_law_393 (by decide +kernel) ?_
  refine x_iadd dL_law_394 ?_
  refine x_sld (6 * j + 3) hX h0 dL_law_395 (nI_add _ _) (by omega) hn ?_
  refine law_m lj (c_X3_has l D lj.2.2.1 cp2.1.2.2.1.2.2.1 cp.nvle cp2.1.2.2.1.1 cp.1.1.1 _ _ _) dL_law_396 lk_L_42 im_X3_has se_X3_has cd_X3_has vcX3 rfl (by decide) rfl (by simp [Value.category]) ?_
  intro K3 N3 R3 I3 J3 le
  refine x_icmp_eq 924 dL_law_399 (by decide) (fun _ => ?_) (fun c => absurd (e_has cp2 _ _ _) c)
  obtain ⟨li', cp'⟩ := law_fin lj le li.2.2.1 (cp2)
  exact nx _ _ _ _ _ _ _ _ _ _ _ li' cp'
set_option maxHeartbeats 4000000 in
theorem cs_at (l : Launch) (D : va_G) {X : State → Prop} {nm : String} {mc ms : Nat} {K0 : Nat → Nat} {sz0 : Nat} {Z : ZT} {K N : Nat → Nat} {R : Nat → Nat → Nat} {I : Nat → Nat → Int32} {J : Nat → Nat → Int64} {sz b Ln x m T j nn s nc nv ce : Nat} {xs : Nat → Int32} (hX : ∀ s, X s → xscr b Ln xs s) (h0 : K0 (b + 1) = 0) (hn : Ln < 2147483648) (hj : 6 * j + 6 ≤ Ln) (li : LI x m K N R sz) (cp : Cp x R I J m I J nn s nc nv ce)
    (nx : ∀ (K N : Nat → Nat) (R : Nat → Nat → Nat) (I : Nat → Nat → Int32) (J : Nat → Nat → Int64) (sz nn s nc nv ce : Nat), LI x m K N R sz → Cp x R I J m I J nn s nc nv ce → XW l D X RL nm cL_law 4 6 mc ms K0 sz0 Z 924 [.ref (b + 1), .ref x, .ref m, .int (nI (6 * j))] [] K N R I J sz (4 * T) (263 * T)) :
    XW l D X RL nm cL_law 4 6 mc ms K0 sz0 Z 404 [.ref (b + 1), .ref x, .ref m, .int (nI (6 * j))] [] K N R I J sz (4 * T + 4) (263 * T + 263) := by
  refine x_room (kc' := 4 * T + 0) (ks' := 263 * T + 0) (by omega) (by omega) ?_
  refine x_aload_n dL_law_404 rfl ?_
  refine x_aload_n dL_law_405 rfl ?_
  refine x_iload_n dL_law_406 rfl ?_
  refine x_iconst (v := nI 1) dL_law_407 (by decide +kernel) ?_
  refine x_iadd dL_law_408 ?_
  refine x_sld (6 * j + 1) hX h0 dL_law_409 (nI_add _ _) (by omega) hn ?_
  refine x_aload_n dL_law_410 rfl ?_
  refine x_iload_n dL_law_411 rfl ?_
  refine x_iconst (v := nI 2) dL_law_412 (by decide +kernel) ?_
  refine x_iadd dL_law_413 ?_
  refine x_sld (6 * j + 2) hX h0 dL_law_414 (nI_add _ _) (by omega) hn ?_
  refine x_aload_n dL_law_415 rfl ?_
  refine x_iload_n dL_law_416 rfl ?_
  refine x_iconst (v := nI 3) dL_law_417 (by decide +kernel) ?_
  refine x_iadd dL_law_418 ?_
  refine x_sld (6 * j + 3) hX h0 dL_law_419 (nI_add _ _) (by omega) hn ?_
  refine law_c li (c_X2_at l D li.2.2.1 cp.1.2.1.2.2.2.1 cp.nvle cp.hvv cp.1.2.1.1 cp.1.1.1 _ _ _) dL_law_420 lk_L_43 im_X2_at se_X2_at cd_X2_at vcX2 rfl (by decide) rfl (by decide) ?_
  intro v K' N' R' I' J' K2 N2 R2 I2 J2 sz2 hz lj
  obtain ⟨rfl, rfl, rfl, rfl, rfl, rfl, rfl⟩ := hz
  have cp2 := lj.cp li cp
  refine x_aload_n dL_law_423 rfl ?_
  refine x_aload_n dL_law_424 rfl ?_
  refine x_iload_n dL_law_425 rfl ?_
  refine x_iconst (v := nI 1) dL_law_426 (by decide +kernel) ?_
  refine x_iadd dL_law_427 ?_
  refine x_sld (6 * j + 1) hX h0 dL_law_428 (nI_add _ _) (by omega) hn ?_
  refine x_aload_n dL_law_429 rfl ?_
  refine x_iload_n dL_law_430 rfl ?_
  refine x_iconst (v := nI 2) dL_law_431 (by decide +kernel) ?_
  refine x_iadd dL_law_432 ?_
  refine x_sld (6 * j + 2) hX h0 dL_law_433 (nI_add _ _) (by omega) hn ?_
  refine x_aload_n dL_law_434 rfl ?_
  refine x_iload_n dL_law_435 rfl ?_
  refine x_iconst (v := nI 3) dL_law_436 (by decide +kernel) ?_
  refine x_iadd dL_law_437 ?_
  refine x_sld (6 * j + 3) hX h0 dL_law_438 (nI_add _ _) (by omega) hn ?_
  refine law_m lj (c_X3_at l D lj.2.2.1 cp2.1.2.2.1.2.2.1 cp.nvle cp2.1.2.2.1.1 cp.1.1.1 _ _ _) dL_law_439 lk_L_47 im_X3_at se_X3_at cd_X3_at vcX3 rfl (by decide) rfl (by simp [Value.category]) ?_
  intro K3 N3 R3 I3 J3 le
  refine x_lcmp dL_law_442 ?_
  refine x_if_eq 924 dL_law_443 (by decide) (fun _ => ?_) (fun c => absurd (cmp_eq.mpr (e_at cp2 _ _ _)) c)
  obtain ⟨li', cp'⟩ := law_fin lj le li.2.2.1 (cp2)
  exact nx _ _ _ _ _ _ _ _ _ _ _ li' cp'
set_option maxHeartbeats 4000000 in
theorem cs_arc (l : Launch) (D : va_G) {X : State → Prop} {nm : String} {mc ms : Nat} {K0 : Nat → Nat} {sz0 : Nat} {Z : ZT} {K N : Nat → Nat} {R : Nat → Nat → Nat} {I : Nat → Nat → Int32} {J : Nat → Nat → Int64} {sz b Ln x m T j nn s nc nv ce : Nat} {xs : Nat → Int32} (hX : ∀ s, X s → xscr b Ln xs s) (h0 : K0 (b + 1) = 0) (hn : Ln < 2147483648) (hj : 6 * j + 6 ≤ Ln) (li : LI x m K N R sz) (cp : Cp x R I J m I J nn s nc nv ce)
    (nx : ∀ (K N : Nat → Nat) (R : Nat → Nat → Nat) (I : Nat → Nat → Int32) (J : Nat → Nat → Int64) (sz nn s nc nv ce : Nat), LI x m K N R sz → Cp x R I J m I J nn s nc nv ce → XW l D X RL nm cL_law 4 6 mc ms K0 sz0 Z 924 [.ref (b + 1), .ref x, .ref m, .int (nI (6 * j))] [] K N R I J sz (4 * T) (263 * T)) :
    XW l D X RL nm cL_law 4 6 mc ms K0 sz0 Z 448 [.ref (b + 1), .ref x, .ref m, .int (nI (6 * j))] [] K N R I J sz (4 * T + 4) (263 * T + 263) := by
  refine x_room (kc' := 4 * T + 0) (ks' := 263 * T + 0) (by omega) (by omega) ?_
  refine x_aload_n dL_law_448 rfl ?_
  refine x_aload_n dL_law_449 rfl ?_
  refine x_iload_n dL_law_450 rfl ?_
  refine x_iconst (v := nI 1) dL_law_451 (by decide +kernel) ?_
  refine x_iadd dL_law_452 ?_
  refine x_sld (6 * j + 1) hX h0 dL_law_453 (nI_add _ _) (by omega) hn ?_
  refine x_aload_n dL_law_454 rfl ?_
  refine x_iload_n dL_law_455 rfl ?_
  refine x_iconst (v := nI 2) dL_law_456 (by decide +kernel) ?_
  refine x_iadd dL_law_457 ?_
  refine x_sld (6 * j + 2) hX h0 dL_law_458 (nI_add _ _) (by omega) hn ?_
  refine x_aload_n dL_law_459 rfl ?_
  refine x_iload_n dL_law_460 rfl ?_
  refine x_iconst (v := nI 3) dL_law_461 (by decide +kernel) ?_
  refine x_iadd dL_law_462 ?_
  refine x_sld (6 * j + 3) hX h0 dL_law_463 (nI_add _ _) (by omega) hn ?_
  refine law_c li (c_X2_arc l D li.2.2.1 cp.1.2.1.2.2.2.1 cp.nvle cp.hvv cp.1.2.1.1 cp.1.1.1 _ _ _) dL_law_464 lk_L_48 im_X2_arc se_X2_arc cd_X2_arc vcX2 rfl (by decide) rfl (by decide) ?_
  intro v K' N' R' I' J' K2 N2 R2 I2 J2 sz2 hz lj
  obtain ⟨rfl, rfl, rfl, rfl, rfl, rfl, rfl⟩ := hz
  have cp2 := lj.cp li cp
  refine x_aload_n dL_law_467 rfl ?_
  refine x_aload_n dL_law_468 rfl ?_
  refine x_iload_n dL_law_469 rfl ?_
  refine x_iconst (v := nI 1) dL_law_470 (by decide +kernel) ?_
  refine x_iadd dL_law_471 ?_
  refine x_sld (6 * j + 1) hX h0 dL_law_472 (nI_add _ _) (by omega) hn ?_
  refine x_aload_n dL_law_473 rfl ?_
  refine x_iload_n dL_law_474 rfl ?_
  refine x_iconst (v := nI 2) dL_law_475 (by decide +kernel) ?_
  refine x_iadd dL_law_476 ?_
  refine x_sld (6 * j + 2) hX h0 dL_law_477 (nI_add _ _) (by omega) hn ?_
  refine x_aload_n dL_law_478 rfl ?_
  refine x_iload_n dL_law_479 rfl ?_
  refine x_iconst (v := nI 3) dL_law_480 (by decide +kernel) ?_
  refine x_iadd dL_law_481 ?_
  refine x_sld (6 * j + 3) hX h0 dL_law_482 (nI_add _ _) (by omega) hn ?_
  refine law_m lj (c_X3_arc l D lj.2.2.1 cp2.1.2.2.1.2.2.1 cp.nvle cp2.1.2.2.1.1 cp.1.1.1 _ _ _) dL_law_483 lk_L_51 im_X3_arc se_X3_arc cd_X3_arc vcX3 rfl (by decide) rfl (by simp [Value.category]) ?_
  intro K3 N3 R3 I3 J3 le
  refine x_icmp_eq 924 dL_law_486 (by decide) (fun _ => ?_) (fun c => absurd (e_arc cp2 _ _ _) c)
  obtain ⟨li', cp'⟩ := law_fin lj le li.2.2.1 (cp2)
  exact nx _ _ _ _ _ _ _ _ _ _ _ li' cp'
set_option maxHeartbeats 4000000 in
theorem cs_reach (l : Launch) (D : va_G) {X : State → Prop} {nm : String} {mc ms : Nat} {K0 : Nat → Nat} {sz0 : Nat} {Z : ZT} {K N : Nat → Nat} {R : Nat → Nat → Nat} {I : Nat → Nat → Int32} {J : Nat → Nat → Int64} {sz b Ln x m T j nn s nc nv ce : Nat} {xs : Nat → Int32} (hX : ∀ s, X s → xscr b Ln xs s) (h0 : K0 (b + 1) = 0) (hn : Ln < 2147483648) (hj : 6 * j + 6 ≤ Ln) (li : LI x m K N R sz) (cp : Cp x R I J m I J nn s nc nv ce)
    (nx : ∀ (K N : Nat → Nat) (R : Nat → Nat → Nat) (I : Nat → Nat → Int32) (J : Nat → Nat → Int64) (sz nn s nc nv ce : Nat), LI x m K N R sz → Cp x R I J m I J nn s nc nv ce → XW l D X RL nm cL_law 4 6 mc ms K0 sz0 Z 924 [.ref (b + 1), .ref x, .ref m, .int (nI (6 * j))] [] K N R I J sz (4 * T) (263 * T)) :
    XW l D X RL nm cL_law 4 6 mc ms K0 sz0 Z 491 [.ref (b + 1), .ref x, .ref m, .int (nI (6 * j))] [] K N R I J sz (4 * T + 4) (263 * T + 263) := by
  refine x_room (kc' := 4 * T + 0) (ks' := 263 * T + 0) (by omega) (by omega) ?_
  refine x_aload_n dL_law_491 rfl ?_
  refine x_aload_n dL_law_492 rfl ?_
  refine x_iload_n dL_law_493 rfl ?_
  refine x_iconst (v := nI 1) dL_law_494 (by decide +kernel) ?_
  refine x_iadd dL_law_495 ?_
  refine x_sld (6 * j + 1) hX h0 dL_law_496 (nI_add _ _) (by omega) hn ?_
  refine x_aload_n dL_law_497 rfl ?_
  refine x_iload_n dL_law_498 rfl ?_
  refine x_iconst (v := nI 2) dL_law_499 (by decide +kernel) ?_
  refine x_iadd dL_law_500 ?_
  refine x_sld (6 * j + 2) hX h0 dL_law_501 (nI_add _ _) (by omega) hn ?_
  refine x_aload_n dL_law_502 rfl ?_
  refine x_iload_n dL_law_503 rfl ?_
  refine x_iconst (v := nI 3) dL_law_504 (by decide +kernel) ?_
  refine x_iadd dL_law_505 ?_
  refine x_sld (6 * j + 3) hX h0 dL_law_506 (nI_add _ _) (by omega) hn ?_
  refine law_c li (c_X2_reach l D li.2.2.1 cp.1.2.1.2.2.2.1 cp.nvle cp.hvv cp.1.2.1.1 cp.1.1.1 _ _ _) dL_law_507 lk_L_52 im_X2_reach se_X2_reach cd_X2_reach vcX2 rfl (by decide) rfl (by decide) ?_
  intro v K' N' R' I' J' K2 N2 R2 I2 J2 sz2 hz lj
  obtain ⟨rfl, rfl, rfl, rfl, rfl, rfl, rfl⟩ := hz
  have cp2 := lj.cp li cp
  refine x_aload_n dL_law_510 rfl ?_
  refine x_aload_n dL_law_511 rfl ?_
  refine x_iload_n dL_law_512 rfl ?_
  refine x_iconst (v := nI 1) dL_law_513 (by decide +kernel) ?_
  refine x_iadd dL_law_514 ?_
  refine x_sld (6 * j + 1) hX h0 dL_law_515 (nI_add _ _) (by omega) hn ?_
  refine x_aload_n dL_law_516 rfl ?_
  refine x_iload_n dL_law_517 rfl ?_
  refine x_iconst (v := nI 2) dL_law_518 (by decide +kernel) ?_
  refine x_iadd dL_law_519 ?_
  refine x_sld (6 * j + 2) hX h0 dL_law_520 (nI_add _ _) (by omega) hn ?_
  refine x_aload_n dL_law_521 rfl ?_
  refine x_iload_n dL_law_522 rfl ?_
  refine x_iconst (v := nI 3) dL_law_523 (by decide +kernel) ?_
  refine x_iadd dL_law_524 ?_
  refine x_sld (6 * j + 3) hX h0 dL_law_525 (nI_add _ _) (by omega) hn ?_
  refine law_m lj (c_X3_reach l D lj.2.2.1 cp2.1.2.2.1.2.2.1 cp.nvle cp2.1.2.2.1.1 cp.1.1.1 _ _ _) dL_law_526 lk_L_55 im_X3_reach se_X3_reach cd_X3_reach vcX3 rfl (by decide) rfl (by simp [Value.category]) ?_
  intro K3 N3 R3 I3 J3 le
  refine x_icmp_eq 924 dL_law_529 (by decide) (fun _ => ?_) (fun c => absurd (e_reach cp2 _ _ _ _) c)
  obtain ⟨li', cp'⟩ := law_fin lj le li.2.2.1 (f_reach cp2 li.2.2.1 _)
  exact nx _ _ _ _ _ _ _ _ _ _ _ li' cp'
set_option maxHeartbeats 4000000 in
theorem cs_rows (l : Launch) (D : va_G) {X : State → Prop} {nm : String} {mc ms : Nat} {K0 : Nat → Nat} {sz0 : Nat} {Z : ZT} {K N : Nat → Nat} {R : Nat → Nat → Nat} {I : Nat → Nat → Int32} {J : Nat → Nat → Int64} {sz b Ln x m T j nn s nc nv ce : Nat} {xs : Nat → Int32} (hX : ∀ s, X s → xscr b Ln xs s) (h0 : K0 (b + 1) = 0) (hn : Ln < 2147483648) (hj : 6 * j + 6 ≤ Ln) (li : LI x m K N R sz) (cp : Cp x R I J m I J nn s nc nv ce)
    (nx : ∀ (K N : Nat → Nat) (R : Nat → Nat → Nat) (I : Nat → Nat → Int32) (J : Nat → Nat → Int64) (sz nn s nc nv ce : Nat), LI x m K N R sz → Cp x R I J m I J nn s nc nv ce → XW l D X RL nm cL_law 4 6 mc ms K0 sz0 Z 924 [.ref (b + 1), .ref x, .ref m, .int (nI (6 * j))] [] K N R I J sz (4 * T) (263 * T)) :
    XW l D X RL nm cL_law 4 6 mc ms K0 sz0 Z 534 [.ref (b + 1), .ref x, .ref m, .int (nI (6 * j))] [] K N R I J sz (4 * T + 4) (263 * T + 263) := by
  refine x_room (kc' := 4 * T + 0) (ks' := 263 * T + 0) (by omega) (by omega) ?_
  refine x_aload_n dL_law_534 rfl ?_
  refine x_aload_n dL_law_535 rfl ?_
  refine x_iload_n dL_law_536 rfl ?_
  refine x_iconst (v := nI 1) dL_law_537 (by decide +kernel) ?_
  refine x_iadd dL_law_538 ?_
  refine x_sld (6 * j + 1) hX h0 dL_law_539 (nI_add _ _) (by omega) hn ?_
  refine x_aload_n dL_law_540 rfl ?_
  refine x_iload_n dL_law_541 rfl ?_
  refine x_iconst (v := nI 2) dL_law_542 (by decide +kernel) ?_
  refine x_iadd dL_law_543 ?_
  refine x_sld (6 * j + 2) hX h0 dL_law_544 (nI_add _ _) (by omega) hn ?_
  refine law_c li (c_X2_rows l D li.2.2.1 cp.1.2.1.2.2.2.1 cp.nvle cp.hvv cp.1.2.1.1 cp.1.1.1 _ _) dL_law_545 lk_L_56 im_X2_rows se_X2_rows cd_X2_rows vcX2 rfl (by decide) rfl (by decide) ?_
  intro v K' N' R' I' J' K2 N2 R2 I2 J2 sz2 hz lj
  obtain ⟨rfl, rfl, rfl, rfl, rfl, rfl, rfl⟩ := hz
  have cp2 := lj.cp li cp
  refine x_aload_n dL_law_548 rfl ?_
  refine x_aload_n dL_law_549 rfl ?_
  refine x_iload_n dL_law_550 rfl ?_
  refine x_iconst (v := nI 1) dL_law_551 (by decide +kernel) ?_
  refine x_iadd dL_law_552 ?_
  refine x_sld (6 * j + 1) hX h0 dL_law_553 (nI_add _ _) (by omega) hn ?_
  refine x_aload_n dL_law_554 rfl ?_
  refine x_iload_n dL_law_555 rfl ?_
  refine x_iconst (v := nI 2) dL_law_556 (by decide +kernel) ?_
  refine x_iadd dL_law_557 ?_
  refine x_sld (6 * j + 2) hX h0 dL_law_558 (nI_add _ _) (by omega) hn ?_
  refine law_m lj (c_X3_rows l D lj.2.2.1 cp2.1.2.2.1.2.2.1 cp.nvle cp2.1.2.2.1.1 cp.1.1.1 _ _) dL_law_559 lk_L_59 im_X3_rows se_X3_rows cd_X3_rows vcX3 rfl (by decide) rfl (by simp [Value.category]) ?_
  intro K3 N3 R3 I3 J3 le
  refine x_icmp_eq 924 dL_law_562 (by decide) (fun _ => ?_) (fun c => absurd (e_rows cp2 _ _) c)
  obtain ⟨cw', q⟩ := f_rows cp2 li.2.2.1 (xs (6 * j + 1)) (xs (6 * j + 2))
  obtain ⟨li', cp'⟩ := law_fin lj le cw' q
  exact nx _ _ _ _ _ _ _ _ _ _ _ li' cp'
set_option maxHeartbeats 4000000 in
theorem cs_row (l : Launch) (D : va_G) {X : State → Prop} {nm : String} {mc ms : Nat} {K0 : Nat → Nat} {sz0 : Nat} {Z : ZT} {K N : Nat → Nat} {R : Nat → Nat → Nat} {I : Nat → Nat → Int32} {J : Nat → Nat → Int64} {sz b Ln x m T j nn s nc nv ce : Nat} {xs : Nat → Int32} (hX : ∀ s, X s → xscr b Ln xs s) (h0 : K0 (b + 1) = 0) (hn : Ln < 2147483648) (hj : 6 * j + 6 ≤ Ln) (li : LI x m K N R sz) (cp : Cp x R I J m I J nn s nc nv ce)
    (nx : ∀ (K N : Nat → Nat) (R : Nat → Nat → Nat) (I : Nat → Nat → Int32) (J : Nat → Nat → Int64) (sz nn s nc nv ce : Nat), LI x m K N R sz → Cp x R I J m I J nn s nc nv ce → XW l D X RL nm cL_law 4 6 mc ms K0 sz0 Z 924 [.ref (b + 1), .ref x, .ref m, .int (nI (6 * j))] [] K N R I J sz (4 * T) (263 * T)) :
    XW l D X RL nm cL_law 4 6 mc ms K0 sz0 Z 567 [.ref (b + 1), .ref x, .ref m, .int (nI (6 * j))] [] K N R I J sz (4 * T + 4) (263 * T + 263) := by
  obtain ⟨LQ, q1, q2, q3, q4, q5, q6⟩ := cp.rowQ
  refine x_room (kc' := 4 * T + 0) (ks' := 263 * T + 0) (by omega) (by omega) ?_
  refine x_aload_n dL_law_567 rfl ?_
  refine x_aload_n dL_law_568 rfl ?_
  refine x_iload_n dL_law_569 rfl ?_
  refine x_iconst (v := nI 1) dL_law_570 (by decide +kernel) ?_
  refine x_iadd dL_law_571 ?_
  refine x_sld (6 * j + 1) hX h0 dL_law_572 (nI_add _ _) (by omega) hn ?_
  refine x_aload_n dL_law_573 rfl ?_
  refine x_iload_n dL_law_574 rfl ?_
  refine x_iconst (v := nI 2) dL_law_575 (by decide +kernel) ?_
  refine x_iadd dL_law_576 ?_
  refine x_sld (6 * j + 2) hX h0 dL_law_577 (nI_add _ _) (by omega) hn ?_
  refine law_c li (c_X2_row l D li.2.2.1 (by rw [q4, List.length_map]; exact q3) (F_lt q4 (fun i q e => ⟨(q5 i q e).1, (q5 i q e).2.1⟩)) _ _) dL_law_578 lk_L_60 im_X2_row se_X2_row cd_X2_row vcX2 rfl (by decide) rfl (by decide) ?_
  intro v K' N' R' I' J' K2 N2 R2 I2 J2 sz2 hz lj
  obtain ⟨rfl, rfl, rfl, rfl, rfl, rfl, rfl⟩ := hz
  have cp2 := lj.cp li cp
  have r7 := lj.2.2.2.1 7 (by omega)
  have r8 := lj.2.2.2.1 8 (by omega)
  have r9 := lj.2.2.2.1 9 (by omega)
  have r10 := lj.2.2.2.1 10 (by omega)
  have r0 := lj.2.2.2.1 0 (by omega)
  simp only [Nat.add_zero] at r0
  have q2 : I2 m 13 = nI LQ.length := by rw [r0.1]; exact q2
  refine x_aload_n dL_law_581 rfl ?_
  refine x_aload_n dL_law_582 rfl ?_
  refine x_iload_n dL_law_583 rfl ?_
  refine x_iconst (v := nI 1) dL_law_584 (by decide +kernel) ?_
  refine x_iadd dL_law_585 ?_
  refine x_sld (6 * j + 1) hX h0 dL_law_586 (nI_add _ _) (by omega) hn ?_
  refine x_aload_n dL_law_587 rfl ?_
  refine x_iload_n dL_law_588 rfl ?_
  refine x_iconst (v := nI 2) dL_law_589 (by decide +kernel) ?_
  refine x_iadd dL_law_590 ?_
  refine x_sld (6 * j + 2) hX h0 dL_law_591 (nI_add _ _) (by omega) hn ?_
  refine law_m lj (c_X3_row l D lj.2.2.1 q2 q1 _ _) dL_law_592 lk_L_63 im_X3_row se_X3_row cd_X3_row vcX3 rfl (by decide) rfl (by simp [Value.category]) ?_
  intro K3 N3 R3 I3 J3 le
  refine x_icmp_eq 924 dL_law_595 (by decide) (fun _ => ?_) (fun c => absurd (e_tell q4 (fun i q e => ⟨(q5 i q e).1, (q5 i q e).2.1, by rw [r7.1]; exact (q5 i q e).2.2.1, by rw [r8.1]; exact (q5 i q e).2.2.2⟩) _ _) c)
  obtain ⟨li', cp'⟩ := law_fin lj le li.2.2.1 (cp2)
  exact nx _ _ _ _ _ _ _ _ _ _ _ li' cp'
set_option maxHeartbeats 4000000 in
theorem cs_was (l : Launch) (D : va_G) {X : State → Prop} {nm : String} {mc ms : Nat} {K0 : Nat → Nat} {sz0 : Nat} {Z : ZT} {K N : Nat → Nat} {R : Nat → Nat → Nat} {I : Nat → Nat → Int32} {J : Nat → Nat → Int64} {sz b Ln x m T j nn s nc nv ce : Nat} {xs : Nat → Int32} (hX : ∀ s, X s → xscr b Ln xs s) (h0 : K0 (b + 1) = 0) (hn : Ln < 2147483648) (hj : 6 * j + 6 ≤ Ln) (li : LI x m K N R sz) (cp : Cp x R I J m I J nn s nc nv ce)
    (nx : ∀ (K N : Nat → Nat) (R : Nat → Nat → Nat) (I : Nat → Nat → Int32) (J : Nat → Nat → Int64) (sz nn s nc nv ce : Nat), LI x m K N R sz → Cp x R I J m I J nn s nc nv ce → XW l D X RL nm cL_law 4 6 mc ms K0 sz0 Z 924 [.ref (b + 1), .ref x, .ref m, .int (nI (6 * j))] [] K N R I J sz (4 * T) (263 * T)) :
    XW l D X RL nm cL_law 4 6 mc ms K0 sz0 Z 600 [.ref (b + 1), .ref x, .ref m, .int (nI (6 * j))] [] K N R I J sz (4 * T + 4) (263 * T + 263) := by
  obtain ⟨LQ, q1, q2, q3, q4, q5, q6⟩ := cp.rowQ
  have hw3 : R x 3 = 0 ∨ VW (R x 3) (xK m K) N R := by
    rcases cp.2.2.2.2.2.1 with z | ⟨ca, cb, ha, hb, -, z3, z4, -⟩
    · exact Or.inl z.2.1
    · right; rw [z3]; exact li.2.2.1.wv (by have := cp.nvle; omega) (cp.hvv ca ha)
  have hw4 : R x 4 = 0 ∨ VW (R x 4) (xK m K) N R := by
    rcases cp.2.2.2.2.2.1 with z | ⟨ca, cb, ha, hb, -, z3, z4, -⟩
    · exact Or.inl z.2.2.1
    · right; rw [z4]; exact li.2.2.1.wv (by have := cp.nvle; omega) (cp.hvv cb hb)
  refine x_room (kc' := 4 * T + 0) (ks' := 263 * T + 0) (by omega) (by omega) ?_
  refine x_aload_n dL_law_600 rfl ?_
  refine x_aload_n dL_law_601 rfl ?_
  refine x_iload_n dL_law_602 rfl ?_
  refine x_iconst (v := nI 1) dL_law_603 (by decide +kernel) ?_
  refine x_iadd dL_law_604 ?_
  refine x_sld (6 * j + 1) hX h0 dL_law_605 (nI_add _ _) (by omega) hn ?_
  refine x_aload_n dL_law_606 rfl ?_
  refine x_iload_n dL_law_607 rfl ?_
  refine x_iconst (v := nI 2) dL_law_608 (by decide +kernel) ?_
  refine x_iadd dL_law_609 ?_
  refine x_sld (6 * j + 2) hX h0 dL_law_610 (nI_add _ _) (by omega) hn ?_
  refine law_c li (c_X2_was l D li.2.2.1 (by rw [q4, List.length_map]; exact q3) (F_lt q4 (fun i q e => ⟨(q5 i q e).1, (q5 i q e).2.1⟩)) hw3 hw4 _ _) dL_law_611 lk_L_64 im_X2_was se_X2_was cd_X2_was vcX2 rfl (by decide) rfl (by decide) ?_
  intro v K' N' R' I' J' K2 N2 R2 I2 J2 sz2 hz lj
  obtain ⟨rfl, rfl, rfl, rfl, rfl, rfl, rfl⟩ := hz
  have cp2 := lj.cp li cp
  have r7 := lj.2.2.2.1 7 (by omega)
  have r8 := lj.2.2.2.1 8 (by omega)
  have r9 := lj.2.2.2.1 9 (by omega)
  have r10 := lj.2.2.2.1 10 (by omega)
  have r0 := lj.2.2.2.1 0 (by omega)
  simp only [Nat.add_zero] at r0
  have q2 : I2 m 13 = nI LQ.length := by rw [r0.1]; exact q2
  refine x_aload_n dL_law_614 rfl ?_
  refine x_aload_n dL_law_615 rfl ?_
  refine x_iload_n dL_law_616 rfl ?_
  refine x_iconst (v := nI 1) dL_law_617 (by decide +kernel) ?_
  refine x_iadd dL_law_618 ?_
  refine x_sld (6 * j + 1) hX h0 dL_law_619 (nI_add _ _) (by omega) hn ?_
  refine x_aload_n dL_law_620 rfl ?_
  refine x_iload_n dL_law_621 rfl ?_
  refine x_iconst (v := nI 2) dL_law_622 (by decide +kernel) ?_
  refine x_iadd dL_law_623 ?_
  refine x_sld (6 * j + 2) hX h0 dL_law_624 (nI_add _ _) (by omega) hn ?_
  refine law_m lj (c_X3_was l D lj.2.2.1 q2 q1 _ _) dL_law_625 lk_L_68 im_X3_was se_X3_was cd_X3_was vcX3 rfl (by decide) rfl (by simp [Value.category]) ?_
  intro K3 N3 R3 I3 J3 le
  refine x_lcmp dL_law_628 ?_
  refine x_if_eq 924 dL_law_629 (by decide) (fun _ => ?_) (fun c => absurd (cmp_eq.mpr (e_was q4 (fun i q e => ⟨(q5 i q e).1, (q5 i q e).2.1⟩) (fun i q e => by rw [r9.2, r10.2]; exact q6 i q e) _ _)) c)
  obtain ⟨li', cp'⟩ := law_fin lj le li.2.2.1 (cp2)
  exact nx _ _ _ _ _ _ _ _ _ _ _ li' cp'
set_option maxHeartbeats 4000000 in
theorem cs_turn (l : Launch) (D : va_G) {X : State → Prop} {nm : String} {mc ms : Nat} {K0 : Nat → Nat} {sz0 : Nat} {Z : ZT} {K N : Nat → Nat} {R : Nat → Nat → Nat} {I : Nat → Nat → Int32} {J : Nat → Nat → Int64} {sz b Ln x m T j nn s nc nv ce : Nat} {xs : Nat → Int32} (hX : ∀ s, X s → xscr b Ln xs s) (h0 : K0 (b + 1) = 0) (hn : Ln < 2147483648) (hj : 6 * j + 6 ≤ Ln) (li : LI x m K N R sz) (cp : Cp x R I J m I J nn s nc nv ce)
    (nx : ∀ (K N : Nat → Nat) (R : Nat → Nat → Nat) (I : Nat → Nat → Int32) (J : Nat → Nat → Int64) (sz nn s nc nv ce : Nat), LI x m K N R sz → Cp x R I J m I J nn s nc nv ce → XW l D X RL nm cL_law 4 6 mc ms K0 sz0 Z 924 [.ref (b + 1), .ref x, .ref m, .int (nI (6 * j))] [] K N R I J sz (4 * T) (263 * T)) :
    XW l D X RL nm cL_law 4 6 mc ms K0 sz0 Z 634 [.ref (b + 1), .ref x, .ref m, .int (nI (6 * j))] [] K N R I J sz (4 * T + 4) (263 * T + 263) := by
  rcases cp.2.2.2.2.2.1 with z | z
  · skip
    obtain ⟨h12, h3, -, h13, -, -⟩ := z
    refine x_room (kc' := 4 * T + 0) (ks' := 263 * T + 0) (by omega) (by omega) ?_
    refine x_aload_n dL_law_634 rfl ?_
    refine x_aload_n dL_law_635 rfl ?_
    refine x_iload_n dL_law_636 rfl ?_
    refine x_iconst (v := nI 1) dL_law_637 (by decide +kernel) ?_
    refine x_iadd dL_law_638 ?_
    refine x_sld (6 * j + 1) hX h0 dL_law_639 (nI_add _ _) (by omega) hn ?_
    refine law_c li (c_X2_turnN l D li.2.2.1 cp.1.2.1.2.2.2.1 cp.nvle cp.hvv h3 _) dL_law_640 lk_L_69 im_X2_turn se_X2_turn cd_X2_turn vcX2 rfl (by decide) rfl (by decide) ?_
    intro v K' N' R' I' J' K2 N2 R2 I2 J2 sz2 hz lj
    obtain ⟨rfl, rfl, rfl, rfl, rfl, rfl, rfl⟩ := hz
    have cp2 := lj.cp li cp
    obtain ⟨sm, s1, s2, s3, s4, s5⟩ := cp2.sm
    have r0 := lj.2.2.2.1 0 (by omega)
    simp only [Nat.add_zero] at r0
    have t12 : I2 m 12 = 0 := by rw [r0.1]; exact h12
    have t13 : I2 m 13 = nI 0 := by rw [r0.1]; exact h13
    have tq : (if pL R' I' x nv (xs (6 * j + 1)) then (-2 : Int32) else -1) = (if pV I2 m nv (xs (6 * j + 1)) then (if (I2 m 12 = 1 ∧ anyP (fun k => !okR J2 m (xs (6 * j + 1)).toNatClampNeg (fun _ => 0) (fun _ => 0) k) 0 = false) then chA nv else -2) else -1) := by
      rw [if_neg (show ¬ (I2 m 12 = 1 ∧ anyP (fun k => !okR J2 m (xs (6 * j + 1)).toNatClampNeg (fun _ => 0) (fun _ => 0) k) 0 = false) from fun y => absurd (t12.symm.trans y.1) (by decide))]
      by_cases g : pV I2 m nv (xs (6 * j + 1))
      · rw [if_pos ((cp2.pl _).mpr g), if_pos g]
      · rw [if_neg (fun y => g ((cp2.pl _).mp y)), if_neg g]
    refine x_aload_n dL_law_643 rfl ?_
    refine x_aload_n dL_law_644 rfl ?_
    refine x_iload_n dL_law_645 rfl ?_
    refine x_iconst (v := nI 1) dL_law_646 (by decide +kernel) ?_
    refine x_iadd dL_law_647 ?_
    refine x_sld (6 * j + 1) hX h0 dL_law_648 (nI_add _ _) (by omega) hn ?_
    refine law_m lj (c_X3_turn l D (rm := 0) (nd := fun _ => 0) (cd := fun _ => 0) lj.2.2.1 cp2.1.2.2.1.2.2.1 cp.nvle s1 s4 s2 t13 (by omega) (Or.inl t12) (fun k hk => absurd hk (by omega)) _) dL_law_649 lk_L_72 im_X3_turn se_X3_turn cd_X3_turn vcX3 rfl (by decide) rfl (by simp [Value.category]) ?_
    intro K3 N3 R3 I3 J3 le
    refine x_icmp_eq 924 dL_law_652 (by decide) (fun _ => ?_) (fun c => absurd (tq) c)
    refine (law_fin lj le li.2.2.1 (nn := nn) (s := s) (nc := nc) (nv := nv) (ce := ce) ?_).elim fun li' cp' => nx _ _ _ _ _ _ _ _ _ _ _ li' cp'
    rw [if_neg (fun y => absurd (t12.symm.trans y.2.1.1) (by decide)), if_neg (fun y => absurd (t12.symm.trans y.2.1.1) (by decide))]
    exact cp2
  · skip
    obtain ⟨ca, cb, ha, hb, h12, h3, h4, h13, -, g6, g7, -⟩ := z
    refine x_room (kc' := 4 * T + 4) (ks' := 263 * T + 263) (by omega) (by omega) ?_
    refine x_aload_n dL_law_634 rfl ?_
    refine x_aload_n dL_law_635 rfl ?_
    refine x_iload_n dL_law_636 rfl ?_
    refine x_iconst (v := nI 1) dL_law_637 (by decide +kernel) ?_
    refine x_iadd dL_law_638 ?_
    refine x_sld (6 * j + 1) hX h0 dL_law_639 (nI_add _ _) (by omega) hn ?_
    refine law_c li (c_X2_turn l D li.2.2.1 cp.1.2.1.2.2.2.1 cp.nvle cp.hvv cp.1.2.1.1 cp.1.1.1 cp.1.2.1.2.1 cp.1.1.2.1 cp.1.1.2.2.1 cp.1.2.1.2.2.1 cp.ncle cp.hkc ha hb h3 h4 _) dL_law_640 lk_L_69 im_X2_turn se_X2_turn cd_X2_turn vcX2 rfl (by decide) rfl (by decide) ?_
    intro v K' N' R' I' J' K2 N2 R2 I2 J2 sz2 hz lj
    obtain ⟨rfl, hz⟩ := hz
    have cp2 := lj.cp li cp
    obtain ⟨sm, s1, s2, s3, s4, s5⟩ := cp2.sm
    have r0 := lj.2.2.2.1 0 (by omega)
    simp only [Nat.add_zero] at r0
    have r1 := lj.2.2.2.1 1 (by omega)
    have r2 := lj.2.2.2.1 2 (by omega)
    have r7 := lj.2.2.2.1 7 (by omega)
    have r8 := lj.2.2.2.1 8 (by omega)
    have r9 := lj.2.2.2.1 9 (by omega)
    have r10 := lj.2.2.2.1 10 (by omega)
    have ri : ∀ v n c, itm J2 m v n c = itm J m v n c := fun v n c => itm_congr r1.2 r2.2
    have rr : rowL J2 m nn ca cb = rowL J m nn ca cb := rowL_congr (fun v n c _ _ _ => ri v n c) cp.1.1.1
    have t12 : I2 m 12 = 1 := by rw [r0.1]; exact h12
    have t13 : I2 m 13 = nI (rowL J2 m nn ca cb).length := by rw [r0.1, rr]; exact h13
    have t6 : ∀ (i : Nat) (q : Nat × Nat), (rowL J2 m nn ca cb)[i]? = some q → I2 (m + 7) i = nI q.1 ∧ I2 (m + 8) i = tN q.2 ∧ J2 (m + 9) i = itm J2 m ca q.1 q.2 ∧ J2 (m + 10) i = itm J2 m cb q.1 q.2 := fun i q e => by
      rw [rr] at e
      rw [r7.1, r8.1, r9.2, r10.2, ri, ri]
      exact g6 i q e
    have tnd : ∀ k, k < (rowL J2 m nn ca cb).length → I2 (m + 7) k = nI (rN (rowL J2 m nn ca cb) k) ∧ rN (rowL J2 m nn ca cb) k < 64 ∧ I2 (m + 8) k = tN (rK (rowL J2 m nn ca cb) k) ∧ rK (rowL J2 m nn ca cb) k < 66 := fun k hk => by
      obtain ⟨q, hq⟩ := L_get hk
      have e := rN_at hq
      have ql := row_lt cp.1.1.1 hq
      have hnn := cp.1.1.1
      rw [e.1, e.2]
      exact ⟨(t6 k q hq).1, by omega, (t6 k q hq).2.1, ql.2⟩
    refine x_aload_n dL_law_643 rfl ?_
    refine x_aload_n dL_law_644 rfl ?_
    refine x_iload_n dL_law_645 rfl ?_
    refine x_iconst (v := nI 1) dL_law_646 (by decide +kernel) ?_
    refine x_iadd dL_law_647 ?_
    refine x_sld (6 * j + 1) hX h0 dL_law_648 (nI_add _ _) (by omega) hn ?_
    refine law_m lj (c_X3_turn l D (rm := (rowL J2 m nn ca cb).length) (nd := rN (rowL J2 m nn ca cb)) (cd := rK (rowL J2 m nn ca cb)) lj.2.2.1 cp2.1.2.2.1.2.2.1 cp.nvle s1 s4 s2 t13 (rowL_len cp.1.1.1) (Or.inr t12) (fun k hk => tnd k hk) _) dL_law_649 lk_L_72 im_X3_turn se_X3_turn cd_X3_turn vcX3 rfl (by decide) rfl (by simp [Value.category]) ?_
    intro K3 N3 R3 I3 J3 le
    refine x_icmp_eq 924 dL_law_652 (by decide) (fun _ => ?_) (fun c => absurd (e_turn cp2 ha hb t12 t6 _) c)
    obtain ⟨cw', g0, g1, q⟩ := f_turn cp2 li.2.2.1 s5 ha hb t12 t6 g7 _ hz
    obtain ⟨li', cp'⟩ := law_fin lj le cw' q
    exact nx _ _ _ _ _ _ _ _ _ _ _ li' cp'
set_option maxHeartbeats 4000000 in
theorem cs_join (l : Launch) (D : va_G) {X : State → Prop} {nm : String} {mc ms : Nat} {K0 : Nat → Nat} {sz0 : Nat} {Z : ZT} {K N : Nat → Nat} {R : Nat → Nat → Nat} {I : Nat → Nat → Int32} {J : Nat → Nat → Int64} {sz b Ln x m T j nn s nc nv ce : Nat} {xs : Nat → Int32} (hX : ∀ s, X s → xscr b Ln xs s) (h0 : K0 (b + 1) = 0) (hn : Ln < 2147483648) (hj : 6 * j + 6 ≤ Ln) (li : LI x m K N R sz) (cp : Cp x R I J m I J nn s nc nv ce)
    (nx : ∀ (K N : Nat → Nat) (R : Nat → Nat → Nat) (I : Nat → Nat → Int32) (J : Nat → Nat → Int64) (sz nn s nc nv ce : Nat), LI x m K N R sz → Cp x R I J m I J nn s nc nv ce → XW l D X RL nm cL_law 4 6 mc ms K0 sz0 Z 924 [.ref (b + 1), .ref x, .ref m, .int (nI (6 * j))] [] K N R I J sz (4 * T) (263 * T)) :
    XW l D X RL nm cL_law 4 6 mc ms K0 sz0 Z 657 [.ref (b + 1), .ref x, .ref m, .int (nI (6 * j))] [] K N R I J sz (4 * T + 4) (263 * T + 263) := by
  refine x_room (kc' := 4 * T + 4) (ks' := 263 * T + 263) (by omega) (by omega) ?_
  refine x_aload_n dL_law_657 rfl ?_
  refine x_aload_n dL_law_658 rfl ?_
  refine x_iload_n dL_law_659 rfl ?_
  refine x_iconst (v := nI 1) dL_law_660 (by decide +kernel) ?_
  refine x_iadd dL_law_661 ?_
  refine x_sld (6 * j + 1) hX h0 dL_law_662 (nI_add _ _) (by omega) hn ?_
  refine x_aload_n dL_law_663 rfl ?_
  refine x_iload_n dL_law_664 rfl ?_
  refine x_iconst (v := nI 2) dL_law_665 (by decide +kernel) ?_
  refine x_iadd dL_law_666 ?_
  refine x_sld (6 * j + 2) hX h0 dL_law_667 (nI_add _ _) (by omega) hn ?_
  refine x_aload_n dL_law_668 rfl ?_
  refine x_iload_n dL_law_669 rfl ?_
  refine x_iconst (v := nI 3) dL_law_670 (by decide +kernel) ?_
  refine x_iadd dL_law_671 ?_
  refine x_sld (6 * j + 3) hX h0 dL_law_672 (nI_add _ _) (by omega) hn ?_
  refine law_c li (c_X2_join l D li.2.2.1 cp.1.2.1.2.2.2.1 cp.nvle cp.hvv cp.1.2.1.1 cp.1.1.1 cp.1.2.1.2.1 cp.1.1.2.1 cp.1.1.2.2.1 cp.1.2.1.2.2.1 cp.ncle cp.hkc _ _ _) dL_law_673 lk_L_73 im_X2_join se_X2_join cd_X2_join vcX2 rfl (by decide) rfl (by decide) ?_
  intro v K' N' R' I' J' K2 N2 R2 I2 J2 sz2 hz lj
  obtain ⟨rfl, hz⟩ := hz
  have cp2 := lj.cp li cp
  obtain ⟨sm, s1, s2, s3, s4, s5⟩ := cp2.sm
  refine x_aload_n dL_law_676 rfl ?_
  refine x_aload_n dL_law_677 rfl ?_
  refine x_iload_n dL_law_678 rfl ?_
  refine x_iconst (v := nI 1) dL_law_679 (by decide +kernel) ?_
  refine x_iadd dL_law_680 ?_
  refine x_sld (6 * j + 1) hX h0 dL_law_681 (nI_add _ _) (by omega) hn ?_
  refine x_aload_n dL_law_682 rfl ?_
  refine x_iload_n dL_law_683 rfl ?_
  refine x_iconst (v := nI 2) dL_law_684 (by decide +kernel) ?_
  refine x_iadd dL_law_685 ?_
  refine x_sld (6 * j + 2) hX h0 dL_law_686 (nI_add _ _) (by omega) hn ?_
  refine x_aload_n dL_law_687 rfl ?_
  refine x_iload_n dL_law_688 rfl ?_
  refine x_iconst (v := nI 3) dL_law_689 (by decide +kernel) ?_
  refine x_iadd dL_law_690 ?_
  refine x_sld (6 * j + 3) hX h0 dL_law_691 (nI_add _ _) (by omega) hn ?_
  refine law_m lj (c_X3_join l D lj.2.2.1 cp2.1.2.2.1.2.2.1 cp.nvle cp2.1.2.2.1.1 cp.1.1.1 cp2.1.2.2.1.2.1 cp.ncle s1 s2 _ _ _) dL_law_692 lk_L_76 im_X3_join se_X3_join cd_X3_join vcX3 rfl (by decide) rfl (by simp [Value.category]) ?_
  intro K3 N3 R3 I3 J3 le
  refine x_icmp_eq 924 dL_law_695 (by decide) (fun _ => ?_) (fun c => absurd (e_join cp2 _ _ _) c)
  obtain ⟨cw', g0, g1, q⟩ := f_join cp2 li.2.2.1 s5 _ _ _ rfl rfl rfl hz
  obtain ⟨li', cp'⟩ := law_fin lj le cw' q
  exact nx _ _ _ _ _ _ _ _ _ _ _ li' cp'
set_option maxHeartbeats 4000000 in
theorem cs_conflict (l : Launch) (D : va_G) {X : State → Prop} {nm : String} {mc ms : Nat} {K0 : Nat → Nat} {sz0 : Nat} {Z : ZT} {K N : Nat → Nat} {R : Nat → Nat → Nat} {I : Nat → Nat → Int32} {J : Nat → Nat → Int64} {sz b Ln x m T j nn s nc nv ce : Nat} {xs : Nat → Int32} (hX : ∀ s, X s → xscr b Ln xs s) (h0 : K0 (b + 1) = 0) (hn : Ln < 2147483648) (hj : 6 * j + 6 ≤ Ln) (li : LI x m K N R sz) (cp : Cp x R I J m I J nn s nc nv ce)
    (nx : ∀ (K N : Nat → Nat) (R : Nat → Nat → Nat) (I : Nat → Nat → Int32) (J : Nat → Nat → Int64) (sz nn s nc nv ce : Nat), LI x m K N R sz → Cp x R I J m I J nn s nc nv ce → XW l D X RL nm cL_law 4 6 mc ms K0 sz0 Z 924 [.ref (b + 1), .ref x, .ref m, .int (nI (6 * j))] [] K N R I J sz (4 * T) (263 * T)) :
    XW l D X RL nm cL_law 4 6 mc ms K0 sz0 Z 700 [.ref (b + 1), .ref x, .ref m, .int (nI (6 * j))] [] K N R I J sz (4 * T + 4) (263 * T + 263) := by
  obtain ⟨LQ, q1, q5, q4, q3, q2⟩ := cp.2.2.2.2.2.2
  refine x_room (kc' := 4 * T + 0) (ks' := 263 * T + 0) (by omega) (by omega) ?_
  refine x_aload_n dL_law_700 rfl ?_
  refine x_aload_n dL_law_701 rfl ?_
  refine x_iload_n dL_law_702 rfl ?_
  refine x_iconst (v := nI 1) dL_law_703 (by decide +kernel) ?_
  refine x_iadd dL_law_704 ?_
  refine x_sld (6 * j + 1) hX h0 dL_law_705 (nI_add _ _) (by omega) hn ?_
  refine x_aload_n dL_law_706 rfl ?_
  refine x_iload_n dL_law_707 rfl ?_
  refine x_iconst (v := nI 2) dL_law_708 (by decide +kernel) ?_
  refine x_iadd dL_law_709 ?_
  refine x_sld (6 * j + 2) hX h0 dL_law_710 (nI_add _ _) (by omega) hn ?_
  refine law_c li (c_X2_conflict l D li.2.2.1 (by rw [q4, List.length_map]; exact q3) (F_lt q4 (fun i q e => ⟨(q5 i q e).1, (q5 i q e).2.1⟩)) _ _) dL_law_711 lk_L_77 im_X2_conflict se_X2_conflict cd_X2_conflict vcX2 rfl (by decide) rfl (by decide) ?_
  intro v K' N' R' I' J' K2 N2 R2 I2 J2 sz2 hz lj
  obtain ⟨rfl, rfl, rfl, rfl, rfl, rfl, rfl⟩ := hz
  have cp2 := lj.cp li cp
  have r7 := lj.2.2.2.1 11 (by omega)
  have r8 := lj.2.2.2.1 12 (by omega)
  have r0 := lj.2.2.2.1 0 (by omega)
  simp only [Nat.add_zero] at r0
  have q2 : I2 m 18 = nI LQ.length := by rw [r0.1]; exact q2
  refine x_aload_n dL_law_714 rfl ?_
  refine x_aload_n dL_law_715 rfl ?_
  refine x_iload_n dL_law_716 rfl ?_
  refine x_iconst (v := nI 1) dL_law_717 (by decide +kernel) ?_
  refine x_iadd dL_law_718 ?_
  refine x_sld (6 * j + 1) hX h0 dL_law_719 (nI_add _ _) (by omega) hn ?_
  refine x_aload_n dL_law_720 rfl ?_
  refine x_iload_n dL_law_721 rfl ?_
  refine x_iconst (v := nI 2) dL_law_722 (by decide +kernel) ?_
  refine x_iadd dL_law_723 ?_
  refine x_sld (6 * j + 2) hX h0 dL_law_724 (nI_add _ _) (by omega) hn ?_
  refine law_m lj (c_X3_conflict l D lj.2.2.1 q2 q1 _ _) dL_law_725 lk_L_80 im_X3_conflict se_X3_conflict cd_X3_conflict vcX3 rfl (by decide) rfl (by simp [Value.category]) ?_
  intro K3 N3 R3 I3 J3 le
  refine x_icmp_eq 924 dL_law_728 (by decide) (fun _ => ?_) (fun c => absurd (e_tell q4 (fun i q e => ⟨(q5 i q e).1, (q5 i q e).2.1, by rw [r7.1]; exact (q5 i q e).2.2.1, by rw [r8.1]; exact (q5 i q e).2.2.2⟩) _ _) c)
  obtain ⟨li', cp'⟩ := law_fin lj le li.2.2.1 (cp2)
  exact nx _ _ _ _ _ _ _ _ _ _ _ li' cp'
set_option maxHeartbeats 4000000 in
theorem cs_letGo (l : Launch) (D : va_G) {X : State → Prop} {nm : String} {mc ms : Nat} {K0 : Nat → Nat} {sz0 : Nat} {Z : ZT} {K N : Nat → Nat} {R : Nat → Nat → Nat} {I : Nat → Nat → Int32} {J : Nat → Nat → Int64} {sz b Ln x m T j nn s nc nv ce : Nat} {xs : Nat → Int32} (hX : ∀ s, X s → xscr b Ln xs s) (h0 : K0 (b + 1) = 0) (hn : Ln < 2147483648) (hj : 6 * j + 6 ≤ Ln) (li : LI x m K N R sz) (cp : Cp x R I J m I J nn s nc nv ce)
    (nx : ∀ (K N : Nat → Nat) (R : Nat → Nat → Nat) (I : Nat → Nat → Int32) (J : Nat → Nat → Int64) (sz nn s nc nv ce : Nat), LI x m K N R sz → Cp x R I J m I J nn s nc nv ce → XW l D X RL nm cL_law 4 6 mc ms K0 sz0 Z 924 [.ref (b + 1), .ref x, .ref m, .int (nI (6 * j))] [] K N R I J sz (4 * T) (263 * T)) :
    XW l D X RL nm cL_law 4 6 mc ms K0 sz0 Z 733 [.ref (b + 1), .ref x, .ref m, .int (nI (6 * j))] [] K N R I J sz (4 * T + 4) (263 * T + 263) := by
  refine x_room (kc' := 4 * T + 0) (ks' := 263 * T + 0) (by omega) (by omega) ?_
  refine x_aload_n dL_law_733 rfl ?_
  refine x_aload_n dL_law_734 rfl ?_
  refine x_iload_n dL_law_735 rfl ?_
  refine x_iconst (v := nI 1) dL_law_736 (by decide +kernel) ?_
  refine x_iadd dL_law_737 ?_
  refine x_sld (6 * j + 1) hX h0 dL_law_738 (nI_add _ _) (by omega) hn ?_
  refine law_c li (c_X2_letGo l D li.2.2.1 cp.1.2.1.2.2.2.1 cp.nvle cp.hvv cp.1.2.1.2.2.1 cp.ncle _) dL_law_739 lk_L_81 im_X2_letGo se_X2_letGo cd_X2_letGo vcX2 rfl (by decide) rfl (by decide) ?_
  intro v K' N' R' I' J' K2 N2 R2 I2 J2 sz2 hz lj
  obtain ⟨rfl, rfl, rfl, rfl, rfl, rfl, rfl⟩ := hz
  have cp2 := lj.cp li cp
  refine x_aload_n dL_law_742 rfl ?_
  refine x_aload_n dL_law_743 rfl ?_
  refine x_iload_n dL_law_744 rfl ?_
  refine x_iconst (v := nI 1) dL_law_745 (by decide +kernel) ?_
  refine x_iadd dL_law_746 ?_
  refine x_sld (6 * j + 1) hX h0 dL_law_747 (nI_add _ _) (by omega) hn ?_
  refine law_m lj (c_X3_letGo l D lj.2.2.1 cp2.1.2.2.1.2.2.1 cp.nvle cp2.1.2.2.1.2.1 cp.ncle _) dL_law_748 lk_L_84 im_X3_letGo se_X3_letGo cd_X3_letGo vcX3 rfl (by decide) rfl (by simp [Value.category]) ?_
  intro K3 N3 R3 I3 J3 le
  refine x_icmp_eq 924 dL_law_751 (by decide) (fun _ => ?_) (fun c => absurd (e_letGo2 cp2 li.2.2.1 _) c)
  obtain ⟨li', cp'⟩ := law_fin lj le li.2.2.1 (f_letGo cp2 li.2.2.1 _)
  exact nx _ _ _ _ _ _ _ _ _ _ _ li' cp'
set_option maxHeartbeats 4000000 in
theorem cs_chunk (l : Launch) (D : va_G) {X : State → Prop} {nm : String} {mc ms : Nat} {K0 : Nat → Nat} {sz0 : Nat} {Z : ZT} {K N : Nat → Nat} {R : Nat → Nat → Nat} {I : Nat → Nat → Int32} {J : Nat → Nat → Int64} {sz b Ln x m T j nn s nc nv ce : Nat} {xs : Nat → Int32} (hX : ∀ s, X s → xscr b Ln xs s) (h0 : K0 (b + 1) = 0) (hn : Ln < 2147483648) (hj : 6 * j + 6 ≤ Ln) (li : LI x m K N R sz) (cp : Cp x R I J m I J nn s nc nv ce)
    (nx : ∀ (K N : Nat → Nat) (R : Nat → Nat → Nat) (I : Nat → Nat → Int32) (J : Nat → Nat → Int64) (sz nn s nc nv ce : Nat), LI x m K N R sz → Cp x R I J m I J nn s nc nv ce → XW l D X RL nm cL_law 4 6 mc ms K0 sz0 Z 924 [.ref (b + 1), .ref x, .ref m, .int (nI (6 * j))] [] K N R I J sz (4 * T) (263 * T)) :
    XW l D X RL nm cL_law 4 6 mc ms K0 sz0 Z 756 [.ref (b + 1), .ref x, .ref m, .int (nI (6 * j))] [] K N R I J sz (4 * T + 4) (263 * T + 263) := by
  refine x_room (kc' := 4 * T + 0) (ks' := 263 * T + 0) (by omega) (by omega) ?_
  refine x_aload_n dL_law_756 rfl ?_
  refine x_aload_n dL_law_757 rfl ?_
  refine x_iload_n dL_law_758 rfl ?_
  refine x_iconst (v := nI 1) dL_law_759 (by decide +kernel) ?_
  refine x_iadd dL_law_760 ?_
  refine x_sld (6 * j + 1) hX h0 dL_law_761 (nI_add _ _) (by omega) hn ?_
  refine x_aload_n dL_law_762 rfl ?_
  refine x_iload_n dL_law_763 rfl ?_
  refine x_iconst (v := nI 2) dL_law_764 (by decide +kernel) ?_
  refine x_iadd dL_law_765 ?_
  refine x_sld (6 * j + 2) hX h0 dL_law_766 (nI_add _ _) (by omega) hn ?_
  refine law_c li (c_X2_chunk l D li.2.2.1 cp.1.2.1.2.2.2.1 cp.nvle cp.hvv cp.1.2.1.2.2.1 cp.ncle _ _) dL_law_767 lk_L_85 im_X2_chunk se_X2_chunk cd_X2_chunk vcX2 rfl (by decide) rfl (by decide) ?_
  intro v K' N' R' I' J' K2 N2 R2 I2 J2 sz2 hz lj
  obtain ⟨rfl, rfl, rfl, rfl, rfl, rfl, rfl⟩ := hz
  have cp2 := lj.cp li cp
  refine x_aload_n dL_law_770 rfl ?_
  refine x_aload_n dL_law_771 rfl ?_
  refine x_iload_n dL_law_772 rfl ?_
  refine x_iconst (v := nI 1) dL_law_773 (by decide +kernel) ?_
  refine x_iadd dL_law_774 ?_
  refine x_sld (6 * j + 1) hX h0 dL_law_775 (nI_add _ _) (by omega) hn ?_
  refine x_aload_n dL_law_776 rfl ?_
  refine x_iload_n dL_law_777 rfl ?_
  refine x_iconst (v := nI 2) dL_law_778 (by decide +kernel) ?_
  refine x_iadd dL_law_779 ?_
  refine x_sld (6 * j + 2) hX h0 dL_law_780 (nI_add _ _) (by omega) hn ?_
  refine law_m lj (c_X3_chunk l D lj.2.2.1 cp2.1.2.2.1.2.2.1 cp.nvle cp2.1.2.2.1.2.1 cp.ncle _ _) dL_law_781 lk_L_88 im_X3_chunk se_X3_chunk cd_X3_chunk vcX3 rfl (by decide) rfl (by simp [Value.category]) ?_
  intro K3 N3 R3 I3 J3 le
  refine x_icmp_eq 924 dL_law_784 (by decide) (fun _ => ?_) (fun c => absurd (e_chunk cp2 _ _) c)
  obtain ⟨li', cp'⟩ := law_fin lj le li.2.2.1 (cp2)
  exact nx _ _ _ _ _ _ _ _ _ _ _ li' cp'
set_option maxHeartbeats 4000000 in
theorem cs_shared (l : Launch) (D : va_G) {X : State → Prop} {nm : String} {mc ms : Nat} {K0 : Nat → Nat} {sz0 : Nat} {Z : ZT} {K N : Nat → Nat} {R : Nat → Nat → Nat} {I : Nat → Nat → Int32} {J : Nat → Nat → Int64} {sz b Ln x m T j nn s nc nv ce : Nat} {xs : Nat → Int32} (hX : ∀ s, X s → xscr b Ln xs s) (h0 : K0 (b + 1) = 0) (hn : Ln < 2147483648) (hj : 6 * j + 6 ≤ Ln) (li : LI x m K N R sz) (cp : Cp x R I J m I J nn s nc nv ce)
    (nx : ∀ (K N : Nat → Nat) (R : Nat → Nat → Nat) (I : Nat → Nat → Int32) (J : Nat → Nat → Int64) (sz nn s nc nv ce : Nat), LI x m K N R sz → Cp x R I J m I J nn s nc nv ce → XW l D X RL nm cL_law 4 6 mc ms K0 sz0 Z 924 [.ref (b + 1), .ref x, .ref m, .int (nI (6 * j))] [] K N R I J sz (4 * T) (263 * T)) :
    XW l D X RL nm cL_law 4 6 mc ms K0 sz0 Z 789 [.ref (b + 1), .ref x, .ref m, .int (nI (6 * j))] [] K N R I J sz (4 * T + 4) (263 * T + 263) := by
  refine x_room (kc' := 4 * T + 0) (ks' := 263 * T + 0) (by omega) (by omega) ?_
  refine x_aload_n dL_law_789 rfl ?_
  refine x_aload_n dL_law_790 rfl ?_
  refine x_iload_n dL_law_791 rfl ?_
  refine x_iconst (v := nI 1) dL_law_792 (by decide +kernel) ?_
  refine x_iadd dL_law_793 ?_
  refine x_sld (6 * j + 1) hX h0 dL_law_794 (nI_add _ _) (by omega) hn ?_
  refine x_aload_n dL_law_795 rfl ?_
  refine x_iload_n dL_law_796 rfl ?_
  refine x_iconst (v := nI 2) dL_law_797 (by decide +kernel) ?_
  refine x_iadd dL_law_798 ?_
  refine x_sld (6 * j + 2) hX h0 dL_law_799 (nI_add _ _) (by omega) hn ?_
  refine law_c li (c_X2_shared l D li.2.2.1 cp.1.2.1.2.2.2.1 cp.nvle cp.hvv cp.1.2.1.2.2.1 cp.ncle _ _) dL_law_800 lk_L_89 im_X2_shared se_X2_shared cd_X2_shared vcX2 rfl (by decide) rfl (by decide) ?_
  intro v K' N' R' I' J' K2 N2 R2 I2 J2 sz2 hz lj
  obtain ⟨rfl, rfl, rfl, rfl, rfl, rfl, rfl⟩ := hz
  have cp2 := lj.cp li cp
  refine x_aload_n dL_law_803 rfl ?_
  refine x_aload_n dL_law_804 rfl ?_
  refine x_iload_n dL_law_805 rfl ?_
  refine x_iconst (v := nI 1) dL_law_806 (by decide +kernel) ?_
  refine x_iadd dL_law_807 ?_
  refine x_sld (6 * j + 1) hX h0 dL_law_808 (nI_add _ _) (by omega) hn ?_
  refine x_aload_n dL_law_809 rfl ?_
  refine x_iload_n dL_law_810 rfl ?_
  refine x_iconst (v := nI 2) dL_law_811 (by decide +kernel) ?_
  refine x_iadd dL_law_812 ?_
  refine x_sld (6 * j + 2) hX h0 dL_law_813 (nI_add _ _) (by omega) hn ?_
  refine law_m lj (c_X3_shared l D lj.2.2.1 cp2.1.2.2.1.2.2.1 cp.nvle cp2.1.2.2.1.2.1 cp.ncle _ _) dL_law_814 lk_L_92 im_X3_shared se_X3_shared cd_X3_shared vcX3 rfl (by decide) rfl (by simp [Value.category]) ?_
  intro K3 N3 R3 I3 J3 le
  refine x_icmp_eq 924 dL_law_817 (by decide) (fun _ => ?_) (fun c => absurd (e_shared cp2 _ _) c)
  obtain ⟨li', cp'⟩ := law_fin lj le li.2.2.1 (cp2)
  exact nx _ _ _ _ _ _ _ _ _ _ _ li' cp'
set_option maxHeartbeats 4000000 in
theorem cs_parent (l : Launch) (D : va_G) {X : State → Prop} {nm : String} {mc ms : Nat} {K0 : Nat → Nat} {sz0 : Nat} {Z : ZT} {K N : Nat → Nat} {R : Nat → Nat → Nat} {I : Nat → Nat → Int32} {J : Nat → Nat → Int64} {sz b Ln x m T j nn s nc nv ce : Nat} {xs : Nat → Int32} (hX : ∀ s, X s → xscr b Ln xs s) (h0 : K0 (b + 1) = 0) (hn : Ln < 2147483648) (hj : 6 * j + 6 ≤ Ln) (li : LI x m K N R sz) (cp : Cp x R I J m I J nn s nc nv ce)
    (nx : ∀ (K N : Nat → Nat) (R : Nat → Nat → Nat) (I : Nat → Nat → Int32) (J : Nat → Nat → Int64) (sz nn s nc nv ce : Nat), LI x m K N R sz → Cp x R I J m I J nn s nc nv ce → XW l D X RL nm cL_law 4 6 mc ms K0 sz0 Z 924 [.ref (b + 1), .ref x, .ref m, .int (nI (6 * j))] [] K N R I J sz (4 * T) (263 * T)) :
    XW l D X RL nm cL_law 4 6 mc ms K0 sz0 Z 822 [.ref (b + 1), .ref x, .ref m, .int (nI (6 * j))] [] K N R I J sz (4 * T + 4) (263 * T + 263) := by
  refine x_room (kc' := 4 * T + 0) (ks' := 263 * T + 0) (by omega) (by omega) ?_
  refine x_aload_n dL_law_822 rfl ?_
  refine x_aload_n dL_law_823 rfl ?_
  refine x_iload_n dL_law_824 rfl ?_
  refine x_iconst (v := nI 1) dL_law_825 (by decide +kernel) ?_
  refine x_iadd dL_law_826 ?_
  refine x_sld (6 * j + 1) hX h0 dL_law_827 (nI_add _ _) (by omega) hn ?_
  refine law_c li (c_X2_parent l D li.2.2.1 cp.1.2.1.2.2.2.1 cp.nvle cp.hvv _) dL_law_828 lk_L_93 im_X2_parent se_X2_parent cd_X2_parent vcX2 rfl (by decide) rfl (by decide) ?_
  intro v K' N' R' I' J' K2 N2 R2 I2 J2 sz2 hz lj
  obtain ⟨rfl, rfl, rfl, rfl, rfl, rfl, rfl⟩ := hz
  have cp2 := lj.cp li cp
  refine x_aload_n dL_law_831 rfl ?_
  refine x_aload_n dL_law_832 rfl ?_
  refine x_iload_n dL_law_833 rfl ?_
  refine x_iconst (v := nI 1) dL_law_834 (by decide +kernel) ?_
  refine x_iadd dL_law_835 ?_
  refine x_sld (6 * j + 1) hX h0 dL_law_836 (nI_add _ _) (by omega) hn ?_
  refine law_m lj (c_X3_parent l D lj.2.2.1 cp2.1.2.2.1.2.2.1 cp.nvle _) dL_law_837 lk_L_96 im_X3_parent se_X3_parent cd_X3_parent vcX3 rfl (by decide) rfl (by simp [Value.category]) ?_
  intro K3 N3 R3 I3 J3 le
  refine x_icmp_eq 924 dL_law_840 (by decide) (fun _ => ?_) (fun c => absurd (e_parent cp2 _) c)
  obtain ⟨li', cp'⟩ := law_fin lj le li.2.2.1 (cp2)
  exact nx _ _ _ _ _ _ _ _ _ _ _ li' cp'
set_option maxHeartbeats 4000000 in
theorem cs_ancestor (l : Launch) (D : va_G) {X : State → Prop} {nm : String} {mc ms : Nat} {K0 : Nat → Nat} {sz0 : Nat} {Z : ZT} {K N : Nat → Nat} {R : Nat → Nat → Nat} {I : Nat → Nat → Int32} {J : Nat → Nat → Int64} {sz b Ln x m T j nn s nc nv ce : Nat} {xs : Nat → Int32} (hX : ∀ s, X s → xscr b Ln xs s) (h0 : K0 (b + 1) = 0) (hn : Ln < 2147483648) (hj : 6 * j + 6 ≤ Ln) (li : LI x m K N R sz) (cp : Cp x R I J m I J nn s nc nv ce)
    (nx : ∀ (K N : Nat → Nat) (R : Nat → Nat → Nat) (I : Nat → Nat → Int32) (J : Nat → Nat → Int64) (sz nn s nc nv ce : Nat), LI x m K N R sz → Cp x R I J m I J nn s nc nv ce → XW l D X RL nm cL_law 4 6 mc ms K0 sz0 Z 924 [.ref (b + 1), .ref x, .ref m, .int (nI (6 * j))] [] K N R I J sz (4 * T) (263 * T)) :
    XW l D X RL nm cL_law 4 6 mc ms K0 sz0 Z 845 [.ref (b + 1), .ref x, .ref m, .int (nI (6 * j))] [] K N R I J sz (4 * T + 4) (263 * T + 263) := by
  refine x_room (kc' := 4 * T + 0) (ks' := 263 * T + 0) (by omega) (by omega) ?_
  refine x_aload_n dL_law_845 rfl ?_
  refine x_aload_n dL_law_846 rfl ?_
  refine x_iload_n dL_law_847 rfl ?_
  refine x_iconst (v := nI 1) dL_law_848 (by decide +kernel) ?_
  refine x_iadd dL_law_849 ?_
  refine x_sld (6 * j + 1) hX h0 dL_law_850 (nI_add _ _) (by omega) hn ?_
  refine x_aload_n dL_law_851 rfl ?_
  refine x_iload_n dL_law_852 rfl ?_
  refine x_iconst (v := nI 2) dL_law_853 (by decide +kernel) ?_
  refine x_iadd dL_law_854 ?_
  refine x_sld (6 * j + 2) hX h0 dL_law_855 (nI_add _ _) (by omega) hn ?_
  refine law_c li (c_X2_ancestor l D li.2.2.1 cp.1.2.1.2.2.2.1 cp.nvle cp.hvv cp.ckpar _ _) dL_law_856 lk_L_97 im_X2_ancestor se_X2_ancestor cd_X2_ancestor vcX2 rfl (by decide) rfl (by decide) ?_
  intro v K' N' R' I' J' K2 N2 R2 I2 J2 sz2 hz lj
  obtain ⟨rfl, rfl, rfl, rfl, rfl, rfl, rfl⟩ := hz
  have cp2 := lj.cp li cp
  refine x_aload_n dL_law_859 rfl ?_
  refine x_aload_n dL_law_860 rfl ?_
  refine x_iload_n dL_law_861 rfl ?_
  refine x_iconst (v := nI 1) dL_law_862 (by decide +kernel) ?_
  refine x_iadd dL_law_863 ?_
  refine x_sld (6 * j + 1) hX h0 dL_law_864 (nI_add _ _) (by omega) hn ?_
  refine x_aload_n dL_law_865 rfl ?_
  refine x_iload_n dL_law_866 rfl ?_
  refine x_iconst (v := nI 2) dL_law_867 (by decide +kernel) ?_
  refine x_iadd dL_law_868 ?_
  refine x_sld (6 * j + 2) hX h0 dL_law_869 (nI_add _ _) (by omega) hn ?_
  refine law_m lj (c_X3_ancestor l D lj.2.2.1 cp2.1.2.2.1.2.2.1 cp.nvle cp2.mkpar _ _) dL_law_870 lk_L_100 im_X3_ancestor se_X3_ancestor cd_X3_ancestor vcX3 rfl (by decide) rfl (by simp [Value.category]) ?_
  intro K3 N3 R3 I3 J3 le
  refine x_icmp_eq 924 dL_law_873 (by decide) (fun _ => ?_) (fun c => absurd (e_ancestor cp2 _ _) c)
  obtain ⟨li', cp'⟩ := law_fin lj le li.2.2.1 (cp2)
  exact nx _ _ _ _ _ _ _ _ _ _ _ li' cp'
set_option maxHeartbeats 4000000 in
theorem cs_time (l : Launch) (D : va_G) {X : State → Prop} {nm : String} {mc ms : Nat} {K0 : Nat → Nat} {sz0 : Nat} {Z : ZT} {K N : Nat → Nat} {R : Nat → Nat → Nat} {I : Nat → Nat → Int32} {J : Nat → Nat → Int64} {sz b Ln x m T j nn s nc nv ce : Nat} {xs : Nat → Int32} (hX : ∀ s, X s → xscr b Ln xs s) (h0 : K0 (b + 1) = 0) (hn : Ln < 2147483648) (hj : 6 * j + 6 ≤ Ln) (li : LI x m K N R sz) (cp : Cp x R I J m I J nn s nc nv ce)
    (nx : ∀ (K N : Nat → Nat) (R : Nat → Nat → Nat) (I : Nat → Nat → Int32) (J : Nat → Nat → Int64) (sz nn s nc nv ce : Nat), LI x m K N R sz → Cp x R I J m I J nn s nc nv ce → XW l D X RL nm cL_law 4 6 mc ms K0 sz0 Z 924 [.ref (b + 1), .ref x, .ref m, .int (nI (6 * j))] [] K N R I J sz (4 * T) (263 * T)) :
    XW l D X RL nm cL_law 4 6 mc ms K0 sz0 Z 878 [.ref (b + 1), .ref x, .ref m, .int (nI (6 * j))] [] K N R I J sz (4 * T + 4) (263 * T + 263) := by
  refine x_room (kc' := 4 * T + 0) (ks' := 263 * T + 0) (by omega) (by omega) ?_
  refine x_aload_n dL_law_878 rfl ?_
  refine x_aload_n dL_law_879 rfl ?_
  refine x_iload_n dL_law_880 rfl ?_
  refine x_iconst (v := nI 1) dL_law_881 (by decide +kernel) ?_
  refine x_iadd dL_law_882 ?_
  refine x_sld (6 * j + 1) hX h0 dL_law_883 (nI_add _ _) (by omega) hn ?_
  refine law_c li (c_X2_time l D li.2.2.1 cp.1.2.1.2.2.2.1 cp.nvle cp.hvv _) dL_law_884 lk_L_101 im_X2_time se_X2_time cd_X2_time vcX2 rfl (by decide) rfl (by decide) ?_
  intro v K' N' R' I' J' K2 N2 R2 I2 J2 sz2 hz lj
  obtain ⟨rfl, rfl, rfl, rfl, rfl, rfl, rfl⟩ := hz
  have cp2 := lj.cp li cp
  refine x_aload_n dL_law_887 rfl ?_
  refine x_aload_n dL_law_888 rfl ?_
  refine x_iload_n dL_law_889 rfl ?_
  refine x_iconst (v := nI 1) dL_law_890 (by decide +kernel) ?_
  refine x_iadd dL_law_891 ?_
  refine x_sld (6 * j + 1) hX h0 dL_law_892 (nI_add _ _) (by omega) hn ?_
  refine law_m lj (c_X3_time l D lj.2.2.1 cp2.1.2.2.1.2.2.1 cp.nvle _) dL_law_893 lk_L_104 im_X3_time se_X3_time cd_X3_time vcX3 rfl (by decide) rfl (by simp [Value.category]) ?_
  intro K3 N3 R3 I3 J3 le
  refine x_icmp_eq 924 dL_law_896 (by decide) (fun _ => ?_) (fun c => absurd (e_time cp2 _) c)
  obtain ⟨li', cp'⟩ := law_fin lj le li.2.2.1 (cp2)
  exact nx _ _ _ _ _ _ _ _ _ _ _ li' cp'
set_option maxHeartbeats 4000000 in
theorem cs_count (l : Launch) (D : va_G) {X : State → Prop} {nm : String} {mc ms : Nat} {K0 : Nat → Nat} {sz0 : Nat} {Z : ZT} {K N : Nat → Nat} {R : Nat → Nat → Nat} {I : Nat → Nat → Int32} {J : Nat → Nat → Int64} {sz b Ln x m T j nn s nc nv ce : Nat} {xs : Nat → Int32} (hX : ∀ s, X s → xscr b Ln xs s) (h0 : K0 (b + 1) = 0) (hn : Ln < 2147483648) (hj : 6 * j + 6 ≤ Ln) (li : LI x m K N R sz) (cp : Cp x R I J m I J nn s nc nv ce)
    (nx : ∀ (K N : Nat → Nat) (R : Nat → Nat → Nat) (I : Nat → Nat → Int32) (J : Nat → Nat → Int64) (sz nn s nc nv ce : Nat), LI x m K N R sz → Cp x R I J m I J nn s nc nv ce → XW l D X RL nm cL_law 4 6 mc ms K0 sz0 Z 924 [.ref (b + 1), .ref x, .ref m, .int (nI (6 * j))] [] K N R I J sz (4 * T) (263 * T)) :
    XW l D X RL nm cL_law 4 6 mc ms K0 sz0 Z 901 [.ref (b + 1), .ref x, .ref m, .int (nI (6 * j))] [] K N R I J sz (4 * T + 4) (263 * T + 263) := by
  refine x_room (kc' := 4 * T + 0) (ks' := 263 * T + 0) (by omega) (by omega) ?_
  refine x_aload_n dL_law_901 rfl ?_
  refine x_aload_n dL_law_902 rfl ?_
  refine x_iload_n dL_law_903 rfl ?_
  refine x_iconst (v := nI 1) dL_law_904 (by decide +kernel) ?_
  refine x_iadd dL_law_905 ?_
  refine x_sld (6 * j + 1) hX h0 dL_law_906 (nI_add _ _) (by omega) hn ?_
  refine law_c li (c_X2_count l D li.2.2.1 _) dL_law_907 lk_L_105 im_X2_count se_X2_count cd_X2_count vcX2 rfl (by decide) rfl (by decide) ?_
  intro v K' N' R' I' J' K2 N2 R2 I2 J2 sz2 hz lj
  obtain ⟨rfl, rfl, rfl, rfl, rfl, rfl, rfl⟩ := hz
  have cp2 := lj.cp li cp
  refine x_aload_n dL_law_910 rfl ?_
  refine x_aload_n dL_law_911 rfl ?_
  refine x_iload_n dL_law_912 rfl ?_
  refine x_iconst (v := nI 1) dL_law_913 (by decide +kernel) ?_
  refine x_iadd dL_law_914 ?_
  refine x_sld (6 * j + 1) hX h0 dL_law_915 (nI_add _ _) (by omega) hn ?_
  refine law_m lj (c_X3_count l D lj.2.2.1 cp2.1.2.2.1.2.2.1 cp.nvle cp2.1.2.2.1.2.1 cp.ncle _) dL_law_916 lk_L_108 im_X3_count se_X3_count cd_X3_count vcX3 rfl (by decide) rfl (by simp [Value.category]) ?_
  intro K3 N3 R3 I3 J3 le
  refine x_icmp_eq 924 dL_law_919 (by decide) (fun _ => ?_) (fun c => absurd (e_count cp2 _) c)
  obtain ⟨li', cp'⟩ := law_fin lj le li.2.2.1 (cp2)
  exact nx _ _ _ _ _ _ _ _ _ _ _ li' cp'
