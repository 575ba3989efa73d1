def j_L_law_1189 (kx : Int32 → Me → Option (Int32 × Me)) (kb : Int32 × Me → Option (Int32 × Me)) (L : Nat) (xs : Nat → Int32) (a1 : Nat) (a2 : Nat) (x3 : Int32) (M : Me) : Option (Int32 × Me) := bndV (x3 + (6 : Int32)) (fun v16 => kb (v16, M))
set_option maxHeartbeats 4000000 in
set_option maxRecDepth 100000 in
theorem b_L_law_1189 {p : Program} {l : Launch} {e : Env} {s : State} {m : MethodId} {below : List Frame} {meth : Method} {c : Code} {D : va_G} {T : Nat → ClassId} {b bs cells slots : Nat} (hC : CX p s m #[Value.ref bs] meth c cL_law 4 RL ret D T) (L : Nat) (xs : Nat → Int32) (a1 : Nat) (a2 : Nat) (x3 : Int32) (hX : LX s b bs L xs) (hcs : cells ≤ room_1.cells ∧ slots ≤ room_1.slots) (h1 : kd a1 = 4) (h2 : kd a2 = 5) (kx : Int32 → Me → Option (Int32 × Me)) (hkx : ∀ (x3 : Int32) (M : Me), GQ p l e room_1 s m #[Value.ref bs] below meth c D T b 4 cells slots (lwq below bs s) 1195 [] [] M (kx x3 M)) (kb : Int32 × Me → Option (Int32 × Me)) (hkb : ∀ z : Int32 × Me, GQ p l e room_1 s m #[Value.ref bs] below meth c D T b 4 cells slots (lwq below bs s) 18 [(0, .ref bs), (1, .ref (b + a1)), (2, .ref (b + a2)), (3, .int z.1)] [] z.2 (kb z)) (M : Me) : GQ p l e room_1 s m #[Value.ref bs] below meth c D T b 4 cells slots (lwq below bs s) 1189 [(0, .ref bs), (1, .ref (b + a1)), (2, .ref (b + a2)), (3, .int x3)] [] M (j_L_law_1189 kx kb L xs a1 a2 x3 M) := by
  unfold j_L_law_1189
  refine q_iincB hC (6 : Int32) (by decide) (fun v16 => [(3, .int v16), (0, .ref bs), (1, .ref (b + a1)), (2, .ref (b + a2))]) 3 rfl (by decide) (fun _ => rfl) dL_law_1189 (fun v16 => ?_)
  refine q_goto hC (tgt := 18) (by decide) dL_law_1192 ?_
  exact GQ.sub [1, 2, 3, 0] rfl (hkb (v16, M))
def j_L_law_156 (kx : Int32 → Me → Option (Int32 × Me)) (kb : Int32 × Me → Option (Int32 × Me)) (L : Nat) (xs : Nat → Int32) (a1 : Nat) (a2 : Nat) (x3 : Int32) (M : Me) : Option (Int32 × Me) := chk (x3 + (1 : Int32)) L (chk (x3 + (2 : Int32)) L (chk (x3 + (3 : Int32)) L (chk (x3 + (4 : Int32)) L (chk (x3 + (5 : Int32)) L (cal (f_X4_entry M a1 (xs (x3 + (1 : Int32)).toNatClampNeg) (xs (x3 + (2 : Int32)).toNatClampNeg) ((lShl (((xs (x3 + (3 : Int32)).toNatClampNeg)).toInt64) (32 : Int32)) ||| (((xs (x3 + (4 : Int32)).toNatClampNeg)).toInt64 &&& (4294967295 : Int64))) (xs (x3 + (5 : Int32)).toNatClampNeg)) (fun r7 M8 => chk (x3 + (1 : Int32)) L (chk (x3 + (2 : Int32)) L (chk (x3 + (3 : Int32)) L (chk (x3 + (4 : Int32)) L (chk (x3 + (5 : Int32)) L (cal (f_X5_entry M8 a2 (xs (x3 + (1 : Int32)).toNatClampNeg) (xs (x3 + (2 : Int32)).toNatClampNeg) ((lShl (((xs (x3 + (3 : Int32)).toNatClampNeg)).toInt64) (32 : Int32)) ||| (((xs (x3 + (4 : Int32)).toNatClampNeg)).toInt64 &&& (4294967295 : Int64))) (xs (x3 + (5 : Int32)).toNatClampNeg)) (fun r14 M15 => if r7 = r14 then j_L_law_1189 kx kb L xs a1 a2 x3 M15 else chZ (0 : Int32) (some ((0 : Int32), M15))))))))))))))
set_option maxHeartbeats 4000000 in
set_option maxRecDepth 100000 in
theorem b_L_law_156 {p : Program} {l : Launch} {e : Env} {s : State} {m : MethodId} {below : List Frame} {meth : Method} {c : Code} {D : va_G} {T : Nat → ClassId} {b bs cells slots : Nat} (hC : CX p s m #[Value.ref bs] meth c cL_law 4 RL ret D T) (L : Nat) (xs : Nat → Int32) (a1 : Nat) (a2 : Nat) (x3 : Int32) (hX : LX s b bs L xs) (hcs : cells ≤ room_1.cells ∧ slots ≤ room_1.slots) (h1 : kd a1 = 4) (h2 : kd a2 = 5) (kx : Int32 → Me → Option (Int32 × Me)) (hkx : ∀ (x3 : Int32) (M : Me), GQ p l e room_1 s m #[Value.ref bs] below meth c D T b 4 cells slots (lwq below bs s) 1195 [] [] M (kx x3 M)) (kb : Int32 × Me → Option (Int32 × Me)) (hkb : ∀ z : Int32 × Me, GQ p l e room_1 s m #[Value.ref bs] below meth c D T b 4 cells slots (lwq below bs s) 18 [(0, .ref bs), (1, .ref (b + a1)), (2, .ref (b + a2)), (3, .int z.1)] [] z.2 (kb z)) (M : Me) : GQ p l e room_1 s m #[Value.ref bs] below meth c D T b 4 cells slots (lwq below bs s) 156 [(0, .ref bs), (1, .ref (b + a1)), (2, .ref (b + a2)), (3, .int x3)] [] M (j_L_law_156 kx kb L xs a1 a2 x3 M) := by
  unfold j_L_law_156
  refine q_aload_n hC 1 rfl dL_law_156 ?_
  refine q_aload_n hC 0 rfl dL_law_157 ?_
  refine q_iload_n hC 3 rfl dL_law_158 ?_
  refine q_iconst hC (1 : Int32) (by decide) dL_law_159 ?_
  refine q_iadd hC dL_law_160 ?_
  refine q_sld hC hX dL_law_161 (fun g2 => ?_)
  refine q_aload_n hC 0 rfl dL_law_162 ?_
  refine q_iload_n hC 3 rfl dL_law_163 ?_
  refine q_iconst hC (2 : Int32) (by decide) dL_law_164 ?_
  refine q_iadd hC dL_law_165 ?_
  refine q_sld hC hX dL_law_166 (fun g3 => ?_)
  refine q_aload_n hC 0 rfl dL_law_167 ?_
  refine q_iload_n hC 3 rfl dL_law_168 ?_
  refine q_iconst hC (3 : Int32) (by decide) dL_law_169 ?_
  refine q_iadd hC dL_law_170 ?_
  refine q_sld hC hX dL_law_171 (fun g4 => ?_)
  refine q_i2l hC dL_law_172 ?_
  refine q_bipush hC (32 : Int32) (by decide) dL_law_173 ?_
  refine q_lshl hC dL_law_175 ?_
  refine q_aload_n hC 0 rfl dL_law_176 ?_
  refine q_iload_n hC 3 rfl dL_law_177 ?_
  refine q_iconst hC (4 : Int32) (by decide) dL_law_178 ?_
  refine q_iadd hC dL_law_179 ?_
  refine q_sld hC hX dL_law_180 (fun g5 => ?_)
  refine q_i2l hC dL_law_181 ?_
  refine q_ldc2 hC (4294967295 : Int64) kc_L_13 dL_law_182 ?_
  refine q_land hC dL_law_185 ?_
  refine q_lor hC dL_law_186 ?_
  refine q_aload_n hC 0 rfl dL_law_187 ?_
  refine q_iload_n hC 3 rfl dL_law_188 ?_
  refine q_iconst hC (5 : Int32) (by decide) dL_law_189 ?_
  refine q_iadd hC dL_law_190 ?_
  refine q_sld hC hX dL_law_191 (fun g6 => ?_)
  refine q_callVi (As := [.int (xs (x3 + (1 : Int32)).toNatClampNeg), .int (xs (x3 + (2 : Int32)).toNatClampNeg), .long ((lShl (((xs (x3 + (3 : Int32)).toNatClampNeg)).toInt64) (32 : Int32)) ||| (((xs (x3 + (4 : Int32)).toNatClampNeg)).toInt64 &&& (4294967295 : Int64))), .int (xs (x3 + (5 : Int32)).toNatClampNeg)]) (rest := []) h1 rfl (by decide) hC (c_X4_entry l M a1 (xs (x3 + (1 : Int32)).toNatClampNeg) (xs (x3 + (2 : Int32)).toNatClampNeg) ((lShl (((xs (x3 + (3 : Int32)).toNatClampNeg)).toInt64) (32 : Int32)) ||| (((xs (x3 + (4 : Int32)).toNatClampNeg)).toInt64 &&& (4294967295 : Int64))) (xs (x3 + (5 : Int32)).toNatClampNeg) h1) (hcs := hcs) my_X4_entry ml_L_15 rfl rfl rfl (Nat.le_of_ble_eq_true rfl) ⟨by decide, by decide⟩ dL_law_192 (fun r7 M8 => ?_)
  refine q_aload_n hC 2 rfl dL_law_195 ?_
  refine q_aload_n hC 0 rfl dL_law_196 ?_
  refine q_iload_n hC 3 rfl dL_law_197 ?_
  refine q_iconst hC (1 : Int32) (by decide) dL_law_198 ?_
  refine q_iadd hC dL_law_199 ?_
  refine q_sld hC hX dL_law_200 (fun g9 => ?_)
  refine q_aload_n hC 0 rfl dL_law_201 ?_
  refine q_iload_n hC 3 rfl dL_law_202 ?_
  refine q_iconst hC (2 : Int32) (by decide) dL_law_203 ?_
  refine q_iadd hC dL_law_204 ?_
  refine q_sld hC hX dL_law_205 (fun g10 => ?_)
  refine q_aload_n hC 0 rfl dL_law_206 ?_
  refine q_iload_n hC 3 rfl dL_law_207 ?_
  refine q_iconst hC (3 : Int32) (by decide) dL_law_208 ?_
  refine q_iadd hC dL_law_209 ?_
  refine q_sld hC hX dL_law_210 (fun g11 => ?_)
  refine q_i2l hC dL_law_211 ?_
  refine q_bipush hC (32 : Int32) (by decide) dL_law_212 ?_
  refine q_lshl hC dL_law_214 ?_
  refine q_aload_n hC 0 rfl dL_law_215 ?_
  refine q_iload_n hC 3 rfl dL_law_216 ?_
  refine q_iconst hC (4 : Int32) (by decide) dL_law_217 ?_
  refine q_iadd hC dL_law_218 ?_
  refine q_sld hC hX dL_law_219 (fun g12 => ?_)
  refine q_i2l hC dL_law_220 ?_
  refine q_ldc2 hC (4294967295 : Int64) kc_L_13 dL_law_221 ?_
  refine q_land hC dL_law_224 ?_
  refine q_lor hC dL_law_225 ?_
  refine q_aload_n hC 0 rfl dL_law_226 ?_
  refine q_iload_n hC 3 rfl dL_law_227 ?_
  refine q_iconst hC (5 : Int32) (by decide) dL_law_228 ?_
  refine q_iadd hC dL_law_229 ?_
  refine q_sld hC hX dL_law_230 (fun g13 => ?_)
  refine q_callVi (As := [.int (xs (x3 + (1 : Int32)).toNatClampNeg), .int (xs (x3 + (2 : Int32)).toNatClampNeg), .long ((lShl (((xs (x3 + (3 : Int32)).toNatClampNeg)).toInt64) (32 : Int32)) ||| (((xs (x3 + (4 : Int32)).toNatClampNeg)).toInt64 &&& (4294967295 : Int64))), .int (xs (x3 + (5 : Int32)).toNatClampNeg)]) (rest := [.int r7]) h2 rfl (by decide) hC (c_X5_entry l M8 a2 (xs (x3 + (1 : Int32)).toNatClampNeg) (xs (x3 + (2 : Int32)).toNatClampNeg) ((lShl (((xs (x3 + (3 : Int32)).toNatClampNeg)).toInt64) (32 : Int32)) ||| (((xs (x3 + (4 : Int32)).toNatClampNeg)).toInt64 &&& (4294967295 : Int64))) (xs (x3 + (5 : Int32)).toNatClampNeg) h2) (hcs := hcs) my_X5_entry ml_L_19 rfl rfl rfl (Nat.le_of_ble_eq_true rfl) ⟨by decide, by decide⟩ dL_law_231 (fun r14 M15 => ?_)
  refine q_icmp_eq hC 1189 dL_law_234 (by decide) ?_ ?_
  · exact GQ.sub [0, 1, 2, 3] rfl (b_L_law_1189 hC L xs a1 a2 x3 hX hcs h1 h2 kx hkx kb hkb M15)
  refine q_iconst hC (0 : Int32) (by decide) dL_law_237 ?_
  exact q_zret hX.2.2 hcs hC dL_law_238
def j_L_law_239 (kx : Int32 → Me → Option (Int32 × Me)) (kb : Int32 × Me → Option (Int32 × Me)) (L : Nat) (xs : Nat → Int32) (a1 : Nat) (a2 : Nat) (x3 : Int32) (M : Me) : Option (Int32 × Me) := chk (x3 + (1 : Int32)) L (chk (x3 + (2 : Int32)) L (chk (x3 + (3 : Int32)) L (chk (x3 + (4 : Int32)) L (cal (f_X4_name M a1 (xs (x3 + (1 : Int32)).toNatClampNeg) ((lShl (((xs (x3 + (2 : Int32)).toNatClampNeg)).toInt64) (32 : Int32)) ||| (((xs (x3 + (3 : Int32)).toNatClampNeg)).toInt64 &&& (4294967295 : Int64))) (xs (x3 + (4 : Int32)).toNatClampNeg)) (fun r21 M22 => chk (x3 + (1 : Int32)) L (chk (x3 + (2 : Int32)) L (chk (x3 + (3 : Int32)) L (chk (x3 + (4 : Int32)) L (cal (f_X5_name M22 a2 (xs (x3 + (1 : Int32)).toNatClampNeg) ((lShl (((xs (x3 + (2 : Int32)).toNatClampNeg)).toInt64) (32 : Int32)) ||| (((xs (x3 + (3 : Int32)).toNatClampNeg)).toInt64 &&& (4294967295 : Int64))) (xs (x3 + (4 : Int32)).toNatClampNeg)) (fun r27 M28 => if r21 = r27 then j_L_law_1189 kx kb L xs a1 a2 x3 M28 else chZ (0 : Int32) (some ((0 : Int32), M28))))))))))))
set_option maxHeartbeats 4000000 in
set_option maxRecDepth 100000 in
theorem b_L_law_239 {p : Program} {l : Launch} {e : Env} {s : State} {m : MethodId} {below : List Frame} {meth : Method} {c : Code} {D : va_G} {T : Nat → ClassId} {b bs cells slots : Nat} (hC : CX p s m #[Value.ref bs] meth c cL_law 4 RL ret D T) (L : Nat) (xs : Nat → Int32) (a1 : Nat) (a2 : Nat) (x3 : Int32) (hX : LX s b bs L xs) (hcs : cells ≤ room_1.cells ∧ slots ≤ room_1.slots) (h1 : kd a1 = 4) (h2 : kd a2 = 5) (kx : Int32 → Me → Option (Int32 × Me)) (hkx : ∀ (x3 : Int32) (M : Me), GQ p l e room_1 s m #[Value.ref bs] below meth c D T b 4 cells slots (lwq below bs s) 1195 [] [] M (kx x3 M)) (kb : Int32 × Me → Option (Int32 × Me)) (hkb : ∀ z : Int32 × Me, GQ p l e room_1 s m #[Value.ref bs] below meth c D T b 4 cells slots (lwq below bs s) 18 [(0, .ref bs), (1, .ref (b + a1)), (2, .ref (b + a2)), (3, .int z.1)] [] z.2 (kb z)) (M : Me) : GQ p l e room_1 s m #[Value.ref bs] below meth c D T b 4 cells slots (lwq below bs s) 239 [(0, .ref bs), (1, .ref (b + a1)), (2, .ref (b + a2)), (3, .int x3)] [] M (j_L_law_239 kx kb L xs a1 a2 x3 M) := by
  unfold j_L_law_239
  refine q_aload_n hC 1 rfl dL_law_239 ?_
  refine q_aload_n hC 0 rfl dL_law_240 ?_
  refine q_iload_n hC 3 rfl dL_law_241 ?_
  refine q_iconst hC (1 : Int32) (by decide) dL_law_242 ?_
  refine q_iadd hC dL_law_243 ?_
  refine q_sld hC hX dL_law_244 (fun g17 => ?_)
  refine q_aload_n hC 0 rfl dL_law_245 ?_
  refine q_iload_n hC 3 rfl dL_law_246 ?_
  refine q_iconst hC (2 : Int32) (by decide) dL_law_247 ?_
  refine q_iadd hC dL_law_248 ?_
  refine q_sld hC hX dL_law_249 (fun g18 => ?_)
  refine q_i2l hC dL_law_250 ?_
  refine q_bipush hC (32 : Int32) (by decide) dL_law_251 ?_
  refine q_lshl hC dL_law_253 ?_
  refine q_aload_n hC 0 rfl dL_law_254 ?_
  refine q_iload_n hC 3 rfl dL_law_255 ?_
  refine q_iconst hC (3 : Int32) (by decide) dL_law_256 ?_
  refine q_iadd hC dL_law_257 ?_
  refine q_sld hC hX dL_law_258 (fun g19 => ?_)
  refine q_i2l hC dL_law_259 ?_
  refine q_ldc2 hC (4294967295 : Int64) kc_L_13 dL_law_260 ?_
  refine q_land hC dL_law_263 ?_
  refine q_lor hC dL_law_264 ?_
  refine q_aload_n hC 0 rfl dL_law_265 ?_
  refine q_iload_n hC 3 rfl dL_law_266 ?_
  refine q_iconst hC (4 : Int32) (by decide) dL_law_267 ?_
  refine q_iadd hC dL_law_268 ?_
  refine q_sld hC hX dL_law_269 (fun g20 => ?_)
  refine q_callVi (As := [.int (xs (x3 + (1 : Int32)).toNatClampNeg), .long ((lShl (((xs (x3 + (2 : Int32)).toNatClampNeg)).toInt64) (32 : Int32)) ||| (((xs (x3 + (3 : Int32)).toNatClampNeg)).toInt64 &&& (4294967295 : Int64))), .int (xs (x3 + (4 : Int32)).toNatClampNeg)]) (rest := []) h1 rfl (by decide) hC (c_X4_name l M a1 (xs (x3 + (1 : Int32)).toNatClampNeg) ((lShl (((xs (x3 + (2 : Int32)).toNatClampNeg)).toInt64) (32 : Int32)) ||| (((xs (x3 + (3 : Int32)).toNatClampNeg)).toInt64 &&& (4294967295 : Int64))) (xs (x3 + (4 : Int32)).toNatClampNeg) h1) (hcs := hcs) my_X4_name ml_L_20 rfl rfl rfl (Nat.le_of_ble_eq_true rfl) ⟨by decide, by decide⟩ dL_law_270 (fun r21 M22 => ?_)
  refine q_aload_n hC 2 rfl dL_law_273 ?_
  refine q_aload_n hC 0 rfl dL_law_274 ?_
  refine q_iload_n hC 3 rfl dL_law_275 ?_
  refine q_iconst hC (1 : Int32) (by decide) dL_law_276 ?_
  refine q_iadd hC dL_law_277 ?_
  refine q_sld hC hX dL_law_278 (fun g23 => ?_)
  refine q_aload_n hC 0 rfl dL_law_279 ?_
  refine q_iload_n hC 3 rfl dL_law_280 ?_
  refine q_iconst hC (2 : Int32) (by decide) dL_law_281 ?_
  refine q_iadd hC dL_law_282 ?_
  refine q_sld hC hX dL_law_283 (fun g24 => ?_)
  refine q_i2l hC dL_law_284 ?_
  refine q_bipush hC (32 : Int32) (by decide) dL_law_285 ?_
  refine q_lshl hC dL_law_287 ?_
  refine q_aload_n hC 0 rfl dL_law_288 ?_
  refine q_iload_n hC 3 rfl dL_law_289 ?_
  refine q_iconst hC (3 : Int32) (by decide) dL_law_290 ?_
  refine q_iadd hC dL_law_291 ?_
  refine q_sld hC hX dL_law_292 (fun g25 => ?_)
  refine q_i2l hC dL_law_293 ?_
  refine q_ldc2 hC (4294967295 : Int64) kc_L_13 dL_law_294 ?_
  refine q_land hC dL_law_297 ?_
  refine q_lor hC dL_law_298 ?_
  refine q_aload_n hC 0 rfl dL_law_299 ?_
  refine q_iload_n hC 3 rfl dL_law_300 ?_
  refine q_iconst hC (4 : Int32) (by decide) dL_law_301 ?_
  refine q_iadd hC dL_law_302 ?_
  refine q_sld hC hX dL_law_303 (fun g26 => ?_)
  refine q_callVi (As := [.int (xs (x3 + (1 : Int32)).toNatClampNeg), .long ((lShl (((xs (x3 + (2 : Int32)).toNatClampNeg)).toInt64) (32 : Int32)) ||| (((xs (x3 + (3 : Int32)).toNatClampNeg)).toInt64 &&& (4294967295 : Int64))), .int (xs (x3 + (4 : Int32)).toNatClampNeg)]) (rest := [.int r21]) h2 rfl (by decide) hC (c_X5_name l M22 a2 (xs (x3 + (1 : Int32)).toNatClampNeg) ((lShl (((xs (x3 + (2 : Int32)).toNatClampNeg)).toInt64) (32 : Int32)) ||| (((xs (x3 + (3 : Int32)).toNatClampNeg)).toInt64 &&& (4294967295 : Int64))) (xs (x3 + (4 : Int32)).toNatClampNeg) h2) (hcs := hcs) my_X5_name ml_L_24 rfl rfl rfl (Nat.le_of_ble_eq_true rfl) ⟨by decide, by decide⟩ dL_law_304 (fun r27 M28 => ?_)
  refine q_icmp_eq hC 1189 dL_law_307 (by decide) ?_ ?_
  · exact GQ.sub [0, 1, 2, 3] rfl (b_L_law_1189 hC L xs a1 a2 x3 hX hcs h1 h2 kx hkx kb hkb M28)
  refine q_iconst hC (0 : Int32) (by decide) dL_law_310 ?_
  exact q_zret hX.2.2 hcs hC dL_law_311
def j_L_law_312 (kx : Int32 → Me → Option (Int32 × Me)) (kb : Int32 × Me → Option (Int32 × Me)) (L : Nat) (xs : Nat → Int32) (a1 : Nat) (a2 : Nat) (x3 : Int32) (M : Me) : Option (Int32 × Me) := chk (x3 + (1 : Int32)) L (chk (x3 + (2 : Int32)) L (chk (x3 + (3 : Int32)) L (chk (x3 + (4 : Int32)) L (cal (f_X4_data M a1 (xs (x3 + (1 : Int32)).toNatClampNeg) ((lShl (((xs (x3 + (2 : Int32)).toNatClampNeg)).toInt64) (32 : Int32)) ||| (((xs (x3 + (3 : Int32)).toNatClampNeg)).toInt64 &&& (4294967295 : Int64))) (xs (x3 + (4 : Int32)).toNatClampNeg)) (fun r33 M34 => chk (x3 + (1 : Int32)) L (chk (x3 + (2 : Int32)) L (chk (x3 + (3 : Int32)) L (chk (x3 + (4 : Int32)) L (cal (f_X5_data M34 a2 (xs (x3 + (1 : Int32)).toNatClampNeg) ((lShl (((xs (x3 + (2 : Int32)).toNatClampNeg)).toInt64) (32 : Int32)) ||| (((xs (x3 + (3 : Int32)).toNatClampNeg)).toInt64 &&& (4294967295 : Int64))) (xs (x3 + (4 : Int32)).toNatClampNeg)) (fun r39 M40 => if r33 = r39 then j_L_law_1189 kx kb L xs a1 a2 x3 M40 else chZ (0 : Int32) (some ((0 : Int32), M40))))))))))))
set_option maxHeartbeats 4000000 in
set_option maxRecDepth 100000 in
theorem b_L_law_312 {p : Program} {l : Launch} {e : Env} {s : State} {m : MethodId} {below : List Frame} {meth : Method} {c : Code} {D : va_G} {T : Nat → ClassId} {b bs cells slots : Nat} (hC : CX p s m #[Value.ref bs] meth c cL_law 4 RL ret D T) (L : Nat) (xs : Nat → Int32) (a1 : Nat) (a2 : Nat) (x3 : Int32) (hX : LX s b bs L xs) (hcs : cells ≤ room_1.cells ∧ slots ≤ room_1.slots) (h1 : kd a1 = 4) (h2 : kd a2 = 5) (kx : Int32 → Me → Option (Int32 × Me)) (hkx : ∀ (x3 : Int32) (M : Me), GQ p l e room_1 s m #[Value.ref bs] below meth c D T b 4 cells slots (lwq below bs s) 1195 [] [] M (kx x3 M)) (kb : Int32 × Me → Option (Int32 × Me)) (hkb : ∀ z : Int32 × Me, GQ p l e room_1 s m #[Value.ref bs] below meth c D T b 4 cells slots (lwq below bs s) 18 [(0, .ref bs), (1, .ref (b + a1)), (2, .ref (b + a2)), (3, .int z.1)] [] z.2 (kb z)) (M : Me) : GQ p l e room_1 s m #[Value.ref bs] below meth c D T b 4 cells slots (lwq below bs s) 312 [(0, .ref bs), (1, .ref (b + a1)), (2, .ref (b + a2)), (3, .int x3)] [] M (j_L_law_312 kx kb L xs a1 a2 x3 M) := by
  unfold j_L_law_312
  refine q_aload_n hC 1 rfl dL_law_312 ?_
  refine q_aload_n hC 0 rfl dL_law_313 ?_
  refine q_iload_n hC 3 rfl dL_law_314 ?_
  refine q_iconst hC (1 : Int32) (by decide) dL_law_315 ?_
  refine q_iadd hC dL_law_316 ?_
  refine q_sld hC hX dL_law_317 (fun g29 => ?_)
  refine q_aload_n hC 0 rfl dL_law_318 ?_
  refine q_iload_n hC 3 rfl dL_law_319 ?_
  refine q_iconst hC (2 : Int32) (by decide) dL_law_320 ?_
  refine q_iadd hC dL_law_321 ?_
  refine q_sld hC hX dL_law_322 (fun g30 => ?_)
  refine q_i2l hC dL_law_323 ?_
  refine q_bipush hC (32 : Int32) (by decide) dL_law_324 ?_
  refine q_lshl hC dL_law_326 ?_
  refine q_aload_n hC 0 rfl dL_law_327 ?_
  refine q_iload_n hC 3 rfl dL_law_328 ?_
  refine q_iconst hC (3 : Int32) (by decide) dL_law_329 ?_
  refine q_iadd hC dL_law_330 ?_
  refine q_sld hC hX dL_law_331 (fun g31 => ?_)
  refine q_i2l hC dL_law_332 ?_
  refine q_ldc2 hC (4294967295 : Int64) kc_L_13 dL_law_333 ?_
  refine q_land hC dL_law_336 ?_
  refine q_lor hC dL_law_337 ?_
  refine q_aload_n hC 0 rfl dL_law_338 ?_
  refine q_iload_n hC 3 rfl dL_law_339 ?_
  refine q_iconst hC (4 : Int32) (by decide) dL_law_340 ?_
  refine q_iadd hC dL_law_341 ?_
  refine q_sld hC hX dL_law_342 (fun g32 => ?_)
  refine q_callVi (As := [.int (xs (x3 + (1 : Int32)).toNatClampNeg), .long ((lShl (((xs (x3 + (2 : Int32)).toNatClampNeg)).toInt64) (32 : Int32)) ||| (((xs (x3 + (3 : Int32)).toNatClampNeg)).toInt64 &&& (4294967295 : Int64))), .int (xs (x3 + (4 : Int32)).toNatClampNeg)]) (rest := []) h1 rfl (by decide) hC (c_X4_data l M a1 (xs (x3 + (1 : Int32)).toNatClampNeg) ((lShl (((xs (x3 + (2 : Int32)).toNatClampNeg)).toInt64) (32 : Int32)) ||| (((xs (x3 + (3 : Int32)).toNatClampNeg)).toInt64 &&& (4294967295 : Int64))) (xs (x3 + (4 : Int32)).toNatClampNeg) h1) (hcs := hcs) my_X4_data ml_L_25 rfl rfl rfl (Nat.le_of_ble_eq_true rfl) ⟨by decide, by decide⟩ dL_law_343 (fun r33 M34 => ?_)
  refine q_aload_n hC 2 rfl dL_law_346 ?_
  refine q_aload_n hC 0 rfl dL_law_347 ?_
  refine q_iload_n hC 3 rfl dL_law_348 ?_
  refine q_iconst hC (1 : Int32) (by decide) dL_law_349 ?_
  refine q_iadd hC dL_law_350 ?_
  refine q_sld hC hX dL_law_351 (fun g35 => ?_)
  refine q_aload_n hC 0 rfl dL_law_352 ?_
  refine q_iload_n hC 3 rfl dL_law_353 ?_
  refine q_iconst hC (2 : Int32) (by decide) dL_law_354 ?_
  refine q_iadd hC dL_law_355 ?_
  refine q_sld hC hX dL_law_356 (fun g36 => ?_)
  refine q_i2l hC dL_law_357 ?_
  refine q_bipush hC (32 : Int32) (by decide) dL_law_358 ?_
  refine q_lshl hC dL_law_360 ?_
  refine q_aload_n hC 0 rfl dL_law_361 ?_
  refine q_iload_n hC 3 rfl dL_law_362 ?_
  refine q_iconst hC (3 : Int32) (by decide) dL_law_363 ?_
  refine q_iadd hC dL_law_364 ?_
  refine q_sld hC hX dL_law_365 (fun g37 => ?_)
  refine q_i2l hC dL_law_366 ?_
  refine q_ldc2 hC (4294967295 : Int64) kc_L_13 dL_law_367 ?_
  refine q_land hC dL_law_370 ?_
  refine q_lor hC dL_law_371 ?_
  refine q_aload_n hC 0 rfl dL_law_372 ?_
  refine q_iload_n hC 3 rfl dL_law_373 ?_
  refine q_iconst hC (4 : Int32) (by decide) dL_law_374 ?_
  refine q_iadd hC dL_law_375 ?_
  refine q_sld hC hX dL_law_376 (fun g38 => ?_)
  refine q_callVi (As := [.int (xs (x3 + (1 : Int32)).toNatClampNeg), .long ((lShl (((xs (x3 + (2 : Int32)).toNatClampNeg)).toInt64) (32 : Int32)) ||| (((xs (x3 + (3 : Int32)).toNatClampNeg)).toInt64 &&& (4294967295 : Int64))), .int (xs (x3 + (4 : Int32)).toNatClampNeg)]) (rest := [.int r33]) h2 rfl (by decide) hC (c_X5_data l M34 a2 (xs (x3 + (1 : Int32)).toNatClampNeg) ((lShl (((xs (x3 + (2 : Int32)).toNatClampNeg)).toInt64) (32 : Int32)) ||| (((xs (x3 + (3 : Int32)).toNatClampNeg)).toInt64 &&& (4294967295 : Int64))) (xs (x3 + (4 : Int32)).toNatClampNeg) h2) (hcs := hcs) my_X5_data ml_L_28 rfl rfl rfl (Nat.le_of_ble_eq_true rfl) ⟨by decide, by decide⟩ dL_law_377 (fun r39 M40 => ?_)
  refine q_icmp_eq hC 1189 dL_law_380 (by decide) ?_ ?_
  · exact GQ.sub [0, 1, 2, 3] rfl (b_L_law_1189 hC L xs a1 a2 x3 hX hcs h1 h2 kx hkx kb hkb M40)
  refine q_iconst hC (0 : Int32) (by decide) dL_law_383 ?_
  exact q_zret hX.2.2 hcs hC dL_law_384
def j_L_law_385 (kx : Int32 → Me → Option (Int32 × Me)) (kb : Int32 × Me → Option (Int32 × Me)) (L : Nat) (xs : Nat → Int32) (a1 : Nat) (a2 : Nat) (x3 : Int32) (M : Me) : Option (Int32 × Me) := chk (x3 + (1 : Int32)) L (chk (x3 + (2 : Int32)) L (chk (x3 + (3 : Int32)) L (cal (f_X4_packed M a1 (xs (x3 + (1 : Int32)).toNatClampNeg) (xs (x3 + (2 : Int32)).toNatClampNeg) (xs (x3 + (3 : Int32)).toNatClampNeg)) (fun r44 M45 => chk (x3 + (1 : Int32)) L (chk (x3 + (2 : Int32)) L (chk (x3 + (3 : Int32)) L (cal (f_X5_packed M45 a2 (xs (x3 + (1 : Int32)).toNatClampNeg) (xs (x3 + (2 : Int32)).toNatClampNeg) (xs (x3 + (3 : Int32)).toNatClampNeg)) (fun r49 M50 => if r44 = r49 then j_L_law_1189 kx kb L xs a1 a2 x3 M50 else chZ (0 : Int32) (some ((0 : Int32), M50))))))))))
set_option maxHeartbeats 4000000 in
set_option maxRecDepth 100000 in
theorem b_L_law_385 {p : Program} {l : Launch} {e : Env} {s : State} {m : MethodId} {below : List Frame} {meth : Method} {c : Code} {D : va_G} {T : Nat → ClassId} {b bs cells slots : Nat} (hC : CX p s m #[Value.ref bs] meth c cL_law 4 RL ret D T) (L : Nat) (xs : Nat → Int32) (a1 : Nat) (a2 : Nat) (x3 : Int32) (hX : LX s b bs L xs) (hcs : cells ≤ room_1.cells ∧ slots ≤ room_1.slots) (h1 : kd a1 = 4) (h2 : kd a2 = 5) (kx : Int32 → Me → Option (Int32 × Me)) (hkx : ∀ (x3 : Int32) (M : Me), GQ p l e room_1 s m #[Value.ref bs] below meth c D T b 4 cells slots (lwq below bs s) 1195 [] [] M (kx x3 M)) (kb : Int32 × Me → Option (Int32 × Me)) (hkb : ∀ z : Int32 × Me, GQ p l e room_1 s m #[Value.ref bs] below meth c D T b 4 cells slots (lwq below bs s) 18 [(0, .ref bs), (1, .ref (b + a1)), (2, .ref (b + a2)), (3, .int z.1)] [] z.2 (kb z)) (M : Me) : GQ p l e room_1 s m #[Value.ref bs] below meth c D T b 4 cells slots (lwq below bs s) 385 [(0, .ref bs), (1, .ref (b + a1)), (2, .ref (b + a2)), (3, .int x3)] [] M (j_L_law_385 kx kb L xs a1 a2 x3 M) := by
  unfold j_L_law_385
  refine q_aload_n hC 1 rfl dL_law_385 ?_
  refine q_aload_n hC 0 rfl dL_law_386 ?_
  refine q_iload_n hC 3 rfl dL_law_387 ?_
  refine q_iconst hC (1 : Int32) (by decide) dL_law_388 ?_
  refine q_iadd hC dL_law_389 ?_
  refine q_sld hC hX dL_law_390 (fun g41 => ?_)
  refine q_aload_n hC 0 rfl dL_law_391 ?_
  refine q_iload_n hC 3 rfl dL_law_392 ?_
  refine q_iconst hC (2 : Int32) (by decide) dL_law_393 ?_
  refine q_iadd hC dL_law_394 ?_
  refine q_sld hC hX dL_law_395 (fun g42 => ?_)
  refine q_aload_n hC 0 rfl dL_law_396 ?_
  refine q_iload_n hC 3 rfl dL_law_397 ?_
  refine q_iconst hC (3 : Int32) (by decide) dL_law_398 ?_
  refine q_iadd hC dL_law_399 ?_
  refine q_sld hC hX dL_law_400 (fun g43 => ?_)
  refine q_callVi (As := [.int (xs (x3 + (1 : Int32)).toNatClampNeg), .int (xs (x3 + (2 : Int32)).toNatClampNeg), .int (xs (x3 + (3 : Int32)).toNatClampNeg)]) (rest := []) h1 rfl (by decide) hC (c_X4_packed l M a1 (xs (x3 + (1 : Int32)).toNatClampNeg) (xs (x3 + (2 : Int32)).toNatClampNeg) (xs (x3 + (3 : Int32)).toNatClampNeg) h1) (hcs := hcs) my_X4_packed ml_L_29 rfl rfl rfl (Nat.le_of_ble_eq_true rfl) ⟨by decide, by decide⟩ dL_law_401 (fun r44 M45 => ?_)
  refine q_aload_n hC 2 rfl dL_law_404 ?_
  refine q_aload_n hC 0 rfl dL_law_405 ?_
  refine q_iload_n hC 3 rfl dL_law_406 ?_
  refine q_iconst hC (1 : Int32) (by decide) dL_law_407 ?_
  refine q_iadd hC dL_law_408 ?_
  refine q_sld hC hX dL_law_409 (fun g46 => ?_)
  refine q_aload_n hC 0 rfl dL_law_410 ?_
  refine q_iload_n hC 3 rfl dL_law_411 ?_
  refine q_iconst hC (2 : Int32) (by decide) dL_law_412 ?_
  refine q_iadd hC dL_law_413 ?_
  refine q_sld hC hX dL_law_414 (fun g47 => ?_)
  refine q_aload_n hC 0 rfl dL_law_415 ?_
  refine q_iload_n hC 3 rfl dL_law_416 ?_
  refine q_iconst hC (3 : Int32) (by decide) dL_law_417 ?_
  refine q_iadd hC dL_law_418 ?_
  refine q_sld hC hX dL_law_419 (fun g48 => ?_)
  refine q_callVi (As := [.int (xs (x3 + (1 : Int32)).toNatClampNeg), .int (xs (x3 + (2 : Int32)).toNatClampNeg), .int (xs (x3 + (3 : Int32)).toNatClampNeg)]) (rest := [.int r44]) h2 rfl (by decide) hC (c_X5_packed l M45 a2 (xs (x3 + (1 : Int32)).toNatClampNeg) (xs (x3 + (2 : Int32)).toNatClampNeg) (xs (x3 + (3 : Int32)).toNatClampNeg) h2) (hcs := hcs) my_X5_packed ml_L_33 rfl rfl rfl (Nat.le_of_ble_eq_true rfl) ⟨by decide, by decide⟩ dL_law_420 (fun r49 M50 => ?_)
  refine q_icmp_eq hC 1189 dL_law_423 (by decide) ?_ ?_
  · exact GQ.sub [0, 1, 2, 3] rfl (b_L_law_1189 hC L xs a1 a2 x3 hX hcs h1 h2 kx hkx kb hkb M50)
  refine q_iconst hC (0 : Int32) (by decide) dL_law_426 ?_
  exact q_zret hX.2.2 hcs hC dL_law_427
def j_L_law_428 (kx : Int32 → Me → Option (Int32 × Me)) (kb : Int32 × Me → Option (Int32 × Me)) (L : Nat) (xs : Nat → Int32) (a1 : Nat) (a2 : Nat) (x3 : Int32) (M : Me) : Option (Int32 × Me) := chk (x3 + (1 : Int32)) L (chk (x3 + (2 : Int32)) L (chk (x3 + (3 : Int32)) L (chk (x3 + (4 : Int32)) L (chk (x3 + (5 : Int32)) L (cal (f_X4_part M a1 (xs (x3 + (1 : Int32)).toNatClampNeg) (xs (x3 + (2 : Int32)).toNatClampNeg) ((lShl (((xs (x3 + (3 : Int32)).toNatClampNeg)).toInt64) (32 : Int32)) ||| (((xs (x3 + (4 : Int32)).toNatClampNeg)).toInt64 &&& (4294967295 : Int64))) (xs (x3 + (5 : Int32)).toNatClampNeg)) (fun r56 M57 => chk (x3 + (1 : Int32)) L (chk (x3 + (2 : Int32)) L (chk (x3 + (3 : Int32)) L (chk (x3 + (4 : Int32)) L (chk (x3 + (5 : Int32)) L (cal (f_X5_part M57 a2 (xs (x3 + (1 : Int32)).toNatClampNeg) (xs (x3 + (2 : Int32)).toNatClampNeg) ((lShl (((xs (x3 + (3 : Int32)).toNatClampNeg)).toInt64) (32 : Int32)) ||| (((xs (x3 + (4 : Int32)).toNatClampNeg)).toInt64 &&& (4294967295 : Int64))) (xs (x3 + (5 : Int32)).toNatClampNeg)) (fun r63 M64 => if r56 = r63 then j_L_law_1189 kx kb L xs a1 a2 x3 M64 else chZ (0 : Int32) (some ((0 : Int32), M64))))))))))))))
set_option maxHeartbeats 4000000 in
set_option maxRecDepth 100000 in
theorem b_L_law_428 {p : Program} {l : Launch} {e : Env} {s : State} {m : MethodId} {below : List Frame} {meth : Method} {c : Code} {D : va_G} {T : Nat → ClassId} {b bs cells slots : Nat} (hC : CX p s m #[Value.ref bs] meth c cL_law 4 RL ret D T) (L : Nat) (xs : Nat → Int32) (a1 : Nat) (a2 : Nat) (x3 : Int32) (hX : LX s b bs L xs) (hcs : cells ≤ room_1.cells ∧ slots ≤ room_1.slots) (h1 : kd a1 = 4) (h2 : kd a2 = 5) (kx : Int32 → Me → Option (Int32 × Me)) (hkx : ∀ (x3 : Int32) (M : Me), GQ p l e room_1 s m #[Value.ref bs] below meth c D T b 4 cells slots (lwq below bs s) 1195 [] [] M (kx x3 M)) (kb : Int32 × Me → Option (Int32 × Me)) (hkb : ∀ z : Int32 × Me, GQ p l e room_1 s m #[Value.ref bs] below meth c D T b 4 cells slots (lwq below bs s) 18 [(0, .ref bs), (1, .ref (b + a1)), (2, .ref (b + a2)), (3, .int z.1)] [] z.2 (kb z)) (M : Me) : GQ p l e room_1 s m #[Value.ref bs] below meth c D T b 4 cells slots (lwq below bs s) 428 [(0, .ref bs), (1, .ref (b + a1)), (2, .ref (b + a2)), (3, .int x3)] [] M (j_L_law_428 kx kb L xs a1 a2 x3 M) := by
  unfold j_L_law_428
  refine q_aload_n hC 1 rfl dL_law_428 ?_
  refine q_aload_n hC 0 rfl dL_law_429 ?_
  refine q_iload_n hC 3 rfl dL_law_430 ?_
  refine q_iconst hC (1 : Int32) (by decide) dL_law_431 ?_
  refine q_iadd hC dL_law_432 ?_
  refine q_sld hC hX dL_law_433 (fun g51 => ?_)
  refine q_aload_n hC 0 rfl dL_law_434 ?_
  refine q_iload_n hC 3 rfl dL_law_435 ?_
  refine q_iconst hC (2 : Int32) (by decide) dL_law_436 ?_
  refine q_iadd hC dL_law_437 ?_
  refine q_sld hC hX dL_law_438 (fun g52 => ?_)
  refine q_aload_n hC 0 rfl dL_law_439 ?_
  refine q_iload_n hC 3 rfl dL_law_440 ?_
  refine q_iconst hC (3 : Int32) (by decide) dL_law_441 ?_
  refine q_iadd hC dL_law_442 ?_
  refine q_sld hC hX dL_law_443 (fun g53 => ?_)
  refine q_i2l hC dL_law_444 ?_
  refine q_bipush hC (32 : Int32) (by decide) dL_law_445 ?_
  refine q_lshl hC dL_law_447 ?_
  refine q_aload_n hC 0 rfl dL_law_448 ?_
  refine q_iload_n hC 3 rfl dL_law_449 ?_
  refine q_iconst hC (4 : Int32) (by decide) dL_law_450 ?_
  refine q_iadd hC dL_law_451 ?_
  refine q_sld hC hX dL_law_452 (fun g54 => ?_)
  refine q_i2l hC dL_law_453 ?_
  refine q_ldc2 hC (4294967295 : Int64) kc_L_13 dL_law_454 ?_
  refine q_land hC dL_law_457 ?_
  refine q_lor hC dL_law_458 ?_
  refine q_aload_n hC 0 rfl dL_law_459 ?_
  refine q_iload_n hC 3 rfl dL_law_460 ?_
  refine q_iconst hC (5 : Int32) (by decide) dL_law_461 ?_
  refine q_iadd hC dL_law_462 ?_
  refine q_sld hC hX dL_law_463 (fun g55 => ?_)
  refine q_callVi (As := [.int (xs (x3 + (1 : Int32)).toNatClampNeg), .int (xs (x3 + (2 : Int32)).toNatClampNeg), .long ((lShl (((xs (x3 + (3 : Int32)).toNatClampNeg)).toInt64) (32 : Int32)) ||| (((xs (x3 + (4 : Int32)).toNatClampNeg)).toInt64 &&& (4294967295 : Int64))), .int (xs (x3 + (5 : Int32)).toNatClampNeg)]) (rest := []) h1 rfl (by decide) hC (c_X4_part l M a1 (xs (x3 + (1 : Int32)).toNatClampNeg) (xs (x3 + (2 : Int32)).toNatClampNeg) ((lShl (((xs (x3 + (3 : Int32)).toNatClampNeg)).toInt64) (32 : Int32)) ||| (((xs (x3 + (4 : Int32)).toNatClampNeg)).toInt64 &&& (4294967295 : Int64))) (xs (x3 + (5 : Int32)).toNatClampNeg) h1) (hcs := hcs) my_X4_part ml_L_34 rfl rfl rfl (Nat.le_of_ble_eq_true rfl) ⟨by decide, by decide⟩ dL_law_464 (fun r56 M57 => ?_)
  refine q_aload_n hC 2 rfl dL_law_467 ?_
  refine q_aload_n hC 0 rfl dL_law_468 ?_
  refine q_iload_n hC 3 rfl dL_law_469 ?_
  refine q_iconst hC (1 : Int32) (by decide) dL_law_470 ?_
  refine q_iadd hC dL_law_471 ?_
  refine q_sld hC hX dL_law_472 (fun g58 => ?_)
  refine q_aload_n hC 0 rfl dL_law_473 ?_
  refine q_iload_n hC 3 rfl dL_law_474 ?_
  refine q_iconst hC (2 : Int32) (by decide) dL_law_475 ?_
  refine q_iadd hC dL_law_476 ?_
  refine q_sld hC hX dL_law_477 (fun g59 => ?_)
  refine q_aload_n hC 0 rfl dL_law_478 ?_
  refine q_iload_n hC 3 rfl dL_law_479 ?_
  refine q_iconst hC (3 : Int32) (by decide) dL_law_480 ?_
  refine q_iadd hC dL_law_481 ?_
  refine q_sld hC hX dL_law_482 (fun g60 => ?_)
  refine q_i2l hC dL_law_483 ?_
  refine q_bipush hC (32 : Int32) (by decide) dL_law_484 ?_
  refine q_lshl hC dL_law_486 ?_
  refine q_aload_n hC 0 rfl dL_law_487 ?_
  refine q_iload_n hC 3 rfl dL_law_488 ?_
  refine q_iconst hC (4 : Int32) (by decide) dL_law_489 ?_
  refine q_iadd hC dL_law_490 ?_
  refine q_sld hC hX dL_law_491 (fun g61 => ?_)
  refine q_i2l hC dL_law_492 ?_
  refine q_ldc2 hC (4294967295 : Int64) kc_L_13 dL_law_493 ?_
  refine q_land hC dL_law_496 ?_
  refine q_lor hC dL_law_497 ?_
  refine q_aload_n hC 0 rfl dL_law_498 ?_
  refine q_iload_n hC 3 rfl dL_law_499 ?_
  refine q_iconst hC (5 : Int32) (by decide) dL_law_500 ?_
  refine q_iadd hC dL_law_501 ?_
  refine q_sld hC hX dL_law_502 (fun g62 => ?_)
  refine q_callVi (As := [.int (xs (x3 + (1 : Int32)).toNatClampNeg), .int (xs (x3 + (2 : Int32)).toNatClampNeg), .long ((lShl (((xs (x3 + (3 : Int32)).toNatClampNeg)).toInt64) (32 : Int32)) ||| (((xs (x3 + (4 : Int32)).toNatClampNeg)).toInt64 &&& (4294967295 : Int64))), .int (xs (x3 + (5 : Int32)).toNatClampNeg)]) (rest := [.int r56]) h2 rfl (by decide) hC (c_X5_part l M57 a2 (xs (x3 + (1 : Int32)).toNatClampNeg) (xs (x3 + (2 : Int32)).toNatClampNeg) ((lShl (((xs (x3 + (3 : Int32)).toNatClampNeg)).toInt64) (32 : Int32)) ||| (((xs (x3 + (4 : Int32)).toNatClampNeg)).toInt64 &&& (4294967295 : Int64))) (xs (x3 + (5 : Int32)).toNatClampNeg) h2) (hcs := hcs) my_X5_part ml_L_37 rfl rfl rfl (Nat.le_of_ble_eq_true rfl) ⟨by decide, by decide⟩ dL_law_503 (fun r63 M64 => ?_)
  refine q_icmp_eq hC 1189 dL_law_506 (by decide) ?_ ?_
  · exact GQ.sub [0, 1, 2, 3] rfl (b_L_law_1189 hC L xs a1 a2 x3 hX hcs h1 h2 kx hkx kb hkb M64)
  refine q_iconst hC (0 : Int32) (by decide) dL_law_509 ?_
  exact q_zret hX.2.2 hcs hC dL_law_510
def j_L_law_511 (kx : Int32 → Me → Option (Int32 × Me)) (kb : Int32 × Me → Option (Int32 × Me)) (L : Nat) (xs : Nat → Int32) (a1 : Nat) (a2 : Nat) (x3 : Int32) (M : Me) : Option (Int32 × Me) := chk (x3 + (1 : Int32)) L (chk (x3 + (2 : Int32)) L (chk (x3 + (3 : Int32)) L (chk (x3 + (4 : Int32)) L (chk (x3 + (5 : Int32)) L (cal (f_X4_stamp M a1 (xs (x3 + (1 : Int32)).toNatClampNeg) (xs (x3 + (2 : Int32)).toNatClampNeg) (xs (x3 + (3 : Int32)).toNatClampNeg) (xs (x3 + (4 : Int32)).toNatClampNeg) (xs (x3 + (5 : Int32)).toNatClampNeg)) (fun r70 M71 => chk (x3 + (1 : Int32)) L (chk (x3 + (2 : Int32)) L (chk (x3 + (3 : Int32)) L (chk (x3 + (4 : Int32)) L (chk (x3 + (5 : Int32)) L (cal (f_X5_stamp M71 a2 (xs (x3 + (1 : Int32)).toNatClampNeg) (xs (x3 + (2 : Int32)).toNatClampNeg) (xs (x3 + (3 : Int32)).toNatClampNeg) (xs (x3 + (4 : Int32)).toNatClampNeg) (xs (x3 + (5 : Int32)).toNatClampNeg)) (fun r77 M78 => if r70 = r77 then j_L_law_1189 kx kb L xs a1 a2 x3 M78 else chZ (0 : Int32) (some ((0 : Int32), M78))))))))))))))
set_option maxHeartbeats 4000000 in
set_option maxRecDepth 100000 in
theorem b_L_law_511 {p : Program} {l : Launch} {e : Env} {s : State} {m : MethodId} {below : List Frame} {meth : Method} {c : Code} {D : va_G} {T : Nat → ClassId} {b bs cells slots : Nat} (hC : CX p s m #[Value.ref bs] meth c cL_law 4 RL ret D T) (L : Nat) (xs : Nat → Int32) (a1 : Nat) (a2 : Nat) (x3 : Int32) (hX : LX s b bs L xs) (hcs : cells ≤ room_1.cells ∧ slots ≤ room_1.slots) (h1 : kd a1 = 4) (h2 : kd a2 = 5) (kx : Int32 → Me → Option (Int32 × Me)) (hkx : ∀ (x3 : Int32) (M : Me), GQ p l e room_1 s m #[Value.ref bs] below meth c D T b 4 cells slots (lwq below bs s) 1195 [] [] M (kx x3 M)) (kb : Int32 × Me → Option (Int32 × Me)) (hkb : ∀ z : Int32 × Me, GQ p l e room_1 s m #[Value.ref bs] below meth c D T b 4 cells slots (lwq below bs s) 18 [(0, .ref bs), (1, .ref (b + a1)), (2, .ref (b + a2)), (3, .int z.1)] [] z.2 (kb z)) (M : Me) : GQ p l e room_1 s m #[Value.ref bs] below meth c D T b 4 cells slots (lwq below bs s) 511 [(0, .ref bs), (1, .ref (b + a1)), (2, .ref (b + a2)), (3, .int x3)] [] M (j_L_law_511 kx kb L xs a1 a2 x3 M) := by
  unfold j_L_law_511
  refine q_aload_n hC 1 rfl dL_law_511 ?_
  refine q_aload_n hC 0 rfl dL_law_512 ?_
  refine q_iload_n hC 3 rfl dL_law_513 ?_
  refine q_iconst hC (1 : Int32) (by decide) dL_law_514 ?_
  refine q_iadd hC dL_law_515 ?_
  refine q_sld hC hX dL_law_516 (fun g65 => ?_)
  refine q_aload_n hC 0 rfl dL_law_517 ?_
  refine q_iload_n hC 3 rfl dL_law_518 ?_
  refine q_iconst hC (2 : Int32) (by decide) dL_law_519 ?_
  refine q_iadd hC dL_law_520 ?_
  refine q_sld hC hX dL_law_521 (fun g66 => ?_)
  refine q_aload_n hC 0 rfl dL_law_522 ?_
  refine q_iload_n hC 3 rfl dL_law_523 ?_
  refine q_iconst hC (3 : Int32) (by decide) dL_law_524 ?_
  refine q_iadd hC dL_law_525 ?_
  refine q_sld hC hX dL_law_526 (fun g67 => ?_)
  refine q_aload_n hC 0 rfl dL_law_527 ?_
  refine q_iload_n hC 3 rfl dL_law_528 ?_
  refine q_iconst hC (4 : Int32) (by decide) dL_law_529 ?_
  refine q_iadd hC dL_law_530 ?_
  refine q_sld hC hX dL_law_531 (fun g68 => ?_)
  refine q_aload_n hC 0 rfl dL_law_532 ?_
  refine q_iload_n hC 3 rfl dL_law_533 ?_
  refine q_iconst hC (5 : Int32) (by decide) dL_law_534 ?_
  refine q_iadd hC dL_law_535 ?_
  refine q_sld hC hX dL_law_536 (fun g69 => ?_)
  refine q_callVi (As := [.int (xs (x3 + (1 : Int32)).toNatClampNeg), .int (xs (x3 + (2 : Int32)).toNatClampNeg), .int (xs (x3 + (3 : Int32)).toNatClampNeg), .int (xs (x3 + (4 : Int32)).toNatClampNeg), .int (xs (x3 + (5 : Int32)).toNatClampNeg)]) (rest := []) h1 rfl (by decide) hC (c_X4_stamp l M a1 (xs (x3 + (1 : Int32)).toNatClampNeg) (xs (x3 + (2 : Int32)).toNatClampNeg) (xs (x3 + (3 : Int32)).toNatClampNeg) (xs (x3 + (4 : Int32)).toNatClampNeg) (xs (x3 + (5 : Int32)).toNatClampNeg) h1) (hcs := hcs) my_X4_stamp ml_L_38 rfl rfl rfl (Nat.le_of_ble_eq_true rfl) ⟨by decide, by decide⟩ dL_law_537 (fun r70 M71 => ?_)
  refine q_aload_n hC 2 rfl dL_law_540 ?_
  refine q_aload_n hC 0 rfl dL_law_541 ?_
  refine q_iload_n hC 3 rfl dL_law_542 ?_
  refine q_iconst hC (1 : Int32) (by decide) dL_law_543 ?_
  refine q_iadd hC dL_law_544 ?_
  refine q_sld hC hX dL_law_545 (fun g72 => ?_)
  refine q_aload_n hC 0 rfl dL_law_546 ?_
  refine q_iload_n hC 3 rfl dL_law_547 ?_
  refine q_iconst hC (2 : Int32) (by decide) dL_law_548 ?_
  refine q_iadd hC dL_law_549 ?_
  refine q_sld hC hX dL_law_550 (fun g73 => ?_)
  refine q_aload_n hC 0 rfl dL_law_551 ?_
  refine q_iload_n hC 3 rfl dL_law_552 ?_
  refine q_iconst hC (3 : Int32) (by decide) dL_law_553 ?_
  refine q_iadd hC dL_law_554 ?_
  refine q_sld hC hX dL_law_555 (fun g74 => ?_)
  refine q_aload_n hC 0 rfl dL_law_556 ?_
  refine q_iload_n hC 3 rfl dL_law_557 ?_
  refine q_iconst hC (4 : Int32) (by decide) dL_law_558 ?_
  refine q_iadd hC dL_law_559 ?_
  refine q_sld hC hX dL_law_560 (fun g75 => ?_)
  refine q_aload_n hC 0 rfl dL_law_561 ?_
  refine q_iload_n hC 3 rfl dL_law_562 ?_
  refine q_iconst hC (5 : Int32) (by decide) dL_law_563 ?_
  refine q_iadd hC dL_law_564 ?_
  refine q_sld hC hX dL_law_565 (fun g76 => ?_)
  refine q_callVi (As := [.int (xs (x3 + (1 : Int32)).toNatClampNeg), .int (xs (x3 + (2 : Int32)).toNatClampNeg), .int (xs (x3 + (3 : Int32)).toNatClampNeg), .int (xs (x3 + (4 : Int32)).toNatClampNeg), .int (xs (x3 + (5 : Int32)).toNatClampNeg)]) (rest := [.int r70]) h2 rfl (by decide) hC (c_X5_stamp l M71 a2 (xs (x3 + (1 : Int32)).toNatClampNeg) (xs (x3 + (2 : Int32)).toNatClampNeg) (xs (x3 + (3 : Int32)).toNatClampNeg) (xs (x3 + (4 : Int32)).toNatClampNeg) (xs (x3 + (5 : Int32)).toNatClampNeg) h2) (hcs := hcs) my_X5_stamp ml_L_42 rfl rfl rfl (Nat.le_of_ble_eq_true rfl) ⟨by decide, by decide⟩ dL_law_566 (fun r77 M78 => ?_)
  refine q_icmp_eq hC 1189 dL_law_569 (by decide) ?_ ?_
  · exact GQ.sub [0, 1, 2, 3] rfl (b_L_law_1189 hC L xs a1 a2 x3 hX hcs h1 h2 kx hkx kb hkb M78)
  refine q_iconst hC (0 : Int32) (by decide) dL_law_572 ?_
  exact q_zret hX.2.2 hcs hC dL_law_573
def j_L_law_574 (kx : Int32 → Me → Option (Int32 × Me)) (kb : Int32 × Me → Option (Int32 × Me)) (L : Nat) (xs : Nat → Int32) (a1 : Nat) (a2 : Nat) (x3 : Int32) (M : Me) : Option (Int32 × Me) := chk (x3 + (1 : Int32)) L (chk (x3 + (2 : Int32)) L (cal (f_X4_attributes M a1 (xs (x3 + (1 : Int32)).toNatClampNeg) (xs (x3 + (2 : Int32)).toNatClampNeg)) (fun r81 M82 => chk (x3 + (1 : Int32)) L (chk (x3 + (2 : Int32)) L (cal (f_X5_attributes M82 a2 (xs (x3 + (1 : Int32)).toNatClampNeg) (xs (x3 + (2 : Int32)).toNatClampNeg)) (fun r85 M86 => if r81 = r85 then j_L_law_1189 kx kb L xs a1 a2 x3 M86 else chZ (0 : Int32) (some ((0 : Int32), M86))))))))
set_option maxHeartbeats 4000000 in
set_option maxRecDepth 100000 in
theorem b_L_law_574 {p : Program} {l : Launch} {e : Env} {s : State} {m : MethodId} {below : List Frame} {meth : Method} {c : Code} {D : va_G} {T : Nat → ClassId} {b bs cells slots : Nat} (hC : CX p s m #[Value.ref bs] meth c cL_law 4 RL ret D T) (L : Nat) (xs : Nat → Int32) (a1 : Nat) (a2 : Nat) (x3 : Int32) (hX : LX s b bs L xs) (hcs : cells ≤ room_1.cells ∧ slots ≤ room_1.slots) (h1 : kd a1 = 4) (h2 : kd a2 = 5) (kx : Int32 → Me → Option (Int32 × Me)) (hkx : ∀ (x3 : Int32) (M : Me), GQ p l e room_1 s m #[Value.ref bs] below meth c D T b 4 cells slots (lwq below bs s) 1195 [] [] M (kx x3 M)) (kb : Int32 × Me → Option (Int32 × Me)) (hkb : ∀ z : Int32 × Me, GQ p l e room_1 s m #[Value.ref bs] below meth c D T b 4 cells slots (lwq below bs s) 18 [(0, .ref bs), (1, .ref (b + a1)), (2, .ref (b + a2)), (3, .int z.1)] [] z.2 (kb z)) (M : Me) : GQ p l e room_1 s m #[Value.ref bs] below meth c D T b 4 cells slots (lwq below bs s) 574 [(0, .ref bs), (1, .ref (b + a1)), (2, .ref (b + a2)), (3, .int x3)] [] M (j_L_law_574 kx kb L xs a1 a2 x3 M) := by
  unfold j_L_law_574
  refine q_aload_n hC 1 rfl dL_law_574 ?_
  refine q_aload_n hC 0 rfl dL_law_575 ?_
  refine q_iload_n hC 3 rfl dL_law_576 ?_
  refine q_iconst hC (1 : Int32) (by decide) dL_law_577 ?_
  refine q_iadd hC dL_law_578 ?_
  refine q_sld hC hX dL_law_579 (fun g79 => ?_)
  refine q_aload_n hC 0 rfl dL_law_580 ?_
  refine q_iload_n hC 3 rfl dL_law_581 ?_
  refine q_iconst hC (2 : Int32) (by decide) dL_law_582 ?_
  refine q_iadd hC dL_law_583 ?_
  refine q_sld hC hX dL_law_584 (fun g80 => ?_)
  refine q_callVi (As := [.int (xs (x3 + (1 : Int32)).toNatClampNeg), .int (xs (x3 + (2 : Int32)).toNatClampNeg)]) (rest := []) h1 rfl (by decide) hC (c_X4_attributes l M a1 (xs (x3 + (1 : Int32)).toNatClampNeg) (xs (x3 + (2 : Int32)).toNatClampNeg) h1) (hcs := hcs) my_X4_attributes ml_L_43 rfl rfl rfl (Nat.le_of_ble_eq_true rfl) ⟨by decide, by decide⟩ dL_law_585 (fun r81 M82 => ?_)
  refine q_aload_n hC 2 rfl dL_law_588 ?_
  refine q_aload_n hC 0 rfl dL_law_589 ?_
  refine q_iload_n hC 3 rfl dL_law_590 ?_
  refine q_iconst hC (1 : Int32) (by decide) dL_law_591 ?_
  refine q_iadd hC dL_law_592 ?_
  refine q_sld hC hX dL_law_593 (fun g83 => ?_)
  refine q_aload_n hC 0 rfl dL_law_594 ?_
  refine q_iload_n hC 3 rfl dL_law_595 ?_
  refine q_iconst hC (2 : Int32) (by decide) dL_law_596 ?_
  refine q_iadd hC dL_law_597 ?_
  refine q_sld hC hX dL_law_598 (fun g84 => ?_)
  refine q_callVi (As := [.int (xs (x3 + (1 : Int32)).toNatClampNeg), .int (xs (x3 + (2 : Int32)).toNatClampNeg)]) (rest := [.int r81]) h2 rfl (by decide) hC (c_X5_attributes l M82 a2 (xs (x3 + (1 : Int32)).toNatClampNeg) (xs (x3 + (2 : Int32)).toNatClampNeg) h2) (hcs := hcs) my_X5_attributes ml_L_47 rfl rfl rfl (Nat.le_of_ble_eq_true rfl) ⟨by decide, by decide⟩ dL_law_599 (fun r85 M86 => ?_)
  refine q_icmp_eq hC 1189 dL_law_602 (by decide) ?_ ?_
  · exact GQ.sub [0, 1, 2, 3] rfl (b_L_law_1189 hC L xs a1 a2 x3 hX hcs h1 h2 kx hkx kb hkb M86)
  refine q_iconst hC (0 : Int32) (by decide) dL_law_605 ?_
  exact q_zret hX.2.2 hcs hC dL_law_606
def j_L_law_607 (kx : Int32 → Me → Option (Int32 × Me)) (kb : Int32 × Me → Option (Int32 × Me)) (L : Nat) (xs : Nat → Int32) (a1 : Nat) (a2 : Nat) (x3 : Int32) (M : Me) : Option (Int32 × Me) := cal (f_X4_clear M a1) (fun r87 M88 => cal (f_X5_clear M88 a2) (fun r89 M90 => if r87 = r89 then j_L_law_1189 kx kb L xs a1 a2 x3 M90 else chZ (0 : Int32) (some ((0 : Int32), M90))))
set_option maxHeartbeats 4000000 in
set_option maxRecDepth 100000 in
theorem b_L_law_607 {p : Program} {l : Launch} {e : Env} {s : State} {m : MethodId} {below : List Frame} {meth : Method} {c : Code} {D : va_G} {T : Nat → ClassId} {b bs cells slots : Nat} (hC : CX p s m #[Value.ref bs] meth c cL_law 4 RL ret D T) (L : Nat) (xs : Nat → Int32) (a1 : Nat) (a2 : Nat) (x3 : Int32) (hX : LX s b bs L xs) (hcs : cells ≤ room_1.cells ∧ slots ≤ room_1.slots) (h1 : kd a1 = 4) (h2 : kd a2 = 5) (kx : Int32 → Me → Option (Int32 × Me)) (hkx : ∀ (x3 : Int32) (M : Me), GQ p l e room_1 s m #[Value.ref bs] below meth c D T b 4 cells slots (lwq below bs s) 1195 [] [] M (kx x3 M)) (kb : Int32 × Me → Option (Int32 × Me)) (hkb : ∀ z : Int32 × Me, GQ p l e room_1 s m #[Value.ref bs] below meth c D T b 4 cells slots (lwq below bs s) 18 [(0, .ref bs), (1, .ref (b + a1)), (2, .ref (b + a2)), (3, .int z.1)] [] z.2 (kb z)) (M : Me) : GQ p l e room_1 s m #[Value.ref bs] below meth c D T b 4 cells slots (lwq below bs s) 607 [(0, .ref bs), (1, .ref (b + a1)), (2, .ref (b + a2)), (3, .int x3)] [] M (j_L_law_607 kx kb L xs a1 a2 x3 M) := by
  unfold j_L_law_607
  refine q_aload_n hC 1 rfl dL_law_607 ?_
  refine q_callVi (As := []) (rest := []) h1 rfl (by decide) hC (c_X4_clear l M a1 h1) (hcs := hcs) my_X4_clear ml_L_48 rfl rfl rfl (Nat.le_of_ble_eq_true rfl) ⟨by decide, by decide⟩ dL_law_608 (fun r87 M88 => ?_)
  refine q_aload_n hC 2 rfl dL_law_611 ?_
  refine q_callVi (As := []) (rest := [.int r87]) h2 rfl (by decide) hC (c_X5_clear l M88 a2 h2) (hcs := hcs) my_X5_clear ml_L_52 rfl rfl rfl (Nat.le_of_ble_eq_true rfl) ⟨by decide, by decide⟩ dL_law_612 (fun r89 M90 => ?_)
  refine q_icmp_eq hC 1189 dL_law_615 (by decide) ?_ ?_
  · exact GQ.sub [0, 1, 2, 3] rfl (b_L_law_1189 hC L xs a1 a2 x3 hX hcs h1 h2 kx hkx kb hkb M90)
  refine q_iconst hC (0 : Int32) (by decide) dL_law_618 ?_
  exact q_zret hX.2.2 hcs hC dL_law_619
def j_L_law_620 (kx : Int32 → Me → Option (Int32 × Me)) (kb : Int32 × Me → Option (Int32 × Me)) (L : Nat) (xs : Nat → Int32) (a1 : Nat) (a2 : Nat) (x3 : Int32) (M : Me) : Option (Int32 × Me) := chk (x3 + (1 : Int32)) L (chk (x3 + (2 : Int32)) L (chk (x3 + (3 : Int32)) L (cal (f_X4_comment M a1 ((lShl (((xs (x3 + (1 : Int32)).toNatClampNeg)).toInt64) (32 : Int32)) ||| (((xs (x3 + (2 : Int32)).toNatClampNeg)).toInt64 &&& (4294967295 : Int64))) (xs (x3 + (3 : Int32)).toNatClampNeg)) (fun r94 M95 => chk (x3 + (1 : Int32)) L (chk (x3 + (2 : Int32)) L (chk (x3 + (3 : Int32)) L (cal (f_X5_comment M95 a2 ((lShl (((xs (x3 + (1 : Int32)).toNatClampNeg)).toInt64) (32 : Int32)) ||| (((xs (x3 + (2 : Int32)).toNatClampNeg)).toInt64 &&& (4294967295 : Int64))) (xs (x3 + (3 : Int32)).toNatClampNeg)) (fun r99 M100 => if r94 = r99 then j_L_law_1189 kx kb L xs a1 a2 x3 M100 else chZ (0 : Int32) (some ((0 : Int32), M100))))))))))
set_option maxHeartbeats 4000000 in
set_option maxRecDepth 100000 in
theorem b_L_law_620 {p : Program} {l : Launch} {e : Env} {s : State} {m : MethodId} {below : List Frame} {meth : Method} {c : Code} {D : va_G} {T : Nat → ClassId} {b bs cells slots : Nat} (hC : CX p s m #[Value.ref bs] meth c cL_law 4 RL ret D T) (L : Nat) (xs : Nat → Int32) (a1 : Nat) (a2 : Nat) (x3 : Int32) (hX : LX s b bs L xs) (hcs : cells ≤ room_1.cells ∧ slots ≤ room_1.slots) (h1 : kd a1 = 4) (h2 : kd a2 = 5) (kx : Int32 → Me → Option (Int32 × Me)) (hkx : ∀ (x3 : Int32) (M : Me), GQ p l e room_1 s m #[Value.ref bs] below meth c D T b 4 cells slots (lwq below bs s) 1195 [] [] M (kx x3 M)) (kb : Int32 × Me → Option (Int32 × Me)) (hkb : ∀ z : Int32 × Me, GQ p l e room_1 s m #[Value.ref bs] below meth c D T b 4 cells slots (lwq below bs s) 18 [(0, .ref bs), (1, .ref (b + a1)), (2, .ref (b + a2)), (3, .int z.1)] [] z.2 (kb z)) (M : Me) : GQ p l e room_1 s m #[Value.ref bs] below meth c D T b 4 cells slots (lwq below bs s) 620 [(0, .ref bs), (1, .ref (b + a1)), (2, .ref (b + a2)), (3, .int x3)] [] M (j_L_law_620 kx kb L xs a1 a2 x3 M) := by
  unfold j_L_law_620
  refine q_aload_n hC 1 rfl dL_law_620 ?_
  refine q_aload_n hC 0 rfl dL_law_621 ?_
  refine q_iload_n hC 3 rfl dL_law_622 ?_
  refine q_iconst hC (1 : Int32) (by decide) dL_law_623 ?_
  refine q_iadd hC dL_law_624 ?_
  refine q_sld hC hX dL_law_625 (fun g91 => ?_)
  refine q_i2l hC dL_law_626 ?_
  refine q_bipush hC (32 : Int32) (by decide) dL_law_627 ?_
  refine q_lshl hC dL_law_629 ?_
  refine q_aload_n hC 0 rfl dL_law_630 ?_
  refine q_iload_n hC 3 rfl dL_law_631 ?_
  refine q_iconst hC (2 : Int32) (by decide) dL_law_632 ?_
  refine q_iadd hC dL_law_633 ?_
  refine q_sld hC hX dL_law_634 (fun g92 => ?_)
  refine q_i2l hC dL_law_635 ?_
  refine q_ldc2 hC (4294967295 : Int64) kc_L_13 dL_law_636 ?_
  refine q_land hC dL_law_639 ?_
  refine q_lor hC dL_law_640 ?_
  refine q_aload_n hC 0 rfl dL_law_641 ?_
  refine q_iload_n hC 3 rfl dL_law_642 ?_
  refine q_iconst hC (3 : Int32) (by decide) dL_law_643 ?_
  refine q_iadd hC dL_law_644 ?_
  refine q_sld hC hX dL_law_645 (fun g93 => ?_)
  refine q_callVi (As := [.long ((lShl (((xs (x3 + (1 : Int32)).toNatClampNeg)).toInt64) (32 : Int32)) ||| (((xs (x3 + (2 : Int32)).toNatClampNeg)).toInt64 &&& (4294967295 : Int64))), .int (xs (x3 + (3 : Int32)).toNatClampNeg)]) (rest := []) h1 rfl (by decide) hC (c_X4_comment l M a1 ((lShl (((xs (x3 + (1 : Int32)).toNatClampNeg)).toInt64) (32 : Int32)) ||| (((xs (x3 + (2 : Int32)).toNatClampNeg)).toInt64 &&& (4294967295 : Int64))) (xs (x3 + (3 : Int32)).toNatClampNeg) h1) (hcs := hcs) my_X4_comment ml_L_53 rfl rfl rfl (Nat.le_of_ble_eq_true rfl) ⟨by decide, by decide⟩ dL_law_646 (fun r94 M95 => ?_)
  refine q_aload_n hC 2 rfl dL_law_649 ?_
  refine q_aload_n hC 0 rfl dL_law_650 ?_
  refine q_iload_n hC 3 rfl dL_law_651 ?_
  refine q_iconst hC (1 : Int32) (by decide) dL_law_652 ?_
  refine q_iadd hC dL_law_653 ?_
  refine q_sld hC hX dL_law_654 (fun g96 => ?_)
  refine q_i2l hC dL_law_655 ?_
  refine q_bipush hC (32 : Int32) (by decide) dL_law_656 ?_
  refine q_lshl hC dL_law_658 ?_
  refine q_aload_n hC 0 rfl dL_law_659 ?_
  refine q_iload_n hC 3 rfl dL_law_660 ?_
  refine q_iconst hC (2 : Int32) (by decide) dL_law_661 ?_
  refine q_iadd hC dL_law_662 ?_
  refine q_sld hC hX dL_law_663 (fun g97 => ?_)
  refine q_i2l hC dL_law_664 ?_
  refine q_ldc2 hC (4294967295 : Int64) kc_L_13 dL_law_665 ?_
  refine q_land hC dL_law_668 ?_
  refine q_lor hC dL_law_669 ?_
  refine q_aload_n hC 0 rfl dL_law_670 ?_
  refine q_iload_n hC 3 rfl dL_law_671 ?_
  refine q_iconst hC (3 : Int32) (by decide) dL_law_672 ?_
  refine q_iadd hC dL_law_673 ?_
  refine q_sld hC hX dL_law_674 (fun g98 => ?_)
  refine q_callVi (As := [.long ((lShl (((xs (x3 + (1 : Int32)).toNatClampNeg)).toInt64) (32 : Int32)) ||| (((xs (x3 + (2 : Int32)).toNatClampNeg)).toInt64 &&& (4294967295 : Int64))), .int (xs (x3 + (3 : Int32)).toNatClampNeg)]) (rest := [.int r94]) h2 rfl (by decide) hC (c_X5_comment l M95 a2 ((lShl (((xs (x3 + (1 : Int32)).toNatClampNeg)).toInt64) (32 : Int32)) ||| (((xs (x3 + (2 : Int32)).toNatClampNeg)).toInt64 &&& (4294967295 : Int64))) (xs (x3 + (3 : Int32)).toNatClampNeg) h2) (hcs := hcs) my_X5_comment ml_L_57 rfl rfl rfl (Nat.le_of_ble_eq_true rfl) ⟨by decide, by decide⟩ dL_law_675 (fun r99 M100 => ?_)
  refine q_icmp_eq hC 1189 dL_law_678 (by decide) ?_ ?_
  · exact GQ.sub [0, 1, 2, 3] rfl (b_L_law_1189 hC L xs a1 a2 x3 hX hcs h1 h2 kx hkx kb hkb M100)
  refine q_iconst hC (0 : Int32) (by decide) dL_law_681 ?_
  exact q_zret hX.2.2 hcs hC dL_law_682
def j_L_law_683 (kx : Int32 → Me → Option (Int32 × Me)) (kb : Int32 × Me → Option (Int32 × Me)) (L : Nat) (xs : Nat → Int32) (a1 : Nat) (a2 : Nat) (x3 : Int32) (M : Me) : Option (Int32 × Me) := cal (f_X4_write M a1) (fun r101 M102 => cal (f_X5_write M102 a2) (fun r103 M104 => if r101 = r103 then j_L_law_1189 kx kb L xs a1 a2 x3 M104 else chZ (0 : Int32) (some ((0 : Int32), M104))))
set_option maxHeartbeats 4000000 in
set_option maxRecDepth 100000 in
theorem b_L_law_683 {p : Program} {l : Launch} {e : Env} {s : State} {m : MethodId} {below : List Frame} {meth : Method} {c : Code} {D : va_G} {T : Nat → ClassId} {b bs cells slots : Nat} (hC : CX p s m #[Value.ref bs] meth c cL_law 4 RL ret D T) (L : Nat) (xs : Nat → Int32) (a1 : Nat) (a2 : Nat) (x3 : Int32) (hX : LX s b bs L xs) (hcs : cells ≤ room_1.cells ∧ slots ≤ room_1.slots) (h1 : kd a1 = 4) (h2 : kd a2 = 5) (kx : Int32 → Me → Option (Int32 × Me)) (hkx : ∀ (x3 : Int32) (M : Me), GQ p l e room_1 s m #[Value.ref bs] below meth c D T b 4 cells slots (lwq below bs s) 1195 [] [] M (kx x3 M)) (kb : Int32 × Me → Option (Int32 × Me)) (hkb : ∀ z : Int32 × Me, GQ p l e room_1 s m #[Value.ref bs] below meth c D T b 4 cells slots (lwq below bs s) 18 [(0, .ref bs), (1, .ref (b + a1)), (2, .ref (b + a2)), (3, .int z.1)] [] z.2 (kb z)) (M : Me) : GQ p l e room_1 s m #[Value.ref bs] below meth c D T b 4 cells slots (lwq below bs s) 683 [(0, .ref bs), (1, .ref (b + a1)), (2, .ref (b + a2)), (3, .int x3)] [] M (j_L_law_683 kx kb L xs a1 a2 x3 M) := by
  unfold j_L_law_683
  refine q_aload_n hC 1 rfl dL_law_683 ?_
  refine q_callVi (As := []) (rest := []) h1 rfl (by decide) hC (c_X4_write l M a1 h1) (hcs := hcs) my_X4_write ml_L_58 rfl rfl rfl (Nat.le_of_ble_eq_true rfl) ⟨by decide, by decide⟩ dL_law_684 (fun r101 M102 => ?_)
  refine q_aload_n hC 2 rfl dL_law_687 ?_
  refine q_callVi (As := []) (rest := [.int r101]) h2 rfl (by decide) hC (c_X5_write l M102 a2 h2) (hcs := hcs) my_X5_write ml_L_61 rfl rfl rfl (Nat.le_of_ble_eq_true rfl) ⟨by decide, by decide⟩ dL_law_688 (fun r103 M104 => ?_)
  refine q_icmp_eq hC 1189 dL_law_691 (by decide) ?_ ?_
  · exact GQ.sub [0, 1, 2, 3] rfl (b_L_law_1189 hC L xs a1 a2 x3 hX hcs h1 h2 kx hkx kb hkb M104)
  refine q_iconst hC (0 : Int32) (by decide) dL_law_694 ?_
  exact q_zret hX.2.2 hcs hC dL_law_695
def j_L_law_696 (kx : Int32 → Me → Option (Int32 × Me)) (kb : Int32 × Me → Option (Int32 × Me)) (L : Nat) (xs : Nat → Int32) (a1 : Nat) (a2 : Nat) (x3 : Int32) (M : Me) : Option (Int32 × Me) := chk (x3 + (1 : Int32)) L (cal (f_X4_add M a1 (xs (x3 + (1 : Int32)).toNatClampNeg)) (fun r106 M107 => chk (x3 + (1 : Int32)) L (cal (f_X5_add M107 a2 (xs (x3 + (1 : Int32)).toNatClampNeg)) (fun r109 M110 => if r106 = r109 then j_L_law_1189 kx kb L xs a1 a2 x3 M110 else chZ (0 : Int32) (some ((0 : Int32), M110))))))
set_option maxHeartbeats 4000000 in
set_option maxRecDepth 100000 in
theorem b_L_law_696 {p : Program} {l : Launch} {e : Env} {s : State} {m : MethodId} {below : List Frame} {meth : Method} {c : Code} {D : va_G} {T : Nat → ClassId} {b bs cells slots : Nat} (hC : CX p s m #[Value.ref bs] meth c cL_law 4 RL ret D T) (L : Nat) (xs : Nat → Int32) (a1 : Nat) (a2 : Nat) (x3 : Int32) (hX : LX s b bs L xs) (hcs : cells ≤ room_1.cells ∧ slots ≤ room_1.slots) (h1 : kd a1 = 4) (h2 : kd a2 = 5) (kx : Int32 → Me → Option (Int32 × Me)) (hkx : ∀ (x3 : Int32) (M : Me), GQ p l e room_1 s m #[Value.ref bs] below meth c D T b 4 cells slots (lwq below bs s) 1195 [] [] M (kx x3 M)) (kb : Int32 × Me → Option (Int32 × Me)) (hkb : ∀ z : Int32 × Me, GQ p l e room_1 s m #[Value.ref bs] below meth c D T b 4 cells slots (lwq below bs s) 18 [(0, .ref bs), (1, .ref (b + a1)), (2, .ref (b + a2)), (3, .int z.1)] [] z.2 (kb z)) (M : Me) : GQ p l e room_1 s m #[Value.ref bs] below meth c D T b 4 cells slots (lwq below bs s) 696 [(0, .ref bs), (1, .ref (b + a1)), (2, .ref (b + a2)), (3, .int x3)] [] M (j_L_law_696 kx kb L xs a1 a2 x3 M) := by
  unfold j_L_law_696
  refine q_aload_n hC 1 rfl dL_law_696 ?_
  refine q_aload_n hC 0 rfl dL_law_697 ?_
  refine q_iload_n hC 3 rfl dL_law_698 ?_
  refine q_iconst hC (1 : Int32) (by decide) dL_law_699 ?_
  refine q_iadd hC dL_law_700 ?_
  refine q_sld hC hX dL_law_701 (fun g105 => ?_)
  refine q_callVi (As := [.int (xs (x3 + (1 : Int32)).toNatClampNeg)]) (rest := []) h1 rfl (by decide) hC (c_X4_add l M a1 (xs (x3 + (1 : Int32)).toNatClampNeg) h1) (hcs := hcs) my_X4_add ml_L_62 rfl rfl rfl (Nat.le_of_ble_eq_true rfl) ⟨by decide, by decide⟩ dL_law_702 (fun r106 M107 => ?_)
  refine q_aload_n hC 2 rfl dL_law_705 ?_
  refine q_aload_n hC 0 rfl dL_law_706 ?_
  refine q_iload_n hC 3 rfl dL_law_707 ?_
  refine q_iconst hC (1 : Int32) (by decide) dL_law_708 ?_
  refine q_iadd hC dL_law_709 ?_
  refine q_sld hC hX dL_law_710 (fun g108 => ?_)
  refine q_callVi (As := [.int (xs (x3 + (1 : Int32)).toNatClampNeg)]) (rest := [.int r106]) h2 rfl (by decide) hC (c_X5_add l M107 a2 (xs (x3 + (1 : Int32)).toNatClampNeg) h2) (hcs := hcs) my_X5_add ml_L_66 rfl rfl rfl (Nat.le_of_ble_eq_true rfl) ⟨by decide, by decide⟩ dL_law_711 (fun r109 M110 => ?_)
  refine q_icmp_eq hC 1189 dL_law_714 (by decide) ?_ ?_
  · exact GQ.sub [0, 1, 2, 3] rfl (b_L_law_1189 hC L xs a1 a2 x3 hX hcs h1 h2 kx hkx kb hkb M110)
  refine q_iconst hC (0 : Int32) (by decide) dL_law_717 ?_
  exact q_zret hX.2.2 hcs hC dL_law_718
def j_L_law_719 (kx : Int32 → Me → Option (Int32 × Me)) (kb : Int32 × Me → Option (Int32 × Me)) (L : Nat) (xs : Nat → Int32) (a1 : Nat) (a2 : Nat) (x3 : Int32) (M : Me) : Option (Int32 × Me) := cal (f_X4_read M a1) (fun r111 M112 => cal (f_X5_read M112 a2) (fun r113 M114 => if r111 = r113 then j_L_law_1189 kx kb L xs a1 a2 x3 M114 else chZ (0 : Int32) (some ((0 : Int32), M114))))
set_option maxHeartbeats 4000000 in
set_option maxRecDepth 100000 in
theorem b_L_law_719 {p : Program} {l : Launch} {e : Env} {s : State} {m : MethodId} {below : List Frame} {meth : Method} {c : Code} {D : va_G} {T : Nat → ClassId} {b bs cells slots : Nat} (hC : CX p s m #[Value.ref bs] meth c cL_law 4 RL ret D T) (L : Nat) (xs : Nat → Int32) (a1 : Nat) (a2 : Nat) (x3 : Int32) (hX : LX s b bs L xs) (hcs : cells ≤ room_1.cells ∧ slots ≤ room_1.slots) (h1 : kd a1 = 4) (h2 : kd a2 = 5) (kx : Int32 → Me → Option (Int32 × Me)) (hkx : ∀ (x3 : Int32) (M : Me), GQ p l e room_1 s m #[Value.ref bs] below meth c D T b 4 cells slots (lwq below bs s) 1195 [] [] M (kx x3 M)) (kb : Int32 × Me → Option (Int32 × Me)) (hkb : ∀ z : Int32 × Me, GQ p l e room_1 s m #[Value.ref bs] below meth c D T b 4 cells slots (lwq below bs s) 18 [(0, .ref bs), (1, .ref (b + a1)), (2, .ref (b + a2)), (3, .int z.1)] [] z.2 (kb z)) (M : Me) : GQ p l e room_1 s m #[Value.ref bs] below meth c D T b 4 cells slots (lwq below bs s) 719 [(0, .ref bs), (1, .ref (b + a1)), (2, .ref (b + a2)), (3, .int x3)] [] M (j_L_law_719 kx kb L xs a1 a2 x3 M) := by
  unfold j_L_law_719
  refine q_aload_n hC 1 rfl dL_law_719 ?_
  refine q_callVi (As := []) (rest := []) h1 rfl (by decide) hC (c_X4_read l M a1 h1) (hcs := hcs) my_X4_read ml_L_67 rfl rfl rfl (Nat.le_of_ble_eq_true rfl) ⟨by decide, by decide⟩ dL_law_720 (fun r111 M112 => ?_)
  refine q_aload_n hC 2 rfl dL_law_723 ?_
  refine q_callVi (As := []) (rest := [.int r111]) h2 rfl (by decide) hC (c_X5_read l M112 a2 h2) (hcs := hcs) my_X5_read ml_L_70 rfl rfl rfl (Nat.le_of_ble_eq_true rfl) ⟨by decide, by decide⟩ dL_law_724 (fun r113 M114 => ?_)
  refine q_icmp_eq hC 1189 dL_law_727 (by decide) ?_ ?_
  · exact GQ.sub [0, 1, 2, 3] rfl (b_L_law_1189 hC L xs a1 a2 x3 hX hcs h1 h2 kx hkx kb hkb M114)
  refine q_iconst hC (0 : Int32) (by decide) dL_law_730 ?_
  exact q_zret hX.2.2 hcs hC dL_law_731
def j_L_law_732 (kx : Int32 → Me → Option (Int32 × Me)) (kb : Int32 × Me → Option (Int32 × Me)) (L : Nat) (xs : Nat → Int32) (a1 : Nat) (a2 : Nat) (x3 : Int32) (M : Me) : Option (Int32 × Me) := cal (f_X4_place M a1) (fun r115 M116 => cal (f_X5_place M116 a2) (fun r117 M118 => if r115 = r117 then j_L_law_1189 kx kb L xs a1 a2 x3 M118 else chZ (0 : Int32) (some ((0 : Int32), M118))))
set_option maxHeartbeats 4000000 in
set_option maxRecDepth 100000 in
theorem b_L_law_732 {p : Program} {l : Launch} {e : Env} {s : State} {m : MethodId} {below : List Frame} {meth : Method} {c : Code} {D : va_G} {T : Nat → ClassId} {b bs cells slots : Nat} (hC : CX p s m #[Value.ref bs] meth c cL_law 4 RL ret D T) (L : Nat) (xs : Nat → Int32) (a1 : Nat) (a2 : Nat) (x3 : Int32) (hX : LX s b bs L xs) (hcs : cells ≤ room_1.cells ∧ slots ≤ room_1.slots) (h1 : kd a1 = 4) (h2 : kd a2 = 5) (kx : Int32 → Me → Option (Int32 × Me)) (hkx : ∀ (x3 : Int32) (M : Me), GQ p l e room_1 s m #[Value.ref bs] below meth c D T b 4 cells slots (lwq below bs s) 1195 [] [] M (kx x3 M)) (kb : Int32 × Me → Option (Int32 × Me)) (hkb : ∀ z : Int32 × Me, GQ p l e room_1 s m #[Value.ref bs] below meth c D T b 4 cells slots (lwq below bs s) 18 [(0, .ref bs), (1, .ref (b + a1)), (2, .ref (b + a2)), (3, .int z.1)] [] z.2 (kb z)) (M : Me) : GQ p l e room_1 s m #[Value.ref bs] below meth c D T b 4 cells slots (lwq below bs s) 732 [(0, .ref bs), (1, .ref (b + a1)), (2, .ref (b + a2)), (3, .int x3)] [] M (j_L_law_732 kx kb L xs a1 a2 x3 M) := by
  unfold j_L_law_732
  refine q_aload_n hC 1 rfl dL_law_732 ?_
  refine q_callVi (As := []) (rest := []) h1 rfl (by decide) hC (c_X4_place l M a1 h1) (hcs := hcs) my_X4_place ml_L_71 rfl rfl rfl (Nat.le_of_ble_eq_true rfl) ⟨by decide, by decide⟩ dL_law_733 (fun r115 M116 => ?_)
  refine q_aload_n hC 2 rfl dL_law_736 ?_
  refine q_callVi (As := []) (rest := [.int r115]) h2 rfl (by decide) hC (c_X5_place l M116 a2 h2) (hcs := hcs) my_X5_place ml_L_74 rfl rfl rfl (Nat.le_of_ble_eq_true rfl) ⟨by decide, by decide⟩ dL_law_737 (fun r117 M118 => ?_)
  refine q_icmp_eq hC 1189 dL_law_740 (by decide) ?_ ?_
  · exact GQ.sub [0, 1, 2, 3] rfl (b_L_law_1189 hC L xs a1 a2 x3 hX hcs h1 h2 kx hkx kb hkb M118)
  refine q_iconst hC (0 : Int32) (by decide) dL_law_743 ?_
  exact q_zret hX.2.2 hcs hC dL_law_744
def j_L_law_745 (kx : Int32 → Me → Option (Int32 × Me)) (kb : Int32 × Me → Option (Int32 × Me)) (L : Nat) (xs : Nat → Int32) (a1 : Nat) (a2 : Nat) (x3 : Int32) (M : Me) : Option (Int32 × Me) := chk (x3 + (1 : Int32)) L (chk (x3 + (2 : Int32)) L (chk (x3 + (3 : Int32)) L (cal (f_X4_feed M a1 ((lShl (((xs (x3 + (1 : Int32)).toNatClampNeg)).toInt64) (32 : Int32)) ||| (((xs (x3 + (2 : Int32)).toNatClampNeg)).toInt64 &&& (4294967295 : Int64))) (xs (x3 + (3 : Int32)).toNatClampNeg)) (fun r122 M123 => chk (x3 + (1 : Int32)) L (chk (x3 + (2 : Int32)) L (chk (x3 + (3 : Int32)) L (cal (f_X5_feed M123 a2 ((lShl (((xs (x3 + (1 : Int32)).toNatClampNeg)).toInt64) (32 : Int32)) ||| (((xs (x3 + (2 : Int32)).toNatClampNeg)).toInt64 &&& (4294967295 : Int64))) (xs (x3 + (3 : Int32)).toNatClampNeg)) (fun r127 M128 => if r122 = r127 then j_L_law_1189 kx kb L xs a1 a2 x3 M128 else chZ (0 : Int32) (some ((0 : Int32), M128))))))))))
set_option maxHeartbeats 4000000 in
set_option maxRecDepth 100000 in
theorem b_L_law_745 {p : Program} {l : Launch} {e : Env} {s : State} {m : MethodId} {below : List Frame} {meth : Method} {c : Code} {D : va_G} {T : Nat → ClassId} {b bs cells slots : Nat} (hC : CX p s m #[Value.ref bs] meth c cL_law 4 RL ret D T) (L : Nat) (xs : Nat → Int32) (a1 : Nat) (a2 : Nat) (x3 : Int32) (hX : LX s b bs L xs) (hcs : cells ≤ room_1.cells ∧ slots ≤ room_1.slots) (h1 : kd a1 = 4) (h2 : kd a2 = 5) (kx : Int32 → Me → Option (Int32 × Me)) (hkx : ∀ (x3 : Int32) (M : Me), GQ p l e room_1 s m #[Value.ref bs] below meth c D T b 4 cells slots (lwq below bs s) 1195 [] [] M (kx x3 M)) (kb : Int32 × Me → Option (Int32 × Me)) (hkb : ∀ z : Int32 × Me, GQ p l e room_1 s m #[Value.ref bs] below meth c D T b 4 cells slots (lwq below bs s) 18 [(0, .ref bs), (1, .ref (b + a1)), (2, .ref (b + a2)), (3, .int z.1)] [] z.2 (kb z)) (M : Me) : GQ p l e room_1 s m #[Value.ref bs] below meth c D T b 4 cells slots (lwq below bs s) 745 [(0, .ref bs), (1, .ref (b + a1)), (2, .ref (b + a2)), (3, .int x3)] [] M (j_L_law_745 kx kb L xs a1 a2 x3 M) := by
  unfold j_L_law_745
  refine q_aload_n hC 1 rfl dL_law_745 ?_
  refine q_aload_n hC 0 rfl dL_law_746 ?_
  refine q_iload_n hC 3 rfl dL_law_747 ?_
  refine q_iconst hC (1 : Int32) (by decide) dL_law_748 ?_
  refine q_iadd hC dL_law_749 ?_
  refine q_sld hC hX dL_law_750 (fun g119 => ?_)
  refine q_i2l hC dL_law_751 ?_
  refine q_bipush hC (32 : Int32) (by decide) dL_law_752 ?_
  refine q_lshl hC dL_law_754 ?_
  refine q_aload_n hC 0 rfl dL_law_755 ?_
  refine q_iload_n hC 3 rfl dL_law_756 ?_
  refine q_iconst hC (2 : Int32) (by decide) dL_law_757 ?_
  refine q_iadd hC dL_law_758 ?_
  refine q_sld hC hX dL_law_759 (fun g120 => ?_)
  refine q_i2l hC dL_law_760 ?_
  refine q_ldc2 hC (4294967295 : Int64) kc_L_13 dL_law_761 ?_
  refine q_land hC dL_law_764 ?_
  refine q_lor hC dL_law_765 ?_
  refine q_aload_n hC 0 rfl dL_law_766 ?_
  refine q_iload_n hC 3 rfl dL_law_767 ?_
  refine q_iconst hC (3 : Int32) (by decide) dL_law_768 ?_
  refine q_iadd hC dL_law_769 ?_
  refine q_sld hC hX dL_law_770 (fun g121 => ?_)
  refine q_callVi (As := [.long ((lShl (((xs (x3 + (1 : Int32)).toNatClampNeg)).toInt64) (32 : Int32)) ||| (((xs (x3 + (2 : Int32)).toNatClampNeg)).toInt64 &&& (4294967295 : Int64))), .int (xs (x3 + (3 : Int32)).toNatClampNeg)]) (rest := []) h1 rfl (by decide) hC (c_X4_feed l M a1 ((lShl (((xs (x3 + (1 : Int32)).toNatClampNeg)).toInt64) (32 : Int32)) ||| (((xs (x3 + (2 : Int32)).toNatClampNeg)).toInt64 &&& (4294967295 : Int64))) (xs (x3 + (3 : Int32)).toNatClampNeg) h1) (hcs := hcs) my_X4_feed ml_L_75 rfl rfl rfl (Nat.le_of_ble_eq_true rfl) ⟨by decide, by decide⟩ dL_law_771 (fun r122 M123 => ?_)
  refine q_aload_n hC 2 rfl dL_law_774 ?_
  refine q_aload_n hC 0 rfl dL_law_775 ?_
  refine q_iload_n hC 3 rfl dL_law_776 ?_
  refine q_iconst hC (1 : Int32) (by decide) dL_law_777 ?_
  refine q_iadd hC dL_law_778 ?_
  refine q_sld hC hX dL_law_779 (fun g124 => ?_)
  refine q_i2l hC dL_law_780 ?_
  refine q_bipush hC (32 : Int32) (by decide) dL_law_781 ?_
  refine q_lshl hC dL_law_783 ?_
  refine q_aload_n hC 0 rfl dL_law_784 ?_
  refine q_iload_n hC 3 rfl dL_law_785 ?_
  refine q_iconst hC (2 : Int32) (by decide) dL_law_786 ?_
  refine q_iadd hC dL_law_787 ?_
  refine q_sld hC hX dL_law_788 (fun g125 => ?_)
  refine q_i2l hC dL_law_789 ?_
  refine q_ldc2 hC (4294967295 : Int64) kc_L_13 dL_law_790 ?_
  refine q_land hC dL_law_793 ?_
  refine q_lor hC dL_law_794 ?_
  refine q_aload_n hC 0 rfl dL_law_795 ?_
  refine q_iload_n hC 3 rfl dL_law_796 ?_
  refine q_iconst hC (3 : Int32) (by decide) dL_law_797 ?_
  refine q_iadd hC dL_law_798 ?_
  refine q_sld hC hX dL_law_799 (fun g126 => ?_)
  refine q_callVi (As := [.long ((lShl (((xs (x3 + (1 : Int32)).toNatClampNeg)).toInt64) (32 : Int32)) ||| (((xs (x3 + (2 : Int32)).toNatClampNeg)).toInt64 &&& (4294967295 : Int64))), .int (xs (x3 + (3 : Int32)).toNatClampNeg)]) (rest := [.int r122]) h2 rfl (by decide) hC (c_X5_feed l M123 a2 ((lShl (((xs (x3 + (1 : Int32)).toNatClampNeg)).toInt64) (32 : Int32)) ||| (((xs (x3 + (2 : Int32)).toNatClampNeg)).toInt64 &&& (4294967295 : Int64))) (xs (x3 + (3 : Int32)).toNatClampNeg) h2) (hcs := hcs) my_X5_feed ml_L_78 rfl rfl rfl (Nat.le_of_ble_eq_true rfl) ⟨by decide, by decide⟩ dL_law_800 (fun r127 M128 => ?_)
  refine q_icmp_eq hC 1189 dL_law_803 (by decide) ?_ ?_
  · exact GQ.sub [0, 1, 2, 3] rfl (b_L_law_1189 hC L xs a1 a2 x3 hX hcs h1 h2 kx hkx kb hkb M128)
  refine q_iconst hC (0 : Int32) (by decide) dL_law_806 ?_
  exact q_zret hX.2.2 hcs hC dL_law_807
def j_L_law_808 (kx : Int32 → Me → Option (Int32 × Me)) (kb : Int32 × Me → Option (Int32 × Me)) (L : Nat) (xs : Nat → Int32) (a1 : Nat) (a2 : Nat) (x3 : Int32) (M : Me) : Option (Int32 × Me) := chk (x3 + (1 : Int32)) L (cal (f_X4_cut M a1 (xs (x3 + (1 : Int32)).toNatClampNeg)) (fun r130 M131 => chk (x3 + (1 : Int32)) L (cal (f_X5_cut M131 a2 (xs (x3 + (1 : Int32)).toNatClampNeg)) (fun r133 M134 => if r130 = r133 then j_L_law_1189 kx kb L xs a1 a2 x3 M134 else chZ (0 : Int32) (some ((0 : Int32), M134))))))
set_option maxHeartbeats 4000000 in
set_option maxRecDepth 100000 in
theorem b_L_law_808 {p : Program} {l : Launch} {e : Env} {s : State} {m : MethodId} {below : List Frame} {meth : Method} {c : Code} {D : va_G} {T : Nat → ClassId} {b bs cells slots : Nat} (hC : CX p s m #[Value.ref bs] meth c cL_law 4 RL ret D T) (L : Nat) (xs : Nat → Int32) (a1 : Nat) (a2 : Nat) (x3 : Int32) (hX : LX s b bs L xs) (hcs : cells ≤ room_1.cells ∧ slots ≤ room_1.slots) (h1 : kd a1 = 4) (h2 : kd a2 = 5) (kx : Int32 → Me → Option (Int32 × Me)) (hkx : ∀ (x3 : Int32) (M : Me), GQ p l e room_1 s m #[Value.ref bs] below meth c D T b 4 cells slots (lwq below bs s) 1195 [] [] M (kx x3 M)) (kb : Int32 × Me → Option (Int32 × Me)) (hkb : ∀ z : Int32 × Me, GQ p l e room_1 s m #[Value.ref bs] below meth c D T b 4 cells slots (lwq below bs s) 18 [(0, .ref bs), (1, .ref (b + a1)), (2, .ref (b + a2)), (3, .int z.1)] [] z.2 (kb z)) (M : Me) : GQ p l e room_1 s m #[Value.ref bs] below meth c D T b 4 cells slots (lwq below bs s) 808 [(0, .ref bs), (1, .ref (b + a1)), (2, .ref (b + a2)), (3, .int x3)] [] M (j_L_law_808 kx kb L xs a1 a2 x3 M) := by
  unfold j_L_law_808
  refine q_aload_n hC 1 rfl dL_law_808 ?_
  refine q_aload_n hC 0 rfl dL_law_809 ?_
  refine q_iload_n hC 3 rfl dL_law_810 ?_
  refine q_iconst hC (1 : Int32) (by decide) dL_law_811 ?_
  refine q_iadd hC dL_law_812 ?_
  refine q_sld hC hX dL_law_813 (fun g129 => ?_)
  refine q_callVi (As := [.int (xs (x3 + (1 : Int32)).toNatClampNeg)]) (rest := []) h1 rfl (by decide) hC (c_X4_cut l M a1 (xs (x3 + (1 : Int32)).toNatClampNeg) h1) (hcs := hcs) my_X4_cut ml_L_79 rfl rfl rfl (Nat.le_of_ble_eq_true rfl) ⟨by decide, by decide⟩ dL_law_814 (fun r130 M131 => ?_)
  refine q_aload_n hC 2 rfl dL_law_817 ?_
  refine q_aload_n hC 0 rfl dL_law_818 ?_
  refine q_iload_n hC 3 rfl dL_law_819 ?_
  refine q_iconst hC (1 : Int32) (by decide) dL_law_820 ?_
  refine q_iadd hC dL_law_821 ?_
  refine q_sld hC hX dL_law_822 (fun g132 => ?_)
  refine q_callVi (As := [.int (xs (x3 + (1 : Int32)).toNatClampNeg)]) (rest := [.int r130]) h2 rfl (by decide) hC (c_X5_cut l M131 a2 (xs (x3 + (1 : Int32)).toNatClampNeg) h2) (hcs := hcs) my_X5_cut ml_L_82 rfl rfl rfl (Nat.le_of_ble_eq_true rfl) ⟨by decide, by decide⟩ dL_law_823 (fun r133 M134 => ?_)
  refine q_icmp_eq hC 1189 dL_law_826 (by decide) ?_ ?_
  · exact GQ.sub [0, 1, 2, 3] rfl (b_L_law_1189 hC L xs a1 a2 x3 hX hcs h1 h2 kx hkx kb hkb M134)
  refine q_iconst hC (0 : Int32) (by decide) dL_law_829 ?_
  exact q_zret hX.2.2 hcs hC dL_law_830
def j_L_law_831 (kx : Int32 → Me → Option (Int32 × Me)) (kb : Int32 × Me → Option (Int32 × Me)) (L : Nat) (xs : Nat → Int32) (a1 : Nat) (a2 : Nat) (x3 : Int32) (M : Me) : Option (Int32 × Me) := chk (x3 + (1 : Int32)) L (chk (x3 + (2 : Int32)) L (cal (f_X4_poke M a1 (xs (x3 + (1 : Int32)).toNatClampNeg) (xs (x3 + (2 : Int32)).toNatClampNeg)) (fun r137 M138 => chk (x3 + (1 : Int32)) L (chk (x3 + (2 : Int32)) L (cal (f_X5_poke M138 a2 (xs (x3 + (1 : Int32)).toNatClampNeg) (xs (x3 + (2 : Int32)).toNatClampNeg)) (fun r141 M142 => if r137 = r141 then j_L_law_1189 kx kb L xs a1 a2 x3 M142 else chZ (0 : Int32) (some ((0 : Int32), M142))))))))
set_option maxHeartbeats 4000000 in
set_option maxRecDepth 100000 in
theorem b_L_law_831 {p : Program} {l : Launch} {e : Env} {s : State} {m : MethodId} {below : List Frame} {meth : Method} {c : Code} {D : va_G} {T : Nat → ClassId} {b bs cells slots : Nat} (hC : CX p s m #[Value.ref bs] meth c cL_law 4 RL ret D T) (L : Nat) (xs : Nat → Int32) (a1 : Nat) (a2 : Nat) (x3 : Int32) (hX : LX s b bs L xs) (hcs : cells ≤ room_1.cells ∧ slots ≤ room_1.slots) (h1 : kd a1 = 4) (h2 : kd a2 = 5) (kx : Int32 → Me → Option (Int32 × Me)) (hkx : ∀ (x3 : Int32) (M : Me), GQ p l e room_1 s m #[Value.ref bs] below meth c D T b 4 cells slots (lwq below bs s) 1195 [] [] M (kx x3 M)) (kb : Int32 × Me → Option (Int32 × Me)) (hkb : ∀ z : Int32 × Me, GQ p l e room_1 s m #[Value.ref bs] below meth c D T b 4 cells slots (lwq below bs s) 18 [(0, .ref bs), (1, .ref (b + a1)), (2, .ref (b + a2)), (3, .int z.1)] [] z.2 (kb z)) (M : Me) : GQ p l e room_1 s m #[Value.ref bs] below meth c D T b 4 cells slots (lwq below bs s) 831 [(0, .ref bs), (1, .ref (b + a1)), (2, .ref (b + a2)), (3, .int x3)] [] M (j_L_law_831 kx kb L xs a1 a2 x3 M) := by
  unfold j_L_law_831
  refine q_aload_n hC 1 rfl dL_law_831 ?_
  refine q_aload_n hC 0 rfl dL_law_832 ?_
  refine q_iload_n hC 3 rfl dL_law_833 ?_
  refine q_iconst hC (1 : Int32) (by decide) dL_law_834 ?_
  refine q_iadd hC dL_law_835 ?_
  refine q_sld hC hX dL_law_836 (fun g135 => ?_)
  refine q_aload_n hC 0 rfl dL_law_837 ?_
  refine q_iload_n hC 3 rfl dL_law_838 ?_
  refine q_iconst hC (2 : Int32) (by decide) dL_law_839 ?_
  refine q_iadd hC dL_law_840 ?_
  refine q_sld hC hX dL_law_841 (fun g136 => ?_)
  refine q_callVi (As := [.int (xs (x3 + (1 : Int32)).toNatClampNeg), .int (xs (x3 + (2 : Int32)).toNatClampNeg)]) (rest := []) h1 rfl (by decide) hC (c_X4_poke l M a1 (xs (x3 + (1 : Int32)).toNatClampNeg) (xs (x3 + (2 : Int32)).toNatClampNeg) h1) (hcs := hcs) my_X4_poke ml_L_83 rfl rfl rfl (Nat.le_of_ble_eq_true rfl) ⟨by decide, by decide⟩ dL_law_842 (fun r137 M138 => ?_)
  refine q_aload_n hC 2 rfl dL_law_845 ?_
  refine q_aload_n hC 0 rfl dL_law_846 ?_
  refine q_iload_n hC 3 rfl dL_law_847 ?_
  refine q_iconst hC (1 : Int32) (by decide) dL_law_848 ?_
  refine q_iadd hC dL_law_849 ?_
  refine q_sld hC hX dL_law_850 (fun g139 => ?_)
  refine q_aload_n hC 0 rfl dL_law_851 ?_
  refine q_iload_n hC 3 rfl dL_law_852 ?_
  refine q_iconst hC (2 : Int32) (by decide) dL_law_853 ?_
  refine q_iadd hC dL_law_854 ?_
  refine q_sld hC hX dL_law_855 (fun g140 => ?_)
  refine q_callVi (As := [.int (xs (x3 + (1 : Int32)).toNatClampNeg), .int (xs (x3 + (2 : Int32)).toNatClampNeg)]) (rest := [.int r137]) h2 rfl (by decide) hC (c_X5_poke l M138 a2 (xs (x3 + (1 : Int32)).toNatClampNeg) (xs (x3 + (2 : Int32)).toNatClampNeg) h2) (hcs := hcs) my_X5_poke ml_L_86 rfl rfl rfl (Nat.le_of_ble_eq_true rfl) ⟨by decide, by decide⟩ dL_law_856 (fun r141 M142 => ?_)
  refine q_icmp_eq hC 1189 dL_law_859 (by decide) ?_ ?_
  · exact GQ.sub [0, 1, 2, 3] rfl (b_L_law_1189 hC L xs a1 a2 x3 hX hcs h1 h2 kx hkx kb hkb M142)
  refine q_iconst hC (0 : Int32) (by decide) dL_law_862 ?_
  exact q_zret hX.2.2 hcs hC dL_law_863
def j_L_law_864 (kx : Int32 → Me → Option (Int32 × Me)) (kb : Int32 × Me → Option (Int32 × Me)) (L : Nat) (xs : Nat → Int32) (a1 : Nat) (a2 : Nat) (x3 : Int32) (M : Me) : Option (Int32 × Me) := chk (x3 + (1 : Int32)) L (cal (f_X4_at M a1 (xs (x3 + (1 : Int32)).toNatClampNeg)) (fun r144 M145 => chk (x3 + (1 : Int32)) L (cal (f_X5_at M145 a2 (xs (x3 + (1 : Int32)).toNatClampNeg)) (fun r147 M148 => if r144 = r147 then j_L_law_1189 kx kb L xs a1 a2 x3 M148 else chZ (0 : Int32) (some ((0 : Int32), M148))))))
set_option maxHeartbeats 4000000 in
set_option maxRecDepth 100000 in
theorem b_L_law_864 {p : Program} {l : Launch} {e : Env} {s : State} {m : MethodId} {below : List Frame} {meth : Method} {c : Code} {D : va_G} {T : Nat → ClassId} {b bs cells slots : Nat} (hC : CX p s m #[Value.ref bs] meth c cL_law 4 RL ret D T) (L : Nat) (xs : Nat → Int32) (a1 : Nat) (a2 : Nat) (x3 : Int32) (hX : LX s b bs L xs) (hcs : cells ≤ room_1.cells ∧ slots ≤ room_1.slots) (h1 : kd a1 = 4) (h2 : kd a2 = 5) (kx : Int32 → Me → Option (Int32 × Me)) (hkx : ∀ (x3 : Int32) (M : Me), GQ p l e room_1 s m #[Value.ref bs] below meth c D T b 4 cells slots (lwq below bs s) 1195 [] [] M (kx x3 M)) (kb : Int32 × Me → Option (Int32 × Me)) (hkb : ∀ z : Int32 × Me, GQ p l e room_1 s m #[Value.ref bs] below meth c D T b 4 cells slots (lwq below bs s) 18 [(0, .ref bs), (1, .ref (b + a1)), (2, .ref (b + a2)), (3, .int z.1)] [] z.2 (kb z)) (M : Me) : GQ p l e room_1 s m #[Value.ref bs] below meth c D T b 4 cells slots (lwq below bs s) 864 [(0, .ref bs), (1, .ref (b + a1)), (2, .ref (b + a2)), (3, .int x3)] [] M (j_L_law_864 kx kb L xs a1 a2 x3 M) := by
  unfold j_L_law_864
  refine q_aload_n hC 1 rfl dL_law_864 ?_
  refine q_aload_n hC 0 rfl dL_law_865 ?_
  refine q_iload_n hC 3 rfl dL_law_866 ?_
  refine q_iconst hC (1 : Int32) (by decide) dL_law_867 ?_
  refine q_iadd hC dL_law_868 ?_
  refine q_sld hC hX dL_law_869 (fun g143 => ?_)
  refine q_callVi (As := [.int (xs (x3 + (1 : Int32)).toNatClampNeg)]) (rest := []) h1 rfl (by decide) hC (c_X4_at l M a1 (xs (x3 + (1 : Int32)).toNatClampNeg) h1) (hcs := hcs) my_X4_at ml_L_87 rfl rfl rfl (Nat.le_of_ble_eq_true rfl) ⟨by decide, by decide⟩ dL_law_870 (fun r144 M145 => ?_)
  refine q_aload_n hC 2 rfl dL_law_873 ?_
  refine q_aload_n hC 0 rfl dL_law_874 ?_
  refine q_iload_n hC 3 rfl dL_law_875 ?_
  refine q_iconst hC (1 : Int32) (by decide) dL_law_876 ?_
  refine q_iadd hC dL_law_877 ?_
  refine q_sld hC hX dL_law_878 (fun g146 => ?_)
  refine q_callVi (As := [.int (xs (x3 + (1 : Int32)).toNatClampNeg)]) (rest := [.int r144]) h2 rfl (by decide) hC (c_X5_at l M145 a2 (xs (x3 + (1 : Int32)).toNatClampNeg) h2) (hcs := hcs) my_X5_at ml_L_90 rfl rfl rfl (Nat.le_of_ble_eq_true rfl) ⟨by decide, by decide⟩ dL_law_879 (fun r147 M148 => ?_)
  refine q_icmp_eq hC 1189 dL_law_882 (by decide) ?_ ?_
  · exact GQ.sub [0, 1, 2, 3] rfl (b_L_law_1189 hC L xs a1 a2 x3 hX hcs h1 h2 kx hkx kb hkb M148)
  refine q_iconst hC (0 : Int32) (by decide) dL_law_885 ?_
  exact q_zret hX.2.2 hcs hC dL_law_886
def j_L_law_887 (kx : Int32 → Me → Option (Int32 × Me)) (kb : Int32 × Me → Option (Int32 × Me)) (L : Nat) (xs : Nat → Int32) (a1 : Nat) (a2 : Nat) (x3 : Int32) (M : Me) : Option (Int32 × Me) := chk (x3 + (1 : Int32)) L (cal (f_X4_half M a1 (xs (x3 + (1 : Int32)).toNatClampNeg)) (fun r150 M151 => chk (x3 + (1 : Int32)) L (cal (f_X5_half M151 a2 (xs (x3 + (1 : Int32)).toNatClampNeg)) (fun r153 M154 => if r150 = r153 then j_L_law_1189 kx kb L xs a1 a2 x3 M154 else chZ (0 : Int32) (some ((0 : Int32), M154))))))
set_option maxHeartbeats 4000000 in
set_option maxRecDepth 100000 in
theorem b_L_law_887 {p : Program} {l : Launch} {e : Env} {s : State} {m : MethodId} {below : List Frame} {meth : Method} {c : Code} {D : va_G} {T : Nat → ClassId} {b bs cells slots : Nat} (hC : CX p s m #[Value.ref bs] meth c cL_law 4 RL ret D T) (L : Nat) (xs : Nat → Int32) (a1 : Nat) (a2 : Nat) (x3 : Int32) (hX : LX s b bs L xs) (hcs : cells ≤ room_1.cells ∧ slots ≤ room_1.slots) (h1 : kd a1 = 4) (h2 : kd a2 = 5) (kx : Int32 → Me → Option (Int32 × Me)) (hkx : ∀ (x3 : Int32) (M : Me), GQ p l e room_1 s m #[Value.ref bs] below meth c D T b 4 cells slots (lwq below bs s) 1195 [] [] M (kx x3 M)) (kb : Int32 × Me → Option (Int32 × Me)) (hkb : ∀ z : Int32 × Me, GQ p l e room_1 s m #[Value.ref bs] below meth c D T b 4 cells slots (lwq below bs s) 18 [(0, .ref bs), (1, .ref (b + a1)), (2, .ref (b + a2)), (3, .int z.1)] [] z.2 (kb z)) (M : Me) : GQ p l e room_1 s m #[Value.ref bs] below meth c D T b 4 cells slots (lwq below bs s) 887 [(0, .ref bs), (1, .ref (b + a1)), (2, .ref (b + a2)), (3, .int x3)] [] M (j_L_law_887 kx kb L xs a1 a2 x3 M) := by
  unfold j_L_law_887
  refine q_aload_n hC 1 rfl dL_law_887 ?_
  refine q_aload_n hC 0 rfl dL_law_888 ?_
  refine q_iload_n hC 3 rfl dL_law_889 ?_
  refine q_iconst hC (1 : Int32) (by decide) dL_law_890 ?_
  refine q_iadd hC dL_law_891 ?_
  refine q_sld hC hX dL_law_892 (fun g149 => ?_)
  refine q_callVi (As := [.int (xs (x3 + (1 : Int32)).toNatClampNeg)]) (rest := []) h1 rfl (by decide) hC (c_X4_half l M a1 (xs (x3 + (1 : Int32)).toNatClampNeg) h1) (hcs := hcs) my_X4_half ml_L_91 rfl rfl rfl (Nat.le_of_ble_eq_true rfl) ⟨by decide, by decide⟩ dL_law_893 (fun r150 M151 => ?_)
  refine q_aload_n hC 2 rfl dL_law_896 ?_
  refine q_aload_n hC 0 rfl dL_law_897 ?_
  refine q_iload_n hC 3 rfl dL_law_898 ?_
  refine q_iconst hC (1 : Int32) (by decide) dL_law_899 ?_
  refine q_iadd hC dL_law_900 ?_
  refine q_sld hC hX dL_law_901 (fun g152 => ?_)
  refine q_callVi (As := [.int (xs (x3 + (1 : Int32)).toNatClampNeg)]) (rest := [.int r150]) h2 rfl (by decide) hC (c_X5_half l M151 a2 (xs (x3 + (1 : Int32)).toNatClampNeg) h2) (hcs := hcs) my_X5_half ml_L_94 rfl rfl rfl (Nat.le_of_ble_eq_true rfl) ⟨by decide, by decide⟩ dL_law_902 (fun r153 M154 => ?_)
  refine q_icmp_eq hC 1189 dL_law_905 (by decide) ?_ ?_
  · exact GQ.sub [0, 1, 2, 3] rfl (b_L_law_1189 hC L xs a1 a2 x3 hX hcs h1 h2 kx hkx kb hkb M154)
  refine q_iconst hC (0 : Int32) (by decide) dL_law_908 ?_
  exact q_zret hX.2.2 hcs hC dL_law_909
def j_L_law_910 (kx : Int32 → Me → Option (Int32 × Me)) (kb : Int32 × Me → Option (Int32 × Me)) (L : Nat) (xs : Nat → Int32) (a1 : Nat) (a2 : Nat) (x3 : Int32) (M : Me) : Option (Int32 × Me) := chk (x3 + (1 : Int32)) L (cal (f_X4_word M a1 (xs (x3 + (1 : Int32)).toNatClampNeg)) (fun r156 M157 => chk (x3 + (1 : Int32)) L (cal (f_X5_word M157 a2 (xs (x3 + (1 : Int32)).toNatClampNeg)) (fun r159 M160 => if (lg_cmp r156 r159) = (0 : Int32) then j_L_law_1189 kx kb L xs a1 a2 x3 M160 else chZ (0 : Int32) (some ((0 : Int32), M160))))))
set_option maxHeartbeats 4000000 in
set_option maxRecDepth 100000 in
theorem b_L_law_910 {p : Program} {l : Launch} {e : Env} {s : State} {m : MethodId} {below : List Frame} {meth : Method} {c : Code} {D : va_G} {T : Nat → ClassId} {b bs cells slots : Nat} (hC : CX p s m #[Value.ref bs] meth c cL_law 4 RL ret D T) (L : Nat) (xs : Nat → Int32) (a1 : Nat) (a2 : Nat) (x3 : Int32) (hX : LX s b bs L xs) (hcs : cells ≤ room_1.cells ∧ slots ≤ room_1.slots) (h1 : kd a1 = 4) (h2 : kd a2 = 5) (kx : Int32 → Me → Option (Int32 × Me)) (hkx : ∀ (x3 : Int32) (M : Me), GQ p l e room_1 s m #[Value.ref bs] below meth c D T b 4 cells slots (lwq below bs s) 1195 [] [] M (kx x3 M)) (kb : Int32 × Me → Option (Int32 × Me)) (hkb : ∀ z : Int32 × Me, GQ p l e room_1 s m #[Value.ref bs] below meth c D T b 4 cells slots (lwq below bs s) 18 [(0, .ref bs), (1, .ref (b + a1)), (2, .ref (b + a2)), (3, .int z.1)] [] z.2 (kb z)) (M : Me) : GQ p l e room_1 s m #[Value.ref bs] below meth c D T b 4 cells slots (lwq below bs s) 910 [(0, .ref bs), (1, .ref (b + a1)), (2, .ref (b + a2)), (3, .int x3)] [] M (j_L_law_910 kx kb L xs a1 a2 x3 M) := by
  unfold j_L_law_910
  refine q_aload_n hC 1 rfl dL_law_910 ?_
  refine q_aload_n hC 0 rfl dL_law_911 ?_
  refine q_iload_n hC 3 rfl dL_law_912 ?_
  refine q_iconst hC (1 : Int32) (by decide) dL_law_913 ?_
  refine q_iadd hC dL_law_914 ?_
  refine q_sld hC hX dL_law_915 (fun g155 => ?_)
  refine q_callVl (As := [.int (xs (x3 + (1 : Int32)).toNatClampNeg)]) (rest := []) h1 rfl (by decide) hC (c_X4_word l M a1 (xs (x3 + (1 : Int32)).toNatClampNeg) h1) (hcs := hcs) my_X4_word ml_L_95 rfl rfl rfl (Nat.le_of_ble_eq_true rfl) ⟨by decide, by decide⟩ dL_law_916 (fun r156 M157 => ?_)
  refine q_aload_n hC 2 rfl dL_law_919 ?_
  refine q_aload_n hC 0 rfl dL_law_920 ?_
  refine q_iload_n hC 3 rfl dL_law_921 ?_
  refine q_iconst hC (1 : Int32) (by decide) dL_law_922 ?_
  refine q_iadd hC dL_law_923 ?_
  refine q_sld hC hX dL_law_924 (fun g158 => ?_)
  refine q_callVl (As := [.int (xs (x3 + (1 : Int32)).toNatClampNeg)]) (rest := [.long r156]) h2 rfl (by decide) hC (c_X5_word l M157 a2 (xs (x3 + (1 : Int32)).toNatClampNeg) h2) (hcs := hcs) my_X5_word ml_L_99 rfl rfl rfl (Nat.le_of_ble_eq_true rfl) ⟨by decide, by decide⟩ dL_law_925 (fun r159 M160 => ?_)
  refine q_lcmp hC dL_law_928 ?_
  refine q_if_eq hC 1189 dL_law_929 (by decide) ?_ ?_
  · exact GQ.sub [0, 1, 2, 3] rfl (b_L_law_1189 hC L xs a1 a2 x3 hX hcs h1 h2 kx hkx kb hkb M160)
  refine q_iconst hC (0 : Int32) (by decide) dL_law_932 ?_
  exact q_zret hX.2.2 hcs hC dL_law_933
def j_L_law_934 (kx : Int32 → Me → Option (Int32 × Me)) (kb : Int32 × Me → Option (Int32 × Me)) (L : Nat) (xs : Nat → Int32) (a1 : Nat) (a2 : Nat) (x3 : Int32) (M : Me) : Option (Int32 × Me) := chk (x3 + (1 : Int32)) L (chk (x3 + (2 : Int32)) L (cal (f_X4_about M a1 (xs (x3 + (1 : Int32)).toNatClampNeg) (xs (x3 + (2 : Int32)).toNatClampNeg)) (fun r163 M164 => chk (x3 + (1 : Int32)) L (chk (x3 + (2 : Int32)) L (cal (f_X5_about M164 a2 (xs (x3 + (1 : Int32)).toNatClampNeg) (xs (x3 + (2 : Int32)).toNatClampNeg)) (fun r167 M168 => if r163 = r167 then j_L_law_1189 kx kb L xs a1 a2 x3 M168 else chZ (0 : Int32) (some ((0 : Int32), M168))))))))
set_option maxHeartbeats 4000000 in
set_option maxRecDepth 100000 in
theorem b_L_law_934 {p : Program} {l : Launch} {e : Env} {s : State} {m : MethodId} {below : List Frame} {meth : Method} {c : Code} {D : va_G} {T : Nat → ClassId} {b bs cells slots : Nat} (hC : CX p s m #[Value.ref bs] meth c cL_law 4 RL ret D T) (L : Nat) (xs : Nat → Int32) (a1 : Nat) (a2 : Nat) (x3 : Int32) (hX : LX s b bs L xs) (hcs : cells ≤ room_1.cells ∧ slots ≤ room_1.slots) (h1 : kd a1 = 4) (h2 : kd a2 = 5) (kx : Int32 → Me → Option (Int32 × Me)) (hkx : ∀ (x3 : Int32) (M : Me), GQ p l e room_1 s m #[Value.ref bs] below meth c D T b 4 cells slots (lwq below bs s) 1195 [] [] M (kx x3 M)) (kb : Int32 × Me → Option (Int32 × Me)) (hkb : ∀ z : Int32 × Me, GQ p l e room_1 s m #[Value.ref bs] below meth c D T b 4 cells slots (lwq below bs s) 18 [(0, .ref bs), (1, .ref (b + a1)), (2, .ref (b + a2)), (3, .int z.1)] [] z.2 (kb z)) (M : Me) : GQ p l e room_1 s m #[Value.ref bs] below meth c D T b 4 cells slots (lwq below bs s) 934 [(0, .ref bs), (1, .ref (b + a1)), (2, .ref (b + a2)), (3, .int x3)] [] M (j_L_law_934 kx kb L xs a1 a2 x3 M) := by
  unfold j_L_law_934
  refine q_aload_n hC 1 rfl dL_law_934 ?_
  refine q_aload_n hC 0 rfl dL_law_935 ?_
  refine q_iload_n hC 3 rfl dL_law_936 ?_
  refine q_iconst hC (1 : Int32) (by decide) dL_law_937 ?_
  refine q_iadd hC dL_law_938 ?_
  refine q_sld hC hX dL_law_939 (fun g161 => ?_)
  refine q_aload_n hC 0 rfl dL_law_940 ?_
  refine q_iload_n hC 3 rfl dL_law_941 ?_
  refine q_iconst hC (2 : Int32) (by decide) dL_law_942 ?_
  refine q_iadd hC dL_law_943 ?_
  refine q_sld hC hX dL_law_944 (fun g162 => ?_)
  refine q_callVi (As := [.int (xs (x3 + (1 : Int32)).toNatClampNeg), .int (xs (x3 + (2 : Int32)).toNatClampNeg)]) (rest := []) h1 rfl (by decide) hC (c_X4_about l M a1 (xs (x3 + (1 : Int32)).toNatClampNeg) (xs (x3 + (2 : Int32)).toNatClampNeg) h1) (hcs := hcs) my_X4_about ml_L_100 rfl rfl rfl (Nat.le_of_ble_eq_true rfl) ⟨by decide, by decide⟩ dL_law_945 (fun r163 M164 => ?_)
  refine q_aload_n hC 2 rfl dL_law_948 ?_
  refine q_aload_n hC 0 rfl dL_law_949 ?_
  refine q_iload_n hC 3 rfl dL_law_950 ?_
  refine q_iconst hC (1 : Int32) (by decide) dL_law_951 ?_
  refine q_iadd hC dL_law_952 ?_
  refine q_sld hC hX dL_law_953 (fun g165 => ?_)
  refine q_aload_n hC 0 rfl dL_law_954 ?_
  refine q_iload_n hC 3 rfl dL_law_955 ?_
  refine q_iconst hC (2 : Int32) (by decide) dL_law_956 ?_
  refine q_iadd hC dL_law_957 ?_
  refine q_sld hC hX dL_law_958 (fun g166 => ?_)
  refine q_callVi (As := [.int (xs (x3 + (1 : Int32)).toNatClampNeg), .int (xs (x3 + (2 : Int32)).toNatClampNeg)]) (rest := [.int r163]) h2 rfl (by decide) hC (c_X5_about l M164 a2 (xs (x3 + (1 : Int32)).toNatClampNeg) (xs (x3 + (2 : Int32)).toNatClampNeg) h2) (hcs := hcs) my_X5_about ml_L_103 rfl rfl rfl (Nat.le_of_ble_eq_true rfl) ⟨by decide, by decide⟩ dL_law_959 (fun r167 M168 => ?_)
  refine q_icmp_eq hC 1189 dL_law_962 (by decide) ?_ ?_
  · exact GQ.sub [0, 1, 2, 3] rfl (b_L_law_1189 hC L xs a1 a2 x3 hX hcs h1 h2 kx hkx kb hkb M168)
  refine q_iconst hC (0 : Int32) (by decide) dL_law_965 ?_
  exact q_zret hX.2.2 hcs hC dL_law_966
def j_L_law_967 (kx : Int32 → Me → Option (Int32 × Me)) (kb : Int32 × Me → Option (Int32 × Me)) (L : Nat) (xs : Nat → Int32) (a1 : Nat) (a2 : Nat) (x3 : Int32) (M : Me) : Option (Int32 × Me) := chk (x3 + (1 : Int32)) L (chk (x3 + (2 : Int32)) L (cal (f_X4_letter M a1 (xs (x3 + (1 : Int32)).toNatClampNeg) (xs (x3 + (2 : Int32)).toNatClampNeg)) (fun r171 M172 => chk (x3 + (1 : Int32)) L (chk (x3 + (2 : Int32)) L (cal (f_X5_letter M172 a2 (xs (x3 + (1 : Int32)).toNatClampNeg) (xs (x3 + (2 : Int32)).toNatClampNeg)) (fun r175 M176 => if r171 = r175 then j_L_law_1189 kx kb L xs a1 a2 x3 M176 else chZ (0 : Int32) (some ((0 : Int32), M176))))))))
set_option maxHeartbeats 4000000 in
set_option maxRecDepth 100000 in
theorem b_L_law_967 {p : Program} {l : Launch} {e : Env} {s : State} {m : MethodId} {below : List Frame} {meth : Method} {c : Code} {D : va_G} {T : Nat → ClassId} {b bs cells slots : Nat} (hC : CX p s m #[Value.ref bs] meth c cL_law 4 RL ret D T) (L : Nat) (xs : Nat → Int32) (a1 : Nat) (a2 : Nat) (x3 : Int32) (hX : LX s b bs L xs) (hcs : cells ≤ room_1.cells ∧ slots ≤ room_1.slots) (h1 : kd a1 = 4) (h2 : kd a2 = 5) (kx : Int32 → Me → Option (Int32 × Me)) (hkx : ∀ (x3 : Int32) (M : Me), GQ p l e room_1 s m #[Value.ref bs] below meth c D T b 4 cells slots (lwq below bs s) 1195 [] [] M (kx x3 M)) (kb : Int32 × Me → Option (Int32 × Me)) (hkb : ∀ z : Int32 × Me, GQ p l e room_1 s m #[Value.ref bs] below meth c D T b 4 cells slots (lwq below bs s) 18 [(0, .ref bs), (1, .ref (b + a1)), (2, .ref (b + a2)), (3, .int z.1)] [] z.2 (kb z)) (M : Me) : GQ p l e room_1 s m #[Value.ref bs] below meth c D T b 4 cells slots (lwq below bs s) 967 [(0, .ref bs), (1, .ref (b + a1)), (2, .ref (b + a2)), (3, .int x3)] [] M (j_L_law_967 kx kb L xs a1 a2 x3 M) := by
  unfold j_L_law_967
  refine q_aload_n hC 1 rfl dL_law_967 ?_
  refine q_aload_n hC 0 rfl dL_law_968 ?_
  refine q_iload_n hC 3 rfl dL_law_969 ?_
  refine q_iconst hC (1 : Int32) (by decide) dL_law_970 ?_
  refine q_iadd hC dL_law_971 ?_
  refine q_sld hC hX dL_law_972 (fun g169 => ?_)
  refine q_aload_n hC 0 rfl dL_law_973 ?_
  refine q_iload_n hC 3 rfl dL_law_974 ?_
  refine q_iconst hC (2 : Int32) (by decide) dL_law_975 ?_
  refine q_iadd hC dL_law_976 ?_
  refine q_sld hC hX dL_law_977 (fun g170 => ?_)
  refine q_callVi (As := [.int (xs (x3 + (1 : Int32)).toNatClampNeg), .int (xs (x3 + (2 : Int32)).toNatClampNeg)]) (rest := []) h1 rfl (by decide) hC (c_X4_letter l M a1 (xs (x3 + (1 : Int32)).toNatClampNeg) (xs (x3 + (2 : Int32)).toNatClampNeg) h1) (hcs := hcs) my_X4_letter ml_L_104 rfl rfl rfl (Nat.le_of_ble_eq_true rfl) ⟨by decide, by decide⟩ dL_law_978 (fun r171 M172 => ?_)
  refine q_aload_n hC 2 rfl dL_law_981 ?_
  refine q_aload_n hC 0 rfl dL_law_982 ?_
  refine q_iload_n hC 3 rfl dL_law_983 ?_
  refine q_iconst hC (1 : Int32) (by decide) dL_law_984 ?_
  refine q_iadd hC dL_law_985 ?_
  refine q_sld hC hX dL_law_986 (fun g173 => ?_)
  refine q_aload_n hC 0 rfl dL_law_987 ?_
  refine q_iload_n hC 3 rfl dL_law_988 ?_
  refine q_iconst hC (2 : Int32) (by decide) dL_law_989 ?_
  refine q_iadd hC dL_law_990 ?_
  refine q_sld hC hX dL_law_991 (fun g174 => ?_)
  refine q_callVi (As := [.int (xs (x3 + (1 : Int32)).toNatClampNeg), .int (xs (x3 + (2 : Int32)).toNatClampNeg)]) (rest := [.int r171]) h2 rfl (by decide) hC (c_X5_letter l M172 a2 (xs (x3 + (1 : Int32)).toNatClampNeg) (xs (x3 + (2 : Int32)).toNatClampNeg) h2) (hcs := hcs) my_X5_letter ml_L_107 rfl rfl rfl (Nat.le_of_ble_eq_true rfl) ⟨by decide, by decide⟩ dL_law_992 (fun r175 M176 => ?_)
  refine q_icmp_eq hC 1189 dL_law_995 (by decide) ?_ ?_
  · exact GQ.sub [0, 1, 2, 3] rfl (b_L_law_1189 hC L xs a1 a2 x3 hX hcs h1 h2 kx hkx kb hkb M176)
  refine q_iconst hC (0 : Int32) (by decide) dL_law_998 ?_
  exact q_zret hX.2.2 hcs hC dL_law_999
def j_L_law_1000 (kx : Int32 → Me → Option (Int32 × Me)) (kb : Int32 × Me → Option (Int32 × Me)) (L : Nat) (xs : Nat → Int32) (a1 : Nat) (a2 : Nat) (x3 : Int32) (M : Me) : Option (Int32 × Me) := chk (x3 + (1 : Int32)) L (chk (x3 + (2 : Int32)) L (cal (f_X4_octet M a1 (xs (x3 + (1 : Int32)).toNatClampNeg) (xs (x3 + (2 : Int32)).toNatClampNeg)) (fun r179 M180 => chk (x3 + (1 : Int32)) L (chk (x3 + (2 : Int32)) L (cal (f_X5_octet M180 a2 (xs (x3 + (1 : Int32)).toNatClampNeg) (xs (x3 + (2 : Int32)).toNatClampNeg)) (fun r183 M184 => if r179 = r183 then j_L_law_1189 kx kb L xs a1 a2 x3 M184 else chZ (0 : Int32) (some ((0 : Int32), M184))))))))
set_option maxHeartbeats 4000000 in
set_option maxRecDepth 100000 in
theorem b_L_law_1000 {p : Program} {l : Launch} {e : Env} {s : State} {m : MethodId} {below : List Frame} {meth : Method} {c : Code} {D : va_G} {T : Nat → ClassId} {b bs cells slots : Nat} (hC : CX p s m #[Value.ref bs] meth c cL_law 4 RL ret D T) (L : Nat) (xs : Nat → Int32) (a1 : Nat) (a2 : Nat) (x3 : Int32) (hX : LX s b bs L xs) (hcs : cells ≤ room_1.cells ∧ slots ≤ room_1.slots) (h1 : kd a1 = 4) (h2 : kd a2 = 5) (kx : Int32 → Me → Option (Int32 × Me)) (hkx : ∀ (x3 : Int32) (M : Me), GQ p l e room_1 s m #[Value.ref bs] below meth c D T b 4 cells slots (lwq below bs s) 1195 [] [] M (kx x3 M)) (kb : Int32 × Me → Option (Int32 × Me)) (hkb : ∀ z : Int32 × Me, GQ p l e room_1 s m #[Value.ref bs] below meth c D T b 4 cells slots (lwq below bs s) 18 [(0, .ref bs), (1, .ref (b + a1)), (2, .ref (b + a2)), (3, .int z.1)] [] z.2 (kb z)) (M : Me) : GQ p l e room_1 s m #[Value.ref bs] below meth c D T b 4 cells slots (lwq below bs s) 1000 [(0, .ref bs), (1, .ref (b + a1)), (2, .ref (b + a2)), (3, .int x3)] [] M (j_L_law_1000 kx kb L xs a1 a2 x3 M) := by
  unfold j_L_law_1000
  refine q_aload_n hC 1 rfl dL_law_1000 ?_
  refine q_aload_n hC 0 rfl dL_law_1001 ?_
  refine q_iload_n hC 3 rfl dL_law_1002 ?_
  refine q_iconst hC (1 : Int32) (by decide) dL_law_1003 ?_
  refine q_iadd hC dL_law_1004 ?_
  refine q_sld hC hX dL_law_1005 (fun g177 => ?_)
  refine q_aload_n hC 0 rfl dL_law_1006 ?_
  refine q_iload_n hC 3 rfl dL_law_1007 ?_
  refine q_iconst hC (2 : Int32) (by decide) dL_law_1008 ?_
  refine q_iadd hC dL_law_1009 ?_
  refine q_sld hC hX dL_law_1010 (fun g178 => ?_)
  refine q_callVi (As := [.int (xs (x3 + (1 : Int32)).toNatClampNeg), .int (xs (x3 + (2 : Int32)).toNatClampNeg)]) (rest := []) h1 rfl (by decide) hC (c_X4_octet l M a1 (xs (x3 + (1 : Int32)).toNatClampNeg) (xs (x3 + (2 : Int32)).toNatClampNeg) h1) (hcs := hcs) my_X4_octet ml_L_108 rfl rfl rfl (Nat.le_of_ble_eq_true rfl) ⟨by decide, by decide⟩ dL_law_1011 (fun r179 M180 => ?_)
  refine q_aload_n hC 2 rfl dL_law_1014 ?_
  refine q_aload_n hC 0 rfl dL_law_1015 ?_
  refine q_iload_n hC 3 rfl dL_law_1016 ?_
  refine q_iconst hC (1 : Int32) (by decide) dL_law_1017 ?_
  refine q_iadd hC dL_law_1018 ?_
  refine q_sld hC hX dL_law_1019 (fun g181 => ?_)
  refine q_aload_n hC 0 rfl dL_law_1020 ?_
  refine q_iload_n hC 3 rfl dL_law_1021 ?_
  refine q_iconst hC (2 : Int32) (by decide) dL_law_1022 ?_
  refine q_iadd hC dL_law_1023 ?_
  refine q_sld hC hX dL_law_1024 (fun g182 => ?_)
  refine q_callVi (As := [.int (xs (x3 + (1 : Int32)).toNatClampNeg), .int (xs (x3 + (2 : Int32)).toNatClampNeg)]) (rest := [.int r179]) h2 rfl (by decide) hC (c_X5_octet l M180 a2 (xs (x3 + (1 : Int32)).toNatClampNeg) (xs (x3 + (2 : Int32)).toNatClampNeg) h2) (hcs := hcs) my_X5_octet ml_L_111 rfl rfl rfl (Nat.le_of_ble_eq_true rfl) ⟨by decide, by decide⟩ dL_law_1025 (fun r183 M184 => ?_)
  refine q_icmp_eq hC 1189 dL_law_1028 (by decide) ?_ ?_
  · exact GQ.sub [0, 1, 2, 3] rfl (b_L_law_1189 hC L xs a1 a2 x3 hX hcs h1 h2 kx hkx kb hkb M184)
  refine q_iconst hC (0 : Int32) (by decide) dL_law_1031 ?_
  exact q_zret hX.2.2 hcs hC dL_law_1032
def j_L_law_1033 (kx : Int32 → Me → Option (Int32 × Me)) (kb : Int32 × Me → Option (Int32 × Me)) (L : Nat) (xs : Nat → Int32) (a1 : Nat) (a2 : Nat) (x3 : Int32) (M : Me) : Option (Int32 × Me) := chk (x3 + (1 : Int32)) L (chk (x3 + (2 : Int32)) L (cal (f_X4_size M a1 (xs (x3 + (1 : Int32)).toNatClampNeg) (xs (x3 + (2 : Int32)).toNatClampNeg)) (fun r187 M188 => chk (x3 + (1 : Int32)) L (chk (x3 + (2 : Int32)) L (cal (f_X5_size M188 a2 (xs (x3 + (1 : Int32)).toNatClampNeg) (xs (x3 + (2 : Int32)).toNatClampNeg)) (fun r191 M192 => if (lg_cmp r187 r191) = (0 : Int32) then j_L_law_1189 kx kb L xs a1 a2 x3 M192 else chZ (0 : Int32) (some ((0 : Int32), M192))))))))
set_option maxHeartbeats 4000000 in
set_option maxRecDepth 100000 in
theorem b_L_law_1033 {p : Program} {l : Launch} {e : Env} {s : State} {m : MethodId} {below : List Frame} {meth : Method} {c : Code} {D : va_G} {T : Nat → ClassId} {b bs cells slots : Nat} (hC : CX p s m #[Value.ref bs] meth c cL_law 4 RL ret D T) (L : Nat) (xs : Nat → Int32) (a1 : Nat) (a2 : Nat) (x3 : Int32) (hX : LX s b bs L xs) (hcs : cells ≤ room_1.cells ∧ slots ≤ room_1.slots) (h1 : kd a1 = 4) (h2 : kd a2 = 5) (kx : Int32 → Me → Option (Int32 × Me)) (hkx : ∀ (x3 : Int32) (M : Me), GQ p l e room_1 s m #[Value.ref bs] below meth c D T b 4 cells slots (lwq below bs s) 1195 [] [] M (kx x3 M)) (kb : Int32 × Me → Option (Int32 × Me)) (hkb : ∀ z : Int32 × Me, GQ p l e room_1 s m #[Value.ref bs] below meth c D T b 4 cells slots (lwq below bs s) 18 [(0, .ref bs), (1, .ref (b + a1)), (2, .ref (b + a2)), (3, .int z.1)] [] z.2 (kb z)) (M : Me) : GQ p l e room_1 s m #[Value.ref bs] below meth c D T b 4 cells slots (lwq below bs s) 1033 [(0, .ref bs), (1, .ref (b + a1)), (2, .ref (b + a2)), (3, .int x3)] [] M (j_L_law_1033 kx kb L xs a1 a2 x3 M) := by
  unfold j_L_law_1033
  refine q_aload_n hC 1 rfl dL_law_1033 ?_
  refine q_aload_n hC 0 rfl dL_law_1034 ?_
  refine q_iload_n hC 3 rfl dL_law_1035 ?_
  refine q_iconst hC (1 : Int32) (by decide) dL_law_1036 ?_
  refine q_iadd hC dL_law_1037 ?_
  refine q_sld hC hX dL_law_1038 (fun g185 => ?_)
  refine q_aload_n hC 0 rfl dL_law_1039 ?_
  refine q_iload_n hC 3 rfl dL_law_1040 ?_
  refine q_iconst hC (2 : Int32) (by decide) dL_law_1041 ?_
  refine q_iadd hC dL_law_1042 ?_
  refine q_sld hC hX dL_law_1043 (fun g186 => ?_)
  refine q_callVl (As := [.int (xs (x3 + (1 : Int32)).toNatClampNeg), .int (xs (x3 + (2 : Int32)).toNatClampNeg)]) (rest := []) h1 rfl (by decide) hC (c_X4_size l M a1 (xs (x3 + (1 : Int32)).toNatClampNeg) (xs (x3 + (2 : Int32)).toNatClampNeg) h1) (hcs := hcs) my_X4_size ml_L_112 rfl rfl rfl (Nat.le_of_ble_eq_true rfl) ⟨by decide, by decide⟩ dL_law_1044 (fun r187 M188 => ?_)
  refine q_aload_n hC 2 rfl dL_law_1047 ?_
  refine q_aload_n hC 0 rfl dL_law_1048 ?_
  refine q_iload_n hC 3 rfl dL_law_1049 ?_
  refine q_iconst hC (1 : Int32) (by decide) dL_law_1050 ?_
  refine q_iadd hC dL_law_1051 ?_
  refine q_sld hC hX dL_law_1052 (fun g189 => ?_)
  refine q_aload_n hC 0 rfl dL_law_1053 ?_
  refine q_iload_n hC 3 rfl dL_law_1054 ?_
  refine q_iconst hC (2 : Int32) (by decide) dL_law_1055 ?_
  refine q_iadd hC dL_law_1056 ?_
  refine q_sld hC hX dL_law_1057 (fun g190 => ?_)
  refine q_callVl (As := [.int (xs (x3 + (1 : Int32)).toNatClampNeg), .int (xs (x3 + (2 : Int32)).toNatClampNeg)]) (rest := [.long r187]) h2 rfl (by decide) hC (c_X5_size l M188 a2 (xs (x3 + (1 : Int32)).toNatClampNeg) (xs (x3 + (2 : Int32)).toNatClampNeg) h2) (hcs := hcs) my_X5_size ml_L_116 rfl rfl rfl (Nat.le_of_ble_eq_true rfl) ⟨by decide, by decide⟩ dL_law_1058 (fun r191 M192 => ?_)
  refine q_lcmp hC dL_law_1061 ?_
  refine q_if_eq hC 1189 dL_law_1062 (by decide) ?_ ?_
  · exact GQ.sub [0, 1, 2, 3] rfl (b_L_law_1189 hC L xs a1 a2 x3 hX hcs h1 h2 kx hkx kb hkb M192)
  refine q_iconst hC (0 : Int32) (by decide) dL_law_1065 ?_
  exact q_zret hX.2.2 hcs hC dL_law_1066
def j_L_law_1067 (kx : Int32 → Me → Option (Int32 × Me)) (kb : Int32 × Me → Option (Int32 × Me)) (L : Nat) (xs : Nat → Int32) (a1 : Nat) (a2 : Nat) (x3 : Int32) (M : Me) : Option (Int32 × Me) := chk (x3 + (1 : Int32)) L (chk (x3 + (2 : Int32)) L (chk (x3 + (3 : Int32)) L (chk (x3 + (4 : Int32)) L (cal (f_X4_extra M a1 (xs (x3 + (1 : Int32)).toNatClampNeg) (xs (x3 + (2 : Int32)).toNatClampNeg) (xs (x3 + (3 : Int32)).toNatClampNeg) (xs (x3 + (4 : Int32)).toNatClampNeg)) (fun r197 M198 => chk (x3 + (1 : Int32)) L (chk (x3 + (2 : Int32)) L (chk (x3 + (3 : Int32)) L (chk (x3 + (4 : Int32)) L (cal (f_X5_extra M198 a2 (xs (x3 + (1 : Int32)).toNatClampNeg) (xs (x3 + (2 : Int32)).toNatClampNeg) (xs (x3 + (3 : Int32)).toNatClampNeg) (xs (x3 + (4 : Int32)).toNatClampNeg)) (fun r203 M204 => if r197 = r203 then j_L_law_1189 kx kb L xs a1 a2 x3 M204 else chZ (0 : Int32) (some ((0 : Int32), M204))))))))))))
set_option maxHeartbeats 4000000 in
set_option maxRecDepth 100000 in
theorem b_L_law_1067 {p : Program} {l : Launch} {e : Env} {s : State} {m : MethodId} {below : List Frame} {meth : Method} {c : Code} {D : va_G} {T : Nat → ClassId} {b bs cells slots : Nat} (hC : CX p s m #[Value.ref bs] meth c cL_law 4 RL ret D T) (L : Nat) (xs : Nat → Int32) (a1 : Nat) (a2 : Nat) (x3 : Int32) (hX : LX s b bs L xs) (hcs : cells ≤ room_1.cells ∧ slots ≤ room_1.slots) (h1 : kd a1 = 4) (h2 : kd a2 = 5) (kx : Int32 → Me → Option (Int32 × Me)) (hkx : ∀ (x3 : Int32) (M : Me), GQ p l e room_1 s m #[Value.ref bs] below meth c D T b 4 cells slots (lwq below bs s) 1195 [] [] M (kx x3 M)) (kb : Int32 × Me → Option (Int32 × Me)) (hkb : ∀ z : Int32 × Me, GQ p l e room_1 s m #[Value.ref bs] below meth c D T b 4 cells slots (lwq below bs s) 18 [(0, .ref bs), (1, .ref (b + a1)), (2, .ref (b + a2)), (3, .int z.1)] [] z.2 (kb z)) (M : Me) : GQ p l e room_1 s m #[Value.ref bs] below meth c D T b 4 cells slots (lwq below bs s) 1067 [(0, .ref bs), (1, .ref (b + a1)), (2, .ref (b + a2)), (3, .int x3)] [] M (j_L_law_1067 kx kb L xs a1 a2 x3 M) := by
  unfold j_L_law_1067
  refine q_aload_n hC 1 rfl dL_law_1067 ?_
  refine q_aload_n hC 0 rfl dL_law_1068 ?_
  refine q_iload_n hC 3 rfl dL_law_1069 ?_
  refine q_iconst hC (1 : Int32) (by decide) dL_law_1070 ?_
  refine q_iadd hC dL_law_1071 ?_
  refine q_sld hC hX dL_law_1072 (fun g193 => ?_)
  refine q_aload_n hC 0 rfl dL_law_1073 ?_
  refine q_iload_n hC 3 rfl dL_law_1074 ?_
  refine q_iconst hC (2 : Int32) (by decide) dL_law_1075 ?_
  refine q_iadd hC dL_law_1076 ?_
  refine q_sld hC hX dL_law_1077 (fun g194 => ?_)
  refine q_aload_n hC 0 rfl dL_law_1078 ?_
  refine q_iload_n hC 3 rfl dL_law_1079 ?_
  refine q_iconst hC (3 : Int32) (by decide) dL_law_1080 ?_
  refine q_iadd hC dL_law_1081 ?_
  refine q_sld hC hX dL_law_1082 (fun g195 => ?_)
  refine q_aload_n hC 0 rfl dL_law_1083 ?_
  refine q_iload_n hC 3 rfl dL_law_1084 ?_
  refine q_iconst hC (4 : Int32) (by decide) dL_law_1085 ?_
  refine q_iadd hC dL_law_1086 ?_
  refine q_sld hC hX dL_law_1087 (fun g196 => ?_)
  refine q_callVi (As := [.int (xs (x3 + (1 : Int32)).toNatClampNeg), .int (xs (x3 + (2 : Int32)).toNatClampNeg), .int (xs (x3 + (3 : Int32)).toNatClampNeg), .int (xs (x3 + (4 : Int32)).toNatClampNeg)]) (rest := []) h1 rfl (by decide) hC (c_X4_extra l M a1 (xs (x3 + (1 : Int32)).toNatClampNeg) (xs (x3 + (2 : Int32)).toNatClampNeg) (xs (x3 + (3 : Int32)).toNatClampNeg) (xs (x3 + (4 : Int32)).toNatClampNeg) h1) (hcs := hcs) my_X4_extra ml_L_117 rfl rfl rfl (Nat.le_of_ble_eq_true rfl) ⟨by decide, by decide⟩ dL_law_1088 (fun r197 M198 => ?_)
  refine q_aload_n hC 2 rfl dL_law_1091 ?_
  refine q_aload_n hC 0 rfl dL_law_1092 ?_
  refine q_iload_n hC 3 rfl dL_law_1093 ?_
  refine q_iconst hC (1 : Int32) (by decide) dL_law_1094 ?_
  refine q_iadd hC dL_law_1095 ?_
  refine q_sld hC hX dL_law_1096 (fun g199 => ?_)
  refine q_aload_n hC 0 rfl dL_law_1097 ?_
  refine q_iload_n hC 3 rfl dL_law_1098 ?_
  refine q_iconst hC (2 : Int32) (by decide) dL_law_1099 ?_
  refine q_iadd hC dL_law_1100 ?_
  refine q_sld hC hX dL_law_1101 (fun g200 => ?_)
  refine q_aload_n hC 0 rfl dL_law_1102 ?_
  refine q_iload_n hC 3 rfl dL_law_1103 ?_
  refine q_iconst hC (3 : Int32) (by decide) dL_law_1104 ?_
  refine q_iadd hC dL_law_1105 ?_
  refine q_sld hC hX dL_law_1106 (fun g201 => ?_)
  refine q_aload_n hC 0 rfl dL_law_1107 ?_
  refine q_iload_n hC 3 rfl dL_law_1108 ?_
  refine q_iconst hC (4 : Int32) (by decide) dL_law_1109 ?_
  refine q_iadd hC dL_law_1110 ?_
  refine q_sld hC hX dL_law_1111 (fun g202 => ?_)
  refine q_callVi (As := [.int (xs (x3 + (1 : Int32)).toNatClampNeg), .int (xs (x3 + (2 : Int32)).toNatClampNeg), .int (xs (x3 + (3 : Int32)).toNatClampNeg), .int (xs (x3 + (4 : Int32)).toNatClampNeg)]) (rest := [.int r197]) h2 rfl (by decide) hC (c_X5_extra l M198 a2 (xs (x3 + (1 : Int32)).toNatClampNeg) (xs (x3 + (2 : Int32)).toNatClampNeg) (xs (x3 + (3 : Int32)).toNatClampNeg) (xs (x3 + (4 : Int32)).toNatClampNeg) h2) (hcs := hcs) my_X5_extra ml_L_121 rfl rfl rfl (Nat.le_of_ble_eq_true rfl) ⟨by decide, by decide⟩ dL_law_1112 (fun r203 M204 => ?_)
  refine q_icmp_eq hC 1189 dL_law_1115 (by decide) ?_ ?_
  · exact GQ.sub [0, 1, 2, 3] rfl (b_L_law_1189 hC L xs a1 a2 x3 hX hcs h1 h2 kx hkx kb hkb M204)
  refine q_iconst hC (0 : Int32) (by decide) dL_law_1118 ?_
  exact q_zret hX.2.2 hcs hC dL_law_1119
def j_L_law_1120 (kx : Int32 → Me → Option (Int32 × Me)) (kb : Int32 × Me → Option (Int32 × Me)) (L : Nat) (xs : Nat → Int32) (a1 : Nat) (a2 : Nat) (x3 : Int32) (M : Me) : Option (Int32 × Me) := chk (x3 + (1 : Int32)) L (cal (f_X4_right M a1 (xs (x3 + (1 : Int32)).toNatClampNeg)) (fun r206 M207 => chk (x3 + (1 : Int32)) L (cal (f_X5_right M207 a2 (xs (x3 + (1 : Int32)).toNatClampNeg)) (fun r209 M210 => if r206 = r209 then j_L_law_1189 kx kb L xs a1 a2 x3 M210 else chZ (0 : Int32) (some ((0 : Int32), M210))))))
set_option maxHeartbeats 4000000 in
set_option maxRecDepth 100000 in
theorem b_L_law_1120 {p : Program} {l : Launch} {e : Env} {s : State} {m : MethodId} {below : List Frame} {meth : Method} {c : Code} {D : va_G} {T : Nat → ClassId} {b bs cells slots : Nat} (hC : CX p s m #[Value.ref bs] meth c cL_law 4 RL ret D T) (L : Nat) (xs : Nat → Int32) (a1 : Nat) (a2 : Nat) (x3 : Int32) (hX : LX s b bs L xs) (hcs : cells ≤ room_1.cells ∧ slots ≤ room_1.slots) (h1 : kd a1 = 4) (h2 : kd a2 = 5) (kx : Int32 → Me → Option (Int32 × Me)) (hkx : ∀ (x3 : Int32) (M : Me), GQ p l e room_1 s m #[Value.ref bs] below meth c D T b 4 cells slots (lwq below bs s) 1195 [] [] M (kx x3 M)) (kb : Int32 × Me → Option (Int32 × Me)) (hkb : ∀ z : Int32 × Me, GQ p l e room_1 s m #[Value.ref bs] below meth c D T b 4 cells slots (lwq below bs s) 18 [(0, .ref bs), (1, .ref (b + a1)), (2, .ref (b + a2)), (3, .int z.1)] [] z.2 (kb z)) (M : Me) : GQ p l e room_1 s m #[Value.ref bs] below meth c D T b 4 cells slots (lwq below bs s) 1120 [(0, .ref bs), (1, .ref (b + a1)), (2, .ref (b + a2)), (3, .int x3)] [] M (j_L_law_1120 kx kb L xs a1 a2 x3 M) := by
  unfold j_L_law_1120
  refine q_aload_n hC 1 rfl dL_law_1120 ?_
  refine q_aload_n hC 0 rfl dL_law_1121 ?_
  refine q_iload_n hC 3 rfl dL_law_1122 ?_
  refine q_iconst hC (1 : Int32) (by decide) dL_law_1123 ?_
  refine q_iadd hC dL_law_1124 ?_
  refine q_sld hC hX dL_law_1125 (fun g205 => ?_)
  refine q_callVi (As := [.int (xs (x3 + (1 : Int32)).toNatClampNeg)]) (rest := []) h1 rfl (by decide) hC (c_X4_right l M a1 (xs (x3 + (1 : Int32)).toNatClampNeg) h1) (hcs := hcs) my_X4_right ml_L_122 rfl rfl rfl (Nat.le_of_ble_eq_true rfl) ⟨by decide, by decide⟩ dL_law_1126 (fun r206 M207 => ?_)
  refine q_aload_n hC 2 rfl dL_law_1129 ?_
  refine q_aload_n hC 0 rfl dL_law_1130 ?_
  refine q_iload_n hC 3 rfl dL_law_1131 ?_
  refine q_iconst hC (1 : Int32) (by decide) dL_law_1132 ?_
  refine q_iadd hC dL_law_1133 ?_
  refine q_sld hC hX dL_law_1134 (fun g208 => ?_)
  refine q_callVi (As := [.int (xs (x3 + (1 : Int32)).toNatClampNeg)]) (rest := [.int r206]) h2 rfl (by decide) hC (c_X5_right l M207 a2 (xs (x3 + (1 : Int32)).toNatClampNeg) h2) (hcs := hcs) my_X5_right ml_L_125 rfl rfl rfl (Nat.le_of_ble_eq_true rfl) ⟨by decide, by decide⟩ dL_law_1135 (fun r209 M210 => ?_)
  refine q_icmp_eq hC 1189 dL_law_1138 (by decide) ?_ ?_
  · exact GQ.sub [0, 1, 2, 3] rfl (b_L_law_1189 hC L xs a1 a2 x3 hX hcs h1 h2 kx hkx kb hkb M210)
  refine q_iconst hC (0 : Int32) (by decide) dL_law_1141 ?_
  exact q_zret hX.2.2 hcs hC dL_law_1142
def j_L_law_1143 (kx : Int32 → Me → Option (Int32 × Me)) (kb : Int32 × Me → Option (Int32 × Me)) (L : Nat) (xs : Nat → Int32) (a1 : Nat) (a2 : Nat) (x3 : Int32) (M : Me) : Option (Int32 × Me) := chk (x3 + (1 : Int32)) L (cal (f_X4_same M a1 (xs (x3 + (1 : Int32)).toNatClampNeg)) (fun r212 M213 => chk (x3 + (1 : Int32)) L (cal (f_X5_same M213 a2 (xs (x3 + (1 : Int32)).toNatClampNeg)) (fun r215 M216 => if r212 = r215 then j_L_law_1189 kx kb L xs a1 a2 x3 M216 else chZ (0 : Int32) (some ((0 : Int32), M216))))))
set_option maxHeartbeats 4000000 in
set_option maxRecDepth 100000 in
theorem b_L_law_1143 {p : Program} {l : Launch} {e : Env} {s : State} {m : MethodId} {below : List Frame} {meth : Method} {c : Code} {D : va_G} {T : Nat → ClassId} {b bs cells slots : Nat} (hC : CX p s m #[Value.ref bs] meth c cL_law 4 RL ret D T) (L : Nat) (xs : Nat → Int32) (a1 : Nat) (a2 : Nat) (x3 : Int32) (hX : LX s b bs L xs) (hcs : cells ≤ room_1.cells ∧ slots ≤ room_1.slots) (h1 : kd a1 = 4) (h2 : kd a2 = 5) (kx : Int32 → Me → Option (Int32 × Me)) (hkx : ∀ (x3 : Int32) (M : Me), GQ p l e room_1 s m #[Value.ref bs] below meth c D T b 4 cells slots (lwq below bs s) 1195 [] [] M (kx x3 M)) (kb : Int32 × Me → Option (Int32 × Me)) (hkb : ∀ z : Int32 × Me, GQ p l e room_1 s m #[Value.ref bs] below meth c D T b 4 cells slots (lwq below bs s) 18 [(0, .ref bs), (1, .ref (b + a1)), (2, .ref (b + a2)), (3, .int z.1)] [] z.2 (kb z)) (M : Me) : GQ p l e room_1 s m #[Value.ref bs] below meth c D T b 4 cells slots (lwq below bs s) 1143 [(0, .ref bs), (1, .ref (b + a1)), (2, .ref (b + a2)), (3, .int x3)] [] M (j_L_law_1143 kx kb L xs a1 a2 x3 M) := by
  unfold j_L_law_1143
  refine q_aload_n hC 1 rfl dL_law_1143 ?_
  refine q_aload_n hC 0 rfl dL_law_1144 ?_
  refine q_iload_n hC 3 rfl dL_law_1145 ?_
  refine q_iconst hC (1 : Int32) (by decide) dL_law_1146 ?_
  refine q_iadd hC dL_law_1147 ?_
  refine q_sld hC hX dL_law_1148 (fun g211 => ?_)
  refine q_callVi (As := [.int (xs (x3 + (1 : Int32)).toNatClampNeg)]) (rest := []) h1 rfl (by decide) hC (c_X4_same l M a1 (xs (x3 + (1 : Int32)).toNatClampNeg) h1) (hcs := hcs) my_X4_same ml_L_126 rfl rfl rfl (Nat.le_of_ble_eq_true rfl) ⟨by decide, by decide⟩ dL_law_1149 (fun r212 M213 => ?_)
  refine q_aload_n hC 2 rfl dL_law_1152 ?_
  refine q_aload_n hC 0 rfl dL_law_1153 ?_
  refine q_iload_n hC 3 rfl dL_law_1154 ?_
  refine q_iconst hC (1 : Int32) (by decide) dL_law_1155 ?_
  refine q_iadd hC dL_law_1156 ?_
  refine q_sld hC hX dL_law_1157 (fun g214 => ?_)
  refine q_callVi (As := [.int (xs (x3 + (1 : Int32)).toNatClampNeg)]) (rest := [.int r212]) h2 rfl (by decide) hC (c_X5_same l M213 a2 (xs (x3 + (1 : Int32)).toNatClampNeg) h2) (hcs := hcs) my_X5_same ml_L_129 rfl rfl rfl (Nat.le_of_ble_eq_true rfl) ⟨by decide, by decide⟩ dL_law_1158 (fun r215 M216 => ?_)
  refine q_icmp_eq hC 1189 dL_law_1161 (by decide) ?_ ?_
  · exact GQ.sub [0, 1, 2, 3] rfl (b_L_law_1189 hC L xs a1 a2 x3 hX hcs h1 h2 kx hkx kb hkb M216)
  refine q_iconst hC (0 : Int32) (by decide) dL_law_1164 ?_
  exact q_zret hX.2.2 hcs hC dL_law_1165
def j_L_law_1166 (kx : Int32 → Me → Option (Int32 × Me)) (kb : Int32 × Me → Option (Int32 × Me)) (L : Nat) (xs : Nat → Int32) (a1 : Nat) (a2 : Nat) (x3 : Int32) (M : Me) : Option (Int32 × Me) := chk (x3 + (1 : Int32)) L (cal (f_X4_told M a1 (xs (x3 + (1 : Int32)).toNatClampNeg)) (fun r218 M219 => chk (x3 + (1 : Int32)) L (cal (f_X5_told M219 a2 (xs (x3 + (1 : Int32)).toNatClampNeg)) (fun r221 M222 => if r218 = r221 then j_L_law_1189 kx kb L xs a1 a2 x3 M222 else chZ (0 : Int32) (some ((0 : Int32), M222))))))
set_option maxHeartbeats 4000000 in
set_option maxRecDepth 100000 in
theorem b_L_law_1166 {p : Program} {l : Launch} {e : Env} {s : State} {m : MethodId} {below : List Frame} {meth : Method} {c : Code} {D : va_G} {T : Nat → ClassId} {b bs cells slots : Nat} (hC : CX p s m #[Value.ref bs] meth c cL_law 4 RL ret D T) (L : Nat) (xs : Nat → Int32) (a1 : Nat) (a2 : Nat) (x3 : Int32) (hX : LX s b bs L xs) (hcs : cells ≤ room_1.cells ∧ slots ≤ room_1.slots) (h1 : kd a1 = 4) (h2 : kd a2 = 5) (kx : Int32 → Me → Option (Int32 × Me)) (hkx : ∀ (x3 : Int32) (M : Me), GQ p l e room_1 s m #[Value.ref bs] below meth c D T b 4 cells slots (lwq below bs s) 1195 [] [] M (kx x3 M)) (kb : Int32 × Me → Option (Int32 × Me)) (hkb : ∀ z : Int32 × Me, GQ p l e room_1 s m #[Value.ref bs] below meth c D T b 4 cells slots (lwq below bs s) 18 [(0, .ref bs), (1, .ref (b + a1)), (2, .ref (b + a2)), (3, .int z.1)] [] z.2 (kb z)) (M : Me) : GQ p l e room_1 s m #[Value.ref bs] below meth c D T b 4 cells slots (lwq below bs s) 1166 [(0, .ref bs), (1, .ref (b + a1)), (2, .ref (b + a2)), (3, .int x3)] [] M (j_L_law_1166 kx kb L xs a1 a2 x3 M) := by
  unfold j_L_law_1166
  refine q_aload_n hC 1 rfl dL_law_1166 ?_
  refine q_aload_n hC 0 rfl dL_law_1167 ?_
  refine q_iload_n hC 3 rfl dL_law_1168 ?_
  refine q_iconst hC (1 : Int32) (by decide) dL_law_1169 ?_
  refine q_iadd hC dL_law_1170 ?_
  refine q_sld hC hX dL_law_1171 (fun g217 => ?_)
  refine q_callVi (As := [.int (xs (x3 + (1 : Int32)).toNatClampNeg)]) (rest := []) h1 rfl (by decide) hC (c_X4_told l M a1 (xs (x3 + (1 : Int32)).toNatClampNeg) h1) (hcs := hcs) my_X4_told ml_L_130 rfl rfl rfl (Nat.le_of_ble_eq_true rfl) ⟨by decide, by decide⟩ dL_law_1172 (fun r218 M219 => ?_)
  refine q_aload_n hC 2 rfl dL_law_1175 ?_
  refine q_aload_n hC 0 rfl dL_law_1176 ?_
  refine q_iload_n hC 3 rfl dL_law_1177 ?_
  refine q_iconst hC (1 : Int32) (by decide) dL_law_1178 ?_
  refine q_iadd hC dL_law_1179 ?_
  refine q_sld hC hX dL_law_1180 (fun g220 => ?_)
  refine q_callVi (As := [.int (xs (x3 + (1 : Int32)).toNatClampNeg)]) (rest := [.int r218]) h2 rfl (by decide) hC (c_X5_told l M219 a2 (xs (x3 + (1 : Int32)).toNatClampNeg) h2) (hcs := hcs) my_X5_told ml_L_133 rfl rfl rfl (Nat.le_of_ble_eq_true rfl) ⟨by decide, by decide⟩ dL_law_1181 (fun r221 M222 => ?_)
  refine q_icmp_eq hC 1189 dL_law_1184 (by decide) ?_ ?_
  · exact GQ.sub [0, 1, 2, 3] rfl (b_L_law_1189 hC L xs a1 a2 x3 hX hcs h1 h2 kx hkx kb hkb M222)
  refine q_iconst hC (0 : Int32) (by decide) dL_law_1187 ?_
  exact q_zret hX.2.2 hcs hC dL_law_1188
def g_L_law_18 (kx : Int32 → Me → Option (Int32 × Me)) (kb : Int32 × Me → Option (Int32 × Me)) (L : Nat) (xs : Nat → Int32) (a1 : Nat) (a2 : Nat) (x3 : Int32) (M : Me) : Option (Int32 × Me) := if ((nI L) - (6 : Int32)) < x3 then kx x3 M else chk x3 L (tsw ((xs x3.toNatClampNeg) &&& (31 : Int32)) 27 (fun i => match i with | 0 => j_L_law_156 kx kb L xs a1 a2 x3 M | 1 => j_L_law_239 kx kb L xs a1 a2 x3 M | 2 => j_L_law_312 kx kb L xs a1 a2 x3 M | 3 => j_L_law_385 kx kb L xs a1 a2 x3 M | 4 => j_L_law_428 kx kb L xs a1 a2 x3 M | 5 => j_L_law_511 kx kb L xs a1 a2 x3 M | 6 => j_L_law_574 kx kb L xs a1 a2 x3 M | 7 => j_L_law_607 kx kb L xs a1 a2 x3 M | 8 => j_L_law_620 kx kb L xs a1 a2 x3 M | 9 => j_L_law_683 kx kb L xs a1 a2 x3 M | 10 => j_L_law_696 kx kb L xs a1 a2 x3 M | 11 => j_L_law_719 kx kb L xs a1 a2 x3 M | 12 => j_L_law_732 kx kb L xs a1 a2 x3 M | 13 => j_L_law_745 kx kb L xs a1 a2 x3 M | 14 => j_L_law_808 kx kb L xs a1 a2 x3 M | 15 => j_L_law_831 kx kb L xs a1 a2 x3 M | 16 => j_L_law_864 kx kb L xs a1 a2 x3 M | 17 => j_L_law_887 kx kb L xs a1 a2 x3 M | 18 => j_L_law_910 kx kb L xs a1 a2 x3 M | 19 => j_L_law_934 kx kb L xs a1 a2 x3 M | 20 => j_L_law_967 kx kb L xs a1 a2 x3 M | 21 => j_L_law_1000 kx kb L xs a1 a2 x3 M | 22 => j_L_law_1033 kx kb L xs a1 a2 x3 M | 23 => j_L_law_1067 kx kb L xs a1 a2 x3 M | 24 => j_L_law_1120 kx kb L xs a1 a2 x3 M | 25 => j_L_law_1143 kx kb L xs a1 a2 x3 M | 26 => j_L_law_1166 kx kb L xs a1 a2 x3 M | _ => none) (j_L_law_1189 kx kb L xs a1 a2 x3 M))
set_option maxHeartbeats 4000000 in
set_option maxRecDepth 100000 in
theorem b_L_law_18_g {p : Program} {l : Launch} {e : Env} {s : State} {m : MethodId} {below : List Frame} {meth : Method} {c : Code} {D : va_G} {T : Nat → ClassId} {b bs cells slots : Nat} (hC : CX p s m #[Value.ref bs] meth c cL_law 4 RL ret D T) (L : Nat) (xs : Nat → Int32) (a1 : Nat) (a2 : Nat) (x3 : Int32) (hX : LX s b bs L xs) (hcs : cells ≤ room_1.cells ∧ slots ≤ room_1.slots) (h1 : kd a1 = 4) (h2 : kd a2 = 5) (kx : Int32 → Me → Option (Int32 × Me)) (hkx : ∀ (x3 : Int32) (M : Me), GQ p l e room_1 s m #[Value.ref bs] below meth c D T b 4 cells slots (lwq below bs s) 1195 [] [] M (kx x3 M)) (kb : Int32 × Me → Option (Int32 × Me)) (hkb : ∀ z : Int32 × Me, GQ p l e room_1 s m #[Value.ref bs] below meth c D T b 4 cells slots (lwq below bs s) 18 [(0, .ref bs), (1, .ref (b + a1)), (2, .ref (b + a2)), (3, .int z.1)] [] z.2 (kb z)) (M : Me) : GQ p l e room_1 s m #[Value.ref bs] below meth c D T b 4 cells slots (lwq below bs s) 18 [(0, .ref bs), (1, .ref (b + a1)), (2, .ref (b + a2)), (3, .int x3)] [] M (g_L_law_18 kx kb L xs a1 a2 x3 M) := by
  unfold g_L_law_18
  refine q_iload_n hC 3 rfl dL_law_18 ?_
  refine q_aload_n hC 0 rfl dL_law_19 ?_
  refine q_slen hC hX dL_law_20 ?_
  refine q_bipush hC (6 : Int32) (by decide) dL_law_21 ?_
  refine q_isub hC dL_law_23 ?_
  refine q_icmp_gt hC 1195 dL_law_24 (by decide) ?_ ?_
  · exact GQ.sub [] rfl (hkx x3 M)
  refine q_aload_n hC 0 rfl dL_law_27 ?_
  refine q_iload_n hC 3 rfl dL_law_28 ?_
  refine q_sld hC hX dL_law_29 (fun g1 => ?_)
  refine q_bipush hC (31 : Int32) (by decide) dL_law_30 ?_
  refine q_iand hC dL_law_32 ?_
  refine q_tsw (n := 27) hC (fun i => match i with | 0 => 156 | 1 => 239 | 2 => 312 | 3 => 385 | 4 => 428 | 5 => 511 | 6 => 574 | 7 => 607 | 8 => 620 | 9 => 683 | 10 => 696 | 11 => 719 | 12 => 732 | 13 => 745 | 14 => 808 | 15 => 831 | 16 => 864 | 17 => 887 | 18 => 910 | 19 => 934 | 20 => 967 | 21 => 1000 | 22 => 1033 | 23 => 1067 | 24 => 1120 | 25 => 1143 | 26 => 1166 | _ => 1189) 1189 dL_law_33 (by decide) (by decide) ?_ ?_ ?_
  · intro i hi
    match i, hi with
    | 0, _ => exact ⟨123, rfl, by decide⟩
    | 1, _ => exact ⟨206, rfl, by decide⟩
    | 2, _ => exact ⟨279, rfl, by decide⟩
    | 3, _ => exact ⟨352, rfl, by decide⟩
    | 4, _ => exact ⟨395, rfl, by decide⟩
    | 5, _ => exact ⟨478, rfl, by decide⟩
    | 6, _ => exact ⟨541, rfl, by decide⟩
    | 7, _ => exact ⟨574, rfl, by decide⟩
    | 8, _ => exact ⟨587, rfl, by decide⟩
    | 9, _ => exact ⟨650, rfl, by decide⟩
    | 10, _ => exact ⟨663, rfl, by decide⟩
    | 11, _ => exact ⟨686, rfl, by decide⟩
    | 12, _ => exact ⟨699, rfl, by decide⟩
    | 13, _ => exact ⟨712, rfl, by decide⟩
    | 14, _ => exact ⟨775, rfl, by decide⟩
    | 15, _ => exact ⟨798, rfl, by decide⟩
    | 16, _ => exact ⟨831, rfl, by decide⟩
    | 17, _ => exact ⟨854, rfl, by decide⟩
    | 18, _ => exact ⟨877, rfl, by decide⟩
    | 19, _ => exact ⟨901, rfl, by decide⟩
    | 20, _ => exact ⟨934, rfl, by decide⟩
    | 21, _ => exact ⟨967, rfl, by decide⟩
    | 22, _ => exact ⟨1000, rfl, by decide⟩
    | 23, _ => exact ⟨1034, rfl, by decide⟩
    | 24, _ => exact ⟨1087, rfl, by decide⟩
    | 25, _ => exact ⟨1110, rfl, by decide⟩
    | 26, _ => exact ⟨1133, rfl, by decide⟩
    | i + 27, h => exact absurd h (by omega)
  · intro i hi
    match i, hi with
    | 0, _ => exact GQ.sub [0, 1, 2, 3] rfl (b_L_law_156 hC L xs a1 a2 x3 hX hcs h1 h2 kx hkx kb hkb M)
    | 1, _ => exact GQ.sub [0, 1, 2, 3] rfl (b_L_law_239 hC L xs a1 a2 x3 hX hcs h1 h2 kx hkx kb hkb M)
    | 2, _ => exact GQ.sub [0, 1, 2, 3] rfl (b_L_law_312 hC L xs a1 a2 x3 hX hcs h1 h2 kx hkx kb hkb M)
    | 3, _ => exact GQ.sub [0, 1, 2, 3] rfl (b_L_law_385 hC L xs a1 a2 x3 hX hcs h1 h2 kx hkx kb hkb M)
    | 4, _ => exact GQ.sub [0, 1, 2, 3] rfl (b_L_law_428 hC L xs a1 a2 x3 hX hcs h1 h2 kx hkx kb hkb M)
    | 5, _ => exact GQ.sub [0, 1, 2, 3] rfl (b_L_law_511 hC L xs a1 a2 x3 hX hcs h1 h2 kx hkx kb hkb M)
    | 6, _ => exact GQ.sub [0, 1, 2, 3] rfl (b_L_law_574 hC L xs a1 a2 x3 hX hcs h1 h2 kx hkx kb hkb M)
    | 7, _ => exact GQ.sub [0, 1, 2, 3] rfl (b_L_law_607 hC L xs a1 a2 x3 hX hcs h1 h2 kx hkx kb hkb M)
    | 8, _ => exact GQ.sub [0, 1, 2, 3] rfl (b_L_law_620 hC L xs a1 a2 x3 hX hcs h1 h2 kx hkx kb hkb M)
    | 9, _ => exact GQ.sub [0, 1, 2, 3] rfl (b_L_law_683 hC L xs a1 a2 x3 hX hcs h1 h2 kx hkx kb hkb M)
    | 10, _ => exact GQ.sub [0, 1, 2, 3] rfl (b_L_law_696 hC L xs a1 a2 x3 hX hcs h1 h2 kx hkx kb hkb M)
    | 11, _ => exact GQ.sub [0, 1, 2, 3] rfl (b_L_law_719 hC L xs a1 a2 x3 hX hcs h1 h2 kx hkx kb hkb M)
    | 12, _ => exact GQ.sub [0, 1, 2, 3] rfl (b_L_law_732 hC L xs a1 a2 x3 hX hcs h1 h2 kx hkx kb hkb M)
    | 13, _ => exact GQ.sub [0, 1, 2, 3] rfl (b_L_law_745 hC L xs a1 a2 x3 hX hcs h1 h2 kx hkx kb hkb M)
    | 14, _ => exact GQ.sub [0, 1, 2, 3] rfl (b_L_law_808 hC L xs a1 a2 x3 hX hcs h1 h2 kx hkx kb hkb M)
    | 15, _ => exact GQ.sub [0, 1, 2, 3] rfl (b_L_law_831 hC L xs a1 a2 x3 hX hcs h1 h2 kx hkx kb hkb M)
    | 16, _ => exact GQ.sub [0, 1, 2, 3] rfl (b_L_law_864 hC L xs a1 a2 x3 hX hcs h1 h2 kx hkx kb hkb M)
    | 17, _ => exact GQ.sub [0, 1, 2, 3] rfl (b_L_law_887 hC L xs a1 a2 x3 hX hcs h1 h2 kx hkx kb hkb M)
    | 18, _ => exact GQ.sub [0, 1, 2, 3] rfl (b_L_law_910 hC L xs a1 a2 x3 hX hcs h1 h2 kx hkx kb hkb M)
    | 19, _ => exact GQ.sub [0, 1, 2, 3] rfl (b_L_law_934 hC L xs a1 a2 x3 hX hcs h1 h2 kx hkx kb hkb M)
    | 20, _ => exact GQ.sub [0, 1, 2, 3] rfl (b_L_law_967 hC L xs a1 a2 x3 hX hcs h1 h2 kx hkx kb hkb M)
    | 21, _ => exact GQ.sub [0, 1, 2, 3] rfl (b_L_law_1000 hC L xs a1 a2 x3 hX hcs h1 h2 kx hkx kb hkb M)
    | 22, _ => exact GQ.sub [0, 1, 2, 3] rfl (b_L_law_1033 hC L xs a1 a2 x3 hX hcs h1 h2 kx hkx kb hkb M)
    | 23, _ => exact GQ.sub [0, 1, 2, 3] rfl (b_L_law_1067 hC L xs a1 a2 x3 hX hcs h1 h2 kx hkx kb hkb M)
    | 24, _ => exact GQ.sub [0, 1, 2, 3] rfl (b_L_law_1120 hC L xs a1 a2 x3 hX hcs h1 h2 kx hkx kb hkb M)
    | 25, _ => exact GQ.sub [0, 1, 2, 3] rfl (b_L_law_1143 hC L xs a1 a2 x3 hX hcs h1 h2 kx hkx kb hkb M)
    | 26, _ => exact GQ.sub [0, 1, 2, 3] rfl (b_L_law_1166 hC L xs a1 a2 x3 hX hcs h1 h2 kx hkx kb hkb M)
    | i + 27, h => exact absurd h (by omega)
  exact GQ.sub [0, 1, 2, 3] rfl (b_L_law_1189 hC L xs a1 a2 x3 hX hcs h1 h2 kx hkx kb hkb M)
def l_L_law_18 (kx : Int32 → Me → Option (Int32 × Me)) (L : Nat) (xs : Nat → Int32) (a1 : Nat) (a2 : Nat) (x3 : Int32) (M : Me) : Option (Int32 × Me) := lp (fun kb z => g_L_law_18 kx kb L xs a1 a2 z.1 z.2) FU (x3, M)
set_option maxHeartbeats 4000000 in
set_option maxRecDepth 100000 in
theorem b_L_law_18 {p : Program} {l : Launch} {e : Env} {s : State} {m : MethodId} {below : List Frame} {meth : Method} {c : Code} {D : va_G} {T : Nat → ClassId} {b bs cells slots : Nat} (hC : CX p s m #[Value.ref bs] meth c cL_law 4 RL ret D T) (L : Nat) (xs : Nat → Int32) (a1 : Nat) (a2 : Nat) (x3 : Int32) (hX : LX s b bs L xs) (hcs : cells ≤ room_1.cells ∧ slots ≤ room_1.slots) (h1 : kd a1 = 4) (h2 : kd a2 = 5) (kx : Int32 → Me → Option (Int32 × Me)) (hkx : ∀ (x3 : Int32) (M : Me), GQ p l e room_1 s m #[Value.ref bs] below meth c D T b 4 cells slots (lwq below bs s) 1195 [] [] M (kx x3 M)) (M : Me) : GQ p l e room_1 s m #[Value.ref bs] below meth c D T b 4 cells slots (lwq below bs s) 18 [(0, .ref bs), (1, .ref (b + a1)), (2, .ref (b + a2)), (3, .int x3)] [] M (l_L_law_18 kx L xs a1 a2 x3 M) := by
  exact q_loop (σ := Int32 × Me) (fun z => [(0, .ref bs), (1, .ref (b + a1)), (2, .ref (b + a2)), (3, .int z.1)]) (fun z => z.2) (fun kb hkb z => b_L_law_18_g hC L xs a1 a2 z.1 hX hcs h1 h2 kx hkx kb hkb z.2) FU (x3, M)
