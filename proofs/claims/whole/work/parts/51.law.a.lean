section
variable {p : Program} {l : Launch} {e : Env} {kc ks : Nat} {s : State} {m : MethodId} {args : Array Value} {below : List Frame} {meth : Method} {c : Code} {D : va_G} {cA : Nat → ClassId} {ad : Nat → Nat → Nat} {A : Nat → Prop} {Q : State → Prop} {b L : Nat} {xs : Nat → Int32}
set_option maxHeartbeats 4000000 in
set_option maxRecDepth 100000 in
theorem lc_0 (C : Cx p s m args c cL_law 8 bbL.flatten RL D cA A) (hX : va_X b L xs s s.heap) (hbl : b < s.heap.size) (hbA : ¬ A b) (hE : EX A s s.heap) (hM : EM s) (hst : l.stackTraces = false) {S : Sg} (h : Rel S) {i : Nat} (h1 : vp_in (nI (6 * i) + 1) L) (h2 : vp_in (nI (6 * i) + 2) L) (h3 : vp_in (nI (6 * i) + 3) L) (h4 : vp_in (nI (6 * i) + 4) L) (h5 : vp_in (nI (6 * i) + 5) L) (hk : kc + 12 ≤ 601024) (hs : ks + 180 ≤ 7293034) (kend : ∀ (ad' : Nat → Nat → Nat) (S' : Sg), ad' 0 0 = ad 0 0 → ad' 39 0 = ad 39 0 → ad' 40 0 = ad 40 0 → Rel S' → KC (kc + 12) (ks + 180) p l e room_1 s m args below meth c 8 D cA ad' A Q 1703 [(4, .int (nI (6 * i))), (3, .ref (ad' 39 0)), (2, .ref (ad' 40 0)), (1, .ref (ad' 0 0)), (0, .ref b)] [] S') : KC kc ks p l e room_1 s m args below meth c 8 D cA ad A Q 188 [(4, .int (nI (6 * i))), (3, .ref (ad 39 0)), (2, .ref (ad 40 0)), (1, .ref (ad 0 0)), (0, .ref b)] [] S := by
  refine c_aload_n (pc := 188) C dL_law_188 3 rfl rfl ?_
  refine c_aload_n (pc := 189) C dL_law_189 4 rfl rfl ?_
  refine c_iload (pc := 190) C dL_law_190 0 rfl ?_
  refine c_iconst (v := 1) (pc := 192) C dL_law_192 (by decide) ?_
  refine c_iadd (pc := 193) C dL_law_193 ?_
  refine c_sld (pc := 194) C hX hbl hbA h1 dL_law_194 ?_
  refine c_aload_n (pc := 195) C dL_law_195 4 rfl rfl ?_
  refine c_iload (pc := 196) C dL_law_196 0 rfl ?_
  refine c_iconst (v := 2) (pc := 198) C dL_law_198 (by decide) ?_
  refine c_iadd (pc := 199) C dL_law_199 ?_
  refine c_sld (pc := 200) C hX hbl hbA h2 dL_law_200 ?_
  refine c_aload_n (pc := 201) C dL_law_201 4 rfl rfl ?_
  refine c_iload (pc := 202) C dL_law_202 0 rfl ?_
  refine c_iconst (v := 3) (pc := 204) C dL_law_204 (by decide) ?_
  refine c_iadd (pc := 205) C dL_law_205 ?_
  refine c_sld (pc := 206) C hX hbl hbA h3 dL_law_206 ?_
  have hw := rl_mark h (xs (nI (6 * i) + 1).toNatClampNeg) (xs (nI (6 * i) + 2).toNatClampNeg) (xs (nI (6 * i) + 3).toNatClampNeg)
  refine c_callK (pc := 207) C hM (ct_X9_mark l D cA ad (xs (nI (6 * i) + 1).toNatClampNeg) (xs (nI (6 * i) + 2).toNatClampNeg) (xs (nI (6 * i) + 3).toNatClampNeg) S _ hw) (cwV 3 C.2.2.2.2.1 gL_law_X9_mark rfl rfl rfl (by decide +kernel) ⟨Nat.le_of_ble_eq_true rfl, Nat.le_of_ble_eq_true rfl⟩) hm_0 (cel_0 cA ad S 0) rfl rfl rfl rfl (Nat.le_of_ble_eq_true rfl) ⟨by show kc + 11 ≤ 601024; omega, by show ks + 172 ≤ 7293034; omega⟩ dL_law_207 (fun r1 u hu => ?_)
  obtain ⟨ad', S1⟩ := u
  obtain ⟨⟨q0, q39, q40⟩, hw⟩ := hu
  have hw : wp_X10_mark (xs (nI (6 * i) + 1).toNatClampNeg) (xs (nI (6 * i) + 2).toNatClampNeg) (xs (nI (6 * i) + 3).toNatClampNeg) S1 (fun r2 S2 => r1 = r2 ∧ Rel S2) := hw
  have q0 : ad' 0 0 = ad 0 0 := q0
  have q39 : ad' 39 0 = ad 39 0 := q39
  have q40 : ad' 40 0 = ad 40 0 := q40
  rw [← q0, ← q39, ← q40]
  rw [← q0, ← q39, ← q40] at kend
  show KC (kc + 11) (ks + 172) p l e room_1 s m args below meth c 8 D cA ad' A Q 210 [(4, .int (nI (6 * i))), (3, .ref (ad' 39 0)), (2, .ref (ad' 40 0)), (1, .ref (ad' 0 0)), (0, .ref b)] [.int r1] S1
  refine c_aload_n (pc := 210) C dL_law_210 2 rfl rfl ?_
  refine c_aload_n (pc := 211) C dL_law_211 4 rfl rfl ?_
  refine c_iload (pc := 212) C dL_law_212 0 rfl ?_
  refine c_iconst (v := 1) (pc := 214) C dL_law_214 (by decide) ?_
  refine c_iadd (pc := 215) C dL_law_215 ?_
  refine c_sld (pc := 216) C hX hbl hbA h1 dL_law_216 ?_
  refine c_aload_n (pc := 217) C dL_law_217 4 rfl rfl ?_
  refine c_iload (pc := 218) C dL_law_218 0 rfl ?_
  refine c_iconst (v := 2) (pc := 220) C dL_law_220 (by decide) ?_
  refine c_iadd (pc := 221) C dL_law_221 ?_
  refine c_sld (pc := 222) C hX hbl hbA h2 dL_law_222 ?_
  refine c_aload_n (pc := 223) C dL_law_223 4 rfl rfl ?_
  refine c_iload (pc := 224) C dL_law_224 0 rfl ?_
  refine c_iconst (v := 3) (pc := 226) C dL_law_226 (by decide) ?_
  refine c_iadd (pc := 227) C dL_law_227 ?_
  refine c_sld (pc := 228) C hX hbl hbA h3 dL_law_228 ?_
  refine c_afterI (pc := 229) C (wp_X10_mark (xs (nI (6 * i) + 1).toNatClampNeg) (xs (nI (6 * i) + 2).toNatClampNeg) (xs (nI (6 * i) + 3).toNatClampNeg) S1) hw (fun post hw => rc_V C (ct_X10_mark l D cA ad' (xs (nI (6 * i) + 1).toNatClampNeg) (xs (nI (6 * i) + 2).toNatClampNeg) (xs (nI (6 * i) + 3).toNatClampNeg) S1 post hw) (cwV 3 C.2.2.2.2.1 gL_law_X10_mark rfl rfl rfl (by decide +kernel) ⟨Nat.le_of_ble_eq_true rfl, Nat.le_of_ble_eq_true rfl⟩) hm_40 (cel_40 cA ad' S1 0) rfl rfl rfl rfl (Nat.le_of_ble_eq_true rfl) ⟨by show (kc + 11) + 0 ≤ 601024; omega, by show (ks + 172) + 0 ≤ 7293034; omega⟩ dL_law_229) (fun r2 S2 hw => ?_)
  obtain ⟨w1, w2⟩ := hw
  refine c_icmp_eq (pc := 232) C 1703 dL_law_232 (by decide) (fun _ => ?_) (fun z => absurd w1 z)
  exact c_widen (k := kc + 12) (n := ks + 180) (by omega) (by omega) (kend ad' S2 rfl rfl rfl w2)
set_option maxHeartbeats 4000000 in
set_option maxRecDepth 100000 in
theorem lc_1 (C : Cx p s m args c cL_law 8 bbL.flatten RL D cA A) (hX : va_X b L xs s s.heap) (hbl : b < s.heap.size) (hbA : ¬ A b) (hE : EX A s s.heap) (hM : EM s) (hst : l.stackTraces = false) {S : Sg} (h : Rel S) {i : Nat} (h1 : vp_in (nI (6 * i) + 1) L) (h2 : vp_in (nI (6 * i) + 2) L) (h3 : vp_in (nI (6 * i) + 3) L) (h4 : vp_in (nI (6 * i) + 4) L) (h5 : vp_in (nI (6 * i) + 5) L) (hk : kc + 12 ≤ 601024) (hs : ks + 180 ≤ 7293034) (kend : ∀ (ad' : Nat → Nat → Nat) (S' : Sg), ad' 0 0 = ad 0 0 → ad' 39 0 = ad 39 0 → ad' 40 0 = ad 40 0 → Rel S' → KC (kc + 12) (ks + 180) p l e room_1 s m args below meth c 8 D cA ad' A Q 1703 [(4, .int (nI (6 * i))), (3, .ref (ad' 39 0)), (2, .ref (ad' 40 0)), (1, .ref (ad' 0 0)), (0, .ref b)] [] S') : KC kc ks p l e room_1 s m args below meth c 8 D cA ad A Q 237 [(4, .int (nI (6 * i))), (3, .ref (ad 39 0)), (2, .ref (ad 40 0)), (1, .ref (ad 0 0)), (0, .ref b)] [] S := by
  refine c_aload_n (pc := 237) C dL_law_237 3 rfl rfl ?_
  refine c_aload_n (pc := 238) C dL_law_238 4 rfl rfl ?_
  refine c_iload (pc := 239) C dL_law_239 0 rfl ?_
  refine c_iconst (v := 1) (pc := 241) C dL_law_241 (by decide) ?_
  refine c_iadd (pc := 242) C dL_law_242 ?_
  refine c_sld (pc := 243) C hX hbl hbA h1 dL_law_243 ?_
  refine c_aload_n (pc := 244) C dL_law_244 4 rfl rfl ?_
  refine c_iload (pc := 245) C dL_law_245 0 rfl ?_
  refine c_iconst (v := 2) (pc := 247) C dL_law_247 (by decide) ?_
  refine c_iadd (pc := 248) C dL_law_248 ?_
  refine c_sld (pc := 249) C hX hbl hbA h2 dL_law_249 ?_
  refine c_aload_n (pc := 250) C dL_law_250 4 rfl rfl ?_
  refine c_iload (pc := 251) C dL_law_251 0 rfl ?_
  refine c_iconst (v := 3) (pc := 253) C dL_law_253 (by decide) ?_
  refine c_iadd (pc := 254) C dL_law_254 ?_
  refine c_sld (pc := 255) C hX hbl hbA h3 dL_law_255 ?_
  have hw := rl_antenna h (xs (nI (6 * i) + 1).toNatClampNeg) (xs (nI (6 * i) + 2).toNatClampNeg) (xs (nI (6 * i) + 3).toNatClampNeg)
  refine c_callE (pc := 256) C hE (ct_X9_antenna l D cA ad (xs (nI (6 * i) + 1).toNatClampNeg) (xs (nI (6 * i) + 2).toNatClampNeg) (xs (nI (6 * i) + 3).toNatClampNeg) S _ hw) (cwV 3 C.2.2.2.2.1 gL_law_X9_antenna rfl rfl rfl (by decide +kernel) ⟨Nat.le_of_ble_eq_true rfl, Nat.le_of_ble_eq_true rfl⟩) hm_0 (cel_0 cA ad S 0) rfl rfl rfl rfl (Nat.le_of_ble_eq_true rfl) ⟨by show kc + 0 ≤ 601024; omega, by show ks + 0 ≤ 7293034; omega⟩ dL_law_256 (fun r1 S1 hw => ?_)
  refine c_aload_n (pc := 259) C dL_law_259 2 rfl rfl ?_
  refine c_aload_n (pc := 260) C dL_law_260 4 rfl rfl ?_
  refine c_iload (pc := 261) C dL_law_261 0 rfl ?_
  refine c_iconst (v := 1) (pc := 263) C dL_law_263 (by decide) ?_
  refine c_iadd (pc := 264) C dL_law_264 ?_
  refine c_sld (pc := 265) C hX hbl hbA h1 dL_law_265 ?_
  refine c_aload_n (pc := 266) C dL_law_266 4 rfl rfl ?_
  refine c_iload (pc := 267) C dL_law_267 0 rfl ?_
  refine c_iconst (v := 2) (pc := 269) C dL_law_269 (by decide) ?_
  refine c_iadd (pc := 270) C dL_law_270 ?_
  refine c_sld (pc := 271) C hX hbl hbA h2 dL_law_271 ?_
  refine c_aload_n (pc := 272) C dL_law_272 4 rfl rfl ?_
  refine c_iload (pc := 273) C dL_law_273 0 rfl ?_
  refine c_iconst (v := 3) (pc := 275) C dL_law_275 (by decide) ?_
  refine c_iadd (pc := 276) C dL_law_276 ?_
  refine c_sld (pc := 277) C hX hbl hbA h3 dL_law_277 ?_
  refine c_afterI (pc := 278) C (wp_X10_antenna (xs (nI (6 * i) + 1).toNatClampNeg) (xs (nI (6 * i) + 2).toNatClampNeg) (xs (nI (6 * i) + 3).toNatClampNeg) S1) hw (fun post hw => rc_V C (ct_X10_antenna l D cA ad (xs (nI (6 * i) + 1).toNatClampNeg) (xs (nI (6 * i) + 2).toNatClampNeg) (xs (nI (6 * i) + 3).toNatClampNeg) S1 post hw) (cwV 3 C.2.2.2.2.1 gL_law_X10_antenna rfl rfl rfl (by decide +kernel) ⟨Nat.le_of_ble_eq_true rfl, Nat.le_of_ble_eq_true rfl⟩) hm_40 (cel_40 cA ad S1 0) rfl rfl rfl rfl (Nat.le_of_ble_eq_true rfl) ⟨by show kc + 0 ≤ 601024; omega, by show ks + 0 ≤ 7293034; omega⟩ dL_law_278) (fun r2 S2 hw => ?_)
  obtain ⟨w1, w2⟩ := hw
  refine c_icmp_eq (pc := 281) C 1703 dL_law_281 (by decide) (fun _ => ?_) (fun z => absurd w1 z)
  exact c_widen (k := kc + 12) (n := ks + 180) (by omega) (by omega) (kend ad S2 rfl rfl rfl w2)
set_option maxHeartbeats 4000000 in
set_option maxRecDepth 100000 in
theorem lc_2 (C : Cx p s m args c cL_law 8 bbL.flatten RL D cA A) (hX : va_X b L xs s s.heap) (hbl : b < s.heap.size) (hbA : ¬ A b) (hE : EX A s s.heap) (hM : EM s) (hst : l.stackTraces = false) {S : Sg} (h : Rel S) {i : Nat} (h1 : vp_in (nI (6 * i) + 1) L) (h2 : vp_in (nI (6 * i) + 2) L) (h3 : vp_in (nI (6 * i) + 3) L) (h4 : vp_in (nI (6 * i) + 4) L) (h5 : vp_in (nI (6 * i) + 5) L) (hk : kc + 12 ≤ 601024) (hs : ks + 180 ≤ 7293034) (kend : ∀ (ad' : Nat → Nat → Nat) (S' : Sg), ad' 0 0 = ad 0 0 → ad' 39 0 = ad 39 0 → ad' 40 0 = ad 40 0 → Rel S' → KC (kc + 12) (ks + 180) p l e room_1 s m args below meth c 8 D cA ad' A Q 1703 [(4, .int (nI (6 * i))), (3, .ref (ad' 39 0)), (2, .ref (ad' 40 0)), (1, .ref (ad' 0 0)), (0, .ref b)] [] S') : KC kc ks p l e room_1 s m args below meth c 8 D cA ad A Q 286 [(4, .int (nI (6 * i))), (3, .ref (ad 39 0)), (2, .ref (ad 40 0)), (1, .ref (ad 0 0)), (0, .ref b)] [] S := by
  refine c_aload_n (pc := 286) C dL_law_286 3 rfl rfl ?_
  refine c_aload_n (pc := 287) C dL_law_287 4 rfl rfl ?_
  refine c_iload (pc := 288) C dL_law_288 0 rfl ?_
  refine c_iconst (v := 1) (pc := 290) C dL_law_290 (by decide) ?_
  refine c_iadd (pc := 291) C dL_law_291 ?_
  refine c_sld (pc := 292) C hX hbl hbA h1 dL_law_292 ?_
  refine c_aload_n (pc := 293) C dL_law_293 4 rfl rfl ?_
  refine c_iload (pc := 294) C dL_law_294 0 rfl ?_
  refine c_iconst (v := 2) (pc := 296) C dL_law_296 (by decide) ?_
  refine c_iadd (pc := 297) C dL_law_297 ?_
  refine c_sld (pc := 298) C hX hbl hbA h2 dL_law_298 ?_
  refine c_aload_n (pc := 299) C dL_law_299 4 rfl rfl ?_
  refine c_iload (pc := 300) C dL_law_300 0 rfl ?_
  refine c_iconst (v := 3) (pc := 302) C dL_law_302 (by decide) ?_
  refine c_iadd (pc := 303) C dL_law_303 ?_
  refine c_sld (pc := 304) C hX hbl hbA h3 dL_law_304 ?_
  refine c_aload_n (pc := 305) C dL_law_305 4 rfl rfl ?_
  refine c_iload (pc := 306) C dL_law_306 0 rfl ?_
  refine c_iconst (v := 4) (pc := 308) C dL_law_308 (by decide) ?_
  refine c_iadd (pc := 309) C dL_law_309 ?_
  refine c_sld (pc := 310) C hX hbl hbA h4 dL_law_310 ?_
  have hw := rl_read h (xs (nI (6 * i) + 1).toNatClampNeg) (xs (nI (6 * i) + 2).toNatClampNeg) (xs (nI (6 * i) + 3).toNatClampNeg) (xs (nI (6 * i) + 4).toNatClampNeg)
  refine c_afterI (pc := 311) C (wp_X9_read (xs (nI (6 * i) + 1).toNatClampNeg) (xs (nI (6 * i) + 2).toNatClampNeg) (xs (nI (6 * i) + 3).toNatClampNeg) (xs (nI (6 * i) + 4).toNatClampNeg) S) hw (fun post hw => rc_V C (ct_X9_read l D cA ad (xs (nI (6 * i) + 1).toNatClampNeg) (xs (nI (6 * i) + 2).toNatClampNeg) (xs (nI (6 * i) + 3).toNatClampNeg) (xs (nI (6 * i) + 4).toNatClampNeg) S post hw) (cwV 4 C.2.2.2.2.1 gL_law_X9_read rfl rfl rfl (by decide +kernel) ⟨Nat.le_of_ble_eq_true rfl, Nat.le_of_ble_eq_true rfl⟩) hm_0 (cel_0 cA ad S 0) rfl rfl rfl rfl (Nat.le_of_ble_eq_true rfl) ⟨by show kc + 0 ≤ 601024; omega, by show ks + 0 ≤ 7293034; omega⟩ dL_law_311) (fun r1 S1 hw => ?_)
  refine c_aload_n (pc := 314) C dL_law_314 2 rfl rfl ?_
  refine c_aload_n (pc := 315) C dL_law_315 4 rfl rfl ?_
  refine c_iload (pc := 316) C dL_law_316 0 rfl ?_
  refine c_iconst (v := 1) (pc := 318) C dL_law_318 (by decide) ?_
  refine c_iadd (pc := 319) C dL_law_319 ?_
  refine c_sld (pc := 320) C hX hbl hbA h1 dL_law_320 ?_
  refine c_aload_n (pc := 321) C dL_law_321 4 rfl rfl ?_
  refine c_iload (pc := 322) C dL_law_322 0 rfl ?_
  refine c_iconst (v := 2) (pc := 324) C dL_law_324 (by decide) ?_
  refine c_iadd (pc := 325) C dL_law_325 ?_
  refine c_sld (pc := 326) C hX hbl hbA h2 dL_law_326 ?_
  refine c_aload_n (pc := 327) C dL_law_327 4 rfl rfl ?_
  refine c_iload (pc := 328) C dL_law_328 0 rfl ?_
  refine c_iconst (v := 3) (pc := 330) C dL_law_330 (by decide) ?_
  refine c_iadd (pc := 331) C dL_law_331 ?_
  refine c_sld (pc := 332) C hX hbl hbA h3 dL_law_332 ?_
  refine c_aload_n (pc := 333) C dL_law_333 4 rfl rfl ?_
  refine c_iload (pc := 334) C dL_law_334 0 rfl ?_
  refine c_iconst (v := 4) (pc := 336) C dL_law_336 (by decide) ?_
  refine c_iadd (pc := 337) C dL_law_337 ?_
  refine c_sld (pc := 338) C hX hbl hbA h4 dL_law_338 ?_
  refine c_afterI (pc := 339) C (wp_X10_read (xs (nI (6 * i) + 1).toNatClampNeg) (xs (nI (6 * i) + 2).toNatClampNeg) (xs (nI (6 * i) + 3).toNatClampNeg) (xs (nI (6 * i) + 4).toNatClampNeg) S1) hw (fun post hw => rc_V C (ct_X10_read l D cA ad (xs (nI (6 * i) + 1).toNatClampNeg) (xs (nI (6 * i) + 2).toNatClampNeg) (xs (nI (6 * i) + 3).toNatClampNeg) (xs (nI (6 * i) + 4).toNatClampNeg) S1 post hw) (cwV 4 C.2.2.2.2.1 gL_law_X10_read rfl rfl rfl (by decide +kernel) ⟨Nat.le_of_ble_eq_true rfl, Nat.le_of_ble_eq_true rfl⟩) hm_40 (cel_40 cA ad S1 0) rfl rfl rfl rfl (Nat.le_of_ble_eq_true rfl) ⟨by show kc + 0 ≤ 601024; omega, by show ks + 0 ≤ 7293034; omega⟩ dL_law_339) (fun r2 S2 hw => ?_)
  obtain ⟨w1, w2⟩ := hw
  refine c_icmp_eq (pc := 342) C 1703 dL_law_342 (by decide) (fun _ => ?_) (fun z => absurd w1 z)
  exact c_widen (k := kc + 12) (n := ks + 180) (by omega) (by omega) (kend ad S2 rfl rfl rfl w2)
set_option maxHeartbeats 4000000 in
set_option maxRecDepth 100000 in
theorem lc_3 (C : Cx p s m args c cL_law 8 bbL.flatten RL D cA A) (hX : va_X b L xs s s.heap) (hbl : b < s.heap.size) (hbA : ¬ A b) (hE : EX A s s.heap) (hM : EM s) (hst : l.stackTraces = false) {S : Sg} (h : Rel S) {i : Nat} (h1 : vp_in (nI (6 * i) + 1) L) (h2 : vp_in (nI (6 * i) + 2) L) (h3 : vp_in (nI (6 * i) + 3) L) (h4 : vp_in (nI (6 * i) + 4) L) (h5 : vp_in (nI (6 * i) + 5) L) (hk : kc + 12 ≤ 601024) (hs : ks + 180 ≤ 7293034) (kend : ∀ (ad' : Nat → Nat → Nat) (S' : Sg), ad' 0 0 = ad 0 0 → ad' 39 0 = ad 39 0 → ad' 40 0 = ad 40 0 → Rel S' → KC (kc + 12) (ks + 180) p l e room_1 s m args below meth c 8 D cA ad' A Q 1703 [(4, .int (nI (6 * i))), (3, .ref (ad' 39 0)), (2, .ref (ad' 40 0)), (1, .ref (ad' 0 0)), (0, .ref b)] [] S') : KC kc ks p l e room_1 s m args below meth c 8 D cA ad A Q 347 [(4, .int (nI (6 * i))), (3, .ref (ad 39 0)), (2, .ref (ad 40 0)), (1, .ref (ad 0 0)), (0, .ref b)] [] S := by
  refine c_aload_n (pc := 347) C dL_law_347 3 rfl rfl ?_
  refine c_aload_n (pc := 348) C dL_law_348 4 rfl rfl ?_
  refine c_iload (pc := 349) C dL_law_349 0 rfl ?_
  refine c_iconst (v := 1) (pc := 351) C dL_law_351 (by decide) ?_
  refine c_iadd (pc := 352) C dL_law_352 ?_
  refine c_sld (pc := 353) C hX hbl hbA h1 dL_law_353 ?_
  refine c_aload_n (pc := 354) C dL_law_354 4 rfl rfl ?_
  refine c_iload (pc := 355) C dL_law_355 0 rfl ?_
  refine c_iconst (v := 2) (pc := 357) C dL_law_357 (by decide) ?_
  refine c_iadd (pc := 358) C dL_law_358 ?_
  refine c_sld (pc := 359) C hX hbl hbA h2 dL_law_359 ?_
  have hw := rl_gap h (xs (nI (6 * i) + 1).toNatClampNeg) (xs (nI (6 * i) + 2).toNatClampNeg)
  refine c_afterI (pc := 360) C (wp_X9_gap (xs (nI (6 * i) + 1).toNatClampNeg) (xs (nI (6 * i) + 2).toNatClampNeg) S) hw (fun post hw => rc_V C (ct_X9_gap l D cA ad (xs (nI (6 * i) + 1).toNatClampNeg) (xs (nI (6 * i) + 2).toNatClampNeg) S post hw) (cwV 2 C.2.2.2.2.1 gL_law_X9_gap rfl rfl rfl (by decide +kernel) ⟨Nat.le_of_ble_eq_true rfl, Nat.le_of_ble_eq_true rfl⟩) hm_0 (cel_0 cA ad S 0) rfl rfl rfl rfl (Nat.le_of_ble_eq_true rfl) ⟨by show kc + 0 ≤ 601024; omega, by show ks + 0 ≤ 7293034; omega⟩ dL_law_360) (fun r1 S1 hw => ?_)
  refine c_aload_n (pc := 363) C dL_law_363 2 rfl rfl ?_
  refine c_aload_n (pc := 364) C dL_law_364 4 rfl rfl ?_
  refine c_iload (pc := 365) C dL_law_365 0 rfl ?_
  refine c_iconst (v := 1) (pc := 367) C dL_law_367 (by decide) ?_
  refine c_iadd (pc := 368) C dL_law_368 ?_
  refine c_sld (pc := 369) C hX hbl hbA h1 dL_law_369 ?_
  refine c_aload_n (pc := 370) C dL_law_370 4 rfl rfl ?_
  refine c_iload (pc := 371) C dL_law_371 0 rfl ?_
  refine c_iconst (v := 2) (pc := 373) C dL_law_373 (by decide) ?_
  refine c_iadd (pc := 374) C dL_law_374 ?_
  refine c_sld (pc := 375) C hX hbl hbA h2 dL_law_375 ?_
  refine c_afterI (pc := 376) C (wp_X10_gap (xs (nI (6 * i) + 1).toNatClampNeg) (xs (nI (6 * i) + 2).toNatClampNeg) S1) hw (fun post hw => rc_V C (ct_X10_gap l D cA ad (xs (nI (6 * i) + 1).toNatClampNeg) (xs (nI (6 * i) + 2).toNatClampNeg) S1 post hw) (cwV 2 C.2.2.2.2.1 gL_law_X10_gap rfl rfl rfl (by decide +kernel) ⟨Nat.le_of_ble_eq_true rfl, Nat.le_of_ble_eq_true rfl⟩) hm_40 (cel_40 cA ad S1 0) rfl rfl rfl rfl (Nat.le_of_ble_eq_true rfl) ⟨by show kc + 0 ≤ 601024; omega, by show ks + 0 ≤ 7293034; omega⟩ dL_law_376) (fun r2 S2 hw => ?_)
  obtain ⟨w1, w2⟩ := hw
  refine c_icmp_eq (pc := 379) C 1703 dL_law_379 (by decide) (fun _ => ?_) (fun z => absurd w1 z)
  exact c_widen (k := kc + 12) (n := ks + 180) (by omega) (by omega) (kend ad S2 rfl rfl rfl w2)
set_option maxHeartbeats 4000000 in
set_option maxRecDepth 100000 in
theorem lc_4 (C : Cx p s m args c cL_law 8 bbL.flatten RL D cA A) (hX : va_X b L xs s s.heap) (hbl : b < s.heap.size) (hbA : ¬ A b) (hE : EX A s s.heap) (hM : EM s) (hst : l.stackTraces = false) {S : Sg} (h : Rel S) {i : Nat} (h1 : vp_in (nI (6 * i) + 1) L) (h2 : vp_in (nI (6 * i) + 2) L) (h3 : vp_in (nI (6 * i) + 3) L) (h4 : vp_in (nI (6 * i) + 4) L) (h5 : vp_in (nI (6 * i) + 5) L) (hk : kc + 12 ≤ 601024) (hs : ks + 180 ≤ 7293034) (kend : ∀ (ad' : Nat → Nat → Nat) (S' : Sg), ad' 0 0 = ad 0 0 → ad' 39 0 = ad 39 0 → ad' 40 0 = ad 40 0 → Rel S' → KC (kc + 12) (ks + 180) p l e room_1 s m args below meth c 8 D cA ad' A Q 1703 [(4, .int (nI (6 * i))), (3, .ref (ad' 39 0)), (2, .ref (ad' 40 0)), (1, .ref (ad' 0 0)), (0, .ref b)] [] S') : KC kc ks p l e room_1 s m args below meth c 8 D cA ad A Q 384 [(4, .int (nI (6 * i))), (3, .ref (ad 39 0)), (2, .ref (ad 40 0)), (1, .ref (ad 0 0)), (0, .ref b)] [] S := by
  refine c_aload_n (pc := 384) C dL_law_384 3 rfl rfl ?_
  refine c_aload_n (pc := 385) C dL_law_385 4 rfl rfl ?_
  refine c_iload (pc := 386) C dL_law_386 0 rfl ?_
  refine c_iconst (v := 1) (pc := 388) C dL_law_388 (by decide) ?_
  refine c_iadd (pc := 389) C dL_law_389 ?_
  refine c_sld (pc := 390) C hX hbl hbA h1 dL_law_390 ?_
  refine c_aload_n (pc := 391) C dL_law_391 4 rfl rfl ?_
  refine c_iload (pc := 392) C dL_law_392 0 rfl ?_
  refine c_iconst (v := 2) (pc := 394) C dL_law_394 (by decide) ?_
  refine c_iadd (pc := 395) C dL_law_395 ?_
  refine c_sld (pc := 396) C hX hbl hbA h2 dL_law_396 ?_
  refine c_aload_n (pc := 397) C dL_law_397 4 rfl rfl ?_
  refine c_iload (pc := 398) C dL_law_398 0 rfl ?_
  refine c_iconst (v := 3) (pc := 400) C dL_law_400 (by decide) ?_
  refine c_iadd (pc := 401) C dL_law_401 ?_
  refine c_sld (pc := 402) C hX hbl hbA h3 dL_law_402 ?_
  refine c_aload_n (pc := 403) C dL_law_403 4 rfl rfl ?_
  refine c_iload (pc := 404) C dL_law_404 0 rfl ?_
  refine c_iconst (v := 4) (pc := 406) C dL_law_406 (by decide) ?_
  refine c_iadd (pc := 407) C dL_law_407 ?_
  refine c_sld (pc := 408) C hX hbl hbA h4 dL_law_408 ?_
  have hw := rl_step h (xs (nI (6 * i) + 1).toNatClampNeg) (xs (nI (6 * i) + 2).toNatClampNeg) (xs (nI (6 * i) + 3).toNatClampNeg) (xs (nI (6 * i) + 4).toNatClampNeg)
  refine c_afterI (pc := 409) C (wp_X9_step (xs (nI (6 * i) + 1).toNatClampNeg) (xs (nI (6 * i) + 2).toNatClampNeg) (xs (nI (6 * i) + 3).toNatClampNeg) (xs (nI (6 * i) + 4).toNatClampNeg) S) hw (fun post hw => rc_V C (ct_X9_step l D cA ad (xs (nI (6 * i) + 1).toNatClampNeg) (xs (nI (6 * i) + 2).toNatClampNeg) (xs (nI (6 * i) + 3).toNatClampNeg) (xs (nI (6 * i) + 4).toNatClampNeg) S post hw) (cwV 4 C.2.2.2.2.1 gL_law_X9_step rfl rfl rfl (by decide +kernel) ⟨Nat.le_of_ble_eq_true rfl, Nat.le_of_ble_eq_true rfl⟩) hm_0 (cel_0 cA ad S 0) rfl rfl rfl rfl (Nat.le_of_ble_eq_true rfl) ⟨by show kc + 0 ≤ 601024; omega, by show ks + 0 ≤ 7293034; omega⟩ dL_law_409) (fun r1 S1 hw => ?_)
  refine c_aload_n (pc := 412) C dL_law_412 2 rfl rfl ?_
  refine c_aload_n (pc := 413) C dL_law_413 4 rfl rfl ?_
  refine c_iload (pc := 414) C dL_law_414 0 rfl ?_
  refine c_iconst (v := 1) (pc := 416) C dL_law_416 (by decide) ?_
  refine c_iadd (pc := 417) C dL_law_417 ?_
  refine c_sld (pc := 418) C hX hbl hbA h1 dL_law_418 ?_
  refine c_aload_n (pc := 419) C dL_law_419 4 rfl rfl ?_
  refine c_iload (pc := 420) C dL_law_420 0 rfl ?_
  refine c_iconst (v := 2) (pc := 422) C dL_law_422 (by decide) ?_
  refine c_iadd (pc := 423) C dL_law_423 ?_
  refine c_sld (pc := 424) C hX hbl hbA h2 dL_law_424 ?_
  refine c_aload_n (pc := 425) C dL_law_425 4 rfl rfl ?_
  refine c_iload (pc := 426) C dL_law_426 0 rfl ?_
  refine c_iconst (v := 3) (pc := 428) C dL_law_428 (by decide) ?_
  refine c_iadd (pc := 429) C dL_law_429 ?_
  refine c_sld (pc := 430) C hX hbl hbA h3 dL_law_430 ?_
  refine c_aload_n (pc := 431) C dL_law_431 4 rfl rfl ?_
  refine c_iload (pc := 432) C dL_law_432 0 rfl ?_
  refine c_iconst (v := 4) (pc := 434) C dL_law_434 (by decide) ?_
  refine c_iadd (pc := 435) C dL_law_435 ?_
  refine c_sld (pc := 436) C hX hbl hbA h4 dL_law_436 ?_
  refine c_afterI (pc := 437) C (wp_X10_step (xs (nI (6 * i) + 1).toNatClampNeg) (xs (nI (6 * i) + 2).toNatClampNeg) (xs (nI (6 * i) + 3).toNatClampNeg) (xs (nI (6 * i) + 4).toNatClampNeg) S1) hw (fun post hw => rc_V C (ct_X10_step l D cA ad (xs (nI (6 * i) + 1).toNatClampNeg) (xs (nI (6 * i) + 2).toNatClampNeg) (xs (nI (6 * i) + 3).toNatClampNeg) (xs (nI (6 * i) + 4).toNatClampNeg) S1 post hw) (cwV 4 C.2.2.2.2.1 gL_law_X10_step rfl rfl rfl (by decide +kernel) ⟨Nat.le_of_ble_eq_true rfl, Nat.le_of_ble_eq_true rfl⟩) hm_40 (cel_40 cA ad S1 0) rfl rfl rfl rfl (Nat.le_of_ble_eq_true rfl) ⟨by show kc + 0 ≤ 601024; omega, by show ks + 0 ≤ 7293034; omega⟩ dL_law_437) (fun r2 S2 hw => ?_)
  obtain ⟨w1, w2⟩ := hw
  refine c_icmp_eq (pc := 440) C 1703 dL_law_440 (by decide) (fun _ => ?_) (fun z => absurd w1 z)
  exact c_widen (k := kc + 12) (n := ks + 180) (by omega) (by omega) (kend ad S2 rfl rfl rfl w2)
set_option maxHeartbeats 4000000 in
set_option maxRecDepth 100000 in
theorem lc_5 (C : Cx p s m args c cL_law 8 bbL.flatten RL D cA A) (hX : va_X b L xs s s.heap) (hbl : b < s.heap.size) (hbA : ¬ A b) (hE : EX A s s.heap) (hM : EM s) (hst : l.stackTraces = false) {S : Sg} (h : Rel S) {i : Nat} (h1 : vp_in (nI (6 * i) + 1) L) (h2 : vp_in (nI (6 * i) + 2) L) (h3 : vp_in (nI (6 * i) + 3) L) (h4 : vp_in (nI (6 * i) + 4) L) (h5 : vp_in (nI (6 * i) + 5) L) (hk : kc + 12 ≤ 601024) (hs : ks + 180 ≤ 7293034) (kend : ∀ (ad' : Nat → Nat → Nat) (S' : Sg), ad' 0 0 = ad 0 0 → ad' 39 0 = ad 39 0 → ad' 40 0 = ad 40 0 → Rel S' → KC (kc + 12) (ks + 180) p l e room_1 s m args below meth c 8 D cA ad' A Q 1703 [(4, .int (nI (6 * i))), (3, .ref (ad' 39 0)), (2, .ref (ad' 40 0)), (1, .ref (ad' 0 0)), (0, .ref b)] [] S') : KC kc ks p l e room_1 s m args below meth c 8 D cA ad A Q 445 [(4, .int (nI (6 * i))), (3, .ref (ad 39 0)), (2, .ref (ad 40 0)), (1, .ref (ad 0 0)), (0, .ref b)] [] S := by
  refine c_aload_n (pc := 445) C dL_law_445 3 rfl rfl ?_
  refine c_aload_n (pc := 446) C dL_law_446 4 rfl rfl ?_
  refine c_iload (pc := 447) C dL_law_447 0 rfl ?_
  refine c_iconst (v := 1) (pc := 449) C dL_law_449 (by decide) ?_
  refine c_iadd (pc := 450) C dL_law_450 ?_
  refine c_sld (pc := 451) C hX hbl hbA h1 dL_law_451 ?_
  refine c_aload_n (pc := 452) C dL_law_452 4 rfl rfl ?_
  refine c_iload (pc := 453) C dL_law_453 0 rfl ?_
  refine c_iconst (v := 2) (pc := 455) C dL_law_455 (by decide) ?_
  refine c_iadd (pc := 456) C dL_law_456 ?_
  refine c_sld (pc := 457) C hX hbl hbA h2 dL_law_457 ?_
  refine c_aload_n (pc := 458) C dL_law_458 4 rfl rfl ?_
  refine c_iload (pc := 459) C dL_law_459 0 rfl ?_
  refine c_iconst (v := 3) (pc := 461) C dL_law_461 (by decide) ?_
  refine c_iadd (pc := 462) C dL_law_462 ?_
  refine c_sld (pc := 463) C hX hbl hbA h3 dL_law_463 ?_
  refine c_aload_n (pc := 464) C dL_law_464 1 rfl rfl ?_
  have hw := rl_cleared h (xs (nI (6 * i) + 1).toNatClampNeg) (xs (nI (6 * i) + 2).toNatClampNeg) (xs (nI (6 * i) + 3).toNatClampNeg)
  refine c_callWS (pc := 465) C hE (ct_L_cleared l hst D cA ad (xs (nI (6 * i) + 1).toNatClampNeg) (xs (nI (6 * i) + 2).toNatClampNeg) (xs (nI (6 * i) + 3).toNatClampNeg) S _ hw) (vx_cwSW 5 C.2.2.2.2.1 gL_law_L_cleared rfl rfl rfl (by decide +kernel) ⟨Nat.le_of_ble_eq_true rfl, Nat.le_of_ble_eq_true rfl⟩) rfl rfl (Nat.le_of_ble_eq_true rfl) ⟨by show kc + 1 ≤ 601024; omega, by show ks + 6 ≤ 7293034; omega⟩ dL_law_465 (fun r1 S1 hw => ?_)
  refine c_istore (pc := 468) C dL_law_468 (by decide) [(5, .int r1), (4, .int (nI (6 * i))), (3, .ref (ad 39 0)), (2, .ref (ad 40 0)), (1, .ref (ad 0 0)), (0, .ref b)] rfl ?_
  refine c_aload_n (pc := 470) C dL_law_470 3 rfl rfl ?_
  refine c_aload_n (pc := 471) C dL_law_471 5 rfl rfl ?_
  refine c_iload (pc := 472) C dL_law_472 1 rfl ?_
  refine c_iconst (v := 1) (pc := 474) C dL_law_474 (by decide) ?_
  refine c_iadd (pc := 475) C dL_law_475 ?_
  refine c_sld (pc := 476) C hX hbl hbA h1 dL_law_476 ?_
  refine c_aload_n (pc := 477) C dL_law_477 5 rfl rfl ?_
  refine c_iload (pc := 478) C dL_law_478 1 rfl ?_
  refine c_iconst (v := 2) (pc := 480) C dL_law_480 (by decide) ?_
  refine c_iadd (pc := 481) C dL_law_481 ?_
  refine c_sld (pc := 482) C hX hbl hbA h2 dL_law_482 ?_
  refine c_aload_n (pc := 483) C dL_law_483 5 rfl rfl ?_
  refine c_iload (pc := 484) C dL_law_484 1 rfl ?_
  refine c_iconst (v := 3) (pc := 486) C dL_law_486 (by decide) ?_
  refine c_iadd (pc := 487) C dL_law_487 ?_
  refine c_sld (pc := 488) C hX hbl hbA h3 dL_law_488 ?_
  refine c_afterL (pc := 489) C (wp_X10_cleared (xs (nI (6 * i) + 1).toNatClampNeg) (xs (nI (6 * i) + 2).toNatClampNeg) (xs (nI (6 * i) + 3).toNatClampNeg) S1) hw (fun post hw => rc_V C (ct_X10_cleared l D cA ad (xs (nI (6 * i) + 1).toNatClampNeg) (xs (nI (6 * i) + 2).toNatClampNeg) (xs (nI (6 * i) + 3).toNatClampNeg) S1 post hw) (cwV 3 C.2.2.2.2.1 gL_law_X10_cleared rfl rfl rfl (by decide +kernel) ⟨Nat.le_of_ble_eq_true rfl, Nat.le_of_ble_eq_true rfl⟩) hm_40 (cel_40 cA ad S1 0) rfl rfl rfl rfl (Nat.le_of_ble_eq_true rfl) ⟨by show (kc + 1) + 0 ≤ 601024; omega, by show (ks + 6) + 0 ≤ 7293034; omega⟩ dL_law_489) (fun r2 S2 hw => ?_)
  refine c_lstore (pc := 492) C dL_law_492 (by decide) [(6, .long r2), (5, .int r1), (4, .int (nI (6 * i))), (3, .ref (ad 39 0)), (2, .ref (ad 40 0)), (1, .ref (ad 0 0)), (0, .ref b)] rfl ?_
  refine c_aload_n (pc := 494) C dL_law_494 4 rfl rfl ?_
  refine c_afterI (pc := 495) C (wp_X10_thrown S2) (post := fun r S9 => r = gI S2 40 0 0 ∧ S9 = S2) ⟨rfl, rfl⟩ (fun post hw => rc_V C (ct_X10_thrown l D cA ad S2 post hw) (cwV 0 C.2.2.2.2.1 gL_law_X10_thrown rfl rfl rfl (by decide +kernel) ⟨Nat.le_of_ble_eq_true rfl, Nat.le_of_ble_eq_true rfl⟩) hm_40 (cel_40 cA ad S2 0) rfl rfl rfl rfl (Nat.le_of_ble_eq_true rfl) ⟨by show (kc + 1) + 0 ≤ 601024; omega, by show (ks + 6) + 0 ≤ 7293034; omega⟩ dL_law_495) (fun r9 S9 hr9 => ?_)
  obtain ⟨e9, rfl⟩ := hr9
  refine c_iload (pc := 498) C dL_law_498 1 rfl ?_
  obtain ⟨w1, w2, w3⟩ := hw
  refine c_icmp_eq (pc := 500) C 505 dL_law_500 (by decide) (fun _ => ?_) (fun z => absurd (e9.trans w1) z)
  refine c_iload (pc := 505) C dL_law_505 1 rfl ?_
  refine c_if_ne (pc := 507) C 521 dL_law_507 (by decide) (fun z => ?_) (fun z => ?_)
  · refine c_goto (pc := 521) C 1703 dL_law_521 (by decide) ?_
    exact c_sub [2, 3, 4, 5, 6] [(4, .int (nI (6 * i))), (3, .ref (ad 39 0)), (2, .ref (ad 40 0)), (1, .ref (ad 0 0)), (0, .ref b)] rfl (c_widen (k := kc + 12) (n := ks + 180) (by omega) (by omega) (kend ad S9 rfl rfl rfl w3))
  · refine c_aload_n (pc := 510) C dL_law_510 3 rfl rfl ?_
    refine c_iconst (v := 0) (pc := 511) C dL_law_511 (by decide) ?_
    refine c_lald (pc := 512) C hm_39 (cel_39 cA ad S9 0) vp_01 dL_law_512 ?_
    refine c_lload (pc := 513) C dL_law_513 0 rfl ?_
    refine c_lif_eq (pc := 515) C 521 dL_law_515 dL_law_516 (by decide) (fun _ => ?_) (fun z2 => absurd (w2 z) z2)
    refine c_goto (pc := 521) C 1703 dL_law_521 (by decide) ?_
    exact c_sub [2, 3, 4, 5, 6] [(4, .int (nI (6 * i))), (3, .ref (ad 39 0)), (2, .ref (ad 40 0)), (1, .ref (ad 0 0)), (0, .ref b)] rfl (c_widen (k := kc + 12) (n := ks + 180) (by omega) (by omega) (kend ad S9 rfl rfl rfl w3))
set_option maxHeartbeats 4000000 in
set_option maxRecDepth 100000 in
theorem lc_6 (C : Cx p s m args c cL_law 8 bbL.flatten RL D cA A) (hX : va_X b L xs s s.heap) (hbl : b < s.heap.size) (hbA : ¬ A b) (hE : EX A s s.heap) (hM : EM s) (hst : l.stackTraces = false) {S : Sg} (h : Rel S) {i : Nat} (h1 : vp_in (nI (6 * i) + 1) L) (h2 : vp_in (nI (6 * i) + 2) L) (h3 : vp_in (nI (6 * i) + 3) L) (h4 : vp_in (nI (6 * i) + 4) L) (h5 : vp_in (nI (6 * i) + 5) L) (hk : kc + 12 ≤ 601024) (hs : ks + 180 ≤ 7293034) (kend : ∀ (ad' : Nat → Nat → Nat) (S' : Sg), ad' 0 0 = ad 0 0 → ad' 39 0 = ad 39 0 → ad' 40 0 = ad 40 0 → Rel S' → KC (kc + 12) (ks + 180) p l e room_1 s m args below meth c 8 D cA ad' A Q 1703 [(4, .int (nI (6 * i))), (3, .ref (ad' 39 0)), (2, .ref (ad' 40 0)), (1, .ref (ad' 0 0)), (0, .ref b)] [] S') : KC kc ks p l e room_1 s m args below meth c 8 D cA ad A Q 524 [(4, .int (nI (6 * i))), (3, .ref (ad 39 0)), (2, .ref (ad 40 0)), (1, .ref (ad 0 0)), (0, .ref b)] [] S := by
  refine c_aload_n (pc := 524) C dL_law_524 3 rfl rfl ?_
  refine c_aload_n (pc := 525) C dL_law_525 4 rfl rfl ?_
  refine c_iload (pc := 526) C dL_law_526 0 rfl ?_
  refine c_iconst (v := 1) (pc := 528) C dL_law_528 (by decide) ?_
  refine c_iadd (pc := 529) C dL_law_529 ?_
  refine c_sld (pc := 530) C hX hbl hbA h1 dL_law_530 ?_
  have hw := rl_many h (xs (nI (6 * i) + 1).toNatClampNeg)
  refine c_afterI (pc := 531) C (wp_X9_many (xs (nI (6 * i) + 1).toNatClampNeg) S) hw (fun post hw => rc_V C (ct_X9_many l D cA ad (xs (nI (6 * i) + 1).toNatClampNeg) S post hw) (cwV 1 C.2.2.2.2.1 gL_law_X9_many rfl rfl rfl (by decide +kernel) ⟨Nat.le_of_ble_eq_true rfl, Nat.le_of_ble_eq_true rfl⟩) hm_0 (cel_0 cA ad S 0) rfl rfl rfl rfl (Nat.le_of_ble_eq_true rfl) ⟨by show kc + 0 ≤ 601024; omega, by show ks + 0 ≤ 7293034; omega⟩ dL_law_531) (fun r1 S1 hw => ?_)
  refine c_aload_n (pc := 534) C dL_law_534 2 rfl rfl ?_
  refine c_aload_n (pc := 535) C dL_law_535 4 rfl rfl ?_
  refine c_iload (pc := 536) C dL_law_536 0 rfl ?_
  refine c_iconst (v := 1) (pc := 538) C dL_law_538 (by decide) ?_
  refine c_iadd (pc := 539) C dL_law_539 ?_
  refine c_sld (pc := 540) C hX hbl hbA h1 dL_law_540 ?_
  refine c_afterI (pc := 541) C (wp_X10_many (xs (nI (6 * i) + 1).toNatClampNeg) S1) hw (fun post hw => rc_V C (ct_X10_many l D cA ad (xs (nI (6 * i) + 1).toNatClampNeg) S1 post hw) (cwV 1 C.2.2.2.2.1 gL_law_X10_many rfl rfl rfl (by decide +kernel) ⟨Nat.le_of_ble_eq_true rfl, Nat.le_of_ble_eq_true rfl⟩) hm_40 (cel_40 cA ad S1 0) rfl rfl rfl rfl (Nat.le_of_ble_eq_true rfl) ⟨by show kc + 0 ≤ 601024; omega, by show ks + 0 ≤ 7293034; omega⟩ dL_law_541) (fun r2 S2 hw => ?_)
  obtain ⟨w1, w2⟩ := hw
  refine c_icmp_eq (pc := 544) C 1703 dL_law_544 (by decide) (fun _ => ?_) (fun z => absurd w1 z)
  exact c_widen (k := kc + 12) (n := ks + 180) (by omega) (by omega) (kend ad S2 rfl rfl rfl w2)
set_option maxHeartbeats 4000000 in
set_option maxRecDepth 100000 in
theorem lc_7 (C : Cx p s m args c cL_law 8 bbL.flatten RL D cA A) (hX : va_X b L xs s s.heap) (hbl : b < s.heap.size) (hbA : ¬ A b) (hE : EX A s s.heap) (hM : EM s) (hst : l.stackTraces = false) {S : Sg} (h : Rel S) {i : Nat} (h1 : vp_in (nI (6 * i) + 1) L) (h2 : vp_in (nI (6 * i) + 2) L) (h3 : vp_in (nI (6 * i) + 3) L) (h4 : vp_in (nI (6 * i) + 4) L) (h5 : vp_in (nI (6 * i) + 5) L) (hk : kc + 12 ≤ 601024) (hs : ks + 180 ≤ 7293034) (kend : ∀ (ad' : Nat → Nat → Nat) (S' : Sg), ad' 0 0 = ad 0 0 → ad' 39 0 = ad 39 0 → ad' 40 0 = ad 40 0 → Rel S' → KC (kc + 12) (ks + 180) p l e room_1 s m args below meth c 8 D cA ad' A Q 1703 [(4, .int (nI (6 * i))), (3, .ref (ad' 39 0)), (2, .ref (ad' 40 0)), (1, .ref (ad' 0 0)), (0, .ref b)] [] S') : KC kc ks p l e room_1 s m args below meth c 8 D cA ad A Q 549 [(4, .int (nI (6 * i))), (3, .ref (ad 39 0)), (2, .ref (ad 40 0)), (1, .ref (ad 0 0)), (0, .ref b)] [] S := by
  by_cases hz : xs (nI (6 * i) + 3).toNatClampNeg = 0
  · refine c_aload_n (pc := 549) C dL_law_549 3 rfl rfl ?_
    refine c_aload_n (pc := 550) C dL_law_550 4 rfl rfl ?_
    refine c_iload (pc := 551) C dL_law_551 0 rfl ?_
    refine c_iconst (v := 1) (pc := 553) C dL_law_553 (by decide) ?_
    refine c_iadd (pc := 554) C dL_law_554 ?_
    refine c_sld (pc := 555) C hX hbl hbA h1 dL_law_555 ?_
    refine c_aload_n (pc := 556) C dL_law_556 4 rfl rfl ?_
    refine c_iload (pc := 557) C dL_law_557 0 rfl ?_
    refine c_iconst (v := 2) (pc := 559) C dL_law_559 (by decide) ?_
    refine c_iadd (pc := 560) C dL_law_560 ?_
    refine c_sld (pc := 561) C hX hbl hbA h2 dL_law_561 ?_
    refine c_aload_n (pc := 562) C dL_law_562 4 rfl rfl ?_
    refine c_iload (pc := 563) C dL_law_563 0 rfl ?_
    refine c_iconst (v := 3) (pc := 565) C dL_law_565 (by decide) ?_
    refine c_iadd (pc := 566) C dL_law_566 ?_
    refine c_sld (pc := 567) C hX hbl hbA h3 dL_law_567 ?_
    refine c_if_eq (pc := 568) C 575 dL_law_568 (by decide) (fun _ => ?_) (fun z => absurd hz z)
    refine c_iconst (v := 0) (pc := 575) C dL_law_575 (by decide) ?_
    refine c_aload_n (pc := 576) C dL_law_576 1 rfl rfl ?_
    have hw := rl_rate h (xs (nI (6 * i) + 1).toNatClampNeg) (xs (nI (6 * i) + 2).toNatClampNeg) 0
    refine c_callWS (pc := 577) C hE (ct_L_rate l hst D cA ad (xs (nI (6 * i) + 1).toNatClampNeg) (xs (nI (6 * i) + 2).toNatClampNeg) 0 S _ hw) (vx_cwSW 5 C.2.2.2.2.1 gL_law_L_rate rfl rfl rfl (by decide +kernel) ⟨Nat.le_of_ble_eq_true rfl, Nat.le_of_ble_eq_true rfl⟩) rfl rfl (Nat.le_of_ble_eq_true rfl) ⟨by show kc + 1 ≤ 601024; omega, by show ks + 6 ≤ 7293034; omega⟩ dL_law_577 (fun r1 S1 hw => ?_)
    refine c_istore (pc := 580) C dL_law_580 (by decide) [(5, .int r1), (4, .int (nI (6 * i))), (3, .ref (ad 39 0)), (2, .ref (ad 40 0)), (1, .ref (ad 0 0)), (0, .ref b)] rfl ?_
    refine c_aload_n (pc := 582) C dL_law_582 3 rfl rfl ?_
    refine c_aload_n (pc := 583) C dL_law_583 5 rfl rfl ?_
    refine c_iload (pc := 584) C dL_law_584 1 rfl ?_
    refine c_iconst (v := 1) (pc := 586) C dL_law_586 (by decide) ?_
    refine c_iadd (pc := 587) C dL_law_587 ?_
    refine c_sld (pc := 588) C hX hbl hbA h1 dL_law_588 ?_
    refine c_aload_n (pc := 589) C dL_law_589 5 rfl rfl ?_
    refine c_iload (pc := 590) C dL_law_590 1 rfl ?_
    refine c_iconst (v := 2) (pc := 592) C dL_law_592 (by decide) ?_
    refine c_iadd (pc := 593) C dL_law_593 ?_
    refine c_sld (pc := 594) C hX hbl hbA h2 dL_law_594 ?_
    refine c_aload_n (pc := 595) C dL_law_595 5 rfl rfl ?_
    refine c_iload (pc := 596) C dL_law_596 1 rfl ?_
    refine c_iconst (v := 3) (pc := 598) C dL_law_598 (by decide) ?_
    refine c_iadd (pc := 599) C dL_law_599 ?_
    refine c_sld (pc := 600) C hX hbl hbA h3 dL_law_600 ?_
    refine c_if_eq (pc := 601) C 608 dL_law_601 (by decide) (fun _ => ?_) (fun z => absurd hz z)
    refine c_iconst (v := 0) (pc := 608) C dL_law_608 (by decide) ?_
    refine c_afterL (pc := 609) C (wp_X10_rate (xs (nI (6 * i) + 1).toNatClampNeg) (xs (nI (6 * i) + 2).toNatClampNeg) 0 S1) hw (fun post hw => rc_V C (ct_X10_rate l D cA ad (xs (nI (6 * i) + 1).toNatClampNeg) (xs (nI (6 * i) + 2).toNatClampNeg) 0 S1 post hw) (cwV 3 C.2.2.2.2.1 gL_law_X10_rate rfl rfl rfl (by decide +kernel) ⟨Nat.le_of_ble_eq_true rfl, Nat.le_of_ble_eq_true rfl⟩) hm_40 (cel_40 cA ad S1 0) rfl rfl rfl rfl (Nat.le_of_ble_eq_true rfl) ⟨by show (kc + 1) + 0 ≤ 601024; omega, by show (ks + 6) + 0 ≤ 7293034; omega⟩ dL_law_609) (fun r2 S2 hw => ?_)
    refine c_lstore (pc := 612) C dL_law_612 (by decide) [(6, .long r2), (5, .int r1), (4, .int (nI (6 * i))), (3, .ref (ad 39 0)), (2, .ref (ad 40 0)), (1, .ref (ad 0 0)), (0, .ref b)] rfl ?_
    refine c_aload_n (pc := 614) C dL_law_614 4 rfl rfl ?_
    refine c_afterI (pc := 615) C (wp_X10_thrown S2) (post := fun r S9 => r = gI S2 40 0 0 ∧ S9 = S2) ⟨rfl, rfl⟩ (fun post hw => rc_V C (ct_X10_thrown l D cA ad S2 post hw) (cwV 0 C.2.2.2.2.1 gL_law_X10_thrown rfl rfl rfl (by decide +kernel) ⟨Nat.le_of_ble_eq_true rfl, Nat.le_of_ble_eq_true rfl⟩) hm_40 (cel_40 cA ad S2 0) rfl rfl rfl rfl (Nat.le_of_ble_eq_true rfl) ⟨by show (kc + 1) + 0 ≤ 601024; omega, by show (ks + 6) + 0 ≤ 7293034; omega⟩ dL_law_615) (fun r9 S9 hr9 => ?_)
    obtain ⟨e9, rfl⟩ := hr9
    refine c_iload (pc := 618) C dL_law_618 1 rfl ?_
    obtain ⟨w1, w2, w3⟩ := hw
    refine c_icmp_eq (pc := 620) C 625 dL_law_620 (by decide) (fun _ => ?_) (fun z => absurd (e9.trans w1) z)
    refine c_iload (pc := 625) C dL_law_625 1 rfl ?_
    refine c_if_ne (pc := 627) C 641 dL_law_627 (by decide) (fun z => ?_) (fun z => ?_)
    · refine c_goto (pc := 641) C 1703 dL_law_641 (by decide) ?_
      exact c_sub [2, 3, 4, 5, 6] [(4, .int (nI (6 * i))), (3, .ref (ad 39 0)), (2, .ref (ad 40 0)), (1, .ref (ad 0 0)), (0, .ref b)] rfl (c_widen (k := kc + 12) (n := ks + 180) (by omega) (by omega) (kend ad S9 rfl rfl rfl w3))
    · refine c_aload_n (pc := 630) C dL_law_630 3 rfl rfl ?_
      refine c_iconst (v := 0) (pc := 631) C dL_law_631 (by decide) ?_
      refine c_lald (pc := 632) C hm_39 (cel_39 cA ad S9 0) vp_01 dL_law_632 ?_
      refine c_lload (pc := 633) C dL_law_633 0 rfl ?_
      refine c_lif_eq (pc := 635) C 641 dL_law_635 dL_law_636 (by decide) (fun _ => ?_) (fun z2 => absurd (w2 z) z2)
      refine c_goto (pc := 641) C 1703 dL_law_641 (by decide) ?_
      exact c_sub [2, 3, 4, 5, 6] [(4, .int (nI (6 * i))), (3, .ref (ad 39 0)), (2, .ref (ad 40 0)), (1, .ref (ad 0 0)), (0, .ref b)] rfl (c_widen (k := kc + 12) (n := ks + 180) (by omega) (by omega) (kend ad S9 rfl rfl rfl w3))
  · refine c_aload_n (pc := 549) C dL_law_549 3 rfl rfl ?_
    refine c_aload_n (pc := 550) C dL_law_550 4 rfl rfl ?_
    refine c_iload (pc := 551) C dL_law_551 0 rfl ?_
    refine c_iconst (v := 1) (pc := 553) C dL_law_553 (by decide) ?_
    refine c_iadd (pc := 554) C dL_law_554 ?_
    refine c_sld (pc := 555) C hX hbl hbA h1 dL_law_555 ?_
    refine c_aload_n (pc := 556) C dL_law_556 4 rfl rfl ?_
    refine c_iload (pc := 557) C dL_law_557 0 rfl ?_
    refine c_iconst (v := 2) (pc := 559) C dL_law_559 (by decide) ?_
    refine c_iadd (pc := 560) C dL_law_560 ?_
    refine c_sld (pc := 561) C hX hbl hbA h2 dL_law_561 ?_
    refine c_aload_n (pc := 562) C dL_law_562 4 rfl rfl ?_
    refine c_iload (pc := 563) C dL_law_563 0 rfl ?_
    refine c_iconst (v := 3) (pc := 565) C dL_law_565 (by decide) ?_
    refine c_iadd (pc := 566) C dL_law_566 ?_
    refine c_sld (pc := 567) C hX hbl hbA h3 dL_law_567 ?_
    refine c_if_eq (pc := 568) C 575 dL_law_568 (by decide) (fun z => absurd z hz) (fun _ => ?_)
    refine c_iconst (v := 1) (pc := 571) C dL_law_571 (by decide) ?_
    refine c_goto (pc := 572) C 576 dL_law_572 (by decide) ?_
    refine c_aload_n (pc := 576) C dL_law_576 1 rfl rfl ?_
    have hw := rl_rate h (xs (nI (6 * i) + 1).toNatClampNeg) (xs (nI (6 * i) + 2).toNatClampNeg) 1
    refine c_callWS (pc := 577) C hE (ct_L_rate l hst D cA ad (xs (nI (6 * i) + 1).toNatClampNeg) (xs (nI (6 * i) + 2).toNatClampNeg) 1 S _ hw) (vx_cwSW 5 C.2.2.2.2.1 gL_law_L_rate rfl rfl rfl (by decide +kernel) ⟨Nat.le_of_ble_eq_true rfl, Nat.le_of_ble_eq_true rfl⟩) rfl rfl (Nat.le_of_ble_eq_true rfl) ⟨by show kc + 1 ≤ 601024; omega, by show ks + 6 ≤ 7293034; omega⟩ dL_law_577 (fun r1 S1 hw => ?_)
    refine c_istore (pc := 580) C dL_law_580 (by decide) [(5, .int r1), (4, .int (nI (6 * i))), (3, .ref (ad 39 0)), (2, .ref (ad 40 0)), (1, .ref (ad 0 0)), (0, .ref b)] rfl ?_
    refine c_aload_n (pc := 582) C dL_law_582 3 rfl rfl ?_
    refine c_aload_n (pc := 583) C dL_law_583 5 rfl rfl ?_
    refine c_iload (pc := 584) C dL_law_584 1 rfl ?_
    refine c_iconst (v := 1) (pc := 586) C dL_law_586 (by decide) ?_
    refine c_iadd (pc := 587) C dL_law_587 ?_
    refine c_sld (pc := 588) C hX hbl hbA h1 dL_law_588 ?_
    refine c_aload_n (pc := 589) C dL_law_589 5 rfl rfl ?_
    refine c_iload (pc := 590) C dL_law_590 1 rfl ?_
    refine c_iconst (v := 2) (pc := 592) C dL_law_592 (by decide) ?_
    refine c_iadd (pc := 593) C dL_law_593 ?_
    refine c_sld (pc := 594) C hX hbl hbA h2 dL_law_594 ?_
    refine c_aload_n (pc := 595) C dL_law_595 5 rfl rfl ?_
    refine c_iload (pc := 596) C dL_law_596 1 rfl ?_
    refine c_iconst (v := 3) (pc := 598) C dL_law_598 (by decide) ?_
    refine c_iadd (pc := 599) C dL_law_599 ?_
    refine c_sld (pc := 600) C hX hbl hbA h3 dL_law_600 ?_
    refine c_if_eq (pc := 601) C 608 dL_law_601 (by decide) (fun z => absurd z hz) (fun _ => ?_)
    refine c_iconst (v := 1) (pc := 604) C dL_law_604 (by decide) ?_
    refine c_goto (pc := 605) C 609 dL_law_605 (by decide) ?_
    refine c_afterL (pc := 609) C (wp_X10_rate (xs (nI (6 * i) + 1).toNatClampNeg) (xs (nI (6 * i) + 2).toNatClampNeg) 1 S1) hw (fun post hw => rc_V C (ct_X10_rate l D cA ad (xs (nI (6 * i) + 1).toNatClampNeg) (xs (nI (6 * i) + 2).toNatClampNeg) 1 S1 post hw) (cwV 3 C.2.2.2.2.1 gL_law_X10_rate rfl rfl rfl (by decide +kernel) ⟨Nat.le_of_ble_eq_true rfl, Nat.le_of_ble_eq_true rfl⟩) hm_40 (cel_40 cA ad S1 0) rfl rfl rfl rfl (Nat.le_of_ble_eq_true rfl) ⟨by show (kc + 1) + 0 ≤ 601024; omega, by show (ks + 6) + 0 ≤ 7293034; omega⟩ dL_law_609) (fun r2 S2 hw => ?_)
    refine c_lstore (pc := 612) C dL_law_612 (by decide) [(6, .long r2), (5, .int r1), (4, .int (nI (6 * i))), (3, .ref (ad 39 0)), (2, .ref (ad 40 0)), (1, .ref (ad 0 0)), (0, .ref b)] rfl ?_
    refine c_aload_n (pc := 614) C dL_law_614 4 rfl rfl ?_
    refine c_afterI (pc := 615) C (wp_X10_thrown S2) (post := fun r S9 => r = gI S2 40 0 0 ∧ S9 = S2) ⟨rfl, rfl⟩ (fun post hw => rc_V C (ct_X10_thrown l D cA ad S2 post hw) (cwV 0 C.2.2.2.2.1 gL_law_X10_thrown rfl rfl rfl (by decide +kernel) ⟨Nat.le_of_ble_eq_true rfl, Nat.le_of_ble_eq_true rfl⟩) hm_40 (cel_40 cA ad S2 0) rfl rfl rfl rfl (Nat.le_of_ble_eq_true rfl) ⟨by show (kc + 1) + 0 ≤ 601024; omega, by show (ks + 6) + 0 ≤ 7293034; omega⟩ dL_law_615) (fun r9 S9 hr9 => ?_)
    obtain ⟨e9, rfl⟩ := hr9
    refine c_iload (pc := 618) C dL_law_618 1 rfl ?_
    obtain ⟨w1, w2, w3⟩ := hw
    refine c_icmp_eq (pc := 620) C 625 dL_law_620 (by decide) (fun _ => ?_) (fun z => absurd (e9.trans w1) z)
    refine c_iload (pc := 625) C dL_law_625 1 rfl ?_
    refine c_if_ne (pc := 627) C 641 dL_law_627 (by decide) (fun z => ?_) (fun z => ?_)
    · refine c_goto (pc := 641) C 1703 dL_law_641 (by decide) ?_
      exact c_sub [2, 3, 4, 5, 6] [(4, .int (nI (6 * i))), (3, .ref (ad 39 0)), (2, .ref (ad 40 0)), (1, .ref (ad 0 0)), (0, .ref b)] rfl (c_widen (k := kc + 12) (n := ks + 180) (by omega) (by omega) (kend ad S9 rfl rfl rfl w3))
    · refine c_aload_n (pc := 630) C dL_law_630 3 rfl rfl ?_
      refine c_iconst (v := 0) (pc := 631) C dL_law_631 (by decide) ?_
      refine c_lald (pc := 632) C hm_39 (cel_39 cA ad S9 0) vp_01 dL_law_632 ?_
      refine c_lload (pc := 633) C dL_law_633 0 rfl ?_
      refine c_lif_eq (pc := 635) C 641 dL_law_635 dL_law_636 (by decide) (fun _ => ?_) (fun z2 => absurd (w2 z) z2)
      refine c_goto (pc := 641) C 1703 dL_law_641 (by decide) ?_
      exact c_sub [2, 3, 4, 5, 6] [(4, .int (nI (6 * i))), (3, .ref (ad 39 0)), (2, .ref (ad 40 0)), (1, .ref (ad 0 0)), (0, .ref b)] rfl (c_widen (k := kc + 12) (n := ks + 180) (by omega) (by omega) (kend ad S9 rfl rfl rfl w3))
set_option maxHeartbeats 4000000 in
set_option maxRecDepth 100000 in
theorem lc_8 (C : Cx p s m args c cL_law 8 bbL.flatten RL D cA A) (hX : va_X b L xs s s.heap) (hbl : b < s.heap.size) (hbA : ¬ A b) (hE : EX A s s.heap) (hM : EM s) (hst : l.stackTraces = false) {S : Sg} (h : Rel S) {i : Nat} (h1 : vp_in (nI (6 * i) + 1) L) (h2 : vp_in (nI (6 * i) + 2) L) (h3 : vp_in (nI (6 * i) + 3) L) (h4 : vp_in (nI (6 * i) + 4) L) (h5 : vp_in (nI (6 * i) + 5) L) (hk : kc + 12 ≤ 601024) (hs : ks + 180 ≤ 7293034) (kend : ∀ (ad' : Nat → Nat → Nat) (S' : Sg), ad' 0 0 = ad 0 0 → ad' 39 0 = ad 39 0 → ad' 40 0 = ad 40 0 → Rel S' → KC (kc + 12) (ks + 180) p l e room_1 s m args below meth c 8 D cA ad' A Q 1703 [(4, .int (nI (6 * i))), (3, .ref (ad' 39 0)), (2, .ref (ad' 40 0)), (1, .ref (ad' 0 0)), (0, .ref b)] [] S') : KC kc ks p l e room_1 s m args below meth c 8 D cA ad A Q 644 [(4, .int (nI (6 * i))), (3, .ref (ad 39 0)), (2, .ref (ad 40 0)), (1, .ref (ad 0 0)), (0, .ref b)] [] S := by
  refine c_aload_n (pc := 644) C dL_law_644 3 rfl rfl ?_
  refine c_aload_n (pc := 645) C dL_law_645 4 rfl rfl ?_
  refine c_iload (pc := 646) C dL_law_646 0 rfl ?_
  refine c_iconst (v := 1) (pc := 648) C dL_law_648 (by decide) ?_
  refine c_iadd (pc := 649) C dL_law_649 ?_
  refine c_sld (pc := 650) C hX hbl hbA h1 dL_law_650 ?_
  refine c_aload_n (pc := 651) C dL_law_651 4 rfl rfl ?_
  refine c_iload (pc := 652) C dL_law_652 0 rfl ?_
  refine c_iconst (v := 2) (pc := 654) C dL_law_654 (by decide) ?_
  refine c_iadd (pc := 655) C dL_law_655 ?_
  refine c_sld (pc := 656) C hX hbl hbA h2 dL_law_656 ?_
  have hw := rl_jump h (xs (nI (6 * i) + 1).toNatClampNeg) (xs (nI (6 * i) + 2).toNatClampNeg)
  refine c_afterI (pc := 657) C (wp_X9_jump (xs (nI (6 * i) + 1).toNatClampNeg) (xs (nI (6 * i) + 2).toNatClampNeg) S) hw (fun post hw => rc_V C (ct_X9_jump l D cA ad (xs (nI (6 * i) + 1).toNatClampNeg) (xs (nI (6 * i) + 2).toNatClampNeg) S post hw) (cwV 2 C.2.2.2.2.1 gL_law_X9_jump rfl rfl rfl (by decide +kernel) ⟨Nat.le_of_ble_eq_true rfl, Nat.le_of_ble_eq_true rfl⟩) hm_0 (cel_0 cA ad S 0) rfl rfl rfl rfl (Nat.le_of_ble_eq_true rfl) ⟨by show kc + 0 ≤ 601024; omega, by show ks + 0 ≤ 7293034; omega⟩ dL_law_657) (fun r1 S1 hw => ?_)
  refine c_aload_n (pc := 660) C dL_law_660 2 rfl rfl ?_
  refine c_aload_n (pc := 661) C dL_law_661 4 rfl rfl ?_
  refine c_iload (pc := 662) C dL_law_662 0 rfl ?_
  refine c_iconst (v := 1) (pc := 664) C dL_law_664 (by decide) ?_
  refine c_iadd (pc := 665) C dL_law_665 ?_
  refine c_sld (pc := 666) C hX hbl hbA h1 dL_law_666 ?_
  refine c_aload_n (pc := 667) C dL_law_667 4 rfl rfl ?_
  refine c_iload (pc := 668) C dL_law_668 0 rfl ?_
  refine c_iconst (v := 2) (pc := 670) C dL_law_670 (by decide) ?_
  refine c_iadd (pc := 671) C dL_law_671 ?_
  refine c_sld (pc := 672) C hX hbl hbA h2 dL_law_672 ?_
  refine c_afterI (pc := 673) C (wp_X10_jump (xs (nI (6 * i) + 1).toNatClampNeg) (xs (nI (6 * i) + 2).toNatClampNeg) S1) hw (fun post hw => rc_V C (ct_X10_jump l D cA ad (xs (nI (6 * i) + 1).toNatClampNeg) (xs (nI (6 * i) + 2).toNatClampNeg) S1 post hw) (cwV 2 C.2.2.2.2.1 gL_law_X10_jump rfl rfl rfl (by decide +kernel) ⟨Nat.le_of_ble_eq_true rfl, Nat.le_of_ble_eq_true rfl⟩) hm_40 (cel_40 cA ad S1 0) rfl rfl rfl rfl (Nat.le_of_ble_eq_true rfl) ⟨by show kc + 0 ≤ 601024; omega, by show ks + 0 ≤ 7293034; omega⟩ dL_law_673) (fun r2 S2 hw => ?_)
  obtain ⟨w1, w2⟩ := hw
  refine c_icmp_eq (pc := 676) C 1703 dL_law_676 (by decide) (fun _ => ?_) (fun z => absurd w1 z)
  exact c_widen (k := kc + 12) (n := ks + 180) (by omega) (by omega) (kend ad S2 rfl rfl rfl w2)
end
