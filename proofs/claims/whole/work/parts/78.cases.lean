/-! ===== the law: its cases (laid by wip/gen/law.py) ===== -/
section LAWC
variable {p : Program} {l : Launch} {e : Env} {s : State} {m : MethodId} {below : List Frame} {meth : Method} {c : Code} {b L i : Nat} {xs : Nat → Int32} {G : lw_G} {H : Heap} {locs : List Loc} {ls : Array Slot} {ce sl : Nat} {Qf : State → Prop} {D : DD} {σ1 σ2 : tp_M}
abbrev lw_nx (p : Program) (l : Launch) (e : Env) (s : State) (m : MethodId) (below : List Frame) (meth : Method) (c : Code) (b : Nat) (G : lw_G) (ls : Array Slot) (ce sl : Nat) (Qf : State → Prop) : Prop := ∀ (D' : DD) (σ1' σ2' : tp_M) (H' : Heap) (locs' : List Loc), okD D' → cR σ1' D' → mR σ2' D' → LJ l s G σ1' σ2' H' locs' → W p l e room_1 s m #[Value.ref b] below meth c H' locs' ce sl Qf (F0 m 1054 ls [])
theorem lw_on_feed (cx : lw_cx p l s m meth c b L xs G i) (ok : okD D) (hc : cR σ1 D) (hm : mR σ2 D) (hJ : LJ l s G σ1 σ2 H locs) (hl : lv_has ls 4 (lw_lv b s.heap.size i)) (hce : ce ≤ 600000) (hsl : sl ≤ 7302250) (nx : lw_nx p l e s m below meth c b G ls ce sl Qf) : W p l e room_1 s m #[Value.ref b] below meth c H locs ce sl Qf (F0 m 176 ls []) := by
  obtain ⟨v, D', ok', fc, fm⟩ := op_feed ok (xs (i + 1))
  refine lv_aload_n cx.1.1 cx.1.2.1 dL_law_176 rfl (lv_at hl 1 rfl) ?_
  refine lw_arg (k := 1) cx hJ.2.2 hl (by decide) rfl dL_law_177 dL_law_178 dL_law_179 dL_law_180 dL_law_181 ?_
  refine lw_cc cx hJ hc hl hce hsl fc kmL_13 rfl (by decide) rfl (Nat.le_of_ble_eq_true rfl) dL_law_182 (fun σ1' H1 locs1 hJ1 hc1 => ?_)
  refine lv_aload_n cx.1.1 cx.1.2.1 dL_law_185 rfl (lv_at hl 2 rfl) ?_
  refine lw_arg (k := 1) cx hJ1.2.2 hl (by decide) rfl dL_law_186 dL_law_187 dL_law_188 dL_law_189 dL_law_190 ?_
  refine lw_cm cx hJ1 hm hl hce hsl fm kmL_17 rfl (by decide) rfl (Nat.le_of_ble_eq_true rfl) dL_law_191 (fun σ2' H2 locs2 hJ2 hm2 => ?_)
  exact lv_icmp_eq (tgt := 1054) cx.1.1 cx.1.2.1 dL_law_194 (by decide) (fun _ => nx D' σ1' σ2' H2 locs2 ok' hc1 hm2 hJ2) (fun q => absurd rfl q)
theorem lw_on_hotel (cx : lw_cx p l s m meth c b L xs G i) (ok : okD D) (hc : cR σ1 D) (hm : mR σ2 D) (hJ : LJ l s G σ1 σ2 H locs) (hl : lv_has ls 4 (lw_lv b s.heap.size i)) (hce : ce ≤ 600000) (hsl : sl ≤ 7302250) (nx : lw_nx p l e s m below meth c b G ls ce sl Qf) : W p l e room_1 s m #[Value.ref b] below meth c H locs ce sl Qf (F0 m 199 ls []) := by
  obtain ⟨v, D', ok', fc, fm⟩ := op_hotel ok 
  refine lv_aload_n cx.1.1 cx.1.2.1 dL_law_199 rfl (lv_at hl 1 rfl) ?_
  refine lw_cc cx hJ hc hl hce hsl fc kmL_18 rfl (by decide) rfl (Nat.le_of_ble_eq_true rfl) dL_law_200 (fun σ1' H1 locs1 hJ1 hc1 => ?_)
  refine lv_aload_n cx.1.1 cx.1.2.1 dL_law_203 rfl (lv_at hl 2 rfl) ?_
  refine lw_cm cx hJ1 hm hl hce hsl fm kmL_22 rfl (by decide) rfl (Nat.le_of_ble_eq_true rfl) dL_law_204 (fun σ2' H2 locs2 hJ2 hm2 => ?_)
  exact lv_icmp_eq (tgt := 1054) cx.1.1 cx.1.2.1 dL_law_207 (by decide) (fun _ => nx D' σ1' σ2' H2 locs2 ok' hc1 hm2 hJ2) (fun q => absurd rfl q)
theorem lw_on_fault (cx : lw_cx p l s m meth c b L xs G i) (ok : okD D) (hc : cR σ1 D) (hm : mR σ2 D) (hJ : LJ l s G σ1 σ2 H locs) (hl : lv_has ls 4 (lw_lv b s.heap.size i)) (hce : ce ≤ 600000) (hsl : sl ≤ 7302250) (nx : lw_nx p l e s m below meth c b G ls ce sl Qf) : W p l e room_1 s m #[Value.ref b] below meth c H locs ce sl Qf (F0 m 212 ls []) := by
  obtain ⟨v, D', ok', fc, fm⟩ := op_fault ok 
  refine lv_aload_n cx.1.1 cx.1.2.1 dL_law_212 rfl (lv_at hl 1 rfl) ?_
  refine lw_cc cx hJ hc hl hce hsl fc kmL_23 rfl (by decide) rfl (Nat.le_of_ble_eq_true rfl) dL_law_213 (fun σ1' H1 locs1 hJ1 hc1 => ?_)
  refine lv_aload_n cx.1.1 cx.1.2.1 dL_law_216 rfl (lv_at hl 2 rfl) ?_
  refine lw_cm cx hJ1 hm hl hce hsl fm kmL_26 rfl (by decide) rfl (Nat.le_of_ble_eq_true rfl) dL_law_217 (fun σ2' H2 locs2 hJ2 hm2 => ?_)
  exact lv_icmp_eq (tgt := 1054) cx.1.1 cx.1.2.1 dL_law_220 (by decide) (fun _ => nx D' σ1' σ2' H2 locs2 ok' hc1 hm2 hJ2) (fun q => absurd rfl q)
theorem lw_on_told (cx : lw_cx p l s m meth c b L xs G i) (ok : okD D) (hc : cR σ1 D) (hm : mR σ2 D) (hJ : LJ l s G σ1 σ2 H locs) (hl : lv_has ls 4 (lw_lv b s.heap.size i)) (hce : ce ≤ 600000) (hsl : sl ≤ 7302250) (nx : lw_nx p l e s m below meth c b G ls ce sl Qf) : W p l e room_1 s m #[Value.ref b] below meth c H locs ce sl Qf (F0 m 225 ls []) := by
  obtain ⟨v, D', ok', fc, fm⟩ := op_told ok (xs (i + 1))
  refine lv_aload_n cx.1.1 cx.1.2.1 dL_law_225 rfl (lv_at hl 1 rfl) ?_
  refine lw_arg (k := 1) cx hJ.2.2 hl (by decide) rfl dL_law_226 dL_law_227 dL_law_228 dL_law_229 dL_law_230 ?_
  refine lw_cc cx hJ hc hl hce hsl fc kmL_27 rfl (by decide) rfl (Nat.le_of_ble_eq_true rfl) dL_law_231 (fun σ1' H1 locs1 hJ1 hc1 => ?_)
  refine lv_aload_n cx.1.1 cx.1.2.1 dL_law_234 rfl (lv_at hl 2 rfl) ?_
  refine lw_arg (k := 1) cx hJ1.2.2 hl (by decide) rfl dL_law_235 dL_law_236 dL_law_237 dL_law_238 dL_law_239 ?_
  refine lw_cm cx hJ1 hm hl hce hsl fm kmL_30 rfl (by decide) rfl (Nat.le_of_ble_eq_true rfl) dL_law_240 (fun σ2' H2 locs2 hJ2 hm2 => ?_)
  exact lv_icmp_eq (tgt := 1054) cx.1.1 cx.1.2.1 dL_law_243 (by decide) (fun _ => nx D' σ1' σ2' H2 locs2 ok' hc1 hm2 hJ2) (fun q => absurd rfl q)
theorem lw_on_room (cx : lw_cx p l s m meth c b L xs G i) (ok : okD D) (hc : cR σ1 D) (hm : mR σ2 D) (hJ : LJ l s G σ1 σ2 H locs) (hl : lv_has ls 4 (lw_lv b s.heap.size i)) (hce : ce ≤ 600000) (hsl : sl ≤ 7302250) (nx : lw_nx p l e s m below meth c b G ls ce sl Qf) : W p l e room_1 s m #[Value.ref b] below meth c H locs ce sl Qf (F0 m 248 ls []) := by
  obtain ⟨v, D', ok', fc, fm⟩ := op_room ok (xs (i + 1))
  refine lv_aload_n cx.1.1 cx.1.2.1 dL_law_248 rfl (lv_at hl 1 rfl) ?_
  refine lw_arg (k := 1) cx hJ.2.2 hl (by decide) rfl dL_law_249 dL_law_250 dL_law_251 dL_law_252 dL_law_253 ?_
  refine lw_cc cx hJ hc hl hce hsl fc kmL_31 rfl (by decide) rfl (Nat.le_of_ble_eq_true rfl) dL_law_254 (fun σ1' H1 locs1 hJ1 hc1 => ?_)
  refine lv_aload_n cx.1.1 cx.1.2.1 dL_law_257 rfl (lv_at hl 2 rfl) ?_
  refine lw_arg (k := 1) cx hJ1.2.2 hl (by decide) rfl dL_law_258 dL_law_259 dL_law_260 dL_law_261 dL_law_262 ?_
  refine lw_cm cx hJ1 hm hl hce hsl fm kmL_34 rfl (by decide) rfl (Nat.le_of_ble_eq_true rfl) dL_law_263 (fun σ2' H2 locs2 hJ2 hm2 => ?_)
  exact lv_icmp_eq (tgt := 1054) cx.1.1 cx.1.2.1 dL_law_266 (by decide) (fun _ => nx D' σ1' σ2' H2 locs2 ok' hc1 hm2 hJ2) (fun q => absurd rfl q)
theorem lw_on_waiter (cx : lw_cx p l s m meth c b L xs G i) (ok : okD D) (hc : cR σ1 D) (hm : mR σ2 D) (hJ : LJ l s G σ1 σ2 H locs) (hl : lv_has ls 4 (lw_lv b s.heap.size i)) (hce : ce ≤ 600000) (hsl : sl ≤ 7302250) (nx : lw_nx p l e s m below meth c b G ls ce sl Qf) : W p l e room_1 s m #[Value.ref b] below meth c H locs ce sl Qf (F0 m 271 ls []) := by
  obtain ⟨v, D', ok', fc, fm⟩ := op_waiter ok (xs (i + 1)) (xs (i + 2))
  refine lv_aload_n cx.1.1 cx.1.2.1 dL_law_271 rfl (lv_at hl 1 rfl) ?_
  refine lw_arg (k := 1) cx hJ.2.2 hl (by decide) rfl dL_law_272 dL_law_273 dL_law_274 dL_law_275 dL_law_276 ?_
  refine lw_arg (k := 2) cx hJ.2.2 hl (by decide) rfl dL_law_277 dL_law_278 dL_law_279 dL_law_280 dL_law_281 ?_
  refine lw_cc cx hJ hc hl hce hsl fc kmL_35 rfl (by decide) rfl (Nat.le_of_ble_eq_true rfl) dL_law_282 (fun σ1' H1 locs1 hJ1 hc1 => ?_)
  refine lv_aload_n cx.1.1 cx.1.2.1 dL_law_285 rfl (lv_at hl 2 rfl) ?_
  refine lw_arg (k := 1) cx hJ1.2.2 hl (by decide) rfl dL_law_286 dL_law_287 dL_law_288 dL_law_289 dL_law_290 ?_
  refine lw_arg (k := 2) cx hJ1.2.2 hl (by decide) rfl dL_law_291 dL_law_292 dL_law_293 dL_law_294 dL_law_295 ?_
  refine lw_cm cx hJ1 hm hl hce hsl fm kmL_39 rfl (by decide) rfl (Nat.le_of_ble_eq_true rfl) dL_law_296 (fun σ2' H2 locs2 hJ2 hm2 => ?_)
  exact lv_icmp_eq (tgt := 1054) cx.1.1 cx.1.2.1 dL_law_299 (by decide) (fun _ => nx D' σ1' σ2' H2 locs2 ok' hc1 hm2 hJ2) (fun q => absurd rfl q)
theorem lw_on_thing (cx : lw_cx p l s m meth c b L xs G i) (ok : okD D) (hc : cR σ1 D) (hm : mR σ2 D) (hJ : LJ l s G σ1 σ2 H locs) (hl : lv_has ls 4 (lw_lv b s.heap.size i)) (hce : ce ≤ 600000) (hsl : sl ≤ 7302250) (nx : lw_nx p l e s m below meth c b G ls ce sl Qf) : W p l e room_1 s m #[Value.ref b] below meth c H locs ce sl Qf (F0 m 304 ls []) := by
  obtain ⟨v, D', ok', fc, fm⟩ := op_thing ok (xs (i + 1)) (xs (i + 2))
  refine lv_aload_n cx.1.1 cx.1.2.1 dL_law_304 rfl (lv_at hl 1 rfl) ?_
  refine lw_arg (k := 1) cx hJ.2.2 hl (by decide) rfl dL_law_305 dL_law_306 dL_law_307 dL_law_308 dL_law_309 ?_
  refine lw_arg (k := 2) cx hJ.2.2 hl (by decide) rfl dL_law_310 dL_law_311 dL_law_312 dL_law_313 dL_law_314 ?_
  refine lw_cc cx hJ hc hl hce hsl fc kmL_40 rfl (by decide) rfl (Nat.le_of_ble_eq_true rfl) dL_law_315 (fun σ1' H1 locs1 hJ1 hc1 => ?_)
  refine lv_aload_n cx.1.1 cx.1.2.1 dL_law_318 rfl (lv_at hl 2 rfl) ?_
  refine lw_arg (k := 1) cx hJ1.2.2 hl (by decide) rfl dL_law_319 dL_law_320 dL_law_321 dL_law_322 dL_law_323 ?_
  refine lw_arg (k := 2) cx hJ1.2.2 hl (by decide) rfl dL_law_324 dL_law_325 dL_law_326 dL_law_327 dL_law_328 ?_
  refine lw_cm cx hJ1 hm hl hce hsl fm kmL_43 rfl (by decide) rfl (Nat.le_of_ble_eq_true rfl) dL_law_329 (fun σ2' H2 locs2 hJ2 hm2 => ?_)
  exact lv_icmp_eq (tgt := 1054) cx.1.1 cx.1.2.1 dL_law_332 (by decide) (fun _ => nx D' σ1' σ2' H2 locs2 ok' hc1 hm2 hJ2) (fun q => absurd rfl q)
theorem lw_on_minute (cx : lw_cx p l s m meth c b L xs G i) (ok : okD D) (hc : cR σ1 D) (hm : mR σ2 D) (hJ : LJ l s G σ1 σ2 H locs) (hl : lv_has ls 4 (lw_lv b s.heap.size i)) (hce : ce ≤ 600000) (hsl : sl ≤ 7302250) (nx : lw_nx p l e s m below meth c b G ls ce sl Qf) : W p l e room_1 s m #[Value.ref b] below meth c H locs ce sl Qf (F0 m 337 ls []) := by
  obtain ⟨v, D', ok', fc, fm⟩ := op_minute ok (xs (i + 1))
  refine lv_aload_n cx.1.1 cx.1.2.1 dL_law_337 rfl (lv_at hl 1 rfl) ?_
  refine lw_arg (k := 1) cx hJ.2.2 hl (by decide) rfl dL_law_338 dL_law_339 dL_law_340 dL_law_341 dL_law_342 ?_
  refine lw_cc cx hJ hc hl hce hsl fc kmL_44 rfl (by decide) rfl (Nat.le_of_ble_eq_true rfl) dL_law_343 (fun σ1' H1 locs1 hJ1 hc1 => ?_)
  refine lv_aload_n cx.1.1 cx.1.2.1 dL_law_346 rfl (lv_at hl 2 rfl) ?_
  refine lw_arg (k := 1) cx hJ1.2.2 hl (by decide) rfl dL_law_347 dL_law_348 dL_law_349 dL_law_350 dL_law_351 ?_
  refine lw_cm cx hJ1 hm hl hce hsl fm kmL_47 rfl (by decide) rfl (Nat.le_of_ble_eq_true rfl) dL_law_352 (fun σ2' H2 locs2 hJ2 hm2 => ?_)
  exact lv_icmp_eq (tgt := 1054) cx.1.1 cx.1.2.1 dL_law_355 (by decide) (fun _ => nx D' σ1' σ2' H2 locs2 ok' hc1 hm2 hJ2) (fun q => absurd rfl q)
theorem lw_on_route (cx : lw_cx p l s m meth c b L xs G i) (ok : okD D) (hc : cR σ1 D) (hm : mR σ2 D) (hJ : LJ l s G σ1 σ2 H locs) (hl : lv_has ls 4 (lw_lv b s.heap.size i)) (hce : ce ≤ 600000) (hsl : sl ≤ 7302250) (nx : lw_nx p l e s m below meth c b G ls ce sl Qf) : W p l e room_1 s m #[Value.ref b] below meth c H locs ce sl Qf (F0 m 360 ls []) := by
  obtain ⟨v, D', ok', fc, fm⟩ := op_route ok (xs (i + 1)) (xs (i + 2))
  refine lv_aload_n cx.1.1 cx.1.2.1 dL_law_360 rfl (lv_at hl 1 rfl) ?_
  refine lw_arg (k := 1) cx hJ.2.2 hl (by decide) rfl dL_law_361 dL_law_362 dL_law_363 dL_law_364 dL_law_365 ?_
  refine lw_arg (k := 2) cx hJ.2.2 hl (by decide) rfl dL_law_366 dL_law_367 dL_law_368 dL_law_369 dL_law_370 ?_
  refine lw_cc cx hJ hc hl hce hsl fc kmL_48 rfl (by decide) rfl (Nat.le_of_ble_eq_true rfl) dL_law_371 (fun σ1' H1 locs1 hJ1 hc1 => ?_)
  refine lv_aload_n cx.1.1 cx.1.2.1 dL_law_374 rfl (lv_at hl 2 rfl) ?_
  refine lw_arg (k := 1) cx hJ1.2.2 hl (by decide) rfl dL_law_375 dL_law_376 dL_law_377 dL_law_378 dL_law_379 ?_
  refine lw_arg (k := 2) cx hJ1.2.2 hl (by decide) rfl dL_law_380 dL_law_381 dL_law_382 dL_law_383 dL_law_384 ?_
  refine lw_cm cx hJ1 hm hl hce hsl fm kmL_51 rfl (by decide) rfl (Nat.le_of_ble_eq_true rfl) dL_law_385 (fun σ2' H2 locs2 hJ2 hm2 => ?_)
  exact lv_icmp_eq (tgt := 1054) cx.1.1 cx.1.2.1 dL_law_388 (by decide) (fun _ => nx D' σ1' σ2' H2 locs2 ok' hc1 hm2 hJ2) (fun q => absurd rfl q)
theorem lw_on_lay (cx : lw_cx p l s m meth c b L xs G i) (ok : okD D) (hc : cR σ1 D) (hm : mR σ2 D) (hJ : LJ l s G σ1 σ2 H locs) (hl : lv_has ls 4 (lw_lv b s.heap.size i)) (hce : ce ≤ 600000) (hsl : sl ≤ 7302250) (nx : lw_nx p l e s m below meth c b G ls ce sl Qf) : W p l e room_1 s m #[Value.ref b] below meth c H locs ce sl Qf (F0 m 393 ls []) := by
  obtain ⟨v, D', ok', fc, fm⟩ := op_lay ok (xs (i + 1)) (xs (i + 2)) (xs (i + 3))
  refine lv_aload_n cx.1.1 cx.1.2.1 dL_law_393 rfl (lv_at hl 1 rfl) ?_
  refine lw_arg (k := 1) cx hJ.2.2 hl (by decide) rfl dL_law_394 dL_law_395 dL_law_396 dL_law_397 dL_law_398 ?_
  refine lw_arg (k := 2) cx hJ.2.2 hl (by decide) rfl dL_law_399 dL_law_400 dL_law_401 dL_law_402 dL_law_403 ?_
  refine lw_arg (k := 3) cx hJ.2.2 hl (by decide) rfl dL_law_404 dL_law_405 dL_law_406 dL_law_407 dL_law_408 ?_
  refine lw_cc cx hJ hc hl hce hsl fc kmL_52 rfl (by decide) rfl (Nat.le_of_ble_eq_true rfl) dL_law_409 (fun σ1' H1 locs1 hJ1 hc1 => ?_)
  refine lv_aload_n cx.1.1 cx.1.2.1 dL_law_412 rfl (lv_at hl 2 rfl) ?_
  refine lw_arg (k := 1) cx hJ1.2.2 hl (by decide) rfl dL_law_413 dL_law_414 dL_law_415 dL_law_416 dL_law_417 ?_
  refine lw_arg (k := 2) cx hJ1.2.2 hl (by decide) rfl dL_law_418 dL_law_419 dL_law_420 dL_law_421 dL_law_422 ?_
  refine lw_arg (k := 3) cx hJ1.2.2 hl (by decide) rfl dL_law_423 dL_law_424 dL_law_425 dL_law_426 dL_law_427 ?_
  refine lw_cm cx hJ1 hm hl hce hsl fm kmL_56 rfl (by decide) rfl (Nat.le_of_ble_eq_true rfl) dL_law_428 (fun σ2' H2 locs2 hJ2 hm2 => ?_)
  exact lv_icmp_eq (tgt := 1054) cx.1.1 cx.1.2.1 dL_law_431 (by decide) (fun _ => nx D' σ1' σ2' H2 locs2 ok' hc1 hm2 hJ2) (fun q => absurd rfl q)
theorem lw_on_takeOff (cx : lw_cx p l s m meth c b L xs G i) (ok : okD D) (hc : cR σ1 D) (hm : mR σ2 D) (hJ : LJ l s G σ1 σ2 H locs) (hl : lv_has ls 4 (lw_lv b s.heap.size i)) (hce : ce ≤ 600000) (hsl : sl ≤ 7302250) (nx : lw_nx p l e s m below meth c b G ls ce sl Qf) : W p l e room_1 s m #[Value.ref b] below meth c H locs ce sl Qf (F0 m 436 ls []) := by
  obtain ⟨v, D', ok', fc, fm⟩ := op_takeOff ok (xs (i + 1))
  refine lv_aload_n cx.1.1 cx.1.2.1 dL_law_436 rfl (lv_at hl 1 rfl) ?_
  refine lw_arg (k := 1) cx hJ.2.2 hl (by decide) rfl dL_law_437 dL_law_438 dL_law_439 dL_law_440 dL_law_441 ?_
  refine lw_cc cx hJ hc hl hce hsl fc kmL_57 rfl (by decide) rfl (Nat.le_of_ble_eq_true rfl) dL_law_442 (fun σ1' H1 locs1 hJ1 hc1 => ?_)
  refine lv_aload_n cx.1.1 cx.1.2.1 dL_law_445 rfl (lv_at hl 2 rfl) ?_
  refine lw_arg (k := 1) cx hJ1.2.2 hl (by decide) rfl dL_law_446 dL_law_447 dL_law_448 dL_law_449 dL_law_450 ?_
  refine lw_cm cx hJ1 hm hl hce hsl fm kmL_60 rfl (by decide) rfl (Nat.le_of_ble_eq_true rfl) dL_law_451 (fun σ2' H2 locs2 hJ2 hm2 => ?_)
  exact lv_icmp_eq (tgt := 1054) cx.1.1 cx.1.2.1 dL_law_454 (by decide) (fun _ => nx D' σ1' σ2' H2 locs2 ok' hc1 hm2 hJ2) (fun q => absurd rfl q)
theorem lw_on_treaty (cx : lw_cx p l s m meth c b L xs G i) (ok : okD D) (hc : cR σ1 D) (hm : mR σ2 D) (hJ : LJ l s G σ1 σ2 H locs) (hl : lv_has ls 4 (lw_lv b s.heap.size i)) (hce : ce ≤ 600000) (hsl : sl ≤ 7302250) (nx : lw_nx p l e s m below meth c b G ls ce sl Qf) : W p l e room_1 s m #[Value.ref b] below meth c H locs ce sl Qf (F0 m 459 ls []) := by
  obtain ⟨v, D', ok', fc, fm⟩ := op_treaty ok (xs (i + 1)) (xs (i + 2)) (bq (xs (i + 3)))
  refine lv_aload_n cx.1.1 cx.1.2.1 dL_law_459 rfl (lv_at hl 1 rfl) ?_
  refine lw_arg (k := 1) cx hJ.2.2 hl (by decide) rfl dL_law_460 dL_law_461 dL_law_462 dL_law_463 dL_law_464 ?_
  refine lw_arg (k := 2) cx hJ.2.2 hl (by decide) rfl dL_law_465 dL_law_466 dL_law_467 dL_law_468 dL_law_469 ?_
  refine lw_arg (k := 3) cx hJ.2.2 hl (by decide) rfl dL_law_470 dL_law_471 dL_law_472 dL_law_473 dL_law_474 ?_
  refine lw_bool cx dL_law_475 dL_law_478 dL_law_479 dL_law_482 ?_
  refine lw_cc cx hJ hc hl hce hsl fc kmL_61 rfl (by decide) rfl (Nat.le_of_ble_eq_true rfl) dL_law_483 (fun σ1' H1 locs1 hJ1 hc1 => ?_)
  refine lv_aload_n cx.1.1 cx.1.2.1 dL_law_486 rfl (lv_at hl 2 rfl) ?_
  refine lw_arg (k := 1) cx hJ1.2.2 hl (by decide) rfl dL_law_487 dL_law_488 dL_law_489 dL_law_490 dL_law_491 ?_
  refine lw_arg (k := 2) cx hJ1.2.2 hl (by decide) rfl dL_law_492 dL_law_493 dL_law_494 dL_law_495 dL_law_496 ?_
  refine lw_arg (k := 3) cx hJ1.2.2 hl (by decide) rfl dL_law_497 dL_law_498 dL_law_499 dL_law_500 dL_law_501 ?_
  refine lw_bool cx dL_law_502 dL_law_505 dL_law_506 dL_law_509 ?_
  refine lw_cm cx hJ1 hm hl hce hsl fm kmL_65 rfl (by decide) rfl (Nat.le_of_ble_eq_true rfl) dL_law_510 (fun σ2' H2 locs2 hJ2 hm2 => ?_)
  exact lv_icmp_eq (tgt := 1054) cx.1.1 cx.1.2.1 dL_law_513 (by decide) (fun _ => nx D' σ1' σ2' H2 locs2 ok' hc1 hm2 hJ2) (fun q => absurd rfl q)
theorem lw_on_drift (cx : lw_cx p l s m meth c b L xs G i) (ok : okD D) (hc : cR σ1 D) (hm : mR σ2 D) (hJ : LJ l s G σ1 σ2 H locs) (hl : lv_has ls 4 (lw_lv b s.heap.size i)) (hce : ce ≤ 600000) (hsl : sl ≤ 7302250) (nx : lw_nx p l e s m below meth c b G ls ce sl Qf) : W p l e room_1 s m #[Value.ref b] below meth c H locs ce sl Qf (F0 m 518 ls []) := by
  obtain ⟨v, D', ok', fc, fm⟩ := op_drift ok (xs (i + 1))
  refine lv_aload_n cx.1.1 cx.1.2.1 dL_law_518 rfl (lv_at hl 1 rfl) ?_
  refine lw_arg (k := 1) cx hJ.2.2 hl (by decide) rfl dL_law_519 dL_law_520 dL_law_521 dL_law_522 dL_law_523 ?_
  refine lw_cc cx hJ hc hl hce hsl fc kmL_66 rfl (by decide) rfl (Nat.le_of_ble_eq_true rfl) dL_law_524 (fun σ1' H1 locs1 hJ1 hc1 => ?_)
  refine lv_aload_n cx.1.1 cx.1.2.1 dL_law_527 rfl (lv_at hl 2 rfl) ?_
  refine lw_arg (k := 1) cx hJ1.2.2 hl (by decide) rfl dL_law_528 dL_law_529 dL_law_530 dL_law_531 dL_law_532 ?_
  refine lw_cm cx hJ1 hm hl hce hsl fm kmL_69 rfl (by decide) rfl (Nat.le_of_ble_eq_true rfl) dL_law_533 (fun σ2' H2 locs2 hJ2 hm2 => ?_)
  exact lv_icmp_eq (tgt := 1054) cx.1.1 cx.1.2.1 dL_law_536 (by decide) (fun _ => nx D' σ1' σ2' H2 locs2 ok' hc1 hm2 hJ2) (fun q => absurd rfl q)
theorem lw_on_undo (cx : lw_cx p l s m meth c b L xs G i) (ok : okD D) (hc : cR σ1 D) (hm : mR σ2 D) (hJ : LJ l s G σ1 σ2 H locs) (hl : lv_has ls 4 (lw_lv b s.heap.size i)) (hce : ce ≤ 600000) (hsl : sl ≤ 7302250) (nx : lw_nx p l e s m below meth c b G ls ce sl Qf) : W p l e room_1 s m #[Value.ref b] below meth c H locs ce sl Qf (F0 m 541 ls []) := by
  obtain ⟨v, D', ok', fc, fm⟩ := op_undo ok 
  refine lv_aload_n cx.1.1 cx.1.2.1 dL_law_541 rfl (lv_at hl 1 rfl) ?_
  refine lw_cc cx hJ hc hl hce hsl fc kmL_70 rfl (by decide) rfl (Nat.le_of_ble_eq_true rfl) dL_law_542 (fun σ1' H1 locs1 hJ1 hc1 => ?_)
  refine lv_aload_n cx.1.1 cx.1.2.1 dL_law_545 rfl (lv_at hl 2 rfl) ?_
  refine lw_cm cx hJ1 hm hl hce hsl fm kmL_73 rfl (by decide) rfl (Nat.le_of_ble_eq_true rfl) dL_law_546 (fun σ2' H2 locs2 hJ2 hm2 => ?_)
  exact lv_icmp_eq (tgt := 1054) cx.1.1 cx.1.2.1 dL_law_549 (by decide) (fun _ => nx D' σ1' σ2' H2 locs2 ok' hc1 hm2 hJ2) (fun q => absurd rfl q)
theorem lw_on_where (cx : lw_cx p l s m meth c b L xs G i) (ok : okD D) (hc : cR σ1 D) (hm : mR σ2 D) (hJ : LJ l s G σ1 σ2 H locs) (hl : lv_has ls 4 (lw_lv b s.heap.size i)) (hce : ce ≤ 600000) (hsl : sl ≤ 7302250) (nx : lw_nx p l e s m below meth c b G ls ce sl Qf) : W p l e room_1 s m #[Value.ref b] below meth c H locs ce sl Qf (F0 m 554 ls []) := by
  obtain ⟨v, D', ok', fc, fm⟩ := op_where ok (xs (i + 1)) (xs (i + 2))
  refine lv_aload_n cx.1.1 cx.1.2.1 dL_law_554 rfl (lv_at hl 1 rfl) ?_
  refine lw_arg (k := 1) cx hJ.2.2 hl (by decide) rfl dL_law_555 dL_law_556 dL_law_557 dL_law_558 dL_law_559 ?_
  refine lw_arg (k := 2) cx hJ.2.2 hl (by decide) rfl dL_law_560 dL_law_561 dL_law_562 dL_law_563 dL_law_564 ?_
  refine lw_cc cx hJ hc hl hce hsl fc kmL_74 rfl (by decide) rfl (Nat.le_of_ble_eq_true rfl) dL_law_565 (fun σ1' H1 locs1 hJ1 hc1 => ?_)
  refine lv_aload_n cx.1.1 cx.1.2.1 dL_law_568 rfl (lv_at hl 2 rfl) ?_
  refine lw_arg (k := 1) cx hJ1.2.2 hl (by decide) rfl dL_law_569 dL_law_570 dL_law_571 dL_law_572 dL_law_573 ?_
  refine lw_arg (k := 2) cx hJ1.2.2 hl (by decide) rfl dL_law_574 dL_law_575 dL_law_576 dL_law_577 dL_law_578 ?_
  refine lw_cm cx hJ1 hm hl hce hsl fm kmL_77 rfl (by decide) rfl (Nat.le_of_ble_eq_true rfl) dL_law_579 (fun σ2' H2 locs2 hJ2 hm2 => ?_)
  exact lv_icmp_eq (tgt := 1054) cx.1.1 cx.1.2.1 dL_law_582 (by decide) (fun _ => nx D' σ1' σ2' H2 locs2 ok' hc1 hm2 hJ2) (fun q => absurd rfl q)
theorem lw_on_meets (cx : lw_cx p l s m meth c b L xs G i) (ok : okD D) (hc : cR σ1 D) (hm : mR σ2 D) (hJ : LJ l s G σ1 σ2 H locs) (hl : lv_has ls 4 (lw_lv b s.heap.size i)) (hce : ce ≤ 600000) (hsl : sl ≤ 7302250) (nx : lw_nx p l e s m below meth c b G ls ce sl Qf) : W p l e room_1 s m #[Value.ref b] below meth c H locs ce sl Qf (F0 m 587 ls []) := by
  obtain ⟨v, D', ok', fc, fm⟩ := op_meets ok (xs (i + 1)) (xs (i + 2))
  refine lv_aload_n cx.1.1 cx.1.2.1 dL_law_587 rfl (lv_at hl 1 rfl) ?_
  refine lw_arg (k := 1) cx hJ.2.2 hl (by decide) rfl dL_law_588 dL_law_589 dL_law_590 dL_law_591 dL_law_592 ?_
  refine lw_arg (k := 2) cx hJ.2.2 hl (by decide) rfl dL_law_593 dL_law_594 dL_law_595 dL_law_596 dL_law_597 ?_
  refine lw_cc cx hJ hc hl hce hsl fc kmL_78 rfl (by decide) rfl (Nat.le_of_ble_eq_true rfl) dL_law_598 (fun σ1' H1 locs1 hJ1 hc1 => ?_)
  refine lv_aload_n cx.1.1 cx.1.2.1 dL_law_601 rfl (lv_at hl 2 rfl) ?_
  refine lw_arg (k := 1) cx hJ1.2.2 hl (by decide) rfl dL_law_602 dL_law_603 dL_law_604 dL_law_605 dL_law_606 ?_
  refine lw_arg (k := 2) cx hJ1.2.2 hl (by decide) rfl dL_law_607 dL_law_608 dL_law_609 dL_law_610 dL_law_611 ?_
  refine lw_cm cx hJ1 hm hl hce hsl fm kmL_81 rfl (by decide) rfl (Nat.le_of_ble_eq_true rfl) dL_law_612 (fun σ2' H2 locs2 hJ2 hm2 => ?_)
  exact lv_icmp_eq (tgt := 1054) cx.1.1 cx.1.2.1 dL_law_615 (by decide) (fun _ => nx D' σ1' σ2' H2 locs2 ok' hc1 hm2 hJ2) (fun q => absurd rfl q)
theorem lw_on_way (cx : lw_cx p l s m meth c b L xs G i) (ok : okD D) (hc : cR σ1 D) (hm : mR σ2 D) (hJ : LJ l s G σ1 σ2 H locs) (hl : lv_has ls 4 (lw_lv b s.heap.size i)) (hce : ce ≤ 600000) (hsl : sl ≤ 7302250) (nx : lw_nx p l e s m below meth c b G ls ce sl Qf) : W p l e room_1 s m #[Value.ref b] below meth c H locs ce sl Qf (F0 m 620 ls []) := by
  obtain ⟨v, D', ok', fc, fm⟩ := op_way ok (xs (i + 1)) (xs (i + 2)) (xs (i + 3))
  refine lv_aload_n cx.1.1 cx.1.2.1 dL_law_620 rfl (lv_at hl 1 rfl) ?_
  refine lw_arg (k := 1) cx hJ.2.2 hl (by decide) rfl dL_law_621 dL_law_622 dL_law_623 dL_law_624 dL_law_625 ?_
  refine lw_arg (k := 2) cx hJ.2.2 hl (by decide) rfl dL_law_626 dL_law_627 dL_law_628 dL_law_629 dL_law_630 ?_
  refine lw_arg (k := 3) cx hJ.2.2 hl (by decide) rfl dL_law_631 dL_law_632 dL_law_633 dL_law_634 dL_law_635 ?_
  refine lw_cc cx hJ hc hl hce hsl fc kmL_82 rfl (by decide) rfl (Nat.le_of_ble_eq_true rfl) dL_law_636 (fun σ1' H1 locs1 hJ1 hc1 => ?_)
  refine lv_aload_n cx.1.1 cx.1.2.1 dL_law_639 rfl (lv_at hl 2 rfl) ?_
  refine lw_arg (k := 1) cx hJ1.2.2 hl (by decide) rfl dL_law_640 dL_law_641 dL_law_642 dL_law_643 dL_law_644 ?_
  refine lw_arg (k := 2) cx hJ1.2.2 hl (by decide) rfl dL_law_645 dL_law_646 dL_law_647 dL_law_648 dL_law_649 ?_
  refine lw_arg (k := 3) cx hJ1.2.2 hl (by decide) rfl dL_law_650 dL_law_651 dL_law_652 dL_law_653 dL_law_654 ?_
  refine lw_cm cx hJ1 hm hl hce hsl fm kmL_85 rfl (by decide) rfl (Nat.le_of_ble_eq_true rfl) dL_law_655 (fun σ2' H2 locs2 hJ2 hm2 => ?_)
  exact lv_icmp_eq (tgt := 1054) cx.1.1 cx.1.2.1 dL_law_658 (by decide) (fun _ => nx D' σ1' σ2' H2 locs2 ok' hc1 hm2 hJ2) (fun q => absurd rfl q)
theorem lw_on_delays (cx : lw_cx p l s m meth c b L xs G i) (ok : okD D) (hc : cR σ1 D) (hm : mR σ2 D) (hJ : LJ l s G σ1 σ2 H locs) (hl : lv_has ls 4 (lw_lv b s.heap.size i)) (hce : ce ≤ 600000) (hsl : sl ≤ 7302250) (nx : lw_nx p l e s m below meth c b G ls ce sl Qf) : W p l e room_1 s m #[Value.ref b] below meth c H locs ce sl Qf (F0 m 663 ls []) := by
  obtain ⟨v, D', ok', fc, fm⟩ := op_delays ok (xs (i + 1))
  refine lv_aload_n cx.1.1 cx.1.2.1 dL_law_663 rfl (lv_at hl 1 rfl) ?_
  refine lw_arg (k := 1) cx hJ.2.2 hl (by decide) rfl dL_law_664 dL_law_665 dL_law_666 dL_law_667 dL_law_668 ?_
  refine lw_cc cx hJ hc hl hce hsl fc kmL_86 rfl (by decide) rfl (Nat.le_of_ble_eq_true rfl) dL_law_669 (fun σ1' H1 locs1 hJ1 hc1 => ?_)
  refine lv_aload_n cx.1.1 cx.1.2.1 dL_law_672 rfl (lv_at hl 2 rfl) ?_
  refine lw_arg (k := 1) cx hJ1.2.2 hl (by decide) rfl dL_law_673 dL_law_674 dL_law_675 dL_law_676 dL_law_677 ?_
  refine lw_cm cx hJ1 hm hl hce hsl fm kmL_89 rfl (by decide) rfl (Nat.le_of_ble_eq_true rfl) dL_law_678 (fun σ2' H2 locs2 hJ2 hm2 => ?_)
  exact lv_icmp_eq (tgt := 1054) cx.1.1 cx.1.2.1 dL_law_681 (by decide) (fun _ => nx D' σ1' σ2' H2 locs2 ok' hc1 hm2 hJ2) (fun q => absurd rfl q)
theorem lw_on_served (cx : lw_cx p l s m meth c b L xs G i) (ok : okD D) (hc : cR σ1 D) (hm : mR σ2 D) (hJ : LJ l s G σ1 σ2 H locs) (hl : lv_has ls 4 (lw_lv b s.heap.size i)) (hce : ce ≤ 600000) (hsl : sl ≤ 7302250) (nx : lw_nx p l e s m below meth c b G ls ce sl Qf) : W p l e room_1 s m #[Value.ref b] below meth c H locs ce sl Qf (F0 m 686 ls []) := by
  obtain ⟨v, D', ok', fc, fm⟩ := op_served ok (xs (i + 1))
  refine lv_aload_n cx.1.1 cx.1.2.1 dL_law_686 rfl (lv_at hl 1 rfl) ?_
  refine lw_arg (k := 1) cx hJ.2.2 hl (by decide) rfl dL_law_687 dL_law_688 dL_law_689 dL_law_690 dL_law_691 ?_
  refine lw_cc cx hJ hc hl hce hsl fc kmL_90 rfl (by decide) rfl (Nat.le_of_ble_eq_true rfl) dL_law_692 (fun σ1' H1 locs1 hJ1 hc1 => ?_)
  refine lv_aload_n cx.1.1 cx.1.2.1 dL_law_695 rfl (lv_at hl 2 rfl) ?_
  refine lw_arg (k := 1) cx hJ1.2.2 hl (by decide) rfl dL_law_696 dL_law_697 dL_law_698 dL_law_699 dL_law_700 ?_
  refine lw_cm cx hJ1 hm hl hce hsl fm kmL_93 rfl (by decide) rfl (Nat.le_of_ble_eq_true rfl) dL_law_701 (fun σ2' H2 locs2 hJ2 hm2 => ?_)
  exact lv_icmp_eq (tgt := 1054) cx.1.1 cx.1.2.1 dL_law_704 (by decide) (fun _ => nx D' σ1' σ2' H2 locs2 ok' hc1 hm2 hJ2) (fun q => absurd rfl q)
theorem lw_on_evened (cx : lw_cx p l s m meth c b L xs G i) (ok : okD D) (hc : cR σ1 D) (hm : mR σ2 D) (hJ : LJ l s G σ1 σ2 H locs) (hl : lv_has ls 4 (lw_lv b s.heap.size i)) (hce : ce ≤ 600000) (hsl : sl ≤ 7302250) (nx : lw_nx p l e s m below meth c b G ls ce sl Qf) : W p l e room_1 s m #[Value.ref b] below meth c H locs ce sl Qf (F0 m 709 ls []) := by
  obtain ⟨v, D', ok', fc, fm⟩ := op_evened ok (xs (i + 1)) (xs (i + 2))
  refine lv_aload_n cx.1.1 cx.1.2.1 dL_law_709 rfl (lv_at hl 1 rfl) ?_
  refine lw_arg (k := 1) cx hJ.2.2 hl (by decide) rfl dL_law_710 dL_law_711 dL_law_712 dL_law_713 dL_law_714 ?_
  refine lw_arg (k := 2) cx hJ.2.2 hl (by decide) rfl dL_law_715 dL_law_716 dL_law_717 dL_law_718 dL_law_719 ?_
  refine lw_cc cx hJ hc hl hce hsl fc kmL_94 rfl (by decide) rfl (Nat.le_of_ble_eq_true rfl) dL_law_720 (fun σ1' H1 locs1 hJ1 hc1 => ?_)
  refine lv_aload_n cx.1.1 cx.1.2.1 dL_law_723 rfl (lv_at hl 2 rfl) ?_
  refine lw_arg (k := 1) cx hJ1.2.2 hl (by decide) rfl dL_law_724 dL_law_725 dL_law_726 dL_law_727 dL_law_728 ?_
  refine lw_arg (k := 2) cx hJ1.2.2 hl (by decide) rfl dL_law_729 dL_law_730 dL_law_731 dL_law_732 dL_law_733 ?_
  refine lw_cm cx hJ1 hm hl hce hsl fm kmL_97 rfl (by decide) rfl (Nat.le_of_ble_eq_true rfl) dL_law_734 (fun σ2' H2 locs2 hJ2 hm2 => ?_)
  exact lv_icmp_eq (tgt := 1054) cx.1.1 cx.1.2.1 dL_law_737 (by decide) (fun _ => nx D' σ1' σ2' H2 locs2 ok' hc1 hm2 hJ2) (fun q => absurd rfl q)
theorem lw_on_packed (cx : lw_cx p l s m meth c b L xs G i) (ok : okD D) (hc : cR σ1 D) (hm : mR σ2 D) (hJ : LJ l s G σ1 σ2 H locs) (hl : lv_has ls 4 (lw_lv b s.heap.size i)) (hce : ce ≤ 600000) (hsl : sl ≤ 7302250) (nx : lw_nx p l e s m below meth c b G ls ce sl Qf) : W p l e room_1 s m #[Value.ref b] below meth c H locs ce sl Qf (F0 m 742 ls []) := by
  obtain ⟨v, D', ok', fc, fm⟩ := op_packed ok (xs (i + 1)) (xs (i + 2))
  refine lv_aload_n cx.1.1 cx.1.2.1 dL_law_742 rfl (lv_at hl 1 rfl) ?_
  refine lw_arg (k := 1) cx hJ.2.2 hl (by decide) rfl dL_law_743 dL_law_744 dL_law_745 dL_law_746 dL_law_747 ?_
  refine lw_arg (k := 2) cx hJ.2.2 hl (by decide) rfl dL_law_748 dL_law_749 dL_law_750 dL_law_751 dL_law_752 ?_
  refine lw_cc cx hJ hc hl hce hsl fc kmL_98 rfl (by decide) rfl (Nat.le_of_ble_eq_true rfl) dL_law_753 (fun σ1' H1 locs1 hJ1 hc1 => ?_)
  refine lv_aload_n cx.1.1 cx.1.2.1 dL_law_756 rfl (lv_at hl 2 rfl) ?_
  refine lw_arg (k := 1) cx hJ1.2.2 hl (by decide) rfl dL_law_757 dL_law_758 dL_law_759 dL_law_760 dL_law_761 ?_
  refine lw_arg (k := 2) cx hJ1.2.2 hl (by decide) rfl dL_law_762 dL_law_763 dL_law_764 dL_law_765 dL_law_766 ?_
  refine lw_cm cx hJ1 hm hl hce hsl fm kmL_101 rfl (by decide) rfl (Nat.le_of_ble_eq_true rfl) dL_law_767 (fun σ2' H2 locs2 hJ2 hm2 => ?_)
  exact lv_icmp_eq (tgt := 1054) cx.1.1 cx.1.2.1 dL_law_770 (by decide) (fun _ => nx D' σ1' σ2' H2 locs2 ok' hc1 hm2 hJ2) (fun q => absurd rfl q)
theorem lw_on_covered (cx : lw_cx p l s m meth c b L xs G i) (ok : okD D) (hc : cR σ1 D) (hm : mR σ2 D) (hJ : LJ l s G σ1 σ2 H locs) (hl : lv_has ls 4 (lw_lv b s.heap.size i)) (hce : ce ≤ 600000) (hsl : sl ≤ 7302250) (nx : lw_nx p l e s m below meth c b G ls ce sl Qf) : W p l e room_1 s m #[Value.ref b] below meth c H locs ce sl Qf (F0 m 775 ls []) := by
  obtain ⟨v, D', ok', fc, fm⟩ := op_covered ok (xs (i + 1)) (xs (i + 2))
  refine lv_aload_n cx.1.1 cx.1.2.1 dL_law_775 rfl (lv_at hl 1 rfl) ?_
  refine lw_arg (k := 1) cx hJ.2.2 hl (by decide) rfl dL_law_776 dL_law_777 dL_law_778 dL_law_779 dL_law_780 ?_
  refine lw_arg (k := 2) cx hJ.2.2 hl (by decide) rfl dL_law_781 dL_law_782 dL_law_783 dL_law_784 dL_law_785 ?_
  refine lw_cc cx hJ hc hl hce hsl fc kmL_102 rfl (by decide) rfl (Nat.le_of_ble_eq_true rfl) dL_law_786 (fun σ1' H1 locs1 hJ1 hc1 => ?_)
  refine lv_aload_n cx.1.1 cx.1.2.1 dL_law_789 rfl (lv_at hl 2 rfl) ?_
  refine lw_arg (k := 1) cx hJ1.2.2 hl (by decide) rfl dL_law_790 dL_law_791 dL_law_792 dL_law_793 dL_law_794 ?_
  refine lw_arg (k := 2) cx hJ1.2.2 hl (by decide) rfl dL_law_795 dL_law_796 dL_law_797 dL_law_798 dL_law_799 ?_
  refine lw_cm cx hJ1 hm hl hce hsl fm kmL_105 rfl (by decide) rfl (Nat.le_of_ble_eq_true rfl) dL_law_800 (fun σ2' H2 locs2 hJ2 hm2 => ?_)
  exact lv_icmp_eq (tgt := 1054) cx.1.1 cx.1.2.1 dL_law_803 (by decide) (fun _ => nx D' σ1' σ2' H2 locs2 ok' hc1 hm2 hJ2) (fun q => absurd rfl q)
theorem lw_on_calm (cx : lw_cx p l s m meth c b L xs G i) (ok : okD D) (hc : cR σ1 D) (hm : mR σ2 D) (hJ : LJ l s G σ1 σ2 H locs) (hl : lv_has ls 4 (lw_lv b s.heap.size i)) (hce : ce ≤ 600000) (hsl : sl ≤ 7302250) (nx : lw_nx p l e s m below meth c b G ls ce sl Qf) : W p l e room_1 s m #[Value.ref b] below meth c H locs ce sl Qf (F0 m 808 ls []) := by
  obtain ⟨v, D', ok', fc, fm⟩ := op_calm ok (xs (i + 1)) (xs (i + 2))
  refine lv_aload_n cx.1.1 cx.1.2.1 dL_law_808 rfl (lv_at hl 1 rfl) ?_
  refine lw_arg (k := 1) cx hJ.2.2 hl (by decide) rfl dL_law_809 dL_law_810 dL_law_811 dL_law_812 dL_law_813 ?_
  refine lw_arg (k := 2) cx hJ.2.2 hl (by decide) rfl dL_law_814 dL_law_815 dL_law_816 dL_law_817 dL_law_818 ?_
  refine lw_cc cx hJ hc hl hce hsl fc kmL_106 rfl (by decide) rfl (Nat.le_of_ble_eq_true rfl) dL_law_819 (fun σ1' H1 locs1 hJ1 hc1 => ?_)
  refine lv_aload_n cx.1.1 cx.1.2.1 dL_law_822 rfl (lv_at hl 2 rfl) ?_
  refine lw_arg (k := 1) cx hJ1.2.2 hl (by decide) rfl dL_law_823 dL_law_824 dL_law_825 dL_law_826 dL_law_827 ?_
  refine lw_arg (k := 2) cx hJ1.2.2 hl (by decide) rfl dL_law_828 dL_law_829 dL_law_830 dL_law_831 dL_law_832 ?_
  refine lw_cm cx hJ1 hm hl hce hsl fm kmL_109 rfl (by decide) rfl (Nat.le_of_ble_eq_true rfl) dL_law_833 (fun σ2' H2 locs2 hJ2 hm2 => ?_)
  exact lv_icmp_eq (tgt := 1054) cx.1.1 cx.1.2.1 dL_law_836 (by decide) (fun _ => nx D' σ1' σ2' H2 locs2 ok' hc1 hm2 hJ2) (fun q => absurd rfl q)
theorem lw_on_see (cx : lw_cx p l s m meth c b L xs G i) (ok : okD D) (hc : cR σ1 D) (hm : mR σ2 D) (hJ : LJ l s G σ1 σ2 H locs) (hl : lv_has ls 4 (lw_lv b s.heap.size i)) (hce : ce ≤ 600000) (hsl : sl ≤ 7302250) (nx : lw_nx p l e s m below meth c b G ls ce sl Qf) : W p l e room_1 s m #[Value.ref b] below meth c H locs ce sl Qf (F0 m 841 ls []) := by
  obtain ⟨v, D', ok', fc, fm⟩ := op_see ok (xs (i + 1)) (xs (i + 2)) (bq (xs (i + 3)))
  refine lv_aload_n cx.1.1 cx.1.2.1 dL_law_841 rfl (lv_at hl 1 rfl) ?_
  refine lw_arg (k := 1) cx hJ.2.2 hl (by decide) rfl dL_law_842 dL_law_843 dL_law_844 dL_law_845 dL_law_846 ?_
  refine lw_arg (k := 2) cx hJ.2.2 hl (by decide) rfl dL_law_847 dL_law_848 dL_law_849 dL_law_850 dL_law_851 ?_
  refine lw_arg (k := 3) cx hJ.2.2 hl (by decide) rfl dL_law_852 dL_law_853 dL_law_854 dL_law_855 dL_law_856 ?_
  refine lw_bool cx dL_law_857 dL_law_860 dL_law_861 dL_law_864 ?_
  refine lw_cc cx hJ hc hl hce hsl fc kmL_110 rfl (by decide) rfl (Nat.le_of_ble_eq_true rfl) dL_law_865 (fun σ1' H1 locs1 hJ1 hc1 => ?_)
  refine lv_aload_n cx.1.1 cx.1.2.1 dL_law_868 rfl (lv_at hl 2 rfl) ?_
  refine lw_arg (k := 1) cx hJ1.2.2 hl (by decide) rfl dL_law_869 dL_law_870 dL_law_871 dL_law_872 dL_law_873 ?_
  refine lw_arg (k := 2) cx hJ1.2.2 hl (by decide) rfl dL_law_874 dL_law_875 dL_law_876 dL_law_877 dL_law_878 ?_
  refine lw_arg (k := 3) cx hJ1.2.2 hl (by decide) rfl dL_law_879 dL_law_880 dL_law_881 dL_law_882 dL_law_883 ?_
  refine lw_bool cx dL_law_884 dL_law_887 dL_law_888 dL_law_891 ?_
  refine lw_cm cx hJ1 hm hl hce hsl fm kmL_113 rfl (by decide) rfl (Nat.le_of_ble_eq_true rfl) dL_law_892 (fun σ2' H2 locs2 hJ2 hm2 => ?_)
  exact lv_icmp_eq (tgt := 1054) cx.1.1 cx.1.2.1 dL_law_895 (by decide) (fun _ => nx D' σ1' σ2' H2 locs2 ok' hc1 hm2 hJ2) (fun q => absurd rfl q)
theorem lw_on_spiller (cx : lw_cx p l s m meth c b L xs G i) (ok : okD D) (hc : cR σ1 D) (hm : mR σ2 D) (hJ : LJ l s G σ1 σ2 H locs) (hl : lv_has ls 4 (lw_lv b s.heap.size i)) (hce : ce ≤ 600000) (hsl : sl ≤ 7302250) (nx : lw_nx p l e s m below meth c b G ls ce sl Qf) : W p l e room_1 s m #[Value.ref b] below meth c H locs ce sl Qf (F0 m 900 ls []) := by
  obtain ⟨v, D', ok', fc, fm⟩ := op_spiller ok 
  refine lv_aload_n cx.1.1 cx.1.2.1 dL_law_900 rfl (lv_at hl 1 rfl) ?_
  refine lw_cc cx hJ hc hl hce hsl fc kmL_114 rfl (by decide) rfl (Nat.le_of_ble_eq_true rfl) dL_law_901 (fun σ1' H1 locs1 hJ1 hc1 => ?_)
  refine lv_aload_n cx.1.1 cx.1.2.1 dL_law_904 rfl (lv_at hl 2 rfl) ?_
  refine lw_cm cx hJ1 hm hl hce hsl fm kmL_117 rfl (by decide) rfl (Nat.le_of_ble_eq_true rfl) dL_law_905 (fun σ2' H2 locs2 hJ2 hm2 => ?_)
  exact lv_icmp_eq (tgt := 1054) cx.1.1 cx.1.2.1 dL_law_908 (by decide) (fun _ => nx D' σ1' σ2' H2 locs2 ok' hc1 hm2 hJ2) (fun q => absurd rfl q)
theorem lw_on_look (cx : lw_cx p l s m meth c b L xs G i) (ok : okD D) (hc : cR σ1 D) (hm : mR σ2 D) (hJ : LJ l s G σ1 σ2 H locs) (hl : lv_has ls 4 (lw_lv b s.heap.size i)) (hce : ce ≤ 600000) (hsl : sl ≤ 7302250) (nx : lw_nx p l e s m below meth c b G ls ce sl Qf) : W p l e room_1 s m #[Value.ref b] below meth c H locs ce sl Qf (F0 m 913 ls []) := by
  obtain ⟨v, D', ok', fc, fm⟩ := op_look ok 
  refine lv_aload_n cx.1.1 cx.1.2.1 dL_law_913 rfl (lv_at hl 1 rfl) ?_
  refine lw_cc cx hJ hc hl hce hsl fc kmL_118 rfl (by decide) rfl (Nat.le_of_ble_eq_true rfl) dL_law_914 (fun σ1' H1 locs1 hJ1 hc1 => ?_)
  refine lv_aload_n cx.1.1 cx.1.2.1 dL_law_917 rfl (lv_at hl 2 rfl) ?_
  refine lw_cm cx hJ1 hm hl hce hsl fm kmL_121 rfl (by decide) rfl (Nat.le_of_ble_eq_true rfl) dL_law_918 (fun σ2' H2 locs2 hJ2 hm2 => ?_)
  exact lv_icmp_eq (tgt := 1054) cx.1.1 cx.1.2.1 dL_law_921 (by decide) (fun _ => nx D' σ1' σ2' H2 locs2 ok' hc1 hm2 hJ2) (fun q => absurd rfl q)
theorem lw_on_write (cx : lw_cx p l s m meth c b L xs G i) (ok : okD D) (hc : cR σ1 D) (hm : mR σ2 D) (hJ : LJ l s G σ1 σ2 H locs) (hl : lv_has ls 4 (lw_lv b s.heap.size i)) (hce : ce ≤ 600000) (hsl : sl ≤ 7302250) (nx : lw_nx p l e s m below meth c b G ls ce sl Qf) : W p l e room_1 s m #[Value.ref b] below meth c H locs ce sl Qf (F0 m 926 ls []) := by
  obtain ⟨v, D', ok', fc, fm⟩ := op_write ok (xs (i + 1)) (xs (i + 2))
  refine lv_aload_n cx.1.1 cx.1.2.1 dL_law_926 rfl (lv_at hl 1 rfl) ?_
  refine lw_arg (k := 1) cx hJ.2.2 hl (by decide) rfl dL_law_927 dL_law_928 dL_law_929 dL_law_930 dL_law_931 ?_
  refine lw_arg (k := 2) cx hJ.2.2 hl (by decide) rfl dL_law_932 dL_law_933 dL_law_934 dL_law_935 dL_law_936 ?_
  refine lw_cc cx hJ hc hl hce hsl fc kmL_122 rfl (by decide) rfl (Nat.le_of_ble_eq_true rfl) dL_law_937 (fun σ1' H1 locs1 hJ1 hc1 => ?_)
  refine lv_aload_n cx.1.1 cx.1.2.1 dL_law_940 rfl (lv_at hl 2 rfl) ?_
  refine lw_arg (k := 1) cx hJ1.2.2 hl (by decide) rfl dL_law_941 dL_law_942 dL_law_943 dL_law_944 dL_law_945 ?_
  refine lw_arg (k := 2) cx hJ1.2.2 hl (by decide) rfl dL_law_946 dL_law_947 dL_law_948 dL_law_949 dL_law_950 ?_
  refine lw_cm cx hJ1 hm hl hce hsl fm kmL_125 rfl (by decide) rfl (Nat.le_of_ble_eq_true rfl) dL_law_951 (fun σ2' H2 locs2 hJ2 hm2 => ?_)
  exact lv_icmp_eq (tgt := 1054) cx.1.1 cx.1.2.1 dL_law_954 (by decide) (fun _ => nx D' σ1' σ2' H2 locs2 ok' hc1 hm2 hJ2) (fun q => absurd rfl q)
theorem lw_on_tear (cx : lw_cx p l s m meth c b L xs G i) (ok : okD D) (hc : cR σ1 D) (hm : mR σ2 D) (hJ : LJ l s G σ1 σ2 H locs) (hl : lv_has ls 4 (lw_lv b s.heap.size i)) (hce : ce ≤ 600000) (hsl : sl ≤ 7302250) (nx : lw_nx p l e s m below meth c b G ls ce sl Qf) : W p l e room_1 s m #[Value.ref b] below meth c H locs ce sl Qf (F0 m 959 ls []) := by
  obtain ⟨v, D', ok', fc, fm⟩ := op_tear ok 
  refine lv_aload_n cx.1.1 cx.1.2.1 dL_law_959 rfl (lv_at hl 1 rfl) ?_
  refine lw_cc cx hJ hc hl hce hsl fc kmL_126 rfl (by decide) rfl (Nat.le_of_ble_eq_true rfl) dL_law_960 (fun σ1' H1 locs1 hJ1 hc1 => ?_)
  refine lv_aload_n cx.1.1 cx.1.2.1 dL_law_963 rfl (lv_at hl 2 rfl) ?_
  refine lw_cm cx hJ1 hm hl hce hsl fm kmL_129 rfl (by decide) rfl (Nat.le_of_ble_eq_true rfl) dL_law_964 (fun σ2' H2 locs2 hJ2 hm2 => ?_)
  exact lv_icmp_eq (tgt := 1054) cx.1.1 cx.1.2.1 dL_law_967 (by decide) (fun _ => nx D' σ1' σ2' H2 locs2 ok' hc1 hm2 hJ2) (fun q => absurd rfl q)
theorem lw_on_judge (cx : lw_cx p l s m meth c b L xs G i) (ok : okD D) (hc : cR σ1 D) (hm : mR σ2 D) (hJ : LJ l s G σ1 σ2 H locs) (hl : lv_has ls 4 (lw_lv b s.heap.size i)) (hce : ce ≤ 600000) (hsl : sl ≤ 7302250) (nx : lw_nx p l e s m below meth c b G ls ce sl Qf) : W p l e room_1 s m #[Value.ref b] below meth c H locs ce sl Qf (F0 m 972 ls []) := by
  obtain ⟨v, D', ok', fc, fm⟩ := op_judge ok 
  refine lv_aload_n cx.1.1 cx.1.2.1 dL_law_972 rfl (lv_at hl 1 rfl) ?_
  refine lw_cc cx hJ hc hl hce hsl fc kmL_130 rfl (by decide) rfl (Nat.le_of_ble_eq_true rfl) dL_law_973 (fun σ1' H1 locs1 hJ1 hc1 => ?_)
  refine lv_aload_n cx.1.1 cx.1.2.1 dL_law_976 rfl (lv_at hl 2 rfl) ?_
  refine lw_cm cx hJ1 hm hl hce hsl fm kmL_133 rfl (by decide) rfl (Nat.le_of_ble_eq_true rfl) dL_law_977 (fun σ2' H2 locs2 hJ2 hm2 => ?_)
  exact lv_icmp_eq (tgt := 1054) cx.1.1 cx.1.2.1 dL_law_980 (by decide) (fun _ => nx D' σ1' σ2' H2 locs2 ok' hc1 hm2 hJ2) (fun q => absurd rfl q)
theorem lw_on_seed (cx : lw_cx p l s m meth c b L xs G i) (ok : okD D) (hc : cR σ1 D) (hm : mR σ2 D) (hJ : LJ l s G σ1 σ2 H locs) (hl : lv_has ls 4 (lw_lv b s.heap.size i)) (hce : ce ≤ 600000) (hsl : sl ≤ 7302250) (nx : lw_nx p l e s m below meth c b G ls ce sl Qf) : W p l e room_1 s m #[Value.ref b] below meth c H locs ce sl Qf (F0 m 985 ls []) := by
  obtain ⟨v, D', ok', fc, fm⟩ := op_seed ok (xs (i + 1))
  refine lv_aload_n cx.1.1 cx.1.2.1 dL_law_985 rfl (lv_at hl 1 rfl) ?_
  refine lw_arg (k := 1) cx hJ.2.2 hl (by decide) rfl dL_law_986 dL_law_987 dL_law_988 dL_law_989 dL_law_990 ?_
  refine lw_cc cx hJ hc hl hce hsl fc kmL_134 rfl (by decide) rfl (Nat.le_of_ble_eq_true rfl) dL_law_991 (fun σ1' H1 locs1 hJ1 hc1 => ?_)
  refine lv_aload_n cx.1.1 cx.1.2.1 dL_law_994 rfl (lv_at hl 2 rfl) ?_
  refine lw_arg (k := 1) cx hJ1.2.2 hl (by decide) rfl dL_law_995 dL_law_996 dL_law_997 dL_law_998 dL_law_999 ?_
  refine lw_cm cx hJ1 hm hl hce hsl fm kmL_137 rfl (by decide) rfl (Nat.le_of_ble_eq_true rfl) dL_law_1000 (fun σ2' H2 locs2 hJ2 hm2 => ?_)
  exact lv_icmp_eq (tgt := 1054) cx.1.1 cx.1.2.1 dL_law_1003 (by decide) (fun _ => nx D' σ1' σ2' H2 locs2 ok' hc1 hm2 hJ2) (fun q => absurd rfl q)
theorem lw_on_keep (cx : lw_cx p l s m meth c b L xs G i) (ok : okD D) (hc : cR σ1 D) (hm : mR σ2 D) (hJ : LJ l s G σ1 σ2 H locs) (hl : lv_has ls 4 (lw_lv b s.heap.size i)) (hce : ce ≤ 600000) (hsl : sl ≤ 7302250) (nx : lw_nx p l e s m below meth c b G ls ce sl Qf) : W p l e room_1 s m #[Value.ref b] below meth c H locs ce sl Qf (F0 m 1008 ls []) := by
  obtain ⟨v, D', ok', fc, fm⟩ := op_keep ok (xs (i + 1))
  refine lv_aload_n cx.1.1 cx.1.2.1 dL_law_1008 rfl (lv_at hl 1 rfl) ?_
  refine lw_arg (k := 1) cx hJ.2.2 hl (by decide) rfl dL_law_1009 dL_law_1010 dL_law_1011 dL_law_1012 dL_law_1013 ?_
  refine lw_cc cx hJ hc hl hce hsl fc kmL_138 rfl (by decide) rfl (Nat.le_of_ble_eq_true rfl) dL_law_1014 (fun σ1' H1 locs1 hJ1 hc1 => ?_)
  refine lv_aload_n cx.1.1 cx.1.2.1 dL_law_1017 rfl (lv_at hl 2 rfl) ?_
  refine lw_arg (k := 1) cx hJ1.2.2 hl (by decide) rfl dL_law_1018 dL_law_1019 dL_law_1020 dL_law_1021 dL_law_1022 ?_
  refine lw_cm cx hJ1 hm hl hce hsl fm kmL_141 rfl (by decide) rfl (Nat.le_of_ble_eq_true rfl) dL_law_1023 (fun σ2' H2 locs2 hJ2 hm2 => ?_)
  exact lv_icmp_eq (tgt := 1054) cx.1.1 cx.1.2.1 dL_law_1026 (by decide) (fun _ => nx D' σ1' σ2' H2 locs2 ok' hc1 hm2 hJ2) (fun q => absurd rfl q)
theorem lw_on_goBack (cx : lw_cx p l s m meth c b L xs G i) (ok : okD D) (hc : cR σ1 D) (hm : mR σ2 D) (hJ : LJ l s G σ1 σ2 H locs) (hl : lv_has ls 4 (lw_lv b s.heap.size i)) (hce : ce ≤ 600000) (hsl : sl ≤ 7302250) (nx : lw_nx p l e s m below meth c b G ls ce sl Qf) : W p l e room_1 s m #[Value.ref b] below meth c H locs ce sl Qf (F0 m 1031 ls []) := by
  obtain ⟨v, D', ok', fc, fm⟩ := op_goBack ok (xs (i + 1))
  refine lv_aload_n cx.1.1 cx.1.2.1 dL_law_1031 rfl (lv_at hl 1 rfl) ?_
  refine lw_arg (k := 1) cx hJ.2.2 hl (by decide) rfl dL_law_1032 dL_law_1033 dL_law_1034 dL_law_1035 dL_law_1036 ?_
  refine lw_cc cx hJ hc hl hce hsl fc kmL_142 rfl (by decide) rfl (Nat.le_of_ble_eq_true rfl) dL_law_1037 (fun σ1' H1 locs1 hJ1 hc1 => ?_)
  refine lv_aload_n cx.1.1 cx.1.2.1 dL_law_1040 rfl (lv_at hl 2 rfl) ?_
  refine lw_arg (k := 1) cx hJ1.2.2 hl (by decide) rfl dL_law_1041 dL_law_1042 dL_law_1043 dL_law_1044 dL_law_1045 ?_
  refine lw_cm cx hJ1 hm hl hce hsl fm kmL_145 rfl (by decide) rfl (Nat.le_of_ble_eq_true rfl) dL_law_1046 (fun σ2' H2 locs2 hJ2 hm2 => ?_)
  exact lv_icmp_eq (tgt := 1054) cx.1.1 cx.1.2.1 dL_law_1049 (by decide) (fun _ => nx D' σ1' σ2' H2 locs2 ok' hc1 hm2 hJ2) (fun q => absurd rfl q)
end LAWC
