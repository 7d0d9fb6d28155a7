/-! THE LAW, 1: both objects hold the same state, call by call -/
def INV (μ : Mem) (S : SG) : Prop := CI μ μ S ∧ MJ μ μ S ∧ WF S
section Law1
variable {Sc : SCR} {μ μ1 μ2 μ0 : Mem} {n : Nat × Nat} {Q : PQ} {S S1 : SG} {i : Nat}
theorem MJ.of_ci (h : MJ μ μ S) (h1 : CI μ μ1 S1) : MJ μ1 μ1 S := by
  have H := h1.1
  obtain ⟨-, b1, b2, b3, b4, b5, b6, b7, b8, b9, b10, b11, b12, b13, b14⟩ := h
  refine ⟨⟨fun q _ => ⟨rfl, rfl⟩, rfl⟩, ?_, ?_, ?_, ?_, fun hk => ?_, ?_, ?_, ?_, ?_, ?_, ?_, ?_, ?_, ?_⟩
  · unfold MR at *
    rw [(H 71 (by decide)).2.2]; exact b1
  · rw [(H 72 (by decide)).1]; exact b2
  · rw [(H 75 (by decide)).1]; exact b3
  · rw [(H 71 (by decide)).1]; exact b4
  · rw [(H 73 (by decide)).1]; exact b5 hk
  · rw [(H 76 (by decide)).1]; exact b6
  · rw [(H 71 (by decide)).1]; exact b7
  · rw [(H 81 (by decide)).1]; exact b8
  · rw [(H 82 (by decide)).1]; exact b9
  · rw [(H 83 (by decide)).2.1]; exact b10
  · rw [(H 77 (by decide)).1]; exact b11
  · rw [(H 78 (by decide)).1]; exact b12
  · rw [(H 79 (by decide)).1]; exact b13
  · rw [(H 80 (by decide)).1]; exact b14
theorem GA.rows {g : Nat} {s : Nat → Int32} (hg : gOk g) (hm : mny s ≤ 10) (h : GA μ1 g s) (H : ∀ q, q < 71 → μ2.1 q = μ1.1 q ∧ μ2.2.1 q = μ1.2.1 q) (hr : μ2.2.2 = μ1.2.2) : GA μ2 g s := by
  have hg39 : g ≤ 39 := by rcases hg with rfl | rfl | rfl <;> omega
  obtain ⟨a, b, c⟩ := h
  refine ⟨by rw [hr]; exact a, ?_, fun i hi => ?_⟩
  · unfold GH
    rw [(H g (by omega)).1]; exact b
  · rw [(H (g + 9 + i) (by omega)).1, hr]; exact c i hi
theorem CI.of_mj (h1 : CI μ μ1 S) (hW : WF S) (h2 : MJ μ1 μ2 S1) : CI μ2 μ2 S := by
  obtain ⟨⟨H, hr⟩, -⟩ := h2
  obtain ⟨-, x, c, d, e, f', t1, t2, t3, t4, t5⟩ := h1
  refine ⟨fun q _ => ⟨rfl, rfl, rfl⟩, by rw [hr]; exact x, fun j k hj hk => ?_, d.rows g1 hW.1.2.1 H hr, fun e' => (e e').rows g39 (hW.2.1 e').2.1 H hr, ?_, fun k hk => ?_, ?_, fun k hk => ?_, fun i hi => ?_, fun i hi j hj => ?_⟩
  · rw [(H (j + 3 + k) (by rcases hj with rfl | rfl | rfl <;> omega)).1]; exact c j k hj hk
  · rw [(H 0 (by decide)).1]; exact f'
  · rw [(H 62 (by decide)).1]; exact t1 k hk
  · rw [(H 59 (by decide)).1]; exact t2
  · rw [(H 60 (by decide)).1]; exact t3 k hk
  · rw [(H (63 + 2 * i) (by omega)).1]; exact t4 i hi
  · rw [(H (64 + 2 * i) (by omega)).2]; exact t5 i hi j hj
theorem INV.of (h1 : CI μ μ1 S) (hW : WF S) (h2 : MJ μ1 μ2 S) : INV μ2 S := ⟨h1.of_mj hW h2, ⟨⟨fun q _ => ⟨rfl, rfl⟩, rfl⟩, h2.2⟩, hW⟩
theorem aw_sldN {M : MD} {pc c : Nat} {lv : List (Nat × Value)} {st : List Value} {K : List kd} {x : Int32} (hx : x = nI c) (hc : c < Sc.1) (hL : Sc.1 ≤ 3072) (d : decode M.2.1 pc = .ok (.iaload, 1)) (h : AW Sc M (pc + 1) lv (.int (Sc.2 c) :: st) K μ n Q) : AW Sc M pc lv (.int x :: .ref 999 :: st) K μ n Q := by
  subst hx
  refine aw_sld (vp_in_nI hc (by omega)) d ?_
  rw [nI_clamp (by omega)]
  exact h
/-- what comes behind a call -/
def LNx (Sc : SCR) (n : Nat × Nat) (Q : PQ) (i : Nat) : Prop := ∀ μ' S', INV μ' S' → AW Sc mL_law 1288 [(0, .ref 999), (1, .ref 0), (2, .ref 71), (3, .int (nI i))] [] K0 μ' n Q
theorem l_slack (hi : i + 6 ≤ Sc.1) (hL : Sc.1 ≤ 3072) (h : INV μ S) (next : LNx Sc n Q i) : AW Sc mL_law 196 [(0, .ref 999), (1, .ref 0), (2, .ref 71), (3, .int (nI i))] [] K0 μ n Q := by
  refine aw_aload_n rfl dL_law_196 ?_
  refine aw_aload_n rfl dL_law_197 ?_
  refine aw_iload_n rfl dL_law_198 ?_
  refine aw_iconst (v := 1) (by decide) dL_law_199 ?_
  refine aw_iadd dL_law_200 ?_
  refine aw_sldN (c := i + 1) (nI_add i 1) (by omega) hL dL_law_201 ?_
  refine aw_v1 kL_13 ⟨ble rfl, ble rfl⟩ (rcX) (ble rfl) dL_law_202 (e_slack h.1 h.2.2 (fun μ1 h1 => ?_))
  refine aw_aload_n rfl dL_law_205 ?_
  refine aw_aload_n rfl dL_law_206 ?_
  refine aw_iload_n rfl dL_law_207 ?_
  refine aw_iconst (v := 1) (by decide) dL_law_208 ?_
  refine aw_iadd dL_law_209 ?_
  refine aw_sldN (c := i + 1) (nI_add i 1) (by omega) hL dL_law_210 ?_
  refine aw_v1 kL_17 ⟨ble rfl, ble rfl⟩ (rcM) (ble rfl) dL_law_211 (q_slack (h.2.1.of_ci h1) (fun μ2 h2 => ?_))
  refine aw_icmp_eq 1288 rfl dL_law_214 (fun _ => ?_) (fun c_ => absurd (rfl) c_)
  exact next μ2 _ (INV.of h1 (W_slack h.2.2) h2)
theorem l_harvest (hi : i + 6 ≤ Sc.1) (hL : Sc.1 ≤ 3072) (h : INV μ S) (next : LNx Sc n Q i) : AW Sc mL_law 219 [(0, .ref 999), (1, .ref 0), (2, .ref 71), (3, .int (nI i))] [] K0 μ n Q := by
  refine aw_aload_n rfl dL_law_219 ?_
  refine aw_aload_n rfl dL_law_220 ?_
  refine aw_iload_n rfl dL_law_221 ?_
  refine aw_iconst (v := 1) (by decide) dL_law_222 ?_
  refine aw_iadd dL_law_223 ?_
  refine aw_sldN (c := i + 1) (nI_add i 1) (by omega) hL dL_law_224 ?_
  refine aw_v1 kL_18 ⟨ble rfl, ble rfl⟩ (rcX) (ble rfl) dL_law_225 (e_harvest h.1 h.2.2 (fun μ1 h1 => ?_))
  refine aw_aload_n rfl dL_law_228 ?_
  refine aw_aload_n rfl dL_law_229 ?_
  refine aw_iload_n rfl dL_law_230 ?_
  refine aw_iconst (v := 1) (by decide) dL_law_231 ?_
  refine aw_iadd dL_law_232 ?_
  refine aw_sldN (c := i + 1) (nI_add i 1) (by omega) hL dL_law_233 ?_
  refine aw_v1 kL_21 ⟨ble rfl, ble rfl⟩ (rcM) (ble rfl) dL_law_234 (q_harvest (h.2.1.of_ci h1) (fun μ2 h2 => ?_))
  refine aw_icmp_eq 1288 rfl dL_law_237 (fun _ => ?_) (fun c_ => absurd (rfl) c_)
  exact next μ2 _ (INV.of h1 (W_harvest h.2.2) h2)
theorem l_knot (hi : i + 6 ≤ Sc.1) (hL : Sc.1 ≤ 3072) (h : INV μ S) (next : LNx Sc n Q i) : AW Sc mL_law 242 [(0, .ref 999), (1, .ref 0), (2, .ref 71), (3, .int (nI i))] [] K0 μ n Q := by
  refine aw_aload_n rfl dL_law_242 ?_
  refine aw_aload_n rfl dL_law_243 ?_
  refine aw_iload_n rfl dL_law_244 ?_
  refine aw_iconst (v := 1) (by decide) dL_law_245 ?_
  refine aw_iadd dL_law_246 ?_
  refine aw_sldN (c := i + 1) (nI_add i 1) (by omega) hL dL_law_247 ?_
  refine aw_v1 kL_22 ⟨ble rfl, ble rfl⟩ (rcX) (ble rfl) dL_law_248 (e_knot h.1 h.2.2 (fun μ1 h1 => ?_))
  refine aw_aload_n rfl dL_law_251 ?_
  refine aw_aload_n rfl dL_law_252 ?_
  refine aw_iload_n rfl dL_law_253 ?_
  refine aw_iconst (v := 1) (by decide) dL_law_254 ?_
  refine aw_iadd dL_law_255 ?_
  refine aw_sldN (c := i + 1) (nI_add i 1) (by omega) hL dL_law_256 ?_
  refine aw_v1 kL_25 ⟨ble rfl, ble rfl⟩ (rcM) (ble rfl) dL_law_257 (q_knot (h.2.1.of_ci h1) (fun μ2 h2 => ?_))
  refine aw_icmp_eq 1288 rfl dL_law_260 (fun _ => ?_) (fun c_ => absurd (rfl) c_)
  exact next μ2 _ (INV.of h1 (W_knot h.2.2) h2)
theorem l_now (hi : i + 6 ≤ Sc.1) (hL : Sc.1 ≤ 3072) (h : INV μ S) (next : LNx Sc n Q i) : AW Sc mL_law 265 [(0, .ref 999), (1, .ref 0), (2, .ref 71), (3, .int (nI i))] [] K0 μ n Q := by
  refine aw_aload_n rfl dL_law_265 ?_
  refine aw_aload_n rfl dL_law_266 ?_
  refine aw_iload_n rfl dL_law_267 ?_
  refine aw_iconst (v := 1) (by decide) dL_law_268 ?_
  refine aw_iadd dL_law_269 ?_
  refine aw_sldN (c := i + 1) (nI_add i 1) (by omega) hL dL_law_270 ?_
  refine aw_v1 kL_26 ⟨ble rfl, ble rfl⟩ (rcX) (ble rfl) dL_law_271 (e_now h.1 h.2.2 (fun μ1 h1 => ?_))
  refine aw_aload_n rfl dL_law_274 ?_
  refine aw_aload_n rfl dL_law_275 ?_
  refine aw_iload_n rfl dL_law_276 ?_
  refine aw_iconst (v := 1) (by decide) dL_law_277 ?_
  refine aw_iadd dL_law_278 ?_
  refine aw_sldN (c := i + 1) (nI_add i 1) (by omega) hL dL_law_279 ?_
  refine aw_v1 kL_29 ⟨ble rfl, ble rfl⟩ (rcM) (ble rfl) dL_law_280 (q_now (h.2.1.of_ci h1) h.2.2 (fun μ2 h2 => ?_))
  refine aw_icmp_eq 1288 rfl dL_law_283 (fun _ => ?_) (fun c_ => absurd (rfl) c_)
  exact next μ2 _ (INV.of h1 (W_now h.2.2) h2)
theorem l_person (hi : i + 6 ≤ Sc.1) (hL : Sc.1 ≤ 3072) (h : INV μ S) (next : LNx Sc n Q i) : AW Sc mL_law 288 [(0, .ref 999), (1, .ref 0), (2, .ref 71), (3, .int (nI i))] [] K0 μ n Q := by
  refine aw_aload_n rfl dL_law_288 ?_
  refine aw_aload_n rfl dL_law_289 ?_
  refine aw_iload_n rfl dL_law_290 ?_
  refine aw_iconst (v := 1) (by decide) dL_law_291 ?_
  refine aw_iadd dL_law_292 ?_
  refine aw_sldN (c := i + 1) (nI_add i 1) (by omega) hL dL_law_293 ?_
  refine aw_aload_n rfl dL_law_294 ?_
  refine aw_iload_n rfl dL_law_295 ?_
  refine aw_iconst (v := 2) (by decide) dL_law_296 ?_
  refine aw_iadd dL_law_297 ?_
  refine aw_sldN (c := i + 2) (nI_add i 2) (by omega) hL dL_law_298 ?_
  refine aw_v2 kL_30 ⟨ble rfl, ble rfl⟩ (rcX) (ble rfl) dL_law_299 (e_person h.1 h.2.2 (fun μ1 h1 => ?_))
  refine aw_aload_n rfl dL_law_302 ?_
  refine aw_aload_n rfl dL_law_303 ?_
  refine aw_iload_n rfl dL_law_304 ?_
  refine aw_iconst (v := 1) (by decide) dL_law_305 ?_
  refine aw_iadd dL_law_306 ?_
  refine aw_sldN (c := i + 1) (nI_add i 1) (by omega) hL dL_law_307 ?_
  refine aw_aload_n rfl dL_law_308 ?_
  refine aw_iload_n rfl dL_law_309 ?_
  refine aw_iconst (v := 2) (by decide) dL_law_310 ?_
  refine aw_iadd dL_law_311 ?_
  refine aw_sldN (c := i + 2) (nI_add i 2) (by omega) hL dL_law_312 ?_
  refine aw_v2 kL_34 ⟨ble rfl, ble rfl⟩ (rcM) (ble rfl) dL_law_313 (q_person (h.2.1.of_ci h1) h.2.2 (fun μ2 h2 => ?_))
  refine aw_icmp_eq 1288 rfl dL_law_316 (fun _ => ?_) (fun c_ => absurd (rfl) c_)
  exact next μ2 _ (INV.of h1 (W_person h.2.2) h2)
theorem l_of (hi : i + 6 ≤ Sc.1) (hL : Sc.1 ≤ 3072) (h : INV μ S) (next : LNx Sc n Q i) : AW Sc mL_law 321 [(0, .ref 999), (1, .ref 0), (2, .ref 71), (3, .int (nI i))] [] K0 μ n Q := by
  refine aw_aload_n rfl dL_law_321 ?_
  refine aw_aload_n rfl dL_law_322 ?_
  refine aw_iload_n rfl dL_law_323 ?_
  refine aw_iconst (v := 1) (by decide) dL_law_324 ?_
  refine aw_iadd dL_law_325 ?_
  refine aw_sldN (c := i + 1) (nI_add i 1) (by omega) hL dL_law_326 ?_
  refine aw_aload_n rfl dL_law_327 ?_
  refine aw_iload_n rfl dL_law_328 ?_
  refine aw_iconst (v := 2) (by decide) dL_law_329 ?_
  refine aw_iadd dL_law_330 ?_
  refine aw_sldN (c := i + 2) (nI_add i 2) (by omega) hL dL_law_331 ?_
  refine aw_v2 kL_35 ⟨ble rfl, ble rfl⟩ (rcX) (ble rfl) dL_law_332 (e_of h.1 h.2.2 (fun μ1 h1 => ?_))
  refine aw_aload_n rfl dL_law_335 ?_
  refine aw_aload_n rfl dL_law_336 ?_
  refine aw_iload_n rfl dL_law_337 ?_
  refine aw_iconst (v := 1) (by decide) dL_law_338 ?_
  refine aw_iadd dL_law_339 ?_
  refine aw_sldN (c := i + 1) (nI_add i 1) (by omega) hL dL_law_340 ?_
  refine aw_aload_n rfl dL_law_341 ?_
  refine aw_iload_n rfl dL_law_342 ?_
  refine aw_iconst (v := 2) (by decide) dL_law_343 ?_
  refine aw_iadd dL_law_344 ?_
  refine aw_sldN (c := i + 2) (nI_add i 2) (by omega) hL dL_law_345 ?_
  refine aw_v2 kL_38 ⟨ble rfl, ble rfl⟩ (rcM) (ble rfl) dL_law_346 (q_of (h.2.1.of_ci h1) h.2.2 (fun μ2 h2 => ?_))
  refine aw_icmp_eq 1288 rfl dL_law_349 (fun _ => ?_) (fun c_ => absurd (rfl) c_)
  exact next μ2 _ (INV.of h1 (W_of h.2.2) h2)
theorem l_set (hi : i + 6 ≤ Sc.1) (hL : Sc.1 ≤ 3072) (h : INV μ S) (next : LNx Sc n Q i) : AW Sc mL_law 354 [(0, .ref 999), (1, .ref 0), (2, .ref 71), (3, .int (nI i))] [] K0 μ n Q := by
  refine aw_aload_n rfl dL_law_354 ?_
  refine aw_aload_n rfl dL_law_355 ?_
  refine aw_iload_n rfl dL_law_356 ?_
  refine aw_iconst (v := 1) (by decide) dL_law_357 ?_
  refine aw_iadd dL_law_358 ?_
  refine aw_sldN (c := i + 1) (nI_add i 1) (by omega) hL dL_law_359 ?_
  refine aw_aload_n rfl dL_law_360 ?_
  refine aw_iload_n rfl dL_law_361 ?_
  refine aw_iconst (v := 2) (by decide) dL_law_362 ?_
  refine aw_iadd dL_law_363 ?_
  refine aw_sldN (c := i + 2) (nI_add i 2) (by omega) hL dL_law_364 ?_
  refine aw_aload_n rfl dL_law_365 ?_
  refine aw_iload_n rfl dL_law_366 ?_
  refine aw_iconst (v := 3) (by decide) dL_law_367 ?_
  refine aw_iadd dL_law_368 ?_
  refine aw_sldN (c := i + 3) (nI_add i 3) (by omega) hL dL_law_369 ?_
  refine aw_v3 kL_39 ⟨ble rfl, ble rfl⟩ (rcX) (ble rfl) dL_law_370 (e_set h.1 h.2.2 (fun μ1 h1 => ?_))
  refine aw_aload_n rfl dL_law_373 ?_
  refine aw_aload_n rfl dL_law_374 ?_
  refine aw_iload_n rfl dL_law_375 ?_
  refine aw_iconst (v := 1) (by decide) dL_law_376 ?_
  refine aw_iadd dL_law_377 ?_
  refine aw_sldN (c := i + 1) (nI_add i 1) (by omega) hL dL_law_378 ?_
  refine aw_aload_n rfl dL_law_379 ?_
  refine aw_iload_n rfl dL_law_380 ?_
  refine aw_iconst (v := 2) (by decide) dL_law_381 ?_
  refine aw_iadd dL_law_382 ?_
  refine aw_sldN (c := i + 2) (nI_add i 2) (by omega) hL dL_law_383 ?_
  refine aw_aload_n rfl dL_law_384 ?_
  refine aw_iload_n rfl dL_law_385 ?_
  refine aw_iconst (v := 3) (by decide) dL_law_386 ?_
  refine aw_iadd dL_law_387 ?_
  refine aw_sldN (c := i + 3) (nI_add i 3) (by omega) hL dL_law_388 ?_
  refine aw_v3 kL_43 ⟨ble rfl, ble rfl⟩ (rcM) (ble rfl) dL_law_389 (q_set (h.2.1.of_ci h1) h.2.2 (fun μ2 h2 => ?_))
  refine aw_icmp_eq 1288 rfl dL_law_392 (fun _ => ?_) (fun c_ => absurd (rfl) c_)
  exact next μ2 _ (INV.of h1 (W_set h.2.2) h2)
theorem l_turn (hi : i + 6 ≤ Sc.1) (hL : Sc.1 ≤ 3072) (h : INV μ S) (next : LNx Sc n Q i) : AW Sc mL_law 397 [(0, .ref 999), (1, .ref 0), (2, .ref 71), (3, .int (nI i))] [] K0 μ n Q := by
  refine aw_aload_n rfl dL_law_397 ?_
  refine aw_aload_n rfl dL_law_398 ?_
  refine aw_iload_n rfl dL_law_399 ?_
  refine aw_iconst (v := 1) (by decide) dL_law_400 ?_
  refine aw_iadd dL_law_401 ?_
  refine aw_sldN (c := i + 1) (nI_add i 1) (by omega) hL dL_law_402 ?_
  refine aw_aload_n rfl dL_law_403 ?_
  refine aw_iload_n rfl dL_law_404 ?_
  refine aw_iconst (v := 2) (by decide) dL_law_405 ?_
  refine aw_iadd dL_law_406 ?_
  refine aw_sldN (c := i + 2) (nI_add i 2) (by omega) hL dL_law_407 ?_
  refine aw_v2 kL_44 ⟨ble rfl, ble rfl⟩ (rcX) (ble rfl) dL_law_408 (e_turn h.1 h.2.2 (fun μ1 h1 => ?_))
  refine aw_aload_n rfl dL_law_411 ?_
  refine aw_aload_n rfl dL_law_412 ?_
  refine aw_iload_n rfl dL_law_413 ?_
  refine aw_iconst (v := 1) (by decide) dL_law_414 ?_
  refine aw_iadd dL_law_415 ?_
  refine aw_sldN (c := i + 1) (nI_add i 1) (by omega) hL dL_law_416 ?_
  refine aw_aload_n rfl dL_law_417 ?_
  refine aw_iload_n rfl dL_law_418 ?_
  refine aw_iconst (v := 2) (by decide) dL_law_419 ?_
  refine aw_iadd dL_law_420 ?_
  refine aw_sldN (c := i + 2) (nI_add i 2) (by omega) hL dL_law_421 ?_
  refine aw_v2 kL_47 ⟨ble rfl, ble rfl⟩ (rcM) (ble rfl) dL_law_422 (q_turn (h.2.1.of_ci h1) h.2.2 (fun μ2 h2 => ?_))
  refine aw_icmp_eq 1288 rfl dL_law_425 (fun _ => ?_) (fun c_ => absurd (rfl) c_)
  exact next μ2 _ (INV.of h1 (W_turn h.2.2) h2)
theorem l_as (hi : i + 6 ≤ Sc.1) (hL : Sc.1 ≤ 3072) (h : INV μ S) (next : LNx Sc n Q i) : AW Sc mL_law 430 [(0, .ref 999), (1, .ref 0), (2, .ref 71), (3, .int (nI i))] [] K0 μ n Q := by
  refine aw_aload_n rfl dL_law_430 ?_
  refine aw_aload_n rfl dL_law_431 ?_
  refine aw_iload_n rfl dL_law_432 ?_
  refine aw_iconst (v := 1) (by decide) dL_law_433 ?_
  refine aw_iadd dL_law_434 ?_
  refine aw_sldN (c := i + 1) (nI_add i 1) (by omega) hL dL_law_435 ?_
  refine aw_aload_n rfl dL_law_436 ?_
  refine aw_iload_n rfl dL_law_437 ?_
  refine aw_iconst (v := 2) (by decide) dL_law_438 ?_
  refine aw_iadd dL_law_439 ?_
  refine aw_sldN (c := i + 2) (nI_add i 2) (by omega) hL dL_law_440 ?_
  refine aw_v2 kL_48 ⟨ble rfl, ble rfl⟩ (rcX) (ble rfl) dL_law_441 (e_as h.1 h.2.2 (fun μ1 h1 => ?_))
  refine aw_aload_n rfl dL_law_444 ?_
  refine aw_aload_n rfl dL_law_445 ?_
  refine aw_iload_n rfl dL_law_446 ?_
  refine aw_iconst (v := 1) (by decide) dL_law_447 ?_
  refine aw_iadd dL_law_448 ?_
  refine aw_sldN (c := i + 1) (nI_add i 1) (by omega) hL dL_law_449 ?_
  refine aw_aload_n rfl dL_law_450 ?_
  refine aw_iload_n rfl dL_law_451 ?_
  refine aw_iconst (v := 2) (by decide) dL_law_452 ?_
  refine aw_iadd dL_law_453 ?_
  refine aw_sldN (c := i + 2) (nI_add i 2) (by omega) hL dL_law_454 ?_
  refine aw_v2 kL_51 ⟨ble rfl, ble rfl⟩ (rcM) (ble rfl) dL_law_455 (q_as (h.2.1.of_ci h1) h.2.2 (fun μ2 h2 => ?_))
  refine aw_icmp_eq 1288 rfl dL_law_458 (fun _ => ?_) (fun c_ => absurd (rfl) c_)
  exact next μ2 _ (INV.of h1 (W_as h.2.2) h2)
theorem l_relieve (hi : i + 6 ≤ Sc.1) (hL : Sc.1 ≤ 3072) (h : INV μ S) (next : LNx Sc n Q i) : AW Sc mL_law 463 [(0, .ref 999), (1, .ref 0), (2, .ref 71), (3, .int (nI i))] [] K0 μ n Q := by
  refine aw_aload_n rfl dL_law_463 ?_
  refine aw_aload_n rfl dL_law_464 ?_
  refine aw_iload_n rfl dL_law_465 ?_
  refine aw_iconst (v := 1) (by decide) dL_law_466 ?_
  refine aw_iadd dL_law_467 ?_
  refine aw_sldN (c := i + 1) (nI_add i 1) (by omega) hL dL_law_468 ?_
  refine aw_aload_n rfl dL_law_469 ?_
  refine aw_iload_n rfl dL_law_470 ?_
  refine aw_iconst (v := 2) (by decide) dL_law_471 ?_
  refine aw_iadd dL_law_472 ?_
  refine aw_sldN (c := i + 2) (nI_add i 2) (by omega) hL dL_law_473 ?_
  refine aw_v2 kL_52 ⟨ble rfl, ble rfl⟩ (rcX) (ble rfl) dL_law_474 (e_relieve h.1 h.2.2 (fun μ1 h1 => ?_))
  refine aw_aload_n rfl dL_law_477 ?_
  refine aw_aload_n rfl dL_law_478 ?_
  refine aw_iload_n rfl dL_law_479 ?_
  refine aw_iconst (v := 1) (by decide) dL_law_480 ?_
  refine aw_iadd dL_law_481 ?_
  refine aw_sldN (c := i + 1) (nI_add i 1) (by omega) hL dL_law_482 ?_
  refine aw_aload_n rfl dL_law_483 ?_
  refine aw_iload_n rfl dL_law_484 ?_
  refine aw_iconst (v := 2) (by decide) dL_law_485 ?_
  refine aw_iadd dL_law_486 ?_
  refine aw_sldN (c := i + 2) (nI_add i 2) (by omega) hL dL_law_487 ?_
  refine aw_v2 kL_55 ⟨ble rfl, ble rfl⟩ (rcM) (ble rfl) dL_law_488 (q_relieve (h.2.1.of_ci h1) h.2.2 (fun μ2 h2 => ?_))
  refine aw_icmp_eq 1288 rfl dL_law_491 (fun _ => ?_) (fun c_ => absurd (rfl) c_)
  exact next μ2 _ (INV.of h1 (W_relieve h.2.2) h2)
theorem l_days (hi : i + 6 ≤ Sc.1) (hL : Sc.1 ≤ 3072) (h : INV μ S) (next : LNx Sc n Q i) : AW Sc mL_law 496 [(0, .ref 999), (1, .ref 0), (2, .ref 71), (3, .int (nI i))] [] K0 μ n Q := by
  refine aw_aload_n rfl dL_law_496 ?_
  refine aw_aload_n rfl dL_law_497 ?_
  refine aw_iload_n rfl dL_law_498 ?_
  refine aw_iconst (v := 1) (by decide) dL_law_499 ?_
  refine aw_iadd dL_law_500 ?_
  refine aw_sldN (c := i + 1) (nI_add i 1) (by omega) hL dL_law_501 ?_
  refine aw_v1 kL_56 ⟨ble rfl, ble rfl⟩ (rcX) (ble rfl) dL_law_502 (e_days h.1 h.2.2 (fun μ1 h1 => ?_))
  refine aw_aload_n rfl dL_law_505 ?_
  refine aw_aload_n rfl dL_law_506 ?_
  refine aw_iload_n rfl dL_law_507 ?_
  refine aw_iconst (v := 1) (by decide) dL_law_508 ?_
  refine aw_iadd dL_law_509 ?_
  refine aw_sldN (c := i + 1) (nI_add i 1) (by omega) hL dL_law_510 ?_
  refine aw_v1 kL_59 ⟨ble rfl, ble rfl⟩ (rcM) (ble rfl) dL_law_511 (q_days (h.2.1.of_ci h1) h.2.2 (fun μ2 h2 => ?_))
  refine aw_icmp_eq 1288 rfl dL_law_514 (fun _ => ?_) (fun c_ => absurd (rfl) c_)
  exact next μ2 _ (INV.of h1 (W_days h.2.2) h2)
theorem l_on (hi : i + 6 ≤ Sc.1) (hL : Sc.1 ≤ 3072) (h : INV μ S) (next : LNx Sc n Q i) : AW Sc mL_law 519 [(0, .ref 999), (1, .ref 0), (2, .ref 71), (3, .int (nI i))] [] K0 μ n Q := by
  refine aw_aload_n rfl dL_law_519 ?_
  refine aw_aload_n rfl dL_law_520 ?_
  refine aw_iload_n rfl dL_law_521 ?_
  refine aw_iconst (v := 1) (by decide) dL_law_522 ?_
  refine aw_iadd dL_law_523 ?_
  refine aw_sldN (c := i + 1) (nI_add i 1) (by omega) hL dL_law_524 ?_
  refine aw_aload_n rfl dL_law_525 ?_
  refine aw_iload_n rfl dL_law_526 ?_
  refine aw_iconst (v := 2) (by decide) dL_law_527 ?_
  refine aw_iadd dL_law_528 ?_
  refine aw_sldN (c := i + 2) (nI_add i 2) (by omega) hL dL_law_529 ?_
  refine aw_v2 kL_60 ⟨ble rfl, ble rfl⟩ (rcX) (ble rfl) dL_law_530 (e_on h.1 h.2.2 (fun μ1 h1 => ?_))
  refine aw_aload_n rfl dL_law_533 ?_
  refine aw_aload_n rfl dL_law_534 ?_
  refine aw_iload_n rfl dL_law_535 ?_
  refine aw_iconst (v := 1) (by decide) dL_law_536 ?_
  refine aw_iadd dL_law_537 ?_
  refine aw_sldN (c := i + 1) (nI_add i 1) (by omega) hL dL_law_538 ?_
  refine aw_aload_n rfl dL_law_539 ?_
  refine aw_iload_n rfl dL_law_540 ?_
  refine aw_iconst (v := 2) (by decide) dL_law_541 ?_
  refine aw_iadd dL_law_542 ?_
  refine aw_sldN (c := i + 2) (nI_add i 2) (by omega) hL dL_law_543 ?_
  refine aw_v2 kL_63 ⟨ble rfl, ble rfl⟩ (rcM) (ble rfl) dL_law_544 (q_on (h.2.1.of_ci h1) h.2.2 (fun μ2 h2 => ?_))
  refine aw_icmp_eq 1288 rfl dL_law_547 (fun _ => ?_) (fun c_ => absurd (rfl) c_)
  exact next μ2 _ (INV.of h1 (W_on h.2.2) h2)
theorem l_then (hi : i + 6 ≤ Sc.1) (hL : Sc.1 ≤ 3072) (h : INV μ S) (next : LNx Sc n Q i) : AW Sc mL_law 552 [(0, .ref 999), (1, .ref 0), (2, .ref 71), (3, .int (nI i))] [] K0 μ n Q := by
  refine aw_aload_n rfl dL_law_552 ?_
  refine aw_aload_n rfl dL_law_553 ?_
  refine aw_iload_n rfl dL_law_554 ?_
  refine aw_iconst (v := 1) (by decide) dL_law_555 ?_
  refine aw_iadd dL_law_556 ?_
  refine aw_sldN (c := i + 1) (nI_add i 1) (by omega) hL dL_law_557 ?_
  refine aw_aload_n rfl dL_law_558 ?_
  refine aw_iload_n rfl dL_law_559 ?_
  refine aw_iconst (v := 2) (by decide) dL_law_560 ?_
  refine aw_iadd dL_law_561 ?_
  refine aw_sldN (c := i + 2) (nI_add i 2) (by omega) hL dL_law_562 ?_
  refine aw_aload_n rfl dL_law_563 ?_
  refine aw_iload_n rfl dL_law_564 ?_
  refine aw_iconst (v := 3) (by decide) dL_law_565 ?_
  refine aw_iadd dL_law_566 ?_
  refine aw_sldN (c := i + 3) (nI_add i 3) (by omega) hL dL_law_567 ?_
  refine aw_v3 kL_64 ⟨ble rfl, ble rfl⟩ (rcX) (ble rfl) dL_law_568 (e_then h.1 h.2.2 (fun μ1 h1 => ?_))
  refine aw_aload_n rfl dL_law_571 ?_
  refine aw_aload_n rfl dL_law_572 ?_
  refine aw_iload_n rfl dL_law_573 ?_
  refine aw_iconst (v := 1) (by decide) dL_law_574 ?_
  refine aw_iadd dL_law_575 ?_
  refine aw_sldN (c := i + 1) (nI_add i 1) (by omega) hL dL_law_576 ?_
  refine aw_aload_n rfl dL_law_577 ?_
  refine aw_iload_n rfl dL_law_578 ?_
  refine aw_iconst (v := 2) (by decide) dL_law_579 ?_
  refine aw_iadd dL_law_580 ?_
  refine aw_sldN (c := i + 2) (nI_add i 2) (by omega) hL dL_law_581 ?_
  refine aw_aload_n rfl dL_law_582 ?_
  refine aw_iload_n rfl dL_law_583 ?_
  refine aw_iconst (v := 3) (by decide) dL_law_584 ?_
  refine aw_iadd dL_law_585 ?_
  refine aw_sldN (c := i + 3) (nI_add i 3) (by omega) hL dL_law_586 ?_
  refine aw_v3 kL_67 ⟨ble rfl, ble rfl⟩ (rcM) (ble rfl) dL_law_587 (q_then (h.2.1.of_ci h1) h.2.2 (fun μ2 h2 => ?_))
  refine aw_icmp_eq 1288 rfl dL_law_590 (fun _ => ?_) (fun c_ => absurd (rfl) c_)
  exact next μ2 _ (INV.of h1 (W_then h.2.2) h2)
theorem l_wins (hi : i + 6 ≤ Sc.1) (hL : Sc.1 ≤ 3072) (h : INV μ S) (next : LNx Sc n Q i) : AW Sc mL_law 595 [(0, .ref 999), (1, .ref 0), (2, .ref 71), (3, .int (nI i))] [] K0 μ n Q := by
  refine aw_aload_n rfl dL_law_595 ?_
  refine aw_aload_n rfl dL_law_596 ?_
  refine aw_iload_n rfl dL_law_597 ?_
  refine aw_iconst (v := 1) (by decide) dL_law_598 ?_
  refine aw_iadd dL_law_599 ?_
  refine aw_sldN (c := i + 1) (nI_add i 1) (by omega) hL dL_law_600 ?_
  refine aw_aload_n rfl dL_law_601 ?_
  refine aw_iload_n rfl dL_law_602 ?_
  refine aw_iconst (v := 2) (by decide) dL_law_603 ?_
  refine aw_iadd dL_law_604 ?_
  refine aw_sldN (c := i + 2) (nI_add i 2) (by omega) hL dL_law_605 ?_
  refine aw_v2 kL_68 ⟨ble rfl, ble rfl⟩ (rcX) (ble rfl) dL_law_606 (e_wins h.1 h.2.2 (fun μ1 h1 => ?_))
  refine aw_aload_n rfl dL_law_609 ?_
  refine aw_aload_n rfl dL_law_610 ?_
  refine aw_iload_n rfl dL_law_611 ?_
  refine aw_iconst (v := 1) (by decide) dL_law_612 ?_
  refine aw_iadd dL_law_613 ?_
  refine aw_sldN (c := i + 1) (nI_add i 1) (by omega) hL dL_law_614 ?_
  refine aw_aload_n rfl dL_law_615 ?_
  refine aw_iload_n rfl dL_law_616 ?_
  refine aw_iconst (v := 2) (by decide) dL_law_617 ?_
  refine aw_iadd dL_law_618 ?_
  refine aw_sldN (c := i + 2) (nI_add i 2) (by omega) hL dL_law_619 ?_
  refine aw_v2 kL_71 ⟨ble rfl, ble rfl⟩ (rcM) (ble rfl) dL_law_620 (q_wins (h.2.1.of_ci h1) h.2.2 (fun μ2 h2 => ?_))
  refine aw_icmp_eq 1288 rfl dL_law_623 (fun _ => ?_) (fun c_ => absurd (rfl) c_)
  exact next μ2 _ (INV.of h1 (W_wins h.2.2) h2)
theorem l_off (hi : i + 6 ≤ Sc.1) (hL : Sc.1 ≤ 3072) (h : INV μ S) (next : LNx Sc n Q i) : AW Sc mL_law 628 [(0, .ref 999), (1, .ref 0), (2, .ref 71), (3, .int (nI i))] [] K0 μ n Q := by
  refine aw_aload_n rfl dL_law_628 ?_
  refine aw_aload_n rfl dL_law_629 ?_
  refine aw_iload_n rfl dL_law_630 ?_
  refine aw_iconst (v := 1) (by decide) dL_law_631 ?_
  refine aw_iadd dL_law_632 ?_
  refine aw_sldN (c := i + 1) (nI_add i 1) (by omega) hL dL_law_633 ?_
  refine aw_v1 kL_72 ⟨ble rfl, ble rfl⟩ (rcX) (ble rfl) dL_law_634 (e_off h.1 h.2.2 (fun μ1 h1 => ?_))
  refine aw_aload_n rfl dL_law_637 ?_
  refine aw_aload_n rfl dL_law_638 ?_
  refine aw_iload_n rfl dL_law_639 ?_
  refine aw_iconst (v := 1) (by decide) dL_law_640 ?_
  refine aw_iadd dL_law_641 ?_
  refine aw_sldN (c := i + 1) (nI_add i 1) (by omega) hL dL_law_642 ?_
  refine aw_v1 kL_75 ⟨ble rfl, ble rfl⟩ (rcM) (ble rfl) dL_law_643 (q_off (h.2.1.of_ci h1) h.2.2 (fun μ2 h2 => ?_))
  refine aw_icmp_eq 1288 rfl dL_law_646 (fun _ => ?_) (fun c_ => absurd (rfl) c_)
  exact next μ2 _ (INV.of h1 (W_off h.2.2) h2)
theorem l_turns (hi : i + 6 ≤ Sc.1) (hL : Sc.1 ≤ 3072) (h : INV μ S) (next : LNx Sc n Q i) : AW Sc mL_law 651 [(0, .ref 999), (1, .ref 0), (2, .ref 71), (3, .int (nI i))] [] K0 μ n Q := by
  refine aw_aload_n rfl dL_law_651 ?_
  refine aw_v0 kL_76 ⟨ble rfl, ble rfl⟩ (rcX) (ble rfl) dL_law_652 (e_turns h.1 h.2.2 (fun μ1 h1 => ?_))
  refine aw_aload_n rfl dL_law_655 ?_
  refine aw_v0 kL_80 ⟨ble rfl, ble rfl⟩ (rcM) (ble rfl) dL_law_656 (q_turns (h.2.1.of_ci h1) h.2.2 (fun μ2 h2 => ?_))
  refine aw_icmp_eq 1288 rfl dL_law_659 (fun _ => ?_) (fun c_ => absurd (rfl) c_)
  exact next μ2 _ (INV.of h1 (W_turns h.2.2) h2)
theorem l_spell (hi : i + 6 ≤ Sc.1) (hL : Sc.1 ≤ 3072) (h : INV μ S) (next : LNx Sc n Q i) : AW Sc mL_law 664 [(0, .ref 999), (1, .ref 0), (2, .ref 71), (3, .int (nI i))] [] K0 μ n Q := by
  refine aw_aload_n rfl dL_law_664 ?_
  refine aw_aload_n rfl dL_law_665 ?_
  refine aw_iload_n rfl dL_law_666 ?_
  refine aw_iconst (v := 1) (by decide) dL_law_667 ?_
  refine aw_iadd dL_law_668 ?_
  refine aw_sldN (c := i + 1) (nI_add i 1) (by omega) hL dL_law_669 ?_
  refine aw_aload_n rfl dL_law_670 ?_
  refine aw_iload_n rfl dL_law_671 ?_
  refine aw_iconst (v := 2) (by decide) dL_law_672 ?_
  refine aw_iadd dL_law_673 ?_
  refine aw_sldN (c := i + 2) (nI_add i 2) (by omega) hL dL_law_674 ?_
  refine aw_v2 kL_81 ⟨ble rfl, ble rfl⟩ (rcX) (ble rfl) dL_law_675 (e_spell h.1 h.2.2 (fun μ1 h1 => ?_))
  refine aw_aload_n rfl dL_law_678 ?_
  refine aw_aload_n rfl dL_law_679 ?_
  refine aw_iload_n rfl dL_law_680 ?_
  refine aw_iconst (v := 1) (by decide) dL_law_681 ?_
  refine aw_iadd dL_law_682 ?_
  refine aw_sldN (c := i + 1) (nI_add i 1) (by omega) hL dL_law_683 ?_
  refine aw_aload_n rfl dL_law_684 ?_
  refine aw_iload_n rfl dL_law_685 ?_
  refine aw_iconst (v := 2) (by decide) dL_law_686 ?_
  refine aw_iadd dL_law_687 ?_
  refine aw_sldN (c := i + 2) (nI_add i 2) (by omega) hL dL_law_688 ?_
  refine aw_v2 kL_84 ⟨ble rfl, ble rfl⟩ (rcM) (ble rfl) dL_law_689 (q_spell (h.2.1.of_ci h1) h.2.2 (fun μ2 h2 => ?_))
  refine aw_icmp_eq 1288 rfl dL_law_692 (fun _ => ?_) (fun c_ => absurd (rfl) c_)
  exact next μ2 _ (INV.of h1 (W_spell h.2.2) h2)
theorem l_kind (hi : i + 6 ≤ Sc.1) (hL : Sc.1 ≤ 3072) (h : INV μ S) (next : LNx Sc n Q i) : AW Sc mL_law 697 [(0, .ref 999), (1, .ref 0), (2, .ref 71), (3, .int (nI i))] [] K0 μ n Q := by
  refine aw_aload_n rfl dL_law_697 ?_
  refine aw_aload_n rfl dL_law_698 ?_
  refine aw_iload_n rfl dL_law_699 ?_
  refine aw_iconst (v := 1) (by decide) dL_law_700 ?_
  refine aw_iadd dL_law_701 ?_
  refine aw_sldN (c := i + 1) (nI_add i 1) (by omega) hL dL_law_702 ?_
  refine aw_aload_n rfl dL_law_703 ?_
  refine aw_iload_n rfl dL_law_704 ?_
  refine aw_iconst (v := 2) (by decide) dL_law_705 ?_
  refine aw_iadd dL_law_706 ?_
  refine aw_sldN (c := i + 2) (nI_add i 2) (by omega) hL dL_law_707 ?_
  refine aw_v2 kL_85 ⟨ble rfl, ble rfl⟩ (rcX) (ble rfl) dL_law_708 (e_kind h.1 h.2.2 (fun μ1 h1 => ?_))
  refine aw_aload_n rfl dL_law_711 ?_
  refine aw_aload_n rfl dL_law_712 ?_
  refine aw_iload_n rfl dL_law_713 ?_
  refine aw_iconst (v := 1) (by decide) dL_law_714 ?_
  refine aw_iadd dL_law_715 ?_
  refine aw_sldN (c := i + 1) (nI_add i 1) (by omega) hL dL_law_716 ?_
  refine aw_aload_n rfl dL_law_717 ?_
  refine aw_iload_n rfl dL_law_718 ?_
  refine aw_iconst (v := 2) (by decide) dL_law_719 ?_
  refine aw_iadd dL_law_720 ?_
  refine aw_sldN (c := i + 2) (nI_add i 2) (by omega) hL dL_law_721 ?_
  refine aw_v2 kL_88 ⟨ble rfl, ble rfl⟩ (rcM) (ble rfl) dL_law_722 (q_kind (h.2.1.of_ci h1) h.2.2 (fun μ2 h2 => ?_))
  refine aw_icmp_eq 1288 rfl dL_law_725 (fun _ => ?_) (fun c_ => absurd (rfl) c_)
  exact next μ2 _ (INV.of h1 (W_kind h.2.2) h2)
theorem l_week (hi : i + 6 ≤ Sc.1) (hL : Sc.1 ≤ 3072) (h : INV μ S) (next : LNx Sc n Q i) : AW Sc mL_law 730 [(0, .ref 999), (1, .ref 0), (2, .ref 71), (3, .int (nI i))] [] K0 μ n Q := by
  refine aw_aload_n rfl dL_law_730 ?_
  refine aw_aload_n rfl dL_law_731 ?_
  refine aw_iload_n rfl dL_law_732 ?_
  refine aw_iconst (v := 1) (by decide) dL_law_733 ?_
  refine aw_iadd dL_law_734 ?_
  refine aw_sldN (c := i + 1) (nI_add i 1) (by omega) hL dL_law_735 ?_
  refine aw_aload_n rfl dL_law_736 ?_
  refine aw_iload_n rfl dL_law_737 ?_
  refine aw_iconst (v := 2) (by decide) dL_law_738 ?_
  refine aw_iadd dL_law_739 ?_
  refine aw_sldN (c := i + 2) (nI_add i 2) (by omega) hL dL_law_740 ?_
  refine aw_v2 kL_89 ⟨ble rfl, ble rfl⟩ (rcX) (ble rfl) dL_law_741 (e_week h.1 h.2.2 (fun μ1 h1 => ?_))
  refine aw_aload_n rfl dL_law_744 ?_
  refine aw_aload_n rfl dL_law_745 ?_
  refine aw_iload_n rfl dL_law_746 ?_
  refine aw_iconst (v := 1) (by decide) dL_law_747 ?_
  refine aw_iadd dL_law_748 ?_
  refine aw_sldN (c := i + 1) (nI_add i 1) (by omega) hL dL_law_749 ?_
  refine aw_aload_n rfl dL_law_750 ?_
  refine aw_iload_n rfl dL_law_751 ?_
  refine aw_iconst (v := 2) (by decide) dL_law_752 ?_
  refine aw_iadd dL_law_753 ?_
  refine aw_sldN (c := i + 2) (nI_add i 2) (by omega) hL dL_law_754 ?_
  refine aw_v2 kL_92 ⟨ble rfl, ble rfl⟩ (rcM) (ble rfl) dL_law_755 (q_week (h.2.1.of_ci h1) h.2.2 (fun μ2 h2 => ?_))
  refine aw_icmp_eq 1288 rfl dL_law_758 (fun _ => ?_) (fun c_ => absurd (rfl) c_)
  exact next μ2 _ (INV.of h1 (W_week h.2.2) h2)
theorem l_strong (hi : i + 6 ≤ Sc.1) (hL : Sc.1 ≤ 3072) (h : INV μ S) (next : LNx Sc n Q i) : AW Sc mL_law 763 [(0, .ref 999), (1, .ref 0), (2, .ref 71), (3, .int (nI i))] [] K0 μ n Q := by
  refine aw_aload_n rfl dL_law_763 ?_
  refine aw_aload_n rfl dL_law_764 ?_
  refine aw_iload_n rfl dL_law_765 ?_
  refine aw_iconst (v := 1) (by decide) dL_law_766 ?_
  refine aw_iadd dL_law_767 ?_
  refine aw_sldN (c := i + 1) (nI_add i 1) (by omega) hL dL_law_768 ?_
  refine aw_aload_n rfl dL_law_769 ?_
  refine aw_iload_n rfl dL_law_770 ?_
  refine aw_iconst (v := 2) (by decide) dL_law_771 ?_
  refine aw_iadd dL_law_772 ?_
  refine aw_sldN (c := i + 2) (nI_add i 2) (by omega) hL dL_law_773 ?_
  refine aw_aload_n rfl dL_law_774 ?_
  refine aw_iload_n rfl dL_law_775 ?_
  refine aw_iconst (v := 3) (by decide) dL_law_776 ?_
  refine aw_iadd dL_law_777 ?_
  refine aw_sldN (c := i + 3) (nI_add i 3) (by omega) hL dL_law_778 ?_
  refine aw_v3 kL_93 ⟨ble rfl, ble rfl⟩ (rcX) (ble rfl) dL_law_779 (e_strong h.1 h.2.2 (fun μ1 h1 => ?_))
  refine aw_aload_n rfl dL_law_782 ?_
  refine aw_aload_n rfl dL_law_783 ?_
  refine aw_iload_n rfl dL_law_784 ?_
  refine aw_iconst (v := 1) (by decide) dL_law_785 ?_
  refine aw_iadd dL_law_786 ?_
  refine aw_sldN (c := i + 1) (nI_add i 1) (by omega) hL dL_law_787 ?_
  refine aw_aload_n rfl dL_law_788 ?_
  refine aw_iload_n rfl dL_law_789 ?_
  refine aw_iconst (v := 2) (by decide) dL_law_790 ?_
  refine aw_iadd dL_law_791 ?_
  refine aw_sldN (c := i + 2) (nI_add i 2) (by omega) hL dL_law_792 ?_
  refine aw_aload_n rfl dL_law_793 ?_
  refine aw_iload_n rfl dL_law_794 ?_
  refine aw_iconst (v := 3) (by decide) dL_law_795 ?_
  refine aw_iadd dL_law_796 ?_
  refine aw_sldN (c := i + 3) (nI_add i 3) (by omega) hL dL_law_797 ?_
  refine aw_v3 kL_96 ⟨ble rfl, ble rfl⟩ (rcM) (ble rfl) dL_law_798 (q_strong (h.2.1.of_ci h1) h.2.2 (fun μ2 h2 => ?_))
  refine aw_icmp_eq 1288 rfl dL_law_801 (fun _ => ?_) (fun c_ => absurd (rfl) c_)
  exact next μ2 _ (INV.of h1 (W_strong h.2.2) h2)
theorem l_bears (hi : i + 6 ≤ Sc.1) (hL : Sc.1 ≤ 3072) (h : INV μ S) (next : LNx Sc n Q i) : AW Sc mL_law 806 [(0, .ref 999), (1, .ref 0), (2, .ref 71), (3, .int (nI i))] [] K0 μ n Q := by
  refine aw_aload_n rfl dL_law_806 ?_
  refine aw_aload_n rfl dL_law_807 ?_
  refine aw_iload_n rfl dL_law_808 ?_
  refine aw_iconst (v := 1) (by decide) dL_law_809 ?_
  refine aw_iadd dL_law_810 ?_
  refine aw_sldN (c := i + 1) (nI_add i 1) (by omega) hL dL_law_811 ?_
  refine aw_aload_n rfl dL_law_812 ?_
  refine aw_iload_n rfl dL_law_813 ?_
  refine aw_iconst (v := 2) (by decide) dL_law_814 ?_
  refine aw_iadd dL_law_815 ?_
  refine aw_sldN (c := i + 2) (nI_add i 2) (by omega) hL dL_law_816 ?_
  refine aw_v2 kL_97 ⟨ble rfl, ble rfl⟩ (rcX) (ble rfl) dL_law_817 (e_bears h.1 h.2.2 (fun μ1 h1 => ?_))
  refine aw_aload_n rfl dL_law_820 ?_
  refine aw_aload_n rfl dL_law_821 ?_
  refine aw_iload_n rfl dL_law_822 ?_
  refine aw_iconst (v := 1) (by decide) dL_law_823 ?_
  refine aw_iadd dL_law_824 ?_
  refine aw_sldN (c := i + 1) (nI_add i 1) (by omega) hL dL_law_825 ?_
  refine aw_aload_n rfl dL_law_826 ?_
  refine aw_iload_n rfl dL_law_827 ?_
  refine aw_iconst (v := 2) (by decide) dL_law_828 ?_
  refine aw_iadd dL_law_829 ?_
  refine aw_sldN (c := i + 2) (nI_add i 2) (by omega) hL dL_law_830 ?_
  refine aw_v2 kL_100 ⟨ble rfl, ble rfl⟩ (rcM) (ble rfl) dL_law_831 (q_bears (h.2.1.of_ci h1) h.2.2 (fun μ2 h2 => ?_))
  refine aw_icmp_eq 1288 rfl dL_law_834 (fun _ => ?_) (fun c_ => absurd (rfl) c_)
  exact next μ2 _ (INV.of h1 (W_bears h.2.2) h2)
theorem l_fewest (hi : i + 6 ≤ Sc.1) (hL : Sc.1 ≤ 3072) (h : INV μ S) (next : LNx Sc n Q i) : AW Sc mL_law 839 [(0, .ref 999), (1, .ref 0), (2, .ref 71), (3, .int (nI i))] [] K0 μ n Q := by
  refine aw_aload_n rfl dL_law_839 ?_
  refine aw_aload_n rfl dL_law_840 ?_
  refine aw_iload_n rfl dL_law_841 ?_
  refine aw_iconst (v := 1) (by decide) dL_law_842 ?_
  refine aw_iadd dL_law_843 ?_
  refine aw_sldN (c := i + 1) (nI_add i 1) (by omega) hL dL_law_844 ?_
  refine aw_v1 kL_101 ⟨ble rfl, ble rfl⟩ (rcX) (ble rfl) dL_law_845 (e_fewest h.1 h.2.2 (fun μ1 h1 => ?_))
  refine aw_aload_n rfl dL_law_848 ?_
  refine aw_aload_n rfl dL_law_849 ?_
  refine aw_iload_n rfl dL_law_850 ?_
  refine aw_iconst (v := 1) (by decide) dL_law_851 ?_
  refine aw_iadd dL_law_852 ?_
  refine aw_sldN (c := i + 1) (nI_add i 1) (by omega) hL dL_law_853 ?_
  refine aw_v1 kL_104 ⟨ble rfl, ble rfl⟩ (rcM) (ble rfl) dL_law_854 (q_fewest (h.2.1.of_ci h1) h.2.2 (fun μ2 h2 => ?_))
  refine aw_icmp_eq 1288 rfl dL_law_857 (fun _ => ?_) (fun c_ => absurd (rfl) c_)
  exact next μ2 _ (INV.of h1 (W_fewest h.2.2) h2)
theorem l_traitor (hi : i + 6 ≤ Sc.1) (hL : Sc.1 ≤ 3072) (h : INV μ S) (next : LNx Sc n Q i) : AW Sc mL_law 862 [(0, .ref 999), (1, .ref 0), (2, .ref 71), (3, .int (nI i))] [] K0 μ n Q := by
  refine aw_aload_n rfl dL_law_862 ?_
  refine aw_aload_n rfl dL_law_863 ?_
  refine aw_iload_n rfl dL_law_864 ?_
  refine aw_iconst (v := 1) (by decide) dL_law_865 ?_
  refine aw_iadd dL_law_866 ?_
  refine aw_sldN (c := i + 1) (nI_add i 1) (by omega) hL dL_law_867 ?_
  refine aw_v1 kL_105 ⟨ble rfl, ble rfl⟩ (rcX) (ble rfl) dL_law_868 (e_traitor h.1 h.2.2 (fun μ1 h1 => ?_))
  refine aw_aload_n rfl dL_law_871 ?_
  refine aw_aload_n rfl dL_law_872 ?_
  refine aw_iload_n rfl dL_law_873 ?_
  refine aw_iconst (v := 1) (by decide) dL_law_874 ?_
  refine aw_iadd dL_law_875 ?_
  refine aw_sldN (c := i + 1) (nI_add i 1) (by omega) hL dL_law_876 ?_
  refine aw_v1 kL_108 ⟨ble rfl, ble rfl⟩ (rcM) (ble rfl) dL_law_877 (q_traitor (h.2.1.of_ci h1) h.2.2 (fun μ2 h2 => ?_))
  refine aw_icmp_eq 1288 rfl dL_law_880 (fun _ => ?_) (fun c_ => absurd (rfl) c_)
  exact next μ2 _ (INV.of h1 (W_traitor h.2.2) h2)
theorem l_feed (hi : i + 6 ≤ Sc.1) (hL : Sc.1 ≤ 3072) (h : INV μ S) (next : LNx Sc n Q i) : AW Sc mL_law 885 [(0, .ref 999), (1, .ref 0), (2, .ref 71), (3, .int (nI i))] [] K0 μ n Q := by
  refine aw_aload_n rfl dL_law_885 ?_
  refine aw_aload_n rfl dL_law_886 ?_
  refine aw_iload_n rfl dL_law_887 ?_
  refine aw_iconst (v := 1) (by decide) dL_law_888 ?_
  refine aw_iadd dL_law_889 ?_
  refine aw_sldN (c := i + 1) (nI_add i 1) (by omega) hL dL_law_890 ?_
  refine aw_aload_n rfl dL_law_891 ?_
  refine aw_iload_n rfl dL_law_892 ?_
  refine aw_iconst (v := 2) (by decide) dL_law_893 ?_
  refine aw_iadd dL_law_894 ?_
  refine aw_sldN (c := i + 2) (nI_add i 2) (by omega) hL dL_law_895 ?_
  refine aw_v2 kL_109 ⟨ble rfl, ble rfl⟩ (rcX) (ble rfl) dL_law_896 (e_feed h.1 h.2.2 (fun μ1 h1 => ?_))
  refine aw_aload_n rfl dL_law_899 ?_
  refine aw_aload_n rfl dL_law_900 ?_
  refine aw_iload_n rfl dL_law_901 ?_
  refine aw_iconst (v := 1) (by decide) dL_law_902 ?_
  refine aw_iadd dL_law_903 ?_
  refine aw_sldN (c := i + 1) (nI_add i 1) (by omega) hL dL_law_904 ?_
  refine aw_aload_n rfl dL_law_905 ?_
  refine aw_iload_n rfl dL_law_906 ?_
  refine aw_iconst (v := 2) (by decide) dL_law_907 ?_
  refine aw_iadd dL_law_908 ?_
  refine aw_sldN (c := i + 2) (nI_add i 2) (by omega) hL dL_law_909 ?_
  refine aw_v2 kL_112 ⟨ble rfl, ble rfl⟩ (rcM) (ble rfl) dL_law_910 (q_feed (h.2.1.of_ci h1) h.2.2 (fun μ2 h2 => ?_))
  refine aw_icmp_eq 1288 rfl dL_law_913 (fun _ => ?_) (fun c_ => absurd (rfl) c_)
  exact next μ2 _ (INV.of h1 (W_feed h.2.2) h2)
theorem l_wipe (hi : i + 6 ≤ Sc.1) (hL : Sc.1 ≤ 3072) (h : INV μ S) (next : LNx Sc n Q i) : AW Sc mL_law 918 [(0, .ref 999), (1, .ref 0), (2, .ref 71), (3, .int (nI i))] [] K0 μ n Q := by
  refine aw_aload_n rfl dL_law_918 ?_
  refine aw_v0 kL_113 ⟨ble rfl, ble rfl⟩ (rcX) (ble rfl) dL_law_919 (e_wipe h.1 h.2.2 (fun μ1 h1 => ?_))
  refine aw_aload_n rfl dL_law_922 ?_
  refine aw_v0 kL_116 ⟨ble rfl, ble rfl⟩ (rcM) (ble rfl) dL_law_923 (q_wipe (h.2.1.of_ci h1) (fun μ2 h2 => ?_))
  refine aw_icmp_eq 1288 rfl dL_law_926 (fun _ => ?_) (fun c_ => absurd (rfl) c_)
  exact next μ2 _ (INV.of h1 (W_wipe h.2.2) h2)
theorem l_green (hi : i + 6 ≤ Sc.1) (hL : Sc.1 ≤ 3072) (h : INV μ S) (next : LNx Sc n Q i) : AW Sc mL_law 931 [(0, .ref 999), (1, .ref 0), (2, .ref 71), (3, .int (nI i))] [] K0 μ n Q := by
  refine aw_aload_n rfl dL_law_931 ?_
  refine aw_v0 kL_117 ⟨ble rfl, ble rfl⟩ (rcX) (ble rfl) dL_law_932 (e_green h.1 h.2.2 (fun μ1 h1 => ?_))
  refine aw_aload_n rfl dL_law_935 ?_
  refine aw_v0 kL_120 ⟨ble rfl, ble rfl⟩ (rcM) (ble rfl) dL_law_936 (q_green (h.2.1.of_ci h1) h.2.2 (fun μ2 h2 => ?_))
  refine aw_icmp_eq 1288 rfl dL_law_939 (fun _ => ?_) (fun c_ => absurd (rfl) c_)
  exact next μ2 _ (INV.of h1 (W_green h.2.2) h2)
theorem l_sheet (hi : i + 6 ≤ Sc.1) (hL : Sc.1 ≤ 3072) (h : INV μ S) (next : LNx Sc n Q i) : AW Sc mL_law 944 [(0, .ref 999), (1, .ref 0), (2, .ref 71), (3, .int (nI i))] [] K0 μ n Q := by
  refine aw_aload_n rfl dL_law_944 ?_
  refine aw_aload_n rfl dL_law_945 ?_
  refine aw_iload_n rfl dL_law_946 ?_
  refine aw_iconst (v := 1) (by decide) dL_law_947 ?_
  refine aw_iadd dL_law_948 ?_
  refine aw_sldN (c := i + 1) (nI_add i 1) (by omega) hL dL_law_949 ?_
  refine aw_aload_n rfl dL_law_950 ?_
  refine aw_iload_n rfl dL_law_951 ?_
  refine aw_iconst (v := 2) (by decide) dL_law_952 ?_
  refine aw_iadd dL_law_953 ?_
  refine aw_sldN (c := i + 2) (nI_add i 2) (by omega) hL dL_law_954 ?_
  refine aw_aload_n rfl dL_law_955 ?_
  refine aw_iload_n rfl dL_law_956 ?_
  refine aw_iconst (v := 3) (by decide) dL_law_957 ?_
  refine aw_iadd dL_law_958 ?_
  refine aw_sldN (c := i + 3) (nI_add i 3) (by omega) hL dL_law_959 ?_
  refine aw_v3 kL_121 ⟨ble rfl, ble rfl⟩ (rcX) (ble rfl) dL_law_960 (e_sheet h.1 h.2.2 (fun μ1 h1 => ?_))
  refine aw_aload_n rfl dL_law_963 ?_
  refine aw_aload_n rfl dL_law_964 ?_
  refine aw_iload_n rfl dL_law_965 ?_
  refine aw_iconst (v := 1) (by decide) dL_law_966 ?_
  refine aw_iadd dL_law_967 ?_
  refine aw_sldN (c := i + 1) (nI_add i 1) (by omega) hL dL_law_968 ?_
  refine aw_aload_n rfl dL_law_969 ?_
  refine aw_iload_n rfl dL_law_970 ?_
  refine aw_iconst (v := 2) (by decide) dL_law_971 ?_
  refine aw_iadd dL_law_972 ?_
  refine aw_sldN (c := i + 2) (nI_add i 2) (by omega) hL dL_law_973 ?_
  refine aw_aload_n rfl dL_law_974 ?_
  refine aw_iload_n rfl dL_law_975 ?_
  refine aw_iconst (v := 3) (by decide) dL_law_976 ?_
  refine aw_iadd dL_law_977 ?_
  refine aw_sldN (c := i + 3) (nI_add i 3) (by omega) hL dL_law_978 ?_
  refine aw_v3 kL_124 ⟨ble rfl, ble rfl⟩ (rcM) (ble rfl) dL_law_979 (q_sheet (h.2.1.of_ci h1) (fun μ2 h2 => ?_))
  refine aw_icmp_eq 1288 rfl dL_law_982 (fun _ => ?_) (fun c_ => absurd (rfl) c_)
  exact next μ2 _ (INV.of h1 (W_sheet h.2.2) h2)
theorem l_write (hi : i + 6 ≤ Sc.1) (hL : Sc.1 ≤ 3072) (h : INV μ S) (next : LNx Sc n Q i) : AW Sc mL_law 987 [(0, .ref 999), (1, .ref 0), (2, .ref 71), (3, .int (nI i))] [] K0 μ n Q := by
  refine aw_aload_n rfl dL_law_987 ?_
  refine aw_aload_n rfl dL_law_988 ?_
  refine aw_iload_n rfl dL_law_989 ?_
  refine aw_iconst (v := 1) (by decide) dL_law_990 ?_
  refine aw_iadd dL_law_991 ?_
  refine aw_sldN (c := i + 1) (nI_add i 1) (by omega) hL dL_law_992 ?_
  refine aw_aload_n rfl dL_law_993 ?_
  refine aw_iload_n rfl dL_law_994 ?_
  refine aw_iconst (v := 2) (by decide) dL_law_995 ?_
  refine aw_iadd dL_law_996 ?_
  refine aw_sldN (c := i + 2) (nI_add i 2) (by omega) hL dL_law_997 ?_
  refine aw_aload_n rfl dL_law_998 ?_
  refine aw_iload_n rfl dL_law_999 ?_
  refine aw_iconst (v := 3) (by decide) dL_law_1000 ?_
  refine aw_iadd dL_law_1001 ?_
  refine aw_sldN (c := i + 3) (nI_add i 3) (by omega) hL dL_law_1002 ?_
  refine aw_i2l dL_law_1003 ?_
  refine aw_bipush (v := 32) (by decide) dL_law_1004 ?_
  refine aw_lshl dL_law_1006 ?_
  refine aw_aload_n rfl dL_law_1007 ?_
  refine aw_iload_n rfl dL_law_1008 ?_
  refine aw_iconst (v := 4) (by decide) dL_law_1009 ?_
  refine aw_iadd dL_law_1010 ?_
  refine aw_sldN (c := i + 4) (nI_add i 4) (by omega) hL dL_law_1011 ?_
  refine aw_i2l dL_law_1012 ?_
  refine aw_ldc2 (v := 4294967295) w_1250 dL_law_1013 ?_
  refine aw_land dL_law_1016 ?_
  refine aw_lor dL_law_1017 ?_
  refine aw_v3 kL_127 ⟨ble rfl, ble rfl⟩ (rcX) (ble rfl) dL_law_1018 (e_write h.1 h.2.2 (fun μ1 h1 => ?_))
  refine aw_aload_n rfl dL_law_1021 ?_
  refine aw_aload_n rfl dL_law_1022 ?_
  refine aw_iload_n rfl dL_law_1023 ?_
  refine aw_iconst (v := 1) (by decide) dL_law_1024 ?_
  refine aw_iadd dL_law_1025 ?_
  refine aw_sldN (c := i + 1) (nI_add i 1) (by omega) hL dL_law_1026 ?_
  refine aw_aload_n rfl dL_law_1027 ?_
  refine aw_iload_n rfl dL_law_1028 ?_
  refine aw_iconst (v := 2) (by decide) dL_law_1029 ?_
  refine aw_iadd dL_law_1030 ?_
  refine aw_sldN (c := i + 2) (nI_add i 2) (by omega) hL dL_law_1031 ?_
  refine aw_aload_n rfl dL_law_1032 ?_
  refine aw_iload_n rfl dL_law_1033 ?_
  refine aw_iconst (v := 3) (by decide) dL_law_1034 ?_
  refine aw_iadd dL_law_1035 ?_
  refine aw_sldN (c := i + 3) (nI_add i 3) (by omega) hL dL_law_1036 ?_
  refine aw_i2l dL_law_1037 ?_
  refine aw_bipush (v := 32) (by decide) dL_law_1038 ?_
  refine aw_lshl dL_law_1040 ?_
  refine aw_aload_n rfl dL_law_1041 ?_
  refine aw_iload_n rfl dL_law_1042 ?_
  refine aw_iconst (v := 4) (by decide) dL_law_1043 ?_
  refine aw_iadd dL_law_1044 ?_
  refine aw_sldN (c := i + 4) (nI_add i 4) (by omega) hL dL_law_1045 ?_
  refine aw_i2l dL_law_1046 ?_
  refine aw_ldc2 (v := 4294967295) w_1250 dL_law_1047 ?_
  refine aw_land dL_law_1050 ?_
  refine aw_lor dL_law_1051 ?_
  refine aw_v3 kL_131 ⟨ble rfl, ble rfl⟩ (rcM) (ble rfl) dL_law_1052 (q_write (h.2.1.of_ci h1) h.2.2 (fun μ2 h2 => ?_))
  refine aw_lcmp dL_law_1055 ?_
  refine aw_if_eq 1288 rfl dL_law_1056 (fun _ => ?_) (fun c_ => absurd (((lg_cmp_eq _ _).mpr rfl)) c_)
  exact next μ2 _ (INV.of h1 (W_write h.2.2) h2)
theorem l_copy (hi : i + 6 ≤ Sc.1) (hL : Sc.1 ≤ 3072) (h : INV μ S) (next : LNx Sc n Q i) : AW Sc mL_law 1061 [(0, .ref 999), (1, .ref 0), (2, .ref 71), (3, .int (nI i))] [] K0 μ n Q := by
  refine aw_aload_n rfl dL_law_1061 ?_
  refine aw_aload_n rfl dL_law_1062 ?_
  refine aw_iload_n rfl dL_law_1063 ?_
  refine aw_iconst (v := 1) (by decide) dL_law_1064 ?_
  refine aw_iadd dL_law_1065 ?_
  refine aw_sldN (c := i + 1) (nI_add i 1) (by omega) hL dL_law_1066 ?_
  refine aw_aload_n rfl dL_law_1067 ?_
  refine aw_iload_n rfl dL_law_1068 ?_
  refine aw_iconst (v := 2) (by decide) dL_law_1069 ?_
  refine aw_iadd dL_law_1070 ?_
  refine aw_sldN (c := i + 2) (nI_add i 2) (by omega) hL dL_law_1071 ?_
  refine aw_aload_n rfl dL_law_1072 ?_
  refine aw_iload_n rfl dL_law_1073 ?_
  refine aw_iconst (v := 3) (by decide) dL_law_1074 ?_
  refine aw_iadd dL_law_1075 ?_
  refine aw_sldN (c := i + 3) (nI_add i 3) (by omega) hL dL_law_1076 ?_
  refine aw_aload_n rfl dL_law_1077 ?_
  refine aw_iload_n rfl dL_law_1078 ?_
  refine aw_iconst (v := 4) (by decide) dL_law_1079 ?_
  refine aw_iadd dL_law_1080 ?_
  refine aw_sldN (c := i + 4) (nI_add i 4) (by omega) hL dL_law_1081 ?_
  refine aw_aload_n rfl dL_law_1082 ?_
  refine aw_iload_n rfl dL_law_1083 ?_
  refine aw_iconst (v := 5) (by decide) dL_law_1084 ?_
  refine aw_iadd dL_law_1085 ?_
  refine aw_sldN (c := i + 5) (nI_add i 5) (by omega) hL dL_law_1086 ?_
  refine aw_v5 kL_132 ⟨ble rfl, ble rfl⟩ (rcX) (ble rfl) dL_law_1087 (e_copy h.1 h.2.2 (fun μ1 h1 => ?_))
  refine aw_aload_n rfl dL_law_1090 ?_
  refine aw_aload_n rfl dL_law_1091 ?_
  refine aw_iload_n rfl dL_law_1092 ?_
  refine aw_iconst (v := 1) (by decide) dL_law_1093 ?_
  refine aw_iadd dL_law_1094 ?_
  refine aw_sldN (c := i + 1) (nI_add i 1) (by omega) hL dL_law_1095 ?_
  refine aw_aload_n rfl dL_law_1096 ?_
  refine aw_iload_n rfl dL_law_1097 ?_
  refine aw_iconst (v := 2) (by decide) dL_law_1098 ?_
  refine aw_iadd dL_law_1099 ?_
  refine aw_sldN (c := i + 2) (nI_add i 2) (by omega) hL dL_law_1100 ?_
  refine aw_aload_n rfl dL_law_1101 ?_
  refine aw_iload_n rfl dL_law_1102 ?_
  refine aw_iconst (v := 3) (by decide) dL_law_1103 ?_
  refine aw_iadd dL_law_1104 ?_
  refine aw_sldN (c := i + 3) (nI_add i 3) (by omega) hL dL_law_1105 ?_
  refine aw_aload_n rfl dL_law_1106 ?_
  refine aw_iload_n rfl dL_law_1107 ?_
  refine aw_iconst (v := 4) (by decide) dL_law_1108 ?_
  refine aw_iadd dL_law_1109 ?_
  refine aw_sldN (c := i + 4) (nI_add i 4) (by omega) hL dL_law_1110 ?_
  refine aw_aload_n rfl dL_law_1111 ?_
  refine aw_iload_n rfl dL_law_1112 ?_
  refine aw_iconst (v := 5) (by decide) dL_law_1113 ?_
  refine aw_iadd dL_law_1114 ?_
  refine aw_sldN (c := i + 5) (nI_add i 5) (by omega) hL dL_law_1115 ?_
  refine aw_v5 kL_136 ⟨ble rfl, ble rfl⟩ (rcM) (ble rfl) dL_law_1116 (q_copy (h.2.1.of_ci h1) h.2.2 (fun μ2 h2 => ?_))
  refine aw_icmp_eq 1288 rfl dL_law_1119 (fun _ => ?_) (fun c_ => absurd (rfl) c_)
  exact next μ2 _ (INV.of h1 (W_copy h.2.2) h2)
theorem l_lays (hi : i + 6 ≤ Sc.1) (hL : Sc.1 ≤ 3072) (h : INV μ S) (next : LNx Sc n Q i) : AW Sc mL_law 1124 [(0, .ref 999), (1, .ref 0), (2, .ref 71), (3, .int (nI i))] [] K0 μ n Q := by
  refine aw_aload_n rfl dL_law_1124 ?_
  refine aw_aload_n rfl dL_law_1125 ?_
  refine aw_iload_n rfl dL_law_1126 ?_
  refine aw_iconst (v := 1) (by decide) dL_law_1127 ?_
  refine aw_iadd dL_law_1128 ?_
  refine aw_sldN (c := i + 1) (nI_add i 1) (by omega) hL dL_law_1129 ?_
  refine aw_v1 kL_137 ⟨ble rfl, ble rfl⟩ (rcX) (ble rfl) dL_law_1130 (e_lays h.1 h.2.2 (fun μ1 h1 => ?_))
  refine aw_aload_n rfl dL_law_1133 ?_
  refine aw_aload_n rfl dL_law_1134 ?_
  refine aw_iload_n rfl dL_law_1135 ?_
  refine aw_iconst (v := 1) (by decide) dL_law_1136 ?_
  refine aw_iadd dL_law_1137 ?_
  refine aw_sldN (c := i + 1) (nI_add i 1) (by omega) hL dL_law_1138 ?_
  refine aw_v1 kL_140 ⟨ble rfl, ble rfl⟩ (rcM) (ble rfl) dL_law_1139 (q_lays (h.2.1.of_ci h1) h.2.2 (fun μ2 h2 => ?_))
  refine aw_icmp_eq 1288 rfl dL_law_1142 (fun _ => ?_) (fun c_ => absurd (rfl) c_)
  exact next μ2 _ (INV.of h1 (W_lays h.2.2) h2)
theorem l_book (hi : i + 6 ≤ Sc.1) (hL : Sc.1 ≤ 3072) (h : INV μ S) (next : LNx Sc n Q i) : AW Sc mL_law 1147 [(0, .ref 999), (1, .ref 0), (2, .ref 71), (3, .int (nI i))] [] K0 μ n Q := by
  refine aw_aload_n rfl dL_law_1147 ?_
  refine aw_aload_n rfl dL_law_1148 ?_
  refine aw_iload_n rfl dL_law_1149 ?_
  refine aw_iconst (v := 1) (by decide) dL_law_1150 ?_
  refine aw_iadd dL_law_1151 ?_
  refine aw_sldN (c := i + 1) (nI_add i 1) (by omega) hL dL_law_1152 ?_
  refine aw_v1 kL_141 ⟨ble rfl, ble rfl⟩ (rcX) (ble rfl) dL_law_1153 (e_book h.1 h.2.2 (fun μ1 h1 => ?_))
  refine aw_aload_n rfl dL_law_1156 ?_
  refine aw_aload_n rfl dL_law_1157 ?_
  refine aw_iload_n rfl dL_law_1158 ?_
  refine aw_iconst (v := 1) (by decide) dL_law_1159 ?_
  refine aw_iadd dL_law_1160 ?_
  refine aw_sldN (c := i + 1) (nI_add i 1) (by omega) hL dL_law_1161 ?_
  refine aw_v1 kL_144 ⟨ble rfl, ble rfl⟩ (rcM) (ble rfl) dL_law_1162 (q_book (h.2.1.of_ci h1) h.2.2 (fun μ2 h2 => ?_))
  refine aw_icmp_eq 1288 rfl dL_law_1165 (fun _ => ?_) (fun c_ => absurd (rfl) c_)
  exact next μ2 _ (INV.of h1 (W_book h.2.2) h2)
theorem l_read (hi : i + 6 ≤ Sc.1) (hL : Sc.1 ≤ 3072) (h : INV μ S) (next : LNx Sc n Q i) : AW Sc mL_law 1170 [(0, .ref 999), (1, .ref 0), (2, .ref 71), (3, .int (nI i))] [] K0 μ n Q := by
  refine aw_aload_n rfl dL_law_1170 ?_
  refine aw_aload_n rfl dL_law_1171 ?_
  refine aw_iload_n rfl dL_law_1172 ?_
  refine aw_iconst (v := 1) (by decide) dL_law_1173 ?_
  refine aw_iadd dL_law_1174 ?_
  refine aw_sldN (c := i + 1) (nI_add i 1) (by omega) hL dL_law_1175 ?_
  refine aw_aload_n rfl dL_law_1176 ?_
  refine aw_iload_n rfl dL_law_1177 ?_
  refine aw_iconst (v := 2) (by decide) dL_law_1178 ?_
  refine aw_iadd dL_law_1179 ?_
  refine aw_sldN (c := i + 2) (nI_add i 2) (by omega) hL dL_law_1180 ?_
  refine aw_v2 kL_145 ⟨ble rfl, ble rfl⟩ (rcX) (ble rfl) dL_law_1181 (e_read h.1 h.2.2 (fun μ1 h1 => ?_))
  refine aw_aload_n rfl dL_law_1184 ?_
  refine aw_aload_n rfl dL_law_1185 ?_
  refine aw_iload_n rfl dL_law_1186 ?_
  refine aw_iconst (v := 1) (by decide) dL_law_1187 ?_
  refine aw_iadd dL_law_1188 ?_
  refine aw_sldN (c := i + 1) (nI_add i 1) (by omega) hL dL_law_1189 ?_
  refine aw_aload_n rfl dL_law_1190 ?_
  refine aw_iload_n rfl dL_law_1191 ?_
  refine aw_iconst (v := 2) (by decide) dL_law_1192 ?_
  refine aw_iadd dL_law_1193 ?_
  refine aw_sldN (c := i + 2) (nI_add i 2) (by omega) hL dL_law_1194 ?_
  refine aw_v2 kL_148 ⟨ble rfl, ble rfl⟩ (rcM) (ble rfl) dL_law_1195 (q_read (h.2.1.of_ci h1) h.2.2 (fun μ2 h2 => ?_))
  refine aw_icmp_eq 1288 rfl dL_law_1198 (fun _ => ?_) (fun c_ => absurd (rfl) c_)
  exact next μ2 _ (INV.of h1 (W_read h.2.2) h2)
theorem l_image (hi : i + 6 ≤ Sc.1) (hL : Sc.1 ≤ 3072) (h : INV μ S) (next : LNx Sc n Q i) : AW Sc mL_law 1203 [(0, .ref 999), (1, .ref 0), (2, .ref 71), (3, .int (nI i))] [] K0 μ n Q := by
  refine aw_aload_n rfl dL_law_1203 ?_
  refine aw_v0 kL_149 ⟨ble rfl, ble rfl⟩ (rcX) (ble rfl) dL_law_1204 (e_image h.1 h.2.2 (fun μ1 h1 => ?_))
  refine aw_aload_n rfl dL_law_1207 ?_
  refine aw_v0 kL_152 ⟨ble rfl, ble rfl⟩ (rcM) (ble rfl) dL_law_1208 (q_image (h.2.1.of_ci h1) (fun μ2 h2 => ?_))
  refine aw_icmp_eq 1288 rfl dL_law_1211 (fun _ => ?_) (fun c_ => absurd (rfl) c_)
  exact next μ2 _ (INV.of h1 (W_image h.2.2) h2)
theorem l_undo (hi : i + 6 ≤ Sc.1) (hL : Sc.1 ≤ 3072) (h : INV μ S) (next : LNx Sc n Q i) : AW Sc mL_law 1216 [(0, .ref 999), (1, .ref 0), (2, .ref 71), (3, .int (nI i))] [] K0 μ n Q := by
  refine aw_aload_n rfl dL_law_1216 ?_
  refine aw_v0 kL_153 ⟨ble rfl, ble rfl⟩ (rcX) (ble rfl) dL_law_1217 (e_undo h.1 h.2.2 (fun μ1 h1 => ?_))
  refine aw_aload_n rfl dL_law_1220 ?_
  refine aw_v0 kL_156 ⟨ble rfl, ble rfl⟩ (rcM) (ble rfl) dL_law_1221 (q_undo (h.2.1.of_ci h1) (fun μ2 h2 => ?_))
  refine aw_icmp_eq 1288 rfl dL_law_1224 (fun _ => ?_) (fun c_ => absurd (rfl) c_)
  exact next μ2 _ (INV.of h1 (W_undo h.2.2) h2)
theorem l_tear (hi : i + 6 ≤ Sc.1) (hL : Sc.1 ≤ 3072) (h : INV μ S) (next : LNx Sc n Q i) : AW Sc mL_law 1229 [(0, .ref 999), (1, .ref 0), (2, .ref 71), (3, .int (nI i))] [] K0 μ n Q := by
  refine aw_aload_n rfl dL_law_1229 ?_
  refine aw_v0 kL_157 ⟨ble rfl, ble rfl⟩ (rcX) (ble rfl) dL_law_1230 (e_tear h.1 h.2.2 (fun μ1 h1 => ?_))
  refine aw_aload_n rfl dL_law_1233 ?_
  refine aw_v0 kL_160 ⟨ble rfl, ble rfl⟩ (rcM) (ble rfl) dL_law_1234 (q_tear (h.2.1.of_ci h1) (fun μ2 h2 => ?_))
  refine aw_icmp_eq 1288 rfl dL_law_1237 (fun _ => ?_) (fun c_ => absurd (rfl) c_)
  exact next μ2 _ (INV.of h1 (W_tear h.2.2) h2)
theorem l_count (hi : i + 6 ≤ Sc.1) (hL : Sc.1 ≤ 3072) (h : INV μ S) (next : LNx Sc n Q i) : AW Sc mL_law 1242 [(0, .ref 999), (1, .ref 0), (2, .ref 71), (3, .int (nI i))] [] K0 μ n Q := by
  refine aw_aload_n rfl dL_law_1242 ?_
  refine aw_aload_n rfl dL_law_1243 ?_
  refine aw_iload_n rfl dL_law_1244 ?_
  refine aw_iconst (v := 1) (by decide) dL_law_1245 ?_
  refine aw_iadd dL_law_1246 ?_
  refine aw_sldN (c := i + 1) (nI_add i 1) (by omega) hL dL_law_1247 ?_
  refine aw_v1 kL_161 ⟨ble rfl, ble rfl⟩ (rcX) (ble rfl) dL_law_1248 (e_count h.1 h.2.2 (fun μ1 h1 => ?_))
  refine aw_aload_n rfl dL_law_1251 ?_
  refine aw_aload_n rfl dL_law_1252 ?_
  refine aw_iload_n rfl dL_law_1253 ?_
  refine aw_iconst (v := 1) (by decide) dL_law_1254 ?_
  refine aw_iadd dL_law_1255 ?_
  refine aw_sldN (c := i + 1) (nI_add i 1) (by omega) hL dL_law_1256 ?_
  refine aw_v1 kL_164 ⟨ble rfl, ble rfl⟩ (rcM) (ble rfl) dL_law_1257 (q_count (h.2.1.of_ci h1) h.2.2 (fun μ2 h2 => ?_))
  refine aw_icmp_eq 1288 rfl dL_law_1260 (fun _ => ?_) (fun c_ => absurd (rfl) c_)
  exact next μ2 _ (INV.of h1 (W_count h.2.2) h2)
theorem l_status (hi : i + 6 ≤ Sc.1) (hL : Sc.1 ≤ 3072) (h : INV μ S) (next : LNx Sc n Q i) : AW Sc mL_law 1265 [(0, .ref 999), (1, .ref 0), (2, .ref 71), (3, .int (nI i))] [] K0 μ n Q := by
  refine aw_aload_n rfl dL_law_1265 ?_
  refine aw_aload_n rfl dL_law_1266 ?_
  refine aw_iload_n rfl dL_law_1267 ?_
  refine aw_iconst (v := 1) (by decide) dL_law_1268 ?_
  refine aw_iadd dL_law_1269 ?_
  refine aw_sldN (c := i + 1) (nI_add i 1) (by omega) hL dL_law_1270 ?_
  refine aw_v1 kL_165 ⟨ble rfl, ble rfl⟩ (rcX) (ble rfl) dL_law_1271 (e_status h.1 h.2.2 (fun μ1 h1 => ?_))
  refine aw_aload_n rfl dL_law_1274 ?_
  refine aw_aload_n rfl dL_law_1275 ?_
  refine aw_iload_n rfl dL_law_1276 ?_
  refine aw_iconst (v := 1) (by decide) dL_law_1277 ?_
  refine aw_iadd dL_law_1278 ?_
  refine aw_sldN (c := i + 1) (nI_add i 1) (by omega) hL dL_law_1279 ?_
  refine aw_v1 kL_168 ⟨ble rfl, ble rfl⟩ (rcM) (ble rfl) dL_law_1280 (q_status (h.2.1.of_ci h1) (fun μ2 h2 => ?_))
  refine aw_icmp_eq 1288 rfl dL_law_1283 (fun _ => ?_) (fun c_ => absurd (rfl) c_)
  exact next μ2 _ (INV.of h1 (W_status h.2.2) h2)
theorem and63 (x : Int32) : ∃ c : Nat, c < 64 ∧ x &&& 63 = nI c := by
  refine ⟨(x.toBitVec &&& 63#32).toNat, ?_, ?_⟩
  · rw [BitVec.toNat_and]
    exact Nat.lt_of_le_of_lt Nat.and_le_right (by decide)
  · apply Int32.toBitVec_inj.1
    show x.toBitVec &&& 63#32 = BitVec.ofNat 32 (x.toBitVec &&& 63#32).toNat
    rw [BitVec.ofNat_toNat, BitVec.setWidth_eq]
theorem l_switch {x : Int32} (hi : i + 6 ≤ Sc.1) (hL : Sc.1 ≤ 3072) (h : INV μ S) (next : LNx Sc n Q i) : AW Sc mL_law 33 [(0, .ref 999), (1, .ref 0), (2, .ref 71), (3, .int (nI i))] [.int (x &&& 63)] K0 μ n Q := by
  obtain ⟨c, hc, e⟩ := and63 x
  rw [e]
  by_cases h36 : c ≤ 36
  · have hcs : c = 0 ∨ c = 1 ∨ c = 2 ∨ c = 3 ∨ c = 4 ∨ c = 5 ∨ c = 6 ∨ c = 7 ∨ c = 8 ∨ c = 9 ∨ c = 10 ∨ c = 11 ∨ c = 12 ∨ c = 13 ∨ c = 14 ∨ c = 15 ∨ c = 16 ∨ c = 17 ∨ c = 18 ∨ c = 19 ∨ c = 20 ∨ c = 21 ∨ c = 22 ∨ c = 23 ∨ c = 24 ∨ c = 25 ∨ c = 26 ∨ c = 27 ∨ c = 28 ∨ c = 29 ∨ c = 30 ∨ c = 31 ∨ c = 32 ∨ c = 33 ∨ c = 34 ∨ c = 35 ∨ c = 36 := by omega
    rcases hcs with rfl | rfl | rfl | rfl | rfl | rfl | rfl | rfl | rfl | rfl | rfl | rfl | rfl | rfl | rfl | rfl | rfl | rfl | rfl | rfl | rfl | rfl | rfl | rfl | rfl | rfl | rfl | rfl | rfl | rfl | rfl | rfl | rfl | rfl | rfl | rfl | rfl
    · refine aw_tabIn 196 (by decide) (by decide) rfl rfl dL_law_33 ?_
      exact l_slack hi hL h next
    · refine aw_tabIn 219 (by decide) (by decide) rfl rfl dL_law_33 ?_
      exact l_harvest hi hL h next
    · refine aw_tabIn 242 (by decide) (by decide) rfl rfl dL_law_33 ?_
      exact l_knot hi hL h next
    · refine aw_tabIn 265 (by decide) (by decide) rfl rfl dL_law_33 ?_
      exact l_now hi hL h next
    · refine aw_tabIn 288 (by decide) (by decide) rfl rfl dL_law_33 ?_
      exact l_person hi hL h next
    · refine aw_tabIn 321 (by decide) (by decide) rfl rfl dL_law_33 ?_
      exact l_of hi hL h next
    · refine aw_tabIn 354 (by decide) (by decide) rfl rfl dL_law_33 ?_
      exact l_set hi hL h next
    · refine aw_tabIn 397 (by decide) (by decide) rfl rfl dL_law_33 ?_
      exact l_turn hi hL h next
    · refine aw_tabIn 430 (by decide) (by decide) rfl rfl dL_law_33 ?_
      exact l_as hi hL h next
    · refine aw_tabIn 463 (by decide) (by decide) rfl rfl dL_law_33 ?_
      exact l_relieve hi hL h next
    · refine aw_tabIn 496 (by decide) (by decide) rfl rfl dL_law_33 ?_
      exact l_days hi hL h next
    · refine aw_tabIn 519 (by decide) (by decide) rfl rfl dL_law_33 ?_
      exact l_on hi hL h next
    · refine aw_tabIn 552 (by decide) (by decide) rfl rfl dL_law_33 ?_
      exact l_then hi hL h next
    · refine aw_tabIn 595 (by decide) (by decide) rfl rfl dL_law_33 ?_
      exact l_wins hi hL h next
    · refine aw_tabIn 628 (by decide) (by decide) rfl rfl dL_law_33 ?_
      exact l_off hi hL h next
    · refine aw_tabIn 651 (by decide) (by decide) rfl rfl dL_law_33 ?_
      exact l_turns hi hL h next
    · refine aw_tabIn 664 (by decide) (by decide) rfl rfl dL_law_33 ?_
      exact l_spell hi hL h next
    · refine aw_tabIn 697 (by decide) (by decide) rfl rfl dL_law_33 ?_
      exact l_kind hi hL h next
    · refine aw_tabIn 730 (by decide) (by decide) rfl rfl dL_law_33 ?_
      exact l_week hi hL h next
    · refine aw_tabIn 763 (by decide) (by decide) rfl rfl dL_law_33 ?_
      exact l_strong hi hL h next
    · refine aw_tabIn 806 (by decide) (by decide) rfl rfl dL_law_33 ?_
      exact l_bears hi hL h next
    · refine aw_tabIn 839 (by decide) (by decide) rfl rfl dL_law_33 ?_
      exact l_fewest hi hL h next
    · refine aw_tabIn 862 (by decide) (by decide) rfl rfl dL_law_33 ?_
      exact l_traitor hi hL h next
    · refine aw_tabIn 885 (by decide) (by decide) rfl rfl dL_law_33 ?_
      exact l_feed hi hL h next
    · refine aw_tabIn 918 (by decide) (by decide) rfl rfl dL_law_33 ?_
      exact l_wipe hi hL h next
    · refine aw_tabIn 931 (by decide) (by decide) rfl rfl dL_law_33 ?_
      exact l_green hi hL h next
    · refine aw_tabIn 944 (by decide) (by decide) rfl rfl dL_law_33 ?_
      exact l_sheet hi hL h next
    · refine aw_tabIn 987 (by decide) (by decide) rfl rfl dL_law_33 ?_
      exact l_write hi hL h next
    · refine aw_tabIn 1061 (by decide) (by decide) rfl rfl dL_law_33 ?_
      exact l_copy hi hL h next
    · refine aw_tabIn 1124 (by decide) (by decide) rfl rfl dL_law_33 ?_
      exact l_lays hi hL h next
    · refine aw_tabIn 1147 (by decide) (by decide) rfl rfl dL_law_33 ?_
      exact l_book hi hL h next
    · refine aw_tabIn 1170 (by decide) (by decide) rfl rfl dL_law_33 ?_
      exact l_read hi hL h next
    · refine aw_tabIn 1203 (by decide) (by decide) rfl rfl dL_law_33 ?_
      exact l_image hi hL h next
    · refine aw_tabIn 1216 (by decide) (by decide) rfl rfl dL_law_33 ?_
      exact l_undo hi hL h next
    · refine aw_tabIn 1229 (by decide) (by decide) rfl rfl dL_law_33 ?_
      exact l_tear hi hL h next
    · refine aw_tabIn 1242 (by decide) (by decide) rfl rfl dL_law_33 ?_
      exact l_count hi hL h next
    · refine aw_tabIn 1265 (by decide) (by decide) rfl rfl dL_law_33 ?_
      exact l_status hi hL h next
  · refine aw_tabOut 1288 (Or.inr (by rw [nI_toInt (by omega)]; omega)) rfl dL_law_33 ?_
    exact next μ S h
def S00 : SG := (s0, fun _ => 0, false, fun _ => 0, fun _ => 0, 0, fun _ => 0, fun _ => 0, fun _ => 0)
theorem W_00 : WF S00 := by
  refine ⟨⟨by decide, by decide, by decide, ⟨3, by decide, by decide⟩, fun k hk => absurd hk (Nat.not_lt_zero k)⟩, fun e => (by cases e), Nat.zero_le _, fun i _ => ⟨0, Nat.zero_le _, rfl⟩, fun k _ => ⟨0, by decide, rfl⟩⟩
theorem I_00 (h1 : CB μ) (h2 : MB μ) : INV μ S00 := by
  obtain ⟨a, b, c, d, e, f, g, k, l⟩ := h1
  obtain ⟨m1, m2, m3, m4, m5, m6, m7, m8, m9, m10, m11, m12, m13⟩ := h2
  exact ⟨⟨fun _ _ => ⟨rfl, rfl, rfl⟩, a, b, c, fun e => (by cases e), d, e, f, g, k, l⟩, ⟨⟨fun _ _ => ⟨rfl, rfl⟩, rfl⟩, m1, m2, m3, m4, fun e => (by cases e), m5, m6, m7, m8, m9, m10, m11, m12, m13⟩, W_00⟩
/-- THE LAW, from its entry -/
theorem law_aw (hL : Sc.1 ≤ 3072) : AW Sc mL_law 0 [(0, .ref 999)] [] (Kp 0) μ (85, 1196) (fun v _ _ => v = some (.int 1)) := by
  refine aw_newP (m := 0) (84, 1188) nL_7 rfl ⟨ble rfl, ble rfl⟩ dL_law_0 ?_
  refine aw_dup rfl dL_law_3 ?_
  refine aw_i0 (70, 549) (14, 639) kL_9 ⟨ble rfl, ble rfl⟩ (ble rfl) ⟨ble rfl, ble rfl⟩ dL_law_4 (i_class (p0_1 _ _) (fun μ1 h1 => ?_))
  refine aw_astore_n (ble rfl) dL_law_7 ?_
  refine aw_newP (m := 71) (13, 620) nL_10 rfl ⟨ble rfl, ble rfl⟩ dL_law_8 ?_
  refine aw_dup rfl dL_law_11 ?_
  refine aw_i0 (13, 620) (0, 0) kL_12 ⟨ble rfl, ble rfl⟩ (ble rfl) ⟨ble rfl, ble rfl⟩ dL_law_12 (i_model (by rw [p0_1]) (by rw [p0_1]) (fun μ2 hs h2 => ?_))
  have h3 : INV μ2 S00 := I_00 ((h1.sm (sm_p0 (by decide))).sm hs) h2
  have loop : ∀ (f i : Nat) (ν : Mem) (S : SG), Sc.1 < i + f → i ≤ 3072 → INV ν S → AW Sc mL_law 18 [(0, .ref 999), (1, .ref 0), (2, .ref 71), (3, .int (nI i))] [] K0 ν (0, 0) (fun v _ _ => v = some (.int 1)) := by
    intro f
    induction f with
    | zero =>
      intro i ν S hf hi hI
      refine aw_iload_n rfl dL_law_18 ?_
      refine aw_aload_n rfl dL_law_19 ?_
      refine aw_slen dL_law_20 ?_
      refine aw_bipush (v := 6) (by decide) dL_law_21 ?_
      refine aw_isub dL_law_23 ?_
      have e : (nI Sc.1 - 6).toInt = (Sc.1 : Int) - 6 := by
        rw [fb_subI (by rw [nI_toInt (by omega)]; show (-2147483648 : Int) ≤ _ - 6; omega) (by rw [nI_toInt (by omega)]; show _ - (6 : Int) < 2147483648; omega), nI_toInt (by omega)]
        rfl
      refine aw_icmp_gt 1294 rfl dL_law_24 (fun _ => ?_) (fun c_ => absurd ((by rw [fa_lt, e, nI_toInt (by omega)]; omega)) c_)
      refine aw_iconst (v := 1) (by decide) dL_law_1294 ?_
      exact aw_ireturn dL_law_1295 ⟨.boolean, rfl, by decide⟩ rfl
    | succ f ih =>
      intro i ν S hf hi hI
      refine aw_iload_n rfl dL_law_18 ?_
      refine aw_aload_n rfl dL_law_19 ?_
      refine aw_slen dL_law_20 ?_
      refine aw_bipush (v := 6) (by decide) dL_law_21 ?_
      refine aw_isub dL_law_23 ?_
      have e : (nI Sc.1 - 6).toInt = (Sc.1 : Int) - 6 := by
        rw [fb_subI (by rw [nI_toInt (by omega)]; show (-2147483648 : Int) ≤ _ - 6; omega) (by rw [nI_toInt (by omega)]; show _ - (6 : Int) < 2147483648; omega), nI_toInt (by omega)]
        rfl
      refine aw_icmp_gt 1294 rfl dL_law_24 (fun c => ?_) (fun c => ?_)
      · refine aw_iconst (v := 1) (by decide) dL_law_1294 ?_
        exact aw_ireturn dL_law_1295 ⟨.boolean, rfl, by decide⟩ rfl
      · rw [fa_lt, e, nI_toInt (by omega)] at c
        refine aw_aload_n rfl dL_law_27 ?_
        refine aw_iload_n rfl dL_law_28 ?_
        refine aw_sldN (c := i) rfl (by omega) hL dL_law_29 ?_
        refine aw_bipush (v := 63) (by decide) dL_law_30 ?_
        refine aw_iand dL_law_32 ?_
        refine l_switch (by omega) hL hI (fun μ' S' hI' => ?_)
        refine aw_iinc rfl (v := 6) (by decide) (ble rfl) dL_law_1288 ?_
        refine aw_goto 18 rfl dL_law_1291 ?_
        rw [show nI i + 6 = nI (i + 6) from nI_add i 6]
        exact ih (i + 6) μ' S' (by omega) (by omega) hI'
  refine aw_astore_n (ble rfl) dL_law_15 ?_
  refine aw_iconst (v := 0) (by decide) dL_law_16 ?_
  refine aw_istore_n (ble rfl) dL_law_17 ?_
  exact loop (Sc.1 + 1) 0 μ2 S00 (by omega) (by omega) h3
end Law1
