section
variable {p : Program} {l : Launch} {e : Env} {s : State} {m : MethodId} {args : Array Value} {below : List Frame} {meth : Method} {c : Code} {H : Heap} {locs : List Loc} {Q : State → Prop} {ls : Array Slot} {D : va_G} {cI : ClassId} {adX adM : Nat → Nat} {fv : Value} {b L : Nat} {xs : Nat → Int32} {a : At} {σX σM : zG} {i : Int32}
set_option maxRecDepth 20000 in
set_option maxHeartbeats 4000000 in
theorem lc_joint (C : zLC p l s m args c b L xs D cI adX adM fv) (hX : RX σX a) (hM : WX σM a) (hPX : va_P D vwCl (zW cI adX zshX 44 σX) H) (hPM : va_P D vwCl (zW cI adM zshM 15 σM) H) (hS : va_S (fun q : Nat => s.heap.size ≤ q) s.heap H locs) (hl : lv_has ls 4 [(0, .ref b), (1, .ref (adX 0)), (2, .ref (adM 0)), (3, .int i)]) (h1 : vp_in (i + 1) L) (h2 : vp_in (i + 2) L) (h3 : vp_in (i + 3) L) (kk : ∀ (a' : At) (σX' σM' : zG) (H' : Heap) (locs' : List Loc), RX σX' a' → WX σM' a' → va_P D vwCl (zW cI adX zshX 44 σX') H' → va_P D vwCl (zW cI adM zshM 15 σM') H' → va_S (fun q : Nat => s.heap.size ≤ q) s.heap H' locs' → W p l e room_1 s m args below meth c H' locs' 59 1154 Q (F0 m 1244 ls [])) : W p l e room_1 s m args below meth c H locs 59 1154 Q (F0 m 285 ls []) := by
  obtain ⟨hfv, iX, iM, hd, hx, hb, hml, hown, hts, hK, h0X, h0M, aX, aM, hsc, hbl⟩ := C
  have hbA : ¬ (fun q : Nat => s.heap.size ≤ q) b := Nat.not_le.mpr hbl
  refine lv_aload_n hx hb d_law_285 rfl (lv_at hl 1 rfl) ?_
  refine lv_aload_n hx hb d_law_286 rfl (lv_at hl 0 rfl) ?_
  refine lv_iload_n hx hb d_law_287 rfl (lv_at hl 3 rfl) ?_
  refine lv_iconst (v := 1) hx hb d_law_288 (by decide) ?_
  refine lv_iadd hx hb d_law_289 ?_
  refine va_sld hx hb hsc hbl hbA hS h1 d_law_290 ?_
  refine lv_aload_n hx hb d_law_291 rfl (lv_at hl 0 rfl) ?_
  refine lv_iload_n hx hb d_law_292 rfl (lv_at hl 3 rfl) ?_
  refine lv_iconst (v := 2) hx hb d_law_293 (by decide) ?_
  refine lv_iadd hx hb d_law_294 ?_
  refine va_sld hx hb hsc hbl hbA hS h2 d_law_295 ?_
  refine zl_call (ad := adX) (sh := zshX) (N := 44) (Q' := fun r σ' => r = some (.int (c_joint a (xs (i + 1).toNatClampNeg) (xs (i + 2).toNatClampNeg)).1) ∧ RX σ' (c_joint a (xs (i + 1).toNatClampNeg) (xs (i + 2).toNatClampNeg)).2) hfv zshX_ok iX hx hb hml hown hts hK h0X aX hS hPX (mi := 106) rfl [.int (xs (i + 1).toNatClampNeg), .int (xs (i + 2).toNatClampNeg)] (X_joint hX (fun σ' h => ⟨rfl, h⟩)) (Nat.le_of_ble_eq_true rfl) rfl (by decide) (by decide) rfl (zg3 (List.mem_of_getElem? (i := 58) rfl) rfl) ⟨(Nat.le_of_ble_eq_true rfl), (Nat.le_of_ble_eq_true rfl)⟩ hl.1 (Nat.le_of_ble_eq_true rfl) d_law_296 rfl (fun r σX' H1 locs1 hq hPX1 hk hS1 => ?_) (Nat.le_refl _) (Nat.le_refl _)
  obtain ⟨rfl, hX1⟩ := hq
  have hPM1 := zl_keep hPM hk hd
  refine lv_aload_n hx hb d_law_299 rfl (lv_at hl 2 rfl) ?_
  refine lv_aload_n hx hb d_law_300 rfl (lv_at hl 0 rfl) ?_
  refine lv_iload_n hx hb d_law_301 rfl (lv_at hl 3 rfl) ?_
  refine lv_iconst (v := 1) hx hb d_law_302 (by decide) ?_
  refine lv_iadd hx hb d_law_303 ?_
  refine va_sld hx hb hsc hbl hbA hS1 h1 d_law_304 ?_
  refine lv_aload_n hx hb d_law_305 rfl (lv_at hl 0 rfl) ?_
  refine lv_iload_n hx hb d_law_306 rfl (lv_at hl 3 rfl) ?_
  refine lv_iconst (v := 2) hx hb d_law_307 (by decide) ?_
  refine lv_iadd hx hb d_law_308 ?_
  refine va_sld hx hb hsc hbl hbA hS1 h2 d_law_309 ?_
  refine zl_call (ad := adM) (sh := zshM) (N := 15) (Q' := fun r σ' => r = some (.int (c_joint a (xs (i + 1).toNatClampNeg) (xs (i + 2).toNatClampNeg)).1) ∧ WX σ' (c_joint a (xs (i + 1).toNatClampNeg) (xs (i + 2).toNatClampNeg)).2) hfv zshM_ok iM hx hb hml hown hts hK h0M aM hS1 hPM1 (mi := 206) rfl [.int (xs (i + 1).toNatClampNeg), .int (xs (i + 2).toNatClampNeg)] (M_joint hM (fun σ' h => ⟨rfl, h⟩)) (Nat.le_of_ble_eq_true rfl) rfl (by decide) (by decide) rfl (zg6 (List.mem_of_getElem? (i := 49) rfl) rfl) ⟨(Nat.le_of_ble_eq_true rfl), (Nat.le_of_ble_eq_true rfl)⟩ hl.1 (Nat.le_of_ble_eq_true rfl) d_law_310 rfl (fun r σM' H2 locs2 hq hPM2 hk2 hS2 => ?_) (Nat.le_refl _) (Nat.le_refl _)
  obtain ⟨rfl, hM1⟩ := hq
  have hPX2 := zl_keep hPX1 hk2 (fun i j g1 g2 e => hd j i g2 g1 e.symm)
  refine lv_icmp_eq (tgt := 1244) hx hb d_law_313 (by decide) (fun _ => ?_) (fun h => absurd rfl h)
  exact kk _ σX' σM' H2 locs2 hX1 hM1 hPX2 hPM2 hS2
set_option maxRecDepth 20000 in
set_option maxHeartbeats 4000000 in
theorem lc_mason (C : zLC p l s m args c b L xs D cI adX adM fv) (hX : RX σX a) (hM : WX σM a) (hPX : va_P D vwCl (zW cI adX zshX 44 σX) H) (hPM : va_P D vwCl (zW cI adM zshM 15 σM) H) (hS : va_S (fun q : Nat => s.heap.size ≤ q) s.heap H locs) (hl : lv_has ls 4 [(0, .ref b), (1, .ref (adX 0)), (2, .ref (adM 0)), (3, .int i)]) (h1 : vp_in (i + 1) L) (h2 : vp_in (i + 2) L) (h3 : vp_in (i + 3) L) (kk : ∀ (a' : At) (σX' σM' : zG) (H' : Heap) (locs' : List Loc), RX σX' a' → WX σM' a' → va_P D vwCl (zW cI adX zshX 44 σX') H' → va_P D vwCl (zW cI adM zshM 15 σM') H' → va_S (fun q : Nat => s.heap.size ≤ q) s.heap H' locs' → W p l e room_1 s m args below meth c H' locs' 59 1154 Q (F0 m 1244 ls [])) : W p l e room_1 s m args below meth c H locs 59 1154 Q (F0 m 318 ls []) := by
  obtain ⟨hfv, iX, iM, hd, hx, hb, hml, hown, hts, hK, h0X, h0M, aX, aM, hsc, hbl⟩ := C
  have hbA : ¬ (fun q : Nat => s.heap.size ≤ q) b := Nat.not_le.mpr hbl
  refine lv_aload_n hx hb d_law_318 rfl (lv_at hl 1 rfl) ?_
  refine lv_aload_n hx hb d_law_319 rfl (lv_at hl 0 rfl) ?_
  refine lv_iload_n hx hb d_law_320 rfl (lv_at hl 3 rfl) ?_
  refine lv_iconst (v := 1) hx hb d_law_321 (by decide) ?_
  refine lv_iadd hx hb d_law_322 ?_
  refine va_sld hx hb hsc hbl hbA hS h1 d_law_323 ?_
  refine lv_aload_n hx hb d_law_324 rfl (lv_at hl 0 rfl) ?_
  refine lv_iload_n hx hb d_law_325 rfl (lv_at hl 3 rfl) ?_
  refine lv_iconst (v := 2) hx hb d_law_326 (by decide) ?_
  refine lv_iadd hx hb d_law_327 ?_
  refine va_sld hx hb hsc hbl hbA hS h2 d_law_328 ?_
  refine zl_call (ad := adX) (sh := zshX) (N := 44) (Q' := fun r σ' => r = some (.int (c_mason a (xs (i + 1).toNatClampNeg) (xs (i + 2).toNatClampNeg)).1) ∧ RX σ' (c_mason a (xs (i + 1).toNatClampNeg) (xs (i + 2).toNatClampNeg)).2) hfv zshX_ok iX hx hb hml hown hts hK h0X aX hS hPX (mi := 107) rfl [.int (xs (i + 1).toNatClampNeg), .int (xs (i + 2).toNatClampNeg)] (X_mason hX (fun σ' h => ⟨rfl, h⟩)) (Nat.le_of_ble_eq_true rfl) rfl (by decide) (by decide) rfl (zg3 (List.mem_of_getElem? (i := 77) rfl) rfl) ⟨(Nat.le_of_ble_eq_true rfl), (Nat.le_of_ble_eq_true rfl)⟩ hl.1 (Nat.le_of_ble_eq_true rfl) d_law_329 rfl (fun r σX' H1 locs1 hq hPX1 hk hS1 => ?_) (Nat.le_refl _) (Nat.le_refl _)
  obtain ⟨rfl, hX1⟩ := hq
  have hPM1 := zl_keep hPM hk hd
  refine lv_aload_n hx hb d_law_332 rfl (lv_at hl 2 rfl) ?_
  refine lv_aload_n hx hb d_law_333 rfl (lv_at hl 0 rfl) ?_
  refine lv_iload_n hx hb d_law_334 rfl (lv_at hl 3 rfl) ?_
  refine lv_iconst (v := 1) hx hb d_law_335 (by decide) ?_
  refine lv_iadd hx hb d_law_336 ?_
  refine va_sld hx hb hsc hbl hbA hS1 h1 d_law_337 ?_
  refine lv_aload_n hx hb d_law_338 rfl (lv_at hl 0 rfl) ?_
  refine lv_iload_n hx hb d_law_339 rfl (lv_at hl 3 rfl) ?_
  refine lv_iconst (v := 2) hx hb d_law_340 (by decide) ?_
  refine lv_iadd hx hb d_law_341 ?_
  refine va_sld hx hb hsc hbl hbA hS1 h2 d_law_342 ?_
  refine zl_call (ad := adM) (sh := zshM) (N := 15) (Q' := fun r σ' => r = some (.int (c_mason a (xs (i + 1).toNatClampNeg) (xs (i + 2).toNatClampNeg)).1) ∧ WX σ' (c_mason a (xs (i + 1).toNatClampNeg) (xs (i + 2).toNatClampNeg)).2) hfv zshM_ok iM hx hb hml hown hts hK h0M aM hS1 hPM1 (mi := 207) rfl [.int (xs (i + 1).toNatClampNeg), .int (xs (i + 2).toNatClampNeg)] (M_mason hM (fun σ' h => ⟨rfl, h⟩)) (Nat.le_of_ble_eq_true rfl) rfl (by decide) (by decide) rfl (zg6 (List.mem_of_getElem? (i := 61) rfl) rfl) ⟨(Nat.le_of_ble_eq_true rfl), (Nat.le_of_ble_eq_true rfl)⟩ hl.1 (Nat.le_of_ble_eq_true rfl) d_law_343 rfl (fun r σM' H2 locs2 hq hPM2 hk2 hS2 => ?_) (Nat.le_refl _) (Nat.le_refl _)
  obtain ⟨rfl, hM1⟩ := hq
  have hPX2 := zl_keep hPX1 hk2 (fun i j g1 g2 e => hd j i g2 g1 e.symm)
  refine lv_icmp_eq (tgt := 1244) hx hb d_law_346 (by decide) (fun _ => ?_) (fun h => absurd rfl h)
  exact kk _ σX' σM' H2 locs2 hX1 hM1 hPX2 hPM2 hS2
set_option maxRecDepth 20000 in
set_option maxHeartbeats 4000000 in
theorem lc_lays (C : zLC p l s m args c b L xs D cI adX adM fv) (hX : RX σX a) (hM : WX σM a) (hPX : va_P D vwCl (zW cI adX zshX 44 σX) H) (hPM : va_P D vwCl (zW cI adM zshM 15 σM) H) (hS : va_S (fun q : Nat => s.heap.size ≤ q) s.heap H locs) (hl : lv_has ls 4 [(0, .ref b), (1, .ref (adX 0)), (2, .ref (adM 0)), (3, .int i)]) (h1 : vp_in (i + 1) L) (h2 : vp_in (i + 2) L) (h3 : vp_in (i + 3) L) (kk : ∀ (a' : At) (σX' σM' : zG) (H' : Heap) (locs' : List Loc), RX σX' a' → WX σM' a' → va_P D vwCl (zW cI adX zshX 44 σX') H' → va_P D vwCl (zW cI adM zshM 15 σM') H' → va_S (fun q : Nat => s.heap.size ≤ q) s.heap H' locs' → W p l e room_1 s m args below meth c H' locs' 59 1154 Q (F0 m 1244 ls [])) : W p l e room_1 s m args below meth c H locs 59 1154 Q (F0 m 351 ls []) := by
  obtain ⟨hfv, iX, iM, hd, hx, hb, hml, hown, hts, hK, h0X, h0M, aX, aM, hsc, hbl⟩ := C
  have hbA : ¬ (fun q : Nat => s.heap.size ≤ q) b := Nat.not_le.mpr hbl
  refine lv_aload_n hx hb d_law_351 rfl (lv_at hl 1 rfl) ?_
  refine lv_aload_n hx hb d_law_352 rfl (lv_at hl 0 rfl) ?_
  refine lv_iload_n hx hb d_law_353 rfl (lv_at hl 3 rfl) ?_
  refine lv_iconst (v := 1) hx hb d_law_354 (by decide) ?_
  refine lv_iadd hx hb d_law_355 ?_
  refine va_sld hx hb hsc hbl hbA hS h1 d_law_356 ?_
  refine lv_aload_n hx hb d_law_357 rfl (lv_at hl 0 rfl) ?_
  refine lv_iload_n hx hb d_law_358 rfl (lv_at hl 3 rfl) ?_
  refine lv_iconst (v := 2) hx hb d_law_359 (by decide) ?_
  refine lv_iadd hx hb d_law_360 ?_
  refine va_sld hx hb hsc hbl hbA hS h2 d_law_361 ?_
  refine lv_aload_n hx hb d_law_362 rfl (lv_at hl 0 rfl) ?_
  refine lv_iload_n hx hb d_law_363 rfl (lv_at hl 3 rfl) ?_
  refine lv_iconst (v := 3) hx hb d_law_364 (by decide) ?_
  refine lv_iadd hx hb d_law_365 ?_
  refine va_sld hx hb hsc hbl hbA hS h3 d_law_366 ?_
  refine zl_call (ad := adX) (sh := zshX) (N := 44) (Q' := fun r σ' => r = some (.int (c_lays a (xs (i + 1).toNatClampNeg) (xs (i + 2).toNatClampNeg) (xs (i + 3).toNatClampNeg)).1) ∧ RX σ' (c_lays a (xs (i + 1).toNatClampNeg) (xs (i + 2).toNatClampNeg) (xs (i + 3).toNatClampNeg)).2) hfv zshX_ok iX hx hb hml hown hts hK h0X aX hS hPX (mi := 108) rfl [.int (xs (i + 1).toNatClampNeg), .int (xs (i + 2).toNatClampNeg), .int (xs (i + 3).toNatClampNeg)] (X_lays hX (fun σ' h => ⟨rfl, h⟩)) (Nat.le_of_ble_eq_true rfl) rfl (by decide) (by decide) rfl (zg3 (List.mem_of_getElem? (i := 101) rfl) rfl) ⟨(Nat.le_of_ble_eq_true rfl), (Nat.le_of_ble_eq_true rfl)⟩ hl.1 (Nat.le_of_ble_eq_true rfl) d_law_367 rfl (fun r σX' H1 locs1 hq hPX1 hk hS1 => ?_) (Nat.le_refl _) (Nat.le_refl _)
  obtain ⟨rfl, hX1⟩ := hq
  have hPM1 := zl_keep hPM hk hd
  refine lv_aload_n hx hb d_law_370 rfl (lv_at hl 2 rfl) ?_
  refine lv_aload_n hx hb d_law_371 rfl (lv_at hl 0 rfl) ?_
  refine lv_iload_n hx hb d_law_372 rfl (lv_at hl 3 rfl) ?_
  refine lv_iconst (v := 1) hx hb d_law_373 (by decide) ?_
  refine lv_iadd hx hb d_law_374 ?_
  refine va_sld hx hb hsc hbl hbA hS1 h1 d_law_375 ?_
  refine lv_aload_n hx hb d_law_376 rfl (lv_at hl 0 rfl) ?_
  refine lv_iload_n hx hb d_law_377 rfl (lv_at hl 3 rfl) ?_
  refine lv_iconst (v := 2) hx hb d_law_378 (by decide) ?_
  refine lv_iadd hx hb d_law_379 ?_
  refine va_sld hx hb hsc hbl hbA hS1 h2 d_law_380 ?_
  refine lv_aload_n hx hb d_law_381 rfl (lv_at hl 0 rfl) ?_
  refine lv_iload_n hx hb d_law_382 rfl (lv_at hl 3 rfl) ?_
  refine lv_iconst (v := 3) hx hb d_law_383 (by decide) ?_
  refine lv_iadd hx hb d_law_384 ?_
  refine va_sld hx hb hsc hbl hbA hS1 h3 d_law_385 ?_
  refine zl_call (ad := adM) (sh := zshM) (N := 15) (Q' := fun r σ' => r = some (.int (c_lays a (xs (i + 1).toNatClampNeg) (xs (i + 2).toNatClampNeg) (xs (i + 3).toNatClampNeg)).1) ∧ WX σ' (c_lays a (xs (i + 1).toNatClampNeg) (xs (i + 2).toNatClampNeg) (xs (i + 3).toNatClampNeg)).2) hfv zshM_ok iM hx hb hml hown hts hK h0M aM hS1 hPM1 (mi := 208) rfl [.int (xs (i + 1).toNatClampNeg), .int (xs (i + 2).toNatClampNeg), .int (xs (i + 3).toNatClampNeg)] (M_lays hM (fun σ' h => ⟨rfl, h⟩)) (Nat.le_of_ble_eq_true rfl) rfl (by decide) (by decide) rfl (zg6 (List.mem_of_getElem? (i := 69) rfl) rfl) ⟨(Nat.le_of_ble_eq_true rfl), (Nat.le_of_ble_eq_true rfl)⟩ hl.1 (Nat.le_of_ble_eq_true rfl) d_law_386 rfl (fun r σM' H2 locs2 hq hPM2 hk2 hS2 => ?_) (Nat.le_refl _) (Nat.le_refl _)
  obtain ⟨rfl, hM1⟩ := hq
  have hPX2 := zl_keep hPX1 hk2 (fun i j g1 g2 e => hd j i g2 g1 e.symm)
  refine lv_icmp_eq (tgt := 1244) hx hb d_law_389 (by decide) (fun _ => ?_) (fun h => absurd rfl h)
  exact kk _ σX' σM' H2 locs2 hX1 hM1 hPX2 hPM2 hS2
set_option maxRecDepth 20000 in
set_option maxHeartbeats 4000000 in
theorem lc_corrects (C : zLC p l s m args c b L xs D cI adX adM fv) (hX : RX σX a) (hM : WX σM a) (hPX : va_P D vwCl (zW cI adX zshX 44 σX) H) (hPM : va_P D vwCl (zW cI adM zshM 15 σM) H) (hS : va_S (fun q : Nat => s.heap.size ≤ q) s.heap H locs) (hl : lv_has ls 4 [(0, .ref b), (1, .ref (adX 0)), (2, .ref (adM 0)), (3, .int i)]) (h1 : vp_in (i + 1) L) (h2 : vp_in (i + 2) L) (h3 : vp_in (i + 3) L) (kk : ∀ (a' : At) (σX' σM' : zG) (H' : Heap) (locs' : List Loc), RX σX' a' → WX σM' a' → va_P D vwCl (zW cI adX zshX 44 σX') H' → va_P D vwCl (zW cI adM zshM 15 σM') H' → va_S (fun q : Nat => s.heap.size ≤ q) s.heap H' locs' → W p l e room_1 s m args below meth c H' locs' 59 1154 Q (F0 m 1244 ls [])) : W p l e room_1 s m args below meth c H locs 59 1154 Q (F0 m 394 ls []) := by
  obtain ⟨hfv, iX, iM, hd, hx, hb, hml, hown, hts, hK, h0X, h0M, aX, aM, hsc, hbl⟩ := C
  have hbA : ¬ (fun q : Nat => s.heap.size ≤ q) b := Nat.not_le.mpr hbl
  refine lv_aload_n hx hb d_law_394 rfl (lv_at hl 1 rfl) ?_
  refine lv_aload_n hx hb d_law_395 rfl (lv_at hl 0 rfl) ?_
  refine lv_iload_n hx hb d_law_396 rfl (lv_at hl 3 rfl) ?_
  refine lv_iconst (v := 1) hx hb d_law_397 (by decide) ?_
  refine lv_iadd hx hb d_law_398 ?_
  refine va_sld hx hb hsc hbl hbA hS h1 d_law_399 ?_
  refine lv_aload_n hx hb d_law_400 rfl (lv_at hl 0 rfl) ?_
  refine lv_iload_n hx hb d_law_401 rfl (lv_at hl 3 rfl) ?_
  refine lv_iconst (v := 2) hx hb d_law_402 (by decide) ?_
  refine lv_iadd hx hb d_law_403 ?_
  refine va_sld hx hb hsc hbl hbA hS h2 d_law_404 ?_
  refine lv_aload_n hx hb d_law_405 rfl (lv_at hl 0 rfl) ?_
  refine lv_iload_n hx hb d_law_406 rfl (lv_at hl 3 rfl) ?_
  refine lv_iconst (v := 3) hx hb d_law_407 (by decide) ?_
  refine lv_iadd hx hb d_law_408 ?_
  refine va_sld hx hb hsc hbl hbA hS h3 d_law_409 ?_
  refine zl_call (ad := adX) (sh := zshX) (N := 44) (Q' := fun r σ' => r = some (.int (c_corrects a (xs (i + 1).toNatClampNeg) (xs (i + 2).toNatClampNeg) (xs (i + 3).toNatClampNeg)).1) ∧ RX σ' (c_corrects a (xs (i + 1).toNatClampNeg) (xs (i + 2).toNatClampNeg) (xs (i + 3).toNatClampNeg)).2) hfv zshX_ok iX hx hb hml hown hts hK h0X aX hS hPX (mi := 109) rfl [.int (xs (i + 1).toNatClampNeg), .int (xs (i + 2).toNatClampNeg), .int (xs (i + 3).toNatClampNeg)] (X_corrects hX (fun σ' h => ⟨rfl, h⟩)) (Nat.le_of_ble_eq_true rfl) rfl (by decide) (by decide) rfl (zg3 (List.mem_of_getElem? (i := 109) rfl) rfl) ⟨(Nat.le_of_ble_eq_true rfl), (Nat.le_of_ble_eq_true rfl)⟩ hl.1 (Nat.le_of_ble_eq_true rfl) d_law_410 rfl (fun r σX' H1 locs1 hq hPX1 hk hS1 => ?_) (Nat.le_refl _) (Nat.le_refl _)
  obtain ⟨rfl, hX1⟩ := hq
  have hPM1 := zl_keep hPM hk hd
  refine lv_aload_n hx hb d_law_413 rfl (lv_at hl 2 rfl) ?_
  refine lv_aload_n hx hb d_law_414 rfl (lv_at hl 0 rfl) ?_
  refine lv_iload_n hx hb d_law_415 rfl (lv_at hl 3 rfl) ?_
  refine lv_iconst (v := 1) hx hb d_law_416 (by decide) ?_
  refine lv_iadd hx hb d_law_417 ?_
  refine va_sld hx hb hsc hbl hbA hS1 h1 d_law_418 ?_
  refine lv_aload_n hx hb d_law_419 rfl (lv_at hl 0 rfl) ?_
  refine lv_iload_n hx hb d_law_420 rfl (lv_at hl 3 rfl) ?_
  refine lv_iconst (v := 2) hx hb d_law_421 (by decide) ?_
  refine lv_iadd hx hb d_law_422 ?_
  refine va_sld hx hb hsc hbl hbA hS1 h2 d_law_423 ?_
  refine lv_aload_n hx hb d_law_424 rfl (lv_at hl 0 rfl) ?_
  refine lv_iload_n hx hb d_law_425 rfl (lv_at hl 3 rfl) ?_
  refine lv_iconst (v := 3) hx hb d_law_426 (by decide) ?_
  refine lv_iadd hx hb d_law_427 ?_
  refine va_sld hx hb hsc hbl hbA hS1 h3 d_law_428 ?_
  refine zl_call (ad := adM) (sh := zshM) (N := 15) (Q' := fun r σ' => r = some (.int (c_corrects a (xs (i + 1).toNatClampNeg) (xs (i + 2).toNatClampNeg) (xs (i + 3).toNatClampNeg)).1) ∧ WX σ' (c_corrects a (xs (i + 1).toNatClampNeg) (xs (i + 2).toNatClampNeg) (xs (i + 3).toNatClampNeg)).2) hfv zshM_ok iM hx hb hml hown hts hK h0M aM hS1 hPM1 (mi := 209) rfl [.int (xs (i + 1).toNatClampNeg), .int (xs (i + 2).toNatClampNeg), .int (xs (i + 3).toNatClampNeg)] (M_corrects hM (fun σ' h => ⟨rfl, h⟩)) (Nat.le_of_ble_eq_true rfl) rfl (by decide) (by decide) rfl (zg6 (List.mem_of_getElem? (i := 73) rfl) rfl) ⟨(Nat.le_of_ble_eq_true rfl), (Nat.le_of_ble_eq_true rfl)⟩ hl.1 (Nat.le_of_ble_eq_true rfl) d_law_429 rfl (fun r σM' H2 locs2 hq hPM2 hk2 hS2 => ?_) (Nat.le_refl _) (Nat.le_refl _)
  obtain ⟨rfl, hM1⟩ := hq
  have hPX2 := zl_keep hPX1 hk2 (fun i j g1 g2 e => hd j i g2 g1 e.symm)
  refine lv_icmp_eq (tgt := 1244) hx hb d_law_432 (by decide) (fun _ => ?_) (fun h => absurd rfl h)
  exact kk _ σX' σM' H2 locs2 hX1 hM1 hPX2 hPM2 hS2
set_option maxRecDepth 20000 in
set_option maxHeartbeats 4000000 in
theorem lc_takes (C : zLC p l s m args c b L xs D cI adX adM fv) (hX : RX σX a) (hM : WX σM a) (hPX : va_P D vwCl (zW cI adX zshX 44 σX) H) (hPM : va_P D vwCl (zW cI adM zshM 15 σM) H) (hS : va_S (fun q : Nat => s.heap.size ≤ q) s.heap H locs) (hl : lv_has ls 4 [(0, .ref b), (1, .ref (adX 0)), (2, .ref (adM 0)), (3, .int i)]) (h1 : vp_in (i + 1) L) (h2 : vp_in (i + 2) L) (h3 : vp_in (i + 3) L) (kk : ∀ (a' : At) (σX' σM' : zG) (H' : Heap) (locs' : List Loc), RX σX' a' → WX σM' a' → va_P D vwCl (zW cI adX zshX 44 σX') H' → va_P D vwCl (zW cI adM zshM 15 σM') H' → va_S (fun q : Nat => s.heap.size ≤ q) s.heap H' locs' → W p l e room_1 s m args below meth c H' locs' 59 1154 Q (F0 m 1244 ls [])) : W p l e room_1 s m args below meth c H locs 59 1154 Q (F0 m 437 ls []) := by
  obtain ⟨hfv, iX, iM, hd, hx, hb, hml, hown, hts, hK, h0X, h0M, aX, aM, hsc, hbl⟩ := C
  have hbA : ¬ (fun q : Nat => s.heap.size ≤ q) b := Nat.not_le.mpr hbl
  refine lv_aload_n hx hb d_law_437 rfl (lv_at hl 1 rfl) ?_
  refine lv_aload_n hx hb d_law_438 rfl (lv_at hl 0 rfl) ?_
  refine lv_iload_n hx hb d_law_439 rfl (lv_at hl 3 rfl) ?_
  refine lv_iconst (v := 1) hx hb d_law_440 (by decide) ?_
  refine lv_iadd hx hb d_law_441 ?_
  refine va_sld hx hb hsc hbl hbA hS h1 d_law_442 ?_
  refine zl_call (ad := adX) (sh := zshX) (N := 44) (Q' := fun r σ' => r = some (.int (c_takes a (xs (i + 1).toNatClampNeg)).1) ∧ RX σ' (c_takes a (xs (i + 1).toNatClampNeg)).2) hfv zshX_ok iX hx hb hml hown hts hK h0X aX hS hPX (mi := 110) rfl [.int (xs (i + 1).toNatClampNeg)] (X_takes hX (fun σ' h => ⟨rfl, h⟩)) (Nat.le_of_ble_eq_true rfl) rfl (by decide) (by decide) rfl (zg3 (List.mem_of_getElem? (i := 114) rfl) rfl) ⟨(Nat.le_of_ble_eq_true rfl), (Nat.le_of_ble_eq_true rfl)⟩ hl.1 (Nat.le_of_ble_eq_true rfl) d_law_443 rfl (fun r σX' H1 locs1 hq hPX1 hk hS1 => ?_) (Nat.le_refl _) (Nat.le_refl _)
  obtain ⟨rfl, hX1⟩ := hq
  have hPM1 := zl_keep hPM hk hd
  refine lv_aload_n hx hb d_law_446 rfl (lv_at hl 2 rfl) ?_
  refine lv_aload_n hx hb d_law_447 rfl (lv_at hl 0 rfl) ?_
  refine lv_iload_n hx hb d_law_448 rfl (lv_at hl 3 rfl) ?_
  refine lv_iconst (v := 1) hx hb d_law_449 (by decide) ?_
  refine lv_iadd hx hb d_law_450 ?_
  refine va_sld hx hb hsc hbl hbA hS1 h1 d_law_451 ?_
  refine zl_call (ad := adM) (sh := zshM) (N := 15) (Q' := fun r σ' => r = some (.int (c_takes a (xs (i + 1).toNatClampNeg)).1) ∧ WX σ' (c_takes a (xs (i + 1).toNatClampNeg)).2) hfv zshM_ok iM hx hb hml hown hts hK h0M aM hS1 hPM1 (mi := 210) rfl [.int (xs (i + 1).toNatClampNeg)] (M_takes hM (fun σ' h => ⟨rfl, h⟩)) (Nat.le_of_ble_eq_true rfl) rfl (by decide) (by decide) rfl (zg6 (List.mem_of_getElem? (i := 77) rfl) rfl) ⟨(Nat.le_of_ble_eq_true rfl), (Nat.le_of_ble_eq_true rfl)⟩ hl.1 (Nat.le_of_ble_eq_true rfl) d_law_452 rfl (fun r σM' H2 locs2 hq hPM2 hk2 hS2 => ?_) (Nat.le_refl _) (Nat.le_refl _)
  obtain ⟨rfl, hM1⟩ := hq
  have hPX2 := zl_keep hPX1 hk2 (fun i j g1 g2 e => hd j i g2 g1 e.symm)
  refine lv_icmp_eq (tgt := 1244) hx hb d_law_455 (by decide) (fun _ => ?_) (fun h => absurd rfl h)
  exact kk _ σX' σM' H2 locs2 hX1 hM1 hPX2 hPM2 hS2
set_option maxRecDepth 20000 in
set_option maxHeartbeats 4000000 in
theorem lc_styles (C : zLC p l s m args c b L xs D cI adX adM fv) (hX : RX σX a) (hM : WX σM a) (hPX : va_P D vwCl (zW cI adX zshX 44 σX) H) (hPM : va_P D vwCl (zW cI adM zshM 15 σM) H) (hS : va_S (fun q : Nat => s.heap.size ≤ q) s.heap H locs) (hl : lv_has ls 4 [(0, .ref b), (1, .ref (adX 0)), (2, .ref (adM 0)), (3, .int i)]) (h1 : vp_in (i + 1) L) (h2 : vp_in (i + 2) L) (h3 : vp_in (i + 3) L) (kk : ∀ (a' : At) (σX' σM' : zG) (H' : Heap) (locs' : List Loc), RX σX' a' → WX σM' a' → va_P D vwCl (zW cI adX zshX 44 σX') H' → va_P D vwCl (zW cI adM zshM 15 σM') H' → va_S (fun q : Nat => s.heap.size ≤ q) s.heap H' locs' → W p l e room_1 s m args below meth c H' locs' 59 1154 Q (F0 m 1244 ls [])) : W p l e room_1 s m args below meth c H locs 59 1154 Q (F0 m 460 ls []) := by
  obtain ⟨hfv, iX, iM, hd, hx, hb, hml, hown, hts, hK, h0X, h0M, aX, aM, hsc, hbl⟩ := C
  have hbA : ¬ (fun q : Nat => s.heap.size ≤ q) b := Nat.not_le.mpr hbl
  refine lv_aload_n hx hb d_law_460 rfl (lv_at hl 1 rfl) ?_
  refine lv_aload_n hx hb d_law_461 rfl (lv_at hl 0 rfl) ?_
  refine lv_iload_n hx hb d_law_462 rfl (lv_at hl 3 rfl) ?_
  refine lv_iconst (v := 1) hx hb d_law_463 (by decide) ?_
  refine lv_iadd hx hb d_law_464 ?_
  refine va_sld hx hb hsc hbl hbA hS h1 d_law_465 ?_
  refine lv_aload_n hx hb d_law_466 rfl (lv_at hl 0 rfl) ?_
  refine lv_iload_n hx hb d_law_467 rfl (lv_at hl 3 rfl) ?_
  refine lv_iconst (v := 2) hx hb d_law_468 (by decide) ?_
  refine lv_iadd hx hb d_law_469 ?_
  refine va_sld hx hb hsc hbl hbA hS h2 d_law_470 ?_
  refine zl_call (ad := adX) (sh := zshX) (N := 44) (Q' := fun r σ' => r = some (.int (c_styles a (xs (i + 1).toNatClampNeg) (xs (i + 2).toNatClampNeg)).1) ∧ RX σ' (c_styles a (xs (i + 1).toNatClampNeg) (xs (i + 2).toNatClampNeg)).2) hfv zshX_ok iX hx hb hml hown hts hK h0X aX hS hPX (mi := 111) rfl [.int (xs (i + 1).toNatClampNeg), .int (xs (i + 2).toNatClampNeg)] (X_styles hX (fun σ' h => ⟨rfl, h⟩)) (Nat.le_of_ble_eq_true rfl) rfl (by decide) (by decide) rfl (zg3 (List.mem_of_getElem? (i := 119) rfl) rfl) ⟨(Nat.le_of_ble_eq_true rfl), (Nat.le_of_ble_eq_true rfl)⟩ hl.1 (Nat.le_of_ble_eq_true rfl) d_law_471 rfl (fun r σX' H1 locs1 hq hPX1 hk hS1 => ?_) (Nat.le_refl _) (Nat.le_refl _)
  obtain ⟨rfl, hX1⟩ := hq
  have hPM1 := zl_keep hPM hk hd
  refine lv_aload_n hx hb d_law_474 rfl (lv_at hl 2 rfl) ?_
  refine lv_aload_n hx hb d_law_475 rfl (lv_at hl 0 rfl) ?_
  refine lv_iload_n hx hb d_law_476 rfl (lv_at hl 3 rfl) ?_
  refine lv_iconst (v := 1) hx hb d_law_477 (by decide) ?_
  refine lv_iadd hx hb d_law_478 ?_
  refine va_sld hx hb hsc hbl hbA hS1 h1 d_law_479 ?_
  refine lv_aload_n hx hb d_law_480 rfl (lv_at hl 0 rfl) ?_
  refine lv_iload_n hx hb d_law_481 rfl (lv_at hl 3 rfl) ?_
  refine lv_iconst (v := 2) hx hb d_law_482 (by decide) ?_
  refine lv_iadd hx hb d_law_483 ?_
  refine va_sld hx hb hsc hbl hbA hS1 h2 d_law_484 ?_
  refine zl_call (ad := adM) (sh := zshM) (N := 15) (Q' := fun r σ' => r = some (.int (c_styles a (xs (i + 1).toNatClampNeg) (xs (i + 2).toNatClampNeg)).1) ∧ WX σ' (c_styles a (xs (i + 1).toNatClampNeg) (xs (i + 2).toNatClampNeg)).2) hfv zshM_ok iM hx hb hml hown hts hK h0M aM hS1 hPM1 (mi := 211) rfl [.int (xs (i + 1).toNatClampNeg), .int (xs (i + 2).toNatClampNeg)] (M_styles hM (fun σ' h => ⟨rfl, h⟩)) (Nat.le_of_ble_eq_true rfl) rfl (by decide) (by decide) rfl (zg6 (List.mem_of_getElem? (i := 81) rfl) rfl) ⟨(Nat.le_of_ble_eq_true rfl), (Nat.le_of_ble_eq_true rfl)⟩ hl.1 (Nat.le_of_ble_eq_true rfl) d_law_485 rfl (fun r σM' H2 locs2 hq hPM2 hk2 hS2 => ?_) (Nat.le_refl _) (Nat.le_refl _)
  obtain ⟨rfl, hM1⟩ := hq
  have hPX2 := zl_keep hPX1 hk2 (fun i j g1 g2 e => hd j i g2 g1 e.symm)
  refine lv_icmp_eq (tgt := 1244) hx hb d_law_488 (by decide) (fun _ => ?_) (fun h => absurd rfl h)
  exact kk _ σX' σM' H2 locs2 hX1 hM1 hPX2 hPM2 hS2
set_option maxRecDepth 20000 in
set_option maxHeartbeats 4000000 in
theorem lc_hands (C : zLC p l s m args c b L xs D cI adX adM fv) (hX : RX σX a) (hM : WX σM a) (hPX : va_P D vwCl (zW cI adX zshX 44 σX) H) (hPM : va_P D vwCl (zW cI adM zshM 15 σM) H) (hS : va_S (fun q : Nat => s.heap.size ≤ q) s.heap H locs) (hl : lv_has ls 4 [(0, .ref b), (1, .ref (adX 0)), (2, .ref (adM 0)), (3, .int i)]) (h1 : vp_in (i + 1) L) (h2 : vp_in (i + 2) L) (h3 : vp_in (i + 3) L) (kk : ∀ (a' : At) (σX' σM' : zG) (H' : Heap) (locs' : List Loc), RX σX' a' → WX σM' a' → va_P D vwCl (zW cI adX zshX 44 σX') H' → va_P D vwCl (zW cI adM zshM 15 σM') H' → va_S (fun q : Nat => s.heap.size ≤ q) s.heap H' locs' → W p l e room_1 s m args below meth c H' locs' 59 1154 Q (F0 m 1244 ls [])) : W p l e room_1 s m args below meth c H locs 59 1154 Q (F0 m 493 ls []) := by
  obtain ⟨hfv, iX, iM, hd, hx, hb, hml, hown, hts, hK, h0X, h0M, aX, aM, hsc, hbl⟩ := C
  have hbA : ¬ (fun q : Nat => s.heap.size ≤ q) b := Nat.not_le.mpr hbl
  refine lv_aload_n hx hb d_law_493 rfl (lv_at hl 1 rfl) ?_
  refine lv_aload_n hx hb d_law_494 rfl (lv_at hl 0 rfl) ?_
  refine lv_iload_n hx hb d_law_495 rfl (lv_at hl 3 rfl) ?_
  refine lv_iconst (v := 1) hx hb d_law_496 (by decide) ?_
  refine lv_iadd hx hb d_law_497 ?_
  refine va_sld hx hb hsc hbl hbA hS h1 d_law_498 ?_
  refine lv_aload_n hx hb d_law_499 rfl (lv_at hl 0 rfl) ?_
  refine lv_iload_n hx hb d_law_500 rfl (lv_at hl 3 rfl) ?_
  refine lv_iconst (v := 2) hx hb d_law_501 (by decide) ?_
  refine lv_iadd hx hb d_law_502 ?_
  refine va_sld hx hb hsc hbl hbA hS h2 d_law_503 ?_
  refine zl_call (ad := adX) (sh := zshX) (N := 44) (Q' := fun r σ' => r = some (.int (c_hands a (xs (i + 1).toNatClampNeg) (xs (i + 2).toNatClampNeg)).1) ∧ RX σ' (c_hands a (xs (i + 1).toNatClampNeg) (xs (i + 2).toNatClampNeg)).2) hfv zshX_ok iX hx hb hml hown hts hK h0X aX hS hPX (mi := 112) rfl [.int (xs (i + 1).toNatClampNeg), .int (xs (i + 2).toNatClampNeg)] (X_hands hX (fun σ' h => ⟨rfl, h⟩)) (Nat.le_of_ble_eq_true rfl) rfl (by decide) (by decide) rfl (zg3 (List.mem_of_getElem? (i := 123) rfl) rfl) ⟨(Nat.le_of_ble_eq_true rfl), (Nat.le_of_ble_eq_true rfl)⟩ hl.1 (Nat.le_of_ble_eq_true rfl) d_law_504 rfl (fun r σX' H1 locs1 hq hPX1 hk hS1 => ?_) (Nat.le_refl _) (Nat.le_refl _)
  obtain ⟨rfl, hX1⟩ := hq
  have hPM1 := zl_keep hPM hk hd
  refine lv_aload_n hx hb d_law_507 rfl (lv_at hl 2 rfl) ?_
  refine lv_aload_n hx hb d_law_508 rfl (lv_at hl 0 rfl) ?_
  refine lv_iload_n hx hb d_law_509 rfl (lv_at hl 3 rfl) ?_
  refine lv_iconst (v := 1) hx hb d_law_510 (by decide) ?_
  refine lv_iadd hx hb d_law_511 ?_
  refine va_sld hx hb hsc hbl hbA hS1 h1 d_law_512 ?_
  refine lv_aload_n hx hb d_law_513 rfl (lv_at hl 0 rfl) ?_
  refine lv_iload_n hx hb d_law_514 rfl (lv_at hl 3 rfl) ?_
  refine lv_iconst (v := 2) hx hb d_law_515 (by decide) ?_
  refine lv_iadd hx hb d_law_516 ?_
  refine va_sld hx hb hsc hbl hbA hS1 h2 d_law_517 ?_
  refine zl_call (ad := adM) (sh := zshM) (N := 15) (Q' := fun r σ' => r = some (.int (c_hands a (xs (i + 1).toNatClampNeg) (xs (i + 2).toNatClampNeg)).1) ∧ WX σ' (c_hands a (xs (i + 1).toNatClampNeg) (xs (i + 2).toNatClampNeg)).2) hfv zshM_ok iM hx hb hml hown hts hK h0M aM hS1 hPM1 (mi := 212) rfl [.int (xs (i + 1).toNatClampNeg), .int (xs (i + 2).toNatClampNeg)] (M_hands hM (fun σ' h => ⟨rfl, h⟩)) (Nat.le_of_ble_eq_true rfl) rfl (by decide) (by decide) rfl (zg6 (List.mem_of_getElem? (i := 85) rfl) rfl) ⟨(Nat.le_of_ble_eq_true rfl), (Nat.le_of_ble_eq_true rfl)⟩ hl.1 (Nat.le_of_ble_eq_true rfl) d_law_518 rfl (fun r σM' H2 locs2 hq hPM2 hk2 hS2 => ?_) (Nat.le_refl _) (Nat.le_refl _)
  obtain ⟨rfl, hM1⟩ := hq
  have hPX2 := zl_keep hPX1 hk2 (fun i j g1 g2 e => hd j i g2 g1 e.symm)
  refine lv_icmp_eq (tgt := 1244) hx hb d_law_521 (by decide) (fun _ => ?_) (fun h => absurd rfl h)
  exact kk _ σX' σM' H2 locs2 hX1 hM1 hPX2 hPM2 hS2
set_option maxRecDepth 20000 in
set_option maxHeartbeats 4000000 in
theorem lc_spites (C : zLC p l s m args c b L xs D cI adX adM fv) (hX : RX σX a) (hM : WX σM a) (hPX : va_P D vwCl (zW cI adX zshX 44 σX) H) (hPM : va_P D vwCl (zW cI adM zshM 15 σM) H) (hS : va_S (fun q : Nat => s.heap.size ≤ q) s.heap H locs) (hl : lv_has ls 4 [(0, .ref b), (1, .ref (adX 0)), (2, .ref (adM 0)), (3, .int i)]) (h1 : vp_in (i + 1) L) (h2 : vp_in (i + 2) L) (h3 : vp_in (i + 3) L) (kk : ∀ (a' : At) (σX' σM' : zG) (H' : Heap) (locs' : List Loc), RX σX' a' → WX σM' a' → va_P D vwCl (zW cI adX zshX 44 σX') H' → va_P D vwCl (zW cI adM zshM 15 σM') H' → va_S (fun q : Nat => s.heap.size ≤ q) s.heap H' locs' → W p l e room_1 s m args below meth c H' locs' 59 1154 Q (F0 m 1244 ls [])) : W p l e room_1 s m args below meth c H locs 59 1154 Q (F0 m 526 ls []) := by
  obtain ⟨hfv, iX, iM, hd, hx, hb, hml, hown, hts, hK, h0X, h0M, aX, aM, hsc, hbl⟩ := C
  have hbA : ¬ (fun q : Nat => s.heap.size ≤ q) b := Nat.not_le.mpr hbl
  refine lv_aload_n hx hb d_law_526 rfl (lv_at hl 1 rfl) ?_
  refine lv_aload_n hx hb d_law_527 rfl (lv_at hl 0 rfl) ?_
  refine lv_iload_n hx hb d_law_528 rfl (lv_at hl 3 rfl) ?_
  refine lv_iconst (v := 1) hx hb d_law_529 (by decide) ?_
  refine lv_iadd hx hb d_law_530 ?_
  refine va_sld hx hb hsc hbl hbA hS h1 d_law_531 ?_
  refine lv_aload_n hx hb d_law_532 rfl (lv_at hl 0 rfl) ?_
  refine lv_iload_n hx hb d_law_533 rfl (lv_at hl 3 rfl) ?_
  refine lv_iconst (v := 2) hx hb d_law_534 (by decide) ?_
  refine lv_iadd hx hb d_law_535 ?_
  refine va_sld hx hb hsc hbl hbA hS h2 d_law_536 ?_
  refine zl_call (ad := adX) (sh := zshX) (N := 44) (Q' := fun r σ' => r = some (.int (c_spites a (xs (i + 1).toNatClampNeg) (xs (i + 2).toNatClampNeg)).1) ∧ RX σ' (c_spites a (xs (i + 1).toNatClampNeg) (xs (i + 2).toNatClampNeg)).2) hfv zshX_ok iX hx hb hml hown hts hK h0X aX hS hPX (mi := 113) rfl [.int (xs (i + 1).toNatClampNeg), .int (xs (i + 2).toNatClampNeg)] (X_spites hX (fun σ' h => ⟨rfl, h⟩)) (Nat.le_of_ble_eq_true rfl) rfl (by decide) (by decide) rfl (zg3 (List.mem_of_getElem? (i := 130) rfl) rfl) ⟨(Nat.le_of_ble_eq_true rfl), (Nat.le_of_ble_eq_true rfl)⟩ hl.1 (Nat.le_of_ble_eq_true rfl) d_law_537 rfl (fun r σX' H1 locs1 hq hPX1 hk hS1 => ?_) (Nat.le_refl _) (Nat.le_refl _)
  obtain ⟨rfl, hX1⟩ := hq
  have hPM1 := zl_keep hPM hk hd
  refine lv_aload_n hx hb d_law_540 rfl (lv_at hl 2 rfl) ?_
  refine lv_aload_n hx hb d_law_541 rfl (lv_at hl 0 rfl) ?_
  refine lv_iload_n hx hb d_law_542 rfl (lv_at hl 3 rfl) ?_
  refine lv_iconst (v := 1) hx hb d_law_543 (by decide) ?_
  refine lv_iadd hx hb d_law_544 ?_
  refine va_sld hx hb hsc hbl hbA hS1 h1 d_law_545 ?_
  refine lv_aload_n hx hb d_law_546 rfl (lv_at hl 0 rfl) ?_
  refine lv_iload_n hx hb d_law_547 rfl (lv_at hl 3 rfl) ?_
  refine lv_iconst (v := 2) hx hb d_law_548 (by decide) ?_
  refine lv_iadd hx hb d_law_549 ?_
  refine va_sld hx hb hsc hbl hbA hS1 h2 d_law_550 ?_
  refine zl_call (ad := adM) (sh := zshM) (N := 15) (Q' := fun r σ' => r = some (.int (c_spites a (xs (i + 1).toNatClampNeg) (xs (i + 2).toNatClampNeg)).1) ∧ WX σ' (c_spites a (xs (i + 1).toNatClampNeg) (xs (i + 2).toNatClampNeg)).2) hfv zshM_ok iM hx hb hml hown hts hK h0M aM hS1 hPM1 (mi := 213) rfl [.int (xs (i + 1).toNatClampNeg), .int (xs (i + 2).toNatClampNeg)] (M_spites hM (fun σ' h => ⟨rfl, h⟩)) (Nat.le_of_ble_eq_true rfl) rfl (by decide) (by decide) rfl (zg6 (List.mem_of_getElem? (i := 89) rfl) rfl) ⟨(Nat.le_of_ble_eq_true rfl), (Nat.le_of_ble_eq_true rfl)⟩ hl.1 (Nat.le_of_ble_eq_true rfl) d_law_551 rfl (fun r σM' H2 locs2 hq hPM2 hk2 hS2 => ?_) (Nat.le_refl _) (Nat.le_refl _)
  obtain ⟨rfl, hM1⟩ := hq
  have hPX2 := zl_keep hPX1 hk2 (fun i j g1 g2 e => hd j i g2 g1 e.symm)
  refine lv_icmp_eq (tgt := 1244) hx hb d_law_554 (by decide) (fun _ => ?_) (fun h => absurd rfl h)
  exact kk _ σX' σM' H2 locs2 hX1 hM1 hPX2 hPM2 hS2
set_option maxRecDepth 20000 in
set_option maxHeartbeats 4000000 in
theorem lc_days (C : zLC p l s m args c b L xs D cI adX adM fv) (hX : RX σX a) (hM : WX σM a) (hPX : va_P D vwCl (zW cI adX zshX 44 σX) H) (hPM : va_P D vwCl (zW cI adM zshM 15 σM) H) (hS : va_S (fun q : Nat => s.heap.size ≤ q) s.heap H locs) (hl : lv_has ls 4 [(0, .ref b), (1, .ref (adX 0)), (2, .ref (adM 0)), (3, .int i)]) (h1 : vp_in (i + 1) L) (h2 : vp_in (i + 2) L) (h3 : vp_in (i + 3) L) (kk : ∀ (a' : At) (σX' σM' : zG) (H' : Heap) (locs' : List Loc), RX σX' a' → WX σM' a' → va_P D vwCl (zW cI adX zshX 44 σX') H' → va_P D vwCl (zW cI adM zshM 15 σM') H' → va_S (fun q : Nat => s.heap.size ≤ q) s.heap H' locs' → W p l e room_1 s m args below meth c H' locs' 59 1154 Q (F0 m 1244 ls [])) : W p l e room_1 s m args below meth c H locs 59 1154 Q (F0 m 559 ls []) := by
  obtain ⟨hfv, iX, iM, hd, hx, hb, hml, hown, hts, hK, h0X, h0M, aX, aM, hsc, hbl⟩ := C
  have hbA : ¬ (fun q : Nat => s.heap.size ≤ q) b := Nat.not_le.mpr hbl
  refine lv_aload_n hx hb d_law_559 rfl (lv_at hl 1 rfl) ?_
  refine lv_aload_n hx hb d_law_560 rfl (lv_at hl 0 rfl) ?_
  refine lv_iload_n hx hb d_law_561 rfl (lv_at hl 3 rfl) ?_
  refine lv_iconst (v := 1) hx hb d_law_562 (by decide) ?_
  refine lv_iadd hx hb d_law_563 ?_
  refine va_sld hx hb hsc hbl hbA hS h1 d_law_564 ?_
  refine zl_call (ad := adX) (sh := zshX) (N := 44) (Q' := fun r σ' => r = some (.int (c_days a (xs (i + 1).toNatClampNeg)).1) ∧ RX σ' (c_days a (xs (i + 1).toNatClampNeg)).2) hfv zshX_ok iX hx hb hml hown hts hK h0X aX hS hPX (mi := 114) rfl [.int (xs (i + 1).toNatClampNeg)] (X_days hX (fun σ' h => ⟨rfl, h⟩)) (Nat.le_of_ble_eq_true rfl) rfl (by decide) (by decide) rfl (zg3 (List.mem_of_getElem? (i := 134) rfl) rfl) ⟨(Nat.le_of_ble_eq_true rfl), (Nat.le_of_ble_eq_true rfl)⟩ hl.1 (Nat.le_of_ble_eq_true rfl) d_law_565 rfl (fun r σX' H1 locs1 hq hPX1 hk hS1 => ?_) (Nat.le_refl _) (Nat.le_refl _)
  obtain ⟨rfl, hX1⟩ := hq
  have hPM1 := zl_keep hPM hk hd
  refine lv_aload_n hx hb d_law_568 rfl (lv_at hl 2 rfl) ?_
  refine lv_aload_n hx hb d_law_569 rfl (lv_at hl 0 rfl) ?_
  refine lv_iload_n hx hb d_law_570 rfl (lv_at hl 3 rfl) ?_
  refine lv_iconst (v := 1) hx hb d_law_571 (by decide) ?_
  refine lv_iadd hx hb d_law_572 ?_
  refine va_sld hx hb hsc hbl hbA hS1 h1 d_law_573 ?_
  refine zl_call (ad := adM) (sh := zshM) (N := 15) (Q' := fun r σ' => r = some (.int (c_days a (xs (i + 1).toNatClampNeg)).1) ∧ WX σ' (c_days a (xs (i + 1).toNatClampNeg)).2) hfv zshM_ok iM hx hb hml hown hts hK h0M aM hS1 hPM1 (mi := 214) rfl [.int (xs (i + 1).toNatClampNeg)] (M_days hM (fun σ' h => ⟨rfl, h⟩)) (Nat.le_of_ble_eq_true rfl) rfl (by decide) (by decide) rfl (zg6 (List.mem_of_getElem? (i := 93) rfl) rfl) ⟨(Nat.le_of_ble_eq_true rfl), (Nat.le_of_ble_eq_true rfl)⟩ hl.1 (Nat.le_of_ble_eq_true rfl) d_law_574 rfl (fun r σM' H2 locs2 hq hPM2 hk2 hS2 => ?_) (Nat.le_refl _) (Nat.le_refl _)
  obtain ⟨rfl, hM1⟩ := hq
  have hPX2 := zl_keep hPX1 hk2 (fun i j g1 g2 e => hd j i g2 g1 e.symm)
  refine lv_icmp_eq (tgt := 1244) hx hb d_law_577 (by decide) (fun _ => ?_) (fun h => absurd rfl h)
  exact kk _ σX' σM' H2 locs2 hX1 hM1 hPX2 hPM2 hS2
set_option maxRecDepth 20000 in
set_option maxHeartbeats 4000000 in
theorem lc_stands (C : zLC p l s m args c b L xs D cI adX adM fv) (hX : RX σX a) (hM : WX σM a) (hPX : va_P D vwCl (zW cI adX zshX 44 σX) H) (hPM : va_P D vwCl (zW cI adM zshM 15 σM) H) (hS : va_S (fun q : Nat => s.heap.size ≤ q) s.heap H locs) (hl : lv_has ls 4 [(0, .ref b), (1, .ref (adX 0)), (2, .ref (adM 0)), (3, .int i)]) (h1 : vp_in (i + 1) L) (h2 : vp_in (i + 2) L) (h3 : vp_in (i + 3) L) (kk : ∀ (a' : At) (σX' σM' : zG) (H' : Heap) (locs' : List Loc), RX σX' a' → WX σM' a' → va_P D vwCl (zW cI adX zshX 44 σX') H' → va_P D vwCl (zW cI adM zshM 15 σM') H' → va_S (fun q : Nat => s.heap.size ≤ q) s.heap H' locs' → W p l e room_1 s m args below meth c H' locs' 59 1154 Q (F0 m 1244 ls [])) : W p l e room_1 s m args below meth c H locs 59 1154 Q (F0 m 582 ls []) := by
  obtain ⟨hfv, iX, iM, hd, hx, hb, hml, hown, hts, hK, h0X, h0M, aX, aM, hsc, hbl⟩ := C
  have hbA : ¬ (fun q : Nat => s.heap.size ≤ q) b := Nat.not_le.mpr hbl
  refine lv_aload_n hx hb d_law_582 rfl (lv_at hl 1 rfl) ?_
  refine lv_aload_n hx hb d_law_583 rfl (lv_at hl 0 rfl) ?_
  refine lv_iload_n hx hb d_law_584 rfl (lv_at hl 3 rfl) ?_
  refine lv_iconst (v := 1) hx hb d_law_585 (by decide) ?_
  refine lv_iadd hx hb d_law_586 ?_
  refine va_sld hx hb hsc hbl hbA hS h1 d_law_587 ?_
  refine zl_call (ad := adX) (sh := zshX) (N := 44) (Q' := fun r σ' => r = some (.int (c_stands a (xs (i + 1).toNatClampNeg)).1) ∧ RX σ' (c_stands a (xs (i + 1).toNatClampNeg)).2) hfv zshX_ok iX hx hb hml hown hts hK h0X aX hS hPX (mi := 115) rfl [.int (xs (i + 1).toNatClampNeg)] (X_stands hX (fun σ' h => ⟨rfl, h⟩)) (Nat.le_of_ble_eq_true rfl) rfl (by decide) (by decide) rfl (zg3 (List.mem_of_getElem? (i := 140) rfl) rfl) ⟨(Nat.le_of_ble_eq_true rfl), (Nat.le_of_ble_eq_true rfl)⟩ hl.1 (Nat.le_of_ble_eq_true rfl) d_law_588 rfl (fun r σX' H1 locs1 hq hPX1 hk hS1 => ?_) (Nat.le_refl _) (Nat.le_refl _)
  obtain ⟨rfl, hX1⟩ := hq
  have hPM1 := zl_keep hPM hk hd
  refine lv_aload_n hx hb d_law_591 rfl (lv_at hl 2 rfl) ?_
  refine lv_aload_n hx hb d_law_592 rfl (lv_at hl 0 rfl) ?_
  refine lv_iload_n hx hb d_law_593 rfl (lv_at hl 3 rfl) ?_
  refine lv_iconst (v := 1) hx hb d_law_594 (by decide) ?_
  refine lv_iadd hx hb d_law_595 ?_
  refine va_sld hx hb hsc hbl hbA hS1 h1 d_law_596 ?_
  refine zl_call (ad := adM) (sh := zshM) (N := 15) (Q' := fun r σ' => r = some (.int (c_stands a (xs (i + 1).toNatClampNeg)).1) ∧ WX σ' (c_stands a (xs (i + 1).toNatClampNeg)).2) hfv zshM_ok iM hx hb hml hown hts hK h0M aM hS1 hPM1 (mi := 215) rfl [.int (xs (i + 1).toNatClampNeg)] (M_stands hM (fun σ' h => ⟨rfl, h⟩)) (Nat.le_of_ble_eq_true rfl) rfl (by decide) (by decide) rfl (zg6 (List.mem_of_getElem? (i := 97) rfl) rfl) ⟨(Nat.le_of_ble_eq_true rfl), (Nat.le_of_ble_eq_true rfl)⟩ hl.1 (Nat.le_of_ble_eq_true rfl) d_law_597 rfl (fun r σM' H2 locs2 hq hPM2 hk2 hS2 => ?_) (Nat.le_refl _) (Nat.le_refl _)
  obtain ⟨rfl, hM1⟩ := hq
  have hPX2 := zl_keep hPX1 hk2 (fun i j g1 g2 e => hd j i g2 g1 e.symm)
  refine lv_icmp_eq (tgt := 1244) hx hb d_law_600 (by decide) (fun _ => ?_) (fun h => absurd rfl h)
  exact kk _ σX' σM' H2 locs2 hX1 hM1 hPX2 hPM2 hS2
set_option maxRecDepth 20000 in
set_option maxHeartbeats 4000000 in
theorem lc_spare (C : zLC p l s m args c b L xs D cI adX adM fv) (hX : RX σX a) (hM : WX σM a) (hPX : va_P D vwCl (zW cI adX zshX 44 σX) H) (hPM : va_P D vwCl (zW cI adM zshM 15 σM) H) (hS : va_S (fun q : Nat => s.heap.size ≤ q) s.heap H locs) (hl : lv_has ls 4 [(0, .ref b), (1, .ref (adX 0)), (2, .ref (adM 0)), (3, .int i)]) (h1 : vp_in (i + 1) L) (h2 : vp_in (i + 2) L) (h3 : vp_in (i + 3) L) (kk : ∀ (a' : At) (σX' σM' : zG) (H' : Heap) (locs' : List Loc), RX σX' a' → WX σM' a' → va_P D vwCl (zW cI adX zshX 44 σX') H' → va_P D vwCl (zW cI adM zshM 15 σM') H' → va_S (fun q : Nat => s.heap.size ≤ q) s.heap H' locs' → W p l e room_1 s m args below meth c H' locs' 59 1154 Q (F0 m 1244 ls [])) : W p l e room_1 s m args below meth c H locs 59 1154 Q (F0 m 605 ls []) := by
  obtain ⟨hfv, iX, iM, hd, hx, hb, hml, hown, hts, hK, h0X, h0M, aX, aM, hsc, hbl⟩ := C
  have hbA : ¬ (fun q : Nat => s.heap.size ≤ q) b := Nat.not_le.mpr hbl
  refine lv_aload_n hx hb d_law_605 rfl (lv_at hl 1 rfl) ?_
  refine lv_aload_n hx hb d_law_606 rfl (lv_at hl 0 rfl) ?_
  refine lv_iload_n hx hb d_law_607 rfl (lv_at hl 3 rfl) ?_
  refine lv_iconst (v := 1) hx hb d_law_608 (by decide) ?_
  refine lv_iadd hx hb d_law_609 ?_
  refine va_sld hx hb hsc hbl hbA hS h1 d_law_610 ?_
  refine zl_call (ad := adX) (sh := zshX) (N := 44) (Q' := fun r σ' => r = some (.int (c_spare a (xs (i + 1).toNatClampNeg)).1) ∧ RX σ' (c_spare a (xs (i + 1).toNatClampNeg)).2) hfv zshX_ok iX hx hb hml hown hts hK h0X aX hS hPX (mi := 116) rfl [.int (xs (i + 1).toNatClampNeg)] (X_spare hX (fun σ' h => ⟨rfl, h⟩)) (Nat.le_of_ble_eq_true rfl) rfl (by decide) (by decide) rfl (zg3 (List.mem_of_getElem? (i := 172) rfl) rfl) ⟨(Nat.le_of_ble_eq_true rfl), (Nat.le_of_ble_eq_true rfl)⟩ hl.1 (Nat.le_of_ble_eq_true rfl) d_law_611 rfl (fun r σX' H1 locs1 hq hPX1 hk hS1 => ?_) (Nat.le_refl _) (Nat.le_refl _)
  obtain ⟨rfl, hX1⟩ := hq
  have hPM1 := zl_keep hPM hk hd
  refine lv_aload_n hx hb d_law_614 rfl (lv_at hl 2 rfl) ?_
  refine lv_aload_n hx hb d_law_615 rfl (lv_at hl 0 rfl) ?_
  refine lv_iload_n hx hb d_law_616 rfl (lv_at hl 3 rfl) ?_
  refine lv_iconst (v := 1) hx hb d_law_617 (by decide) ?_
  refine lv_iadd hx hb d_law_618 ?_
  refine va_sld hx hb hsc hbl hbA hS1 h1 d_law_619 ?_
  refine zl_call (ad := adM) (sh := zshM) (N := 15) (Q' := fun r σ' => r = some (.int (c_spare a (xs (i + 1).toNatClampNeg)).1) ∧ WX σ' (c_spare a (xs (i + 1).toNatClampNeg)).2) hfv zshM_ok iM hx hb hml hown hts hK h0M aM hS1 hPM1 (mi := 216) rfl [.int (xs (i + 1).toNatClampNeg)] (M_spare hM (fun σ' h => ⟨rfl, h⟩)) (Nat.le_of_ble_eq_true rfl) rfl (by decide) (by decide) rfl (zg6 (List.mem_of_getElem? (i := 120) rfl) rfl) ⟨(Nat.le_of_ble_eq_true rfl), (Nat.le_of_ble_eq_true rfl)⟩ hl.1 (Nat.le_of_ble_eq_true rfl) d_law_620 rfl (fun r σM' H2 locs2 hq hPM2 hk2 hS2 => ?_) (Nat.le_refl _) (Nat.le_refl _)
  obtain ⟨rfl, hM1⟩ := hq
  have hPX2 := zl_keep hPX1 hk2 (fun i j g1 g2 e => hd j i g2 g1 e.symm)
  refine lv_icmp_eq (tgt := 1244) hx hb d_law_623 (by decide) (fun _ => ?_) (fun h => absurd rfl h)
  exact kk _ σX' σM' H2 locs2 hX1 hM1 hPX2 hPM2 hS2
set_option maxRecDepth 20000 in
set_option maxHeartbeats 4000000 in
theorem lc_lean (C : zLC p l s m args c b L xs D cI adX adM fv) (hX : RX σX a) (hM : WX σM a) (hPX : va_P D vwCl (zW cI adX zshX 44 σX) H) (hPM : va_P D vwCl (zW cI adM zshM 15 σM) H) (hS : va_S (fun q : Nat => s.heap.size ≤ q) s.heap H locs) (hl : lv_has ls 4 [(0, .ref b), (1, .ref (adX 0)), (2, .ref (adM 0)), (3, .int i)]) (h1 : vp_in (i + 1) L) (h2 : vp_in (i + 2) L) (h3 : vp_in (i + 3) L) (kk : ∀ (a' : At) (σX' σM' : zG) (H' : Heap) (locs' : List Loc), RX σX' a' → WX σM' a' → va_P D vwCl (zW cI adX zshX 44 σX') H' → va_P D vwCl (zW cI adM zshM 15 σM') H' → va_S (fun q : Nat => s.heap.size ≤ q) s.heap H' locs' → W p l e room_1 s m args below meth c H' locs' 59 1154 Q (F0 m 1244 ls [])) : W p l e room_1 s m args below meth c H locs 59 1154 Q (F0 m 628 ls []) := by
  obtain ⟨hfv, iX, iM, hd, hx, hb, hml, hown, hts, hK, h0X, h0M, aX, aM, hsc, hbl⟩ := C
  have hbA : ¬ (fun q : Nat => s.heap.size ≤ q) b := Nat.not_le.mpr hbl
  refine lv_aload_n hx hb d_law_628 rfl (lv_at hl 1 rfl) ?_
  refine lv_aload_n hx hb d_law_629 rfl (lv_at hl 0 rfl) ?_
  refine lv_iload_n hx hb d_law_630 rfl (lv_at hl 3 rfl) ?_
  refine lv_iconst (v := 1) hx hb d_law_631 (by decide) ?_
  refine lv_iadd hx hb d_law_632 ?_
  refine va_sld hx hb hsc hbl hbA hS h1 d_law_633 ?_
  refine zl_call (ad := adX) (sh := zshX) (N := 44) (Q' := fun r σ' => r = some (.int (c_lean a (xs (i + 1).toNatClampNeg)).1) ∧ RX σ' (c_lean a (xs (i + 1).toNatClampNeg)).2) hfv zshX_ok iX hx hb hml hown hts hK h0X aX hS hPX (mi := 117) rfl [.int (xs (i + 1).toNatClampNeg)] (X_lean hX (fun σ' h => ⟨rfl, h⟩)) (Nat.le_of_ble_eq_true rfl) rfl (by decide) (by decide) rfl (zg3 (List.mem_of_getElem? (i := 185) rfl) rfl) ⟨(Nat.le_of_ble_eq_true rfl), (Nat.le_of_ble_eq_true rfl)⟩ hl.1 (Nat.le_of_ble_eq_true rfl) d_law_634 rfl (fun r σX' H1 locs1 hq hPX1 hk hS1 => ?_) (Nat.le_refl _) (Nat.le_refl _)
  obtain ⟨rfl, hX1⟩ := hq
  have hPM1 := zl_keep hPM hk hd
  refine lv_aload_n hx hb d_law_637 rfl (lv_at hl 2 rfl) ?_
  refine lv_aload_n hx hb d_law_638 rfl (lv_at hl 0 rfl) ?_
  refine lv_iload_n hx hb d_law_639 rfl (lv_at hl 3 rfl) ?_
  refine lv_iconst (v := 1) hx hb d_law_640 (by decide) ?_
  refine lv_iadd hx hb d_law_641 ?_
  refine va_sld hx hb hsc hbl hbA hS1 h1 d_law_642 ?_
  refine zl_call (ad := adM) (sh := zshM) (N := 15) (Q' := fun r σ' => r = some (.int (c_lean a (xs (i + 1).toNatClampNeg)).1) ∧ WX σ' (c_lean a (xs (i + 1).toNatClampNeg)).2) hfv zshM_ok iM hx hb hml hown hts hK h0M aM hS1 hPM1 (mi := 217) rfl [.int (xs (i + 1).toNatClampNeg)] (M_lean hM (fun σ' h => ⟨rfl, h⟩)) (Nat.le_of_ble_eq_true rfl) rfl (by decide) (by decide) rfl (zg6 (List.mem_of_getElem? (i := 132) rfl) rfl) ⟨(Nat.le_of_ble_eq_true rfl), (Nat.le_of_ble_eq_true rfl)⟩ hl.1 (Nat.le_of_ble_eq_true rfl) d_law_643 rfl (fun r σM' H2 locs2 hq hPM2 hk2 hS2 => ?_) (Nat.le_refl _) (Nat.le_refl _)
  obtain ⟨rfl, hM1⟩ := hq
  have hPX2 := zl_keep hPX1 hk2 (fun i j g1 g2 e => hd j i g2 g1 e.symm)
  refine lv_icmp_eq (tgt := 1244) hx hb d_law_646 (by decide) (fun _ => ?_) (fun h => absurd rfl h)
  exact kk _ σX' σM' H2 locs2 hX1 hM1 hPX2 hPM2 hS2
set_option maxRecDepth 20000 in
set_option maxHeartbeats 4000000 in
theorem lc_then (C : zLC p l s m args c b L xs D cI adX adM fv) (hX : RX σX a) (hM : WX σM a) (hPX : va_P D vwCl (zW cI adX zshX 44 σX) H) (hPM : va_P D vwCl (zW cI adM zshM 15 σM) H) (hS : va_S (fun q : Nat => s.heap.size ≤ q) s.heap H locs) (hl : lv_has ls 4 [(0, .ref b), (1, .ref (adX 0)), (2, .ref (adM 0)), (3, .int i)]) (h1 : vp_in (i + 1) L) (h2 : vp_in (i + 2) L) (h3 : vp_in (i + 3) L) (kk : ∀ (a' : At) (σX' σM' : zG) (H' : Heap) (locs' : List Loc), RX σX' a' → WX σM' a' → va_P D vwCl (zW cI adX zshX 44 σX') H' → va_P D vwCl (zW cI adM zshM 15 σM') H' → va_S (fun q : Nat => s.heap.size ≤ q) s.heap H' locs' → W p l e room_1 s m args below meth c H' locs' 59 1154 Q (F0 m 1244 ls [])) : W p l e room_1 s m args below meth c H locs 59 1154 Q (F0 m 651 ls []) := by
  obtain ⟨hfv, iX, iM, hd, hx, hb, hml, hown, hts, hK, h0X, h0M, aX, aM, hsc, hbl⟩ := C
  have hbA : ¬ (fun q : Nat => s.heap.size ≤ q) b := Nat.not_le.mpr hbl
  refine lv_aload_n hx hb d_law_651 rfl (lv_at hl 1 rfl) ?_
  refine lv_aload_n hx hb d_law_652 rfl (lv_at hl 0 rfl) ?_
  refine lv_iload_n hx hb d_law_653 rfl (lv_at hl 3 rfl) ?_
  refine lv_iconst (v := 1) hx hb d_law_654 (by decide) ?_
  refine lv_iadd hx hb d_law_655 ?_
  refine va_sld hx hb hsc hbl hbA hS h1 d_law_656 ?_
  refine lv_aload_n hx hb d_law_657 rfl (lv_at hl 0 rfl) ?_
  refine lv_iload_n hx hb d_law_658 rfl (lv_at hl 3 rfl) ?_
  refine lv_iconst (v := 2) hx hb d_law_659 (by decide) ?_
  refine lv_iadd hx hb d_law_660 ?_
  refine va_sld hx hb hsc hbl hbA hS h2 d_law_661 ?_
  refine zl_call (ad := adX) (sh := zshX) (N := 44) (Q' := fun r σ' => r = some (.int (c_then a (xs (i + 1).toNatClampNeg) (xs (i + 2).toNatClampNeg)).1) ∧ RX σ' (c_then a (xs (i + 1).toNatClampNeg) (xs (i + 2).toNatClampNeg)).2) hfv zshX_ok iX hx hb hml hown hts hK h0X aX hS hPX (mi := 118) rfl [.int (xs (i + 1).toNatClampNeg), .int (xs (i + 2).toNatClampNeg)] (X_then hX (fun σ' h => ⟨rfl, h⟩)) (Nat.le_of_ble_eq_true rfl) rfl (by decide) (by decide) rfl (zg3 (List.mem_of_getElem? (i := 198) rfl) rfl) ⟨(Nat.le_of_ble_eq_true rfl), (Nat.le_of_ble_eq_true rfl)⟩ hl.1 (Nat.le_of_ble_eq_true rfl) d_law_662 rfl (fun r σX' H1 locs1 hq hPX1 hk hS1 => ?_) (Nat.le_refl _) (Nat.le_refl _)
  obtain ⟨rfl, hX1⟩ := hq
  have hPM1 := zl_keep hPM hk hd
  refine lv_aload_n hx hb d_law_665 rfl (lv_at hl 2 rfl) ?_
  refine lv_aload_n hx hb d_law_666 rfl (lv_at hl 0 rfl) ?_
  refine lv_iload_n hx hb d_law_667 rfl (lv_at hl 3 rfl) ?_
  refine lv_iconst (v := 1) hx hb d_law_668 (by decide) ?_
  refine lv_iadd hx hb d_law_669 ?_
  refine va_sld hx hb hsc hbl hbA hS1 h1 d_law_670 ?_
  refine lv_aload_n hx hb d_law_671 rfl (lv_at hl 0 rfl) ?_
  refine lv_iload_n hx hb d_law_672 rfl (lv_at hl 3 rfl) ?_
  refine lv_iconst (v := 2) hx hb d_law_673 (by decide) ?_
  refine lv_iadd hx hb d_law_674 ?_
  refine va_sld hx hb hsc hbl hbA hS1 h2 d_law_675 ?_
  refine zl_call (ad := adM) (sh := zshM) (N := 15) (Q' := fun r σ' => r = some (.int (c_then a (xs (i + 1).toNatClampNeg) (xs (i + 2).toNatClampNeg)).1) ∧ WX σ' (c_then a (xs (i + 1).toNatClampNeg) (xs (i + 2).toNatClampNeg)).2) hfv zshM_ok iM hx hb hml hown hts hK h0M aM hS1 hPM1 (mi := 218) rfl [.int (xs (i + 1).toNatClampNeg), .int (xs (i + 2).toNatClampNeg)] (M_then hM (fun σ' h => ⟨rfl, h⟩)) (Nat.le_of_ble_eq_true rfl) rfl (by decide) (by decide) rfl (zg6 (List.mem_of_getElem? (i := 136) rfl) rfl) ⟨(Nat.le_of_ble_eq_true rfl), (Nat.le_of_ble_eq_true rfl)⟩ hl.1 (Nat.le_of_ble_eq_true rfl) d_law_676 rfl (fun r σM' H2 locs2 hq hPM2 hk2 hS2 => ?_) (Nat.le_refl _) (Nat.le_refl _)
  obtain ⟨rfl, hM1⟩ := hq
  have hPX2 := zl_keep hPX1 hk2 (fun i j g1 g2 e => hd j i g2 g1 e.symm)
  refine lv_icmp_eq (tgt := 1244) hx hb d_law_679 (by decide) (fun _ => ?_) (fun h => absurd rfl h)
  exact kk _ σX' σM' H2 locs2 hX1 hM1 hPX2 hPM2 hS2
end
